/-! MY ROWS 30: calls that find the law's script; the law's own little methods (laid by a program of mine) -/
section ZG
variable {p : Program} {l : Launch} {e : Env} {R : Room} {s : State} {m : MethodId} {args : Array Value} {below : List Frame} {meth : Method} {c : Code} {H : Heap} {locs : List Loc} {cells slots : Nat} {Q : State → Prop}
variable {Ts : List Cond} {own : String} {nL : Nat} {cc : ByteArray} {pc : Nat} {ls : Array Slot} {rest : List Value} {D : va_G} {T : ClassId × ClassId × ClassId} {z0 : Nat} {L : List Nat} {f : Nat → va_E}
/-- a static call that reads, whatever it wants of its start -/
theorem p_csG {y : MethodName} {n : Nat} {ws ws' : List Cond} {d maxL index : Nat} {av st : List Value} {o : Option Value} {ret : Option FieldType} {bytes : ByteArray} {B : State → Prop}
    (hM : RV l y ws d B av o) (hbl : FrameBlind (va_Pc av B)) (hB : ∀ U : State, U.heap = H → s.WarmedH U.vm → B U) (hC : CallFix p m c cc nL s args Ts own) (hg : GoodIn Ts (va_wsS own index y ws)) (hw : ws = Cond.code y bytes maxL ret :: ws') (hd : y.cls ≠ "java/lang/invoke/MethodHandle" ∧ y.cls ≠ "java/lang/invoke/VarHandle" ∧ (parseMethodDescriptor y.desc).map (fun d => d.parameters.length) = some n) (hn : av.length = n)
    (hR : d + 1 ≤ R.frames ∧ 8 + (maxL + 11) + 60 * d ≤ R.locals) (hf : cells ≤ R.cells ∧ slots ≤ R.slots) (hsz : ls.size = nL) (hW : (rest.map fun v => v.category).sum ≤ 8) (hdg : decode cc pc = .ok (.invokestatic index, 3)) (hst : st = av.reverse ++ rest)
    (kk : W p l e R s m args below meth c H locs cells slots Q (F0 m (pc + 3) ls (o.toList ++ rest))) : W p l e R s m args below meth c H locs cells slots Q (F0 m pc ls st) := by
  subst hst
  exact p_go (y := y) (mc := 0) (ms := 0) (W.runS (As := av) (rest := rest) hC hM (va_cwS n hC.2.2.2.2 hg hw rfl rfl hd hR) ⟨hbl, fun U hU hW => ⟨rfl, hB U hU hW⟩⟩ rfl hn hsz rfl (lv_room hW) hdg ⟨hf.1, hf.2⟩) kk
theorem p_csGH {y : MethodName} {n : Nat} {ws ws' : List Cond} {d maxL mc ms index : Nat} {av st : List Value} {post : Option Value → List Nat → (Nat → va_E) → Prop} {ret : Option FieldType} {bytes : ByteArray} {B : State → Prop}
    (hM : HV l y ws d mc ms D z0 B av post) (hbl : FrameBlind (va_Pc av B)) (hB : ∀ U : State, U.heap = H → s.WarmedH U.vm → B U) (hC : CallFix p m c cc nL s args Ts own) (hS : va_S (zA z0) s.heap H locs) (hg : GoodIn Ts (va_wsS own index y ws)) (hw : ws = Cond.code y bytes maxL ret :: ws') (hd : y.cls ≠ "java/lang/invoke/MethodHandle" ∧ y.cls ≠ "java/lang/invoke/VarHandle" ∧ (parseMethodDescriptor y.desc).map (fun d => d.parameters.length) = some n) (hn : av.length = n)
    (hR : d + 1 ≤ R.frames ∧ 8 + (maxL + 11) + 60 * d ≤ R.locals) (hf : cells + mc ≤ R.cells ∧ slots + ms ≤ R.slots) (hsz : ls.size = nL) (hW : (rest.map fun v => v.category).sum ≤ 8) (hdg : decode cc pc = .ok (.invokestatic index, 3)) (hst : st = av.reverse ++ rest)
    (kk : ∀ (o : Option Value) (L1 : List Nat) (f1 : Nat → va_E) (H1 : Heap) (locs1 : List Loc), post o L1 f1 → va_P D vwCl (va_pl L1 f1) H1 → va_D (zA z0) (va_pl L1 f1) → va_S (zA z0) s.heap H1 locs1 → W p l e R s m args below meth c H1 locs1 (cells + mc) (slots + ms) Q (F0 m (pc + 3) ls (o.toList ++ rest))) : W p l e R s m args below meth c H locs cells slots Q (F0 m pc ls st) := by
  subst hst
  exact p_goH (va_runS (As := av) (rest := rest) hC hM (va_cwS n hC.2.2.2.2 hg hw rfl rfl hd hR) ⟨hbl, fun U hU hW => ⟨rfl, hB U hU hW⟩⟩ rfl hn hsz rfl (lv_room hW) hdg hf) hS kk
/-- the script at sc -/
def sX (sc Ln : Nat) (xs : Nat → Int32) (U : State) : Prop := va_X sc Ln xs U U.heap
theorem sX.blind {sc Ln : Nat} {xs : Nat → Int32} {av : List Value} : FrameBlind (va_Pc av (sX sc Ln xs)) := by
  intro a U g mk h
  obtain ⟨h1, h2⟩ := h
  exact ⟨h1, va_X.moved (u := U) (U := U.calling g mk a) (Vm.Alike.refl U.vm) h2⟩
theorem sX.pass {sc Ln : Nat} {xs : Nat → Int32} (hxs : va_X sc Ln xs s s.heap) (hsz : ¬ zA z0 sc) (hS : va_S (zA z0) s.heap H locs) (U : State) (hU : U.heap = H) (hW : s.WarmedH U.vm) : sX sc Ln xs U := by
  have hsl : sc < s.heap.size := by
    obtain ⟨scr, h1, -⟩ := hxs
    exact (Array.getElem?_eq_some_iff.mp h1).1
  unfold sX
  rw [hU]
  exact (hxs.moved hW.alike).kept (hS.2.1 sc hsl hsz)
def zPreX (D : va_G) (T : ClassId × ClassId × ClassId) (z0 : Nat) (L : List Nat) (f : Nat → va_E) (sc Ln : Nat) (xs : Nat → Int32) (U : State) : Prop := zPre D T z0 L f U ∧ sX sc Ln xs U
theorem zPreX.blind {sc Ln : Nat} {xs : Nat → Int32} {av : List Value} : FrameBlind (va_Pc av (zPreX D T z0 L f sc Ln xs)) := by
  intro a U g mk h
  obtain ⟨h1, h2, h3⟩ := h
  exact ⟨h1, (zPre.blind (av := av) a U g mk ⟨h1, h2⟩).2, (sX.blind (av := av) a U g mk ⟨h1, h3⟩).2⟩
theorem zPreX.pass {sc Ln : Nat} {xs : Nat → Int32} (hE : zE D T z0 s) (hP : va_P D vwCl (va_pl L f) H) (hD : va_D (zA z0) (va_pl L f)) (hS : va_S (zA z0) s.heap H locs) (hxs : va_X sc Ln xs s s.heap) (hsz : ¬ zA z0 sc) (U : State) (hU : U.heap = H) (hW : s.WarmedH U.vm) : zPreX D T z0 L f sc Ln xs U :=
  ⟨(zPre.pass (av := []) hE hP hD hS U hU hW).2, sX.pass hxs hsz hS U hU hW⟩
end ZG
def cellv (xs : Nat → Int32) (Ln k : Nat) : Int32 := if k < Ln then xs k else 461243603 * nI (k + 3)
def blw (x : Int32) (n : Nat) : Nat := x.toBitVec.toNat % 2 ^ 31 % n
theorem blw_lt (x : Int32) {n : Nat} (h : 0 < n) : blw x n < n := Nat.mod_lt _ h
theorem and_max (x : Int32) : x &&& 2147483647 = nI (x.toBitVec.toNat % 2 ^ 31) := by
  apply Int32.toBitVec_inj.mp
  rw [Int32.toBitVec_and]
  apply BitVec.eq_of_toNat_eq
  have e1 : (2147483647 : Int32).toBitVec.toNat = 2 ^ 31 - 1 := by decide +kernel
  have h1 : x.toBitVec.toNat % 2 ^ 31 < 2 ^ 31 := Nat.mod_lt _ (by decide)
  have e2 : (nI (x.toBitVec.toNat % 2 ^ 31)).toBitVec.toNat = x.toBitVec.toNat % 2 ^ 31 := by
    show (BitVec.ofNat 32 (x.toBitVec.toNat % 2 ^ 31)).toNat = _
    rw [BitVec.toNat_ofNat]
    exact Nat.mod_eq_of_lt (Nat.lt_trans h1 (by decide))
  rw [BitVec.toNat_and, e1, e2]
  exact Nat.and_two_pow_sub_one_eq_mod _ 31
theorem wset_s (wd : Nat → List Nat) (w : Nat) (l : List Nat) : wset wd w l w = l := if_pos rfl
theorem wset_w (wd : Nat → List Nat) (w : Nat) (l l2 : List Nat) : wset (wset wd w l) w l2 = wset wd w l2 := by
  funext v
  unfold wset
  by_cases h : v = w
  · rw [if_pos h, if_pos h]
  · rw [if_neg h, if_neg h, if_neg h]
theorem wset_i {wd : Nat → List Nat} {w : Nat} {l : List Nat} (h : wd w = l) : wset wd w l = wd := by
  funext v
  unfold wset
  by_cases e : v = w
  · rw [if_pos e, e, h]
  · rw [if_neg e]
theorem take_s {l : List Nat} {k : Nat} (h : k < l.length) : l.take k ++ [l.getD k 0] = l.take (k + 1) := by
  rw [List.take_add_one, List.getElem?_eq_getElem h, List.getD_eq_getElem?_getD, List.getElem?_eq_getElem h]
  rfl

set_option maxHeartbeats 4000000 in
set_option maxRecDepth 100000 in
theorem k_below (l : Launch) (x : Int32) {n : Nat} (h0 : 0 < n) (hn : n < 2 ^ 31) : RV l yL_below wsL_below 1 zNo [.int x, .int (nI n)] (some (.int (nI (blw x n)))) := by
  refine RV.of (cc := cL_below) (maxL := 2) (ret := (some .int)) (by decide) rfl (Nat.le_of_ble_eq_true rfl) ?_
  intro p e s m args below meth c hC hr hlk hB ls hl
  have hl : lv_has ls 2 [(0, .int x), (1, .int (nI n))] := hl
  refine lv_iload_n hC.1 hC.2.1 dL_below_0 rfl (lv_at hl 0 rfl) ?_
  refine lv_ldc (v := 2147483647) hC.1 hC.2.1 hC.2.2.2.1 (hC.2.2.2.2 (.constant RL 7 (2147483647)) (by decide +kernel)) dL_below_1 ?_
  refine lv_iand hC.1 hC.2.1 dL_below_3 ?_
  refine q_i (nI (x.toBitVec.toNat % 2 ^ 31)) (and_max x) ?_
  refine lv_iload_n hC.1 hC.2.1 dL_below_4 rfl (lv_at hl 1 rfl) ?_
  refine z_irem hC dL_below_5 (Nat.mod_lt _ (by decide)) h0 hn ?_
  exact RV.iret hC hr hlk dL_below_6 (rfl)

theorem k_belowE (l : Launch) (x : Int32) {n : Nat} (h0 : 0 < n) (hn : n < 2 ^ 31) : ∃ a, a < n ∧ RV l yL_below wsL_below 1 zNo [.int x, .int (nI n)] (some (.int (nI a))) := ⟨_, blw_lt x h0, k_below l x h0 hn⟩
set_option maxHeartbeats 4000000 in
set_option maxRecDepth 100000 in
theorem k_cell (l : Launch) {sc Ln : Nat} {xs : Nat → Int32} (hLn : Ln ≤ 260) {k : Nat} (hk : k < 2 ^ 31) : RV l yL_cell wsL_cell 1 (sX sc Ln xs) [.ref sc, .int (nI k)] (some (.int (cellv xs Ln k))) := by
  refine RV.of (cc := cL_cell) (maxL := 2) (ret := (some .int)) (by decide) rfl (Nat.le_of_ble_eq_true rfl) ?_
  intro p e s m args below meth c hC hr hlk hB ls hl
  have hl : lv_has ls 2 [(0, .ref sc), (1, .int (nI k))] := hl
  have hxs : va_X sc Ln xs s s.heap := hB
  have hsl : sc < s.heap.size := by
    obtain ⟨scr, h1, -⟩ := id hxs
    exact (Array.getElem?_eq_some_iff.mp h1).1
  have hsz : ¬ (fun _ : Nat => False) sc := fun q => q
  have hS : va_S (fun _ => False) s.heap s.heap [] := va_S.rf
  refine lv_iload_n hC.1 hC.2.1 dL_cell_0 rfl (lv_at hl 1 rfl) ?_
  refine lv_aload_n hC.1 hC.2.1 dL_cell_1 rfl (lv_at hl 0 rfl) ?_
  refine va_slen hC.1 hC.2.1 hxs hsl hsz hS dL_cell_2 ?_
  refine z_icmp_ge (tgt := 12) hC dL_cell_3 (by decide) (by omega) (by omega) (fun h_3 => ?_) (fun h_3 => ?_)
  · refine lv_ldc (v := 461243603) hC.1 hC.2.1 hC.2.2.2.1 (hC.2.2.2.2 (.constant RL 8 (461243603)) (by decide +kernel)) dL_cell_12 ?_
    refine lv_iload_n hC.1 hC.2.1 dL_cell_14 rfl (lv_at hl 1 rfl) ?_
    refine lv_iconst (v := (nI 3)) hC.1 hC.2.1 dL_cell_15 (by decide) ?_
    refine z_iadd hC dL_cell_16 ?_
    refine lv_imul hC.1 hC.2.1 dL_cell_17 ?_
    exact RV.iret hC hr hlk dL_cell_18 ((if_neg (by omega)).symm)
  · refine lv_aload_n hC.1 hC.2.1 dL_cell_6 rfl (lv_at hl 0 rfl) ?_
    refine lv_iload_n hC.1 hC.2.1 dL_cell_7 rfl (lv_at hl 1 rfl) ?_
    refine va_sld hC.1 hC.2.1 hxs hsl hsz hS (vp_in_nI h_3 (by omega)) dL_cell_8 ?_
    rw [nI_clamp (by omega : k < 2 ^ 31)]
    refine lv_goto (tgt := 18) hC.1 hC.2.1 dL_cell_9 (by decide) ?_
    exact RV.iret hC hr hlk dL_cell_18 ((if_pos h_3).symm)

/-- what wordOf leaves: a new row that holds a word -/
def WP (T : ClassId × ClassId × ClassId) (L : List Nat) (f : Nat → va_E) : Option Value → List Nat → (Nat → va_E) → Prop := fun o L' f' => ∃ (q : Nat) (g : Nat → Int32) (lw : List Nat), o = some (.ref q) ∧ q ∉ L ∧ L' = L ++ [q] ∧ f' q = eI T.1 lw.length g ∧ (∀ a, a ∈ L → f' a = f a) ∧ lw.length ≤ 12 ∧ ∀ k, k < lw.length → g k = nI (lw.getD k 0) ∧ lw.getD k 0 < 9
theorem WP.of {T : ClassId × ClassId × ClassId} {L : List Nat} {f f1 : Nat → va_E} {q n : Nat} {g : Nat → Int32} (hq : q ∉ L) (hn : n ≤ 12) (h1 : f1 q = eI T.1 n g) (h2 : ∀ a, a ∈ L → f1 a = f a) (h3 : ∀ k, k < n → ∃ v, v < 9 ∧ g k = nI v) : WP T L f (some (.ref q)) (L ++ [q]) f1 := by
  have hex : ∃ V : Nat → Nat, ∀ k, k < n → V k < 9 ∧ g k = nI (V k) := ⟨fun k => if h : k < n then (h3 k h).choose else 0, fun k hk => by simp only [dif_pos hk]; exact (h3 k hk).choose_spec⟩
  obtain ⟨V, hV⟩ := hex
  have hlen : ((List.range n).map V).length = n := by rw [List.length_map, List.length_range]
  refine ⟨q, g, (List.range n).map V, rfl, hq, rfl, by rw [hlen]; exact h1, h2, by rw [hlen]; exact hn, fun k hk => ?_⟩
  rw [hlen] at hk
  have e : ((List.range n).map V).getD k 0 = V k := by
    rw [List.getD_eq_getElem?_getD, List.getElem?_map, List.getElem?_range hk]
    rfl
  rw [e]
  exact ⟨(hV k hk).2, (hV k hk).1⟩
set_option maxHeartbeats 4000000 in
set_option maxRecDepth 100000 in
theorem k_wordOf (l : Launch) {D : va_G} {T : ClassId × ClassId × ClassId} {z0 : Nat} {L : List Nat} {f : Nat → va_E} {sc Ln : Nat} {xs : Nat → Int32} (hLn : Ln ≤ 260) (hsz : ¬ zA z0 sc) {w : Nat} (hw : w < 5) : HV l yL_wordOf wsL_wordOf 2 1 12 D z0 (zPreX D T z0 L f sc Ln xs) [.ref sc, .int (nI w)] (WP T L f) := by
  refine HV.of (cc := cL_wordOf) (maxL := 4) (ret := (some (.array .int))) (by decide) rfl (Nat.le_of_ble_eq_true rfl) ?_
  intro p e s m args below meth c hC hr hlk hin hB ls hl
  have hl : lv_has ls 4 [(0, .ref sc), (1, .int (nI w))] := hl
  obtain ⟨⟨hE, hP, hD⟩, hxs⟩ := hB
  have hxs : va_X sc Ln xs s s.heap := hxs
  have hS : va_S (zA z0) s.heap s.heap [] := va_S.rf
  obtain ⟨n, hn, kn⟩ := k_belowE l (cellv xs Ln w) (n := 13) (by decide) (by decide)
  refine lv_aload_n hC.1 hC.2.1 dL_wordOf_0 rfl (lv_at hl 0 rfl) ?_
  refine lv_iload_n hC.1 hC.2.1 dL_wordOf_1 rfl (lv_at hl 1 rfl) ?_
  refine p_csG (n := 2) (k_cell l hLn (k := w) (by omega)) sX.blind (fun U hU hW => sX.pass hxs hsz hS U hU hW) hC gL_wordOf_L_cell rfl (by decide +kernel) rfl ⟨by simp only [rD]; omega, by simp only [rD]; omega⟩ ⟨by simp only [rD]; omega, by simp only [rD]; omega⟩ hl.1 (Nat.le_of_ble_eq_true rfl) dL_wordOf_2 rfl ?_
  refine lv_bipush (v := (nI 13)) hC.1 hC.2.1 dL_wordOf_5 (by decide) ?_
  refine p_cs (n := 2) (kn) hC gL_wordOf_L_below rfl (by decide +kernel) rfl ⟨by simp only [rD]; omega, by simp only [rD]; omega⟩ ⟨by simp only [rD]; omega, by simp only [rD]; omega⟩ hl.1 (Nat.le_of_ble_eq_true rfl) dL_wordOf_7 rfl ?_
  refine p_newI hC hE hP hD hS (by decide +kernel) (by omega) (by simp only [rD]; omega) (by simp only [rD]; omega) dL_wordOf_10 (fun q H hq hP hD hS => ?_)
  refine lv_astore_n (lv' := [(2, .ref q), (0, .ref sc), (1, .int (nI w))]) hC.1 hC.2.1 dL_wordOf_12 rfl hl (by decide) rfl (fun ls hl => ?_)
  refine lv_iconst (v := (nI 0)) hC.1 hC.2.1 dL_wordOf_13 (by decide) ?_
  refine lv_istore_n (lv' := [(3, .int (nI 0)), (2, .ref q), (0, .ref sc), (1, .int (nI w))]) hC.1 hC.2.1 dL_wordOf_14 rfl hl (by decide) rfl (fun ls hl => ?_)
  have loop : ∀ (r k : Nat) (gk : Nat → Int32) (f1 : Nat → va_E) (H : Heap) (locs : List Loc), k + r = n → f1 q = eI T.1 n gk → (∀ a, a ∈ L → f1 a = f a) → (∀ j, j < k → ∃ v, v < 9 ∧ gk j = nI v) → va_P D vwCl (va_pl (L ++ [q]) f1) H → va_D (zA z0) (va_pl (L ++ [q]) f1) → va_S (zA z0) s.heap H locs → ∀ ls : Array Slot, lv_has ls 4 [(0, .ref sc), (1, .int (nI w)), (2, .ref q), (3, .int (nI k))] → W p l e (rD 2 1 12) s m args below meth c H locs (0 + 1) (0 + n) (MQ below (HVQ D z0 (WP T L f)) args s 1 12 (zA z0)) (F0 m 15 ls []) := by
    intro r
    induction r with
    | zero =>
      intro k gk f1 H locs hk hq1 hq2 hq3 hP hD hS ls hl
      have hke : k = n := by omega
      refine lv_iload_n hC.1 hC.2.1 dL_wordOf_15 rfl (lv_at hl 3 rfl) ?_
      refine lv_aload_n hC.1 hC.2.1 dL_wordOf_16 rfl (lv_at hl 2 rfl) ?_
      refine p_alen hC hE hP (List.mem_append_right _ (List.mem_singleton.mpr rfl)) hq1 dL_wordOf_17 ?_
      refine z_icmp_ge (tgt := 49) hC dL_wordOf_18 (by decide) (by omega) (by omega) (fun h_18 => ?_) (fun h_18 => by omega)
      refine lv_aload_n hC.1 hC.2.1 dL_wordOf_49 rfl (lv_at hl 2 rfl) ?_
      exact HV.aret hC hr hlk hP hD hS (by omega) (by omega) dL_wordOf_50 (WP.of hq (by omega) hq1 hq2 (fun j hj => hq3 j (by omega)))
    | succ r ih =>
      intro k gk f1 H locs hk hq1 hq2 hq3 hP hD hS ls hl
      obtain ⟨v, hv, kv⟩ := k_belowE l (cellv xs Ln (5 + (w + k) % 11) >>> (nI k &&& 31)) (n := 9) (by decide) (by decide)
      refine lv_iload_n hC.1 hC.2.1 dL_wordOf_15 rfl (lv_at hl 3 rfl) ?_
      refine lv_aload_n hC.1 hC.2.1 dL_wordOf_16 rfl (lv_at hl 2 rfl) ?_
      refine p_alen hC hE hP (List.mem_append_right _ (List.mem_singleton.mpr rfl)) hq1 dL_wordOf_17 ?_
      refine z_icmp_ge (tgt := 49) hC dL_wordOf_18 (by decide) (by omega) (by omega) (fun h_18 => by omega) (fun h_18 => ?_)
      refine lv_aload_n hC.1 hC.2.1 dL_wordOf_21 rfl (lv_at hl 2 rfl) ?_
      refine lv_iload_n hC.1 hC.2.1 dL_wordOf_22 rfl (lv_at hl 3 rfl) ?_
      refine lv_aload_n hC.1 hC.2.1 dL_wordOf_23 rfl (lv_at hl 0 rfl) ?_
      refine lv_iconst (v := (nI 5)) hC.1 hC.2.1 dL_wordOf_24 (by decide) ?_
      refine lv_iload_n hC.1 hC.2.1 dL_wordOf_25 rfl (lv_at hl 1 rfl) ?_
      refine lv_iload_n hC.1 hC.2.1 dL_wordOf_26 rfl (lv_at hl 3 rfl) ?_
      refine z_iadd hC dL_wordOf_27 ?_
      refine lv_bipush (v := (nI 11)) hC.1 hC.2.1 dL_wordOf_28 (by decide) ?_
      refine z_irem hC dL_wordOf_30 (by omega) (by decide) (by decide) ?_
      refine z_iadd hC dL_wordOf_31 ?_
      refine p_csG (n := 2) (k_cell l hLn (k := 5 + (w + k) % 11) (by omega)) sX.blind (fun U hU hW => sX.pass hxs hsz hS U hU hW) hC gL_wordOf_L_cell rfl (by decide +kernel) rfl ⟨by simp only [rD]; omega, by simp only [rD]; omega⟩ ⟨by simp only [rD]; omega, by simp only [rD]; omega⟩ hl.1 (Nat.le_of_ble_eq_true rfl) dL_wordOf_32 rfl ?_
      refine lv_iload_n hC.1 hC.2.1 dL_wordOf_35 rfl (lv_at hl 3 rfl) ?_
      refine lv_ishr hC.1 hC.2.1 dL_wordOf_36 ?_
      refine lv_bipush (v := (nI 9)) hC.1 hC.2.1 dL_wordOf_37 (by decide) ?_
      refine p_cs (n := 2) (kv) hC gL_wordOf_L_below rfl (by decide +kernel) rfl ⟨by simp only [rD]; omega, by simp only [rD]; omega⟩ ⟨by simp only [rD]; omega, by simp only [rD]; omega⟩ hl.1 (Nat.le_of_ble_eq_true rfl) dL_wordOf_39 rfl ?_
      refine p_iast hC hE hP hD hS (List.mem_append_right _ (List.mem_singleton.mpr rfl)) hq1 (by omega) (by omega) dL_wordOf_42 (fun H locs hP hD hS => ?_)
      have hq1 : (va_up f1 q (eI T.1 n (upd gk k (nI v)))) q = eI T.1 n (upd gk k (nI v)) := va_up_self _ _ _
      have hq2 : ∀ a, a ∈ L → (va_up f1 q (eI T.1 n (upd gk k (nI v)))) a = f a := fun a ha => (va_up_ne _ _ (fun e : a = q => hq (e ▸ ha))).trans (hq2 a ha)
      have hq3 : ∀ j, j < k + 1 → ∃ y, y < 9 ∧ upd gk k (nI v) j = nI y := fun j hj => by
        by_cases e : j = k
        · subst e; exact ⟨v, hv, upd_s⟩
        · rw [upd_n e]; exact hq3 j (by omega)
      refine lv_iinc (v := nI (k + 1)) (lv' := [(3, .int (nI (k + 1))), (0, .ref sc), (1, .int (nI w)), (2, .ref q)]) hC.1 hC.2.1 dL_wordOf_43 hl (k := 3) rfl (z_inc _) (by decide) rfl (fun ls hl => ?_)
      refine lv_goto (tgt := 15) hC.1 hC.2.1 dL_wordOf_46 (by decide) ?_
      exact ih (k + 1) _ _ _ _ (by omega) hq1 hq2 hq3 hP hD hS ls (lv_sub hl [1, 2, 3, 0] rfl)
  exact loop n 0 _ _ _ _ (Nat.zero_add _) (va_up_self _ _ _) (fun a ha => va_up_ne _ _ (fun e : a = q => hq (e ▸ ha))) (fun j hj => absurd hj (Nat.not_lt_zero j)) hP hD hS ls (lv_sub hl [2, 3, 1, 0] rfl)

set_option maxHeartbeats 4000000 in
set_option maxRecDepth 100000 in
theorem k_sayW (l : Launch) {D : va_G} {T : ClassId × ClassId × ClassId} {z0 : Nat} {L : List Nat} {f : Nat → va_E} {hx g ln : Nat} {rw : Nat → Nat} {b : Nat → Nat} {mk : Int32} {wd : Nat → List Nat} (hX : CX T L f hx g ln rw b mk wd) {w q : Nat} (hw : w < 5) (hemp : wd w = []) {lw : List Nat} {gq : Nat → Int32} (hq : q ∈ L) (hfq : f q = eI T.1 lw.length gq) (hn1 : q ≠ hx) (hn2 : q ≠ ln) (hn3 : ∀ v, v < 5 → q ≠ rw v) (h12 : lw.length ≤ 12) (h9 : ∀ k, k < lw.length → gq k = nI (lw.getD k 0) ∧ lw.getD k 0 < 9) : HV l yL_say wsL_say 8 0 0 D z0 (zPre D T z0 L f) [.ref hx, .int (nI w), .ref q] (fun o L' f' => o = some (.int (nI 1)) ∧ L' = L ∧ CX T L f' hx g ln rw b mk (wset wd w lw)) := by
  refine HV.of (cc := cL_say) (maxL := 4) (ret := (some .boolean)) (by decide) rfl (Nat.le_of_ble_eq_true rfl) ?_
  intro p e s m args below meth c hC hr hlk hin hB ls hl
  have hl : lv_has ls 4 [(0, .ref hx), (1, .int (nI w)), (2, .ref q)] := hl
  obtain ⟨hE, hP, hD⟩ := hB
  have hS : va_S (zA z0) s.heap s.heap [] := va_S.rf
  refine lv_iconst (v := (nI 0)) hC.1 hC.2.1 dL_say_0 (by decide) ?_
  refine lv_istore_n (lv' := [(3, .int (nI 0)), (0, .ref hx), (1, .int (nI w)), (2, .ref q)]) hC.1 hC.2.1 dL_say_1 rfl hl (by decide) rfl (fun ls hl => ?_)
  have loop : ∀ (r k : Nat) (f1 : Nat → va_E) (H : Heap) (locs : List Loc), k + r = lw.length → CX T L f1 hx g ln rw b mk (wset wd w (lw.take k)) → f1 q = eI T.1 lw.length gq → va_P D vwCl (va_pl L f1) H → va_D (zA z0) (va_pl L f1) → va_S (zA z0) s.heap H locs → ∀ ls : Array Slot, lv_has ls 4 [(0, .ref hx), (1, .int (nI w)), (2, .ref q), (3, .int (nI k))] → W p l e (rD 8 0 0) s m args below meth c H locs 0 0 (MQ below (HVQ D z0 (fun o L' f' => o = some (.int (nI 1)) ∧ L' = L ∧ CX T L f' hx g ln rw b mk (wset wd w lw))) args s 0 0 (zA z0)) (F0 m 2 ls []) := by
    intro r
    induction r with
    | zero =>
      intro k f1 H locs hk hX1 hq1 hP hD hS ls hl
      have hke : k = lw.length := by omega
      refine lv_iload_n hC.1 hC.2.1 dL_say_2 rfl (lv_at hl 3 rfl) ?_
      refine lv_aload_n hC.1 hC.2.1 dL_say_3 rfl (lv_at hl 2 rfl) ?_
      refine p_alen hC hE hP hq hq1 dL_say_4 ?_
      refine z_icmp_ge (tgt := 39) hC dL_say_5 (by decide) (by omega) (by omega) (fun h_5 => ?_) (fun h_5 => by omega)
      refine lv_iconst (v := (nI 1)) hC.1 hC.2.1 dL_say_39 (by decide) ?_
      exact HV.zret hC hr hlk hP hD hS (by omega) (by omega) dL_say_40 (Or.inr rfl) (⟨rfl, rfl, by rw [hke, List.take_length] at hX1; exact hX1⟩)
    | succ r ih =>
      intro k f1 H locs hk hX1 hq1 hP hD hS ls hl
      have hkl : k < lw.length := by omega
      have ht := (h9 k hkl).2
      have hlen : (wset wd w (lw.take k) w).length = k := by rw [wset_s, List.length_take]; omega
      have hnx : wset (wset wd w (lw.take k)) w (wset wd w (lw.take k) w ++ [3 * (lw.getD k 0 / 3) + (lw.getD k 0 % 3 + 1) - 1]) = wset wd w (lw.take (k + 1)) := by rw [wset_w, wset_s, show 3 * (lw.getD k 0 / 3) + (lw.getD k 0 % 3 + 1) - 1 = lw.getD k 0 from by omega, take_s hkl]
      refine lv_iload_n hC.1 hC.2.1 dL_say_2 rfl (lv_at hl 3 rfl) ?_
      refine lv_aload_n hC.1 hC.2.1 dL_say_3 rfl (lv_at hl 2 rfl) ?_
      refine p_alen hC hE hP hq hq1 dL_say_4 ?_
      refine z_icmp_ge (tgt := 39) hC dL_say_5 (by decide) (by omega) (by omega) (fun h_5 => by omega) (fun h_5 => ?_)
      refine lv_aload_n hC.1 hC.2.1 dL_say_8 rfl (lv_at hl 0 rfl) ?_
      refine lv_iload_n hC.1 hC.2.1 dL_say_9 rfl (lv_at hl 1 rfl) ?_
      refine lv_aload_n hC.1 hC.2.1 dL_say_10 rfl (lv_at hl 2 rfl) ?_
      refine lv_iload_n hC.1 hC.2.1 dL_say_11 rfl (lv_at hl 3 rfl) ?_
      refine p_iald hC hE hP hq hq1 (by omega) (by omega) dL_say_12 ?_
      refine q_i (nI (lw.getD k 0)) ((h9 k (by omega)).1) ?_
      refine lv_iconst (v := (nI 3)) hC.1 hC.2.1 dL_say_13 (by decide) ?_
      refine z_idiv hC dL_say_14 (by omega) (by decide) (by decide) ?_
      refine lv_aload_n hC.1 hC.2.1 dL_say_15 rfl (lv_at hl 2 rfl) ?_
      refine lv_iload_n hC.1 hC.2.1 dL_say_16 rfl (lv_at hl 3 rfl) ?_
      refine p_iald hC hE hP hq hq1 (by omega) (by omega) dL_say_17 ?_
      refine q_i (nI (lw.getD k 0)) ((h9 k (by omega)).1) ?_
      refine lv_iconst (v := (nI 3)) hC.1 hC.2.1 dL_say_18 (by decide) ?_
      refine z_irem hC dL_say_19 (by omega) (by decide) (by decide) ?_
      refine lv_iconst (v := (nI 1)) hC.1 hC.2.1 dL_say_20 (by decide) ?_
      refine z_iadd hC dL_say_21 ?_
      refine p_cvH (n := 3) (k_say l hX1 (w := w) (fc := lw.getD k 0 / 3) (q := lw.getD k 0 % 3 + 1) hw (by omega) (by omega) (by omega) (by rw [hlen]; omega)) hC hE hP hD hS (hX1.1.1) (hX1.1.2) rfl gL_say_X0_say rfl (by decide +kernel) rfl ⟨by decide, by decide⟩ ⟨Nat.zero_le _, Nat.zero_le _⟩ hl.1 (Nat.le_of_ble_eq_true rfl) dL_say_22 rfl (fun o L2 f2 H locs hpost hP hD hS => ?_)
      obtain ⟨rfl, hLe, hX2, hFR⟩ := hpost
      rw [hLe] at hP hD
      rw [hnx] at hX2
      have hq1 := (hFR q hn1 hn2 hn3).trans hq1
      refine q_i (nI (k + 1)) (congrArg nI (congrArg (· + 1) hlen)) ?_
      refine lv_iload_n hC.1 hC.2.1 dL_say_25 rfl (lv_at hl 3 rfl) ?_
      refine lv_iconst (v := (nI 1)) hC.1 hC.2.1 dL_say_26 (by decide) ?_
      refine z_iadd hC dL_say_27 ?_
      refine z_icmp_eq (tgt := 33) hC dL_say_28 (by decide) (by omega) (by omega) (fun h_28 => ?_) (fun h_28 => by omega)
      refine lv_iinc (v := nI (k + 1)) (lv' := [(3, .int (nI (k + 1))), (0, .ref hx), (1, .int (nI w)), (2, .ref q)]) hC.1 hC.2.1 dL_say_33 hl (k := 3) rfl (z_inc _) (by decide) rfl (fun ls hl => ?_)
      refine lv_goto (tgt := 2) hC.1 hC.2.1 dL_say_36 (by decide) ?_
      exact ih (k + 1) _ _ _ (by omega) hX2 hq1 hP hD hS ls (lv_sub hl [1, 2, 3, 0] rfl)
  exact loop lw.length 0 _ _ _ (Nat.zero_add _) (by rw [List.take_zero, wset_i hemp]; exact hX) hfq hP hD hS ls (lv_sub hl [1, 2, 3, 0] rfl)
