/-! MY ROWS 17: the reference's methods over rows of sixteen, on (laid by a program of mine) -/
def AQ (T : ClassId × ClassId × ClassId) (L : List Nat) (f : Nat → va_E) (b : Nat → Nat) (q : Nat) (L' : List Nat) (f' : Nat → va_E) : Prop := q ∉ L ∧ q ∈ L' ∧ (∀ a, a ∈ L → a ∈ L' ∧ f' a = f a) ∧ ∃ g, f' q = eI T.1 16 g ∧ Rp g b
theorem AP.get {T : ClassId × ClassId × ClassId} {L L' : List Nat} {f f' : Nat → va_E} {b : Nat → Nat} {o : Option Value} (h : AP T L f b o L' f') : ∃ q, o = some (.ref q) ∧ AQ T L f b q L' f' := h
theorem AQ.on {T : ClassId × ClassId × ClassId} {L L1 L2 : List Nat} {f f1 f2 : Nat → va_E} {b c : Nat → Nat} {q y : Nat} (h1 : AQ T L f b y L1 f1) (h2 : AQ T L1 f1 c q L2 f2) : AQ T L f c q L2 f2 :=
  ⟨fun h => h2.1 (h1.2.2.1 q h).1, h2.2.1, fun a ha => ⟨(h2.2.2.1 a (h1.2.2.1 a ha).1).1, (h2.2.2.1 a (h1.2.2.1 a ha).1).2.trans (h1.2.2.1 a ha).2⟩, h2.2.2.2⟩
theorem Rp.cong {g : Nat → Int32} {a b : Nat → Nat} (h : Rp g a) (e : ∀ i, i < 8 → a i = b i) : Rp g b := fun i hi => by rw [← e i hi]; exact h i hi
section ZT
variable {p : Program} {l : Launch} {e : Env} {R : Room} {s : State} {m : MethodId} {args : Array Value} {below : List Frame} {meth : Method} {c : Code} {H : Heap} {locs : List Loc} {cells slots : Nat} {Q : State → Prop}
variable {cc : ByteArray} {pc t N : Nat} {f : Nat → Value} {ls : Array Slot} {rest : List Value} {A : Nat → Prop}
theorem z_taa (hexec : p.tables.exec = Jvm.exec) (hb : c.code = cc) (hT : va_T (.array .int) t N f A s s.heap) (hS : va_S A s.heap H locs) {i : Int32} (hin : vp_in i N) {v : Value} (hv : f i.toNatClampNeg = v) (hdg : decode cc pc = .ok (.aaload, 1))
    (kk : W p l e R s m args below meth c H locs cells slots Q (F0 m (pc + 1) ls (v :: rest))) : W p l e R s m args below meth c H locs cells slots Q (F0 m pc ls (.int i :: .ref t :: rest)) := by
  obtain ⟨cell, h1, h2, h3, h4, h5, h6, h7⟩ := hT
  have hlt : i.toNatClampNeg < N := Nat.not_le.mp fun q => hin (Or.inr q)
  have hin' : ¬ (i < 0 ∨ cell.slots.size ≤ i.toNatClampNeg) := by
    intro q
    rcases q with q | q
    · exact hin (Or.inl q)
    · omega
  exact W.aald (v := v) (ty := .array .int) hexec hb (by rw [hS.2.1 t (Array.getElem?_eq_some_iff.mp h1).1 h7]; exact h1) h2 rfl h3 hin' (by rw [h6 _ hlt, hv]) rfl rfl hdg kk
end ZT
/-- what brings all back -/
def bkN (b : Nat → Nat) : Nat → (Nat → Nat)
  | 0 => fun _ => 0
  | k + 1 => fun i => if i = b k % 8 then k + 8 * ((3 - b k / 8) % 3) else bkN b k i
def iv (b : Nat → Nat) : Nat → Nat := bkN b 8
theorem zr_lt : ∀ f, f < 3 → ∀ k, k < 4 → zRing f k < 8 ∧ zMore f k < 3 := by decide
theorem gs_one : ∀ f, f < 3 → ∀ i, i < 8 → gs one (zRing f) (zMore f) 4 i = Qf f i := by decide
def tq (t : Nat) : Nat → Nat := itq (t / 3) (Qf (t / 3)) (t % 3)
theorem Qf_Va : ∀ f, Va (Qf f)
  | 0 => by unfold Va Qf; decide
  | 1 => by unfold Va Qf; decide
  | _ + 2 => fun i hi => (by decide : ∀ i, i < 8 → [9, 21, 2, 3, 16, 12, 6, 7].getD i 0 < 24) i hi
theorem tq_Va (t : Nat) : Va (tq t) := itq_Va (Qf_Va _) _

set_option maxHeartbeats 4000000 in
set_option maxRecDepth 100000 in
theorem m_back (l : Launch) {D : va_G} {T : ClassId × ClassId × ClassId} {z0 : Nat} {L : List Nat} {f : Nat → va_E} {b : Nat → Nat} {x1 : Nat} {g1 : Nat → Int32} (hm1 : x1 ∈ L) (he1 : f x1 = eI T.1 16 g1) (hr1 : Rp g1 b) (hv : Va b)  : HV l yX1_back wsX1_back (1) 1 16 D z0 (zPre D T z0 L f) [.ref x1] (AP T L f (iv b)) := by
  refine HV.of (cc := cX1_back) (maxL := 3) (ret := (some (.array .int))) (by decide) rfl (Nat.le_of_ble_eq_true rfl) ?_
  intro p e s m args below meth c hC hr hlk hin hB ls hl
  have hl : lv_has ls 3 [(0, .ref x1)] := hl
  obtain ⟨hE, hP, hD⟩ := hB
  have hS : va_S (zA z0) s.heap s.heap [] := va_S.rf
  refine lv_bipush (v := (nI 16)) hC.1 hC.2.1 dX1_back_0 (by decide) ?_
  refine p_newI hC hE hP hD hS (by decide +kernel) (by omega) (by simp only [rD]; omega) (by simp only [rD]; omega) dX1_back_2 (fun y H hy hP hD hS => ?_)
  have hU : UPD T f (va_up f y (eI T.1 16 (fun _ => 0))) y (fun _ => 0) := ⟨va_up_self _ _ _, fun a ha => va_up_ne _ _ ha⟩
  have hn1 : y ≠ x1 := fun e => hy (e ▸ hm1)
  have loop : ∀ (n : Nat) (k : Nat) (gk : Nat → Int32) (f1 : Nat → va_E) (H : Heap) (locs : List Loc), k + n = 8 → (∀ i, i < 8 → gk i = nI (bkN b k i % 8) ∧ gk (8 + i) = nI (bkN b k i / 8)) → UPD T f f1 y gk → va_P D vwCl (va_pl (L ++ [y]) f1) H → va_D (zA z0) (va_pl (L ++ [y]) f1) → va_S (zA z0) s.heap H locs → ∀ ls : Array Slot, lv_has ls 3 [(0, .ref x1), (1, .ref y), (2, .int (nI k))] → W p l e (rD (1) 1 16) s m args below meth c H locs (0 + 1) (0 + 16) (MQ below (HVQ D z0 (AP T L f (iv b))) args s 1 16 (zA z0)) (F0 m 7 ls []) := by
    intro n
    induction n with
    | zero =>
      intro k gk f1 H locs hk hg hU hP hD hS ls hl
      obtain rfl : k = 8 := by omega
      refine lv_iload_n hC.1 hC.2.1 dX1_back_7 rfl (lv_at hl 2 rfl) ?_
      refine lv_bipush (v := (nI 8)) hC.1 hC.2.1 dX1_back_8 (by decide) ?_
      refine z_icmp_ge (tgt := 43) hC dX1_back_10 (by decide) (by omega) (by omega) (fun h_10 => ?_) (fun h_10 => by omega)
      refine lv_aload_n hC.1 hC.2.1 dX1_back_43 rfl (lv_at hl 1 rfl) ?_
      exact HV.aret hC hr hlk hP hD hS (by omega) (by omega) dX1_back_44 (AP.of hy hU hg)
    | succ n ih =>
      intro k gk f1 H locs hk hg hU hP hD hS ls hl
      have hbk := hv k (by omega)
      have hbm : b k % 8 < 8 := Nat.mod_lt _ (by decide)
      refine lv_iload_n hC.1 hC.2.1 dX1_back_7 rfl (lv_at hl 2 rfl) ?_
      refine lv_bipush (v := (nI 8)) hC.1 hC.2.1 dX1_back_8 (by decide) ?_
      refine z_icmp_ge (tgt := 43) hC dX1_back_10 (by decide) (by omega) (by omega) (fun h_10 => by omega) (fun h_10 => ?_)
      refine lv_aload_n hC.1 hC.2.1 dX1_back_13 rfl (lv_at hl 1 rfl) ?_
      refine lv_aload_n hC.1 hC.2.1 dX1_back_14 rfl (lv_at hl 0 rfl) ?_
      refine lv_iload_n hC.1 hC.2.1 dX1_back_15 rfl (lv_at hl 2 rfl) ?_
      refine p_iald hC hE hP (List.mem_append_left [y] hm1) ((hU.2 x1 hn1.symm).trans he1) (by omega) (by decide) dX1_back_16 ?_
      refine q_i (nI (b k % 8)) ((hr1 _ (by omega)).1) ?_
      refine lv_iload_n hC.1 hC.2.1 dX1_back_17 rfl (lv_at hl 2 rfl) ?_
      refine p_iast hC hE hP hD hS (List.mem_append_right _ (List.mem_singleton.mpr rfl)) hU.1 (Nat.lt_of_lt_of_le hbm (by decide)) (by decide) dX1_back_18 (fun H locs hP hD hS => ?_)
      have hU := hU.put (upd gk (b k % 8) (nI k))
      refine lv_aload_n hC.1 hC.2.1 dX1_back_19 rfl (lv_at hl 1 rfl) ?_
      refine lv_bipush (v := (nI 8)) hC.1 hC.2.1 dX1_back_20 (by decide) ?_
      refine lv_aload_n hC.1 hC.2.1 dX1_back_22 rfl (lv_at hl 0 rfl) ?_
      refine lv_iload_n hC.1 hC.2.1 dX1_back_23 rfl (lv_at hl 2 rfl) ?_
      refine p_iald hC hE hP (List.mem_append_left [y] hm1) ((hU.2 x1 hn1.symm).trans he1) (by omega) (by decide) dX1_back_24 ?_
      refine q_i (nI (b k % 8)) ((hr1 _ (by omega)).1) ?_
      refine z_iadd hC dX1_back_25 ?_
      refine lv_iconst (v := (nI 3)) hC.1 hC.2.1 dX1_back_26 (by decide) ?_
      refine lv_aload_n hC.1 hC.2.1 dX1_back_27 rfl (lv_at hl 0 rfl) ?_
      refine lv_bipush (v := (nI 8)) hC.1 hC.2.1 dX1_back_28 (by decide) ?_
      refine lv_iload_n hC.1 hC.2.1 dX1_back_30 rfl (lv_at hl 2 rfl) ?_
      refine z_iadd hC dX1_back_31 ?_
      refine p_iald hC hE hP (List.mem_append_left [y] hm1) ((hU.2 x1 hn1.symm).trans he1) (by omega) (by decide) dX1_back_32 ?_
      refine q_i (nI (b k / 8)) ((hr1 _ (by omega)).2) ?_
      refine z_isub hC dX1_back_33 (by omega) ?_
      refine lv_iconst (v := (nI 3)) hC.1 hC.2.1 dX1_back_34 (by decide) ?_
      refine z_irem hC dX1_back_35 (by omega) (by decide) (by decide) ?_
      refine p_iast hC hE hP hD hS (List.mem_append_right _ (List.mem_singleton.mpr rfl)) hU.1 (by omega) (by decide) dX1_back_36 (fun H locs hP hD hS => ?_)
      have hU := hU.put (upd (upd gk (b k % 8) (nI k)) (8 + b k % 8) (nI ((3 - b k / 8) % 3)))
      have hg2 : ∀ i, i < 8 → (upd (upd gk (b k % 8) (nI k)) (8 + b k % 8) (nI ((3 - b k / 8) % 3))) i = nI (bkN b (k + 1) i % 8) ∧ (upd (upd gk (b k % 8) (nI k)) (8 + b k % 8) (nI ((3 - b k / 8) % 3))) (8 + i) = nI (bkN b (k + 1) i / 8) := by
        intro i hi
        show _ = nI ((if i = b k % 8 then k + 8 * ((3 - b k / 8) % 3) else bkN b k i) % 8) ∧ _ = nI ((if i = b k % 8 then k + 8 * ((3 - b k / 8) % 3) else bkN b k i) / 8)
        by_cases e : i = b k % 8
        · rw [if_pos e, e, upd_n (by omega), upd_s, upd_s]
          exact ⟨congrArg nI (by omega), congrArg nI (by omega)⟩
        · rw [if_neg e, upd_n (by omega), upd_n e, upd_n (by omega), upd_n (by omega)]; exact hg i hi
      refine lv_iinc (v := nI (k + 1)) (lv' := [(2, .int (nI (k + 1))), (0, .ref x1), (1, .ref y)]) hC.1 hC.2.1 dX1_back_37 hl (k := 2) rfl (z_inc _) (by decide) rfl (fun ls hl => ?_)
      refine lv_goto (tgt := 7) hC.1 hC.2.1 dX1_back_40 (by decide) ?_
      exact ih (k + 1) _ _ _ _ (by omega) hg2 hU hP hD hS ls (lv_sub hl [1, 2, 0] rfl)
  refine lv_astore_n (lv' := [(1, .ref y), (0, .ref x1)]) hC.1 hC.2.1 dX1_back_4 rfl hl (by decide) rfl (fun ls hl => ?_)
  refine lv_iconst (v := (nI 0)) hC.1 hC.2.1 dX1_back_5 (by decide) ?_
  refine lv_istore_n (lv' := [(2, .int (nI 0)), (1, .ref y), (0, .ref x1)]) hC.1 hC.2.1 dX1_back_6 rfl hl (by decide) rfl (fun ls hl => ?_)
  exact loop 8 0 (fun _ => 0) _ _ _ rfl (fun i hi => ⟨by show (0 : Int32) = nI (0 % 8); decide, by show (0 : Int32) = nI (0 / 8); decide⟩) hU hP hD hS ls (lv_sub hl [2, 1, 0] rfl)

set_option maxHeartbeats 4000000 in
set_option maxRecDepth 100000 in
theorem m_quarter (l : Launch) {D : va_G} {T : ClassId × ClassId × ClassId} {z0 : Nat} {L : List Nat} {f : Nat → va_E} {fc : Nat} (hf : fc < 3) : HV l yX1_quarter wsX1_quarter (2) 1 16 D z0 (zPre D T z0 L f) [.int (nI fc)] (AP T L f (Qf fc)) := by
  refine HV.of (cc := cX1_quarter) (maxL := 4) (ret := (some (.array .int))) (by decide) rfl (Nat.le_of_ble_eq_true rfl) ?_
  intro p e s m args below meth c hC hr hlk hin hB ls hl
  have hl : lv_has ls 4 [(0, .int (nI fc))] := hl
  obtain ⟨hE, hP, hD⟩ := hB
  have hS : va_S (zA z0) s.heap s.heap [] := va_S.rf
  obtain ⟨t_ROUND, r_R, hZ_ROUND, hT_R, hT2_R⟩ := hE.2.1.2.2.2.1
  obtain ⟨t_MORE, r_M, hZ_MORE, hT_M, hT2_M⟩ := hE.2.1.2.2.2.2
  refine p_csH (n := 0) (m_right l) hC hE hP hD hS gX1_quarter_X1_right rfl (by decide +kernel) rfl ⟨by decide, by decide⟩ ⟨by simp only [rD]; omega, by simp only [rD]; omega⟩ hl.1 (Nat.le_of_ble_eq_true rfl) dX1_quarter_0 rfl (fun o L2 f2 H locs hpost hP hD hS => ?_)
  obtain ⟨y, rfl, hq⟩ := hpost.get
  obtain ⟨g0, hgy, hg0⟩ := hq.2.2.2
  have hyL := hq.2.1
  have hU : UPD T f2 f2 y g0 := ⟨hgy, fun _ _ => rfl⟩
  refine lv_astore_n (lv' := [(1, .ref y), (0, .int (nI fc))]) hC.1 hC.2.1 dX1_quarter_3 rfl hl (by decide) rfl (fun ls hl => ?_)
  have loop : ∀ (n : Nat) (k : Nat) (gk : Nat → Int32) (f1 : Nat → va_E) (H : Heap) (locs : List Loc), k + n = 4 → (∀ i, i < 8 → gk i = nI (gs one (zRing fc) (zMore fc) k i % 8) ∧ gk (8 + i) = nI (gs one (zRing fc) (zMore fc) k i / 8)) → UPD T f2 f1 y gk → va_P D vwCl (va_pl L2 f1) H → va_D (zA z0) (va_pl L2 f1) → va_S (zA z0) s.heap H locs → ∀ ls : Array Slot, lv_has ls 4 [(0, .int (nI fc)), (1, .ref y), (2, .int (nI k))] → W p l e (rD (2) 1 16) s m args below meth c H locs (0 + 1) (0 + 16) (MQ below (HVQ D z0 (AP T L f (Qf fc))) args s 1 16 (zA z0)) (F0 m 6 ls []) := by
    intro n
    induction n with
    | zero =>
      intro k gk f1 H locs hk hg hU hP hD hS ls hl
      obtain rfl : k = 4 := by omega
      refine lv_iload_n hC.1 hC.2.1 dX1_quarter_6 rfl (lv_at hl 2 rfl) ?_
      refine lv_iconst (v := (nI 4)) hC.1 hC.2.1 dX1_quarter_7 (by decide) ?_
      refine z_icmp_ge (tgt := 52) hC dX1_quarter_8 (by decide) (by omega) (by omega) (fun h_8 => ?_) (fun h_8 => by omega)
      refine lv_aload_n hC.1 hC.2.1 dX1_quarter_52 rfl (lv_at hl 1 rfl) ?_
      exact HV.aret hC hr hlk hP hD hS (by omega) (by omega) dX1_quarter_53 (⟨y, rfl, hq.1, hyL, fun a ha => ⟨(hq.2.2.1 a ha).1, (hU.2 a (fun e => hq.1 (e ▸ ha))).trans (hq.2.2.1 a ha).2⟩, gk, hU.1, Rp.cong hg (gs_one fc hf)⟩)
    | succ n ih =>
      intro k gk f1 H locs hk hg hU hP hD hS ls hl
      have hz1 := zr_lt fc hf k (by omega)
      have hz2 := zr_lt fc hf ((k + 1) % 4) (Nat.mod_lt _ (by decide))
      refine lv_iload_n hC.1 hC.2.1 dX1_quarter_6 rfl (lv_at hl 2 rfl) ?_
      refine lv_iconst (v := (nI 4)) hC.1 hC.2.1 dX1_quarter_7 (by decide) ?_
      refine z_icmp_ge (tgt := 52) hC dX1_quarter_8 (by decide) (by omega) (by omega) (fun h_8 => by omega) (fun h_8 => ?_)
      refine va_gets hC.1 hC.2.1 hZ_ROUND hS hC.2.2.2.1 (hC.2.2.2.2 (.fieldLink RX1 48 "CornerCubeModel" "ROUND" "[[I") (by decide +kernel)) (fun _ h9 => h9) dX1_quarter_11 ?_
      refine lv_iload_n hC.1 hC.2.1 dX1_quarter_14 rfl (lv_at hl 0 rfl) ?_
      refine z_taa hC.1 hC.2.1 hT_R hS (vp_in_nI hf (by decide)) (v := .ref (r_R fc)) (by rw [nI_clamp (by omega)]) dX1_quarter_15 ?_
      refine lv_iload_n hC.1 hC.2.1 dX1_quarter_16 rfl (lv_at hl 2 rfl) ?_
      refine lv_iconst (v := (nI 1)) hC.1 hC.2.1 dX1_quarter_17 (by decide) ?_
      refine z_iadd hC dX1_quarter_18 ?_
      refine lv_iconst (v := (nI 4)) hC.1 hC.2.1 dX1_quarter_19 (by decide) ?_
      refine z_irem hC dX1_quarter_20 (by omega) (by decide) (by decide) ?_
      refine va_ti hC.1 hC.2.1 (hT2_R fc hf) hS (vp_in_nI (n := (k + 1) % 4) (by omega) (by decide)) (v := .int (nI (zRing fc ((k + 1) % 4)))) (by rw [nI_clamp (by omega)]) dX1_quarter_21 ?_
      refine lv_istore_n (lv' := [(3, .int (nI (zRing fc ((k + 1) % 4)))), (0, .int (nI fc)), (1, .ref y), (2, .int (nI k))]) hC.1 hC.2.1 dX1_quarter_22 rfl hl (by decide) rfl (fun ls hl => ?_)
      refine lv_aload_n hC.1 hC.2.1 dX1_quarter_23 rfl (lv_at hl 2 rfl) ?_
      refine lv_iload_n hC.1 hC.2.1 dX1_quarter_24 rfl (lv_at hl 0 rfl) ?_
      refine va_gets hC.1 hC.2.1 hZ_ROUND hS hC.2.2.2.1 (hC.2.2.2.2 (.fieldLink RX1 48 "CornerCubeModel" "ROUND" "[[I") (by decide +kernel)) (fun _ h9 => h9) dX1_quarter_25 ?_
      refine lv_iload_n hC.1 hC.2.1 dX1_quarter_28 rfl (lv_at hl 1 rfl) ?_
      refine z_taa hC.1 hC.2.1 hT_R hS (vp_in_nI hf (by decide)) (v := .ref (r_R fc)) (by rw [nI_clamp (by omega)]) dX1_quarter_29 ?_
      refine lv_iload_n hC.1 hC.2.1 dX1_quarter_30 rfl (lv_at hl 3 rfl) ?_
      refine va_ti hC.1 hC.2.1 (hT2_R fc hf) hS (vp_in_nI (n := k) (by omega) (by decide)) (v := .int (nI (zRing fc k))) (by rw [nI_clamp (by omega)]) dX1_quarter_31 ?_
      refine p_iast hC hE hP hD hS hyL hU.1 (by omega) (by decide) dX1_quarter_32 (fun H locs hP hD hS => ?_)
      have hU := hU.put (upd gk (zRing fc ((k + 1) % 4)) (nI (zRing fc k)))
      refine lv_aload_n hC.1 hC.2.1 dX1_quarter_33 rfl (lv_at hl 2 rfl) ?_
      refine lv_bipush (v := (nI 8)) hC.1 hC.2.1 dX1_quarter_34 (by decide) ?_
      refine lv_iload_n hC.1 hC.2.1 dX1_quarter_36 rfl (lv_at hl 0 rfl) ?_
      refine z_iadd hC dX1_quarter_37 ?_
      refine va_gets hC.1 hC.2.1 hZ_MORE hS hC.2.2.2.1 (hC.2.2.2.2 (.fieldLink RX1 51 "CornerCubeModel" "MORE" "[[I") (by decide +kernel)) (fun _ h9 => h9) dX1_quarter_38 ?_
      refine lv_iload_n hC.1 hC.2.1 dX1_quarter_41 rfl (lv_at hl 1 rfl) ?_
      refine z_taa hC.1 hC.2.1 hT_M hS (vp_in_nI hf (by decide)) (v := .ref (r_M fc)) (by rw [nI_clamp (by omega)]) dX1_quarter_42 ?_
      refine lv_iload_n hC.1 hC.2.1 dX1_quarter_43 rfl (lv_at hl 3 rfl) ?_
      refine va_ti hC.1 hC.2.1 (hT2_M fc hf) hS (vp_in_nI (n := k) (by omega) (by decide)) (v := .int (nI (zMore fc k))) (by rw [nI_clamp (by omega)]) dX1_quarter_44 ?_
      refine p_iast hC hE hP hD hS hyL hU.1 (by omega) (by decide) dX1_quarter_45 (fun H locs hP hD hS => ?_)
      have hU := hU.put (upd (upd gk (zRing fc ((k + 1) % 4)) (nI (zRing fc k))) (8 + zRing fc ((k + 1) % 4)) (nI (zMore fc k)))
      have hg2 : ∀ i, i < 8 → (upd (upd gk (zRing fc ((k + 1) % 4)) (nI (zRing fc k))) (8 + zRing fc ((k + 1) % 4)) (nI (zMore fc k))) i = nI (gs one (zRing fc) (zMore fc) (k + 1) i % 8) ∧ (upd (upd gk (zRing fc ((k + 1) % 4)) (nI (zRing fc k))) (8 + zRing fc ((k + 1) % 4)) (nI (zMore fc k))) (8 + i) = nI (gs one (zRing fc) (zMore fc) (k + 1) i / 8) := by
        intro i hi
        show _ = nI ((if i = zRing fc ((k + 1) % 4) then zRing fc k % 8 + 8 * ((zRing fc k / 8 + zMore fc k) % 3) else gs one (zRing fc) (zMore fc) k i) % 8) ∧ _ = nI ((if i = zRing fc ((k + 1) % 4) then zRing fc k % 8 + 8 * ((zRing fc k / 8 + zMore fc k) % 3) else gs one (zRing fc) (zMore fc) k i) / 8)
        by_cases e : i = zRing fc ((k + 1) % 4)
        · rw [if_pos e, e, upd_n (by omega), upd_s, upd_s]
          exact ⟨congrArg nI (by omega), congrArg nI (by omega)⟩
        · rw [if_neg e, upd_n (by omega), upd_n e, upd_n (by omega), upd_n (by omega)]; exact hg i hi
      refine lv_iinc (v := nI (k + 1)) (lv' := [(2, .int (nI (k + 1))), (3, .int (nI (zRing fc ((k + 1) % 4)))), (0, .int (nI fc)), (1, .ref y)]) hC.1 hC.2.1 dX1_quarter_46 hl (k := 3) rfl (z_inc _) (by decide) rfl (fun ls hl => ?_)
      refine lv_goto (tgt := 6) hC.1 hC.2.1 dX1_quarter_49 (by decide) ?_
      exact ih (k + 1) _ _ _ _ (by omega) hg2 hU hP hD hS ls (lv_sub hl [2, 3, 0] rfl)
  refine lv_iconst (v := (nI 0)) hC.1 hC.2.1 dX1_quarter_4 (by decide) ?_
  refine lv_istore_n (lv' := [(2, .int (nI 0)), (1, .ref y), (0, .int (nI fc))]) hC.1 hC.2.1 dX1_quarter_5 rfl hl (by decide) rfl (fun ls hl => ?_)
  exact loop 4 0 _ _ _ _ rfl hg0 hU hP hD hS ls (lv_sub hl [2, 1, 0] rfl)

set_option maxHeartbeats 4000000 in
set_option maxRecDepth 100000 in
theorem m_turnRow (l : Launch) {D : va_G} {T : ClassId × ClassId × ClassId} {z0 : Nat} {L : List Nat} {f : Nat → va_E} {t : Nat} (ht : t < 9) : HV l yX1_turnRow wsX1_turnRow (3) 5 80 D z0 (zPre D T z0 L f) [.int (nI t)] (AP T L f (tq t)) := by
  refine HV.of (cc := cX1_turnRow) (maxL := 3) (ret := (some (.array .int))) (by decide) rfl (Nat.le_of_ble_eq_true rfl) ?_
  intro p e s m args below meth c hC hr hlk hin hB ls hl
  have hl : lv_has ls 3 [(0, .int (nI t))] := hl
  obtain ⟨hE, hP, hD⟩ := hB
  have hS : va_S (zA z0) s.heap s.heap [] := va_S.rf
  refine lv_iload_n hC.1 hC.2.1 dX1_turnRow_0 rfl (lv_at hl 0 rfl) ?_
  refine lv_iconst (v := (nI 3)) hC.1 hC.2.1 dX1_turnRow_1 (by decide) ?_
  refine z_idiv hC dX1_turnRow_2 (by omega) (by decide) (by decide) ?_
  refine p_csH (n := 1) (m_quarter l (by omega : t / 3 < 3)) hC hE hP hD hS gX1_turnRow_X1_quarter rfl (by decide +kernel) rfl ⟨by decide, by decide⟩ ⟨by simp only [rD]; omega, by simp only [rD]; omega⟩ hl.1 (Nat.le_of_ble_eq_true rfl) dX1_turnRow_3 rfl (fun o L1 f1 H locs hpost hP hD hS => ?_)
  obtain ⟨y, rfl, hq⟩ := hpost.get
  refine lv_astore_n (lv' := [(1, .ref y), (0, .int (nI t))]) hC.1 hC.2.1 dX1_turnRow_6 rfl hl (by decide) rfl (fun ls hl => ?_)
  have loop : ∀ (n : Nat) (k y : Nat) (L1 : List Nat) (f1 : Nat → va_E) (H : Heap) (locs : List Loc), k + n = t % 3 → AQ T L f (itq (t / 3) (Qf (t / 3)) k) y L1 f1 → va_P D vwCl (va_pl L1 f1) H → va_D (zA z0) (va_pl L1 f1) → va_S (zA z0) s.heap H locs → ∀ ls : Array Slot, lv_has ls 3 [(0, .int (nI t)), (1, .ref y), (2, .int (nI k))] → W p l e (rD (3) 5 80) s m args below meth c H locs (1 + 2 * k) (16 + 32 * k) (MQ below (HVQ D z0 (AP T L f (tq t))) args s 5 80 (zA z0)) (F0 m 9 ls []) := by
    intro n
    induction n with
    | zero =>
      intro k y L1 f1 H locs hk hq hP hD hS ls hl
      have hk3 : k = t % 3 := by omega
      refine lv_iload_n hC.1 hC.2.1 dX1_turnRow_9 rfl (lv_at hl 2 rfl) ?_
      refine lv_iload_n hC.1 hC.2.1 dX1_turnRow_10 rfl (lv_at hl 0 rfl) ?_
      refine lv_iconst (v := (nI 3)) hC.1 hC.2.1 dX1_turnRow_11 (by decide) ?_
      refine z_irem hC dX1_turnRow_12 (by omega) (by decide) (by decide) ?_
      refine z_icmp_ge (tgt := 33) hC dX1_turnRow_13 (by decide) (by omega) (by omega) (fun h_13 => ?_) (fun h_13 => by omega)
      refine lv_aload_n hC.1 hC.2.1 dX1_turnRow_33 rfl (lv_at hl 1 rfl) ?_
      exact HV.aret hC hr hlk hP hD hS (by omega) (by omega) dX1_turnRow_34 (⟨y, rfl, by subst hk3; exact hq⟩)
    | succ n ih =>
      intro k y L1 f1 H locs hk hq hP hD hS ls hl
      obtain ⟨g1, hg1, hR1⟩ := hq.2.2.2
      refine lv_iload_n hC.1 hC.2.1 dX1_turnRow_9 rfl (lv_at hl 2 rfl) ?_
      refine lv_iload_n hC.1 hC.2.1 dX1_turnRow_10 rfl (lv_at hl 0 rfl) ?_
      refine lv_iconst (v := (nI 3)) hC.1 hC.2.1 dX1_turnRow_11 (by decide) ?_
      refine z_irem hC dX1_turnRow_12 (by omega) (by decide) (by decide) ?_
      refine z_icmp_ge (tgt := 33) hC dX1_turnRow_13 (by decide) (by omega) (by omega) (fun h_13 => by omega) (fun h_13 => ?_)
      refine lv_aload_n hC.1 hC.2.1 dX1_turnRow_16 rfl (lv_at hl 1 rfl) ?_
      refine lv_iload_n hC.1 hC.2.1 dX1_turnRow_17 rfl (lv_at hl 0 rfl) ?_
      refine lv_iconst (v := (nI 3)) hC.1 hC.2.1 dX1_turnRow_18 (by decide) ?_
      refine z_idiv hC dX1_turnRow_19 (by omega) (by decide) (by decide) ?_
      refine p_csH (n := 1) (m_quarter l (by omega : t / 3 < 3)) hC hE hP hD hS gX1_turnRow_X1_quarter rfl (by decide +kernel) rfl ⟨by decide, by decide⟩ ⟨by simp only [rD]; omega, by simp only [rD]; omega⟩ hl.1 (Nat.le_of_ble_eq_true rfl) dX1_turnRow_20 rfl (fun o L2 f2 H locs hpost hP hD hS => ?_)
      obtain ⟨y2, rfl, hq2⟩ := hpost.get
      obtain ⟨g2, hg2, hR2⟩ := hq2.2.2.2
      refine p_csH (n := 2) (m_then l (hq2.2.2.1 y hq.2.1).1 hq2.2.1 ((hq2.2.2.1 y hq.2.1).2.trans hg1) hg2 hR1 hR2 (itq_Va (Qf_Va _) k) (Qf_Va _)) hC hE hP hD hS gX1_turnRow_X1_then rfl (by decide +kernel) rfl ⟨by decide, by decide⟩ ⟨by simp only [rD]; omega, by simp only [rD]; omega⟩ hl.1 (Nat.le_of_ble_eq_true rfl) dX1_turnRow_23 rfl (fun o L3 f3 H locs hpost hP hD hS => ?_)
      obtain ⟨y3, rfl, hq3⟩ := hpost.get
      refine lv_astore_n (lv' := [(1, .ref y3), (0, .int (nI t)), (2, .int (nI k))]) hC.1 hC.2.1 dX1_turnRow_26 rfl hl (by decide) rfl (fun ls hl => ?_)
      refine lv_iinc (v := nI (k + 1)) (lv' := [(2, .int (nI (k + 1))), (1, .ref y3), (0, .int (nI t))]) hC.1 hC.2.1 dX1_turnRow_27 hl (k := 2) rfl (z_inc _) (by decide) rfl (fun ls hl => ?_)
      refine lv_goto (tgt := 9) hC.1 hC.2.1 dX1_turnRow_30 (by decide) ?_
      refine W.widen (k := 1 + 2 * (k + 1)) (n := 16 + 32 * (k + 1)) (by omega) (by omega) ?_
      exact ih (k + 1) _ _ _ _ _ (by omega) ((hq.on hq2).on hq3) hP hD hS ls (lv_sub hl [2, 1, 0] rfl)
  refine lv_iconst (v := (nI 0)) hC.1 hC.2.1 dX1_turnRow_7 (by decide) ?_
  refine lv_istore_n (lv' := [(2, .int (nI 0)), (1, .ref y), (0, .int (nI t))]) hC.1 hC.2.1 dX1_turnRow_8 rfl hl (by decide) rfl (fun ls hl => ?_)
  refine W.widen (k := 1 + 2 * 0) (n := 16 + 32 * 0) (by omega) (by omega) ?_
  exact loop (t % 3) 0 _ _ _ _ _ (by omega) hq hP hD hS ls (lv_sub hl [2, 1, 0] rfl)

set_option maxHeartbeats 4000000 in
set_option maxRecDepth 100000 in
theorem m_isRight (l : Launch) {D : va_G} {T : ClassId × ClassId × ClassId} {z0 : Nat} {L : List Nat} {f : Nat → va_E} {b : Nat → Nat} {x1 : Nat} {g1 : Nat → Int32} (hm1 : x1 ∈ L) (he1 : f x1 = eI T.1 16 g1) (hr1 : Rp g1 b) (hv : Va b) {q : Nat} (hq : q < 8) : RV l yX1_isRight wsX1_isRight (1) (zPre D T z0 L f) [.ref x1, .int (nI q)] (some (.int (nI (if b q = q then 1 else 0)))) := by
  refine RV.of (cc := cX1_isRight) (maxL := 2) (ret := (some .boolean)) (by decide) rfl (Nat.le_of_ble_eq_true rfl) ?_
  intro p e s m args below meth c hC hr hlk hB ls hl
  have hl : lv_has ls 2 [(0, .ref x1), (1, .int (nI q))] := hl
  obtain ⟨hE, hP, hD⟩ := hB
  have hS : va_S (zA z0) s.heap s.heap [] := va_S.rf
  have hbq := hv q hq
  refine lv_aload_n hC.1 hC.2.1 dX1_isRight_0 rfl (lv_at hl 0 rfl) ?_
  refine lv_iload_n hC.1 hC.2.1 dX1_isRight_1 rfl (lv_at hl 1 rfl) ?_
  refine p_iald hC hE hP hm1 he1 (by omega) (by decide) dX1_isRight_2 ?_
  refine q_i (nI (b q % 8)) ((hr1 _ (by omega)).1) ?_
  refine lv_iload_n hC.1 hC.2.1 dX1_isRight_3 rfl (lv_at hl 1 rfl) ?_
  refine z_icmp_ne (tgt := 20) hC dX1_isRight_4 (by decide) (by omega) (by omega) (fun h_4 => ?_) (fun h_4 => ?_)
  · refine lv_iconst (v := (nI 0)) hC.1 hC.2.1 dX1_isRight_20 (by decide) ?_
    exact RV.zret hC hr hlk dX1_isRight_21 (by rw [if_neg]; rw [right_iff hv hq]; omega) (by decide)
  · refine lv_aload_n hC.1 hC.2.1 dX1_isRight_7 rfl (lv_at hl 0 rfl) ?_
    refine lv_bipush (v := (nI 8)) hC.1 hC.2.1 dX1_isRight_8 (by decide) ?_
    refine lv_iload_n hC.1 hC.2.1 dX1_isRight_10 rfl (lv_at hl 1 rfl) ?_
    refine z_iadd hC dX1_isRight_11 ?_
    refine p_iald hC hE hP hm1 he1 (by omega) (by decide) dX1_isRight_12 ?_
    refine q_i (nI (b q / 8)) ((hr1 _ (by omega)).2) ?_
    refine z_if_ne (tgt := 20) hC dX1_isRight_13 (by decide) (by omega) (fun h_13 => ?_) (fun h_13 => ?_)
    · refine lv_iconst (v := (nI 0)) hC.1 hC.2.1 dX1_isRight_20 (by decide) ?_
      exact RV.zret hC hr hlk dX1_isRight_21 (by rw [if_neg]; rw [right_iff hv hq]; omega) (by decide)
    · refine lv_iconst (v := (nI 1)) hC.1 hC.2.1 dX1_isRight_16 (by decide) ?_
      refine lv_goto (tgt := 21) hC.1 hC.2.1 dX1_isRight_17 (by decide) ?_
      exact RV.zret hC hr hlk dX1_isRight_21 (by rw [if_pos]; rw [right_iff hv hq]; omega) (by decide)

set_option maxHeartbeats 4000000 in
set_option maxRecDepth 100000 in
theorem m_many (l : Launch) {D : va_G} {T : ClassId × ClassId × ClassId} {z0 : Nat} {L : List Nat} {f : Nat → va_E} {b : Nat → Nat} {x1 : Nat} {g1 : Nat → Int32} (hm1 : x1 ∈ L) (he1 : f x1 = eI T.1 16 g1) (hr1 : Rp g1 b) (hv : Va b) {what : Nat} (hw1 : 1 ≤ what) (hw3 : what ≤ 3) : RV l yX1_many wsX1_many (1) (zPre D T z0 L f) [.ref x1, .int (nI what)] (some (.int (nI (ct (fun i => decide ((what = 3 ∨ b i % 8 = i) ∧ (what = 2 ∨ b i / 8 = 0))) 8)))) := by
  refine RV.of (cc := cX1_many) (maxL := 4) (ret := (some .int)) (by decide) rfl (Nat.le_of_ble_eq_true rfl) ?_
  intro p e s m args below meth c hC hr hlk hB ls hl
  have hl : lv_has ls 4 [(0, .ref x1), (1, .int (nI what))] := hl
  obtain ⟨hE, hP, hD⟩ := hB
  have hS : va_S (zA z0) s.heap s.heap [] := va_S.rf
  have loop : ∀ (n i : Nat), i + n = 8 → ∀ ls : Array Slot, lv_has ls 4 [(0, .ref x1), (1, .int (nI what)), (2, .int (nI (ct (fun i => decide ((what = 3 ∨ b i % 8 = i) ∧ (what = 2 ∨ b i / 8 = 0))) i))), (3, .int (nI i))] → W p l e (rD (1) 0 0) s m args below meth c s.heap [] 0 0 (MQ below (RVQ (some (.int (nI (ct (fun i => decide ((what = 3 ∨ b i % 8 = i) ∧ (what = 2 ∨ b i / 8 = 0))) 8))))) args s 0 0 (fun _ => False)) (F0 m 4 ls []) := by
    intro n
    induction n with
    | zero =>
      intro i hc0 ls hl
      obtain rfl : i = 8 := by omega
      refine lv_iload_n hC.1 hC.2.1 dX1_many_4 rfl (lv_at hl 3 rfl) ?_
      refine lv_bipush (v := (nI 8)) hC.1 hC.2.1 dX1_many_5 (by decide) ?_
      refine z_icmp_ge (tgt := 50) hC dX1_many_7 (by decide) (by omega) (by omega) (fun h_7 => ?_) (fun h_7 => by omega)
      refine lv_iload_n hC.1 hC.2.1 dX1_many_50 rfl (lv_at hl 2 rfl) ?_
      exact RV.iret hC hr hlk dX1_many_51 (rfl)
    | succ n ih =>
      intro i hc0 ls hl
      have hbi := hv i (by omega)
      refine lv_iload_n hC.1 hC.2.1 dX1_many_4 rfl (lv_at hl 3 rfl) ?_
      refine lv_bipush (v := (nI 8)) hC.1 hC.2.1 dX1_many_5 (by decide) ?_
      refine z_icmp_ge (tgt := 50) hC dX1_many_7 (by decide) (by omega) (by omega) (fun h_7 => by omega) (fun h_7 => ?_)
      refine lv_iload_n hC.1 hC.2.1 dX1_many_10 rfl (lv_at hl 2 rfl) ?_
      refine lv_iload_n hC.1 hC.2.1 dX1_many_11 rfl (lv_at hl 1 rfl) ?_
      refine lv_iconst (v := (nI 3)) hC.1 hC.2.1 dX1_many_12 (by decide) ?_
      refine z_icmp_eq (tgt := 23) hC dX1_many_13 (by decide) (by omega) (by omega) (fun h_13 => ?_) (fun h_13 => ?_)
      · refine lv_iload_n hC.1 hC.2.1 dX1_many_23 rfl (lv_at hl 1 rfl) ?_
        refine lv_iconst (v := (nI 2)) hC.1 hC.2.1 dX1_many_24 (by decide) ?_
        refine z_icmp_eq (tgt := 37) hC dX1_many_25 (by decide) (by omega) (by omega) (fun h_25 => ?_) (fun h_25 => ?_)
        · refine lv_iconst (v := (nI 1)) hC.1 hC.2.1 dX1_many_37 (by decide) ?_
          refine lv_goto (tgt := 42) hC.1 hC.2.1 dX1_many_38 (by decide) ?_
          refine z_iadd hC dX1_many_42 ?_
          refine lv_istore_n (lv' := [(2, .int (nI ((ct (fun i => decide ((what = 3 ∨ b i % 8 = i) ∧ (what = 2 ∨ b i / 8 = 0))) i) + 1))), (0, .ref x1), (1, .int (nI what)), (3, .int (nI i))]) hC.1 hC.2.1 dX1_many_43 rfl hl (by decide) rfl (fun ls hl => ?_)
          refine lv_iinc (v := nI (i + 1)) (lv' := [(3, .int (nI (i + 1))), (2, .int (nI ((ct (fun i => decide ((what = 3 ∨ b i % 8 = i) ∧ (what = 2 ∨ b i / 8 = 0))) i) + 1))), (0, .ref x1), (1, .int (nI what))]) hC.1 hC.2.1 dX1_many_44 hl (k := 3) rfl (z_inc _) (by decide) rfl (fun ls hl => ?_)
          refine lv_goto (tgt := 4) hC.1 hC.2.1 dX1_many_47 (by decide) ?_
          have e9 : ct (fun i => decide ((what = 3 ∨ b i % 8 = i) ∧ (what = 2 ∨ b i / 8 = 0))) (i + 1) = ct (fun i => decide ((what = 3 ∨ b i % 8 = i) ∧ (what = 2 ∨ b i / 8 = 0))) i + 1 := ct_t (by simp; omega)
          exact ih (i + 1) (by omega) ls (by rw [e9]; exact (lv_sub hl [2, 3, 1, 0] rfl))
        · refine lv_aload_n hC.1 hC.2.1 dX1_many_28 rfl (lv_at hl 0 rfl) ?_
          refine lv_bipush (v := (nI 8)) hC.1 hC.2.1 dX1_many_29 (by decide) ?_
          refine lv_iload_n hC.1 hC.2.1 dX1_many_31 rfl (lv_at hl 3 rfl) ?_
          refine z_iadd hC dX1_many_32 ?_
          refine p_iald hC hE hP hm1 he1 (by omega) (by decide) dX1_many_33 ?_
          refine q_i (nI (b i / 8)) ((hr1 _ (by omega)).2) ?_
          refine z_if_ne (tgt := 41) hC dX1_many_34 (by decide) (by omega) (fun h_34 => ?_) (fun h_34 => ?_)
          · refine lv_iconst (v := (nI 0)) hC.1 hC.2.1 dX1_many_41 (by decide) ?_
            refine z_iadd hC dX1_many_42 ?_
            refine lv_istore_n (lv' := [(2, .int (nI ((ct (fun i => decide ((what = 3 ∨ b i % 8 = i) ∧ (what = 2 ∨ b i / 8 = 0))) i) + 0))), (0, .ref x1), (1, .int (nI what)), (3, .int (nI i))]) hC.1 hC.2.1 dX1_many_43 rfl hl (by decide) rfl (fun ls hl => ?_)
            refine lv_iinc (v := nI (i + 1)) (lv' := [(3, .int (nI (i + 1))), (2, .int (nI ((ct (fun i => decide ((what = 3 ∨ b i % 8 = i) ∧ (what = 2 ∨ b i / 8 = 0))) i) + 0))), (0, .ref x1), (1, .int (nI what))]) hC.1 hC.2.1 dX1_many_44 hl (k := 3) rfl (z_inc _) (by decide) rfl (fun ls hl => ?_)
            refine lv_goto (tgt := 4) hC.1 hC.2.1 dX1_many_47 (by decide) ?_
            have e9 : ct (fun i => decide ((what = 3 ∨ b i % 8 = i) ∧ (what = 2 ∨ b i / 8 = 0))) (i + 1) = ct (fun i => decide ((what = 3 ∨ b i % 8 = i) ∧ (what = 2 ∨ b i / 8 = 0))) i + 0 := ct_f (by simp; omega)
            exact ih (i + 1) (by omega) ls (by rw [e9]; exact (lv_sub hl [2, 3, 1, 0] rfl))
          · refine lv_iconst (v := (nI 1)) hC.1 hC.2.1 dX1_many_37 (by decide) ?_
            refine lv_goto (tgt := 42) hC.1 hC.2.1 dX1_many_38 (by decide) ?_
            refine z_iadd hC dX1_many_42 ?_
            refine lv_istore_n (lv' := [(2, .int (nI ((ct (fun i => decide ((what = 3 ∨ b i % 8 = i) ∧ (what = 2 ∨ b i / 8 = 0))) i) + 1))), (0, .ref x1), (1, .int (nI what)), (3, .int (nI i))]) hC.1 hC.2.1 dX1_many_43 rfl hl (by decide) rfl (fun ls hl => ?_)
            refine lv_iinc (v := nI (i + 1)) (lv' := [(3, .int (nI (i + 1))), (2, .int (nI ((ct (fun i => decide ((what = 3 ∨ b i % 8 = i) ∧ (what = 2 ∨ b i / 8 = 0))) i) + 1))), (0, .ref x1), (1, .int (nI what))]) hC.1 hC.2.1 dX1_many_44 hl (k := 3) rfl (z_inc _) (by decide) rfl (fun ls hl => ?_)
            refine lv_goto (tgt := 4) hC.1 hC.2.1 dX1_many_47 (by decide) ?_
            have e9 : ct (fun i => decide ((what = 3 ∨ b i % 8 = i) ∧ (what = 2 ∨ b i / 8 = 0))) (i + 1) = ct (fun i => decide ((what = 3 ∨ b i % 8 = i) ∧ (what = 2 ∨ b i / 8 = 0))) i + 1 := ct_t (by simp; omega)
            exact ih (i + 1) (by omega) ls (by rw [e9]; exact (lv_sub hl [2, 3, 1, 0] rfl))
      · refine lv_aload_n hC.1 hC.2.1 dX1_many_16 rfl (lv_at hl 0 rfl) ?_
        refine lv_iload_n hC.1 hC.2.1 dX1_many_17 rfl (lv_at hl 3 rfl) ?_
        refine p_iald hC hE hP hm1 he1 (by omega) (by decide) dX1_many_18 ?_
        refine q_i (nI (b i % 8)) ((hr1 _ (by omega)).1) ?_
        refine lv_iload_n hC.1 hC.2.1 dX1_many_19 rfl (lv_at hl 3 rfl) ?_
        refine z_icmp_ne (tgt := 41) hC dX1_many_20 (by decide) (by omega) (by omega) (fun h_20 => ?_) (fun h_20 => ?_)
        · refine lv_iconst (v := (nI 0)) hC.1 hC.2.1 dX1_many_41 (by decide) ?_
          refine z_iadd hC dX1_many_42 ?_
          refine lv_istore_n (lv' := [(2, .int (nI ((ct (fun i => decide ((what = 3 ∨ b i % 8 = i) ∧ (what = 2 ∨ b i / 8 = 0))) i) + 0))), (0, .ref x1), (1, .int (nI what)), (3, .int (nI i))]) hC.1 hC.2.1 dX1_many_43 rfl hl (by decide) rfl (fun ls hl => ?_)
          refine lv_iinc (v := nI (i + 1)) (lv' := [(3, .int (nI (i + 1))), (2, .int (nI ((ct (fun i => decide ((what = 3 ∨ b i % 8 = i) ∧ (what = 2 ∨ b i / 8 = 0))) i) + 0))), (0, .ref x1), (1, .int (nI what))]) hC.1 hC.2.1 dX1_many_44 hl (k := 3) rfl (z_inc _) (by decide) rfl (fun ls hl => ?_)
          refine lv_goto (tgt := 4) hC.1 hC.2.1 dX1_many_47 (by decide) ?_
          have e9 : ct (fun i => decide ((what = 3 ∨ b i % 8 = i) ∧ (what = 2 ∨ b i / 8 = 0))) (i + 1) = ct (fun i => decide ((what = 3 ∨ b i % 8 = i) ∧ (what = 2 ∨ b i / 8 = 0))) i + 0 := ct_f (by simp; omega)
          exact ih (i + 1) (by omega) ls (by rw [e9]; exact (lv_sub hl [2, 3, 1, 0] rfl))
        · refine lv_iload_n hC.1 hC.2.1 dX1_many_23 rfl (lv_at hl 1 rfl) ?_
          refine lv_iconst (v := (nI 2)) hC.1 hC.2.1 dX1_many_24 (by decide) ?_
          refine z_icmp_eq (tgt := 37) hC dX1_many_25 (by decide) (by omega) (by omega) (fun h_25 => ?_) (fun h_25 => ?_)
          · refine lv_iconst (v := (nI 1)) hC.1 hC.2.1 dX1_many_37 (by decide) ?_
            refine lv_goto (tgt := 42) hC.1 hC.2.1 dX1_many_38 (by decide) ?_
            refine z_iadd hC dX1_many_42 ?_
            refine lv_istore_n (lv' := [(2, .int (nI ((ct (fun i => decide ((what = 3 ∨ b i % 8 = i) ∧ (what = 2 ∨ b i / 8 = 0))) i) + 1))), (0, .ref x1), (1, .int (nI what)), (3, .int (nI i))]) hC.1 hC.2.1 dX1_many_43 rfl hl (by decide) rfl (fun ls hl => ?_)
            refine lv_iinc (v := nI (i + 1)) (lv' := [(3, .int (nI (i + 1))), (2, .int (nI ((ct (fun i => decide ((what = 3 ∨ b i % 8 = i) ∧ (what = 2 ∨ b i / 8 = 0))) i) + 1))), (0, .ref x1), (1, .int (nI what))]) hC.1 hC.2.1 dX1_many_44 hl (k := 3) rfl (z_inc _) (by decide) rfl (fun ls hl => ?_)
            refine lv_goto (tgt := 4) hC.1 hC.2.1 dX1_many_47 (by decide) ?_
            have e9 : ct (fun i => decide ((what = 3 ∨ b i % 8 = i) ∧ (what = 2 ∨ b i / 8 = 0))) (i + 1) = ct (fun i => decide ((what = 3 ∨ b i % 8 = i) ∧ (what = 2 ∨ b i / 8 = 0))) i + 1 := ct_t (by simp; omega)
            exact ih (i + 1) (by omega) ls (by rw [e9]; exact (lv_sub hl [2, 3, 1, 0] rfl))
          · refine lv_aload_n hC.1 hC.2.1 dX1_many_28 rfl (lv_at hl 0 rfl) ?_
            refine lv_bipush (v := (nI 8)) hC.1 hC.2.1 dX1_many_29 (by decide) ?_
            refine lv_iload_n hC.1 hC.2.1 dX1_many_31 rfl (lv_at hl 3 rfl) ?_
            refine z_iadd hC dX1_many_32 ?_
            refine p_iald hC hE hP hm1 he1 (by omega) (by decide) dX1_many_33 ?_
            refine q_i (nI (b i / 8)) ((hr1 _ (by omega)).2) ?_
            refine z_if_ne (tgt := 41) hC dX1_many_34 (by decide) (by omega) (fun h_34 => ?_) (fun h_34 => ?_)
            · refine lv_iconst (v := (nI 0)) hC.1 hC.2.1 dX1_many_41 (by decide) ?_
              refine z_iadd hC dX1_many_42 ?_
              refine lv_istore_n (lv' := [(2, .int (nI ((ct (fun i => decide ((what = 3 ∨ b i % 8 = i) ∧ (what = 2 ∨ b i / 8 = 0))) i) + 0))), (0, .ref x1), (1, .int (nI what)), (3, .int (nI i))]) hC.1 hC.2.1 dX1_many_43 rfl hl (by decide) rfl (fun ls hl => ?_)
              refine lv_iinc (v := nI (i + 1)) (lv' := [(3, .int (nI (i + 1))), (2, .int (nI ((ct (fun i => decide ((what = 3 ∨ b i % 8 = i) ∧ (what = 2 ∨ b i / 8 = 0))) i) + 0))), (0, .ref x1), (1, .int (nI what))]) hC.1 hC.2.1 dX1_many_44 hl (k := 3) rfl (z_inc _) (by decide) rfl (fun ls hl => ?_)
              refine lv_goto (tgt := 4) hC.1 hC.2.1 dX1_many_47 (by decide) ?_
              have e9 : ct (fun i => decide ((what = 3 ∨ b i % 8 = i) ∧ (what = 2 ∨ b i / 8 = 0))) (i + 1) = ct (fun i => decide ((what = 3 ∨ b i % 8 = i) ∧ (what = 2 ∨ b i / 8 = 0))) i + 0 := ct_f (by simp; omega)
              exact ih (i + 1) (by omega) ls (by rw [e9]; exact (lv_sub hl [2, 3, 1, 0] rfl))
            · refine lv_iconst (v := (nI 1)) hC.1 hC.2.1 dX1_many_37 (by decide) ?_
              refine lv_goto (tgt := 42) hC.1 hC.2.1 dX1_many_38 (by decide) ?_
              refine z_iadd hC dX1_many_42 ?_
              refine lv_istore_n (lv' := [(2, .int (nI ((ct (fun i => decide ((what = 3 ∨ b i % 8 = i) ∧ (what = 2 ∨ b i / 8 = 0))) i) + 1))), (0, .ref x1), (1, .int (nI what)), (3, .int (nI i))]) hC.1 hC.2.1 dX1_many_43 rfl hl (by decide) rfl (fun ls hl => ?_)
              refine lv_iinc (v := nI (i + 1)) (lv' := [(3, .int (nI (i + 1))), (2, .int (nI ((ct (fun i => decide ((what = 3 ∨ b i % 8 = i) ∧ (what = 2 ∨ b i / 8 = 0))) i) + 1))), (0, .ref x1), (1, .int (nI what))]) hC.1 hC.2.1 dX1_many_44 hl (k := 3) rfl (z_inc _) (by decide) rfl (fun ls hl => ?_)
              refine lv_goto (tgt := 4) hC.1 hC.2.1 dX1_many_47 (by decide) ?_
              have e9 : ct (fun i => decide ((what = 3 ∨ b i % 8 = i) ∧ (what = 2 ∨ b i / 8 = 0))) (i + 1) = ct (fun i => decide ((what = 3 ∨ b i % 8 = i) ∧ (what = 2 ∨ b i / 8 = 0))) i + 1 := ct_t (by simp; omega)
              exact ih (i + 1) (by omega) ls (by rw [e9]; exact (lv_sub hl [2, 3, 1, 0] rfl))
  refine lv_iconst (v := (nI 0)) hC.1 hC.2.1 dX1_many_0 (by decide) ?_
  refine lv_istore_n (lv' := [(2, .int (nI 0)), (0, .ref x1), (1, .int (nI what))]) hC.1 hC.2.1 dX1_many_1 rfl hl (by decide) rfl (fun ls hl => ?_)
  refine lv_iconst (v := (nI 0)) hC.1 hC.2.1 dX1_many_2 (by decide) ?_
  refine lv_istore_n (lv' := [(3, .int (nI 0)), (2, .int (nI 0)), (0, .ref x1), (1, .int (nI what))]) hC.1 hC.2.1 dX1_many_3 rfl hl (by decide) rfl (fun ls hl => ?_)
  exact loop 8 0 rfl ls (lv_sub hl [2, 3, 1, 0] rfl)

theorem ct_congr {q r : Nat → Bool} : ∀ n, (∀ i, i < n → q i = r i) → ct q n = ct r n
  | 0, _ => rfl
  | n + 1, h => by
    show ct q n + _ = ct r n + _
    rw [ct_congr n (fun i hi => h i (by omega)), h n (by omega)]
theorem many_1 {b : Nat → Nat} (hv : Va b) : ct (fun i => decide (((1 : Nat) = 3 ∨ b i % 8 = i) ∧ ((1 : Nat) = 2 ∨ b i / 8 = 0))) 8 = nRt b := ct_congr 8 fun i hi => decide_eq_decide.mpr (by rw [right_iff hv hi]; omega)
theorem many_2 {b : Nat → Nat} : ct (fun i => decide (((2 : Nat) = 3 ∨ b i % 8 = i) ∧ ((2 : Nat) = 2 ∨ b i / 8 = 0))) 8 = nPl b := ct_congr 8 fun i hi => decide_eq_decide.mpr (by omega)
theorem many_3 {b : Nat → Nat} : ct (fun i => decide (((3 : Nat) = 3 ∨ b i % 8 = i) ∧ ((3 : Nat) = 2 ∨ b i / 8 = 0))) 8 = nUt b := ct_congr 8 fun i hi => decide_eq_decide.mpr (by omega)
