section
-- ===== PART A: goes FIRST, ahead of the names: the tables' words, and 'selects' of the private methods out of them =====
/-- a private method of a class that the tables say can be made, by its rows of tables_1 -/
def lw_okq (q : MethodName × Nat) : Prop := (q.1.cls ≠ "java/lang/invoke/MethodHandle" ∧ q.1.cls ≠ "java/lang/invoke/VarHandle") ∧ Cond.instantiable q.1.cls q.2 ∈ tables_1 ∧ Cond.privateMethod q.1 ∈ tables_1 ∧ Cond.instanceMethod q.1 ∈ tables_1
theorem lw_p0 : lw_okq (⟨"CornerCube", "turnsOfAllWords", "()I"⟩, 4) := ⟨⟨by decide +kernel, by decide +kernel⟩, List.mem_of_getElem? (i := 12) (by decide +kernel), List.mem_of_getElem? (i := 87) (by decide +kernel), List.mem_of_getElem? (i := 88) (by decide +kernel)⟩
theorem lw_p1 : lw_okq (⟨"java/lang/Throwable", "fillInStackTrace", "(I)Ljava/lang/Throwable;"⟩, 6) := ⟨⟨by decide +kernel, by decide +kernel⟩, List.mem_of_getElem? (i := 143) (by decide +kernel), List.mem_of_getElem? (i := 141) (by decide +kernel), List.mem_of_getElem? (i := 142) (by decide +kernel)⟩
theorem lw_p2 : lw_okq (⟨"CornerCube", "digestOfWord", "(JI)J"⟩, 4) := ⟨⟨by decide +kernel, by decide +kernel⟩, List.mem_of_getElem? (i := 12) (by decide +kernel), List.mem_of_getElem? (i := 196) (by decide +kernel), List.mem_of_getElem? (i := 197) (by decide +kernel)⟩
theorem lw_p3 : lw_okq (⟨"CornerCube", "deedOf", "(I)J"⟩, 4) := ⟨⟨by decide +kernel, by decide +kernel⟩, List.mem_of_getElem? (i := 12) (by decide +kernel), List.mem_of_getElem? (i := 208) (by decide +kernel), List.mem_of_getElem? (i := 209) (by decide +kernel)⟩
theorem lw_p4 : lw_okq (⟨"CornerCube", "behindWord", "(JI)J"⟩, 4) := ⟨⟨by decide +kernel, by decide +kernel⟩, List.mem_of_getElem? (i := 12) (by decide +kernel), List.mem_of_getElem? (i := 212) (by decide +kernel), List.mem_of_getElem? (i := 213) (by decide +kernel)⟩
theorem lw_p5 : lw_okq (⟨"CornerCube", "behindWordRound", "(JI)J"⟩, 4) := ⟨⟨by decide +kernel, by decide +kernel⟩, List.mem_of_getElem? (i := 12) (by decide +kernel), List.mem_of_getElem? (i := 361) (by decide +kernel), List.mem_of_getElem? (i := 362) (by decide +kernel)⟩
theorem lw_p6 : lw_okq (⟨"CornerCubeModel", "no", "(I)I"⟩, 7) := ⟨⟨by decide +kernel, by decide +kernel⟩, List.mem_of_getElem? (i := 409) (by decide +kernel), List.mem_of_getElem? (i := 469) (by decide +kernel), List.mem_of_getElem? (i := 470) (by decide +kernel)⟩
theorem lw_p7 : lw_okq (⟨"CornerCubeModel", "turned", "([II)[I"⟩, 7) := ⟨⟨by decide +kernel, by decide +kernel⟩, List.mem_of_getElem? (i := 409) (by decide +kernel), List.mem_of_getElem? (i := 473) (by decide +kernel), List.mem_of_getElem? (i := 474) (by decide +kernel)⟩
theorem lw_p8 : lw_okq (⟨"CornerCubeModel", "rowOf", "(I)[I"⟩, 7) := ⟨⟨by decide +kernel, by decide +kernel⟩, List.mem_of_getElem? (i := 409) (by decide +kernel), List.mem_of_getElem? (i := 487) (by decide +kernel), List.mem_of_getElem? (i := 488) (by decide +kernel)⟩
theorem lw_p9 : lw_okq (⟨"CornerCubeModel", "put", "(II)V"⟩, 7) := ⟨⟨by decide +kernel, by decide +kernel⟩, List.mem_of_getElem? (i := 409) (by decide +kernel), List.mem_of_getElem? (i := 499) (by decide +kernel), List.mem_of_getElem? (i := 500) (by decide +kernel)⟩
theorem lw_p10 : lw_okq (⟨"CornerCubeModel", "taken", "(I)[I"⟩, 7) := ⟨⟨by decide +kernel, by decide +kernel⟩, List.mem_of_getElem? (i := 409) (by decide +kernel), List.mem_of_getElem? (i := 511) (by decide +kernel), List.mem_of_getElem? (i := 512) (by decide +kernel)⟩
theorem lw_p11 : lw_okq (⟨"CornerCubeModel", "placeTold", "(II)I"⟩, 7) := ⟨⟨by decide +kernel, by decide +kernel⟩, List.mem_of_getElem? (i := 409) (by decide +kernel), List.mem_of_getElem? (i := 530) (by decide +kernel), List.mem_of_getElem? (i := 531) (by decide +kernel)⟩
theorem lw_p12 : lw_okq (⟨"CornerCubeModel", "counted", "(I)I"⟩, 7) := ⟨⟨by decide +kernel, by decide +kernel⟩, List.mem_of_getElem? (i := 409) (by decide +kernel), List.mem_of_getElem? (i := 548) (by decide +kernel), List.mem_of_getElem? (i := 549) (by decide +kernel)⟩
theorem lw_p13 : lw_okq (⟨"CornerCubeModel", "allTurns", "()I"⟩, 7) := ⟨⟨by decide +kernel, by decide +kernel⟩, List.mem_of_getElem? (i := 409) (by decide +kernel), List.mem_of_getElem? (i := 561) (by decide +kernel), List.mem_of_getElem? (i := 562) (by decide +kernel)⟩
theorem lw_p14 : lw_okq (⟨"CornerCubeModel", "wordTold", "(II)I"⟩, 7) := ⟨⟨by decide +kernel, by decide +kernel⟩, List.mem_of_getElem? (i := 409) (by decide +kernel), List.mem_of_getElem? (i := 569) (by decide +kernel), List.mem_of_getElem? (i := 570) (by decide +kernel)⟩
theorem lw_p15 : lw_okq (⟨"CornerCubeModel", "farOf", "([II)I"⟩, 7) := ⟨⟨by decide +kernel, by decide +kernel⟩, List.mem_of_getElem? (i := 409) (by decide +kernel), List.mem_of_getElem? (i := 593) (by decide +kernel), List.mem_of_getElem? (i := 594) (by decide +kernel)⟩
def lw_privs_1 : List (MethodName × Nat) := [(⟨"CornerCube", "turnsOfAllWords", "()I"⟩, 4), (⟨"java/lang/Throwable", "fillInStackTrace", "(I)Ljava/lang/Throwable;"⟩, 6), (⟨"CornerCube", "digestOfWord", "(JI)J"⟩, 4), (⟨"CornerCube", "deedOf", "(I)J"⟩, 4), (⟨"CornerCube", "behindWord", "(JI)J"⟩, 4), (⟨"CornerCube", "behindWordRound", "(JI)J"⟩, 4), (⟨"CornerCubeModel", "no", "(I)I"⟩, 7), (⟨"CornerCubeModel", "turned", "([II)[I"⟩, 7), (⟨"CornerCubeModel", "rowOf", "(I)[I"⟩, 7), (⟨"CornerCubeModel", "put", "(II)V"⟩, 7), (⟨"CornerCubeModel", "taken", "(I)[I"⟩, 7), (⟨"CornerCubeModel", "placeTold", "(II)I"⟩, 7), (⟨"CornerCubeModel", "counted", "(I)I"⟩, 7), (⟨"CornerCubeModel", "allTurns", "()I"⟩, 7), (⟨"CornerCubeModel", "wordTold", "(II)I"⟩, 7), (⟨"CornerCubeModel", "farOf", "([II)I"⟩, 7)]
theorem lw_r1 : ∀ q ∈ lw_privs_1, lw_okq q := List.forall_mem_cons.mpr ⟨lw_p0, List.forall_mem_cons.mpr ⟨lw_p1, List.forall_mem_cons.mpr ⟨lw_p2, List.forall_mem_cons.mpr ⟨lw_p3, List.forall_mem_cons.mpr ⟨lw_p4, List.forall_mem_cons.mpr ⟨lw_p5, List.forall_mem_cons.mpr ⟨lw_p6, List.forall_mem_cons.mpr ⟨lw_p7, List.forall_mem_cons.mpr ⟨lw_p8, List.forall_mem_cons.mpr ⟨lw_p9, List.forall_mem_cons.mpr ⟨lw_p10, List.forall_mem_cons.mpr ⟨lw_p11, List.forall_mem_cons.mpr ⟨lw_p12, List.forall_mem_cons.mpr ⟨lw_p13, List.forall_mem_cons.mpr ⟨lw_p14, List.forall_mem_cons.mpr ⟨lw_p15, fun _ h => absurd h List.not_mem_nil⟩⟩⟩⟩⟩⟩⟩⟩⟩⟩⟩⟩⟩⟩⟩⟩
theorem lw_p16 : lw_okq (⟨"CornerCubeModel", "comes", "([III)Z"⟩, 7) := ⟨⟨by decide +kernel, by decide +kernel⟩, List.mem_of_getElem? (i := 409) (by decide +kernel), List.mem_of_getElem? (i := 597) (by decide +kernel), List.mem_of_getElem? (i := 598) (by decide +kernel)⟩
def lw_privs_2 : List (MethodName × Nat) := [(⟨"CornerCubeModel", "comes", "([III)Z"⟩, 7)]
theorem lw_r2 : ∀ q ∈ lw_privs_2, lw_okq q := List.forall_mem_cons.mpr ⟨lw_p16, fun _ h => absurd h List.not_mem_nil⟩
def lw_privs : List (MethodName × Nat) := lw_privs_1 ++ (lw_privs_2)
def lw_tbl : List Cond := k2_sels lw_privs ++ tables_1
theorem lw_privs_ok : ∀ q ∈ lw_privs, lw_okq q := by
  show ∀ q ∈ lw_privs_1 ++ (lw_privs_2), lw_okq q
  exact List.forall_mem_append.mpr ⟨lw_r1, lw_r2⟩
/-- the streams that the claim lets the run draw from -/
abbrev lw_cs : List Choice := [Jvm.Choice.named "NaN.bits"]
theorem lw_bits : nanBits ∈ lw_cs := by first | decide | exact List.mem_cons_self | simp [lw_cs, nanBits]
-- ===== end of PART A; then your names; then what follows =====
/-- the tables say of an array of arrays of ty: its class (the kit's rows name this word; its text was wanting) -/
def va_AOA (ty : FieldType) (U : State) : Prop := (Cond.arrayOver (.array ty)).before #[] U = true
theorem va_AOA.use {ty : FieldType} {A : Array Value} {U : State} (h : va_AOA ty U) : (Cond.arrayOver (.array ty)).before A U = true := h
end
section
/-! ===== BEGIN words of one list among another's, by their places ===== -/
theorem goodIn_r {big : List Cond} (ws : List Cond) (ps : List Nat) (hp : ws = ps.filterMap (fun i => big[i]?)) (h : ws.all goodWord = true) : GoodIn big ws := by
  intro w hw
  have h1 := List.all_eq_true.mp h w hw
  rw [hp] at hw
  obtain ⟨i, -, hi⟩ := List.mem_filterMap.mp hw
  have hm : w ∈ big := by first | exact List.mem_of_getElem? hi | exact List.getElem?_mem hi
  exact ⟨hm, good_of_word h1⟩
theorem goodIn_app {big a b : List Cond} (ha : GoodIn big a) (hb : GoodIn big b) : GoodIn big (a ++ b) := fun w h => (List.mem_append.mp h).elim (ha w) (hb w)
theorem goodIn_ca {big a b : List Cond} {c : Cond} (ha : GoodIn big (c :: a)) (hb : GoodIn big b) : GoodIn big (c :: (a ++ b)) := fun w h => (List.mem_cons.mp h).elim (fun e => ha w (List.mem_cons.mpr (Or.inl e))) (fun h => (List.mem_append.mp h).elim (fun h => ha w (List.mem_cons.mpr (Or.inr h))) (hb w))
theorem goodIn_sub {big ws : List Cond} (hm : ∀ w ∈ ws, w ∈ big) (h : ws.all goodWord = true) : GoodIn big ws := fun w hw => ⟨hm w hw, good_of_word (List.all_eq_true.mp h w hw)⟩
/-! ===== END ===== -/

/-! ===== BEGIN new T[n][m]: the outer array a place, the inner ones among the pooled ===== -/
/-- f, but v at every address of l -/
def vr_up {α : Type} (f : Nat → α) (l : List Nat) (v : α) : Nat → α := fun a => if a ∈ l then v else f a
theorem vr_up_in {α : Type} {f : Nat → α} {l : List Nat} {v : α} {a : Nat} (h : a ∈ l) : vr_up f l v a = v := if_pos h
theorem vr_up_ne {α : Type} {f : Nat → α} {l : List Nat} {v : α} {a : Nat} (h : a ∉ l) : vr_up f l v a = f a := if_neg h
theorem vr_rows {L l : List Nat} {f : Nat → va_E} {e : va_E} (h : ∀ a, a ∈ l → a ∉ L) : va_pl L f ++ l.map (fun a => (a, e)) = va_pl (L ++ l) (vr_up f l e) := by
  unfold va_pl
  rw [List.map_append]
  congr 1
  · apply List.map_congr_left
    intro a ha
    rw [vr_up_ne (fun q => h a q ha)]
  · apply List.map_congr_left
    intro a ha
    rw [vr_up_in ha]
theorem vr_lay {X rows : va_W} {x : Nat × va_E} {pl : va_W} {D : va_G} {cl : List vw_C} {H : Heap} (hP : va_P D cl (((X ++ pl) ++ [x]) ++ rows) H) : va_P D cl ((X ++ [x]) ++ (pl ++ rows)) H := by
  rw [List.append_assoc (X ++ pl)] at hP
  have h := va_P.swap hP
  rw [← List.append_assoc X] at h
  have h2 := va_P.swap h
  rw [List.append_assoc (X ++ [x])] at h2
  exact h2
theorem vr_layD {X rows : va_W} {x : Nat × va_E} {pl : va_W} {A : Nat → Prop} (hD : va_D A (((X ++ pl) ++ [x]) ++ rows)) : va_D A ((X ++ [x]) ++ (pl ++ rows)) := by
  rw [List.append_assoc (X ++ pl)] at hD
  have h := va_D.swap hD
  rw [← List.append_assoc X] at h
  have h2 := va_D.swap h
  rw [List.append_assoc (X ++ [x])] at h2
  exact h2
theorem vr_outer (c : ClassId) (N h0 : Nat) : ∀ i : Nat, Jvm.Free.Multi.outerC c N h0 i = arrV c N (fun j => va_rf (if j < i then some (h0 + 1 + j) else none))
  | 0 => by
    show ({ cls := c, slots := Array.replicate N .null, vm := .none } : Cell) = _
    rw [arrV_new]
    refine congrArg (arrV c N) (funext fun j => ?_)
    simp [va_rf]
  | i + 1 => by
    show (Jvm.Free.Multi.outerC c N h0 i).setSlot i (.ref (h0 + 1 + i)) = _
    rw [vr_outer c N h0 i, arrV_store]
    refine congrArg (arrV c N) (funext fun j => ?_)
    by_cases e : j = i
    · subst e
      simp [updV, va_rf]
    · by_cases h : j < i
      · simp [updV, e, h, Nat.lt_succ_of_lt h]
      · simp [updV, e, h, show ¬ j < i + 1 by omega]
section VGM
variable {p : Program} {l : Launch} {e : Env} {R : Room} {s : State} {m : MethodId} {args : Array Value} {below : List Frame} {meth : Method} {c : Code} {H : Heap} {locs : List Loc} {cells slots : Nat} {Q : State → Prop}
variable {cc : ByteArray} {pc : Nat} {ls : Array Slot} {rest : List Value} {D : va_G} {cl : List vw_C} {A : Nat → Prop} {a : Nat} {tys : List (ClassId × FieldType)} {ws : va_W} {H0 : Heap}
theorem va_mna {X : va_W} {L : List Nat} {f : Nat → va_E} {cc : ByteArray} (hexec : p.tables.exec = Jvm.exec) (hb : c.code = cc) {own : String} {index : Nat} {ty : FieldType} {cy : ClassId} (hown : s.vm.findClass own = some m.cls) (hclink : (Cond.classLink own index ("[" ++ (FieldType.array ty).toString)).before args s = true) (hover : va_AOA ty s) (harr : (Cond.arrayClass ty).before args s = true) (hcy : s.vm.findClass (FieldType.array ty).toString = some cy)
    (hK : va_K D cl tys s) (hP : va_P D cl (X ++ va_pl L f) H) (hD : va_D A (X ++ va_pl L f)) (hS : va_S A H0 H locs) (hA : ∀ q, H0.size ≤ q → A q) {n k : Int32} {N' K' : Nat} {z : vp_A} (hn : ¬ n < 0) (hk : ¬ k < 0) (hN : n.toNatClampNeg = N') (hM : k.toNatClampNeg = K')
    (hb1 : N' * 4 ≤ 536870912) (hb2 : K' * componentBytes ty ≤ 536870912) (hb3 : K' ≤ 536870912) (hdf : fits ty (defaultValue ty) = true) (hdd : (defaultValue ty).isDefault = true) (hcells : cells + (1 + N') ≤ R.cells) (hslots : slots + (N' + N' * K') ≤ R.slots) (hz : ∀ c : ClassId, Jvm.Free.Multi.innerC c K' (defaultValue ty) = vp_cell c z) (hdg : decode cc pc = .ok (.multianewarray index 2, 4))
    (kk : ∀ (q : Nat) (r : Nat → Nat) (cA : ClassId) (H1 : Heap), (∀ i j : Nat, i < N' → j < N' → r i = r j → i = j) → (∀ i : Nat, i < N' → r i ∉ L) → va_K D cl (tys ++ [(cA, .array ty)]) s →
      va_P D cl ((X ++ [(q, .inl (cA, N', .inr (.inr (.inr (.inr (fun i => if i < N' then some (r i) else none))))))]) ++ va_pl (L ++ (List.range N').map r) (vr_up f ((List.range N').map r) (.inl (cy, z)))) H1 → va_D A ((X ++ [(q, .inl (cA, N', .inr (.inr (.inr (.inr (fun i => if i < N' then some (r i) else none))))))]) ++ va_pl (L ++ (List.range N').map r) (vr_up f ((List.range N').map r) (.inl (cy, z)))) → va_S A H0 H1 locs →
      W p l e R s m args below meth c H1 locs (cells + 1 + N') (slots + N' + N' * K') Q (F0 m (pc + 4) ls (.ref q :: rest))) : W p l e R s m args below meth c H locs cells slots Q (F0 m pc ls (.int k :: .int n :: rest)) := by
  subst hN
  subst hM
  intro T hT Xs
  obtain ⟨vm₁, cA, comp, -, fA, fC, hO, -, X', step⟩ := Xs.multianewarray2F hexec hown hclink (va_AOA.use hover) harr (g := F0 m pc ls (.int k :: .int n :: rest)) rfl (by rw [hb]; exact hdg) rfl hn hk hb1 hb2 hb3 hdf hdd hcells hslots
  have ec : some cy = some comp := hcy.symm.trans fC
  cases ec
  generalize hF : Jvm.Free.Multi.fill (T.setVm vm₁) cA cy n.toNatClampNeg k.toNatClampNeg (defaultValue ty) n.toNatClampNeg = F at X' step
  have hTh : (T.setVm vm₁).heap = H := hT
  obtain ⟨f1, f2, -, -⟩ := Jvm.Free.Multi.fill_facts (T.setVm vm₁) cA cy n.toNatClampNeg k.toNatClampNeg (defaultValue ty) n.toNatClampNeg
  rw [hF, hTh] at f1 f2
  have hold : ∀ x : Nat, x < H.size → F.heap[x]? = H[x]? := fun x hx => by
    have := Jvm.Free.Multi.fill_old (T.setVm vm₁) cA cy n.toNatClampNeg k.toNatClampNeg (defaultValue ty) (a := x) (by rw [hTh]; exact hx) n.toNatClampNeg
    rw [hF, hTh] at this
    exact this
  have hrow : ∀ j : Nat, j < n.toNatClampNeg → F.heap[H.size + 1 + j]? = some (vp_cell cy z) := fun j hj => by
    have := Jvm.Free.Multi.fill_inner (T.setVm vm₁) cA cy n.toNatClampNeg k.toNatClampNeg (defaultValue ty) n.toNatClampNeg j hj
    rw [hF, hTh, hz] at this
    exact this
  have hout : Jvm.Free.Multi.outerC cA n.toNatClampNeg H.size n.toNatClampNeg = vp_cell cA (n.toNatClampNeg, .inr (.inr (.inr (.inr (fun i => if i < n.toNatClampNeg then some (H.size + 1 + i) else none))))) := by
    rw [vp_cell_q]
    exact vr_outer cA n.toNatClampNeg H.size n.toNatClampNeg
  rw [hout] at f2
  have hlt : ∀ a, a ∈ L → a < H.size := fun a ha => by
    obtain ⟨k9, hk9⟩ := va_pl_get (X := X) (f := f) ha
    exact (hP k9 _ hk9).lt
  have hnl : ∀ i : Nat, i < n.toNatClampNeg → H.size + 1 + i ∉ L := fun i _ h => by
    have := hlt _ h
    omega
  have hnm : ∀ a, a ∈ (List.range n.toNatClampNeg).map (fun i => H.size + 1 + i) → a ∉ L := fun a ha h => by
    obtain ⟨i, -, rfl⟩ := List.mem_map.mp ha
    have := hlt _ h
    omega
  have hP0 : va_P D cl (X ++ va_pl L f) F.heap := hP.kept (fun k9 x hx => hold x.1 ((hP k9 x hx).lt))
  have hP1 : va_P D cl ((X ++ va_pl L f) ++ [(H.size, .inl (cA, n.toNatClampNeg, .inr (.inr (.inr (.inr (fun i => if i < n.toNatClampNeg then some (H.size + 1 + i) else none))))))]) F.heap := hP0.app (fun k9 x hx => by
    have h0 : k9 < 1 := (List.getElem?_eq_some_iff.mp hx).1
    rw [show k9 = 0 by omega] at hx
    cases hx
    exact f2)
  have hP2 : va_P D cl (((X ++ va_pl L f) ++ [(H.size, .inl (cA, n.toNatClampNeg, .inr (.inr (.inr (.inr (fun i => if i < n.toNatClampNeg then some (H.size + 1 + i) else none))))))]) ++ ((List.range n.toNatClampNeg).map (fun i => H.size + 1 + i)).map (fun a => (a, .inl (cy, z)))) F.heap := hP1.app (fun k9 x hx => by
    obtain ⟨a, ha, rfl⟩ := List.mem_map.mp (List.mem_of_getElem? hx)
    obtain ⟨i, hi, rfl⟩ := List.mem_map.mp ha
    exact hrow i (List.mem_range.mp hi))
  have hD2 : va_D A (((X ++ va_pl L f) ++ [(H.size, .inl (cA, n.toNatClampNeg, .inr (.inr (.inr (.inr (fun i => if i < n.toNatClampNeg then some (H.size + 1 + i) else none))))))]) ++ ((List.range n.toNatClampNeg).map (fun i => H.size + 1 + i)).map (fun a => (a, .inl (cy, z)))) := by
    have hD1 := hD.push (e := .inl (cA, n.toNatClampNeg, .inr (.inr (.inr (.inr (fun i => if i < n.toNatClampNeg then some (H.size + 1 + i) else none)))))) hP rfl (hA _ hS.1)
    generalize hW1 : (X ++ va_pl L f) ++ [(H.size, .inl (cA, n.toNatClampNeg, .inr (.inr (.inr (.inr (fun i => if i < n.toNatClampNeg then some (H.size + 1 + i) else none))))))] = W1 at hD1 hP1 ⊢
    have hle : ∀ (k9 : Nat) (x : Nat × va_E), W1[k9]? = some x → x.1 ≤ H.size := fun k9 x hx => by
      rw [← hW1] at hx
      by_cases hl : k9 < (X ++ va_pl L f).length
      · rw [List.getElem?_append_left hl] at hx
        exact Nat.le_of_lt ((hP k9 x hx).lt)
      · rw [List.getElem?_append_right (by omega)] at hx
        have h0 : k9 - (X ++ va_pl L f).length < 1 := (List.getElem?_eq_some_iff.mp hx).1
        rw [show k9 - (X ++ va_pl L f).length = 0 by omega] at hx
        cases hx
        exact Nat.le_refl _
    have hr : ∀ (k9 : Nat) (x : Nat × va_E), (((List.range n.toNatClampNeg).map (fun i => H.size + 1 + i)).map (fun a => ((a, .inl (cy, z)) : Nat × va_E)))[k9]? = some x → x.1 = H.size + 1 + k9 := fun k9 x hx => by
      rw [List.getElem?_map, List.getElem?_map] at hx
      by_cases h9 : k9 < n.toNatClampNeg
      · rw [List.getElem?_range h9] at hx
        cases hx
        rfl
      · have hn0 : (List.range n.toNatClampNeg)[k9]? = none := List.getElem?_eq_none (by rw [List.length_range]; omega)
        rw [hn0] at hx
        cases hx
    refine ⟨fun i j x y hi hj hxy => ?_, fun k9 x hx => ?_⟩
    · by_cases h1 : i < W1.length <;> by_cases h2 : j < W1.length
      · rw [List.getElem?_append_left h1] at hi
        rw [List.getElem?_append_left h2] at hj
        exact hD1.1 i j x y hi hj hxy
      · rw [List.getElem?_append_left h1] at hi
        rw [List.getElem?_append_right (by omega)] at hj
        have := hle _ _ hi
        have := hr _ _ hj
        omega
      · rw [List.getElem?_append_right (by omega)] at hi
        rw [List.getElem?_append_left h2] at hj
        have := hle _ _ hj
        have := hr _ _ hi
        omega
      · rw [List.getElem?_append_right (by omega)] at hi hj
        have := hr _ _ hi
        have := hr _ _ hj
        omega
    · by_cases h1 : k9 < W1.length
      · rw [List.getElem?_append_left h1] at hx
        exact hD1.2 k9 x hx
      · rw [List.getElem?_append_right (by omega)] at hx
        have := hr _ _ hx
        exact hA _ (by have := hS.1; omega)
  have hAr : ArrOfT s cA (.array ty) := fun N9 z9 => by
    obtain ⟨-, k9, hk9, cm9, hkk9⟩ := (hO 0 0 0).1
    exact ⟨(fun q hq => by cases hq), k9, hk9, cm9, hkk9⟩
  have hK2 : va_K D cl (tys ++ [(cA, .array ty)]) s := ⟨hK.1, fun k9 x hx => by
    by_cases hl : k9 < tys.length
    · rw [List.getElem?_append_left hl] at hx
      exact hK.2 k9 x hx
    · rw [List.getElem?_append_right (by omega)] at hx
      have h0 : k9 - tys.length < 1 := (List.getElem?_eq_some_iff.mp hx).1
      rw [show k9 - tys.length = 0 by omega] at hx
      cases hx
      exact ⟨hAr, fA⟩⟩
  obtain ⟨t, a1, b1⟩ := kk H.size (fun i => H.size + 1 + i) cA F.heap (fun i j _ _ h => by have h9 : H.size + 1 + i = H.size + 1 + j := h; omega) hnl hK2 (by rw [← vr_rows hnm]; exact vr_lay hP2) (by rw [← vr_rows hnm]; exact vr_layD hD2) ⟨by rw [f1]; have := hS.1; omega, fun x h1 h2 => (hold x (Nat.lt_of_lt_of_le h1 hS.1)).trans (hS.2.1 x h1 h2), hS.2.2⟩ F rfl X'
  refine ⟨t, step t ?_, b1⟩
  have e : T.heap.size = H.size := by rw [hT]
  rw [e]
  exact a1
end VGM
/-! ===== END ===== -/

/-! ===== BEGIN exceptions that leave a method, and their catching by the caller (launches without stack traces) ===== -/
section VXA
/-! The laws vx_back, vx_callV, vx_callS, vx_callSW, vx_throw0, vx_throwS follow proofs of the library, with one case more: JvmDerived/Free/Laws.lean (Back.of_free), Shelf42/LK1.lean (callV, callS), Shelf/KitTraced.lean (throwNew0V, throwNewS). -/
/-- where a method has thrown q: the class by its name, the cell, what was written, the world -/
def vx_T (XC : String → State → State → Prop) (st : State) (q : Addr) (t : State) (mc ms : Nat) (free : Addr → Prop) : Prop :=
  ∃ (E : String) (ce : Cell) (L : List Loc), XC E st t ∧ t.heap[q]? = some ce ∧ ce.vm = .none ∧ st.vm.findClass E = some ce.cls ∧ st.WarmedH t.vm ∧ st.sameButNew ({ t with vm := st.vm } : State) L mc ms ∧ ∀ z ∈ L, free z.base
def vx_Q (Qc : Array Value → State → Outcome → State → Prop) (XC : String → State → State → Prop) (mc ms : Nat) (free : Addr → Prop) : Array Value → State → Outcome → State → Prop := fun a st o t =>
  (Qc a st o t ∧ ∃ L, FrameEnd st o t L mc ms ∧ ∀ q ∈ L, free q.base) ∨ ∃ q, o = .threw q ∧ vx_T XC st q t mc ms free
/-- a callee that returns or throws -/
def vx_Met (l : Launch) (y : MethodName) (ws : List Cond) (rm : Room) (Pc : Array Value → State → Prop) (Qc : Array Value → State → Outcome → State → Prop) (XC : String → State → State → Prop) (mc ms : Nat) (free : Addr → Prop) : Prop :=
  MetFree l y (headSpec ws rm) Pc (fun _ _ _ _ _ => True) (vx_Q Qc XC mc ms free)
def vx_Post (XC : String → State → State → Prop) (mc ms : Nat) (free : Addr → Prop) : Pt → Array Value → Addr → Pt → Prop := fun A a q B =>
  ∃ (g : JFrame) (mk : MethodId) (t : State) (L : List Loc) (E : String) (ce : Cell), B.U.heap = t.heap ∧ B.U.vm = t.vm ∧ XC E (A.U.calling g mk a) t ∧ t.heap[q]? = some ce ∧ ce.vm = .none ∧ A.U.vm.findClass E = some ce.cls ∧ B.locs = A.locs ++ L ∧ (∀ z ∈ L, free z.base) ∧ B.cells = A.cells + mc ∧ B.slots = A.slots + ms
def vx_Back (l : Launch) (R : Room) (p : Program) (e : Env) (below : List Frame) (s : State) (sargs : Array Value) (y : MethodName) (len W9 : Nat)
    (Pre : Pt → Array Value → Prop) (Post : Pt → Array Value → Option Value → Pt → Prop) (PostX : Pt → Array Value → Addr → Pt → Prop) : Prop :=
  ∀ (m : MethodId) (meth : Method) (c : Code) (A : Pt) (g : JFrame) (ig : Instr) (mk : MethodId) (a : Array Value),
    Stand p l e R s m sargs below meth c A.U A.locs A.cells A.slots → g.method = m → g.locals.size = c.maxLocals → decode c.code g.pc = .ok (ig, len) →
    2 * g.monitorRoom + (g.stack.map fun v => v.category).sum ≤ W9 → A.U.methodNamed? y = some mk → Pre A a →
    (∃ (v : Option Value) (B : Pt), Stand p l e R s m sargs below meth c B.U B.locs B.cells B.slots ∧ Post A a v B ∧
      Steps p.tables e below (doInvoke e (A.U.setTop g) [] mk a).1 (B.U.setTop { g with pc := g.pc + len, stack := v.toList ++ g.stack })) ∨
    (∃ (q : Addr) (B : Pt), Stand p l e R s m sargs below meth c B.U B.locs B.cells B.slots ∧ PostX A a q B ∧
      Steps p.tables e below (doInvoke e (A.U.setTop g) [] mk a).1 ((B.U.setTop g).pushFrame (.throwing q)))
section Payer
variable {l : Launch} {R : Room} {p : Program} {e : Env} {below : List Frame} {s : State} {sargs : Array Value} {y : MethodName} {len W9 : Nat}
theorem vx_back {ws : List Cond} {rm : Room} {Pc : Array Value → State → Prop} {Qc : Array Value → State → Outcome → State → Prop} {XC : String → State → State → Prop} {mc ms : Nat} {free : Addr → Prop} {bytes : ByteArray} {maxL : Nat} {ret : Option FieldType}
    (hM : vx_Met l y ws rm Pc Qc XC mc ms free) (hblind : FrameBlind Pc) (hrc : rm.cells = mc) (hrs : rm.slots = ms)
    (hframes : rm.frames + 1 ≤ R.frames) (hlocals : W9 + (maxL + 11) + rm.locals ≤ R.locals)
    (hws : ∀ w ∈ ws, ∀ a' U, s.WarmedH U.vm → w.before a' U = true) (hcode : Cond.code y bytes maxL ret ∈ ws) (hinit : ∀ a' U, s.WarmedH U.vm → (Cond.initialized y.cls).before a' U = true) :
    vx_Back l R p e below s sargs y len W9 (PreOf R mc ms Pc) (PostOf Qc mc ms free) (vx_Post XC mc ms free) := by
  intro m meth c A g ig mk a X hg hsize hdg hW hn hp
  have h1 : (headSpec ws rm).pre.before a A.U = true := atoms_intro fun w hw => hws w hw _ _ X.warmed
  have h2 : (Cond.code y bytes maxL ret).before a A.U = true := hws _ hcode _ _ X.warmed
  have h3 : (Cond.initialized y.cls).before a A.U = true := hinit _ _ X.warmed
  have h4 : A.cells + (headSpec ws rm).room.cells ≤ R.cells := by rw [show (headSpec ws rm).room.cells = mc from hrc]; exact hp.1
  have h5 : A.slots + (headSpec ws rm).room.slots ≤ R.slots := by rw [show (headSpec ws rm).room.slots = ms from hrs]; exact hp.2.1
  have hPc : Pc a (A.U.calling g mk a) := hblind _ _ _ _ hp.2.2
  obtain ⟨U, Ls, c0, s0⟩ := A
  dsimp only [Pt.U, Pt.locs, Pt.cells, Pt.slots] at h1 h2 h3 h4 h5 X hn hPc ⊢
  obtain ⟨methY, cY, hmY, hcY, -, hlY, -, -, -, -⟩ := Cond.code_spec hn h2
  obtain ⟨kY, hkY, -⟩ := className_of_methodNamed hn
  have hinitY : kY.init = .initialized := Cond.initialized_spec (findClass_of_methodNamed hn) hkY h3
  have h : At U g.method c below := by rw [hg]; exact X.here
  have hlocals9 : W9 + (maxL + 11) + (headSpec ws rm).room.locals ≤ R.locals := hlocals
  have happ : (headSpec ws rm).appliesLoose y e.platform (U.calling g mk a) = true :=
    Spec.appliesLoose_calling (g := g) h hdg hn hkY hinitY
      (X.room_calling (g := g) (R' := (headSpec ws rm).room) hsize hmY hcY hframes (by rw [hlY]; omega) h4 h5) h1
  obtain ⟨mid, hmid⟩ := h.above
  have hfr : (U.setTop g).frames = (.java g :: mid) ++ below := by rw [State.frames_setTop' g h.top, hmid]; rfl
  obtain ⟨o, s₂, hsteps, -, hend, hq⟩ := Steps.callFree hM p X.admits X.cas X.clock (acts := []) hfr happ hPc trivial
  have hq' : vx_Q Qc XC mc ms free a (U.calling g mk a) o s₂ := hq
  rw [State.frames_setTop' g h.top] at hend
  obtain ⟨g₀, hg0⟩ := Option.isSome_iff_exists.mp h.top
  obtain ⟨r, hr⟩ := State.topJava?_eq_some.mp hg0
  have hr' : (({ U with heap := s₂.heap, slotsUsed := s₂.slotsUsed } : State).setVm s₂.vm).frames = .java g₀ :: r := hr
  rcases hq' with ⟨hqc, L, hfe, hL⟩ | ⟨q, rfl, E, ce, L, hx, hce, hcv, hcl, hW₂, hsm, hL⟩
  · obtain ⟨⟨v, rfl⟩, hW₂, e2, q2, q3, q4, q5, q6⟩ := id hfe
    have e3 : s₂ = ({ (U.calling g mk a).setFrames s₂.frames with heap := s₂.heap, slotsUsed := s₂.slotsUsed } : State).setVm s₂.vm := by
      have : s₂ = ({ s₂ with vm := (U.calling g mk a).vm } : State).setVm s₂.vm := rfl
      rw [e2] at this
      exact this
    obtain ⟨c₂, i₂, len₂, hc₂, hd₂, hf₂⟩ := hend
    have hW' : U.WarmedH s₂.vm := hW₂
    have hcc : c₂ = c := by
      have h1 : s₂.code? g.method = U.code? g.method := by
        rw [State.code?_eq, State.code?_eq, hW'.alike.method?]
      exact Option.some.inj (hc₂.symm.trans (h1.trans h.code))
    subst hcc
    have hlen : len₂ = len := by rw [hdg] at hd₂; cases hd₂; rfl
    subst hlen
    have hs₂ : s₂ = (({ U with heap := s₂.heap, slotsUsed := s₂.slotsUsed } : State).setVm s₂.vm).setTop { g with pc := g.pc + len₂, stack := v.toList ++ g.stack } := by
      refine e3.trans ?_
      rw [hf₂, State.calling_eq h.top, State.setFrames_setFrames, State.setTop_of_frames _ hr', hr]
      rfl
    have hsame : U.sameButNew ({ U with heap := s₂.heap, slotsUsed := s₂.slotsUsed } : State) L mc ms := by
      refine ⟨?_, q2, q3, q4, q5, q6⟩
      obtain ⟨t, ht, -⟩ := State.frames_cons hr
      show ({ U with heap := s₂.heap, slotsUsed := s₂.slotsUsed } : State) = { U.setFrames U.frames with heap := s₂.heap, slotsUsed := s₂.slotsUsed }
      rw [State.setFrames_self ht]
    subst hg
    refine Or.inl ⟨v, ⟨(({ U with heap := s₂.heap, slotsUsed := s₂.slotsUsed } : State).setVm s₂.vm), Ls ++ L, c0 + mc, s0 + ms⟩,
      ⟨X.admits, X.cas, X.clock, X.frames, X.room, X.hears, X.method, X.code, (X.here.setHeapUsed s₂.heap s₂.slotsUsed).setVm hW'.alike, X.tail, State.WarmedH.trans X.warmed hW', X.limits, X.bytes, X.same.trans (hsame.setVm s.vm)⟩,
      ⟨g, mk, s₂, L, rfl, rfl, hqc, rfl, hL, rfl, rfl⟩, ?_⟩
    show Steps p.tables e below _ ((({ U with heap := s₂.heap, slotsUsed := s₂.slotsUsed } : State).setVm s₂.vm).setTop { g with pc := g.pc + len₂, stack := v.toList ++ g.stack })
    rw [← hs₂]
    exact hsteps
  · obtain ⟨e2, q2, q3, q4, q5, q6⟩ := id hsm
    have e3 : s₂ = ({ (U.calling g mk a).setFrames s₂.frames with heap := s₂.heap, slotsUsed := s₂.slotsUsed } : State).setVm s₂.vm := by
      have : s₂ = ({ s₂ with vm := (U.calling g mk a).vm } : State).setVm s₂.vm := rfl
      rw [e2] at this
      exact this
    have hf₂ : s₂.frames = .throwing q :: .java g :: U.frames.tail := hend
    have hW' : U.WarmedH s₂.vm := hW₂
    have hs₂ : s₂ = ((({ U with heap := s₂.heap, slotsUsed := s₂.slotsUsed } : State).setVm s₂.vm).setTop g).pushFrame (.throwing q) := by
      refine e3.trans ?_
      rw [hf₂, State.calling_eq h.top, State.setFrames_setFrames, State.pushFrame, State.frames_setTop _ hr', State.setTop_of_frames _ hr', State.setFrames_setFrames, hr]
      rfl
    have hsame : U.sameButNew ({ U with heap := s₂.heap, slotsUsed := s₂.slotsUsed } : State) L mc ms := by
      refine ⟨?_, q2, q3, q4, q5, q6⟩
      obtain ⟨t, ht, -⟩ := State.frames_cons hr
      show ({ U with heap := s₂.heap, slotsUsed := s₂.slotsUsed } : State) = { U.setFrames U.frames with heap := s₂.heap, slotsUsed := s₂.slotsUsed }
      rw [State.setFrames_self ht]
    subst hg
    refine Or.inr ⟨q, ⟨(({ U with heap := s₂.heap, slotsUsed := s₂.slotsUsed } : State).setVm s₂.vm), Ls ++ L, c0 + mc, s0 + ms⟩,
      ⟨X.admits, X.cas, X.clock, X.frames, X.room, X.hears, X.method, X.code, (X.here.setHeapUsed s₂.heap s₂.slotsUsed).setVm hW'.alike, X.tail, State.WarmedH.trans X.warmed hW', X.limits, X.bytes, X.same.trans (hsame.setVm s.vm)⟩,
      ⟨g, mk, s₂, L, E, ce, rfl, rfl, hx, hce, hcv, hcl, rfl, hL, rfl, rfl⟩, ?_⟩
    show Steps p.tables e below _ (((({ U with heap := s₂.heap, slotsUsed := s₂.slotsUsed } : State).setVm s₂.vm).setTop g).pushFrame (.throwing q))
    rw [← hs₂]
    exact hsteps
end Payer
section Calls
variable {p : Program} {l : Launch} {e : Env} {R : Room} {s : State} {m : MethodId} {args : Array Value} {below : List Frame} {meth : Method} {c : Code} {T : State} {locs : List Loc} {cells slots : Nat}
theorem vx_callV (X : Stand p l e R s m args below meth c T locs cells slots) (hexec : p.tables.exec = Jvm.exec) {own C : String} {index : Nat} {y : MethodName} {bytes : ByteArray} {maxL : Nat} {ret : Option FieldType}
    (hown : s.vm.findClass own = some m.cls) (hlink : (Cond.methodLink own index y).before args s = true) (hinst : (Cond.instanceMethod y).before args s = true) (hsel : (Cond.selects C y y).before args s = true)
    (hcode : (Cond.code y bytes maxL ret).before args s = true) (hy : y.cls ≠ "java/lang/invoke/MethodHandle" ∧ y.cls ≠ "java/lang/invoke/VarHandle")
    {W9 : Nat} {Pre : Pt → Array Value → Prop} {Post : Pt → Array Value → Option Value → Pt → Prop} {PostX : Pt → Array Value → Addr → Pt → Prop} (hK : vx_Back l R p e below s args y 3 W9 Pre Post PostX)
    {b : Addr} {cellB : Cell} (hcell : T.heap[b]? = some cellB) (hobj : cellB.vm.isStatics = false) (hcls : s.vm.findClass C = some cellB.cls)
    {g : JFrame} (hg : g.method = m) (hsize : g.locals.size = c.maxLocals) {argsL rest : List Value} (hlen : ∀ sig, parseMethodDescriptor y.desc = some sig → argsL.length = sig.parameters.length)
    (hstack : g.stack = argsL.reverse ++ .ref b :: rest) (hW : 2 * g.monitorRoom + (rest.map fun v => v.category).sum ≤ W9) (hdg : decode c.code g.pc = .ok (.invokevirtual index, 3))
    (hpre : ∀ vm₁, s.WarmedH vm₁ → Pre ⟨T.setVm vm₁, locs, cells, slots⟩ (Value.ref b :: argsL).toArray) :
    (∃ (v : Option Value) (vm₁ : Vm) (B : Pt), s.WarmedH vm₁ ∧ Stand p l e R s m args below meth c B.U B.locs B.cells B.slots ∧ Post ⟨T.setVm vm₁, locs, cells, slots⟩ (Value.ref b :: argsL).toArray v B ∧
      ∀ target, Steps p.tables e below (B.U.setTop { g with pc := g.pc + 3, stack := v.toList ++ rest }) target → Steps p.tables e below (T.setTop g) target) ∨
    (∃ (q : Addr) (vm₁ : Vm) (B : Pt), s.WarmedH vm₁ ∧ Stand p l e R s m args below meth c B.U B.locs B.cells B.slots ∧ PostX ⟨T.setVm vm₁, locs, cells, slots⟩ (Value.ref b :: argsL).toArray q B ∧
      Steps p.tables e below (T.setTop g) ((B.U.setTop { g with stack := rest }).pushFrame (.throwing q))) := by
  obtain ⟨mk, methM, hnamed, hmethM, hstM, habM⟩ := Cond.instanceMethod_spec hinst
  obtain ⟨methM', cM, hmethM', -, -, -, -, -, -, hsigM⟩ := Cond.code_spec hnamed hcode
  cases hmethM.symm.trans hmethM'
  obtain ⟨c2, r2, m2, q1, q2, q3, q4, kP, hkP, hkPi⟩ := Cond.selects_spec hsel
  cases hcls.symm.trans q1
  cases (State.methodFound?_of_named hnamed hy).symm.trans q2
  cases hnamed.symm.trans q3
  have hselP : selectMethod e.platform s.vm cellB.cls mk = .method mk := by rw [Launch.admits_selectMethod X.admits]; exact q4
  obtain ⟨vm₁, X₁, hstep₁⟩ := X.invokevirtual hexec hown hlink hnamed hmethM hstM hkP hkPi hy (a := b) (cell := cellB) hcell
    (fun z h => by rw [h] at hobj; cases hobj) hselP hmethM habM hkP hkPi (g := g) hg (argsL := argsL) (rest := rest) (hlen _ hsigM) hstack hdg
  rcases hK m meth c ⟨T.setVm vm₁, locs, cells, slots⟩ { g with stack := rest } (.invokevirtual index) mk (Value.ref b :: argsL).toArray X₁ hg hsize hdg hW (X₁.named hnamed) (hpre vm₁ X₁.warmed) with ⟨v, B, X', hpost, hsteps⟩ | ⟨q, B, X', hpost, hsteps⟩
  · exact Or.inl ⟨v, vm₁, B, X₁.warmed, X', hpost, fun target h => hstep₁ _ fun acts => by rw [doInvoke_state]; exact hsteps.trans h⟩
  · exact Or.inr ⟨q, vm₁, B, X₁.warmed, X', hpost, hstep₁ _ fun acts => by rw [doInvoke_state]; exact hsteps⟩
theorem vx_callS (X : Stand p l e R s m args below meth c T locs cells slots) (hexec : p.tables.exec = Jvm.exec) {own : String} {index : Nat} {y : MethodName} {bytes : ByteArray} {maxL : Nat} {ret : Option FieldType}
    (hown : s.vm.findClass own = some m.cls) (hlink : (Cond.methodLink own index y).before args s = true) (hstat : (Cond.static y).before args s = true) (hinit : (Cond.initialized y.cls).before args s = true)
    (hcode : (Cond.code y bytes maxL ret).before args s = true) (hy : y.cls ≠ "java/lang/invoke/MethodHandle" ∧ y.cls ≠ "java/lang/invoke/VarHandle")
    {W9 : Nat} {Pre : Pt → Array Value → Prop} {Post : Pt → Array Value → Option Value → Pt → Prop} {PostX : Pt → Array Value → Addr → Pt → Prop} (hK : vx_Back l R p e below s args y 3 W9 Pre Post PostX)
    {g : JFrame} (hg : g.method = m) (hsize : g.locals.size = c.maxLocals) {argsL rest : List Value} (hlen : ∀ sig, parseMethodDescriptor y.desc = some sig → argsL.length = sig.parameters.length)
    (hstack : g.stack = argsL.reverse ++ rest) (hW : 2 * g.monitorRoom + (rest.map fun v => v.category).sum ≤ W9) (hdg : decode c.code g.pc = .ok (.invokestatic index, 3))
    (hpre : ∀ vm₁, s.WarmedH vm₁ → Pre ⟨T.setVm vm₁, locs, cells, slots⟩ argsL.toArray) :
    (∃ (v : Option Value) (vm₁ : Vm) (B : Pt), s.WarmedH vm₁ ∧ Stand p l e R s m args below meth c B.U B.locs B.cells B.slots ∧ Post ⟨T.setVm vm₁, locs, cells, slots⟩ argsL.toArray v B ∧
      ∀ target, Steps p.tables e below (B.U.setTop { g with pc := g.pc + 3, stack := v.toList ++ rest }) target → Steps p.tables e below (T.setTop g) target) ∨
    (∃ (q : Addr) (vm₁ : Vm) (B : Pt), s.WarmedH vm₁ ∧ Stand p l e R s m args below meth c B.U B.locs B.cells B.slots ∧ PostX ⟨T.setVm vm₁, locs, cells, slots⟩ argsL.toArray q B ∧
      Steps p.tables e below (T.setTop g) ((B.U.setTop { g with stack := rest }).pushFrame (.throwing q))) := by
  obtain ⟨mk, hnamed⟩ := Cond.code_named hcode
  obtain ⟨methM, cM, hmethM, -, -, -, -, -, -, hsigM⟩ := Cond.code_spec hnamed hcode
  have hstatic : methM.isStatic = true := Cond.static_spec hnamed hmethM hstat
  obtain ⟨kP, hkP, -⟩ := className_of_methodNamed hnamed
  have hinitP : kP.init = .initialized := Cond.initialized_spec (findClass_of_methodNamed hnamed) hkP hinit
  obtain ⟨vm₁, X₁, hstep₁⟩ := X.invokestatic hexec hown hlink hnamed hmethM hstatic hkP hinitP hy (g := g) hg (argsL := argsL) (rest := rest) (hlen _ hsigM) hstack hdg
  rcases hK m meth c ⟨T.setVm vm₁, locs, cells, slots⟩ { g with stack := rest } (.invokestatic index) mk argsL.toArray X₁ hg hsize hdg hW (X₁.named hnamed) (hpre vm₁ X₁.warmed) with ⟨v, B, X', hpost, hsteps⟩ | ⟨q, B, X', hpost, hsteps⟩
  · exact Or.inl ⟨v, vm₁, B, X₁.warmed, X', hpost, fun target h => hstep₁ _ fun acts => by rw [doInvoke_state]; exact hsteps.trans h⟩
  · exact Or.inr ⟨q, vm₁, B, X₁.warmed, X', hpost, hstep₁ _ fun acts => by rw [doInvoke_state]; exact hsteps⟩
end Calls
theorem vx_cls {s : State} {T : State} {vm₁ : Vm} {E : String} {k : ClassId} (hW : s.WarmedH vm₁) (h : (T.setVm vm₁).vm.findClass E = some k) : s.vm.findClass E = some k := by
  have h1 : vm₁.findClass E = some k := h
  rw [hW.alike.findClass] at h1
  exact h1
/-- the method's frame g, with q thrown over it -/
def vx_W (p : Program) (l : Launch) (e : Env) (R : Room) (s : State) (m : MethodId) (args : Array Value) (below : List Frame) (meth : Method) (c : Code) (H : Heap) (locs : List Loc) (cells slots : Nat) (Q : State → Prop) (g : JFrame) (q : Addr) : Prop :=
  ∀ T : State, T.heap = H → Stand p l e R s m args below meth c T locs cells slots → ∃ t, Steps p.tables e below ((T.setTop g).pushFrame (.throwing q)) t ∧ Q t
def vx_Run (p : Program) (l : Launch) (e : Env) (R : Room) (s : State) (m : MethodId) (args : Array Value) (below : List Frame) (meth : Method) (c : Code) (H : Heap) (locs : List Loc) (cells slots mc ms : Nat) (g : JFrame) (rest : List Value) (Qa : State → Outcome → State → Prop) (XC : String → State → State → Prop) (free : Addr → Prop) : Prop :=
  ∀ T : State, T.heap = H → Stand p l e R s m args below meth c T locs cells slots →
    (∃ (v : Option Value) (st₀ t T' : State) (L : List Loc), st₀.heap = H ∧ Stand p l e R s m args below meth c T' (locs ++ L) (cells + mc) (slots + ms) ∧ (∀ q ∈ L, free q.base) ∧ T'.heap = t.heap ∧ T'.vm = t.vm ∧ Qa st₀ (.returned v) t ∧
      Goes p e below T g T' { g with pc := g.pc + 3, stack := v.toList ++ rest }) ∨
    (∃ (q : Addr) (st₀ t T' : State) (L : List Loc) (E : String) (ce : Cell), st₀.heap = H ∧ Stand p l e R s m args below meth c T' (locs ++ L) (cells + mc) (slots + ms) ∧ (∀ z ∈ L, free z.base) ∧ T'.heap = t.heap ∧ T'.vm = t.vm ∧ XC E st₀ t ∧ t.heap[q]? = some ce ∧ ce.vm = .none ∧ s.vm.findClass E = some ce.cls ∧
      Steps p.tables e below (T.setTop g) ((T'.setTop { g with stack := rest }).pushFrame (.throwing q)))
def vx_X {S : Type} (px : S → Prop) (B : String → S → State → Prop) (A : Nat → Prop) : String → State → State → Prop := fun E st t => ∃ u : S, px u ∧ B E u t ∧ va_F A st t
section Runs
variable {p : Program} {l : Launch} {e : Env} {R : Room} {s : State} {m : MethodId} {args : Array Value} {below : List Frame} {meth : Method} {c : Code} {H : Heap} {locs : List Loc} {cells slots : Nat}
variable {y : MethodName} {bytes cc : ByteArray} {maxL nL mc ms n index : Nat} {ret : Option FieldType} {ws : List Cond} {rm : Room} {Pc : Array Value → State → Prop} {Qc : Array Value → State → Outcome → State → Prop} {XC : String → State → State → Prop} {free : Addr → Prop} {Ts : List Cond} {own C : String} {b : Addr} {As rest : List Value} {g : JFrame}
theorem vx_callBack (cb : CallB R s args own index y bytes maxL ret ws rm mc ms n) (hM : vx_Met l y ws rm Pc Qc XC mc ms free) (hbl : FrameBlind Pc) : vx_Back l R p e below s args y 3 8 (PreOf R mc ms Pc) (PostOf Qc mc ms free) (vx_Post XC mc ms free) := by
  obtain ⟨hrc, hrs, hfr, hlo, hws, hcw, -, hini, -⟩ := cb
  exact vx_back (bytes := bytes) (maxL := maxL) (ret := ret) hM hbl hrc hrs hfr hlo hws hcw (fun a' U hW => word_at hW (Or.inl (by first | rfl | simp [Cond.onTables, Cond.keeps, Cond.steady])) hini)
theorem vx_runV (S : CallFix p m c cc nL s args Ts own) (hM : vx_Met l y ws rm Pc Qc XC mc ms free) (cw : CallW R s args own C index y bytes maxL ret ws rm mc ms n) (hp : PreV s H C b Pc As)
    (hg : g.method = m) (hn : As.length = n) (hsize : g.locals.size = nL) (hstack : g.stack = As.reverse ++ .ref b :: rest) (hW : 2 * g.monitorRoom + (rest.map fun v => v.category).sum ≤ 8) (hdg : decode cc g.pc = .ok (.invokevirtual index, 3)) (hf : cells + mc ≤ R.cells ∧ slots + ms ≤ R.slots) :
    vx_Run p l e R s m args below meth c H locs cells slots mc ms g rest (Qc (Value.ref b :: As).toArray) XC free := by
  have hK : vx_Back l R p e below s args y 3 8 (PreOf R mc ms Pc) (PostOf Qc mc ms free) (vx_Post XC mc ms free) := vx_callBack cw.1 hM hp.1
  obtain ⟨⟨-, -, -, -, -, -, hcode, -, hy, hlen, hl⟩, hin, hse⟩ := cw
  obtain ⟨hx, hb, hml, ho, -⟩ := S
  obtain ⟨-, ⟨cellB, hcB, hoB, hclB⟩, hPc⟩ := hp
  intro T hT X
  rcases vx_callV X hx (C := C) (bytes := bytes) (maxL := maxL) (ret := ret) ho hl hin hse hcode hy hK (by rw [hT]; exact hcB) hoB hclB hg (hsize.trans hml.symm) (argsL := As) (rest := rest) (fun sig h => hn.trans (hlen sig h)) hstack hW (by rw [hb]; exact hdg)
    (fun vm₁ hW₁ => ⟨hf.1, hf.2, hPc (T.setVm vm₁) hT hW₁⟩) with ⟨v, vm₁, ⟨U', l2, c2, s2⟩, hW₁, X', ⟨g', mk, t, L, e1, e2, hq, h1, hL, h2, h3⟩, st⟩ | ⟨q, vm₁, ⟨U', l2, c2, s2⟩, hW₁, X', ⟨g', mk, t, L, E, ce, e1, e2, hq, hce, hcv, hcl, h1, hL, h2, h3⟩, st⟩
  · dsimp only [Pt.U, Pt.locs, Pt.cells, Pt.slots] at X' e1 e2 h1 h2 h3 st
    subst h1; subst h2; subst h3
    exact Or.inl ⟨v, (T.setVm vm₁).calling g' mk (Value.ref b :: As).toArray, t, U', L, hT, X', hL, e1, e2, hq, st⟩
  · dsimp only [Pt.U, Pt.locs, Pt.cells, Pt.slots] at X' e1 e2 h1 h2 h3 st hcl
    subst h1; subst h2; subst h3
    exact Or.inr ⟨q, (T.setVm vm₁).calling g' mk (Value.ref b :: As).toArray, t, U', L, E, ce, hT, X', hL, e1, e2, hq, hce, hcv, vx_cls hW₁ hcl, st⟩
theorem vx_runS (S : CallFix p m c cc nL s args Ts own) (hM : vx_Met l y ws rm Pc Qc XC mc ms free) (cw : CallB R s args own index y bytes maxL ret ws rm mc ms n ∧ (Cond.static y).before args s = true) (hp : PreS s H Pc As)
    (hg : g.method = m) (hn : As.length = n) (hsize : g.locals.size = nL) (hstack : g.stack = As.reverse ++ rest) (hW : 2 * g.monitorRoom + (rest.map fun v => v.category).sum ≤ 8) (hdg : decode cc g.pc = .ok (.invokestatic index, 3)) (hf : cells + mc ≤ R.cells ∧ slots + ms ≤ R.slots) :
    vx_Run p l e R s m args below meth c H locs cells slots mc ms g rest (Qc As.toArray) XC free := by
  have hK : vx_Back l R p e below s args y 3 8 (PreOf R mc ms Pc) (PostOf Qc mc ms free) (vx_Post XC mc ms free) := vx_callBack cw.1 hM hp.1
  obtain ⟨⟨-, -, -, -, -, -, hcode, hini, hy, hlen, hl⟩, hstt⟩ := cw
  obtain ⟨hx, hb, hml, ho, -⟩ := S
  intro T hT X
  rcases vx_callS X hx (bytes := bytes) (maxL := maxL) (ret := ret) ho hl hstt hini hcode hy hK hg (hsize.trans hml.symm) (argsL := As) (rest := rest) (fun sig h => hn.trans (hlen sig h)) hstack hW (by rw [hb]; exact hdg)
    (fun vm₁ hW₁ => ⟨hf.1, hf.2, hp.2 (T.setVm vm₁) hT hW₁⟩) with ⟨v, vm₁, ⟨U', l2, c2, s2⟩, hW₁, X', ⟨g', mk, t, L, e1, e2, hq, h1, hL, h2, h3⟩, st⟩ | ⟨q, vm₁, ⟨U', l2, c2, s2⟩, hW₁, X', ⟨g', mk, t, L, E, ce, e1, e2, hq, hce, hcv, hcl, h1, hL, h2, h3⟩, st⟩
  · dsimp only [Pt.U, Pt.locs, Pt.cells, Pt.slots] at X' e1 e2 h1 h2 h3 st
    subst h1; subst h2; subst h3
    exact Or.inl ⟨v, (T.setVm vm₁).calling g' mk As.toArray, t, U', L, hT, X', hL, e1, e2, hq, st⟩
  · dsimp only [Pt.U, Pt.locs, Pt.cells, Pt.slots] at X' e1 e2 h1 h2 h3 st hcl
    subst h1; subst h2; subst h3
    exact Or.inr ⟨q, (T.setVm vm₁).calling g' mk As.toArray, t, U', L, E, ce, hT, X', hL, e1, e2, hq, hce, hcv, vx_cls hW₁ hcl, st⟩
end Runs
section Rows
variable {p : Program} {l : Launch} {e : Env} {R : Room} {s : State} {m : MethodId} {args : Array Value} {below : List Frame} {meth : Method} {c : Code} {H : Heap} {locs : List Loc} {cells slots : Nat} {Q : State → Prop}
variable {mc ms : Nat} {free : Addr → Prop} {A0 A1 : Nat → Prop} {H0 : Heap} {a : Array Value} {pc : Nat} {ls : Array Slot} {st0 rest : List Value}
theorem vx_keep {st₀ t T' : State} {L : List Loc} (h0 : st₀.heap = H) (e1 : T'.heap = t.heap) (hS : va_S A0 H0 H locs) (hA : ∀ q, q < H.size → A1 q → A0 q) (hf : ∀ q, free q → A0 q) (hL : ∀ q ∈ L, free q.base) (hF : va_F A1 st₀ t) :
    H.size ≤ T'.heap.size ∧ (∀ q : Nat, q < H.size → ¬ A1 q → T'.heap[q]? = H[q]?) ∧ va_S A0 H0 T'.heap (locs ++ L) := by
  obtain ⟨hz, hk⟩ := hF
  rw [h0] at hz hk
  exact ⟨by rw [e1]; exact hz, fun q h1 h2 => by rw [e1]; exact hk q h1 h2,
    ⟨Nat.le_trans hS.1 (by rw [e1]; exact hz), fun q h1 h2 => by rw [e1, hk q (Nat.lt_of_lt_of_le h1 hS.1) (fun z => h2 (hA q (Nat.lt_of_lt_of_le h1 hS.1) z))]; exact hS.2.1 q h1 h2, fun q hq => by
      rcases List.mem_append.mp hq with h | h
      · exact hS.2.2 q h
      · exact hf _ (hL q h)⟩⟩
theorem vx_calli {S SX : Type} {post : Int32 → S → Prop} {px : SX → Prop} {B : S → State → Prop} {BX : String → SX → State → Prop} {AX : Nat → Prop} (hr : vx_Run p l e R s m args below meth c H locs cells slots mc ms (F0 m pc ls st0) rest (va_Qi post B A1 a) (vx_X px BX AX) free) (hS : va_S A0 H0 H locs) (hA : ∀ q, q < H.size → A1 q → A0 q) (hf : ∀ q, free q → A0 q) (hAX : ∀ q, q < H.size → AX q → A0 q)
    (kx : ∀ (E : String) (ce : Cell) (q9 : Addr) (u : SX) (t : State) (H1 : Heap) (locs1 : List Loc), t.heap = H1 → s.vm.Alike t.vm → px u → BX E u t → H.size ≤ H1.size → (∀ q : Nat, q < H.size → ¬ AX q → H1[q]? = H[q]?) → va_S A0 H0 H1 locs1 → H1[q9]? = some ce → ce.vm = .none → s.vm.findClass E = some ce.cls → vx_W p l e R s m args below meth c H1 locs1 (cells + mc) (slots + ms) Q (F0 m pc ls rest) q9)
    (kk : ∀ (r : Int32) (u : S) (t : State) (H1 : Heap) (locs1 : List Loc), t.heap = H1 → s.vm.Alike t.vm → post r u → B u t → H.size ≤ H1.size → (∀ q : Nat, q < H.size → ¬ A1 q → H1[q]? = H[q]?) → va_S A0 H0 H1 locs1 → W p l e R s m args below meth c H1 locs1 (cells + mc) (slots + ms) Q (F0 m (pc + 3) ls (.int r :: rest))) : W p l e R s m args below meth c H locs cells slots Q (F0 m pc ls st0) := by
  intro T hT X
  rcases hr T hT X with ⟨v, st₀, t, T', L, h0, X', hL, e1, e2, ⟨⟨r, u, hv, hp, hb⟩, hF⟩, st⟩ | ⟨q, st₀, t, T', L, E, ce, h0, X', hL, e1, e2, ⟨u, hp, hb, hF⟩, hce, hcv, hcl, st⟩
  · cases hv
    obtain ⟨k1, k2, k3⟩ := vx_keep h0 e1 hS hA hf hL hF
    obtain ⟨t2, a1, b1⟩ := kk r u t T'.heap (locs ++ L) e1.symm (by rw [← e2]; exact X'.warmed.alike) hp hb k1 k2 k3 T' rfl X'
    exact ⟨t2, st t2 a1, b1⟩
  · obtain ⟨k1, k2, k3⟩ := vx_keep h0 e1 hS hAX hf hL hF
    obtain ⟨t2, a1, b1⟩ := kx E ce q u t T'.heap (locs ++ L) e1.symm (by rw [← e2]; exact X'.warmed.alike) hp hb k1 k2 k3 (by rw [e1]; exact hce) hcv hcl T' rfl X'
    exact ⟨t2, st.trans a1, b1⟩
theorem vx_calll {S SX : Type} {post : Int64 → S → Prop} {px : SX → Prop} {B : S → State → Prop} {BX : String → SX → State → Prop} {AX : Nat → Prop} (hr : vx_Run p l e R s m args below meth c H locs cells slots mc ms (F0 m pc ls st0) rest (va_Ql post B A1 a) (vx_X px BX AX) free) (hS : va_S A0 H0 H locs) (hA : ∀ q, q < H.size → A1 q → A0 q) (hf : ∀ q, free q → A0 q) (hAX : ∀ q, q < H.size → AX q → A0 q)
    (kx : ∀ (E : String) (ce : Cell) (q9 : Addr) (u : SX) (t : State) (H1 : Heap) (locs1 : List Loc), t.heap = H1 → s.vm.Alike t.vm → px u → BX E u t → H.size ≤ H1.size → (∀ q : Nat, q < H.size → ¬ AX q → H1[q]? = H[q]?) → va_S A0 H0 H1 locs1 → H1[q9]? = some ce → ce.vm = .none → s.vm.findClass E = some ce.cls → vx_W p l e R s m args below meth c H1 locs1 (cells + mc) (slots + ms) Q (F0 m pc ls rest) q9)
    (kk : ∀ (r : Int64) (u : S) (t : State) (H1 : Heap) (locs1 : List Loc), t.heap = H1 → s.vm.Alike t.vm → post r u → B u t → H.size ≤ H1.size → (∀ q : Nat, q < H.size → ¬ A1 q → H1[q]? = H[q]?) → va_S A0 H0 H1 locs1 → W p l e R s m args below meth c H1 locs1 (cells + mc) (slots + ms) Q (F0 m (pc + 3) ls (.long r :: rest))) : W p l e R s m args below meth c H locs cells slots Q (F0 m pc ls st0) := by
  intro T hT X
  rcases hr T hT X with ⟨v, st₀, t, T', L, h0, X', hL, e1, e2, ⟨⟨r, u, hv, hp, hb⟩, hF⟩, st⟩ | ⟨q, st₀, t, T', L, E, ce, h0, X', hL, e1, e2, ⟨u, hp, hb, hF⟩, hce, hcv, hcl, st⟩
  · cases hv
    obtain ⟨k1, k2, k3⟩ := vx_keep h0 e1 hS hA hf hL hF
    obtain ⟨t2, a1, b1⟩ := kk r u t T'.heap (locs ++ L) e1.symm (by rw [← e2]; exact X'.warmed.alike) hp hb k1 k2 k3 T' rfl X'
    exact ⟨t2, st t2 a1, b1⟩
  · obtain ⟨k1, k2, k3⟩ := vx_keep h0 e1 hS hAX hf hL hF
    obtain ⟨t2, a1, b1⟩ := kx E ce q u t T'.heap (locs ++ L) e1.symm (by rw [← e2]; exact X'.warmed.alike) hp hb k1 k2 k3 (by rw [e1]; exact hce) hcv hcl T' rfl X'
    exact ⟨t2, st.trans a1, b1⟩
theorem vx_callf {S SX : Type} {post : UInt32 → S → Prop} {px : SX → Prop} {B : S → State → Prop} {BX : String → SX → State → Prop} {AX : Nat → Prop} (hr : vx_Run p l e R s m args below meth c H locs cells slots mc ms (F0 m pc ls st0) rest (va_Qf post B A1 a) (vx_X px BX AX) free) (hS : va_S A0 H0 H locs) (hA : ∀ q, q < H.size → A1 q → A0 q) (hf : ∀ q, free q → A0 q) (hAX : ∀ q, q < H.size → AX q → A0 q)
    (kx : ∀ (E : String) (ce : Cell) (q9 : Addr) (u : SX) (t : State) (H1 : Heap) (locs1 : List Loc), t.heap = H1 → s.vm.Alike t.vm → px u → BX E u t → H.size ≤ H1.size → (∀ q : Nat, q < H.size → ¬ AX q → H1[q]? = H[q]?) → va_S A0 H0 H1 locs1 → H1[q9]? = some ce → ce.vm = .none → s.vm.findClass E = some ce.cls → vx_W p l e R s m args below meth c H1 locs1 (cells + mc) (slots + ms) Q (F0 m pc ls rest) q9)
    (kk : ∀ (r : UInt32) (u : S) (t : State) (H1 : Heap) (locs1 : List Loc), t.heap = H1 → s.vm.Alike t.vm → post r u → B u t → H.size ≤ H1.size → (∀ q : Nat, q < H.size → ¬ A1 q → H1[q]? = H[q]?) → va_S A0 H0 H1 locs1 → W p l e R s m args below meth c H1 locs1 (cells + mc) (slots + ms) Q (F0 m (pc + 3) ls (.float r :: rest))) : W p l e R s m args below meth c H locs cells slots Q (F0 m pc ls st0) := by
  intro T hT X
  rcases hr T hT X with ⟨v, st₀, t, T', L, h0, X', hL, e1, e2, ⟨⟨r, u, hv, hp, hb⟩, hF⟩, st⟩ | ⟨q, st₀, t, T', L, E, ce, h0, X', hL, e1, e2, ⟨u, hp, hb, hF⟩, hce, hcv, hcl, st⟩
  · cases hv
    obtain ⟨k1, k2, k3⟩ := vx_keep h0 e1 hS hA hf hL hF
    obtain ⟨t2, a1, b1⟩ := kk r u t T'.heap (locs ++ L) e1.symm (by rw [← e2]; exact X'.warmed.alike) hp hb k1 k2 k3 T' rfl X'
    exact ⟨t2, st t2 a1, b1⟩
  · obtain ⟨k1, k2, k3⟩ := vx_keep h0 e1 hS hAX hf hL hF
    obtain ⟨t2, a1, b1⟩ := kx E ce q u t T'.heap (locs ++ L) e1.symm (by rw [← e2]; exact X'.warmed.alike) hp hb k1 k2 k3 (by rw [e1]; exact hce) hcv hcl T' rfl X'
    exact ⟨t2, st.trans a1, b1⟩
theorem vx_calld {S SX : Type} {post : UInt64 → S → Prop} {px : SX → Prop} {B : S → State → Prop} {BX : String → SX → State → Prop} {AX : Nat → Prop} (hr : vx_Run p l e R s m args below meth c H locs cells slots mc ms (F0 m pc ls st0) rest (va_Qd post B A1 a) (vx_X px BX AX) free) (hS : va_S A0 H0 H locs) (hA : ∀ q, q < H.size → A1 q → A0 q) (hf : ∀ q, free q → A0 q) (hAX : ∀ q, q < H.size → AX q → A0 q)
    (kx : ∀ (E : String) (ce : Cell) (q9 : Addr) (u : SX) (t : State) (H1 : Heap) (locs1 : List Loc), t.heap = H1 → s.vm.Alike t.vm → px u → BX E u t → H.size ≤ H1.size → (∀ q : Nat, q < H.size → ¬ AX q → H1[q]? = H[q]?) → va_S A0 H0 H1 locs1 → H1[q9]? = some ce → ce.vm = .none → s.vm.findClass E = some ce.cls → vx_W p l e R s m args below meth c H1 locs1 (cells + mc) (slots + ms) Q (F0 m pc ls rest) q9)
    (kk : ∀ (r : UInt64) (u : S) (t : State) (H1 : Heap) (locs1 : List Loc), t.heap = H1 → s.vm.Alike t.vm → post r u → B u t → H.size ≤ H1.size → (∀ q : Nat, q < H.size → ¬ A1 q → H1[q]? = H[q]?) → va_S A0 H0 H1 locs1 → W p l e R s m args below meth c H1 locs1 (cells + mc) (slots + ms) Q (F0 m (pc + 3) ls (.double r :: rest))) : W p l e R s m args below meth c H locs cells slots Q (F0 m pc ls st0) := by
  intro T hT X
  rcases hr T hT X with ⟨v, st₀, t, T', L, h0, X', hL, e1, e2, ⟨⟨r, u, hv, hp, hb⟩, hF⟩, st⟩ | ⟨q, st₀, t, T', L, E, ce, h0, X', hL, e1, e2, ⟨u, hp, hb, hF⟩, hce, hcv, hcl, st⟩
  · cases hv
    obtain ⟨k1, k2, k3⟩ := vx_keep h0 e1 hS hA hf hL hF
    obtain ⟨t2, a1, b1⟩ := kk r u t T'.heap (locs ++ L) e1.symm (by rw [← e2]; exact X'.warmed.alike) hp hb k1 k2 k3 T' rfl X'
    exact ⟨t2, st t2 a1, b1⟩
  · obtain ⟨k1, k2, k3⟩ := vx_keep h0 e1 hS hAX hf hL hF
    obtain ⟨t2, a1, b1⟩ := kx E ce q u t T'.heap (locs ++ L) e1.symm (by rw [← e2]; exact X'.warmed.alike) hp hb k1 k2 k3 (by rw [e1]; exact hce) hcv hcl T' rfl X'
    exact ⟨t2, st.trans a1, b1⟩
theorem vx_callv {S SX : Type} {post : S → Prop} {px : SX → Prop} {B : S → State → Prop} {BX : String → SX → State → Prop} {AX : Nat → Prop} (hr : vx_Run p l e R s m args below meth c H locs cells slots mc ms (F0 m pc ls st0) rest (va_Qv post B A1 a) (vx_X px BX AX) free) (hS : va_S A0 H0 H locs) (hA : ∀ q, q < H.size → A1 q → A0 q) (hf : ∀ q, free q → A0 q) (hAX : ∀ q, q < H.size → AX q → A0 q)
    (kx : ∀ (E : String) (ce : Cell) (q9 : Addr) (u : SX) (t : State) (H1 : Heap) (locs1 : List Loc), t.heap = H1 → s.vm.Alike t.vm → px u → BX E u t → H.size ≤ H1.size → (∀ q : Nat, q < H.size → ¬ AX q → H1[q]? = H[q]?) → va_S A0 H0 H1 locs1 → H1[q9]? = some ce → ce.vm = .none → s.vm.findClass E = some ce.cls → vx_W p l e R s m args below meth c H1 locs1 (cells + mc) (slots + ms) Q (F0 m pc ls rest) q9)
    (kk : ∀ (u : S) (t : State) (H1 : Heap) (locs1 : List Loc), t.heap = H1 → s.vm.Alike t.vm → post u → B u t → H.size ≤ H1.size → (∀ q : Nat, q < H.size → ¬ A1 q → H1[q]? = H[q]?) → va_S A0 H0 H1 locs1 → W p l e R s m args below meth c H1 locs1 (cells + mc) (slots + ms) Q (F0 m (pc + 3) ls (rest))) : W p l e R s m args below meth c H locs cells slots Q (F0 m pc ls st0) := by
  intro T hT X
  rcases hr T hT X with ⟨v, st₀, t, T', L, h0, X', hL, e1, e2, ⟨⟨u, hv, hp, hb⟩, hF⟩, st⟩ | ⟨q, st₀, t, T', L, E, ce, h0, X', hL, e1, e2, ⟨u, hp, hb, hF⟩, hce, hcv, hcl, st⟩
  · cases hv
    obtain ⟨k1, k2, k3⟩ := vx_keep h0 e1 hS hA hf hL hF
    obtain ⟨t2, a1, b1⟩ := kk u t T'.heap (locs ++ L) e1.symm (by rw [← e2]; exact X'.warmed.alike) hp hb k1 k2 k3 T' rfl X'
    exact ⟨t2, st t2 a1, b1⟩
  · obtain ⟨k1, k2, k3⟩ := vx_keep h0 e1 hS hAX hf hL hF
    obtain ⟨t2, a1, b1⟩ := kx E ce q u t T'.heap (locs ++ L) e1.symm (by rw [← e2]; exact X'.warmed.alike) hp hb k1 k2 k3 (by rw [e1]; exact hce) hcv hcl T' rfl X'
    exact ⟨t2, st.trans a1, b1⟩
/-- caught by the row x of this method's table; the rows ahead don't take it -/
theorem vx_catch {own name : String} {E : String} {ce : Cell} {q : Addr} (hown : s.vm.findClass own = some m.cls) (pre : List ExceptionTableEntry) (x : ExceptionTableEntry) (suf : List ExceptionTableEntry) (hsplit : c.exceptionTable.toList = pre ++ x :: suf)
    (hpass : ∀ z ∈ pre, covers z pc = false ∨ (z.catchType ≠ 0 ∧ ∃ nm : String, (Cond.classLink own z.catchType nm).before args s = true ∧ va_Nc E nm s)) (hx : covers x pc = true) (h0 : x.catchType ≠ 0)
    (hlink : (Cond.classLink own x.catchType name).before args s = true) (hcast : (Cond.castable E name).before args s = true) (hcell : H[q]? = some ce) (hv : ce.vm = .none) (hcl : s.vm.findClass E = some ce.cls)
    (kk : W p l e R s m args below meth c H locs cells slots Q (F0 m x.handlerPc ls [.ref q])) : vx_W p l e R s m args below meth c H locs cells slots Q (F0 m pc ls rest) q := by
  intro T hT X
  have hpl : e.platform.magicAccessors = ({} : Platform).magicAccessors := by rw [X.admits.platform]
  obtain ⟨c3, c4, hc3, hc4, hasg⟩ := Cond.castable_spec hcast
  cases Option.some.inj (hc3.symm.trans hcl)
  obtain ⟨c5, hc5, hcl5⟩ := Cond.classLink_spec hown hlink e.platform hpl
  cases Option.some.inj (hc4.symm.trans hc5)
  obtain ⟨vm', X', st⟩ := X.thenCaughtThrough q (g := F0 m pc ls rest) rfl (Steps.refl _) (by rw [hT]; exact hcell) (by rw [hv]; rfl) (by obtain ⟨k9, h9, -⟩ := Vm.findClass_spec hcl; exact ⟨k9, h9⟩) pre x suf hsplit
    (fun z hz => by
      rcases hpass z hz with h | ⟨hz0, nm, hl1, hn1⟩
      · exact Or.inl h
      · obtain ⟨c6, hc6, hcl6⟩ := Cond.classLink_spec hown hl1 e.platform hpl
        obtain ⟨a8, b8, h1, h2, h3⟩ := hn1
        cases Option.some.inj (h1.symm.trans hcl)
        cases Option.some.inj (h2.symm.trans hc6)
        exact Or.inr ⟨hz0, _, hcl6, h3⟩) hx (Or.inr ⟨h0, c4, hcl5, hasg⟩)
  obtain ⟨t, a1, b1⟩ := kk (T.setVm vm') hT X'
  exact ⟨t, st.trans a1, b1⟩
end Rows
section Ends
variable {p : Program} {l : Launch} {e : Env} {R : Room} {s : State} {m : MethodId} {args : Array Value} {below : List Frame} {meth : Method} {c : Code} {H : Heap} {locs : List Loc} {cells slots : Nat} {Q : State → Prop}
variable {mc ms : Nat} {free : Addr → Prop} {A0 A1 : Nat → Prop} {H0 : Heap} {a : Array Value} {ls : Array Slot} {st0 rest : List Value}
variable {Qc : Array Value → State → Outcome → State → Prop} {XC : String → State → State → Prop}
/-- what a body that may throw owes at its end -/
def vx_MQ (below : List Frame) (Qc : Array Value → State → Outcome → State → Prop) (XC : String → State → State → Prop) (a : Array Value) (s : State) (mc ms : Nat) (free : Addr → Prop) : State → Prop := fun t =>
  ∃ o, t.status = .running ∧ Ended t below o ∧ vx_Q Qc XC mc ms free a s o t
theorem vx_ret {g : JFrame} {mc ms : Nat} (k : W p l e R s m args below meth c H locs cells slots (MQ below Qc args s mc ms free) g) : W p l e R s m args below meth c H locs cells slots (vx_MQ below Qc XC args s mc ms free) g := by
  intro T hT X
  obtain ⟨t, a1, o, b1, b2, b3, b4⟩ := k T hT X
  exact ⟨t, a1, o, b1, b2, Or.inl ⟨b3, b4⟩⟩
/-- not caught here: it goes on to the caller -/
theorem vx_widen {g : JFrame} {q : Addr} {k n : Nat} (h1 : cells ≤ k) (h2 : slots ≤ n) (kk : vx_W p l e R s m args below meth c H locs k n Q g q) : vx_W p l e R s m args below meth c H locs cells slots Q g q := fun T hT X => kk T hT (stand_widen X h1 h2)
theorem vx_out {pc : Nat} {E : String} {ce : Cell} {q : Addr} {mc ms : Nat} (hout : ∀ x ∈ c.exceptionTable.toList, covers x pc = false) (hlocks : meth.locks = false) (hcell : H[q]? = some ce) (hv : ce.vm = .none) (hcl : s.vm.findClass E = some ce.cls)
    (hx : ∀ t : State, t.heap = H → s.vm.Alike t.vm → XC E s t) (hf : ∀ z ∈ locs, free z.base) (hc : cells ≤ mc) (hs : slots ≤ ms) :
    vx_W p l e R s m args below meth c H locs cells slots (vx_MQ below Qc XC args s mc ms free) (F0 m pc ls rest) q := by
  intro T hT X
  obtain ⟨st1, hrun, hend, hW, hsm⟩ := X.leaveThrown q (g := F0 m pc ls rest) rfl rfl rfl hout hlocks
  have hcell9 : (T.setFrames (.throwing q :: below)).heap[q]? = some ce := by
    show T.heap[q]? = some ce
    rw [hT]; exact hcell
  exact ⟨_, st1, .threw q, hrun, hend, Or.inr ⟨q, rfl, E, ce, locs, hx _ hT hW.alike, hcell9, hv, hcl, hW, hsm.mono hc hs, hf⟩⟩
theorem vx_frame {U : State} {k n : Nat} (h : s.sameButNew ({ U with vm := s.vm } : State) locs k n) : s.heap.size ≤ U.heap.size ∧ ∀ q : Nat, q < s.heap.size → (∀ z ∈ locs, z.base ≠ q) → U.heap[q]? = s.heap[q]? := by
  obtain ⟨-, h2, -, -, -, h6⟩ := h
  refine ⟨h2, fun q hq hz => ?_⟩
  obtain ⟨c9, e1, e2, e3, e4⟩ := h6 q _ (Array.getElem?_eq_getElem hq)
  have hs : c9.slots = (s.heap[q]).slots := Array.ext_getElem? fun i => e4 i fun hm => hz _ hm rfl
  have h9 : c9 = s.heap[q] := by
    rw [hs] at e2
    exact e2
  have e5 : U.heap[q]? = some c9 := e1
  rw [e5, h9, Array.getElem?_eq_getElem hq]
/-- the words of a throw but the four that speak of the heap -/
def vx_no (w : Cond) : Bool := decide (w ≠ .isRef (.static Bundle.tN "UNASSIGNED_STACK" Bundle.steD)) && decide (w ≠ .isRef (.static Bundle.tN "SUPPRESSED_SENTINEL" Bundle.listD)) && decide (w ≠ .laysStatic Bundle.tN "UNASSIGNED_STACK" Bundle.steD) && decide (w ≠ .laysStatic Bundle.tN "SUPPRESSED_SENTINEL" Bundle.listD)
def vx_at0 (own : String) (ic : Nat) (X : String) (names : List String) : List Cond := (Bundle.ownAtoms0 own ic X names).filter vx_no
def vx_atS (own : String) (ic : Nat) (X : String) (names : List String) : List Cond := (Bundle.ownAtoms own ic X names).filter vx_no
/-- a word that the tables alone decide, or a good one -/
def vx_ot (w : Cond) : Bool := w.onTables || goodWord w
theorem vx_ot_at {args a' : Array Value} {s U : State} {w : Cond} (hW : s.WarmedH U.vm) (hvm : s.vm = U.vm) (hg : vx_ot w = true) (h : w.before args s = true) : w.before a' U = true := by
  simp only [vx_ot, Bool.or_eq_true] at hg
  rcases hg with hg | hg
  · exact va_tabs hg hvm h
  · exact word_at hW (good_of_word hg) h
/-- a list's words: the good ones out of the method's own list, the others by premises of their own -/
theorem vx_hat {args : Array Value} {s : State} {L B : List Cond} (h1 : ∀ w ∈ L.filter goodWord, w.before args s = true) (h2 : ∀ w ∈ L.filter (fun w => !goodWord w), w ∈ B) (h3 : ∀ w ∈ B, w.before args s = true) : ∀ w ∈ L, w.before args s = true := by
  intro w hw
  by_cases g : goodWord w = true
  · exact h1 w (List.mem_filter.mpr ⟨hw, g⟩)
  · refine h3 w (h2 w (List.mem_filter.mpr ⟨hw, ?_⟩))
    show (!goodWord w) = true
    cases hgw : goodWord w
    · rfl
    · exact absurd hgw g
theorem vx_c {args : Array Value} {s : State} {w : Cond} {B : List Cond} (h : w.before args s = true) (t : ∀ w ∈ B, w.before args s = true) : ∀ w' ∈ w :: B, w'.before args s = true := fun w' h' => (List.mem_cons.mp h').elim (fun e => by rw [e]; exact h) (t w')
theorem vx_n {args : Array Value} {s : State} : ∀ w ∈ ([] : List Cond), w.before args s = true := fun _ h => nomatch h
theorem vx_own {args : Array Value} {s : State} {L : List Cond} (h1 : ∀ w ∈ L.filter vx_no, w.before args s = true)
    (hU : (Cond.isRef (.static Bundle.tN "UNASSIGNED_STACK" Bundle.steD)).before args s = true) (hN : (Cond.isRef (.static Bundle.tN "SUPPRESSED_SENTINEL" Bundle.listD)).before args s = true)
    (lU : (Cond.laysStatic Bundle.tN "UNASSIGNED_STACK" Bundle.steD).before args s = true) (lN : (Cond.laysStatic Bundle.tN "SUPPRESSED_SENTINEL" Bundle.listD).before args s = true) : ∀ w ∈ L, w.before args s = true := by
  intro w hw
  by_cases e1 : w = .isRef (.static Bundle.tN "UNASSIGNED_STACK" Bundle.steD)
  · rw [e1]; exact hU
  · by_cases e2 : w = .isRef (.static Bundle.tN "SUPPRESSED_SENTINEL" Bundle.listD)
    · rw [e2]; exact hN
    · by_cases e3 : w = .laysStatic Bundle.tN "UNASSIGNED_STACK" Bundle.steD
      · rw [e3]; exact lU
      · by_cases e4 : w = .laysStatic Bundle.tN "SUPPRESSED_SENTINEL" Bundle.listD
        · rw [e4]; exact lN
        · exact h1 w (List.mem_filter.mpr ⟨hw, by unfold vx_no; rw [decide_eq_true e1, decide_eq_true e2, decide_eq_true e3, decide_eq_true e4]; rfl⟩)
/-- where a static field lies, its class's statics cell in H -/
def vx_L (C n d : String) (A : Nat → Prop) (U : State) (H : Heap) : Prop := ∃ (c : ClassId) (k : Class) (i : Nat) (f : Field) (a : Nat) (cell : Cell), U.vm.findClass C = some c ∧ U.fieldFound? C n d = some (c, k, i, f) ∧ f.isStatic = true ∧ k.statics = some a ∧ H[a]? = some cell ∧ cell.vm.isStatics = true ∧ cell.cls = c ∧ f.slot < cell.slots.size ∧ k.staticTypes[f.slot]? = some f.type ∧ ¬ A a
theorem vx_L.moved {C n d : String} {A : Nat → Prop} {u U : State} {H : Heap} (hvm : u.vm.Alike U.vm) (h : vx_L C n d A u H) : vx_L C n d A U H := by
  obtain ⟨c, k, i, f, a, cell, h1, h2, h3, h4, h5, h6, h7, h8, h9, h10⟩ := h
  obtain ⟨k', hi', he⟩ := State.fieldFound?_setVm hvm h2
  exact ⟨c, k', i, f, a, cell, by rw [hvm.findClass]; exact h1, hi', h3, by rw [he]; exact h4, h5, h6, h7, h8, by rw [he]; exact h9, h10⟩
theorem vx_L.kept {C n d : String} {A : Nat → Prop} {U : State} {H H1 : Heap} (h : vx_L C n d A U H) (hq : ∀ a : Nat, a < H.size → ¬ A a → H1[a]? = H[a]?) : vx_L C n d A U H1 := by
  obtain ⟨c, k, i, f, a, cell, h1, h2, h3, h4, h5, h6, h7, h8, h9, h10⟩ := h
  exact ⟨c, k, i, f, a, cell, h1, h2, h3, h4, by rw [hq a (Array.getElem?_eq_some_iff.mp h5).1 h10]; exact h5, h6, h7, h8, h9, h10⟩
theorem vx_L.narrow {C n d : String} {A B : Nat → Prop} {U : State} {H : Heap} (h : vx_L C n d A U H) (hAB : ∀ q, B q → A q) : vx_L C n d B U H := by
  obtain ⟨c, k, i, f, a, cell, h1, h2, h3, h4, h5, h6, h7, h8, h9, h10⟩ := h
  exact ⟨c, k, i, f, a, cell, h1, h2, h3, h4, h5, h6, h7, h8, h9, fun z => h10 (hAB _ z)⟩
theorem vx_L.word {C n d : String} {A : Nat → Prop} {s : State} {args : Array Value} (h : vx_L C n d A s s.heap) : (Cond.laysStatic C n d).before args s = true := by
  obtain ⟨c, k, i, f, a, cell, h1, h2, h3, h4, h5, h6, h7, h8, h9, -⟩ := h
  show (Cond.laysStatic C n d).holds args s none s [] = true
  exact Cond.laysStatic_of h1 h2 h3 h4 h5 h6 h7 h8 h9
/-- .. and what it holds: null or some reference -/
def vx_Zq (C n d : String) (A : Nat → Prop) (U : State) (H : Heap) : Prop := va_Zq C n d A U H ∧ vx_L C n d A U H
theorem vx_Zq.moved {C n d : String} {A : Nat → Prop} {u U : State} {H : Heap} (hvm : u.vm.Alike U.vm) (h : vx_Zq C n d A u H) : vx_Zq C n d A U H := ⟨va_Zq.moved hvm h.1, vx_L.moved hvm h.2⟩
theorem vx_Zq.kept {C n d : String} {A : Nat → Prop} {U : State} {H H1 : Heap} (h : vx_Zq C n d A U H) (hq : ∀ a : Nat, a < H.size → ¬ A a → H1[a]? = H[a]?) : vx_Zq C n d A U H1 := ⟨va_Zq.kept h.1 hq, vx_L.kept h.2 hq⟩
theorem vx_Zq.narrow {C n d : String} {A B : Nat → Prop} {U : State} {H : Heap} (h : vx_Zq C n d A U H) (hAB : ∀ q, B q → A q) : vx_Zq C n d B U H := ⟨va_Zq.narrow h.1 hAB, vx_L.narrow h.2 hAB⟩
theorem vx_Zqof {args : Array Value} {s : State} {C n d : String} {A : Nat → Prop} (hl : (Cond.laysStatic C n d).before args s = true) (hini : (Cond.initialized C).before args s = true) (h : (Cond.isRef (.static C n d)).before args s = true) (hA : ∀ a : Nat, a < s.heap.size → ¬ A a) : vx_Zq C n d A s s.heap := by
  refine ⟨va_Zqof hl hini h hA, ?_⟩
  obtain ⟨c, k, i, f, a, cell, h1, h2, h3, h4, h5, h6, h7, h8, h9⟩ := Cond.laysStatic_spec hl
  exact ⟨c, k, i, f, a, cell, h1, h2, h3, h4, h5, h6, h7, h8, h9, hA a (Array.getElem?_eq_some_iff.mp h5).1⟩
theorem vx_isRef {C n d : String} {v : Value} {A : Nat → Prop} {s : State} {args : Array Value} (h : va_Z C n d v A s s.heap) (hv : v.isRef = true) : (Cond.isRef (.static C n d)).before args s = true := by
  obtain ⟨cf, kf, fi, f, a, cell, h1, h2, h3, h4, h5, h6, h7, -⟩ := h
  have he : (Term.static C n d).eval args s none [] s = some v := by
    simp [Term.eval, State.fieldNamed?, h1, h2, h4, h5, h6, h7]
  simp only [Cond.before, Cond.holds, Cond.value, he]
  cases v <;> simp_all [Value.isRef]
theorem vx_isRefq {C n d : String} {A : Nat → Prop} {s : State} {args : Array Value} (h : va_Zq C n d A s s.heap) : (Cond.isRef (.static C n d)).before args s = true := by
  rcases h with h | ⟨t, h⟩
  · exact vx_isRef h rfl
  · exact vx_isRef h rfl
/-- the same frame, seen from here: as if the method were called anew in this heap -/
theorem vx_rebase {T : State} (X : Stand p l e R s m args below meth c T locs cells slots) {R' : Room} (hf : R'.frames ≤ R.frames) (hl : R'.locals ≤ R.locals) (hc : cells + R'.cells ≤ R.cells) (hs : slots + R'.slots ≤ R.slots) :
    Stand p l e R' ((T.setVm s.vm).setFrames (.invoking m args :: below)) m args below meth c T [] 0 0 := by
  have htop : (T.setVm s.vm).topJava?.isSome := X.here.top
  have hF : ((T.setVm s.vm).setFrames (.invoking m args :: below)).frames = .invoking m args :: below := State.frames_setFrames _ (State.cur_lt_of_top htop)
  obtain ⟨g₀, hg0⟩ := Option.isSome_iff_exists.mp htop
  obtain ⟨r, hr⟩ := State.topJava?_eq_some.mp hg0
  have hl9 : e.platform.stackLimits (T.setVm s.vm).me = e.platform.stackLimits s.me := X.limits
  have hb9 : (T.setVm s.vm).me.stackBytes = s.me.stackBytes := X.bytes
  refine ⟨X.admits, X.cas, X.clock, hF, ?_, X.hears, X.method, X.code, X.here, X.tail, X.warmed, ?_, ?_, ?_⟩
  · have h := X.room
    have hU : ((T.setVm s.vm).setFrames (.invoking m args :: below)).localsInUse = s.localsInUse := by
      rw [State.localsInUse_invoking hF (meth := meth) (c := c) X.method X.code, State.localsInUse_invoking X.frames X.method X.code]
    simp only [State.hasRoom, Bool.and_eq_true, decide_eq_true_eq] at h ⊢
    obtain ⟨⟨⟨⟨h1, h2, h3, h4, h5, h6⟩, h7⟩, h8⟩, h9⟩ := h
    rw [X.frames, List.length_cons] at h2 h3
    have q1 := X.heapSize
    have q2 := X.used
    simp only [hF, hU, List.length_cons, State.stackLimits_setFrames, State.stackBytes_setFrames, hl9, hb9]
    refine ⟨⟨⟨⟨by omega, by omega, by omega, by omega, by omega, h6⟩, ?_⟩, ?_⟩, X.book⟩
    · show T.heap.size + R'.cells ≤ e.platform.maxCells
      omega
    · show T.slotsUsed + R'.slots ≤ e.platform.maxSlots
      omega
  · rw [State.stackLimits_setFrames]; rfl
  · rw [State.stackBytes_setFrames]; rfl
  · refine ⟨?_, Nat.le_refl _, Nat.le_refl _, ?_, ?_, fun a c9 h9 => ⟨c9, h9, rfl, rfl, fun _ _ => rfl⟩⟩
    · obtain ⟨t, ht, -⟩ := State.frames_cons hr
      show T.setVm s.vm = { ((T.setVm s.vm).setFrames (.invoking m args :: below)).setFrames (T.setVm s.vm).frames with heap := T.heap, slotsUsed := T.slotsUsed }
      rw [State.setFrames_setFrames, State.setFrames_self ht]
      rfl
    · show T.slotsUsed = T.slotsUsed + ((T.heap.toList.drop T.heap.size).map (·.slots.size)).sum
      rw [List.drop_eq_nil_of_le (Nat.le_of_eq Array.length_toList)]
      rfl
    · show ((T.heap.toList.drop T.heap.size).map (·.slots.size)).sum ≤ 0
      rw [List.drop_eq_nil_of_le (Nat.le_of_eq Array.length_toList)]
      exact Nat.le_refl _
/-- 'throw new E()': new; dup; invokespecial; athrow -/
theorem vx_throw0 {cc : ByteArray} {pc : Nat} (hexec : p.tables.exec = Jvm.exec) (hb : c.code = cc) (hl : l.stackTraces = false) {own cls : String} {names : List String} {ik ic mc ms : Nat} {A : Nat → Prop}
    (hown : s.vm.findClass own = some m.cls) (hcls : Bundle.fit cls = true) (hnames : ∀ n ∈ names, Bundle.fit n = true)
    (hk : (Cond.classLink own ik cls).before args s = true) (hini : (Cond.initialized cls).before args s = true) (hat : ∀ w ∈ vx_at0 own ic cls names, w.before args s = true)
    (hgood : ∀ w ∈ Cond.classLink own ik cls :: Cond.initialized cls :: vx_at0 own ic cls names, vx_ot w = true)
    (hU : vx_Zq Bundle.tN "UNASSIGNED_STACK" Bundle.steD A s s.heap) (hN : vx_Zq Bundle.tN "SUPPRESSED_SENTINEL" Bundle.listD A s s.heap) (hS : va_S A s.heap H locs) (hsize : ls.size = c.maxLocals)
    (d0 : decode cc pc = .ok (.new ik, 3)) (d3 : decode cc (pc + 3) = .ok (.dup, 1)) (d4 : decode cc (pc + 4) = .ok (.invokespecial ic, 3)) (d7 : decode cc (pc + 7) = .ok (.athrow, 1))
    (hout : ∀ x ∈ c.exceptionTable.toList, covers x (pc + 7) = false)
    (hRframes : names.length + 3 < R.frames) (hRlocals : (rest.map fun v => v.category).sum + (13 * (names.length + 1) + 42) ≤ R.locals) (hRcells : cells + 1 ≤ R.cells) (hRslots : slots + 6 ≤ R.slots) (hlocks : meth.locks = false)
    (hx : ∀ t : State, s.vm.Alike t.vm → H.size ≤ t.heap.size → (∀ q : Nat, q < H.size → t.heap[q]? = H[q]?) → XC cls s t)
    (hf : ∀ z ∈ locs, free z.base) (hc : cells + 1 ≤ mc) (hs : slots + 6 ≤ ms) :
    W p l e R s m args below meth c H locs cells slots (vx_MQ below Qc XC args s mc ms free) (F0 m pc ls rest) := by
  intro T hT X
  have htr : e.platform.stackTraces = false := (show e.platform.stackTraces = l.stackTraces by rw [X.admits.platform]).trans hl
  have Y := vx_rebase X (R' := { frames := R.frames, locals := R.locals, cells := 1, slots := 6 }) (Nat.le_refl _) (Nat.le_refl _) hRcells hRslots
  obtain ⟨s', hA⟩ : ∃ z, z = (T.setVm s.vm).setFrames (.invoking m args :: below) := ⟨_, rfl⟩
  rw [← hA] at Y
  have hvm : s'.vm = s.vm := by rw [hA]; rfl
  have hhp : s'.heap = H := by rw [hA]; exact hT
  have hW0 : s.WarmedH s'.vm := by rw [hvm]; exact State.WarmedH.refl s
  have hat' : ∀ w ∈ vx_at0 own ic cls names, w.before args s' = true := fun w hw => vx_ot_at hW0 hvm.symm (hgood w (List.mem_cons_of_mem _ (List.mem_cons_of_mem _ hw))) (hat w hw)
  have hk' : (Cond.classLink own ik cls).before args s' = true := vx_ot_at hW0 hvm.symm (hgood _ List.mem_cons_self) hk
  have hini' : (Cond.initialized cls).before args s' = true := vx_ot_at hW0 hvm.symm (hgood _ (List.mem_cons_of_mem _ List.mem_cons_self)) hini
  have hU' : vx_Zq Bundle.tN "UNASSIGNED_STACK" Bundle.steD A s' s'.heap := by rw [hhp]; exact vx_Zq.moved hW0.alike (hU.kept hS.2.1)
  have hN' : vx_Zq Bundle.tN "SUPPRESSED_SENTINEL" Bundle.listD A s' s'.heap := by rw [hhp]; exact vx_Zq.moved hW0.alike (hN.kept hS.2.1)
  have h : ∀ w ∈ Bundle.ownAtoms0 own ic cls names, w.before args s' = true := vx_own hat' (vx_isRefq hU'.1) (vx_isRefq hN'.1) hU'.2.word hN'.2.word
  have hown' : s'.vm.findClass own = some m.cls := by rw [hvm]; exact hown
  have hins : (Cond.instantiable cls 6).before args s' = true := h _ (by simp [Bundle.ownAtoms0])
  obtain ⟨vm₁, cX, kX, hfX, hkX, -, -, X₁, st1⟩ := Y.newCold hexec (own := own) (C := cls) (index := ik) (n := 6) hown' hk' hins hini'
    (g := F0 m pc ls rest) rfl (by rw [hb]; exact d0) (Nat.le_refl _) (Nat.le_refl _)
  generalize hT1 : (T.setVm vm₁).pushCell { cls := cX, slots := kX.instanceTypes.map defaultValue, vm := .none } = T1 at X₁ st1
  have hcat : (Value.ref T.heap.size).category = 1 := rfl
  have hcellA : T1.heap[T.heap.size]? = some (freshCell cX kX) := by rw [← hT1]; exact State.heap_pushCell_size _ _
  have d3' : decode c.code (pc + 3) = .ok (.dup, 1) := by rw [hb]; exact d3
  obtain ⟨U, hsteps, hrun, hend, hW, hsame, ce, hce, hO⟩ := X₁.ctorThrow0 hexec htr (own := own) (cls := cls) (names := names) (ic := ic) hown' hcls hnames h (fun x hx => nomatch hx) hfX hkX hcellA (by rw [hhp, hT]; exact Nat.le_refl _)
    (g := { method := m, pc := pc + 4, locals := ls, stack := .ref T.heap.size :: .ref T.heap.size :: rest, locked := none }) rfl hsize rfl rfl (rest := rest) rfl
    (by rw [hb]; exact d4) (by rw [hb]; exact d7) hout hRframes (by simp only [List.map_cons, List.sum_cons, hcat]; omega) hlocks
  obtain ⟨f1, f2⟩ := vx_frame hsame
  rw [hhp] at f1 f2
  have hWs : s.WarmedH U.vm := State.WarmedH.trans hW0 hW
  have hcl : s.vm.findClass cls = some ce.cls := by
    have h9 := hO.cls
    rw [hvm] at h9
    exact h9
  have hall : s.sameButNew ({ U with vm := s.vm } : State) locs mc ms := by
    subst hA
    obtain ⟨e1, e2⟩ := hsame
    rw [State.setFrames_setFrames] at e1
    have h2 : (T.setVm s.vm).sameButNew ({ U with vm := s.vm } : State) [] (0 + 1) (0 + 6) := ⟨e1, e2⟩
    have h3 := X.same.trans h2
    rw [List.append_nil] at h3
    exact h3.mono hc hs
  refine ⟨U, ?_, .threw T.heap.size, hrun, hend, Or.inr ⟨T.heap.size, rfl, cls, ce, locs, hx U hWs.alike f1 (fun q hq => f2 q hq (fun z hz => nomatch hz)), hce, hO.vm, hcl, hWs, hall, hf⟩⟩
  refine st1 _ ?_
  show Steps p.tables e below (T1.setTop { method := m, pc := pc + 3, locals := ls, stack := .ref T.heap.size :: rest, locked := none }) _
  jvm_step X₁.here [X₁.here.top, hexec, d3', Value.category]
  exact hsteps
/-- 'throw new E("text")': new; dup; ldc; invokespecial; athrow -/
theorem vx_throwS {cc : ByteArray} {pc : Nat} (hexec : p.tables.exec = Jvm.exec) (hb : c.code = cc) (hl : l.stackTraces = false) {own cls text : String} {names : List String} {ik is ic mc ms sa : Nat} {A : Nat → Prop}
    (hown : s.vm.findClass own = some m.cls) (hcls : Bundle.fit cls = true) (hnames : ∀ n ∈ names, Bundle.fit n = true)
    (hk : (Cond.classLink own ik cls).before args s = true) (hini : (Cond.initialized cls).before args s = true) (hstr : vk_R own is text sa s) (hat : ∀ w ∈ vx_atS own ic cls names, w.before args s = true)
    (hgood : ∀ w ∈ Cond.classLink own ik cls :: Cond.initialized cls :: vx_atS own ic cls names, vx_ot w = true)
    (hU : vx_Zq Bundle.tN "UNASSIGNED_STACK" Bundle.steD A s s.heap) (hN : vx_Zq Bundle.tN "SUPPRESSED_SENTINEL" Bundle.listD A s s.heap) (hS : va_S A s.heap H locs) (hsize : ls.size = c.maxLocals)
    (d0 : decode cc pc = .ok (.new ik, 3)) (d3 : decode cc (pc + 3) = .ok (.dup, 1)) (d4 : decode cc (pc + 4) = .ok (.ldc is, 2)) (d6 : decode cc (pc + 6) = .ok (.invokespecial ic, 3)) (d9 : decode cc (pc + 9) = .ok (.athrow, 1))
    (hout : ∀ x ∈ c.exceptionTable.toList, covers x (pc + 9) = false)
    (hRframes : names.length + 3 < R.frames) (hRlocals : (rest.map fun v => v.category).sum + (13 * (names.length + 1) + 43) ≤ R.locals) (hRcells : cells + 1 ≤ R.cells) (hRslots : slots + 6 ≤ R.slots) (hlocks : meth.locks = false)
    (hx : ∀ t : State, s.vm.Alike t.vm → H.size ≤ t.heap.size → (∀ q : Nat, q < H.size → t.heap[q]? = H[q]?) → XC cls s t)
    (hf : ∀ z ∈ locs, free z.base) (hc : cells + 1 ≤ mc) (hs : slots + 6 ≤ ms) :
    W p l e R s m args below meth c H locs cells slots (vx_MQ below Qc XC args s mc ms free) (F0 m pc ls rest) := by
  intro T hT X
  have htr : e.platform.stackTraces = false := (show e.platform.stackTraces = l.stackTraces by rw [X.admits.platform]).trans hl
  have Y := vx_rebase X (R' := { frames := R.frames, locals := R.locals, cells := 1, slots := 6 }) (Nat.le_refl _) (Nat.le_refl _) hRcells hRslots
  obtain ⟨s', hA⟩ : ∃ z, z = (T.setVm s.vm).setFrames (.invoking m args :: below) := ⟨_, rfl⟩
  rw [← hA] at Y
  have hvm : s'.vm = s.vm := by rw [hA]; rfl
  have hhp : s'.heap = H := by rw [hA]; exact hT
  have hW0 : s.WarmedH s'.vm := by rw [hvm]; exact State.WarmedH.refl s
  have hat' : ∀ w ∈ vx_atS own ic cls names, w.before args s' = true := fun w hw => vx_ot_at hW0 hvm.symm (hgood w (List.mem_cons_of_mem _ (List.mem_cons_of_mem _ hw))) (hat w hw)
  have hk' : (Cond.classLink own ik cls).before args s' = true := vx_ot_at hW0 hvm.symm (hgood _ List.mem_cons_self) hk
  have hini' : (Cond.initialized cls).before args s' = true := vx_ot_at hW0 hvm.symm (hgood _ (List.mem_cons_of_mem _ List.mem_cons_self)) hini
  have hU' : vx_Zq Bundle.tN "UNASSIGNED_STACK" Bundle.steD A s' s'.heap := by rw [hhp]; exact vx_Zq.moved hW0.alike (hU.kept hS.2.1)
  have hN' : vx_Zq Bundle.tN "SUPPRESSED_SENTINEL" Bundle.listD A s' s'.heap := by rw [hhp]; exact vx_Zq.moved hW0.alike (hN.kept hS.2.1)
  have h : ∀ w ∈ Bundle.ownAtoms own ic cls names, w.before args s' = true := vx_own hat' (vx_isRefq hU'.1) (vx_isRefq hN'.1) hU'.2.word hN'.2.word
  have hown' : s'.vm.findClass own = some m.cls := by rw [hvm]; exact hown
  have hins : (Cond.instantiable cls 6).before args s' = true := h _ (by simp [Bundle.ownAtoms])
  obtain ⟨vm₁, cX, kX, hfX, hkX, -, -, X₁, st1⟩ := Y.newCold hexec (own := own) (C := cls) (index := ik) (n := 6) hown' hk' hins hini'
    (g := F0 m pc ls rest) rfl (by rw [hb]; exact d0) (Nat.le_refl _) (Nat.le_refl _)
  generalize hT1 : (T.setVm vm₁).pushCell { cls := cX, slots := kX.instanceTypes.map defaultValue, vm := .none } = T1 at X₁ st1
  have hcat : (Value.ref T.heap.size).category = 1 := rfl
  have hcellA : T1.heap[T.heap.size]? = some (freshCell cX kX) := by rw [← hT1]; exact State.heap_pushCell_size _ _
  have d3' : decode c.code (pc + 3) = .ok (.dup, 1) := by rw [hb]; exact d3
  have d4' : decode c.code (pc + 4) = .ok (.ldc is, 2) := by rw [hb]; exact d4
  have hstr' : vk_R own is text sa s' := vk_R.warm hW0 hstr
  obtain ⟨U, hsteps, hrun, hend, hW, hsame, ce, hce, hO⟩ := X₁.ctorThrowS hexec htr (own := own) (cls := cls) (names := names) (ic := ic) hown' hcls hnames h (fun x hx => nomatch hx) hfX hkX hcellA (by rw [hhp, hT]; exact Nat.le_refl _) (msg := .ref sa) rfl
    (g := { method := m, pc := pc + 6, locals := ls, stack := .ref sa :: .ref T.heap.size :: .ref T.heap.size :: rest, locked := none }) rfl hsize rfl rfl (rest := rest) rfl
    (by rw [hb]; exact d6) (by rw [hb]; exact d9) hout hRframes (by simp only [List.map_cons, List.sum_cons, hcat]; omega) hlocks
  obtain ⟨f1, f2⟩ := vx_frame hsame
  rw [hhp] at f1 f2
  have hWs : s.WarmedH U.vm := State.WarmedH.trans hW0 hW
  have hcl : s.vm.findClass cls = some ce.cls := by
    have h9 := hO.cls
    rw [hvm] at h9
    exact h9
  have hall : s.sameButNew ({ U with vm := s.vm } : State) locs mc ms := by
    subst hA
    obtain ⟨e1, e2⟩ := hsame
    rw [State.setFrames_setFrames] at e1
    have h2 : (T.setVm s.vm).sameButNew ({ U with vm := s.vm } : State) [] (0 + 1) (0 + 6) := ⟨e1, e2⟩
    have h3 := X.same.trans h2
    rw [List.append_nil] at h3
    exact h3.mono hc hs
  refine ⟨U, ?_, .threw T.heap.size, hrun, hend, Or.inr ⟨T.heap.size, rfl, cls, ce, locs, hx U hWs.alike f1 (fun q hq => f2 q hq (fun z hz => nomatch hz)), hce, hO.vm, hcl, hWs, hall, hf⟩⟩
  refine st1 _ ?_
  show Steps p.tables e below (T1.setTop { method := m, pc := pc + 3, locals := ls, stack := .ref T.heap.size :: rest, locked := none }) _
  jvm_step X₁.here [X₁.here.top, hexec, d3', Value.category]
  exact X₁.ldcString hexec (own := own) (text := text) (index := is) (a := sa) hown' hstr'.1 hstr'.2
    (g := { method := m, pc := pc + 4, locals := ls, stack := .ref T.heap.size :: .ref T.heap.size :: rest, locked := none }) rfl d4' _ hsteps
/-- 'throw new E("text")', the text by a wide index -/
theorem vx_throwSW {cc : ByteArray} {pc : Nat} (hexec : p.tables.exec = Jvm.exec) (hb : c.code = cc) (hl : l.stackTraces = false) {own cls text : String} {names : List String} {ik is ic mc ms sa : Nat} {A : Nat → Prop}
    (hown : s.vm.findClass own = some m.cls) (hcls : Bundle.fit cls = true) (hnames : ∀ n ∈ names, Bundle.fit n = true)
    (hk : (Cond.classLink own ik cls).before args s = true) (hini : (Cond.initialized cls).before args s = true) (hstr : vk_R own is text sa s) (hat : ∀ w ∈ vx_atS own ic cls names, w.before args s = true)
    (hgood : ∀ w ∈ Cond.classLink own ik cls :: Cond.initialized cls :: vx_atS own ic cls names, vx_ot w = true)
    (hU : vx_Zq Bundle.tN "UNASSIGNED_STACK" Bundle.steD A s s.heap) (hN : vx_Zq Bundle.tN "SUPPRESSED_SENTINEL" Bundle.listD A s s.heap) (hS : va_S A s.heap H locs) (hsize : ls.size = c.maxLocals)
    (d0 : decode cc pc = .ok (.new ik, 3)) (d3 : decode cc (pc + 3) = .ok (.dup, 1)) (d4 : decode cc (pc + 4) = .ok (.ldc_w is, 3)) (d7 : decode cc (pc + 7) = .ok (.invokespecial ic, 3)) (d10 : decode cc (pc + 10) = .ok (.athrow, 1))
    (hout : ∀ x ∈ c.exceptionTable.toList, covers x (pc + 10) = false)
    (hRframes : names.length + 3 < R.frames) (hRlocals : (rest.map fun v => v.category).sum + (13 * (names.length + 1) + 43) ≤ R.locals) (hRcells : cells + 1 ≤ R.cells) (hRslots : slots + 6 ≤ R.slots) (hlocks : meth.locks = false)
    (hx : ∀ t : State, s.vm.Alike t.vm → H.size ≤ t.heap.size → (∀ q : Nat, q < H.size → t.heap[q]? = H[q]?) → XC cls s t)
    (hf : ∀ z ∈ locs, free z.base) (hc : cells + 1 ≤ mc) (hs : slots + 6 ≤ ms) :
    W p l e R s m args below meth c H locs cells slots (vx_MQ below Qc XC args s mc ms free) (F0 m pc ls rest) := by
  intro T hT X
  have htr : e.platform.stackTraces = false := (show e.platform.stackTraces = l.stackTraces by rw [X.admits.platform]).trans hl
  have Y := vx_rebase X (R' := { frames := R.frames, locals := R.locals, cells := 1, slots := 6 }) (Nat.le_refl _) (Nat.le_refl _) hRcells hRslots
  obtain ⟨s', hA⟩ : ∃ z, z = (T.setVm s.vm).setFrames (.invoking m args :: below) := ⟨_, rfl⟩
  rw [← hA] at Y
  have hvm : s'.vm = s.vm := by rw [hA]; rfl
  have hhp : s'.heap = H := by rw [hA]; exact hT
  have hW0 : s.WarmedH s'.vm := by rw [hvm]; exact State.WarmedH.refl s
  have hat' : ∀ w ∈ vx_atS own ic cls names, w.before args s' = true := fun w hw => vx_ot_at hW0 hvm.symm (hgood w (List.mem_cons_of_mem _ (List.mem_cons_of_mem _ hw))) (hat w hw)
  have hk' : (Cond.classLink own ik cls).before args s' = true := vx_ot_at hW0 hvm.symm (hgood _ List.mem_cons_self) hk
  have hini' : (Cond.initialized cls).before args s' = true := vx_ot_at hW0 hvm.symm (hgood _ (List.mem_cons_of_mem _ List.mem_cons_self)) hini
  have hU' : vx_Zq Bundle.tN "UNASSIGNED_STACK" Bundle.steD A s' s'.heap := by rw [hhp]; exact vx_Zq.moved hW0.alike (hU.kept hS.2.1)
  have hN' : vx_Zq Bundle.tN "SUPPRESSED_SENTINEL" Bundle.listD A s' s'.heap := by rw [hhp]; exact vx_Zq.moved hW0.alike (hN.kept hS.2.1)
  have h : ∀ w ∈ Bundle.ownAtoms own ic cls names, w.before args s' = true := vx_own hat' (vx_isRefq hU'.1) (vx_isRefq hN'.1) hU'.2.word hN'.2.word
  have hown' : s'.vm.findClass own = some m.cls := by rw [hvm]; exact hown
  have hins : (Cond.instantiable cls 6).before args s' = true := h _ (by simp [Bundle.ownAtoms])
  obtain ⟨vm₁, cX, kX, hfX, hkX, -, -, X₁, st1⟩ := Y.newCold hexec (own := own) (C := cls) (index := ik) (n := 6) hown' hk' hins hini'
    (g := F0 m pc ls rest) rfl (by rw [hb]; exact d0) (Nat.le_refl _) (Nat.le_refl _)
  generalize hT1 : (T.setVm vm₁).pushCell { cls := cX, slots := kX.instanceTypes.map defaultValue, vm := .none } = T1 at X₁ st1
  have hcat : (Value.ref T.heap.size).category = 1 := rfl
  have hcellA : T1.heap[T.heap.size]? = some (freshCell cX kX) := by rw [← hT1]; exact State.heap_pushCell_size _ _
  have d3' : decode c.code (pc + 3) = .ok (.dup, 1) := by rw [hb]; exact d3
  have d4' : decode c.code (pc + 4) = .ok (.ldc_w is, 3) := by rw [hb]; exact d4
  have hstr' : vk_R own is text sa s' := vk_R.warm hW0 hstr
  obtain ⟨U, hsteps, hrun, hend, hW, hsame, ce, hce, hO⟩ := X₁.ctorThrowS hexec htr (own := own) (cls := cls) (names := names) (ic := ic) hown' hcls hnames h (fun x hx => nomatch hx) hfX hkX hcellA (by rw [hhp, hT]; exact Nat.le_refl _) (msg := .ref sa) rfl
    (g := { method := m, pc := pc + 7, locals := ls, stack := .ref sa :: .ref T.heap.size :: .ref T.heap.size :: rest, locked := none }) rfl hsize rfl rfl (rest := rest) rfl
    (by rw [hb]; exact d7) (by rw [hb]; exact d10) hout hRframes (by simp only [List.map_cons, List.sum_cons, hcat]; omega) hlocks
  obtain ⟨f1, f2⟩ := vx_frame hsame
  rw [hhp] at f1 f2
  have hWs : s.WarmedH U.vm := State.WarmedH.trans hW0 hW
  have hcl : s.vm.findClass cls = some ce.cls := by
    have h9 := hO.cls
    rw [hvm] at h9
    exact h9
  have hall : s.sameButNew ({ U with vm := s.vm } : State) locs mc ms := by
    subst hA
    obtain ⟨e1, e2⟩ := hsame
    rw [State.setFrames_setFrames] at e1
    have h2 : (T.setVm s.vm).sameButNew ({ U with vm := s.vm } : State) [] (0 + 1) (0 + 6) := ⟨e1, e2⟩
    have h3 := X.same.trans h2
    rw [List.append_nil] at h3
    exact h3.mono hc hs
  refine ⟨U, ?_, .threw T.heap.size, hrun, hend, Or.inr ⟨T.heap.size, rfl, cls, ce, locs, hx U hWs.alike f1 (fun q hq => f2 q hq (fun z hz => nomatch hz)), hce, hO.vm, hcl, hWs, hall, hf⟩⟩
  refine st1 _ ?_
  show Steps p.tables e below (T1.setTop { method := m, pc := pc + 3, locals := ls, stack := .ref T.heap.size :: rest, locked := none }) _
  jvm_step X₁.here [X₁.here.top, hexec, d3', Value.category]
  exact X₁.ldcStringW hexec (own := own) (text := text) (index := is) (a := sa) hown' hstr'.1 hstr'.2
    (g := { method := m, pc := pc + 4, locals := ls, stack := .ref T.heap.size :: .ref T.heap.size :: rest, locked := none }) rfl d4' _ hsteps
end Ends
section Bodies
variable {l : Launch}
theorem vx_ofW {y : MethodName} {ws ws' : List Cond} {rm : Room} {Pc : Array Value → State → Prop} {Qc : Array Value → State → Outcome → State → Prop} {XC : String → State → State → Prop} {mc ms : Nat} {free : Addr → Prop} {cc : ByteArray} {maxL : Nat} {ret : Option FieldType}
    (hy : plainName y.cls = true) (hw : ws = Cond.code y cc maxL ret :: ws')
    (body : ∀ p e s m args below meth c s₁, BodyLoose p l y (headSpec ws rm) cc maxL ret e s m args below meth c s₁ → c.maxLocals = maxL → (∀ x ∈ c.exceptionTable.toList, False) → Pc args s →
      W p l e (headSpec ws rm).room s m args below meth c s.heap [] 0 0 (vx_MQ below Qc XC args s mc ms free) (entryFrame m args maxL)) : vx_Met l y ws rm Pc Qc XC mc ms free := by
  refine MetFree.of_bodyS (code := cc) (maxLocals := maxL) (ret := ret) hy ?_ ?_
  · intro args s m h hn
    obtain ⟨meth, c, h1, h2, h3, h4, h5, h6, -, -⟩ := Cond.code_spec hn (atoms_spec (ws := ws) h _ (by rw [hw]; exact List.mem_cons_self))
    exact ⟨meth, c, h1, h2, h3, h4, h5, h6⟩
  · intro p e s m args below meth c s₁ B hml hP _
    have hh0 : s₁.heap = s.heap := by rw [B.state]; rfl
    have ht : ∀ x ∈ c.exceptionTable.toList, False := by
      obtain ⟨meth9, c9, h1, h2, -, -, -, -, h7, -⟩ := Cond.code_spec B.named (atoms_spec (ws := ws) B.pre _ (by rw [hw]; exact List.mem_cons_self))
      cases Option.some.inj (h1.symm.trans B.method)
      cases Option.some.inj (h2.symm.trans (Stand.of_body B).code)
      intro x hx
      rw [Array.isEmpty_iff.mp h7] at hx
      cases hx
    obtain ⟨t, a1, o, b1, b2, b3⟩ := body p e s m args below meth c s₁ B hml ht hP s₁ hh0 (Stand.of_body B)
    exact ⟨t, o, a1, b1, b2, b3⟩
/-- the table of a body with handlers -/
theorem vx_table {p : Program} {x y : MethodName} {S : Spec} {cc bytes : ByteArray} {maxL maxL' : Nat} {ret ret' : Option FieldType} {e : Env} {s s₁ : State} {m : MethodId} {args : Array Value} {below : List Frame} {meth : Method} {c : Code} {hh : List (Nat × Nat × Nat × Nat)}
    (B : BodyLoose p l y S cc maxL ret e s m args below meth c s₁) (h : (Cond.codeWith y bytes maxL' ret' hh).before args s = true) : c.exceptionTable.toList = tableOf hh := by
  obtain ⟨m9, meth9, c9, hn9, h1, h2, -, -, h6, -⟩ := Cond.codeWith_spec h
  cases Option.some.inj (hn9.symm.trans B.named)
  cases Option.some.inj (h1.symm.trans B.method)
  cases Option.some.inj (h2.symm.trans (Stand.of_body B).code)
  rw [← h6, table_eq]
end Bodies
end VXA
/-! ===== END ===== -/
/-! ===== BEGIN a static call of a method with an exception table ===== -/
section VXS
variable {p : Program} {l : Launch} {e : Env} {R : Room} {s : State} {m : MethodId} {args : Array Value} {below : List Frame} {meth : Method} {c : Code} {T : State} {H : Heap} {locs : List Loc} {cells slots : Nat}
abbrev vx_CSW (R : Room) (s : State) (args : Array Value) (own : String) (index : Nat) (y : MethodName) (bytes : ByteArray) (maxL : Nat) (ret : Option FieldType) (hh : List (Nat × Nat × Nat × Nat)) (ws : List Cond) (rm : Room) (mc ms n : Nat) : Prop :=
  (rm.cells = mc ∧ rm.slots = ms ∧ rm.frames + 1 ≤ R.frames ∧ 8 + (maxL + 11) + rm.locals ≤ R.locals ∧ (∀ w ∈ ws, ∀ (a' : Array Value) (U : State), s.WarmedH U.vm → w.before a' U = true) ∧ Cond.codeWith y bytes maxL ret hh ∈ ws) ∧
  (Cond.codeWith y bytes maxL ret hh).before args s = true ∧ (Cond.initialized y.cls).before args s = true ∧ (y.cls ≠ "java/lang/invoke/MethodHandle" ∧ y.cls ≠ "java/lang/invoke/VarHandle") ∧
  (∀ sig, parseMethodDescriptor y.desc = some sig → n = sig.parameters.length) ∧ (Cond.methodLink own index y).before args s = true ∧ (Cond.static y).before args s = true
theorem vx_cwSW {own : String} {index maxL mc ms : Nat} {y : MethodName} {bytes : ByteArray} {ret : Option FieldType} {hh : List (Nat × Nat × Nat × Nat)} {Ts ws ws' : List Cond} {rm : Room} (n : Nat) (ht : ∀ w ∈ Ts, w.before args s = true) (hT : GoodIn Ts (va_wsS own index y ws)) (hw : ws = Cond.codeWith y bytes maxL ret hh :: ws') (hrc : rm.cells = mc) (hrs : rm.slots = ms)
    (hd : y.cls ≠ "java/lang/invoke/MethodHandle" ∧ y.cls ≠ "java/lang/invoke/VarHandle" ∧ (parseMethodDescriptor y.desc).map (fun d => d.parameters.length) = some n) (hR : rm.frames + 1 ≤ R.frames ∧ 8 + (maxL + 11) + rm.locals ≤ R.locals) :
    vx_CSW R s args own index y bytes maxL ret hh ws rm mc ms n := by
  have ok : ∀ w ∈ va_wsS own index y ws, w.before args s = true := fun w h => ht w (hT w h).1
  have hG : GoodIn Ts ws := fun w h => hT w (by unfold va_wsS; exact List.mem_append_right _ h)
  have hc : Cond.codeWith y bytes maxL ret hh ∈ ws := by rw [hw]; exact List.mem_cons_self
  refine ⟨⟨hrc, hrs, hR.1, hR.2, pay_in ht hG, hc⟩, ht _ (hG _ hc).1, ok _ (by simp [va_wsS]), ⟨hd.1, hd.2.1⟩, fun sig h => ?_, ok _ (by simp [va_wsS]), ok _ (by simp [va_wsS])⟩
  have h2 := hd.2.2
  rw [h] at h2
  exact (Option.some.inj h2).symm
theorem vx_callSW (X : Stand p l e R s m args below meth c T locs cells slots) (hexec : p.tables.exec = Jvm.exec) {own : String} {index : Nat} {y : MethodName} {bytes : ByteArray} {maxL : Nat} {ret : Option FieldType} {hh : List (Nat × Nat × Nat × Nat)}
    (hown : s.vm.findClass own = some m.cls) (hlink : (Cond.methodLink own index y).before args s = true) (hstat : (Cond.static y).before args s = true) (hinit : (Cond.initialized y.cls).before args s = true)
    (hcode : (Cond.codeWith y bytes maxL ret hh).before args s = true) (hy : y.cls ≠ "java/lang/invoke/MethodHandle" ∧ y.cls ≠ "java/lang/invoke/VarHandle")
    {W9 : Nat} {Pre : Pt → Array Value → Prop} {Post : Pt → Array Value → Option Value → Pt → Prop} (hK : Back l R p e below s args y 3 W9 Pre Post)
    {g : JFrame} (hg : g.method = m) (hsize : g.locals.size = c.maxLocals) {argsL rest : List Value} (hlen : ∀ sig, parseMethodDescriptor y.desc = some sig → argsL.length = sig.parameters.length)
    (hstack : g.stack = argsL.reverse ++ rest) (hW : 2 * g.monitorRoom + (rest.map fun v => v.category).sum ≤ W9) (hdg : decode c.code g.pc = .ok (.invokestatic index, 3))
    (hpre : ∀ vm₁, s.WarmedH vm₁ → Pre ⟨T.setVm vm₁, locs, cells, slots⟩ argsL.toArray) :
    ∃ (v : Option Value) (vm₁ : Vm) (B : Pt), s.WarmedH vm₁ ∧ Stand p l e R s m args below meth c B.U B.locs B.cells B.slots ∧ Post ⟨T.setVm vm₁, locs, cells, slots⟩ argsL.toArray v B ∧
      ∀ target, Steps p.tables e below (B.U.setTop { g with pc := g.pc + 3, stack := v.toList ++ rest }) target → Steps p.tables e below (T.setTop g) target := by
  obtain ⟨mk, methM, cM, hnamed, hmethM, -, -, -, -, -, -, hsigM⟩ := Cond.codeWith_spec hcode
  have hstatic : methM.isStatic = true := Cond.static_spec hnamed hmethM hstat
  obtain ⟨kP, hkP, -⟩ := className_of_methodNamed hnamed
  have hinitP : kP.init = .initialized := Cond.initialized_spec (findClass_of_methodNamed hnamed) hkP hinit
  obtain ⟨vm₁, X₁, hstep₁⟩ := X.invokestatic hexec hown hlink hnamed hmethM hstatic hkP hinitP hy (g := g) hg (argsL := argsL) (rest := rest) (hlen _ hsigM) hstack hdg
  obtain ⟨v, B, X', hpost, hsteps⟩ := hK m meth c ⟨T.setVm vm₁, locs, cells, slots⟩ { g with stack := rest } (.invokestatic index) mk argsL.toArray X₁ hg hsize hdg hW (X₁.named hnamed) (hpre vm₁ X₁.warmed)
  exact ⟨v, vm₁, B, X₁.warmed, X', hpost, fun target h => hstep₁ _ fun acts => by rw [doInvoke_state]; exact hsteps.trans h⟩
theorem vx_runSW {y : MethodName} {bytes cc : ByteArray} {maxL nL mc ms n index : Nat} {ret : Option FieldType} {hh : List (Nat × Nat × Nat × Nat)} {ws : List Cond} {rm : Room} {Pc : Array Value → State → Prop} {Qc : Array Value → State → Outcome → State → Prop} {free : Addr → Prop} {Ts : List Cond} {own : String} {As rest : List Value} {g : JFrame}
    (S : CallFix p m c cc nL s args Ts own) (hM : Met l y ws rm Pc Qc mc ms free) (cw : vx_CSW R s args own index y bytes maxL ret hh ws rm mc ms n) (hp : PreS s H Pc As)
    (hg : g.method = m) (hn : As.length = n) (hsize : g.locals.size = nL) (hstack : g.stack = As.reverse ++ rest) (hW : 2 * g.monitorRoom + (rest.map fun v => v.category).sum ≤ 8) (hdg : decode cc g.pc = .ok (.invokestatic index, 3)) (hf : cells + mc ≤ R.cells ∧ slots + ms ≤ R.slots) :
    va_Run p l e R s m args below meth c H locs cells slots mc ms g rest (Qc As.toArray) (free) := by
  obtain ⟨⟨hrc, hrs, hfr, hlo, hws, hcw⟩, hcode, hini, hy, hlen, hl, hstt⟩ := cw
  have hK : Back l R p e below s args y 3 8 (PreOf R mc ms Pc) (PostOf Qc mc ms free) := va_backW (hh := hh) (bytes := bytes) (maxL := maxL) (ret := ret) hM hp.1 hrc hrs hfr hlo hws hcw (fun a' U hW => word_at hW (Or.inl (by first | rfl | simp [Cond.onTables, Cond.keeps, Cond.steady])) hini)
  obtain ⟨hx, hb, hml, ho, -⟩ := S
  intro T hT X
  obtain ⟨v, vm₁, ⟨U', l2, c2, s2⟩, hW₁, X', ⟨g', mk, t, L, e1, e2, hq, h1, hL, h2, h3⟩, st⟩ := vx_callSW X hx (hh := hh) (bytes := bytes) (maxL := maxL) (ret := ret) ho hl hstt hini hcode hy hK hg (hsize.trans hml.symm) (argsL := As) (rest := rest) (fun sig h => hn.trans (hlen sig h)) hstack hW (by rw [hb]; exact hdg)
    (fun vm₁ hW₁ => ⟨hf.1, hf.2, hp.2 (T.setVm vm₁) hT hW₁⟩)
  dsimp only [Pt.U, Pt.locs, Pt.cells, Pt.slots] at X' e1 e2 h1 h2 h3 st
  subst h1; subst h2; subst h3
  exact ⟨v, (T.setVm vm₁).calling g' mk As.toArray, t, U', L, hT, X', hL, e1, e2, hq, st⟩
/-- not caught here, past rows that name other classes: it goes on to the caller -/
theorem vx_outP {p : Program} {l : Launch} {e : Env} {R : Room} {s : State} {m : MethodId} {args : Array Value} {below : List Frame} {meth : Method} {c : Code} {H : Heap} {locs : List Loc} {cells slots : Nat} {free : Addr → Prop} {ls : Array Slot} {rest : List Value} {Qc : Array Value → State → Outcome → State → Prop} {XC : String → State → State → Prop}
    {pc : Nat} {own E : String} {ce : Cell} {q : Addr} {mc ms : Nat} (hown : s.vm.findClass own = some m.cls) (hlocks : meth.locks = false)
    (hpass : ∀ z ∈ c.exceptionTable.toList, covers z pc = false ∨ (z.catchType ≠ 0 ∧ ∃ nm : String, (Cond.classLink own z.catchType nm).before args s = true ∧ va_Nc E nm s)) (hcell : H[q]? = some ce) (hv : ce.vm = .none) (hcl : s.vm.findClass E = some ce.cls)
    (hx : ∀ t : State, t.heap = H → s.vm.Alike t.vm → XC E s t) (hf : ∀ z ∈ locs, free z.base) (hc : cells ≤ mc) (hs : slots ≤ ms) :
    vx_W p l e R s m args below meth c H locs cells slots (vx_MQ below Qc XC args s mc ms free) (F0 m pc ls rest) q := by
  intro T hT X
  have hpl : e.platform.magicAccessors = ({} : Platform).magicAccessors := by rw [X.admits.platform]
  obtain ⟨vm', hW', X', st⟩ := X.outThrough hlocks q (g := F0 m pc ls rest) rfl rfl rfl (cell := ce) (by rw [hT]; exact hcell) (by rw [hv]; rfl)
    (by obtain ⟨k9, h9, -⟩ := Vm.findClass_spec hcl; exact ⟨k9, h9⟩) (fun z hz => by
      rcases hpass z hz with h | ⟨hz0, nm, hl1, hn1⟩
      · exact Or.inl h
      · obtain ⟨c6, hc6, hcl6⟩ := Cond.classLink_spec hown hl1 e.platform hpl
        obtain ⟨a8, b8, h1, h2, h3⟩ := hn1
        cases Option.some.inj (h1.symm.trans hcl)
        cases Option.some.inj (h2.symm.trans hc6)
        exact Or.inr ⟨hz0, _, hcl6, h3⟩)
  obtain ⟨g₀, hfr⟩ := X'.frames_eq
  have hcell9 : ((T.setVm vm').setFrames (.throwing q :: below)).heap[q]? = some ce := by
    show T.heap[q]? = some ce
    rw [hT]; exact hcell
  have hend : Ended ((T.setVm vm').setFrames (.throwing q :: below)) below (.threw q) := State.frames_setFrames _ (State.cur_lt_of_frames hfr)
  refine ⟨(T.setVm vm').setFrames (.throwing q :: below), ?_, .threw q, X'.here.running, hend, Or.inr ⟨q, rfl, E, ce, locs, hx _ hT (X'.ends _).1.alike, hcell9, hv, hcl, (X'.ends _).1, (X'.ends _).2.mono hc hs, hf⟩⟩
  rw [X.pushThrowing_eq]
  exact st
/-- a thing of a world lies in the heap -/
theorem vx_lt {D : va_G} {cl : List vw_C} {ws : va_W} {H1 : Heap} (h : va_P D cl ws H1) {k : Nat} {q : Nat × va_E} (hk : ws[k]? = some q) : q.1 < H1.size := (h k q hk).lt
end VXS
/-! ===== END ===== -/
/-! ===== BEGIN methods with a table of their own: called by a name, returning or throwing ===== -/
section VXH
/-! vx_backW, vx_callVX, vx_callSX, vx_callVW, vx_runVW, vx_runVX, vx_runSX, vx_ofWH follow the same proofs as their sisters above (Free/Laws.lean, Shelf42/LK1.lean); vx_outP calls Shelf42/NT130.lean (outThrough). -/
section
variable {l : Launch} {R : Room} {p : Program} {e : Env} {below : List Frame} {s : State} {sargs : Array Value} {y : MethodName} {len W9 : Nat}
theorem vx_backW {ws : List Cond} {rm : Room} {Pc : Array Value → State → Prop} {Qc : Array Value → State → Outcome → State → Prop} {XC : String → State → State → Prop} {mc ms : Nat} {free : Addr → Prop} {bytes : ByteArray} {maxL : Nat} {ret : Option FieldType} {hh : List (Nat × Nat × Nat × Nat)}
    (hM : vx_Met l y ws rm Pc Qc XC mc ms free) (hblind : FrameBlind Pc) (hrc : rm.cells = mc) (hrs : rm.slots = ms)
    (hframes : rm.frames + 1 ≤ R.frames) (hlocals : W9 + (maxL + 11) + rm.locals ≤ R.locals)
    (hws : ∀ w ∈ ws, ∀ a' U, s.WarmedH U.vm → w.before a' U = true) (hcode : Cond.codeWith y bytes maxL ret hh ∈ ws) (hinit : ∀ a' U, s.WarmedH U.vm → (Cond.initialized y.cls).before a' U = true) :
    vx_Back l R p e below s sargs y len W9 (PreOf R mc ms Pc) (PostOf Qc mc ms free) (vx_Post XC mc ms free) := by
  intro m meth c A g ig mk a X hg hsize hdg hW hn hp
  have h1 : (headSpec ws rm).pre.before a A.U = true := atoms_intro fun w hw => hws w hw _ _ X.warmed
  have h2 : (Cond.codeWith y bytes maxL ret hh).before a A.U = true := hws _ hcode _ _ X.warmed
  have h3 : (Cond.initialized y.cls).before a A.U = true := hinit _ _ X.warmed
  have h4 : A.cells + (headSpec ws rm).room.cells ≤ R.cells := by rw [show (headSpec ws rm).room.cells = mc from hrc]; exact hp.1
  have h5 : A.slots + (headSpec ws rm).room.slots ≤ R.slots := by rw [show (headSpec ws rm).room.slots = ms from hrs]; exact hp.2.1
  have hPc : Pc a (A.U.calling g mk a) := hblind _ _ _ _ hp.2.2
  obtain ⟨U, Ls, c0, s0⟩ := A
  dsimp only [Pt.U, Pt.locs, Pt.cells, Pt.slots] at h1 h2 h3 h4 h5 X hn hPc ⊢
  obtain ⟨m9, methY, cY, hn9, hmY, hcY, -, hlY, -⟩ := Cond.codeWith_spec h2
  cases Option.some.inj (hn9.symm.trans hn)
  obtain ⟨kY, hkY, -⟩ := className_of_methodNamed hn
  have hinitY : kY.init = .initialized := Cond.initialized_spec (findClass_of_methodNamed hn) hkY h3
  have h : At U g.method c below := by rw [hg]; exact X.here
  have hlocals9 : W9 + (maxL + 11) + (headSpec ws rm).room.locals ≤ R.locals := hlocals
  have happ : (headSpec ws rm).appliesLoose y e.platform (U.calling g mk a) = true :=
    Spec.appliesLoose_calling (g := g) h hdg hn hkY hinitY
      (X.room_calling (g := g) (R' := (headSpec ws rm).room) hsize hmY hcY hframes (by rw [hlY]; omega) h4 h5) h1
  obtain ⟨mid, hmid⟩ := h.above
  have hfr : (U.setTop g).frames = (.java g :: mid) ++ below := by rw [State.frames_setTop' g h.top, hmid]; rfl
  obtain ⟨o, s₂, hsteps, -, hend, hq⟩ := Steps.callFree hM p X.admits X.cas X.clock (acts := []) hfr happ hPc trivial
  have hq' : vx_Q Qc XC mc ms free a (U.calling g mk a) o s₂ := hq
  rw [State.frames_setTop' g h.top] at hend
  obtain ⟨g₀, hg0⟩ := Option.isSome_iff_exists.mp h.top
  obtain ⟨r, hr⟩ := State.topJava?_eq_some.mp hg0
  have hr' : (({ U with heap := s₂.heap, slotsUsed := s₂.slotsUsed } : State).setVm s₂.vm).frames = .java g₀ :: r := hr
  rcases hq' with ⟨hqc, L, hfe, hL⟩ | ⟨q, rfl, E, ce, L, hx, hce, hcv, hcl, hW₂, hsm, hL⟩
  · obtain ⟨⟨v, rfl⟩, hW₂, e2, q2, q3, q4, q5, q6⟩ := id hfe
    have e3 : s₂ = ({ (U.calling g mk a).setFrames s₂.frames with heap := s₂.heap, slotsUsed := s₂.slotsUsed } : State).setVm s₂.vm := by
      have : s₂ = ({ s₂ with vm := (U.calling g mk a).vm } : State).setVm s₂.vm := rfl
      rw [e2] at this
      exact this
    obtain ⟨c₂, i₂, len₂, hc₂, hd₂, hf₂⟩ := hend
    have hW' : U.WarmedH s₂.vm := hW₂
    have hcc : c₂ = c := by
      have h1 : s₂.code? g.method = U.code? g.method := by
        rw [State.code?_eq, State.code?_eq, hW'.alike.method?]
      exact Option.some.inj (hc₂.symm.trans (h1.trans h.code))
    subst hcc
    have hlen : len₂ = len := by rw [hdg] at hd₂; cases hd₂; rfl
    subst hlen
    have hs₂ : s₂ = (({ U with heap := s₂.heap, slotsUsed := s₂.slotsUsed } : State).setVm s₂.vm).setTop { g with pc := g.pc + len₂, stack := v.toList ++ g.stack } := by
      refine e3.trans ?_
      rw [hf₂, State.calling_eq h.top, State.setFrames_setFrames, State.setTop_of_frames _ hr', hr]
      rfl
    have hsame : U.sameButNew ({ U with heap := s₂.heap, slotsUsed := s₂.slotsUsed } : State) L mc ms := by
      refine ⟨?_, q2, q3, q4, q5, q6⟩
      obtain ⟨t, ht, -⟩ := State.frames_cons hr
      show ({ U with heap := s₂.heap, slotsUsed := s₂.slotsUsed } : State) = { U.setFrames U.frames with heap := s₂.heap, slotsUsed := s₂.slotsUsed }
      rw [State.setFrames_self ht]
    subst hg
    refine Or.inl ⟨v, ⟨(({ U with heap := s₂.heap, slotsUsed := s₂.slotsUsed } : State).setVm s₂.vm), Ls ++ L, c0 + mc, s0 + ms⟩,
      ⟨X.admits, X.cas, X.clock, X.frames, X.room, X.hears, X.method, X.code, (X.here.setHeapUsed s₂.heap s₂.slotsUsed).setVm hW'.alike, X.tail, State.WarmedH.trans X.warmed hW', X.limits, X.bytes, X.same.trans (hsame.setVm s.vm)⟩,
      ⟨g, mk, s₂, L, rfl, rfl, hqc, rfl, hL, rfl, rfl⟩, ?_⟩
    show Steps p.tables e below _ ((({ U with heap := s₂.heap, slotsUsed := s₂.slotsUsed } : State).setVm s₂.vm).setTop { g with pc := g.pc + len₂, stack := v.toList ++ g.stack })
    rw [← hs₂]
    exact hsteps
  · obtain ⟨e2, q2, q3, q4, q5, q6⟩ := id hsm
    have e3 : s₂ = ({ (U.calling g mk a).setFrames s₂.frames with heap := s₂.heap, slotsUsed := s₂.slotsUsed } : State).setVm s₂.vm := by
      have : s₂ = ({ s₂ with vm := (U.calling g mk a).vm } : State).setVm s₂.vm := rfl
      rw [e2] at this
      exact this
    have hf₂ : s₂.frames = .throwing q :: .java g :: U.frames.tail := hend
    have hW' : U.WarmedH s₂.vm := hW₂
    have hs₂ : s₂ = ((({ U with heap := s₂.heap, slotsUsed := s₂.slotsUsed } : State).setVm s₂.vm).setTop g).pushFrame (.throwing q) := by
      refine e3.trans ?_
      rw [hf₂, State.calling_eq h.top, State.setFrames_setFrames, State.pushFrame, State.frames_setTop _ hr', State.setTop_of_frames _ hr', State.setFrames_setFrames, hr]
      rfl
    have hsame : U.sameButNew ({ U with heap := s₂.heap, slotsUsed := s₂.slotsUsed } : State) L mc ms := by
      refine ⟨?_, q2, q3, q4, q5, q6⟩
      obtain ⟨t, ht, -⟩ := State.frames_cons hr
      show ({ U with heap := s₂.heap, slotsUsed := s₂.slotsUsed } : State) = { U.setFrames U.frames with heap := s₂.heap, slotsUsed := s₂.slotsUsed }
      rw [State.setFrames_self ht]
    subst hg
    refine Or.inr ⟨q, ⟨(({ U with heap := s₂.heap, slotsUsed := s₂.slotsUsed } : State).setVm s₂.vm), Ls ++ L, c0 + mc, s0 + ms⟩,
      ⟨X.admits, X.cas, X.clock, X.frames, X.room, X.hears, X.method, X.code, (X.here.setHeapUsed s₂.heap s₂.slotsUsed).setVm hW'.alike, X.tail, State.WarmedH.trans X.warmed hW', X.limits, X.bytes, X.same.trans (hsame.setVm s.vm)⟩,
      ⟨g, mk, s₂, L, E, ce, rfl, rfl, hx, hce, hcv, hcl, rfl, hL, rfl, rfl⟩, ?_⟩
    show Steps p.tables e below _ (((({ U with heap := s₂.heap, slotsUsed := s₂.slotsUsed } : State).setVm s₂.vm).setTop g).pushFrame (.throwing q))
    rw [← hs₂]
    exact hsteps
end
variable {p : Program} {l : Launch} {e : Env} {R : Room} {s : State} {m : MethodId} {args : Array Value} {below : List Frame} {meth : Method} {c : Code} {T : State} {H : Heap} {locs : List Loc} {cells slots : Nat}
theorem vx_callVX (X : Stand p l e R s m args below meth c T locs cells slots) (hexec : p.tables.exec = Jvm.exec) {own C : String} {index : Nat} {y : MethodName} {bytes : ByteArray} {maxL : Nat} {ret : Option FieldType} {hh : List (Nat × Nat × Nat × Nat)}
    (hown : s.vm.findClass own = some m.cls) (hlink : (Cond.methodLink own index y).before args s = true) (hinst : (Cond.instanceMethod y).before args s = true) (hsel : (Cond.selects C y y).before args s = true)
    (hcode : (Cond.codeWith y bytes maxL ret hh).before args s = true) (hy : y.cls ≠ "java/lang/invoke/MethodHandle" ∧ y.cls ≠ "java/lang/invoke/VarHandle")
    {W9 : Nat} {Pre : Pt → Array Value → Prop} {Post : Pt → Array Value → Option Value → Pt → Prop} {PostX : Pt → Array Value → Addr → Pt → Prop} (hK : vx_Back l R p e below s args y 3 W9 Pre Post PostX)
    {b : Addr} {cellB : Cell} (hcell : T.heap[b]? = some cellB) (hobj : cellB.vm.isStatics = false) (hcls : s.vm.findClass C = some cellB.cls)
    {g : JFrame} (hg : g.method = m) (hsize : g.locals.size = c.maxLocals) {argsL rest : List Value} (hlen : ∀ sig, parseMethodDescriptor y.desc = some sig → argsL.length = sig.parameters.length)
    (hstack : g.stack = argsL.reverse ++ .ref b :: rest) (hW : 2 * g.monitorRoom + (rest.map fun v => v.category).sum ≤ W9) (hdg : decode c.code g.pc = .ok (.invokevirtual index, 3))
    (hpre : ∀ vm₁, s.WarmedH vm₁ → Pre ⟨T.setVm vm₁, locs, cells, slots⟩ (Value.ref b :: argsL).toArray) :
    (∃ (v : Option Value) (vm₁ : Vm) (B : Pt), s.WarmedH vm₁ ∧ Stand p l e R s m args below meth c B.U B.locs B.cells B.slots ∧ Post ⟨T.setVm vm₁, locs, cells, slots⟩ (Value.ref b :: argsL).toArray v B ∧
      ∀ target, Steps p.tables e below (B.U.setTop { g with pc := g.pc + 3, stack := v.toList ++ rest }) target → Steps p.tables e below (T.setTop g) target) ∨
    (∃ (q : Addr) (vm₁ : Vm) (B : Pt), s.WarmedH vm₁ ∧ Stand p l e R s m args below meth c B.U B.locs B.cells B.slots ∧ PostX ⟨T.setVm vm₁, locs, cells, slots⟩ (Value.ref b :: argsL).toArray q B ∧
      Steps p.tables e below (T.setTop g) ((B.U.setTop { g with stack := rest }).pushFrame (.throwing q))) := by
  obtain ⟨mk, methM, hnamed, hmethM, hstM, habM⟩ := Cond.instanceMethod_spec hinst
  obtain ⟨m8, methM', cM, hn8, hmethM', -, -, -, -, -, -, hsigM⟩ := Cond.codeWith_spec hcode
  cases Option.some.inj (hn8.symm.trans hnamed)
  cases hmethM.symm.trans hmethM'
  obtain ⟨c2, r2, m2, q1, q2, q3, q4, kP, hkP, hkPi⟩ := Cond.selects_spec hsel
  cases hcls.symm.trans q1
  cases (State.methodFound?_of_named hnamed hy).symm.trans q2
  cases hnamed.symm.trans q3
  have hselP : selectMethod e.platform s.vm cellB.cls mk = .method mk := by rw [Launch.admits_selectMethod X.admits]; exact q4
  obtain ⟨vm₁, X₁, hstep₁⟩ := X.invokevirtual hexec hown hlink hnamed hmethM hstM hkP hkPi hy (a := b) (cell := cellB) hcell
    (fun z h => by rw [h] at hobj; cases hobj) hselP hmethM habM hkP hkPi (g := g) hg (argsL := argsL) (rest := rest) (hlen _ hsigM) hstack hdg
  rcases hK m meth c ⟨T.setVm vm₁, locs, cells, slots⟩ { g with stack := rest } (.invokevirtual index) mk (Value.ref b :: argsL).toArray X₁ hg hsize hdg hW (X₁.named hnamed) (hpre vm₁ X₁.warmed) with ⟨v, B, X', hpost, hsteps⟩ | ⟨q, B, X', hpost, hsteps⟩
  · exact Or.inl ⟨v, vm₁, B, X₁.warmed, X', hpost, fun target h => hstep₁ _ fun acts => by rw [doInvoke_state]; exact hsteps.trans h⟩
  · exact Or.inr ⟨q, vm₁, B, X₁.warmed, X', hpost, hstep₁ _ fun acts => by rw [doInvoke_state]; exact hsteps⟩
theorem vx_callSX (X : Stand p l e R s m args below meth c T locs cells slots) (hexec : p.tables.exec = Jvm.exec) {own : String} {index : Nat} {y : MethodName} {bytes : ByteArray} {maxL : Nat} {ret : Option FieldType} {hh : List (Nat × Nat × Nat × Nat)}
    (hown : s.vm.findClass own = some m.cls) (hlink : (Cond.methodLink own index y).before args s = true) (hstat : (Cond.static y).before args s = true) (hinit : (Cond.initialized y.cls).before args s = true)
    (hcode : (Cond.codeWith y bytes maxL ret hh).before args s = true) (hy : y.cls ≠ "java/lang/invoke/MethodHandle" ∧ y.cls ≠ "java/lang/invoke/VarHandle")
    {W9 : Nat} {Pre : Pt → Array Value → Prop} {Post : Pt → Array Value → Option Value → Pt → Prop} {PostX : Pt → Array Value → Addr → Pt → Prop} (hK : vx_Back l R p e below s args y 3 W9 Pre Post PostX)
    {g : JFrame} (hg : g.method = m) (hsize : g.locals.size = c.maxLocals) {argsL rest : List Value} (hlen : ∀ sig, parseMethodDescriptor y.desc = some sig → argsL.length = sig.parameters.length)
    (hstack : g.stack = argsL.reverse ++ rest) (hW : 2 * g.monitorRoom + (rest.map fun v => v.category).sum ≤ W9) (hdg : decode c.code g.pc = .ok (.invokestatic index, 3))
    (hpre : ∀ vm₁, s.WarmedH vm₁ → Pre ⟨T.setVm vm₁, locs, cells, slots⟩ argsL.toArray) :
    (∃ (v : Option Value) (vm₁ : Vm) (B : Pt), s.WarmedH vm₁ ∧ Stand p l e R s m args below meth c B.U B.locs B.cells B.slots ∧ Post ⟨T.setVm vm₁, locs, cells, slots⟩ argsL.toArray v B ∧
      ∀ target, Steps p.tables e below (B.U.setTop { g with pc := g.pc + 3, stack := v.toList ++ rest }) target → Steps p.tables e below (T.setTop g) target) ∨
    (∃ (q : Addr) (vm₁ : Vm) (B : Pt), s.WarmedH vm₁ ∧ Stand p l e R s m args below meth c B.U B.locs B.cells B.slots ∧ PostX ⟨T.setVm vm₁, locs, cells, slots⟩ argsL.toArray q B ∧
      Steps p.tables e below (T.setTop g) ((B.U.setTop { g with stack := rest }).pushFrame (.throwing q))) := by
  obtain ⟨mk, methM, cM, hnamed, hmethM, -, -, -, -, -, -, hsigM⟩ := Cond.codeWith_spec hcode
  have hstatic : methM.isStatic = true := Cond.static_spec hnamed hmethM hstat
  obtain ⟨kP, hkP, -⟩ := className_of_methodNamed hnamed
  have hinitP : kP.init = .initialized := Cond.initialized_spec (findClass_of_methodNamed hnamed) hkP hinit
  obtain ⟨vm₁, X₁, hstep₁⟩ := X.invokestatic hexec hown hlink hnamed hmethM hstatic hkP hinitP hy (g := g) hg (argsL := argsL) (rest := rest) (hlen _ hsigM) hstack hdg
  rcases hK m meth c ⟨T.setVm vm₁, locs, cells, slots⟩ { g with stack := rest } (.invokestatic index) mk argsL.toArray X₁ hg hsize hdg hW (X₁.named hnamed) (hpre vm₁ X₁.warmed) with ⟨v, B, X', hpost, hsteps⟩ | ⟨q, B, X', hpost, hsteps⟩
  · exact Or.inl ⟨v, vm₁, B, X₁.warmed, X', hpost, fun target h => hstep₁ _ fun acts => by rw [doInvoke_state]; exact hsteps.trans h⟩
  · exact Or.inr ⟨q, vm₁, B, X₁.warmed, X', hpost, hstep₁ _ fun acts => by rw [doInvoke_state]; exact hsteps⟩
theorem vx_callVW (X : Stand p l e R s m args below meth c T locs cells slots) (hexec : p.tables.exec = Jvm.exec) {own C : String} {index : Nat} {y : MethodName} {bytes : ByteArray} {maxL : Nat} {ret : Option FieldType} {hh : List (Nat × Nat × Nat × Nat)}
    (hown : s.vm.findClass own = some m.cls) (hlink : (Cond.methodLink own index y).before args s = true) (hinst : (Cond.instanceMethod y).before args s = true) (hsel : (Cond.selects C y y).before args s = true)
    (hcode : (Cond.codeWith y bytes maxL ret hh).before args s = true) (hy : y.cls ≠ "java/lang/invoke/MethodHandle" ∧ y.cls ≠ "java/lang/invoke/VarHandle")
    {W9 : Nat} {Pre : Pt → Array Value → Prop} {Post : Pt → Array Value → Option Value → Pt → Prop} (hK : Back l R p e below s args y 3 W9 Pre Post)
    {b : Addr} {cellB : Cell} (hcell : T.heap[b]? = some cellB) (hobj : cellB.vm.isStatics = false) (hcls : s.vm.findClass C = some cellB.cls)
    {g : JFrame} (hg : g.method = m) (hsize : g.locals.size = c.maxLocals) {argsL rest : List Value} (hlen : ∀ sig, parseMethodDescriptor y.desc = some sig → argsL.length = sig.parameters.length)
    (hstack : g.stack = argsL.reverse ++ .ref b :: rest) (hW : 2 * g.monitorRoom + (rest.map fun v => v.category).sum ≤ W9) (hdg : decode c.code g.pc = .ok (.invokevirtual index, 3))
    (hpre : ∀ vm₁, s.WarmedH vm₁ → Pre ⟨T.setVm vm₁, locs, cells, slots⟩ (Value.ref b :: argsL).toArray) :
    ∃ (v : Option Value) (vm₁ : Vm) (B : Pt), s.WarmedH vm₁ ∧ Stand p l e R s m args below meth c B.U B.locs B.cells B.slots ∧ Post ⟨T.setVm vm₁, locs, cells, slots⟩ (Value.ref b :: argsL).toArray v B ∧
      ∀ target, Steps p.tables e below (B.U.setTop { g with pc := g.pc + 3, stack := v.toList ++ rest }) target → Steps p.tables e below (T.setTop g) target := by
  obtain ⟨mk, methM, hnamed, hmethM, hstM, habM⟩ := Cond.instanceMethod_spec hinst
  obtain ⟨m8, methM', cM, hn8, hmethM', -, -, -, -, -, -, hsigM⟩ := Cond.codeWith_spec hcode
  cases Option.some.inj (hn8.symm.trans hnamed)
  cases hmethM.symm.trans hmethM'
  obtain ⟨c2, r2, m2, q1, q2, q3, q4, kP, hkP, hkPi⟩ := Cond.selects_spec hsel
  cases hcls.symm.trans q1
  cases (State.methodFound?_of_named hnamed hy).symm.trans q2
  cases hnamed.symm.trans q3
  have hselP : selectMethod e.platform s.vm cellB.cls mk = .method mk := by rw [Launch.admits_selectMethod X.admits]; exact q4
  obtain ⟨vm₁, X₁, hstep₁⟩ := X.invokevirtual hexec hown hlink hnamed hmethM hstM hkP hkPi hy (a := b) (cell := cellB) hcell
    (fun z h => by rw [h] at hobj; cases hobj) hselP hmethM habM hkP hkPi (g := g) hg (argsL := argsL) (rest := rest) (hlen _ hsigM) hstack hdg
  obtain ⟨v, B, X', hpost, hsteps⟩ := hK m meth c ⟨T.setVm vm₁, locs, cells, slots⟩ { g with stack := rest } (.invokevirtual index) mk (Value.ref b :: argsL).toArray X₁ hg hsize hdg hW (X₁.named hnamed) (hpre vm₁ X₁.warmed)
  exact ⟨v, vm₁, B, X₁.warmed, X', hpost, fun target h => hstep₁ _ fun acts => by rw [doInvoke_state]; exact hsteps.trans h⟩
abbrev vx_CVW (R : Room) (s : State) (args : Array Value) (own C : String) (index : Nat) (y : MethodName) (bytes : ByteArray) (maxL : Nat) (ret : Option FieldType) (hh : List (Nat × Nat × Nat × Nat)) (ws : List Cond) (rm : Room) (mc ms n : Nat) : Prop :=
  (rm.cells = mc ∧ rm.slots = ms ∧ rm.frames + 1 ≤ R.frames ∧ 8 + (maxL + 11) + rm.locals ≤ R.locals ∧ (∀ w ∈ ws, ∀ (a' : Array Value) (U : State), s.WarmedH U.vm → w.before a' U = true) ∧ Cond.codeWith y bytes maxL ret hh ∈ ws) ∧
  (Cond.codeWith y bytes maxL ret hh).before args s = true ∧ (Cond.initialized y.cls).before args s = true ∧ (y.cls ≠ "java/lang/invoke/MethodHandle" ∧ y.cls ≠ "java/lang/invoke/VarHandle") ∧
  (∀ sig, parseMethodDescriptor y.desc = some sig → n = sig.parameters.length) ∧ (Cond.methodLink own index y).before args s = true ∧ (Cond.instanceMethod y).before args s = true ∧ (Cond.selects C y y).before args s = true
theorem vx_cwVW {own C : String} {index maxL mc ms : Nat} {y : MethodName} {bytes : ByteArray} {ret : Option FieldType} {hh : List (Nat × Nat × Nat × Nat)} {Ts ws ws' : List Cond} {rm : Room} (n : Nat) (ht : ∀ w ∈ Ts, w.before args s = true) (hT : GoodIn Ts (wsV own index C y ws)) (hw : ws = Cond.codeWith y bytes maxL ret hh :: ws') (hrc : rm.cells = mc) (hrs : rm.slots = ms)
    (hd : y.cls = C ∧ y.cls ≠ "java/lang/invoke/MethodHandle" ∧ y.cls ≠ "java/lang/invoke/VarHandle" ∧ (parseMethodDescriptor y.desc).map (fun d => d.parameters.length) = some n) (hR : rm.frames + 1 ≤ R.frames ∧ 8 + (maxL + 11) + rm.locals ≤ R.locals) :
    vx_CVW R s args own C index y bytes maxL ret hh ws rm mc ms n := by
  obtain ⟨hC, hd⟩ := hd
  subst hC
  have ok : ∀ w ∈ wsV own index y.cls y ws, w.before args s = true := fun w h => ht w (hT w h).1
  have hG : GoodIn Ts ws := fun w h => hT w (by unfold wsV; exact List.mem_append_right _ h)
  have hc : Cond.codeWith y bytes maxL ret hh ∈ ws := by rw [hw]; exact List.mem_cons_self
  refine ⟨⟨hrc, hrs, hR.1, hR.2, pay_in ht hG, hc⟩, ht _ (hG _ hc).1, ok _ (by simp [wsV]), ⟨hd.1, hd.2.1⟩, fun sig h => ?_, ok _ (by simp [wsV]), ok _ (by simp [wsV]), ok _ (by simp [wsV])⟩
  have h2 := hd.2.2
  rw [h] at h2
  exact (Option.some.inj h2).symm
theorem vx_runVW {y : MethodName} {bytes cc : ByteArray} {maxL nL mc ms n index : Nat} {ret : Option FieldType} {hh : List (Nat × Nat × Nat × Nat)} {ws : List Cond} {rm : Room} {Pc : Array Value → State → Prop} {Qc : Array Value → State → Outcome → State → Prop} {free : Addr → Prop} {Ts : List Cond} {own C : String} {b : Addr} {As rest : List Value} {g : JFrame}
    (S : CallFix p m c cc nL s args Ts own) (hM : Met l y ws rm Pc Qc mc ms free) (cw : vx_CVW R s args own C index y bytes maxL ret hh ws rm mc ms n) (hp : PreV s H C b Pc As)
    (hg : g.method = m) (hn : As.length = n) (hsize : g.locals.size = nL) (hstack : g.stack = As.reverse ++ .ref b :: rest) (hW : 2 * g.monitorRoom + (rest.map fun v => v.category).sum ≤ 8) (hdg : decode cc g.pc = .ok (.invokevirtual index, 3)) (hf : cells + mc ≤ R.cells ∧ slots + ms ≤ R.slots) :
    va_Run p l e R s m args below meth c H locs cells slots mc ms g rest (Qc (Value.ref b :: As).toArray) free := by
  obtain ⟨⟨hrc, hrs, hfr, hlo, hws, hcw⟩, hcode, hini, hy, hlen, hl, hin, hse⟩ := cw
  have hK : Back l R p e below s args y 3 8 (PreOf R mc ms Pc) (PostOf Qc mc ms free) := va_backW (hh := hh) (bytes := bytes) (maxL := maxL) (ret := ret) hM hp.1 hrc hrs hfr hlo hws hcw (fun a' U hW => word_at hW (Or.inl (by first | rfl | simp [Cond.onTables, Cond.keeps, Cond.steady])) hini)
  obtain ⟨hx, hb, hml, ho, -⟩ := S
  obtain ⟨-, ⟨cellB, hcB, hoB, hclB⟩, hPc⟩ := hp
  intro T hT X
  obtain ⟨v, vm₁, ⟨U', l2, c2, s2⟩, hW₁, X', ⟨g', mk, t, L, e1, e2, hq, h1, hL, h2, h3⟩, st⟩ := vx_callVW X hx (C := C) (hh := hh) (bytes := bytes) (maxL := maxL) (ret := ret) ho hl hin hse hcode hy hK (by rw [hT]; exact hcB) hoB hclB hg (hsize.trans hml.symm) (argsL := As) (rest := rest) (fun sig h => hn.trans (hlen sig h)) hstack hW (by rw [hb]; exact hdg)
    (fun vm₁ hW₁ => ⟨hf.1, hf.2, hPc (T.setVm vm₁) hT hW₁⟩)
  dsimp only [Pt.U, Pt.locs, Pt.cells, Pt.slots] at X' e1 e2 h1 h2 h3 st
  subst h1; subst h2; subst h3
  exact ⟨v, (T.setVm vm₁).calling g' mk (Value.ref b :: As).toArray, t, U', L, hT, X', hL, e1, e2, hq, st⟩
section
variable {y : MethodName} {bytes cc : ByteArray} {maxL nL mc ms n index : Nat} {ret : Option FieldType} {ws : List Cond} {rm : Room} {Pc : Array Value → State → Prop} {Qc : Array Value → State → Outcome → State → Prop} {XC : String → State → State → Prop} {free : Addr → Prop} {Ts : List Cond} {own C : String} {b : Addr} {As rest : List Value} {g : JFrame}
theorem vx_runVX {hh : List (Nat × Nat × Nat × Nat)} (S : CallFix p m c cc nL s args Ts own) (hM : vx_Met l y ws rm Pc Qc XC mc ms free) (cw : vx_CVW R s args own C index y bytes maxL ret hh ws rm mc ms n) (hp : PreV s H C b Pc As)
    (hg : g.method = m) (hn : As.length = n) (hsize : g.locals.size = nL) (hstack : g.stack = As.reverse ++ .ref b :: rest) (hW : 2 * g.monitorRoom + (rest.map fun v => v.category).sum ≤ 8) (hdg : decode cc g.pc = .ok (.invokevirtual index, 3)) (hf : cells + mc ≤ R.cells ∧ slots + ms ≤ R.slots) :
    vx_Run p l e R s m args below meth c H locs cells slots mc ms g rest (Qc (Value.ref b :: As).toArray) XC free := by
  obtain ⟨⟨hrc, hrs, hfr, hlo, hws, hcw⟩, hcode, hini, hy, hlen, hl, hin, hse⟩ := cw
  have hK : vx_Back l R p e below s args y 3 8 (PreOf R mc ms Pc) (PostOf Qc mc ms free) (vx_Post XC mc ms free) := vx_backW (hh := hh) (bytes := bytes) (maxL := maxL) (ret := ret) hM hp.1 hrc hrs hfr hlo hws hcw (fun a' U hW => word_at hW (Or.inl (by first | rfl | simp [Cond.onTables, Cond.keeps, Cond.steady])) hini)
  obtain ⟨hx, hb, hml, ho, -⟩ := S
  obtain ⟨-, ⟨cellB, hcB, hoB, hclB⟩, hPc⟩ := hp
  intro T hT X
  rcases vx_callVX X hx (C := C) (hh := hh) (bytes := bytes) (maxL := maxL) (ret := ret) ho hl hin hse hcode hy hK (by rw [hT]; exact hcB) hoB hclB hg (hsize.trans hml.symm) (argsL := As) (rest := rest) (fun sig h => hn.trans (hlen sig h)) hstack hW (by rw [hb]; exact hdg)
    (fun vm₁ hW₁ => ⟨hf.1, hf.2, hPc (T.setVm vm₁) hT hW₁⟩) with ⟨v, vm₁, ⟨U', l2, c2, s2⟩, hW₁, X', ⟨g', mk, t, L, e1, e2, hq, h1, hL, h2, h3⟩, st⟩ | ⟨q, vm₁, ⟨U', l2, c2, s2⟩, hW₁, X', ⟨g', mk, t, L, E, ce, e1, e2, hq, hce, hcv, hcl, h1, hL, h2, h3⟩, st⟩
  · dsimp only [Pt.U, Pt.locs, Pt.cells, Pt.slots] at X' e1 e2 h1 h2 h3 st
    subst h1; subst h2; subst h3
    exact Or.inl ⟨v, (T.setVm vm₁).calling g' mk (Value.ref b :: As).toArray, t, U', L, hT, X', hL, e1, e2, hq, st⟩
  · dsimp only [Pt.U, Pt.locs, Pt.cells, Pt.slots] at X' e1 e2 h1 h2 h3 st hcl
    subst h1; subst h2; subst h3
    exact Or.inr ⟨q, (T.setVm vm₁).calling g' mk (Value.ref b :: As).toArray, t, U', L, E, ce, hT, X', hL, e1, e2, hq, hce, hcv, vx_cls hW₁ hcl, st⟩
theorem vx_runSX {hh : List (Nat × Nat × Nat × Nat)} (S : CallFix p m c cc nL s args Ts own) (hM : vx_Met l y ws rm Pc Qc XC mc ms free) (cw : vx_CSW R s args own index y bytes maxL ret hh ws rm mc ms n) (hp : PreS s H Pc As)
    (hg : g.method = m) (hn : As.length = n) (hsize : g.locals.size = nL) (hstack : g.stack = As.reverse ++ rest) (hW : 2 * g.monitorRoom + (rest.map fun v => v.category).sum ≤ 8) (hdg : decode cc g.pc = .ok (.invokestatic index, 3)) (hf : cells + mc ≤ R.cells ∧ slots + ms ≤ R.slots) :
    vx_Run p l e R s m args below meth c H locs cells slots mc ms g rest (Qc As.toArray) XC free := by
  obtain ⟨⟨hrc, hrs, hfr, hlo, hws, hcw⟩, hcode, hini, hy, hlen, hl, hstt⟩ := cw
  have hK : vx_Back l R p e below s args y 3 8 (PreOf R mc ms Pc) (PostOf Qc mc ms free) (vx_Post XC mc ms free) := vx_backW (hh := hh) (bytes := bytes) (maxL := maxL) (ret := ret) hM hp.1 hrc hrs hfr hlo hws hcw (fun a' U hW => word_at hW (Or.inl (by first | rfl | simp [Cond.onTables, Cond.keeps, Cond.steady])) hini)
  obtain ⟨hx, hb, hml, ho, -⟩ := S
  intro T hT X
  rcases vx_callSX X hx (hh := hh) (bytes := bytes) (maxL := maxL) (ret := ret) ho hl hstt hini hcode hy hK hg (hsize.trans hml.symm) (argsL := As) (rest := rest) (fun sig h => hn.trans (hlen sig h)) hstack hW (by rw [hb]; exact hdg)
    (fun vm₁ hW₁ => ⟨hf.1, hf.2, hp.2 (T.setVm vm₁) hT hW₁⟩) with ⟨v, vm₁, ⟨U', l2, c2, s2⟩, hW₁, X', ⟨g', mk, t, L, e1, e2, hq, h1, hL, h2, h3⟩, st⟩ | ⟨q, vm₁, ⟨U', l2, c2, s2⟩, hW₁, X', ⟨g', mk, t, L, E, ce, e1, e2, hq, hce, hcv, hcl, h1, hL, h2, h3⟩, st⟩
  · dsimp only [Pt.U, Pt.locs, Pt.cells, Pt.slots] at X' e1 e2 h1 h2 h3 st
    subst h1; subst h2; subst h3
    exact Or.inl ⟨v, (T.setVm vm₁).calling g' mk As.toArray, t, U', L, hT, X', hL, e1, e2, hq, st⟩
  · dsimp only [Pt.U, Pt.locs, Pt.cells, Pt.slots] at X' e1 e2 h1 h2 h3 st hcl
    subst h1; subst h2; subst h3
    exact Or.inr ⟨q, (T.setVm vm₁).calling g' mk As.toArray, t, U', L, E, ce, hT, X', hL, e1, e2, hq, hce, hcv, vx_cls hW₁ hcl, st⟩
end
end VXH
theorem vx_ofWH {l : Launch} {y : MethodName} {ws ws' : List Cond} {rm : Room} {Pc : Array Value → State → Prop} {Qc : Array Value → State → Outcome → State → Prop} {XC : String → State → State → Prop} {mc ms : Nat} {free : Addr → Prop} {cc : ByteArray} {maxL : Nat} {ret : Option FieldType} {hh : List (Nat × Nat × Nat × Nat)}
    (hy : plainName y.cls = true) (hw : ws = Cond.codeWith y cc maxL ret hh :: ws')
    (body : ∀ p e s m args below meth c s₁, BodyLoose p l y (headSpec ws rm) cc maxL ret e s m args below meth c s₁ → c.maxLocals = maxL → Pc args s →
      W p l e (headSpec ws rm).room s m args below meth c s.heap [] 0 0 (vx_MQ below Qc XC args s mc ms free) (entryFrame m args maxL)) : vx_Met l y ws rm Pc Qc XC mc ms free := by
  refine MetFree.of_bodyS (code := cc) (maxLocals := maxL) (ret := ret) hy ?_ ?_
  · intro args s m h hn
    obtain ⟨m9, meth, c, hn9, h1, h2, h3, h4, -, h5, h6, -⟩ := Cond.codeWith_spec (atoms_spec (ws := ws) h _ (by rw [hw]; exact List.mem_cons_self))
    cases hn.symm.trans hn9
    exact ⟨meth, c, h1, h2, h3, h4, h5, h6⟩
  · intro p e s m args below meth c s₁ B hml hP _
    have hh0 : s₁.heap = s.heap := by rw [B.state]; rfl
    obtain ⟨t, a1, o, b1, b2, b3⟩ := body p e s m args below meth c s₁ B hml hP s₁ hh0 (Stand.of_body B)
    exact ⟨t, o, a1, b1, b2, b3⟩
/-! ===== END ===== -/
end
section

/-! ===== BEGIN printed: names, fields, word lists, decode rows ===== -/
def RX0 : String := "CornerCube"
def TX0 : u_T := fun k => match k with
  | 0 => ("CornerCube", "cube", "J", false)
  | 1 => ("CornerCube", "turnsMade", "I", false)
  | 2 => ("CornerCube", "turnsOf", "[[I", true)
  | _ => ("CornerCube", "lengths", "[I", true)
def tyX0 : Nat → FieldType := fun k => match k with
  | 0 => .long
  | 1 => .int
  | 2 => .array (.array .int)
  | _ => .array .int
abbrev wsX00 : List Cond := u_ws RX0 TX0 4
theorem nmX0 : ∀ a, a < 4 → ∀ b, b < 4 → a ≠ b → (TX0 a).2.1 ≠ (TX0 b).2.1 := by decide +kernel
theorem tyX0_ok : ∀ k, k < 4 → parseFieldDescriptor (TX0 k).2.2.1 = some (tyX0 k) := by decide +kernel
abbrev cX0_init : ByteArray := prog_1_method_1_code
def yX0_init : MethodName := ⟨RX0, "<init>", "()V"⟩
abbrev cX0_turn : ByteArray := prog_1_method_2_code
def yX0_turn : MethodName := ⟨RX0, "turn", "(II)I"⟩
abbrev cX0_play : ByteArray := prog_1_method_3_code
def yX0_play : MethodName := ⟨RX0, "play", "(II)I"⟩
abbrev cX0_reset : ByteArray := prog_1_method_4_code
def yX0_reset : MethodName := ⟨RX0, "reset", "()I"⟩
abbrev cX0_say : ByteArray := prog_1_method_5_code
def yX0_say : MethodName := ⟨RX0, "say", "(III)I"⟩
abbrev cX0_wipe : ByteArray := prog_1_method_6_code
def yX0_wipe : MethodName := ⟨RX0, "wipe", "(I)I"⟩
abbrev cX0_round : ByteArray := prog_1_method_7_code
def yX0_round : MethodName := ⟨RX0, "round", "(I)I"⟩
abbrev cX0_join : ByteArray := prog_1_method_8_code
def yX0_join : MethodName := ⟨RX0, "join", "(II)I"⟩
abbrev cX0_tidy : ByteArray := prog_1_method_9_code
def yX0_tidy : MethodName := ⟨RX0, "tidy", "(I)I"⟩
abbrev cX0_told : ByteArray := prog_1_method_10_code
def yX0_told : MethodName := ⟨RX0, "told", "(II)I"⟩
abbrev cX0_where : ByteArray := prog_1_method_11_code
def yX0_where : MethodName := ⟨RX0, "where", "(I)I"⟩
abbrev cX0_count : ByteArray := prog_1_method_12_code
def yX0_count : MethodName := ⟨RX0, "count", "(I)I"⟩
abbrev cX0_word : ByteArray := prog_1_method_13_code
def yX0_word : MethodName := ⟨RX0, "word", "(II)I"⟩
abbrev cX0_at : ByteArray := prog_1_method_14_code
def yX0_at : MethodName := ⟨RX0, "at", "(II)I"⟩
abbrev cX0_same : ByteArray := prog_1_method_15_code
def yX0_same : MethodName := ⟨RX0, "same", "(II)Z"⟩
abbrev cX0_mixed : ByteArray := prog_1_method_16_code
def yX0_mixed : MethodName := ⟨RX0, "mixed", "(II)I"⟩
abbrev cX0_would : ByteArray := prog_1_method_17_code
def yX0_would : MethodName := ⟨RX0, "would", "(II)I"⟩
abbrev cX0_far : ByteArray := prog_1_method_18_code
def yX0_far : MethodName := ⟨RX0, "far", "(I)I"⟩
abbrev cX0_first : ByteArray := prog_1_method_19_code
def yX0_first : MethodName := ⟨RX0, "first", "(I)I"⟩
abbrev cX0_shortest : ByteArray := prog_1_method_20_code
def yX0_shortest : MethodName := ⟨RX0, "shortest", "(II)I"⟩
abbrev cX0_advise : ByteArray := prog_1_method_21_code
def yX0_advise : MethodName := ⟨RX0, "advise", "()I"⟩
abbrev cX0_mean : ByteArray := prog_1_method_22_code
def yX0_mean : MethodName := ⟨RX0, "mean", "()D"⟩
abbrev cX0_digest : ByteArray := prog_1_method_23_code
def yX0_digest : MethodName := ⟨RX0, "digest", "()J"⟩
abbrev cX0_digestOfWord : ByteArray := prog_1_method_24_code
def yX0_digestOfWord : MethodName := ⟨RX0, "digestOfWord", "(JI)J"⟩
abbrev cX0_checkFace : ByteArray := prog_1_method_25_code
def yX0_checkFace : MethodName := ⟨RX0, "checkFace", "(I)V"⟩
abbrev cX0_checkQuarters : ByteArray := prog_1_method_26_code
def yX0_checkQuarters : MethodName := ⟨RX0, "checkQuarters", "(I)V"⟩
abbrev cX0_checkWord : ByteArray := prog_1_method_27_code
def yX0_checkWord : MethodName := ⟨RX0, "checkWord", "(I)V"⟩
abbrev cX0_checkPlace : ByteArray := prog_1_method_28_code
def yX0_checkPlace : MethodName := ⟨RX0, "checkPlace", "(I)V"⟩
abbrev cX0_checkWhat : ByteArray := prog_1_method_29_code
def yX0_checkWhat : MethodName := ⟨RX0, "checkWhat", "(II)V"⟩
abbrev cX0_checkMost : ByteArray := prog_1_method_30_code
def yX0_checkMost : MethodName := ⟨RX0, "checkMost", "(I)V"⟩
abbrev cX0_turnNumber : ByteArray := prog_1_method_31_code
def yX0_turnNumber : MethodName := ⟨RX0, "turnNumber", "(II)I"⟩
abbrev cX0_faceOf : ByteArray := prog_1_method_32_code
def yX0_faceOf : MethodName := ⟨RX0, "faceOf", "(I)I"⟩
abbrev cX0_quartersOf : ByteArray := prog_1_method_33_code
def yX0_quartersOf : MethodName := ⟨RX0, "quartersOf", "(I)I"⟩
abbrev cX0_turnedBack : ByteArray := prog_1_method_34_code
def yX0_turnedBack : MethodName := ⟨RX0, "turnedBack", "(I)I"⟩
abbrev cX0_keep : ByteArray := prog_1_method_35_code
def yX0_keep : MethodName := ⟨RX0, "keep", "([III)I"⟩
abbrev cX0_deedOf : ByteArray := prog_1_method_36_code
def yX0_deedOf : MethodName := ⟨RX0, "deedOf", "(I)J"⟩
abbrev cX0_behindWord : ByteArray := prog_1_method_37_code
def yX0_behindWord : MethodName := ⟨RX0, "behindWord", "(JI)J"⟩
abbrev cX0_behindWordRound : ByteArray := prog_1_method_38_code
def yX0_behindWordRound : MethodName := ⟨RX0, "behindWordRound", "(JI)J"⟩
abbrev cX0_turnsOfAllWords : ByteArray := prog_1_method_39_code
def yX0_turnsOfAllWords : MethodName := ⟨RX0, "turnsOfAllWords", "()I"⟩
abbrev cX0_cornerAt : ByteArray := prog_1_method_40_code
def yX0_cornerAt : MethodName := ⟨RX0, "cornerAt", "(JI)I"⟩
abbrev cX0_twistAt : ByteArray := prog_1_method_41_code
def yX0_twistAt : MethodName := ⟨RX0, "twistAt", "(JI)I"⟩
abbrev cX0_isRight : ByteArray := prog_1_method_42_code
def yX0_isRight : MethodName := ⟨RX0, "isRight", "(JI)Z"⟩
abbrev cX0_rightCorners : ByteArray := prog_1_method_43_code
def yX0_rightCorners : MethodName := ⟨RX0, "rightCorners", "(J)I"⟩
abbrev cX0_wrongCorners : ByteArray := prog_1_method_44_code
def yX0_wrongCorners : MethodName := ⟨RX0, "wrongCorners", "(J)I"⟩
abbrev cX0_placedCorners : ByteArray := prog_1_method_45_code
def yX0_placedCorners : MethodName := ⟨RX0, "placedCorners", "(J)I"⟩
abbrev cX0_untwistedCorners : ByteArray := prog_1_method_46_code
def yX0_untwistedCorners : MethodName := ⟨RX0, "untwistedCorners", "(J)I"⟩
abbrev cX0_pairsOutOfOrder : ByteArray := prog_1_method_47_code
def yX0_pairsOutOfOrder : MethodName := ⟨RX0, "pairsOutOfOrder", "(J)I"⟩
abbrev cX0_orderOf : ByteArray := prog_1_method_48_code
def yX0_orderOf : MethodName := ⟨RX0, "orderOf", "(J)I"⟩
abbrev cX0_withCorner : ByteArray := prog_1_method_49_code
def yX0_withCorner : MethodName := ⟨RX0, "withCorner", "(JIII)J"⟩
abbrev cX0_turned : ByteArray := prog_1_method_50_code
def yX0_turned : MethodName := ⟨RX0, "turned", "(JI)J"⟩
abbrev cX0_quarterTurned : ByteArray := prog_1_method_51_code
def yX0_quarterTurned : MethodName := ⟨RX0, "quarterTurned", "(JI)J"⟩
abbrev cX0_gone : ByteArray := prog_1_method_52_code
def yX0_gone : MethodName := ⟨RX0, "gone", "(JII)J"⟩
abbrev cX0_hexDigit : ByteArray := prog_1_method_53_code
def yX0_hexDigit : MethodName := ⟨RX0, "hexDigit", "(II)I"⟩
abbrev cX0_behindDeed : ByteArray := prog_1_method_54_code
def yX0_behindDeed : MethodName := ⟨RX0, "behindDeed", "(JJ)J"⟩
abbrev cX0_fewestTurns : ByteArray := prog_1_method_55_code
def yX0_fewestTurns : MethodName := ⟨RX0, "fewestTurns", "(JI)I"⟩
abbrev cX0_isRightWithin : ByteArray := prog_1_method_56_code
def yX0_isRightWithin : MethodName := ⟨RX0, "isRightWithin", "(JII)Z"⟩
abbrev cX0_isRightBeginning : ByteArray := prog_1_method_57_code
def yX0_isRightBeginning : MethodName := ⟨RX0, "isRightBeginning", "(JII)Z"⟩
abbrev cX0_mostSetRight : ByteArray := prog_1_method_58_code
def yX0_mostSetRight : MethodName := ⟨RX0, "mostSetRight", "(I)I"⟩
def RX1 : String := "CornerCubeModel"
def TX1 : u_T := fun k => match k with
  | 0 => ("CornerCubeModel", "thrown", "I", false)
  | 1 => ("CornerCubeModel", "made", "I", false)
  | 2 => ("CornerCubeModel", "cube", "[I", false)
  | 3 => ("CornerCubeModel", "rows", "[[I", true)
  | 4 => ("CornerCubeModel", "tried", "[[I", true)
  | 5 => ("CornerCubeModel", "sizes", "[I", true)
  | _ => ("CornerCubeModel", "words", "[I", true)
def tyX1 : Nat → FieldType := fun k => match k with
  | 0 => .int
  | 1 => .int
  | 2 => .array .int
  | 3 => .array (.array .int)
  | 4 => .array (.array .int)
  | 5 => .array .int
  | _ => .array .int
abbrev wsX10 : List Cond := u_ws RX1 TX1 7
theorem nmX1 : ∀ a, a < 7 → ∀ b, b < 7 → a ≠ b → (TX1 a).2.1 ≠ (TX1 b).2.1 := by decide +kernel
theorem tyX1_ok : ∀ k, k < 7 → parseFieldDescriptor (TX1 k).2.2.1 = some (tyX1 k) := by decide +kernel
abbrev cX1_init : ByteArray := prog_3_method_1_code
def yX1_init : MethodName := ⟨RX1, "<init>", "()V"⟩
abbrev cX1_thrown : ByteArray := prog_3_method_2_code
def yX1_thrown : MethodName := ⟨RX1, "thrown", "()I"⟩
abbrev cX1_no : ByteArray := prog_3_method_3_code
def yX1_no : MethodName := ⟨RX1, "no", "(I)I"⟩
abbrev cX1_isIn : ByteArray := prog_3_method_4_code
def yX1_isIn : MethodName := ⟨RX1, "isIn", "(III)Z"⟩
abbrev cX1_isWord : ByteArray := prog_3_method_5_code
def yX1_isWord : MethodName := ⟨RX1, "isWord", "(I)Z"⟩
abbrev cX1_right : ByteArray := prog_3_method_6_code
def yX1_right : MethodName := ⟨RX1, "right", "()[I"⟩
abbrev cX1_then : ByteArray := prog_3_method_7_code
def yX1_then : MethodName := ⟨RX1, "then", "([I[I)[I"⟩
abbrev cX1_into : ByteArray := prog_3_method_8_code
def yX1_into : MethodName := ⟨RX1, "into", "([I[I[I)[I"⟩
abbrev cX1_back : ByteArray := prog_3_method_9_code
def yX1_back : MethodName := ⟨RX1, "back", "([I)[I"⟩
abbrev cX1_quarter : ByteArray := prog_3_method_10_code
def yX1_quarter : MethodName := ⟨RX1, "quarter", "(I)[I"⟩
abbrev cX1_turnRow : ByteArray := prog_3_method_11_code
def yX1_turnRow : MethodName := ⟨RX1, "turnRow", "(I)[I"⟩
abbrev cX1_turned : ByteArray := prog_3_method_12_code
def yX1_turned : MethodName := ⟨RX1, "turned", "([II)[I"⟩
abbrev cX1_rowOf : ByteArray := prog_3_method_13_code
def yX1_rowOf : MethodName := ⟨RX1, "rowOf", "(I)[I"⟩
abbrev cX1_isRight : ByteArray := prog_3_method_14_code
def yX1_isRight : MethodName := ⟨RX1, "isRight", "([II)Z"⟩
abbrev cX1_many : ByteArray := prog_3_method_15_code
def yX1_many : MethodName := ⟨RX1, "many", "([II)I"⟩
abbrev cX1_divisor : ByteArray := prog_3_method_16_code
def yX1_divisor : MethodName := ⟨RX1, "divisor", "(II)I"⟩
abbrev cX1_byCycles : ByteArray := prog_3_method_17_code
def yX1_byCycles : MethodName := ⟨RX1, "byCycles", "([IZ)I"⟩
abbrev cX1_comes : ByteArray := prog_3_method_18_code
def yX1_comes : MethodName := ⟨RX1, "comes", "([III)Z"⟩
abbrev cX1_farOf : ByteArray := prog_3_method_19_code
def yX1_farOf : MethodName := ⟨RX1, "farOf", "([II)I"⟩
abbrev cX1_turn : ByteArray := prog_3_method_20_code
def yX1_turn : MethodName := ⟨RX1, "turn", "(II)I"⟩
abbrev cX1_play : ByteArray := prog_3_method_21_code
def yX1_play : MethodName := ⟨RX1, "play", "(II)I"⟩
abbrev cX1_reset : ByteArray := prog_3_method_22_code
def yX1_reset : MethodName := ⟨RX1, "reset", "()I"⟩
abbrev cX1_put : ByteArray := prog_3_method_23_code
def yX1_put : MethodName := ⟨RX1, "put", "(II)V"⟩
abbrev cX1_say : ByteArray := prog_3_method_24_code
def yX1_say : MethodName := ⟨RX1, "say", "(III)I"⟩
abbrev cX1_wipe : ByteArray := prog_3_method_25_code
def yX1_wipe : MethodName := ⟨RX1, "wipe", "(I)I"⟩
abbrev cX1_taken : ByteArray := prog_3_method_26_code
def yX1_taken : MethodName := ⟨RX1, "taken", "(I)[I"⟩
abbrev cX1_round : ByteArray := prog_3_method_27_code
def yX1_round : MethodName := ⟨RX1, "round", "(I)I"⟩
abbrev cX1_join : ByteArray := prog_3_method_28_code
def yX1_join : MethodName := ⟨RX1, "join", "(II)I"⟩
abbrev cX1_tidy : ByteArray := prog_3_method_29_code
def yX1_tidy : MethodName := ⟨RX1, "tidy", "(I)I"⟩
abbrev cX1_placeTold : ByteArray := prog_3_method_30_code
def yX1_placeTold : MethodName := ⟨RX1, "placeTold", "(II)I"⟩
abbrev cX1_told : ByteArray := prog_3_method_31_code
def yX1_told : MethodName := ⟨RX1, "told", "(II)I"⟩
abbrev cX1_where : ByteArray := prog_3_method_32_code
def yX1_where : MethodName := ⟨RX1, "where", "(I)I"⟩
abbrev cX1_allTurns : ByteArray := prog_3_method_33_code
def yX1_allTurns : MethodName := ⟨RX1, "allTurns", "()I"⟩
abbrev cX1_counted : ByteArray := prog_3_method_34_code
def yX1_counted : MethodName := ⟨RX1, "counted", "(I)I"⟩
abbrev cX1_count : ByteArray := prog_3_method_35_code
def yX1_count : MethodName := ⟨RX1, "count", "(I)I"⟩
abbrev cX1_wordTold : ByteArray := prog_3_method_36_code
def yX1_wordTold : MethodName := ⟨RX1, "wordTold", "(II)I"⟩
abbrev cX1_word : ByteArray := prog_3_method_37_code
def yX1_word : MethodName := ⟨RX1, "word", "(II)I"⟩
abbrev cX1_at : ByteArray := prog_3_method_38_code
def yX1_at : MethodName := ⟨RX1, "at", "(II)I"⟩
abbrev cX1_same : ByteArray := prog_3_method_39_code
def yX1_same : MethodName := ⟨RX1, "same", "(II)Z"⟩
abbrev cX1_mixed : ByteArray := prog_3_method_40_code
def yX1_mixed : MethodName := ⟨RX1, "mixed", "(II)I"⟩
abbrev cX1_would : ByteArray := prog_3_method_41_code
def yX1_would : MethodName := ⟨RX1, "would", "(II)I"⟩
abbrev cX1_far : ByteArray := prog_3_method_42_code
def yX1_far : MethodName := ⟨RX1, "far", "(I)I"⟩
abbrev cX1_first : ByteArray := prog_3_method_43_code
def yX1_first : MethodName := ⟨RX1, "first", "(I)I"⟩
abbrev cX1_shortest : ByteArray := prog_3_method_44_code
def yX1_shortest : MethodName := ⟨RX1, "shortest", "(II)I"⟩
abbrev cX1_advise : ByteArray := prog_3_method_45_code
def yX1_advise : MethodName := ⟨RX1, "advise", "()I"⟩
abbrev cX1_mean : ByteArray := prog_3_method_46_code
def yX1_mean : MethodName := ⟨RX1, "mean", "()D"⟩
abbrev cX1_digest : ByteArray := prog_3_method_47_code
def yX1_digest : MethodName := ⟨RX1, "digest", "()J"⟩
def RJ9 : String := "java/lang/Math"
def TJ9 : u_T := fun k => match k with
  | _ => ("", "", "", false)
def tyJ9 : Nat → FieldType := fun k => match k with
  | _ => .int
abbrev wsJ90 : List Cond := u_ws RJ9 TJ9 0
theorem nmJ9 : ∀ a, a < 0 → ∀ b, b < 0 → a ≠ b → (TJ9 a).2.1 ≠ (TJ9 b).2.1 := by decide +kernel
theorem tyJ9_ok : ∀ k, k < 0 → parseFieldDescriptor (TJ9 k).2.2.1 = some (tyJ9 k) := by decide +kernel
abbrev cJ9_min_7cf53 : ByteArray := prog_8_method_69_code
def yJ9_min_7cf53 : MethodName := ⟨RJ9, "min", "(II)I"⟩
def RJ0 : String := "java/lang/String"
def TJ0 : u_T := fun k => match k with
  | _ => ("", "", "", false)
def tyJ0 : Nat → FieldType := fun k => match k with
  | _ => .int
abbrev wsJ00 : List Cond := u_ws RJ0 TJ0 0
theorem nmJ0 : ∀ a, a < 0 → ∀ b, b < 0 → a ≠ b → (TJ0 a).2.1 ≠ (TJ0 b).2.1 := by decide +kernel
theorem tyJ0_ok : ∀ k, k < 0 → parseFieldDescriptor (TJ0 k).2.2.1 = some (tyJ0 k) := by decide +kernel
def RJ10 : String := "java/lang/System"
def TJ10 : u_T := fun k => match k with
  | _ => ("", "", "", false)
def tyJ10 : Nat → FieldType := fun k => match k with
  | _ => .int
abbrev wsJ100 : List Cond := u_ws RJ10 TJ10 0
theorem nmJ10 : ∀ a, a < 0 → ∀ b, b < 0 → a ≠ b → (TJ10 a).2.1 ≠ (TJ10 b).2.1 := by decide +kernel
theorem tyJ10_ok : ∀ k, k < 0 → parseFieldDescriptor (TJ10 k).2.2.1 = some (tyJ10 k) := by decide +kernel
def RL : String := "CornerCubeLaw"
abbrev cL_turn : ByteArray := method_3_code
def yL_turn : MethodName := ⟨RL, "turn", "(LCornerCube;II[J)I"⟩
abbrev cL_play : ByteArray := method_4_code
def yL_play : MethodName := ⟨RL, "play", "(LCornerCube;II[J)I"⟩
abbrev cL_say : ByteArray := method_5_code
def yL_say : MethodName := ⟨RL, "say", "(LCornerCube;III[J)I"⟩
abbrev cL_wipe : ByteArray := method_6_code
def yL_wipe : MethodName := ⟨RL, "wipe", "(LCornerCube;I[J)I"⟩
abbrev cL_round : ByteArray := method_7_code
def yL_round : MethodName := ⟨RL, "round", "(LCornerCube;I[J)I"⟩
abbrev cL_join : ByteArray := method_8_code
def yL_join : MethodName := ⟨RL, "join", "(LCornerCube;II[J)I"⟩
abbrev cL_tidy : ByteArray := method_9_code
def yL_tidy : MethodName := ⟨RL, "tidy", "(LCornerCube;I[J)I"⟩
abbrev cL_told : ByteArray := method_10_code
def yL_told : MethodName := ⟨RL, "told", "(LCornerCube;II[J)I"⟩
abbrev cL_where : ByteArray := method_11_code
def yL_where : MethodName := ⟨RL, "where", "(LCornerCube;I[J)I"⟩
abbrev cL_count : ByteArray := method_12_code
def yL_count : MethodName := ⟨RL, "count", "(LCornerCube;I[J)I"⟩
abbrev cL_word : ByteArray := method_13_code
def yL_word : MethodName := ⟨RL, "word", "(LCornerCube;II[J)I"⟩
abbrev cL_at : ByteArray := method_14_code
def yL_at : MethodName := ⟨RL, "at", "(LCornerCube;II[J)I"⟩
abbrev cL_same : ByteArray := method_15_code
def yL_same : MethodName := ⟨RL, "same", "(LCornerCube;II[J)I"⟩
abbrev cL_mixed : ByteArray := method_16_code
def yL_mixed : MethodName := ⟨RL, "mixed", "(LCornerCube;II[J)I"⟩
abbrev cL_would : ByteArray := method_17_code
def yL_would : MethodName := ⟨RL, "would", "(LCornerCube;II[J)I"⟩
abbrev cL_far : ByteArray := method_18_code
def yL_far : MethodName := ⟨RL, "far", "(LCornerCube;I[J)I"⟩
abbrev cL_first : ByteArray := method_19_code
def yL_first : MethodName := ⟨RL, "first", "(LCornerCube;I[J)I"⟩
abbrev cL_shortest : ByteArray := method_20_code
def yL_shortest : MethodName := ⟨RL, "shortest", "(LCornerCube;II[J)I"⟩
abbrev cL_law : ByteArray := code
def yL_law : MethodName := ⟨RL, "law", "([I)Z"⟩
def wsX0_init : List Cond := .code yX0_init cX0_init 1 none :: ([.methodLink RX0 1 objectInit, .instanceMethod objectInit, .code objectInit ⟨#[0xb1]⟩ 1 none, .constantLong RX0 9 (506097522914230528), .fieldLink RX0 11 "CornerCube" "cube" "J", .fieldLink RX0 15 "CornerCube" "turnsMade" "I", .classLink RX0 19 "[[I", .arrayClass .int, .fieldLink RX0 21 "CornerCube" "turnsOf" "[[I", .fieldLink RX0 24 "CornerCube" "lengths" "[I"] ++ wsX00)
def wsX0_checkFace : List Cond := .code yX0_checkFace cX0_checkFace 1 none :: ([.classLink RX0 98 "java/lang/IndexOutOfBoundsException", .initialized "java/lang/IndexOutOfBoundsException"] ++ (vx_atS RX0 102 "java/lang/IndexOutOfBoundsException" ["java/lang/RuntimeException", "java/lang/Exception"]).filter goodWord)
def wsX0_checkQuarters : List Cond := .code yX0_checkQuarters cX0_checkQuarters 1 none :: ([.classLink RX0 50 "java/lang/IllegalArgumentException", .initialized "java/lang/IllegalArgumentException"] ++ (vx_atS RX0 54 "java/lang/IllegalArgumentException" ["java/lang/RuntimeException", "java/lang/Exception"]).filter goodWord)
def wsX0_turnNumber : List Cond := .code yX0_turnNumber cX0_turnNumber 2 (some .int) :: ([])
def wsX0_quartersOf : List Cond := .code yX0_quartersOf cX0_quartersOf 1 (some .int) :: ([])
def wsX0_faceOf : List Cond := .code yX0_faceOf cX0_faceOf 1 (some .int) :: ([])
def wsX0_hexDigit : List Cond := .code yX0_hexDigit cX0_hexDigit 2 (some .int) :: ([])
def wsX0_cornerAt : List Cond := .code yX0_cornerAt cX0_cornerAt 3 (some .int) :: ([])
def wsX0_twistAt : List Cond := .code yX0_twistAt cX0_twistAt 3 (some .int) :: ([])
def wsX0_withCorner : List Cond := .code yX0_withCorner cX0_withCorner 9 (some .long) :: ([.constantLong RX0 178 (255), .constantLong RX0 180 (-1)])
def wsX0_gone : List Cond := .code yX0_gone cX0_gone 9 (some .long) :: ([.methodLink RX0 189 yX0_hexDigit, .static yX0_hexDigit, .initialized RX0, .code yX0_hexDigit cX0_hexDigit 2 (some .int), .methodLink RX0 87 yX0_cornerAt, .static yX0_cornerAt, .code yX0_cornerAt cX0_cornerAt 3 (some .int), .methodLink RX0 91 yX0_twistAt, .static yX0_twistAt, .code yX0_twistAt cX0_twistAt 3 (some .int), .methodLink RX0 192 yX0_withCorner, .static yX0_withCorner, .code yX0_withCorner cX0_withCorner 9 (some .long), .constantLong RX0 178 (255), .constantLong RX0 180 (-1)])
def wsX0_quarterTurned : List Cond := .code yX0_quarterTurned cX0_quarterTurned 3 (some .long) :: ([.methodLink RX0 185 yX0_gone, .static yX0_gone, .initialized RX0, .code yX0_gone cX0_gone 9 (some .long), .methodLink RX0 189 yX0_hexDigit, .static yX0_hexDigit, .code yX0_hexDigit cX0_hexDigit 2 (some .int), .methodLink RX0 87 yX0_cornerAt, .static yX0_cornerAt, .code yX0_cornerAt cX0_cornerAt 3 (some .int), .methodLink RX0 91 yX0_twistAt, .static yX0_twistAt, .code yX0_twistAt cX0_twistAt 3 (some .int), .methodLink RX0 192 yX0_withCorner, .static yX0_withCorner, .code yX0_withCorner cX0_withCorner 9 (some .long), .constantLong RX0 178 (255), .constantLong RX0 180 (-1)])
def wsX0_turned_r1 : List Cond := [Cond.methodLink RX0 171 yX0_quartersOf, Cond.static yX0_quartersOf, Cond.initialized RX0, Cond.code yX0_quartersOf cX0_quartersOf 1 (some .int), Cond.methodLink RX0 134 yX0_faceOf, Cond.static yX0_faceOf, Cond.code yX0_faceOf cX0_faceOf 1 (some .int), Cond.methodLink RX0 182 yX0_quarterTurned, Cond.static yX0_quarterTurned, Cond.code yX0_quarterTurned cX0_quarterTurned 3 (some .long), Cond.methodLink RX0 185 yX0_gone, Cond.static yX0_gone, Cond.code yX0_gone cX0_gone 9 (some .long), Cond.methodLink RX0 189 yX0_hexDigit, Cond.static yX0_hexDigit, Cond.code yX0_hexDigit cX0_hexDigit 2 (some .int), Cond.methodLink RX0 87 yX0_cornerAt, Cond.static yX0_cornerAt, Cond.code yX0_cornerAt cX0_cornerAt 3 (some .int), Cond.methodLink RX0 91 yX0_twistAt, Cond.static yX0_twistAt, Cond.code yX0_twistAt cX0_twistAt 3 (some .int), Cond.methodLink RX0 192 yX0_withCorner, Cond.static yX0_withCorner]
def wsX0_turned_r2 : List Cond := [Cond.code yX0_withCorner cX0_withCorner 9 (some .long), Cond.constantLong RX0 178 (255), Cond.constantLong RX0 180 (-1)]
def wsX0_turned : List Cond := .code yX0_turned cX0_turned 6 (some .long) :: ((wsX0_turned_r1 ++ wsX0_turned_r2))
def wsX0_isRight : List Cond := .code yX0_isRight cX0_isRight 3 (some .boolean) :: ([.methodLink RX0 87 yX0_cornerAt, .static yX0_cornerAt, .initialized RX0, .code yX0_cornerAt cX0_cornerAt 3 (some .int), .methodLink RX0 91 yX0_twistAt, .static yX0_twistAt, .code yX0_twistAt cX0_twistAt 3 (some .int)])
def wsX0_rightCorners : List Cond := .code yX0_rightCorners cX0_rightCorners 4 (some .int) :: ([.methodLink RX0 94 yX0_isRight, .static yX0_isRight, .initialized RX0, .code yX0_isRight cX0_isRight 3 (some .boolean), .methodLink RX0 87 yX0_cornerAt, .static yX0_cornerAt, .code yX0_cornerAt cX0_cornerAt 3 (some .int), .methodLink RX0 91 yX0_twistAt, .static yX0_twistAt, .code yX0_twistAt cX0_twistAt 3 (some .int)])
def wsX0_turn_r1 : List Cond := [Cond.fieldLink RX0 11 "CornerCube" "cube" "J", Cond.fieldLink RX0 15 "CornerCube" "turnsMade" "I", Cond.methodLink RX0 28 yX0_checkFace, Cond.static yX0_checkFace, Cond.initialized RX0, Cond.code yX0_checkFace cX0_checkFace 1 none, Cond.classLink RX0 98 "java/lang/IndexOutOfBoundsException", Cond.initialized "java/lang/IndexOutOfBoundsException", Cond.methodLink RX0 32 yX0_checkQuarters, Cond.static yX0_checkQuarters, Cond.code yX0_checkQuarters cX0_checkQuarters 1 none, Cond.classLink RX0 50 "java/lang/IllegalArgumentException", Cond.initialized "java/lang/IllegalArgumentException", Cond.methodLink RX0 35 yX0_turnNumber, Cond.static yX0_turnNumber, Cond.code yX0_turnNumber cX0_turnNumber 2 (some .int), Cond.methodLink RX0 39 yX0_turned, Cond.static yX0_turned, Cond.code yX0_turned cX0_turned 6 (some .long), Cond.methodLink RX0 171 yX0_quartersOf, Cond.static yX0_quartersOf, Cond.code yX0_quartersOf cX0_quartersOf 1 (some .int), Cond.methodLink RX0 134 yX0_faceOf, Cond.static yX0_faceOf]
def wsX0_turn_r2 : List Cond := [Cond.code yX0_faceOf cX0_faceOf 1 (some .int), Cond.methodLink RX0 182 yX0_quarterTurned, Cond.static yX0_quarterTurned, Cond.code yX0_quarterTurned cX0_quarterTurned 3 (some .long), Cond.methodLink RX0 185 yX0_gone, Cond.static yX0_gone, Cond.code yX0_gone cX0_gone 9 (some .long), Cond.methodLink RX0 189 yX0_hexDigit, Cond.static yX0_hexDigit, Cond.code yX0_hexDigit cX0_hexDigit 2 (some .int), Cond.methodLink RX0 87 yX0_cornerAt, Cond.static yX0_cornerAt, Cond.code yX0_cornerAt cX0_cornerAt 3 (some .int), Cond.methodLink RX0 91 yX0_twistAt, Cond.static yX0_twistAt, Cond.code yX0_twistAt cX0_twistAt 3 (some .int), Cond.methodLink RX0 192 yX0_withCorner, Cond.static yX0_withCorner, Cond.code yX0_withCorner cX0_withCorner 9 (some .long), Cond.constantLong RX0 178 (255), Cond.constantLong RX0 180 (-1), Cond.methodLink RX0 43 yX0_rightCorners, Cond.static yX0_rightCorners, Cond.code yX0_rightCorners cX0_rightCorners 4 (some .int)]
def wsX0_turn_r3 : List Cond := [Cond.methodLink RX0 94 yX0_isRight, Cond.static yX0_isRight, Cond.code yX0_isRight cX0_isRight 3 (some .boolean)]
def wsX0_turn : List Cond := .code yX0_turn cX0_turn 3 (some .int) :: ((wsX0_turn_r1 ++ (wsX0_turn_r2 ++ wsX0_turn_r3)) ++ wsX00 ++ (vx_atS RX0 102 "java/lang/IndexOutOfBoundsException" ["java/lang/RuntimeException", "java/lang/Exception"]).filter goodWord ++ (vx_atS RX0 54 "java/lang/IllegalArgumentException" ["java/lang/RuntimeException", "java/lang/Exception"]).filter goodWord)
def wsX0_checkWord : List Cond := .code yX0_checkWord cX0_checkWord 1 none :: ([.classLink RX0 98 "java/lang/IndexOutOfBoundsException", .initialized "java/lang/IndexOutOfBoundsException"] ++ (vx_atS RX0 102 "java/lang/IndexOutOfBoundsException" ["java/lang/RuntimeException", "java/lang/Exception"]).filter goodWord)
def wsX0_behindWord_r1 : List Cond := [Cond.fieldLink RX0 24 "CornerCube" "lengths" "[I", Cond.fieldLink RX0 21 "CornerCube" "turnsOf" "[[I", Cond.methodLink RX0 39 yX0_turned, Cond.static yX0_turned, Cond.initialized RX0, Cond.code yX0_turned cX0_turned 6 (some .long), Cond.methodLink RX0 171 yX0_quartersOf, Cond.static yX0_quartersOf, Cond.code yX0_quartersOf cX0_quartersOf 1 (some .int), Cond.methodLink RX0 134 yX0_faceOf, Cond.static yX0_faceOf, Cond.code yX0_faceOf cX0_faceOf 1 (some .int), Cond.methodLink RX0 182 yX0_quarterTurned, Cond.static yX0_quarterTurned, Cond.code yX0_quarterTurned cX0_quarterTurned 3 (some .long), Cond.methodLink RX0 185 yX0_gone, Cond.static yX0_gone, Cond.code yX0_gone cX0_gone 9 (some .long), Cond.methodLink RX0 189 yX0_hexDigit, Cond.static yX0_hexDigit, Cond.code yX0_hexDigit cX0_hexDigit 2 (some .int), Cond.methodLink RX0 87 yX0_cornerAt, Cond.static yX0_cornerAt, Cond.code yX0_cornerAt cX0_cornerAt 3 (some .int)]
def wsX0_behindWord_r2 : List Cond := [Cond.methodLink RX0 91 yX0_twistAt, Cond.static yX0_twistAt, Cond.code yX0_twistAt cX0_twistAt 3 (some .int), Cond.methodLink RX0 192 yX0_withCorner, Cond.static yX0_withCorner, Cond.code yX0_withCorner cX0_withCorner 9 (some .long), Cond.constantLong RX0 178 (255), Cond.constantLong RX0 180 (-1)]
def wsX0_behindWord : List Cond := .code yX0_behindWord cX0_behindWord 7 (some .long) :: ((wsX0_behindWord_r1 ++ wsX0_behindWord_r2) ++ wsX00)
def wsX0_play_r1 : List Cond := [Cond.classLink RX0 50 "java/lang/IllegalArgumentException", Cond.initialized "java/lang/IllegalArgumentException", Cond.classLink RX0 57 "java/lang/IllegalStateException", Cond.initialized "java/lang/IllegalStateException", Cond.fieldLink RX0 24 "CornerCube" "lengths" "[I", Cond.fieldLink RX0 11 "CornerCube" "cube" "J", Cond.fieldLink RX0 15 "CornerCube" "turnsMade" "I", Cond.methodLink RX0 47 yX0_checkWord, Cond.static yX0_checkWord, Cond.initialized RX0, Cond.code yX0_checkWord cX0_checkWord 1 none, Cond.classLink RX0 98 "java/lang/IndexOutOfBoundsException", Cond.initialized "java/lang/IndexOutOfBoundsException", Cond.methodLink RX0 62 yX0_behindWord, Cond.instanceMethod yX0_behindWord, Cond.selects RX0 yX0_behindWord yX0_behindWord, Cond.code yX0_behindWord cX0_behindWord 7 (some .long), Cond.fieldLink RX0 21 "CornerCube" "turnsOf" "[[I", Cond.methodLink RX0 39 yX0_turned, Cond.static yX0_turned, Cond.code yX0_turned cX0_turned 6 (some .long), Cond.methodLink RX0 171 yX0_quartersOf, Cond.static yX0_quartersOf, Cond.code yX0_quartersOf cX0_quartersOf 1 (some .int)]
def wsX0_play_r2 : List Cond := [Cond.methodLink RX0 134 yX0_faceOf, Cond.static yX0_faceOf, Cond.code yX0_faceOf cX0_faceOf 1 (some .int), Cond.methodLink RX0 182 yX0_quarterTurned, Cond.static yX0_quarterTurned, Cond.code yX0_quarterTurned cX0_quarterTurned 3 (some .long), Cond.methodLink RX0 185 yX0_gone, Cond.static yX0_gone, Cond.code yX0_gone cX0_gone 9 (some .long), Cond.methodLink RX0 189 yX0_hexDigit, Cond.static yX0_hexDigit, Cond.code yX0_hexDigit cX0_hexDigit 2 (some .int), Cond.methodLink RX0 87 yX0_cornerAt, Cond.static yX0_cornerAt, Cond.code yX0_cornerAt cX0_cornerAt 3 (some .int), Cond.methodLink RX0 91 yX0_twistAt, Cond.static yX0_twistAt, Cond.code yX0_twistAt cX0_twistAt 3 (some .int), Cond.methodLink RX0 192 yX0_withCorner, Cond.static yX0_withCorner, Cond.code yX0_withCorner cX0_withCorner 9 (some .long), Cond.constantLong RX0 178 (255), Cond.constantLong RX0 180 (-1), Cond.methodLink RX0 43 yX0_rightCorners]
def wsX0_play_r3 : List Cond := [Cond.static yX0_rightCorners, Cond.code yX0_rightCorners cX0_rightCorners 4 (some .int), Cond.methodLink RX0 94 yX0_isRight, Cond.static yX0_isRight, Cond.code yX0_isRight cX0_isRight 3 (some .boolean)]
def wsX0_play : List Cond := .code yX0_play cX0_play 4 (some .int) :: ((wsX0_play_r1 ++ (wsX0_play_r2 ++ wsX0_play_r3)) ++ wsX00 ++ (vx_atS RX0 54 "java/lang/IllegalArgumentException" ["java/lang/RuntimeException", "java/lang/Exception"]).filter goodWord ++ (vx_atS RX0 61 "java/lang/IllegalStateException" ["java/lang/RuntimeException", "java/lang/Exception"]).filter goodWord ++ (vx_atS RX0 102 "java/lang/IndexOutOfBoundsException" ["java/lang/RuntimeException", "java/lang/Exception"]).filter goodWord)
def wsX0_wrongCorners : List Cond := .code yX0_wrongCorners cX0_wrongCorners 2 (some .int) :: ([.methodLink RX0 43 yX0_rightCorners, .static yX0_rightCorners, .initialized RX0, .code yX0_rightCorners cX0_rightCorners 4 (some .int), .methodLink RX0 94 yX0_isRight, .static yX0_isRight, .code yX0_isRight cX0_isRight 3 (some .boolean), .methodLink RX0 87 yX0_cornerAt, .static yX0_cornerAt, .code yX0_cornerAt cX0_cornerAt 3 (some .int), .methodLink RX0 91 yX0_twistAt, .static yX0_twistAt, .code yX0_twistAt cX0_twistAt 3 (some .int)])
def wsX0_reset : List Cond := .code yX0_reset cX0_reset 2 (some .int) :: ([.fieldLink RX0 11 "CornerCube" "cube" "J", .constantLong RX0 9 (506097522914230528), .methodLink RX0 65 yX0_wrongCorners, .static yX0_wrongCorners, .initialized RX0, .code yX0_wrongCorners cX0_wrongCorners 2 (some .int), .methodLink RX0 43 yX0_rightCorners, .static yX0_rightCorners, .code yX0_rightCorners cX0_rightCorners 4 (some .int), .methodLink RX0 94 yX0_isRight, .static yX0_isRight, .code yX0_isRight cX0_isRight 3 (some .boolean), .methodLink RX0 87 yX0_cornerAt, .static yX0_cornerAt, .code yX0_cornerAt cX0_cornerAt 3 (some .int), .methodLink RX0 91 yX0_twistAt, .static yX0_twistAt, .code yX0_twistAt cX0_twistAt 3 (some .int)] ++ wsX00)
def wsX0_say : List Cond := .code yX0_say cX0_say 4 (some .int) :: ([.classLink RX0 57 "java/lang/IllegalStateException", .initialized "java/lang/IllegalStateException", .fieldLink RX0 24 "CornerCube" "lengths" "[I", .fieldLink RX0 21 "CornerCube" "turnsOf" "[[I", .methodLink RX0 47 yX0_checkWord, .static yX0_checkWord, .initialized RX0, .code yX0_checkWord cX0_checkWord 1 none, .classLink RX0 98 "java/lang/IndexOutOfBoundsException", .initialized "java/lang/IndexOutOfBoundsException", .methodLink RX0 28 yX0_checkFace, .static yX0_checkFace, .code yX0_checkFace cX0_checkFace 1 none, .methodLink RX0 32 yX0_checkQuarters, .static yX0_checkQuarters, .code yX0_checkQuarters cX0_checkQuarters 1 none, .classLink RX0 50 "java/lang/IllegalArgumentException", .initialized "java/lang/IllegalArgumentException", .methodLink RX0 35 yX0_turnNumber, .static yX0_turnNumber, .code yX0_turnNumber cX0_turnNumber 2 (some .int)] ++ wsX00 ++ (vx_atS RX0 61 "java/lang/IllegalStateException" ["java/lang/RuntimeException", "java/lang/Exception"]).filter goodWord ++ (vx_atS RX0 102 "java/lang/IndexOutOfBoundsException" ["java/lang/RuntimeException", "java/lang/Exception"]).filter goodWord ++ (vx_atS RX0 54 "java/lang/IllegalArgumentException" ["java/lang/RuntimeException", "java/lang/Exception"]).filter goodWord)
def wsX0_wipe : List Cond := .code yX0_wipe cX0_wipe 3 (some .int) :: ([.fieldLink RX0 24 "CornerCube" "lengths" "[I", .methodLink RX0 47 yX0_checkWord, .static yX0_checkWord, .initialized RX0, .code yX0_checkWord cX0_checkWord 1 none, .classLink RX0 98 "java/lang/IndexOutOfBoundsException", .initialized "java/lang/IndexOutOfBoundsException"] ++ wsX00 ++ (vx_atS RX0 102 "java/lang/IndexOutOfBoundsException" ["java/lang/RuntimeException", "java/lang/Exception"]).filter goodWord)
def wsX0_turnedBack : List Cond := .code yX0_turnedBack cX0_turnedBack 1 (some .int) :: ([.methodLink RX0 134 yX0_faceOf, .static yX0_faceOf, .initialized RX0, .code yX0_faceOf cX0_faceOf 1 (some .int), .methodLink RX0 171 yX0_quartersOf, .static yX0_quartersOf, .code yX0_quartersOf cX0_quartersOf 1 (some .int), .methodLink RX0 35 yX0_turnNumber, .static yX0_turnNumber, .code yX0_turnNumber cX0_turnNumber 2 (some .int)])
def wsX0_round : List Cond := .code yX0_round cX0_round 6 (some .int) :: ([.fieldLink RX0 21 "CornerCube" "turnsOf" "[[I", .fieldLink RX0 24 "CornerCube" "lengths" "[I", .methodLink RX0 47 yX0_checkWord, .static yX0_checkWord, .initialized RX0, .code yX0_checkWord cX0_checkWord 1 none, .classLink RX0 98 "java/lang/IndexOutOfBoundsException", .initialized "java/lang/IndexOutOfBoundsException", .methodLink RX0 70 yX0_turnedBack, .static yX0_turnedBack, .code yX0_turnedBack cX0_turnedBack 1 (some .int), .methodLink RX0 134 yX0_faceOf, .static yX0_faceOf, .code yX0_faceOf cX0_faceOf 1 (some .int), .methodLink RX0 171 yX0_quartersOf, .static yX0_quartersOf, .code yX0_quartersOf cX0_quartersOf 1 (some .int), .methodLink RX0 35 yX0_turnNumber, .static yX0_turnNumber, .code yX0_turnNumber cX0_turnNumber 2 (some .int)] ++ wsX00 ++ (vx_atS RX0 102 "java/lang/IndexOutOfBoundsException" ["java/lang/RuntimeException", "java/lang/Exception"]).filter goodWord)
def wsX0_join : List Cond := .code yX0_join cX0_join 5 (some .int) :: ([.classLink RX0 57 "java/lang/IllegalStateException", .initialized "java/lang/IllegalStateException", .fieldLink RX0 24 "CornerCube" "lengths" "[I", .fieldLink RX0 21 "CornerCube" "turnsOf" "[[I", .methodLink RX0 47 yX0_checkWord, .static yX0_checkWord, .initialized RX0, .code yX0_checkWord cX0_checkWord 1 none, .classLink RX0 98 "java/lang/IndexOutOfBoundsException", .initialized "java/lang/IndexOutOfBoundsException"] ++ wsX00 ++ (vx_atS RX0 61 "java/lang/IllegalStateException" ["java/lang/RuntimeException", "java/lang/Exception"]).filter goodWord ++ (vx_atS RX0 102 "java/lang/IndexOutOfBoundsException" ["java/lang/RuntimeException", "java/lang/Exception"]).filter goodWord)
def wsX0_keep : List Cond := .code yX0_keep cX0_keep 4 (some .int) :: ([.methodLink RX0 134 yX0_faceOf, .static yX0_faceOf, .initialized RX0, .code yX0_faceOf cX0_faceOf 1 (some .int), .methodLink RX0 171 yX0_quartersOf, .static yX0_quartersOf, .code yX0_quartersOf cX0_quartersOf 1 (some .int), .methodLink RX0 35 yX0_turnNumber, .static yX0_turnNumber, .code yX0_turnNumber cX0_turnNumber 2 (some .int)])
def wsX0_tidy : List Cond := .code yX0_tidy cX0_tidy 4 (some .int) :: ([.fieldLink RX0 24 "CornerCube" "lengths" "[I", .fieldLink RX0 21 "CornerCube" "turnsOf" "[[I", .methodLink RX0 47 yX0_checkWord, .static yX0_checkWord, .initialized RX0, .code yX0_checkWord cX0_checkWord 1 none, .classLink RX0 98 "java/lang/IndexOutOfBoundsException", .initialized "java/lang/IndexOutOfBoundsException", .methodLink RX0 76 yX0_keep, .static yX0_keep, .code yX0_keep cX0_keep 4 (some .int), .methodLink RX0 134 yX0_faceOf, .static yX0_faceOf, .code yX0_faceOf cX0_faceOf 1 (some .int), .methodLink RX0 171 yX0_quartersOf, .static yX0_quartersOf, .code yX0_quartersOf cX0_quartersOf 1 (some .int), .methodLink RX0 35 yX0_turnNumber, .static yX0_turnNumber, .code yX0_turnNumber cX0_turnNumber 2 (some .int)] ++ wsX00 ++ (vx_atS RX0 102 "java/lang/IndexOutOfBoundsException" ["java/lang/RuntimeException", "java/lang/Exception"]).filter goodWord)
def wsX0_checkPlace : List Cond := .code yX0_checkPlace cX0_checkPlace 1 none :: ([.classLink RX0 98 "java/lang/IndexOutOfBoundsException", .initialized "java/lang/IndexOutOfBoundsException"] ++ (vx_atS RX0 102 "java/lang/IndexOutOfBoundsException" ["java/lang/RuntimeException", "java/lang/Exception"]).filter goodWord)
def wsX0_checkWhat : List Cond := .code yX0_checkWhat cX0_checkWhat 2 none :: ([.classLink RX0 98 "java/lang/IndexOutOfBoundsException", .initialized "java/lang/IndexOutOfBoundsException"] ++ (vx_atS RX0 102 "java/lang/IndexOutOfBoundsException" ["java/lang/RuntimeException", "java/lang/Exception"]).filter goodWord)
def wsX0_told : List Cond := .code yX0_told cX0_told 3 (some .int) :: ([.fieldLink RX0 11 "CornerCube" "cube" "J", .methodLink RX0 80 yX0_checkPlace, .static yX0_checkPlace, .initialized RX0, .code yX0_checkPlace cX0_checkPlace 1 none, .classLink RX0 98 "java/lang/IndexOutOfBoundsException", .initialized "java/lang/IndexOutOfBoundsException", .methodLink RX0 83 yX0_checkWhat, .static yX0_checkWhat, .code yX0_checkWhat cX0_checkWhat 2 none, .methodLink RX0 87 yX0_cornerAt, .static yX0_cornerAt, .code yX0_cornerAt cX0_cornerAt 3 (some .int), .methodLink RX0 91 yX0_twistAt, .static yX0_twistAt, .code yX0_twistAt cX0_twistAt 3 (some .int), .methodLink RX0 94 yX0_isRight, .static yX0_isRight, .code yX0_isRight cX0_isRight 3 (some .boolean)] ++ wsX00 ++ (vx_atS RX0 102 "java/lang/IndexOutOfBoundsException" ["java/lang/RuntimeException", "java/lang/Exception"]).filter goodWord)
def wsX0_where : List Cond := .code yX0_where cX0_where 3 (some .int) :: ([.classLink RX0 98 "java/lang/IndexOutOfBoundsException", .initialized "java/lang/IndexOutOfBoundsException", .fieldLink RX0 11 "CornerCube" "cube" "J", .methodLink RX0 87 yX0_cornerAt, .static yX0_cornerAt, .initialized RX0, .code yX0_cornerAt cX0_cornerAt 3 (some .int)] ++ wsX00 ++ (vx_atS RX0 102 "java/lang/IndexOutOfBoundsException" ["java/lang/RuntimeException", "java/lang/Exception"]).filter goodWord)
def wsX0_placedCorners : List Cond := .code yX0_placedCorners cX0_placedCorners 4 (some .int) :: ([.methodLink RX0 87 yX0_cornerAt, .static yX0_cornerAt, .initialized RX0, .code yX0_cornerAt cX0_cornerAt 3 (some .int)])
def wsX0_untwistedCorners : List Cond := .code yX0_untwistedCorners cX0_untwistedCorners 4 (some .int) :: ([.methodLink RX0 91 yX0_twistAt, .static yX0_twistAt, .initialized RX0, .code yX0_twistAt cX0_twistAt 3 (some .int)])
def wsX0_pairsOutOfOrder : List Cond := .code yX0_pairsOutOfOrder cX0_pairsOutOfOrder 5 (some .int) :: ([.methodLink RX0 87 yX0_cornerAt, .static yX0_cornerAt, .initialized RX0, .code yX0_cornerAt cX0_cornerAt 3 (some .int)])
def wsX0_behindDeed : List Cond := .code yX0_behindDeed cX0_behindDeed 8 (some .long) :: ([.methodLink RX0 87 yX0_cornerAt, .static yX0_cornerAt, .initialized RX0, .code yX0_cornerAt cX0_cornerAt 3 (some .int), .methodLink RX0 91 yX0_twistAt, .static yX0_twistAt, .code yX0_twistAt cX0_twistAt 3 (some .int), .methodLink RX0 192 yX0_withCorner, .static yX0_withCorner, .code yX0_withCorner cX0_withCorner 9 (some .long), .constantLong RX0 178 (255), .constantLong RX0 180 (-1)])
def wsX0_orderOf : List Cond := .code yX0_orderOf cX0_orderOf 5 (some .int) :: ([.constantLong RX0 9 (506097522914230528), .methodLink RX0 174 yX0_behindDeed, .static yX0_behindDeed, .initialized RX0, .code yX0_behindDeed cX0_behindDeed 8 (some .long), .methodLink RX0 87 yX0_cornerAt, .static yX0_cornerAt, .code yX0_cornerAt cX0_cornerAt 3 (some .int), .methodLink RX0 91 yX0_twistAt, .static yX0_twistAt, .code yX0_twistAt cX0_twistAt 3 (some .int), .methodLink RX0 192 yX0_withCorner, .static yX0_withCorner, .code yX0_withCorner cX0_withCorner 9 (some .long), .constantLong RX0 178 (255), .constantLong RX0 180 (-1)])
def wsX0_turnsOfAllWords : List Cond := .code yX0_turnsOfAllWords cX0_turnsOfAllWords 3 (some .int) :: ([.fieldLink RX0 24 "CornerCube" "lengths" "[I"] ++ wsX00)
def wsX0_count_r1 : List Cond := [Cond.fieldLink RX0 15 "CornerCube" "turnsMade" "I", Cond.fieldLink RX0 11 "CornerCube" "cube" "J", Cond.methodLink RX0 83 yX0_checkWhat, Cond.static yX0_checkWhat, Cond.initialized RX0, Cond.code yX0_checkWhat cX0_checkWhat 2 none, Cond.classLink RX0 98 "java/lang/IndexOutOfBoundsException", Cond.initialized "java/lang/IndexOutOfBoundsException", Cond.methodLink RX0 43 yX0_rightCorners, Cond.static yX0_rightCorners, Cond.code yX0_rightCorners cX0_rightCorners 4 (some .int), Cond.methodLink RX0 94 yX0_isRight, Cond.static yX0_isRight, Cond.code yX0_isRight cX0_isRight 3 (some .boolean), Cond.methodLink RX0 87 yX0_cornerAt, Cond.static yX0_cornerAt, Cond.code yX0_cornerAt cX0_cornerAt 3 (some .int), Cond.methodLink RX0 91 yX0_twistAt, Cond.static yX0_twistAt, Cond.code yX0_twistAt cX0_twistAt 3 (some .int), Cond.methodLink RX0 103 yX0_placedCorners, Cond.static yX0_placedCorners, Cond.code yX0_placedCorners cX0_placedCorners 4 (some .int), Cond.methodLink RX0 106 yX0_untwistedCorners]
def wsX0_count_r2 : List Cond := [Cond.static yX0_untwistedCorners, Cond.code yX0_untwistedCorners cX0_untwistedCorners 4 (some .int), Cond.methodLink RX0 109 yX0_pairsOutOfOrder, Cond.static yX0_pairsOutOfOrder, Cond.code yX0_pairsOutOfOrder cX0_pairsOutOfOrder 5 (some .int), Cond.methodLink RX0 112 yX0_orderOf, Cond.static yX0_orderOf, Cond.code yX0_orderOf cX0_orderOf 5 (some .int), Cond.constantLong RX0 9 (506097522914230528), Cond.methodLink RX0 174 yX0_behindDeed, Cond.static yX0_behindDeed, Cond.code yX0_behindDeed cX0_behindDeed 8 (some .long), Cond.methodLink RX0 192 yX0_withCorner, Cond.static yX0_withCorner, Cond.code yX0_withCorner cX0_withCorner 9 (some .long), Cond.constantLong RX0 178 (255), Cond.constantLong RX0 180 (-1), Cond.methodLink RX0 115 yX0_turnsOfAllWords, Cond.instanceMethod yX0_turnsOfAllWords, Cond.selects RX0 yX0_turnsOfAllWords yX0_turnsOfAllWords, Cond.code yX0_turnsOfAllWords cX0_turnsOfAllWords 3 (some .int), Cond.fieldLink RX0 24 "CornerCube" "lengths" "[I"]
def wsX0_count : List Cond := .code yX0_count cX0_count 2 (some .int) :: ((wsX0_count_r1 ++ wsX0_count_r2) ++ wsX00 ++ (vx_atS RX0 102 "java/lang/IndexOutOfBoundsException" ["java/lang/RuntimeException", "java/lang/Exception"]).filter goodWord)
def wsX0_deedOf_r1 : List Cond := [Cond.constantLong RX0 9 (506097522914230528), Cond.methodLink RX0 62 yX0_behindWord, Cond.instanceMethod yX0_behindWord, Cond.selects RX0 yX0_behindWord yX0_behindWord, Cond.initialized RX0, Cond.code yX0_behindWord cX0_behindWord 7 (some .long), Cond.fieldLink RX0 24 "CornerCube" "lengths" "[I", Cond.fieldLink RX0 21 "CornerCube" "turnsOf" "[[I", Cond.methodLink RX0 39 yX0_turned, Cond.static yX0_turned, Cond.code yX0_turned cX0_turned 6 (some .long), Cond.methodLink RX0 171 yX0_quartersOf, Cond.static yX0_quartersOf, Cond.code yX0_quartersOf cX0_quartersOf 1 (some .int), Cond.methodLink RX0 134 yX0_faceOf, Cond.static yX0_faceOf, Cond.code yX0_faceOf cX0_faceOf 1 (some .int), Cond.methodLink RX0 182 yX0_quarterTurned, Cond.static yX0_quarterTurned, Cond.code yX0_quarterTurned cX0_quarterTurned 3 (some .long), Cond.methodLink RX0 185 yX0_gone, Cond.static yX0_gone, Cond.code yX0_gone cX0_gone 9 (some .long), Cond.methodLink RX0 189 yX0_hexDigit]
def wsX0_deedOf_r2 : List Cond := [Cond.static yX0_hexDigit, Cond.code yX0_hexDigit cX0_hexDigit 2 (some .int), Cond.methodLink RX0 87 yX0_cornerAt, Cond.static yX0_cornerAt, Cond.code yX0_cornerAt cX0_cornerAt 3 (some .int), Cond.methodLink RX0 91 yX0_twistAt, Cond.static yX0_twistAt, Cond.code yX0_twistAt cX0_twistAt 3 (some .int), Cond.methodLink RX0 192 yX0_withCorner, Cond.static yX0_withCorner, Cond.code yX0_withCorner cX0_withCorner 9 (some .long), Cond.constantLong RX0 178 (255), Cond.constantLong RX0 180 (-1)]
def wsX0_deedOf : List Cond := .code yX0_deedOf cX0_deedOf 2 (some .long) :: ((wsX0_deedOf_r1 ++ wsX0_deedOf_r2) ++ wsX00)
def wsX0_word_r1 : List Cond := [Cond.fieldLink RX0 24 "CornerCube" "lengths" "[I", Cond.methodLink RX0 47 yX0_checkWord, Cond.static yX0_checkWord, Cond.initialized RX0, Cond.code yX0_checkWord cX0_checkWord 1 none, Cond.classLink RX0 98 "java/lang/IndexOutOfBoundsException", Cond.initialized "java/lang/IndexOutOfBoundsException", Cond.methodLink RX0 83 yX0_checkWhat, Cond.static yX0_checkWhat, Cond.code yX0_checkWhat cX0_checkWhat 2 none, Cond.methodLink RX0 119 yX0_deedOf, Cond.instanceMethod yX0_deedOf, Cond.selects RX0 yX0_deedOf yX0_deedOf, Cond.code yX0_deedOf cX0_deedOf 2 (some .long), Cond.constantLong RX0 9 (506097522914230528), Cond.methodLink RX0 62 yX0_behindWord, Cond.instanceMethod yX0_behindWord, Cond.selects RX0 yX0_behindWord yX0_behindWord, Cond.code yX0_behindWord cX0_behindWord 7 (some .long), Cond.fieldLink RX0 21 "CornerCube" "turnsOf" "[[I", Cond.methodLink RX0 39 yX0_turned, Cond.static yX0_turned, Cond.code yX0_turned cX0_turned 6 (some .long), Cond.methodLink RX0 171 yX0_quartersOf]
def wsX0_word_r2 : List Cond := [Cond.static yX0_quartersOf, Cond.code yX0_quartersOf cX0_quartersOf 1 (some .int), Cond.methodLink RX0 134 yX0_faceOf, Cond.static yX0_faceOf, Cond.code yX0_faceOf cX0_faceOf 1 (some .int), Cond.methodLink RX0 182 yX0_quarterTurned, Cond.static yX0_quarterTurned, Cond.code yX0_quarterTurned cX0_quarterTurned 3 (some .long), Cond.methodLink RX0 185 yX0_gone, Cond.static yX0_gone, Cond.code yX0_gone cX0_gone 9 (some .long), Cond.methodLink RX0 189 yX0_hexDigit, Cond.static yX0_hexDigit, Cond.code yX0_hexDigit cX0_hexDigit 2 (some .int), Cond.methodLink RX0 87 yX0_cornerAt, Cond.static yX0_cornerAt, Cond.code yX0_cornerAt cX0_cornerAt 3 (some .int), Cond.methodLink RX0 91 yX0_twistAt, Cond.static yX0_twistAt, Cond.code yX0_twistAt cX0_twistAt 3 (some .int), Cond.methodLink RX0 192 yX0_withCorner, Cond.static yX0_withCorner, Cond.code yX0_withCorner cX0_withCorner 9 (some .long), Cond.constantLong RX0 178 (255)]
def wsX0_word_r3 : List Cond := [Cond.constantLong RX0 180 (-1), Cond.methodLink RX0 112 yX0_orderOf, Cond.static yX0_orderOf, Cond.code yX0_orderOf cX0_orderOf 5 (some .int), Cond.methodLink RX0 174 yX0_behindDeed, Cond.static yX0_behindDeed, Cond.code yX0_behindDeed cX0_behindDeed 8 (some .long), Cond.methodLink RX0 65 yX0_wrongCorners, Cond.static yX0_wrongCorners, Cond.code yX0_wrongCorners cX0_wrongCorners 2 (some .int), Cond.methodLink RX0 43 yX0_rightCorners, Cond.static yX0_rightCorners, Cond.code yX0_rightCorners cX0_rightCorners 4 (some .int), Cond.methodLink RX0 94 yX0_isRight, Cond.static yX0_isRight, Cond.code yX0_isRight cX0_isRight 3 (some .boolean), Cond.methodLink RX0 103 yX0_placedCorners, Cond.static yX0_placedCorners, Cond.code yX0_placedCorners cX0_placedCorners 4 (some .int)]
def wsX0_word : List Cond := .code yX0_word cX0_word 3 (some .int) :: ((wsX0_word_r1 ++ (wsX0_word_r2 ++ wsX0_word_r3)) ++ wsX00 ++ (vx_atS RX0 102 "java/lang/IndexOutOfBoundsException" ["java/lang/RuntimeException", "java/lang/Exception"]).filter goodWord)
def wsX0_at : List Cond := .code yX0_at cX0_at 3 (some .int) :: ([.classLink RX0 98 "java/lang/IndexOutOfBoundsException", .initialized "java/lang/IndexOutOfBoundsException", .fieldLink RX0 24 "CornerCube" "lengths" "[I", .fieldLink RX0 21 "CornerCube" "turnsOf" "[[I", .methodLink RX0 47 yX0_checkWord, .static yX0_checkWord, .initialized RX0, .code yX0_checkWord cX0_checkWord 1 none] ++ wsX00 ++ (vx_atS RX0 102 "java/lang/IndexOutOfBoundsException" ["java/lang/RuntimeException", "java/lang/Exception"]).filter goodWord)
def wsX0_same_r1 : List Cond := [Cond.methodLink RX0 47 yX0_checkWord, Cond.static yX0_checkWord, Cond.initialized RX0, Cond.code yX0_checkWord cX0_checkWord 1 none, Cond.classLink RX0 98 "java/lang/IndexOutOfBoundsException", Cond.initialized "java/lang/IndexOutOfBoundsException", Cond.methodLink RX0 119 yX0_deedOf, Cond.instanceMethod yX0_deedOf, Cond.selects RX0 yX0_deedOf yX0_deedOf, Cond.code yX0_deedOf cX0_deedOf 2 (some .long), Cond.constantLong RX0 9 (506097522914230528), Cond.methodLink RX0 62 yX0_behindWord, Cond.instanceMethod yX0_behindWord, Cond.selects RX0 yX0_behindWord yX0_behindWord, Cond.code yX0_behindWord cX0_behindWord 7 (some .long), Cond.fieldLink RX0 24 "CornerCube" "lengths" "[I", Cond.fieldLink RX0 21 "CornerCube" "turnsOf" "[[I", Cond.methodLink RX0 39 yX0_turned, Cond.static yX0_turned, Cond.code yX0_turned cX0_turned 6 (some .long), Cond.methodLink RX0 171 yX0_quartersOf, Cond.static yX0_quartersOf, Cond.code yX0_quartersOf cX0_quartersOf 1 (some .int), Cond.methodLink RX0 134 yX0_faceOf]
def wsX0_same_r2 : List Cond := [Cond.static yX0_faceOf, Cond.code yX0_faceOf cX0_faceOf 1 (some .int), Cond.methodLink RX0 182 yX0_quarterTurned, Cond.static yX0_quarterTurned, Cond.code yX0_quarterTurned cX0_quarterTurned 3 (some .long), Cond.methodLink RX0 185 yX0_gone, Cond.static yX0_gone, Cond.code yX0_gone cX0_gone 9 (some .long), Cond.methodLink RX0 189 yX0_hexDigit, Cond.static yX0_hexDigit, Cond.code yX0_hexDigit cX0_hexDigit 2 (some .int), Cond.methodLink RX0 87 yX0_cornerAt, Cond.static yX0_cornerAt, Cond.code yX0_cornerAt cX0_cornerAt 3 (some .int), Cond.methodLink RX0 91 yX0_twistAt, Cond.static yX0_twistAt, Cond.code yX0_twistAt cX0_twistAt 3 (some .int), Cond.methodLink RX0 192 yX0_withCorner, Cond.static yX0_withCorner, Cond.code yX0_withCorner cX0_withCorner 9 (some .long), Cond.constantLong RX0 178 (255), Cond.constantLong RX0 180 (-1)]
def wsX0_same : List Cond := .code yX0_same cX0_same 3 (some .boolean) :: ((wsX0_same_r1 ++ wsX0_same_r2) ++ wsX00 ++ (vx_atS RX0 102 "java/lang/IndexOutOfBoundsException" ["java/lang/RuntimeException", "java/lang/Exception"]).filter goodWord)
def wsX0_behindWordRound_r1 : List Cond := [Cond.fieldLink RX0 24 "CornerCube" "lengths" "[I", Cond.fieldLink RX0 21 "CornerCube" "turnsOf" "[[I", Cond.methodLink RX0 70 yX0_turnedBack, Cond.static yX0_turnedBack, Cond.initialized RX0, Cond.code yX0_turnedBack cX0_turnedBack 1 (some .int), Cond.methodLink RX0 134 yX0_faceOf, Cond.static yX0_faceOf, Cond.code yX0_faceOf cX0_faceOf 1 (some .int), Cond.methodLink RX0 171 yX0_quartersOf, Cond.static yX0_quartersOf, Cond.code yX0_quartersOf cX0_quartersOf 1 (some .int), Cond.methodLink RX0 35 yX0_turnNumber, Cond.static yX0_turnNumber, Cond.code yX0_turnNumber cX0_turnNumber 2 (some .int), Cond.methodLink RX0 39 yX0_turned, Cond.static yX0_turned, Cond.code yX0_turned cX0_turned 6 (some .long), Cond.methodLink RX0 182 yX0_quarterTurned, Cond.static yX0_quarterTurned, Cond.code yX0_quarterTurned cX0_quarterTurned 3 (some .long), Cond.methodLink RX0 185 yX0_gone, Cond.static yX0_gone, Cond.code yX0_gone cX0_gone 9 (some .long)]
def wsX0_behindWordRound_r2 : List Cond := [Cond.methodLink RX0 189 yX0_hexDigit, Cond.static yX0_hexDigit, Cond.code yX0_hexDigit cX0_hexDigit 2 (some .int), Cond.methodLink RX0 87 yX0_cornerAt, Cond.static yX0_cornerAt, Cond.code yX0_cornerAt cX0_cornerAt 3 (some .int), Cond.methodLink RX0 91 yX0_twistAt, Cond.static yX0_twistAt, Cond.code yX0_twistAt cX0_twistAt 3 (some .int), Cond.methodLink RX0 192 yX0_withCorner, Cond.static yX0_withCorner, Cond.code yX0_withCorner cX0_withCorner 9 (some .long), Cond.constantLong RX0 178 (255), Cond.constantLong RX0 180 (-1)]
def wsX0_behindWordRound : List Cond := .code yX0_behindWordRound cX0_behindWordRound 7 (some .long) :: ((wsX0_behindWordRound_r1 ++ wsX0_behindWordRound_r2) ++ wsX00)
def wsX0_mixed_r1 : List Cond := [Cond.methodLink RX0 47 yX0_checkWord, Cond.static yX0_checkWord, Cond.initialized RX0, Cond.code yX0_checkWord cX0_checkWord 1 none, Cond.classLink RX0 98 "java/lang/IndexOutOfBoundsException", Cond.initialized "java/lang/IndexOutOfBoundsException", Cond.methodLink RX0 119 yX0_deedOf, Cond.instanceMethod yX0_deedOf, Cond.selects RX0 yX0_deedOf yX0_deedOf, Cond.code yX0_deedOf cX0_deedOf 2 (some .long), Cond.constantLong RX0 9 (506097522914230528), Cond.methodLink RX0 62 yX0_behindWord, Cond.instanceMethod yX0_behindWord, Cond.selects RX0 yX0_behindWord yX0_behindWord, Cond.code yX0_behindWord cX0_behindWord 7 (some .long), Cond.fieldLink RX0 24 "CornerCube" "lengths" "[I", Cond.fieldLink RX0 21 "CornerCube" "turnsOf" "[[I", Cond.methodLink RX0 39 yX0_turned, Cond.static yX0_turned, Cond.code yX0_turned cX0_turned 6 (some .long), Cond.methodLink RX0 171 yX0_quartersOf, Cond.static yX0_quartersOf, Cond.code yX0_quartersOf cX0_quartersOf 1 (some .int), Cond.methodLink RX0 134 yX0_faceOf]
def wsX0_mixed_r2 : List Cond := [Cond.static yX0_faceOf, Cond.code yX0_faceOf cX0_faceOf 1 (some .int), Cond.methodLink RX0 182 yX0_quarterTurned, Cond.static yX0_quarterTurned, Cond.code yX0_quarterTurned cX0_quarterTurned 3 (some .long), Cond.methodLink RX0 185 yX0_gone, Cond.static yX0_gone, Cond.code yX0_gone cX0_gone 9 (some .long), Cond.methodLink RX0 189 yX0_hexDigit, Cond.static yX0_hexDigit, Cond.code yX0_hexDigit cX0_hexDigit 2 (some .int), Cond.methodLink RX0 87 yX0_cornerAt, Cond.static yX0_cornerAt, Cond.code yX0_cornerAt cX0_cornerAt 3 (some .int), Cond.methodLink RX0 91 yX0_twistAt, Cond.static yX0_twistAt, Cond.code yX0_twistAt cX0_twistAt 3 (some .int), Cond.methodLink RX0 192 yX0_withCorner, Cond.static yX0_withCorner, Cond.code yX0_withCorner cX0_withCorner 9 (some .long), Cond.constantLong RX0 178 (255), Cond.constantLong RX0 180 (-1), Cond.methodLink RX0 125 yX0_behindWordRound, Cond.instanceMethod yX0_behindWordRound]
def wsX0_mixed_r3 : List Cond := [Cond.selects RX0 yX0_behindWordRound yX0_behindWordRound, Cond.code yX0_behindWordRound cX0_behindWordRound 7 (some .long), Cond.methodLink RX0 70 yX0_turnedBack, Cond.static yX0_turnedBack, Cond.code yX0_turnedBack cX0_turnedBack 1 (some .int), Cond.methodLink RX0 35 yX0_turnNumber, Cond.static yX0_turnNumber, Cond.code yX0_turnNumber cX0_turnNumber 2 (some .int), Cond.methodLink RX0 65 yX0_wrongCorners, Cond.static yX0_wrongCorners, Cond.code yX0_wrongCorners cX0_wrongCorners 2 (some .int), Cond.methodLink RX0 43 yX0_rightCorners, Cond.static yX0_rightCorners, Cond.code yX0_rightCorners cX0_rightCorners 4 (some .int), Cond.methodLink RX0 94 yX0_isRight, Cond.static yX0_isRight, Cond.code yX0_isRight cX0_isRight 3 (some .boolean)]
def wsX0_mixed : List Cond := .code yX0_mixed cX0_mixed 5 (some .int) :: ((wsX0_mixed_r1 ++ (wsX0_mixed_r2 ++ wsX0_mixed_r3)) ++ wsX00 ++ (vx_atS RX0 102 "java/lang/IndexOutOfBoundsException" ["java/lang/RuntimeException", "java/lang/Exception"]).filter goodWord)
def wsX0_would_r1 : List Cond := [Cond.fieldLink RX0 11 "CornerCube" "cube" "J", Cond.methodLink RX0 28 yX0_checkFace, Cond.static yX0_checkFace, Cond.initialized RX0, Cond.code yX0_checkFace cX0_checkFace 1 none, Cond.classLink RX0 98 "java/lang/IndexOutOfBoundsException", Cond.initialized "java/lang/IndexOutOfBoundsException", Cond.methodLink RX0 32 yX0_checkQuarters, Cond.static yX0_checkQuarters, Cond.code yX0_checkQuarters cX0_checkQuarters 1 none, Cond.classLink RX0 50 "java/lang/IllegalArgumentException", Cond.initialized "java/lang/IllegalArgumentException", Cond.methodLink RX0 35 yX0_turnNumber, Cond.static yX0_turnNumber, Cond.code yX0_turnNumber cX0_turnNumber 2 (some .int), Cond.methodLink RX0 39 yX0_turned, Cond.static yX0_turned, Cond.code yX0_turned cX0_turned 6 (some .long), Cond.methodLink RX0 171 yX0_quartersOf, Cond.static yX0_quartersOf, Cond.code yX0_quartersOf cX0_quartersOf 1 (some .int), Cond.methodLink RX0 134 yX0_faceOf, Cond.static yX0_faceOf, Cond.code yX0_faceOf cX0_faceOf 1 (some .int)]
def wsX0_would_r2 : List Cond := [Cond.methodLink RX0 182 yX0_quarterTurned, Cond.static yX0_quarterTurned, Cond.code yX0_quarterTurned cX0_quarterTurned 3 (some .long), Cond.methodLink RX0 185 yX0_gone, Cond.static yX0_gone, Cond.code yX0_gone cX0_gone 9 (some .long), Cond.methodLink RX0 189 yX0_hexDigit, Cond.static yX0_hexDigit, Cond.code yX0_hexDigit cX0_hexDigit 2 (some .int), Cond.methodLink RX0 87 yX0_cornerAt, Cond.static yX0_cornerAt, Cond.code yX0_cornerAt cX0_cornerAt 3 (some .int), Cond.methodLink RX0 91 yX0_twistAt, Cond.static yX0_twistAt, Cond.code yX0_twistAt cX0_twistAt 3 (some .int), Cond.methodLink RX0 192 yX0_withCorner, Cond.static yX0_withCorner, Cond.code yX0_withCorner cX0_withCorner 9 (some .long), Cond.constantLong RX0 178 (255), Cond.constantLong RX0 180 (-1), Cond.methodLink RX0 43 yX0_rightCorners, Cond.static yX0_rightCorners, Cond.code yX0_rightCorners cX0_rightCorners 4 (some .int), Cond.methodLink RX0 94 yX0_isRight]
def wsX0_would_r3 : List Cond := [Cond.static yX0_isRight, Cond.code yX0_isRight cX0_isRight 3 (some .boolean)]
def wsX0_would : List Cond := .code yX0_would cX0_would 3 (some .int) :: ((wsX0_would_r1 ++ (wsX0_would_r2 ++ wsX0_would_r3)) ++ wsX00 ++ (vx_atS RX0 102 "java/lang/IndexOutOfBoundsException" ["java/lang/RuntimeException", "java/lang/Exception"]).filter goodWord ++ (vx_atS RX0 54 "java/lang/IllegalArgumentException" ["java/lang/RuntimeException", "java/lang/Exception"]).filter goodWord)
def wsX0_checkMost : List Cond := .code yX0_checkMost cX0_checkMost 1 none :: ([.classLink RX0 50 "java/lang/IllegalArgumentException", .initialized "java/lang/IllegalArgumentException"] ++ (vx_atS RX0 54 "java/lang/IllegalArgumentException" ["java/lang/RuntimeException", "java/lang/Exception"]).filter goodWord)
def wsX0_mostSetRight : List Cond := .code yX0_mostSetRight cX0_mostSetRight 1 (some .int) :: ([])
def wsX0_isRightBeginning_r1 : List Cond := [Cond.methodLink RX0 182 yX0_quarterTurned, Cond.static yX0_quarterTurned, Cond.initialized RX0, Cond.code yX0_quarterTurned cX0_quarterTurned 3 (some .long), Cond.methodLink RX0 185 yX0_gone, Cond.static yX0_gone, Cond.code yX0_gone cX0_gone 9 (some .long), Cond.methodLink RX0 189 yX0_hexDigit, Cond.static yX0_hexDigit, Cond.code yX0_hexDigit cX0_hexDigit 2 (some .int), Cond.methodLink RX0 87 yX0_cornerAt, Cond.static yX0_cornerAt, Cond.code yX0_cornerAt cX0_cornerAt 3 (some .int), Cond.methodLink RX0 91 yX0_twistAt, Cond.static yX0_twistAt, Cond.code yX0_twistAt cX0_twistAt 3 (some .int), Cond.methodLink RX0 192 yX0_withCorner, Cond.static yX0_withCorner, Cond.code yX0_withCorner cX0_withCorner 9 (some .long), Cond.constantLong RX0 178 (255), Cond.constantLong RX0 180 (-1), Cond.methodLink RX0 137 yX0_isRightWithin, Cond.static yX0_isRightWithin, Cond.code yX0_isRightWithin cX0_isRightWithin 5 (some .boolean)]
def wsX0_isRightBeginning_r2 : List Cond := [Cond.constantLong RX0 9 (506097522914230528), Cond.methodLink RX0 65 yX0_wrongCorners, Cond.static yX0_wrongCorners, Cond.code yX0_wrongCorners cX0_wrongCorners 2 (some .int), Cond.methodLink RX0 43 yX0_rightCorners, Cond.static yX0_rightCorners, Cond.code yX0_rightCorners cX0_rightCorners 4 (some .int), Cond.methodLink RX0 94 yX0_isRight, Cond.static yX0_isRight, Cond.code yX0_isRight cX0_isRight 3 (some .boolean), Cond.methodLink RX0 196 yX0_mostSetRight, Cond.static yX0_mostSetRight, Cond.code yX0_mostSetRight cX0_mostSetRight 1 (some .int), Cond.methodLink RX0 199 yX0_isRightBeginning, Cond.static yX0_isRightBeginning]
def wsX0_isRightBeginning : List Cond := .code yX0_isRightBeginning cX0_isRightBeginning 7 (some .boolean) :: ((wsX0_isRightBeginning_r1 ++ wsX0_isRightBeginning_r2))
def wsX0_isRightWithin_r1 : List Cond := [Cond.constantLong RX0 9 (506097522914230528), Cond.methodLink RX0 65 yX0_wrongCorners, Cond.static yX0_wrongCorners, Cond.initialized RX0, Cond.code yX0_wrongCorners cX0_wrongCorners 2 (some .int), Cond.methodLink RX0 43 yX0_rightCorners, Cond.static yX0_rightCorners, Cond.code yX0_rightCorners cX0_rightCorners 4 (some .int), Cond.methodLink RX0 94 yX0_isRight, Cond.static yX0_isRight, Cond.code yX0_isRight cX0_isRight 3 (some .boolean), Cond.methodLink RX0 87 yX0_cornerAt, Cond.static yX0_cornerAt, Cond.code yX0_cornerAt cX0_cornerAt 3 (some .int), Cond.methodLink RX0 91 yX0_twistAt, Cond.static yX0_twistAt, Cond.code yX0_twistAt cX0_twistAt 3 (some .int), Cond.methodLink RX0 196 yX0_mostSetRight, Cond.static yX0_mostSetRight, Cond.code yX0_mostSetRight cX0_mostSetRight 1 (some .int), Cond.methodLink RX0 199 yX0_isRightBeginning, Cond.static yX0_isRightBeginning, Cond.code yX0_isRightBeginning cX0_isRightBeginning 7 (some .boolean), Cond.methodLink RX0 182 yX0_quarterTurned]
def wsX0_isRightWithin_r2 : List Cond := [Cond.static yX0_quarterTurned, Cond.code yX0_quarterTurned cX0_quarterTurned 3 (some .long), Cond.methodLink RX0 185 yX0_gone, Cond.static yX0_gone, Cond.code yX0_gone cX0_gone 9 (some .long), Cond.methodLink RX0 189 yX0_hexDigit, Cond.static yX0_hexDigit, Cond.code yX0_hexDigit cX0_hexDigit 2 (some .int), Cond.methodLink RX0 192 yX0_withCorner, Cond.static yX0_withCorner, Cond.code yX0_withCorner cX0_withCorner 9 (some .long), Cond.constantLong RX0 178 (255), Cond.constantLong RX0 180 (-1), Cond.methodLink RX0 137 yX0_isRightWithin, Cond.static yX0_isRightWithin]
def wsX0_isRightWithin : List Cond := .code yX0_isRightWithin cX0_isRightWithin 5 (some .boolean) :: ((wsX0_isRightWithin_r1 ++ wsX0_isRightWithin_r2))
def wsX0_fewestTurns_r1 : List Cond := [Cond.methodLink RX0 137 yX0_isRightWithin, Cond.static yX0_isRightWithin, Cond.initialized RX0, Cond.code yX0_isRightWithin cX0_isRightWithin 5 (some .boolean), Cond.constantLong RX0 9 (506097522914230528), Cond.methodLink RX0 65 yX0_wrongCorners, Cond.static yX0_wrongCorners, Cond.code yX0_wrongCorners cX0_wrongCorners 2 (some .int), Cond.methodLink RX0 43 yX0_rightCorners, Cond.static yX0_rightCorners, Cond.code yX0_rightCorners cX0_rightCorners 4 (some .int), Cond.methodLink RX0 94 yX0_isRight, Cond.static yX0_isRight, Cond.code yX0_isRight cX0_isRight 3 (some .boolean), Cond.methodLink RX0 87 yX0_cornerAt, Cond.static yX0_cornerAt, Cond.code yX0_cornerAt cX0_cornerAt 3 (some .int), Cond.methodLink RX0 91 yX0_twistAt, Cond.static yX0_twistAt, Cond.code yX0_twistAt cX0_twistAt 3 (some .int), Cond.methodLink RX0 196 yX0_mostSetRight, Cond.static yX0_mostSetRight, Cond.code yX0_mostSetRight cX0_mostSetRight 1 (some .int), Cond.methodLink RX0 199 yX0_isRightBeginning]
def wsX0_fewestTurns_r2 : List Cond := [Cond.static yX0_isRightBeginning, Cond.code yX0_isRightBeginning cX0_isRightBeginning 7 (some .boolean), Cond.methodLink RX0 182 yX0_quarterTurned, Cond.static yX0_quarterTurned, Cond.code yX0_quarterTurned cX0_quarterTurned 3 (some .long), Cond.methodLink RX0 185 yX0_gone, Cond.static yX0_gone, Cond.code yX0_gone cX0_gone 9 (some .long), Cond.methodLink RX0 189 yX0_hexDigit, Cond.static yX0_hexDigit, Cond.code yX0_hexDigit cX0_hexDigit 2 (some .int), Cond.methodLink RX0 192 yX0_withCorner, Cond.static yX0_withCorner, Cond.code yX0_withCorner cX0_withCorner 9 (some .long), Cond.constantLong RX0 178 (255), Cond.constantLong RX0 180 (-1)]
def wsX0_fewestTurns : List Cond := .code yX0_fewestTurns cX0_fewestTurns 4 (some .int) :: ((wsX0_fewestTurns_r1 ++ wsX0_fewestTurns_r2))
def wsX0_far_r1 : List Cond := [Cond.fieldLink RX0 11 "CornerCube" "cube" "J", Cond.methodLink RX0 128 yX0_checkMost, Cond.static yX0_checkMost, Cond.initialized RX0, Cond.code yX0_checkMost cX0_checkMost 1 none, Cond.classLink RX0 50 "java/lang/IllegalArgumentException", Cond.initialized "java/lang/IllegalArgumentException", Cond.methodLink RX0 131 yX0_fewestTurns, Cond.static yX0_fewestTurns, Cond.code yX0_fewestTurns cX0_fewestTurns 4 (some .int), Cond.methodLink RX0 137 yX0_isRightWithin, Cond.static yX0_isRightWithin, Cond.code yX0_isRightWithin cX0_isRightWithin 5 (some .boolean), Cond.constantLong RX0 9 (506097522914230528), Cond.methodLink RX0 65 yX0_wrongCorners, Cond.static yX0_wrongCorners, Cond.code yX0_wrongCorners cX0_wrongCorners 2 (some .int), Cond.methodLink RX0 43 yX0_rightCorners, Cond.static yX0_rightCorners, Cond.code yX0_rightCorners cX0_rightCorners 4 (some .int), Cond.methodLink RX0 94 yX0_isRight, Cond.static yX0_isRight, Cond.code yX0_isRight cX0_isRight 3 (some .boolean), Cond.methodLink RX0 87 yX0_cornerAt]
def wsX0_far_r2 : List Cond := [Cond.static yX0_cornerAt, Cond.code yX0_cornerAt cX0_cornerAt 3 (some .int), Cond.methodLink RX0 91 yX0_twistAt, Cond.static yX0_twistAt, Cond.code yX0_twistAt cX0_twistAt 3 (some .int), Cond.methodLink RX0 196 yX0_mostSetRight, Cond.static yX0_mostSetRight, Cond.code yX0_mostSetRight cX0_mostSetRight 1 (some .int), Cond.methodLink RX0 199 yX0_isRightBeginning, Cond.static yX0_isRightBeginning, Cond.code yX0_isRightBeginning cX0_isRightBeginning 7 (some .boolean), Cond.methodLink RX0 182 yX0_quarterTurned, Cond.static yX0_quarterTurned, Cond.code yX0_quarterTurned cX0_quarterTurned 3 (some .long), Cond.methodLink RX0 185 yX0_gone, Cond.static yX0_gone, Cond.code yX0_gone cX0_gone 9 (some .long), Cond.methodLink RX0 189 yX0_hexDigit, Cond.static yX0_hexDigit, Cond.code yX0_hexDigit cX0_hexDigit 2 (some .int), Cond.methodLink RX0 192 yX0_withCorner, Cond.static yX0_withCorner, Cond.code yX0_withCorner cX0_withCorner 9 (some .long), Cond.constantLong RX0 178 (255)]
def wsX0_far_r3 : List Cond := [Cond.constantLong RX0 180 (-1)]
def wsX0_far : List Cond := .code yX0_far cX0_far 2 (some .int) :: ((wsX0_far_r1 ++ (wsX0_far_r2 ++ wsX0_far_r3)) ++ wsX00 ++ (vx_atS RX0 54 "java/lang/IllegalArgumentException" ["java/lang/RuntimeException", "java/lang/Exception"]).filter goodWord)
def wsX0_first_r1 : List Cond := [Cond.fieldLink RX0 11 "CornerCube" "cube" "J", Cond.methodLink RX0 128 yX0_checkMost, Cond.static yX0_checkMost, Cond.initialized RX0, Cond.code yX0_checkMost cX0_checkMost 1 none, Cond.classLink RX0 50 "java/lang/IllegalArgumentException", Cond.initialized "java/lang/IllegalArgumentException", Cond.methodLink RX0 131 yX0_fewestTurns, Cond.static yX0_fewestTurns, Cond.code yX0_fewestTurns cX0_fewestTurns 4 (some .int), Cond.methodLink RX0 137 yX0_isRightWithin, Cond.static yX0_isRightWithin, Cond.code yX0_isRightWithin cX0_isRightWithin 5 (some .boolean), Cond.constantLong RX0 9 (506097522914230528), Cond.methodLink RX0 65 yX0_wrongCorners, Cond.static yX0_wrongCorners, Cond.code yX0_wrongCorners cX0_wrongCorners 2 (some .int), Cond.methodLink RX0 43 yX0_rightCorners, Cond.static yX0_rightCorners, Cond.code yX0_rightCorners cX0_rightCorners 4 (some .int), Cond.methodLink RX0 94 yX0_isRight, Cond.static yX0_isRight, Cond.code yX0_isRight cX0_isRight 3 (some .boolean), Cond.methodLink RX0 87 yX0_cornerAt]
def wsX0_first_r2 : List Cond := [Cond.static yX0_cornerAt, Cond.code yX0_cornerAt cX0_cornerAt 3 (some .int), Cond.methodLink RX0 91 yX0_twistAt, Cond.static yX0_twistAt, Cond.code yX0_twistAt cX0_twistAt 3 (some .int), Cond.methodLink RX0 196 yX0_mostSetRight, Cond.static yX0_mostSetRight, Cond.code yX0_mostSetRight cX0_mostSetRight 1 (some .int), Cond.methodLink RX0 199 yX0_isRightBeginning, Cond.static yX0_isRightBeginning, Cond.code yX0_isRightBeginning cX0_isRightBeginning 7 (some .boolean), Cond.methodLink RX0 182 yX0_quarterTurned, Cond.static yX0_quarterTurned, Cond.code yX0_quarterTurned cX0_quarterTurned 3 (some .long), Cond.methodLink RX0 185 yX0_gone, Cond.static yX0_gone, Cond.code yX0_gone cX0_gone 9 (some .long), Cond.methodLink RX0 189 yX0_hexDigit, Cond.static yX0_hexDigit, Cond.code yX0_hexDigit cX0_hexDigit 2 (some .int), Cond.methodLink RX0 192 yX0_withCorner, Cond.static yX0_withCorner, Cond.code yX0_withCorner cX0_withCorner 9 (some .long), Cond.constantLong RX0 178 (255)]
def wsX0_first_r3 : List Cond := [Cond.constantLong RX0 180 (-1), Cond.methodLink RX0 39 yX0_turned, Cond.static yX0_turned, Cond.code yX0_turned cX0_turned 6 (some .long), Cond.methodLink RX0 171 yX0_quartersOf, Cond.static yX0_quartersOf, Cond.code yX0_quartersOf cX0_quartersOf 1 (some .int), Cond.methodLink RX0 134 yX0_faceOf, Cond.static yX0_faceOf, Cond.code yX0_faceOf cX0_faceOf 1 (some .int)]
def wsX0_first : List Cond := .code yX0_first cX0_first 4 (some .int) :: ((wsX0_first_r1 ++ (wsX0_first_r2 ++ wsX0_first_r3)) ++ wsX00 ++ (vx_atS RX0 54 "java/lang/IllegalArgumentException" ["java/lang/RuntimeException", "java/lang/Exception"]).filter goodWord)
def wsX0_shortest_r1 : List Cond := [Cond.methodLink RX0 47 yX0_checkWord, Cond.static yX0_checkWord, Cond.initialized RX0, Cond.code yX0_checkWord cX0_checkWord 1 none, Cond.classLink RX0 98 "java/lang/IndexOutOfBoundsException", Cond.initialized "java/lang/IndexOutOfBoundsException", Cond.methodLink RX0 128 yX0_checkMost, Cond.static yX0_checkMost, Cond.code yX0_checkMost cX0_checkMost 1 none, Cond.classLink RX0 50 "java/lang/IllegalArgumentException", Cond.initialized "java/lang/IllegalArgumentException", Cond.methodLink RX0 119 yX0_deedOf, Cond.instanceMethod yX0_deedOf, Cond.selects RX0 yX0_deedOf yX0_deedOf, Cond.code yX0_deedOf cX0_deedOf 2 (some .long), Cond.constantLong RX0 9 (506097522914230528), Cond.methodLink RX0 62 yX0_behindWord, Cond.instanceMethod yX0_behindWord, Cond.selects RX0 yX0_behindWord yX0_behindWord, Cond.code yX0_behindWord cX0_behindWord 7 (some .long), Cond.fieldLink RX0 24 "CornerCube" "lengths" "[I", Cond.fieldLink RX0 21 "CornerCube" "turnsOf" "[[I", Cond.methodLink RX0 39 yX0_turned, Cond.static yX0_turned]
def wsX0_shortest_r2 : List Cond := [Cond.code yX0_turned cX0_turned 6 (some .long), Cond.methodLink RX0 171 yX0_quartersOf, Cond.static yX0_quartersOf, Cond.code yX0_quartersOf cX0_quartersOf 1 (some .int), Cond.methodLink RX0 134 yX0_faceOf, Cond.static yX0_faceOf, Cond.code yX0_faceOf cX0_faceOf 1 (some .int), Cond.methodLink RX0 182 yX0_quarterTurned, Cond.static yX0_quarterTurned, Cond.code yX0_quarterTurned cX0_quarterTurned 3 (some .long), Cond.methodLink RX0 185 yX0_gone, Cond.static yX0_gone, Cond.code yX0_gone cX0_gone 9 (some .long), Cond.methodLink RX0 189 yX0_hexDigit, Cond.static yX0_hexDigit, Cond.code yX0_hexDigit cX0_hexDigit 2 (some .int), Cond.methodLink RX0 87 yX0_cornerAt, Cond.static yX0_cornerAt, Cond.code yX0_cornerAt cX0_cornerAt 3 (some .int), Cond.methodLink RX0 91 yX0_twistAt, Cond.static yX0_twistAt, Cond.code yX0_twistAt cX0_twistAt 3 (some .int), Cond.methodLink RX0 192 yX0_withCorner, Cond.static yX0_withCorner]
def wsX0_shortest_r3 : List Cond := [Cond.code yX0_withCorner cX0_withCorner 9 (some .long), Cond.constantLong RX0 178 (255), Cond.constantLong RX0 180 (-1), Cond.methodLink RX0 131 yX0_fewestTurns, Cond.static yX0_fewestTurns, Cond.code yX0_fewestTurns cX0_fewestTurns 4 (some .int), Cond.methodLink RX0 137 yX0_isRightWithin, Cond.static yX0_isRightWithin, Cond.code yX0_isRightWithin cX0_isRightWithin 5 (some .boolean), Cond.methodLink RX0 65 yX0_wrongCorners, Cond.static yX0_wrongCorners, Cond.code yX0_wrongCorners cX0_wrongCorners 2 (some .int), Cond.methodLink RX0 43 yX0_rightCorners, Cond.static yX0_rightCorners, Cond.code yX0_rightCorners cX0_rightCorners 4 (some .int), Cond.methodLink RX0 94 yX0_isRight, Cond.static yX0_isRight, Cond.code yX0_isRight cX0_isRight 3 (some .boolean), Cond.methodLink RX0 196 yX0_mostSetRight, Cond.static yX0_mostSetRight, Cond.code yX0_mostSetRight cX0_mostSetRight 1 (some .int), Cond.methodLink RX0 199 yX0_isRightBeginning, Cond.static yX0_isRightBeginning, Cond.code yX0_isRightBeginning cX0_isRightBeginning 7 (some .boolean)]
def wsX0_shortest : List Cond := .code yX0_shortest cX0_shortest 3 (some .int) :: ((wsX0_shortest_r1 ++ (wsX0_shortest_r2 ++ wsX0_shortest_r3)) ++ wsX00 ++ (vx_atS RX0 102 "java/lang/IndexOutOfBoundsException" ["java/lang/RuntimeException", "java/lang/Exception"]).filter goodWord ++ (vx_atS RX0 54 "java/lang/IllegalArgumentException" ["java/lang/RuntimeException", "java/lang/Exception"]).filter goodWord)
def wsX0_advise_r1 : List Cond := [Cond.fieldLink RX0 11 "CornerCube" "cube" "J", Cond.methodLink RX0 39 yX0_turned, Cond.static yX0_turned, Cond.initialized RX0, Cond.code yX0_turned cX0_turned 6 (some .long), Cond.methodLink RX0 171 yX0_quartersOf, Cond.static yX0_quartersOf, Cond.code yX0_quartersOf cX0_quartersOf 1 (some .int), Cond.methodLink RX0 134 yX0_faceOf, Cond.static yX0_faceOf, Cond.code yX0_faceOf cX0_faceOf 1 (some .int), Cond.methodLink RX0 182 yX0_quarterTurned, Cond.static yX0_quarterTurned, Cond.code yX0_quarterTurned cX0_quarterTurned 3 (some .long), Cond.methodLink RX0 185 yX0_gone, Cond.static yX0_gone, Cond.code yX0_gone cX0_gone 9 (some .long), Cond.methodLink RX0 189 yX0_hexDigit, Cond.static yX0_hexDigit, Cond.code yX0_hexDigit cX0_hexDigit 2 (some .int), Cond.methodLink RX0 87 yX0_cornerAt, Cond.static yX0_cornerAt, Cond.code yX0_cornerAt cX0_cornerAt 3 (some .int), Cond.methodLink RX0 91 yX0_twistAt]
def wsX0_advise_r2 : List Cond := [Cond.static yX0_twistAt, Cond.code yX0_twistAt cX0_twistAt 3 (some .int), Cond.methodLink RX0 192 yX0_withCorner, Cond.static yX0_withCorner, Cond.code yX0_withCorner cX0_withCorner 9 (some .long), Cond.constantLong RX0 178 (255), Cond.constantLong RX0 180 (-1), Cond.methodLink RX0 43 yX0_rightCorners, Cond.static yX0_rightCorners, Cond.code yX0_rightCorners cX0_rightCorners 4 (some .int), Cond.methodLink RX0 94 yX0_isRight, Cond.static yX0_isRight, Cond.code yX0_isRight cX0_isRight 3 (some .boolean)]
def wsX0_advise : List Cond := .code yX0_advise cX0_advise 5 (some .int) :: ((wsX0_advise_r1 ++ wsX0_advise_r2) ++ wsX00)
def wsX0_mean : List Cond := .code yX0_mean cX0_mean 1 (some .double) :: ([.constantDouble RX0 141 (4617315517961601024), .methodLink RX0 115 yX0_turnsOfAllWords, .instanceMethod yX0_turnsOfAllWords, .selects RX0 yX0_turnsOfAllWords yX0_turnsOfAllWords, .initialized RX0, .code yX0_turnsOfAllWords cX0_turnsOfAllWords 3 (some .int), .fieldLink RX0 24 "CornerCube" "lengths" "[I"] ++ wsX00)
def wsX0_digestOfWord_r1 : List Cond := [Cond.constantLong RX0 145 (31), Cond.fieldLink RX0 24 "CornerCube" "lengths" "[I", Cond.fieldLink RX0 21 "CornerCube" "turnsOf" "[[I", Cond.methodLink RX0 156 yX0_word, Cond.instanceMethod yX0_word, Cond.selects RX0 yX0_word yX0_word, Cond.initialized RX0, Cond.code yX0_word cX0_word 3 (some .int), Cond.methodLink RX0 47 yX0_checkWord, Cond.static yX0_checkWord, Cond.code yX0_checkWord cX0_checkWord 1 none, Cond.classLink RX0 98 "java/lang/IndexOutOfBoundsException", Cond.initialized "java/lang/IndexOutOfBoundsException", Cond.methodLink RX0 83 yX0_checkWhat, Cond.static yX0_checkWhat, Cond.code yX0_checkWhat cX0_checkWhat 2 none, Cond.methodLink RX0 119 yX0_deedOf, Cond.instanceMethod yX0_deedOf, Cond.selects RX0 yX0_deedOf yX0_deedOf, Cond.code yX0_deedOf cX0_deedOf 2 (some .long), Cond.constantLong RX0 9 (506097522914230528), Cond.methodLink RX0 62 yX0_behindWord, Cond.instanceMethod yX0_behindWord, Cond.selects RX0 yX0_behindWord yX0_behindWord]
def wsX0_digestOfWord_r2 : List Cond := [Cond.code yX0_behindWord cX0_behindWord 7 (some .long), Cond.methodLink RX0 39 yX0_turned, Cond.static yX0_turned, Cond.code yX0_turned cX0_turned 6 (some .long), Cond.methodLink RX0 171 yX0_quartersOf, Cond.static yX0_quartersOf, Cond.code yX0_quartersOf cX0_quartersOf 1 (some .int), Cond.methodLink RX0 134 yX0_faceOf, Cond.static yX0_faceOf, Cond.code yX0_faceOf cX0_faceOf 1 (some .int), Cond.methodLink RX0 182 yX0_quarterTurned, Cond.static yX0_quarterTurned, Cond.code yX0_quarterTurned cX0_quarterTurned 3 (some .long), Cond.methodLink RX0 185 yX0_gone, Cond.static yX0_gone, Cond.code yX0_gone cX0_gone 9 (some .long), Cond.methodLink RX0 189 yX0_hexDigit, Cond.static yX0_hexDigit, Cond.code yX0_hexDigit cX0_hexDigit 2 (some .int), Cond.methodLink RX0 87 yX0_cornerAt, Cond.static yX0_cornerAt, Cond.code yX0_cornerAt cX0_cornerAt 3 (some .int), Cond.methodLink RX0 91 yX0_twistAt, Cond.static yX0_twistAt]
def wsX0_digestOfWord_r3 : List Cond := [Cond.code yX0_twistAt cX0_twistAt 3 (some .int), Cond.methodLink RX0 192 yX0_withCorner, Cond.static yX0_withCorner, Cond.code yX0_withCorner cX0_withCorner 9 (some .long), Cond.constantLong RX0 178 (255), Cond.constantLong RX0 180 (-1), Cond.methodLink RX0 112 yX0_orderOf, Cond.static yX0_orderOf, Cond.code yX0_orderOf cX0_orderOf 5 (some .int), Cond.methodLink RX0 174 yX0_behindDeed, Cond.static yX0_behindDeed, Cond.code yX0_behindDeed cX0_behindDeed 8 (some .long), Cond.methodLink RX0 65 yX0_wrongCorners, Cond.static yX0_wrongCorners, Cond.code yX0_wrongCorners cX0_wrongCorners 2 (some .int), Cond.methodLink RX0 43 yX0_rightCorners, Cond.static yX0_rightCorners, Cond.code yX0_rightCorners cX0_rightCorners 4 (some .int), Cond.methodLink RX0 94 yX0_isRight, Cond.static yX0_isRight, Cond.code yX0_isRight cX0_isRight 3 (some .boolean), Cond.methodLink RX0 103 yX0_placedCorners, Cond.static yX0_placedCorners, Cond.code yX0_placedCorners cX0_placedCorners 4 (some .int)]
def wsX0_digestOfWord : List Cond := .code yX0_digestOfWord cX0_digestOfWord 7 (some .long) :: ((wsX0_digestOfWord_r1 ++ (wsX0_digestOfWord_r2 ++ wsX0_digestOfWord_r3)) ++ wsX00 ++ (vx_atS RX0 102 "java/lang/IndexOutOfBoundsException" ["java/lang/RuntimeException", "java/lang/Exception"]).filter goodWord)
def wsX0_digest_r1 : List Cond := [Cond.constantLong RX0 143 (1787), Cond.constantLong RX0 145 (31), Cond.methodLink RX0 147 yX0_count, Cond.instanceMethod yX0_count, Cond.selects RX0 yX0_count yX0_count, Cond.initialized RX0, Cond.code yX0_count cX0_count 2 (some .int), Cond.fieldLink RX0 15 "CornerCube" "turnsMade" "I", Cond.fieldLink RX0 11 "CornerCube" "cube" "J", Cond.methodLink RX0 83 yX0_checkWhat, Cond.static yX0_checkWhat, Cond.code yX0_checkWhat cX0_checkWhat 2 none, Cond.classLink RX0 98 "java/lang/IndexOutOfBoundsException", Cond.initialized "java/lang/IndexOutOfBoundsException", Cond.methodLink RX0 43 yX0_rightCorners, Cond.static yX0_rightCorners, Cond.code yX0_rightCorners cX0_rightCorners 4 (some .int), Cond.methodLink RX0 94 yX0_isRight, Cond.static yX0_isRight, Cond.code yX0_isRight cX0_isRight 3 (some .boolean), Cond.methodLink RX0 87 yX0_cornerAt, Cond.static yX0_cornerAt, Cond.code yX0_cornerAt cX0_cornerAt 3 (some .int), Cond.methodLink RX0 91 yX0_twistAt]
def wsX0_digest_r2 : List Cond := [Cond.static yX0_twistAt, Cond.code yX0_twistAt cX0_twistAt 3 (some .int), Cond.methodLink RX0 103 yX0_placedCorners, Cond.static yX0_placedCorners, Cond.code yX0_placedCorners cX0_placedCorners 4 (some .int), Cond.methodLink RX0 106 yX0_untwistedCorners, Cond.static yX0_untwistedCorners, Cond.code yX0_untwistedCorners cX0_untwistedCorners 4 (some .int), Cond.methodLink RX0 109 yX0_pairsOutOfOrder, Cond.static yX0_pairsOutOfOrder, Cond.code yX0_pairsOutOfOrder cX0_pairsOutOfOrder 5 (some .int), Cond.methodLink RX0 112 yX0_orderOf, Cond.static yX0_orderOf, Cond.code yX0_orderOf cX0_orderOf 5 (some .int), Cond.constantLong RX0 9 (506097522914230528), Cond.methodLink RX0 174 yX0_behindDeed, Cond.static yX0_behindDeed, Cond.code yX0_behindDeed cX0_behindDeed 8 (some .long), Cond.methodLink RX0 192 yX0_withCorner, Cond.static yX0_withCorner, Cond.code yX0_withCorner cX0_withCorner 9 (some .long), Cond.constantLong RX0 178 (255), Cond.constantLong RX0 180 (-1), Cond.methodLink RX0 115 yX0_turnsOfAllWords]
def wsX0_digest_r3 : List Cond := [Cond.instanceMethod yX0_turnsOfAllWords, Cond.selects RX0 yX0_turnsOfAllWords yX0_turnsOfAllWords, Cond.code yX0_turnsOfAllWords cX0_turnsOfAllWords 3 (some .int), Cond.fieldLink RX0 24 "CornerCube" "lengths" "[I", Cond.methodLink RX0 150 yX0_told, Cond.instanceMethod yX0_told, Cond.selects RX0 yX0_told yX0_told, Cond.code yX0_told cX0_told 3 (some .int), Cond.methodLink RX0 80 yX0_checkPlace, Cond.static yX0_checkPlace, Cond.code yX0_checkPlace cX0_checkPlace 1 none, Cond.methodLink RX0 153 yX0_digestOfWord, Cond.instanceMethod yX0_digestOfWord, Cond.selects RX0 yX0_digestOfWord yX0_digestOfWord, Cond.code yX0_digestOfWord cX0_digestOfWord 7 (some .long), Cond.fieldLink RX0 21 "CornerCube" "turnsOf" "[[I", Cond.methodLink RX0 156 yX0_word, Cond.instanceMethod yX0_word, Cond.selects RX0 yX0_word yX0_word, Cond.code yX0_word cX0_word 3 (some .int), Cond.methodLink RX0 47 yX0_checkWord, Cond.static yX0_checkWord, Cond.code yX0_checkWord cX0_checkWord 1 none, Cond.methodLink RX0 119 yX0_deedOf]
def wsX0_digest_r4 : List Cond := [Cond.instanceMethod yX0_deedOf, Cond.selects RX0 yX0_deedOf yX0_deedOf, Cond.code yX0_deedOf cX0_deedOf 2 (some .long), Cond.methodLink RX0 62 yX0_behindWord, Cond.instanceMethod yX0_behindWord, Cond.selects RX0 yX0_behindWord yX0_behindWord, Cond.code yX0_behindWord cX0_behindWord 7 (some .long), Cond.methodLink RX0 39 yX0_turned, Cond.static yX0_turned, Cond.code yX0_turned cX0_turned 6 (some .long), Cond.methodLink RX0 171 yX0_quartersOf, Cond.static yX0_quartersOf, Cond.code yX0_quartersOf cX0_quartersOf 1 (some .int), Cond.methodLink RX0 134 yX0_faceOf, Cond.static yX0_faceOf, Cond.code yX0_faceOf cX0_faceOf 1 (some .int), Cond.methodLink RX0 182 yX0_quarterTurned, Cond.static yX0_quarterTurned, Cond.code yX0_quarterTurned cX0_quarterTurned 3 (some .long), Cond.methodLink RX0 185 yX0_gone, Cond.static yX0_gone, Cond.code yX0_gone cX0_gone 9 (some .long), Cond.methodLink RX0 189 yX0_hexDigit, Cond.static yX0_hexDigit]
def wsX0_digest_r5 : List Cond := [Cond.code yX0_hexDigit cX0_hexDigit 2 (some .int), Cond.methodLink RX0 65 yX0_wrongCorners, Cond.static yX0_wrongCorners, Cond.code yX0_wrongCorners cX0_wrongCorners 2 (some .int)]
def wsX0_digest : List Cond := .code yX0_digest cX0_digest 5 (some .long) :: ((wsX0_digest_r1 ++ (wsX0_digest_r2 ++ (wsX0_digest_r3 ++ (wsX0_digest_r4 ++ wsX0_digest_r5)))) ++ wsX00 ++ (vx_atS RX0 102 "java/lang/IndexOutOfBoundsException" ["java/lang/RuntimeException", "java/lang/Exception"]).filter goodWord)
def wsX1_right : List Cond := .code yX1_right cX1_right 2 (some (.array .int)) :: ([.arrayClass .int])
def wsX1_quarter : List Cond := .code yX1_quarter cX1_quarter 4 (some (.array .int)) :: ([.fieldLink RX1 48 "CornerCubeModel" "ROUND" "[[I", .fieldLink RX1 51 "CornerCubeModel" "MORE" "[[I", .methodLink RX1 7 yX1_right, .static yX1_right, .initialized RX1, .code yX1_right cX1_right 2 (some (.array .int)), .arrayClass .int])
def wsX1_into : List Cond := .code yX1_into cX1_into 5 (some (.array .int)) :: ([])
def wsX1_then : List Cond := .code yX1_then cX1_then 2 (some (.array .int)) :: ([.arrayClass .int, .methodLink RX1 44 yX1_into, .static yX1_into, .initialized RX1, .code yX1_into cX1_into 5 (some (.array .int))])
def wsX1_turnRow : List Cond := .code yX1_turnRow cX1_turnRow 3 (some (.array .int)) :: ([.methodLink RX1 54 yX1_quarter, .static yX1_quarter, .initialized RX1, .code yX1_quarter cX1_quarter 4 (some (.array .int)), .fieldLink RX1 48 "CornerCubeModel" "ROUND" "[[I", .fieldLink RX1 51 "CornerCubeModel" "MORE" "[[I", .methodLink RX1 7 yX1_right, .static yX1_right, .code yX1_right cX1_right 2 (some (.array .int)), .arrayClass .int, .methodLink RX1 57 yX1_then, .static yX1_then, .code yX1_then cX1_then 2 (some (.array .int)), .methodLink RX1 44 yX1_into, .static yX1_into, .code yX1_into cX1_into 5 (some (.array .int))])
def wsX1_init_r1 : List Cond := [Cond.methodLink RX1 1 objectInit, Cond.instanceMethod objectInit, Cond.code objectInit ⟨#[0xb1]⟩ 1 none, Cond.fieldLink RX1 13 "CornerCubeModel" "cube" "[I", Cond.classLink RX1 17 "[I", Cond.fieldLink RX1 18 "CornerCubeModel" "rows" "[[I", Cond.classLink RX1 22 "[[I", Cond.arrayClass .int, Cond.fieldLink RX1 23 "CornerCubeModel" "tried" "[[I", Cond.fieldLink RX1 26 "CornerCubeModel" "sizes" "[I", Cond.fieldLink RX1 29 "CornerCubeModel" "words" "[I", Cond.methodLink RX1 7 yX1_right, Cond.static yX1_right, Cond.initialized RX1, Cond.code yX1_right cX1_right 2 (some (.array .int)), Cond.methodLink RX1 32 yX1_turnRow, Cond.static yX1_turnRow, Cond.code yX1_turnRow cX1_turnRow 3 (some (.array .int)), Cond.methodLink RX1 54 yX1_quarter, Cond.static yX1_quarter, Cond.code yX1_quarter cX1_quarter 4 (some (.array .int)), Cond.fieldLink RX1 48 "CornerCubeModel" "ROUND" "[[I", Cond.fieldLink RX1 51 "CornerCubeModel" "MORE" "[[I", Cond.methodLink RX1 57 yX1_then]
def wsX1_init_r2 : List Cond := [Cond.static yX1_then, Cond.code yX1_then cX1_then 2 (some (.array .int)), Cond.methodLink RX1 44 yX1_into, Cond.static yX1_into, Cond.code yX1_into cX1_into 5 (some (.array .int))]
def wsX1_init : List Cond := .code yX1_init cX1_init 2 none :: ((wsX1_init_r1 ++ wsX1_init_r2) ++ wsX10)
def wsX1_thrown : List Cond := .code yX1_thrown cX1_thrown 1 (some .int) :: ([.fieldLink RX1 36 "CornerCubeModel" "thrown" "I"] ++ wsX10)
def wsX1_no : List Cond := .code yX1_no cX1_no 2 (some .int) :: ([.fieldLink RX1 36 "CornerCubeModel" "thrown" "I"] ++ wsX10)
def wsX1_isIn : List Cond := .code yX1_isIn cX1_isIn 3 (some .boolean) :: ([])
def wsX1_isWord : List Cond := .code yX1_isWord cX1_isWord 1 (some .boolean) :: ([.methodLink RX1 40 yX1_isIn, .static yX1_isIn, .initialized RX1, .code yX1_isIn cX1_isIn 3 (some .boolean)])
def wsX1_back : List Cond := .code yX1_back cX1_back 3 (some (.array .int)) :: ([.arrayClass .int])
def wsX1_turned : List Cond := .code yX1_turned cX1_turned 3 (some (.array .int)) :: ([.fieldLink RX1 18 "CornerCubeModel" "rows" "[[I", .methodLink RX1 57 yX1_then, .static yX1_then, .initialized RX1, .code yX1_then cX1_then 2 (some (.array .int)), .arrayClass .int, .methodLink RX1 44 yX1_into, .static yX1_into, .code yX1_into cX1_into 5 (some (.array .int))] ++ wsX10)
def wsX1_rowOf : List Cond := .code yX1_rowOf cX1_rowOf 4 (some (.array .int)) :: ([.fieldLink RX1 26 "CornerCubeModel" "sizes" "[I", .fieldLink RX1 29 "CornerCubeModel" "words" "[I", .methodLink RX1 7 yX1_right, .static yX1_right, .initialized RX1, .code yX1_right cX1_right 2 (some (.array .int)), .arrayClass .int, .methodLink RX1 61 yX1_turned, .instanceMethod yX1_turned, .selects RX1 yX1_turned yX1_turned, .code yX1_turned cX1_turned 3 (some (.array .int)), .fieldLink RX1 18 "CornerCubeModel" "rows" "[[I", .methodLink RX1 57 yX1_then, .static yX1_then, .code yX1_then cX1_then 2 (some (.array .int)), .methodLink RX1 44 yX1_into, .static yX1_into, .code yX1_into cX1_into 5 (some (.array .int))] ++ wsX10)
def wsX1_isRight : List Cond := .code yX1_isRight cX1_isRight 2 (some .boolean) :: ([])
def wsX1_many : List Cond := .code yX1_many cX1_many 4 (some .int) :: ([])
def wsX1_divisor : List Cond := .code yX1_divisor cX1_divisor 2 (some .int) :: ([.methodLink RX1 65 yX1_divisor, .static yX1_divisor, .initialized RX1])
def wsX1_byCycles : List Cond := .code yX1_byCycles cX1_byCycles 10 (some .int) :: ([.methodLink RX1 69 Lib.Math.min.name, .static Lib.Math.min.name, .initialized "java/lang/Math", .code Lib.Math.min.name Lib.Math.min.code 2 (some .int), .methodLink RX1 65 yX1_divisor, .static yX1_divisor, .initialized RX1, .code yX1_divisor cX1_divisor 2 (some .int)])
def wsX1_comes : List Cond := .code yX1_comes cX1_comes 5 (some .boolean) :: ([.fieldLink RX1 18 "CornerCubeModel" "rows" "[[I", .fieldLink RX1 23 "CornerCubeModel" "tried" "[[I", .methodLink RX1 74 yX1_many, .static yX1_many, .initialized RX1, .code yX1_many cX1_many 4 (some .int), .methodLink RX1 44 yX1_into, .static yX1_into, .code yX1_into cX1_into 5 (some (.array .int)), .methodLink RX1 78 yX1_comes, .instanceMethod yX1_comes, .selects RX1 yX1_comes yX1_comes] ++ wsX10)
def wsX1_farOf : List Cond := .code yX1_farOf cX1_farOf 4 (some .int) :: ([.methodLink RX1 78 yX1_comes, .instanceMethod yX1_comes, .selects RX1 yX1_comes yX1_comes, .initialized RX1, .code yX1_comes cX1_comes 5 (some .boolean), .fieldLink RX1 18 "CornerCubeModel" "rows" "[[I", .fieldLink RX1 23 "CornerCubeModel" "tried" "[[I", .methodLink RX1 74 yX1_many, .static yX1_many, .code yX1_many cX1_many 4 (some .int), .methodLink RX1 44 yX1_into, .static yX1_into, .code yX1_into cX1_into 5 (some (.array .int))] ++ wsX10)
def wsX1_turn_r1 : List Cond := [Cond.fieldLink RX1 36 "CornerCubeModel" "thrown" "I", Cond.fieldLink RX1 13 "CornerCubeModel" "cube" "[I", Cond.fieldLink RX1 86 "CornerCubeModel" "made" "I", Cond.methodLink RX1 40 yX1_isIn, Cond.static yX1_isIn, Cond.initialized RX1, Cond.code yX1_isIn cX1_isIn 3 (some .boolean), Cond.methodLink RX1 82 yX1_no, Cond.instanceMethod yX1_no, Cond.selects RX1 yX1_no yX1_no, Cond.code yX1_no cX1_no 2 (some .int), Cond.methodLink RX1 61 yX1_turned, Cond.instanceMethod yX1_turned, Cond.selects RX1 yX1_turned yX1_turned, Cond.code yX1_turned cX1_turned 3 (some (.array .int)), Cond.fieldLink RX1 18 "CornerCubeModel" "rows" "[[I", Cond.methodLink RX1 57 yX1_then, Cond.static yX1_then, Cond.code yX1_then cX1_then 2 (some (.array .int)), Cond.arrayClass .int, Cond.methodLink RX1 44 yX1_into, Cond.static yX1_into, Cond.code yX1_into cX1_into 5 (some (.array .int)), Cond.methodLink RX1 74 yX1_many]
def wsX1_turn_r2 : List Cond := [Cond.static yX1_many, Cond.code yX1_many cX1_many 4 (some .int)]
def wsX1_turn : List Cond := .code yX1_turn cX1_turn 3 (some .int) :: ((wsX1_turn_r1 ++ wsX1_turn_r2) ++ wsX10)
def wsX1_play_r1 : List Cond := [Cond.fieldLink RX1 36 "CornerCubeModel" "thrown" "I", Cond.fieldLink RX1 26 "CornerCubeModel" "sizes" "[I", Cond.fieldLink RX1 13 "CornerCubeModel" "cube" "[I", Cond.fieldLink RX1 86 "CornerCubeModel" "made" "I", Cond.methodLink RX1 89 yX1_isWord, Cond.static yX1_isWord, Cond.initialized RX1, Cond.code yX1_isWord cX1_isWord 1 (some .boolean), Cond.methodLink RX1 40 yX1_isIn, Cond.static yX1_isIn, Cond.code yX1_isIn cX1_isIn 3 (some .boolean), Cond.methodLink RX1 82 yX1_no, Cond.instanceMethod yX1_no, Cond.selects RX1 yX1_no yX1_no, Cond.code yX1_no cX1_no 2 (some .int), Cond.methodLink RX1 93 yX1_rowOf, Cond.instanceMethod yX1_rowOf, Cond.selects RX1 yX1_rowOf yX1_rowOf, Cond.code yX1_rowOf cX1_rowOf 4 (some (.array .int)), Cond.fieldLink RX1 29 "CornerCubeModel" "words" "[I", Cond.methodLink RX1 7 yX1_right, Cond.static yX1_right, Cond.code yX1_right cX1_right 2 (some (.array .int)), Cond.arrayClass .int]
def wsX1_play_r2 : List Cond := [Cond.methodLink RX1 61 yX1_turned, Cond.instanceMethod yX1_turned, Cond.selects RX1 yX1_turned yX1_turned, Cond.code yX1_turned cX1_turned 3 (some (.array .int)), Cond.fieldLink RX1 18 "CornerCubeModel" "rows" "[[I", Cond.methodLink RX1 57 yX1_then, Cond.static yX1_then, Cond.code yX1_then cX1_then 2 (some (.array .int)), Cond.methodLink RX1 44 yX1_into, Cond.static yX1_into, Cond.code yX1_into cX1_into 5 (some (.array .int)), Cond.methodLink RX1 74 yX1_many, Cond.static yX1_many, Cond.code yX1_many cX1_many 4 (some .int)]
def wsX1_play : List Cond := .code yX1_play cX1_play 4 (some .int) :: ((wsX1_play_r1 ++ wsX1_play_r2) ++ wsX10)
def wsX1_reset : List Cond := .code yX1_reset cX1_reset 2 (some .int) :: ([.fieldLink RX1 36 "CornerCubeModel" "thrown" "I", .fieldLink RX1 13 "CornerCubeModel" "cube" "[I", .methodLink RX1 74 yX1_many, .static yX1_many, .initialized RX1, .code yX1_many cX1_many 4 (some .int), .methodLink RX1 7 yX1_right, .static yX1_right, .code yX1_right cX1_right 2 (some (.array .int)), .arrayClass .int] ++ wsX10)
def wsX1_put : List Cond := .code yX1_put cX1_put 3 none :: ([.fieldLink RX1 29 "CornerCubeModel" "words" "[I", .fieldLink RX1 26 "CornerCubeModel" "sizes" "[I"] ++ wsX10)
def wsX1_say : List Cond := .code yX1_say cX1_say 4 (some .int) :: ([.fieldLink RX1 36 "CornerCubeModel" "thrown" "I", .fieldLink RX1 26 "CornerCubeModel" "sizes" "[I", .methodLink RX1 89 yX1_isWord, .static yX1_isWord, .initialized RX1, .code yX1_isWord cX1_isWord 1 (some .boolean), .methodLink RX1 40 yX1_isIn, .static yX1_isIn, .code yX1_isIn cX1_isIn 3 (some .boolean), .methodLink RX1 82 yX1_no, .instanceMethod yX1_no, .selects RX1 yX1_no yX1_no, .code yX1_no cX1_no 2 (some .int), .methodLink RX1 96 yX1_put, .instanceMethod yX1_put, .selects RX1 yX1_put yX1_put, .code yX1_put cX1_put 3 none, .fieldLink RX1 29 "CornerCubeModel" "words" "[I"] ++ wsX10)
def wsX1_wipe : List Cond := .code yX1_wipe cX1_wipe 3 (some .int) :: ([.fieldLink RX1 36 "CornerCubeModel" "thrown" "I", .fieldLink RX1 26 "CornerCubeModel" "sizes" "[I", .methodLink RX1 89 yX1_isWord, .static yX1_isWord, .initialized RX1, .code yX1_isWord cX1_isWord 1 (some .boolean), .methodLink RX1 40 yX1_isIn, .static yX1_isIn, .code yX1_isIn cX1_isIn 3 (some .boolean), .methodLink RX1 82 yX1_no, .instanceMethod yX1_no, .selects RX1 yX1_no yX1_no, .code yX1_no cX1_no 2 (some .int)] ++ wsX10)
def wsX1_taken : List Cond := .code yX1_taken cX1_taken 3 (some (.array .int)) :: ([.fieldLink RX1 26 "CornerCubeModel" "sizes" "[I", .arrayClass .int, .fieldLink RX1 29 "CornerCubeModel" "words" "[I", .methodLink RX1 100 arraycopyName, .native arraycopyName, .static arraycopyName, .initialized "java/lang/System"] ++ wsX10)
def wsX1_round_r1 : List Cond := [Cond.fieldLink RX1 36 "CornerCubeModel" "thrown" "I", Cond.fieldLink RX1 26 "CornerCubeModel" "sizes" "[I", Cond.methodLink RX1 89 yX1_isWord, Cond.static yX1_isWord, Cond.initialized RX1, Cond.code yX1_isWord cX1_isWord 1 (some .boolean), Cond.methodLink RX1 40 yX1_isIn, Cond.static yX1_isIn, Cond.code yX1_isIn cX1_isIn 3 (some .boolean), Cond.methodLink RX1 82 yX1_no, Cond.instanceMethod yX1_no, Cond.selects RX1 yX1_no yX1_no, Cond.code yX1_no cX1_no 2 (some .int), Cond.methodLink RX1 106 yX1_taken, Cond.instanceMethod yX1_taken, Cond.selects RX1 yX1_taken yX1_taken, Cond.code yX1_taken cX1_taken 3 (some (.array .int)), Cond.arrayClass .int, Cond.fieldLink RX1 29 "CornerCubeModel" "words" "[I", Cond.methodLink RX1 100 arraycopyName, Cond.native arraycopyName, Cond.static arraycopyName, Cond.initialized "java/lang/System", Cond.methodLink RX1 96 yX1_put]
def wsX1_round_r2 : List Cond := [Cond.instanceMethod yX1_put, Cond.selects RX1 yX1_put yX1_put, Cond.code yX1_put cX1_put 3 none]
def wsX1_round : List Cond := .code yX1_round cX1_round 4 (some .int) :: ((wsX1_round_r1 ++ wsX1_round_r2) ++ wsX10)
def wsX1_join : List Cond := .code yX1_join cX1_join 5 (some .int) :: ([.fieldLink RX1 36 "CornerCubeModel" "thrown" "I", .fieldLink RX1 26 "CornerCubeModel" "sizes" "[I", .fieldLink RX1 29 "CornerCubeModel" "words" "[I", .methodLink RX1 89 yX1_isWord, .static yX1_isWord, .initialized RX1, .code yX1_isWord cX1_isWord 1 (some .boolean), .methodLink RX1 40 yX1_isIn, .static yX1_isIn, .code yX1_isIn cX1_isIn 3 (some .boolean), .methodLink RX1 82 yX1_no, .instanceMethod yX1_no, .selects RX1 yX1_no yX1_no, .code yX1_no cX1_no 2 (some .int), .methodLink RX1 96 yX1_put, .instanceMethod yX1_put, .selects RX1 yX1_put yX1_put, .code yX1_put cX1_put 3 none] ++ wsX10)
def wsX1_tidy_r1 : List Cond := [Cond.fieldLink RX1 36 "CornerCubeModel" "thrown" "I", Cond.fieldLink RX1 26 "CornerCubeModel" "sizes" "[I", Cond.fieldLink RX1 29 "CornerCubeModel" "words" "[I", Cond.methodLink RX1 89 yX1_isWord, Cond.static yX1_isWord, Cond.initialized RX1, Cond.code yX1_isWord cX1_isWord 1 (some .boolean), Cond.methodLink RX1 40 yX1_isIn, Cond.static yX1_isIn, Cond.code yX1_isIn cX1_isIn 3 (some .boolean), Cond.methodLink RX1 82 yX1_no, Cond.instanceMethod yX1_no, Cond.selects RX1 yX1_no yX1_no, Cond.code yX1_no cX1_no 2 (some .int), Cond.methodLink RX1 106 yX1_taken, Cond.instanceMethod yX1_taken, Cond.selects RX1 yX1_taken yX1_taken, Cond.code yX1_taken cX1_taken 3 (some (.array .int)), Cond.arrayClass .int, Cond.methodLink RX1 100 arraycopyName, Cond.native arraycopyName, Cond.static arraycopyName, Cond.initialized "java/lang/System", Cond.methodLink RX1 96 yX1_put]
def wsX1_tidy_r2 : List Cond := [Cond.instanceMethod yX1_put, Cond.selects RX1 yX1_put yX1_put, Cond.code yX1_put cX1_put 3 none]
def wsX1_tidy : List Cond := .code yX1_tidy cX1_tidy 8 (some .int) :: ((wsX1_tidy_r1 ++ wsX1_tidy_r2) ++ wsX10)
def wsX1_placeTold : List Cond := .code yX1_placeTold cX1_placeTold 3 (some .int) :: ([.fieldLink RX1 13 "CornerCubeModel" "cube" "[I", .methodLink RX1 109 yX1_isRight, .static yX1_isRight, .initialized RX1, .code yX1_isRight cX1_isRight 2 (some .boolean)] ++ wsX10)
def wsX1_told : List Cond := .code yX1_told cX1_told 3 (some .int) :: ([.fieldLink RX1 36 "CornerCubeModel" "thrown" "I", .methodLink RX1 40 yX1_isIn, .static yX1_isIn, .initialized RX1, .code yX1_isIn cX1_isIn 3 (some .boolean), .methodLink RX1 113 yX1_placeTold, .instanceMethod yX1_placeTold, .selects RX1 yX1_placeTold yX1_placeTold, .code yX1_placeTold cX1_placeTold 3 (some .int), .fieldLink RX1 13 "CornerCubeModel" "cube" "[I", .methodLink RX1 109 yX1_isRight, .static yX1_isRight, .code yX1_isRight cX1_isRight 2 (some .boolean), .methodLink RX1 82 yX1_no, .instanceMethod yX1_no, .selects RX1 yX1_no yX1_no, .code yX1_no cX1_no 2 (some .int)] ++ wsX10)
def wsX1_where : List Cond := .code yX1_where cX1_where 2 (some .int) :: ([.fieldLink RX1 36 "CornerCubeModel" "thrown" "I", .fieldLink RX1 13 "CornerCubeModel" "cube" "[I", .methodLink RX1 40 yX1_isIn, .static yX1_isIn, .initialized RX1, .code yX1_isIn cX1_isIn 3 (some .boolean), .methodLink RX1 116 yX1_back, .static yX1_back, .code yX1_back cX1_back 3 (some (.array .int)), .arrayClass .int, .methodLink RX1 82 yX1_no, .instanceMethod yX1_no, .selects RX1 yX1_no yX1_no, .code yX1_no cX1_no 2 (some .int)] ++ wsX10)
def wsX1_allTurns : List Cond := .code yX1_allTurns cX1_allTurns 6 (some .int) :: ([.fieldLink RX1 26 "CornerCubeModel" "sizes" "[I"] ++ wsX10)
def wsX1_counted : List Cond := .code yX1_counted cX1_counted 2 (some .int) :: ([.fieldLink RX1 86 "CornerCubeModel" "made" "I", .fieldLink RX1 13 "CornerCubeModel" "cube" "[I", .methodLink RX1 74 yX1_many, .static yX1_many, .initialized RX1, .code yX1_many cX1_many 4 (some .int), .methodLink RX1 120 yX1_byCycles, .static yX1_byCycles, .code yX1_byCycles cX1_byCycles 10 (some .int), .methodLink RX1 69 Lib.Math.min.name, .static Lib.Math.min.name, .initialized "java/lang/Math", .code Lib.Math.min.name Lib.Math.min.code 2 (some .int), .methodLink RX1 65 yX1_divisor, .static yX1_divisor, .code yX1_divisor cX1_divisor 2 (some .int), .methodLink RX1 124 yX1_allTurns, .instanceMethod yX1_allTurns, .selects RX1 yX1_allTurns yX1_allTurns, .code yX1_allTurns cX1_allTurns 6 (some .int), .fieldLink RX1 26 "CornerCubeModel" "sizes" "[I"] ++ wsX10)
def wsX1_count_r1 : List Cond := [Cond.fieldLink RX1 36 "CornerCubeModel" "thrown" "I", Cond.methodLink RX1 40 yX1_isIn, Cond.static yX1_isIn, Cond.initialized RX1, Cond.code yX1_isIn cX1_isIn 3 (some .boolean), Cond.methodLink RX1 128 yX1_counted, Cond.instanceMethod yX1_counted, Cond.selects RX1 yX1_counted yX1_counted, Cond.code yX1_counted cX1_counted 2 (some .int), Cond.fieldLink RX1 86 "CornerCubeModel" "made" "I", Cond.fieldLink RX1 13 "CornerCubeModel" "cube" "[I", Cond.methodLink RX1 74 yX1_many, Cond.static yX1_many, Cond.code yX1_many cX1_many 4 (some .int), Cond.methodLink RX1 120 yX1_byCycles, Cond.static yX1_byCycles, Cond.code yX1_byCycles cX1_byCycles 10 (some .int), Cond.methodLink RX1 69 Lib.Math.min.name, Cond.static Lib.Math.min.name, Cond.initialized "java/lang/Math", Cond.code Lib.Math.min.name Lib.Math.min.code 2 (some .int), Cond.methodLink RX1 65 yX1_divisor, Cond.static yX1_divisor, Cond.code yX1_divisor cX1_divisor 2 (some .int)]
def wsX1_count_r2 : List Cond := [Cond.methodLink RX1 124 yX1_allTurns, Cond.instanceMethod yX1_allTurns, Cond.selects RX1 yX1_allTurns yX1_allTurns, Cond.code yX1_allTurns cX1_allTurns 6 (some .int), Cond.fieldLink RX1 26 "CornerCubeModel" "sizes" "[I", Cond.methodLink RX1 82 yX1_no, Cond.instanceMethod yX1_no, Cond.selects RX1 yX1_no yX1_no, Cond.code yX1_no cX1_no 2 (some .int)]
def wsX1_count : List Cond := .code yX1_count cX1_count 2 (some .int) :: ((wsX1_count_r1 ++ wsX1_count_r2) ++ wsX10)
def wsX1_wordTold_r1 : List Cond := [Cond.fieldLink RX1 26 "CornerCubeModel" "sizes" "[I", Cond.methodLink RX1 93 yX1_rowOf, Cond.instanceMethod yX1_rowOf, Cond.selects RX1 yX1_rowOf yX1_rowOf, Cond.initialized RX1, Cond.code yX1_rowOf cX1_rowOf 4 (some (.array .int)), Cond.fieldLink RX1 29 "CornerCubeModel" "words" "[I", Cond.methodLink RX1 7 yX1_right, Cond.static yX1_right, Cond.code yX1_right cX1_right 2 (some (.array .int)), Cond.arrayClass .int, Cond.methodLink RX1 61 yX1_turned, Cond.instanceMethod yX1_turned, Cond.selects RX1 yX1_turned yX1_turned, Cond.code yX1_turned cX1_turned 3 (some (.array .int)), Cond.fieldLink RX1 18 "CornerCubeModel" "rows" "[[I", Cond.methodLink RX1 57 yX1_then, Cond.static yX1_then, Cond.code yX1_then cX1_then 2 (some (.array .int)), Cond.methodLink RX1 44 yX1_into, Cond.static yX1_into, Cond.code yX1_into cX1_into 5 (some (.array .int)), Cond.methodLink RX1 120 yX1_byCycles, Cond.static yX1_byCycles]
def wsX1_wordTold_r2 : List Cond := [Cond.code yX1_byCycles cX1_byCycles 10 (some .int), Cond.methodLink RX1 69 Lib.Math.min.name, Cond.static Lib.Math.min.name, Cond.initialized "java/lang/Math", Cond.code Lib.Math.min.name Lib.Math.min.code 2 (some .int), Cond.methodLink RX1 65 yX1_divisor, Cond.static yX1_divisor, Cond.code yX1_divisor cX1_divisor 2 (some .int), Cond.methodLink RX1 74 yX1_many, Cond.static yX1_many, Cond.code yX1_many cX1_many 4 (some .int)]
def wsX1_wordTold : List Cond := .code yX1_wordTold cX1_wordTold 4 (some .int) :: ((wsX1_wordTold_r1 ++ wsX1_wordTold_r2) ++ wsX10)
def wsX1_word_r1 : List Cond := [Cond.fieldLink RX1 36 "CornerCubeModel" "thrown" "I", Cond.methodLink RX1 89 yX1_isWord, Cond.static yX1_isWord, Cond.initialized RX1, Cond.code yX1_isWord cX1_isWord 1 (some .boolean), Cond.methodLink RX1 40 yX1_isIn, Cond.static yX1_isIn, Cond.code yX1_isIn cX1_isIn 3 (some .boolean), Cond.methodLink RX1 131 yX1_wordTold, Cond.instanceMethod yX1_wordTold, Cond.selects RX1 yX1_wordTold yX1_wordTold, Cond.code yX1_wordTold cX1_wordTold 4 (some .int), Cond.fieldLink RX1 26 "CornerCubeModel" "sizes" "[I", Cond.methodLink RX1 93 yX1_rowOf, Cond.instanceMethod yX1_rowOf, Cond.selects RX1 yX1_rowOf yX1_rowOf, Cond.code yX1_rowOf cX1_rowOf 4 (some (.array .int)), Cond.fieldLink RX1 29 "CornerCubeModel" "words" "[I", Cond.methodLink RX1 7 yX1_right, Cond.static yX1_right, Cond.code yX1_right cX1_right 2 (some (.array .int)), Cond.arrayClass .int, Cond.methodLink RX1 61 yX1_turned, Cond.instanceMethod yX1_turned]
def wsX1_word_r2 : List Cond := [Cond.selects RX1 yX1_turned yX1_turned, Cond.code yX1_turned cX1_turned 3 (some (.array .int)), Cond.fieldLink RX1 18 "CornerCubeModel" "rows" "[[I", Cond.methodLink RX1 57 yX1_then, Cond.static yX1_then, Cond.code yX1_then cX1_then 2 (some (.array .int)), Cond.methodLink RX1 44 yX1_into, Cond.static yX1_into, Cond.code yX1_into cX1_into 5 (some (.array .int)), Cond.methodLink RX1 120 yX1_byCycles, Cond.static yX1_byCycles, Cond.code yX1_byCycles cX1_byCycles 10 (some .int), Cond.methodLink RX1 69 Lib.Math.min.name, Cond.static Lib.Math.min.name, Cond.initialized "java/lang/Math", Cond.code Lib.Math.min.name Lib.Math.min.code 2 (some .int), Cond.methodLink RX1 65 yX1_divisor, Cond.static yX1_divisor, Cond.code yX1_divisor cX1_divisor 2 (some .int), Cond.methodLink RX1 74 yX1_many, Cond.static yX1_many, Cond.code yX1_many cX1_many 4 (some .int), Cond.methodLink RX1 82 yX1_no, Cond.instanceMethod yX1_no]
def wsX1_word_r3 : List Cond := [Cond.selects RX1 yX1_no yX1_no, Cond.code yX1_no cX1_no 2 (some .int)]
def wsX1_word : List Cond := .code yX1_word cX1_word 3 (some .int) :: ((wsX1_word_r1 ++ (wsX1_word_r2 ++ wsX1_word_r3)) ++ wsX10)
def wsX1_at : List Cond := .code yX1_at cX1_at 3 (some .int) :: ([.fieldLink RX1 36 "CornerCubeModel" "thrown" "I", .fieldLink RX1 26 "CornerCubeModel" "sizes" "[I", .fieldLink RX1 29 "CornerCubeModel" "words" "[I", .methodLink RX1 89 yX1_isWord, .static yX1_isWord, .initialized RX1, .code yX1_isWord cX1_isWord 1 (some .boolean), .methodLink RX1 40 yX1_isIn, .static yX1_isIn, .code yX1_isIn cX1_isIn 3 (some .boolean), .methodLink RX1 82 yX1_no, .instanceMethod yX1_no, .selects RX1 yX1_no yX1_no, .code yX1_no cX1_no 2 (some .int)] ++ wsX10)
def wsX1_same_r1 : List Cond := [Cond.fieldLink RX1 36 "CornerCubeModel" "thrown" "I", Cond.methodLink RX1 89 yX1_isWord, Cond.static yX1_isWord, Cond.initialized RX1, Cond.code yX1_isWord cX1_isWord 1 (some .boolean), Cond.methodLink RX1 40 yX1_isIn, Cond.static yX1_isIn, Cond.code yX1_isIn cX1_isIn 3 (some .boolean), Cond.methodLink RX1 82 yX1_no, Cond.instanceMethod yX1_no, Cond.selects RX1 yX1_no yX1_no, Cond.code yX1_no cX1_no 2 (some .int), Cond.methodLink RX1 93 yX1_rowOf, Cond.instanceMethod yX1_rowOf, Cond.selects RX1 yX1_rowOf yX1_rowOf, Cond.code yX1_rowOf cX1_rowOf 4 (some (.array .int)), Cond.fieldLink RX1 26 "CornerCubeModel" "sizes" "[I", Cond.fieldLink RX1 29 "CornerCubeModel" "words" "[I", Cond.methodLink RX1 7 yX1_right, Cond.static yX1_right, Cond.code yX1_right cX1_right 2 (some (.array .int)), Cond.arrayClass .int, Cond.methodLink RX1 61 yX1_turned, Cond.instanceMethod yX1_turned]
def wsX1_same_r2 : List Cond := [Cond.selects RX1 yX1_turned yX1_turned, Cond.code yX1_turned cX1_turned 3 (some (.array .int)), Cond.fieldLink RX1 18 "CornerCubeModel" "rows" "[[I", Cond.methodLink RX1 57 yX1_then, Cond.static yX1_then, Cond.code yX1_then cX1_then 2 (some (.array .int)), Cond.methodLink RX1 44 yX1_into, Cond.static yX1_into, Cond.code yX1_into cX1_into 5 (some (.array .int)), Cond.methodLink RX1 116 yX1_back, Cond.static yX1_back, Cond.code yX1_back cX1_back 3 (some (.array .int)), Cond.methodLink RX1 74 yX1_many, Cond.static yX1_many, Cond.code yX1_many cX1_many 4 (some .int)]
def wsX1_same : List Cond := .code yX1_same cX1_same 3 (some .boolean) :: ((wsX1_same_r1 ++ wsX1_same_r2) ++ wsX10)
def wsX1_mixed_r1 : List Cond := [Cond.fieldLink RX1 36 "CornerCubeModel" "thrown" "I", Cond.methodLink RX1 89 yX1_isWord, Cond.static yX1_isWord, Cond.initialized RX1, Cond.code yX1_isWord cX1_isWord 1 (some .boolean), Cond.methodLink RX1 40 yX1_isIn, Cond.static yX1_isIn, Cond.code yX1_isIn cX1_isIn 3 (some .boolean), Cond.methodLink RX1 82 yX1_no, Cond.instanceMethod yX1_no, Cond.selects RX1 yX1_no yX1_no, Cond.code yX1_no cX1_no 2 (some .int), Cond.methodLink RX1 93 yX1_rowOf, Cond.instanceMethod yX1_rowOf, Cond.selects RX1 yX1_rowOf yX1_rowOf, Cond.code yX1_rowOf cX1_rowOf 4 (some (.array .int)), Cond.fieldLink RX1 26 "CornerCubeModel" "sizes" "[I", Cond.fieldLink RX1 29 "CornerCubeModel" "words" "[I", Cond.methodLink RX1 7 yX1_right, Cond.static yX1_right, Cond.code yX1_right cX1_right 2 (some (.array .int)), Cond.arrayClass .int, Cond.methodLink RX1 61 yX1_turned, Cond.instanceMethod yX1_turned]
def wsX1_mixed_r2 : List Cond := [Cond.selects RX1 yX1_turned yX1_turned, Cond.code yX1_turned cX1_turned 3 (some (.array .int)), Cond.fieldLink RX1 18 "CornerCubeModel" "rows" "[[I", Cond.methodLink RX1 57 yX1_then, Cond.static yX1_then, Cond.code yX1_then cX1_then 2 (some (.array .int)), Cond.methodLink RX1 44 yX1_into, Cond.static yX1_into, Cond.code yX1_into cX1_into 5 (some (.array .int)), Cond.methodLink RX1 116 yX1_back, Cond.static yX1_back, Cond.code yX1_back cX1_back 3 (some (.array .int)), Cond.methodLink RX1 74 yX1_many, Cond.static yX1_many, Cond.code yX1_many cX1_many 4 (some .int)]
def wsX1_mixed : List Cond := .code yX1_mixed cX1_mixed 5 (some .int) :: ((wsX1_mixed_r1 ++ wsX1_mixed_r2) ++ wsX10)
def wsX1_would_r1 : List Cond := [Cond.fieldLink RX1 36 "CornerCubeModel" "thrown" "I", Cond.fieldLink RX1 13 "CornerCubeModel" "cube" "[I", Cond.methodLink RX1 40 yX1_isIn, Cond.static yX1_isIn, Cond.initialized RX1, Cond.code yX1_isIn cX1_isIn 3 (some .boolean), Cond.methodLink RX1 82 yX1_no, Cond.instanceMethod yX1_no, Cond.selects RX1 yX1_no yX1_no, Cond.code yX1_no cX1_no 2 (some .int), Cond.methodLink RX1 61 yX1_turned, Cond.instanceMethod yX1_turned, Cond.selects RX1 yX1_turned yX1_turned, Cond.code yX1_turned cX1_turned 3 (some (.array .int)), Cond.fieldLink RX1 18 "CornerCubeModel" "rows" "[[I", Cond.methodLink RX1 57 yX1_then, Cond.static yX1_then, Cond.code yX1_then cX1_then 2 (some (.array .int)), Cond.arrayClass .int, Cond.methodLink RX1 44 yX1_into, Cond.static yX1_into, Cond.code yX1_into cX1_into 5 (some (.array .int)), Cond.methodLink RX1 74 yX1_many, Cond.static yX1_many]
def wsX1_would_r2 : List Cond := [Cond.code yX1_many cX1_many 4 (some .int)]
def wsX1_would : List Cond := .code yX1_would cX1_would 3 (some .int) :: ((wsX1_would_r1 ++ wsX1_would_r2) ++ wsX10)
def wsX1_far_r1 : List Cond := [Cond.fieldLink RX1 36 "CornerCubeModel" "thrown" "I", Cond.fieldLink RX1 13 "CornerCubeModel" "cube" "[I", Cond.methodLink RX1 40 yX1_isIn, Cond.static yX1_isIn, Cond.initialized RX1, Cond.code yX1_isIn cX1_isIn 3 (some .boolean), Cond.methodLink RX1 134 yX1_farOf, Cond.instanceMethod yX1_farOf, Cond.selects RX1 yX1_farOf yX1_farOf, Cond.code yX1_farOf cX1_farOf 4 (some .int), Cond.methodLink RX1 78 yX1_comes, Cond.instanceMethod yX1_comes, Cond.selects RX1 yX1_comes yX1_comes, Cond.code yX1_comes cX1_comes 5 (some .boolean), Cond.fieldLink RX1 18 "CornerCubeModel" "rows" "[[I", Cond.fieldLink RX1 23 "CornerCubeModel" "tried" "[[I", Cond.methodLink RX1 74 yX1_many, Cond.static yX1_many, Cond.code yX1_many cX1_many 4 (some .int), Cond.methodLink RX1 44 yX1_into, Cond.static yX1_into, Cond.code yX1_into cX1_into 5 (some (.array .int)), Cond.methodLink RX1 82 yX1_no, Cond.instanceMethod yX1_no]
def wsX1_far_r2 : List Cond := [Cond.selects RX1 yX1_no yX1_no, Cond.code yX1_no cX1_no 2 (some .int)]
def wsX1_far : List Cond := .code yX1_far cX1_far 2 (some .int) :: ((wsX1_far_r1 ++ wsX1_far_r2) ++ wsX10)
def wsX1_first_r1 : List Cond := [Cond.fieldLink RX1 36 "CornerCubeModel" "thrown" "I", Cond.fieldLink RX1 13 "CornerCubeModel" "cube" "[I", Cond.methodLink RX1 40 yX1_isIn, Cond.static yX1_isIn, Cond.initialized RX1, Cond.code yX1_isIn cX1_isIn 3 (some .boolean), Cond.methodLink RX1 82 yX1_no, Cond.instanceMethod yX1_no, Cond.selects RX1 yX1_no yX1_no, Cond.code yX1_no cX1_no 2 (some .int), Cond.methodLink RX1 134 yX1_farOf, Cond.instanceMethod yX1_farOf, Cond.selects RX1 yX1_farOf yX1_farOf, Cond.code yX1_farOf cX1_farOf 4 (some .int), Cond.methodLink RX1 78 yX1_comes, Cond.instanceMethod yX1_comes, Cond.selects RX1 yX1_comes yX1_comes, Cond.code yX1_comes cX1_comes 5 (some .boolean), Cond.fieldLink RX1 18 "CornerCubeModel" "rows" "[[I", Cond.fieldLink RX1 23 "CornerCubeModel" "tried" "[[I", Cond.methodLink RX1 74 yX1_many, Cond.static yX1_many, Cond.code yX1_many cX1_many 4 (some .int), Cond.methodLink RX1 44 yX1_into]
def wsX1_first_r2 : List Cond := [Cond.static yX1_into, Cond.code yX1_into cX1_into 5 (some (.array .int)), Cond.methodLink RX1 61 yX1_turned, Cond.instanceMethod yX1_turned, Cond.selects RX1 yX1_turned yX1_turned, Cond.code yX1_turned cX1_turned 3 (some (.array .int)), Cond.methodLink RX1 57 yX1_then, Cond.static yX1_then, Cond.code yX1_then cX1_then 2 (some (.array .int)), Cond.arrayClass .int]
def wsX1_first : List Cond := .code yX1_first cX1_first 4 (some .int) :: ((wsX1_first_r1 ++ wsX1_first_r2) ++ wsX10)
def wsX1_shortest_r1 : List Cond := [Cond.fieldLink RX1 36 "CornerCubeModel" "thrown" "I", Cond.methodLink RX1 89 yX1_isWord, Cond.static yX1_isWord, Cond.initialized RX1, Cond.code yX1_isWord cX1_isWord 1 (some .boolean), Cond.methodLink RX1 40 yX1_isIn, Cond.static yX1_isIn, Cond.code yX1_isIn cX1_isIn 3 (some .boolean), Cond.methodLink RX1 82 yX1_no, Cond.instanceMethod yX1_no, Cond.selects RX1 yX1_no yX1_no, Cond.code yX1_no cX1_no 2 (some .int), Cond.methodLink RX1 93 yX1_rowOf, Cond.instanceMethod yX1_rowOf, Cond.selects RX1 yX1_rowOf yX1_rowOf, Cond.code yX1_rowOf cX1_rowOf 4 (some (.array .int)), Cond.fieldLink RX1 26 "CornerCubeModel" "sizes" "[I", Cond.fieldLink RX1 29 "CornerCubeModel" "words" "[I", Cond.methodLink RX1 7 yX1_right, Cond.static yX1_right, Cond.code yX1_right cX1_right 2 (some (.array .int)), Cond.arrayClass .int, Cond.methodLink RX1 61 yX1_turned, Cond.instanceMethod yX1_turned]
def wsX1_shortest_r2 : List Cond := [Cond.selects RX1 yX1_turned yX1_turned, Cond.code yX1_turned cX1_turned 3 (some (.array .int)), Cond.fieldLink RX1 18 "CornerCubeModel" "rows" "[[I", Cond.methodLink RX1 57 yX1_then, Cond.static yX1_then, Cond.code yX1_then cX1_then 2 (some (.array .int)), Cond.methodLink RX1 44 yX1_into, Cond.static yX1_into, Cond.code yX1_into cX1_into 5 (some (.array .int)), Cond.methodLink RX1 134 yX1_farOf, Cond.instanceMethod yX1_farOf, Cond.selects RX1 yX1_farOf yX1_farOf, Cond.code yX1_farOf cX1_farOf 4 (some .int), Cond.methodLink RX1 78 yX1_comes, Cond.instanceMethod yX1_comes, Cond.selects RX1 yX1_comes yX1_comes, Cond.code yX1_comes cX1_comes 5 (some .boolean), Cond.fieldLink RX1 23 "CornerCubeModel" "tried" "[[I", Cond.methodLink RX1 74 yX1_many, Cond.static yX1_many, Cond.code yX1_many cX1_many 4 (some .int)]
def wsX1_shortest : List Cond := .code yX1_shortest cX1_shortest 3 (some .int) :: ((wsX1_shortest_r1 ++ wsX1_shortest_r2) ++ wsX10)
def wsX1_advise : List Cond := .code yX1_advise cX1_advise 3 (some .int) :: ([.fieldLink RX1 36 "CornerCubeModel" "thrown" "I", .fieldLink RX1 13 "CornerCubeModel" "cube" "[I", .methodLink RX1 61 yX1_turned, .instanceMethod yX1_turned, .selects RX1 yX1_turned yX1_turned, .initialized RX1, .code yX1_turned cX1_turned 3 (some (.array .int)), .fieldLink RX1 18 "CornerCubeModel" "rows" "[[I", .methodLink RX1 57 yX1_then, .static yX1_then, .code yX1_then cX1_then 2 (some (.array .int)), .arrayClass .int, .methodLink RX1 44 yX1_into, .static yX1_into, .code yX1_into cX1_into 5 (some (.array .int)), .methodLink RX1 74 yX1_many, .static yX1_many, .code yX1_many cX1_many 4 (some .int)] ++ wsX10)
def wsX1_mean : List Cond := .code yX1_mean cX1_mean 1 (some .double) :: ([.fieldLink RX1 36 "CornerCubeModel" "thrown" "I", .constantDouble RX1 137 (4617315517961601024), .methodLink RX1 124 yX1_allTurns, .instanceMethod yX1_allTurns, .selects RX1 yX1_allTurns yX1_allTurns, .initialized RX1, .code yX1_allTurns cX1_allTurns 6 (some .int), .fieldLink RX1 26 "CornerCubeModel" "sizes" "[I"] ++ wsX10)
def wsX1_digest_r1 : List Cond := [Cond.fieldLink RX1 36 "CornerCubeModel" "thrown" "I", Cond.constantLong RX1 139 (1787), Cond.constantLong RX1 141 (31), Cond.fieldLink RX1 26 "CornerCubeModel" "sizes" "[I", Cond.fieldLink RX1 29 "CornerCubeModel" "words" "[I", Cond.methodLink RX1 128 yX1_counted, Cond.instanceMethod yX1_counted, Cond.selects RX1 yX1_counted yX1_counted, Cond.initialized RX1, Cond.code yX1_counted cX1_counted 2 (some .int), Cond.fieldLink RX1 86 "CornerCubeModel" "made" "I", Cond.fieldLink RX1 13 "CornerCubeModel" "cube" "[I", Cond.methodLink RX1 74 yX1_many, Cond.static yX1_many, Cond.code yX1_many cX1_many 4 (some .int), Cond.methodLink RX1 120 yX1_byCycles, Cond.static yX1_byCycles, Cond.code yX1_byCycles cX1_byCycles 10 (some .int), Cond.methodLink RX1 69 Lib.Math.min.name, Cond.static Lib.Math.min.name, Cond.initialized "java/lang/Math", Cond.code Lib.Math.min.name Lib.Math.min.code 2 (some .int), Cond.methodLink RX1 65 yX1_divisor, Cond.static yX1_divisor]
def wsX1_digest_r2 : List Cond := [Cond.code yX1_divisor cX1_divisor 2 (some .int), Cond.methodLink RX1 124 yX1_allTurns, Cond.instanceMethod yX1_allTurns, Cond.selects RX1 yX1_allTurns yX1_allTurns, Cond.code yX1_allTurns cX1_allTurns 6 (some .int), Cond.methodLink RX1 113 yX1_placeTold, Cond.instanceMethod yX1_placeTold, Cond.selects RX1 yX1_placeTold yX1_placeTold, Cond.code yX1_placeTold cX1_placeTold 3 (some .int), Cond.methodLink RX1 109 yX1_isRight, Cond.static yX1_isRight, Cond.code yX1_isRight cX1_isRight 2 (some .boolean), Cond.methodLink RX1 131 yX1_wordTold, Cond.instanceMethod yX1_wordTold, Cond.selects RX1 yX1_wordTold yX1_wordTold, Cond.code yX1_wordTold cX1_wordTold 4 (some .int), Cond.methodLink RX1 93 yX1_rowOf, Cond.instanceMethod yX1_rowOf, Cond.selects RX1 yX1_rowOf yX1_rowOf, Cond.code yX1_rowOf cX1_rowOf 4 (some (.array .int)), Cond.methodLink RX1 7 yX1_right, Cond.static yX1_right, Cond.code yX1_right cX1_right 2 (some (.array .int)), Cond.arrayClass .int]
def wsX1_digest_r3 : List Cond := [Cond.methodLink RX1 61 yX1_turned, Cond.instanceMethod yX1_turned, Cond.selects RX1 yX1_turned yX1_turned, Cond.code yX1_turned cX1_turned 3 (some (.array .int)), Cond.fieldLink RX1 18 "CornerCubeModel" "rows" "[[I", Cond.methodLink RX1 57 yX1_then, Cond.static yX1_then, Cond.code yX1_then cX1_then 2 (some (.array .int)), Cond.methodLink RX1 44 yX1_into, Cond.static yX1_into, Cond.code yX1_into cX1_into 5 (some (.array .int))]
def wsX1_digest : List Cond := .code yX1_digest cX1_digest 5 (some .long) :: ((wsX1_digest_r1 ++ (wsX1_digest_r2 ++ wsX1_digest_r3)) ++ wsX10)
def wsJ9_min_7cf53 : List Cond := .code yJ9_min_7cf53 cJ9_min_7cf53 2 (some .int) :: ([])
def wsL_turn_r1 : List Cond := [Cond.classLink RL 13 "java/lang/IndexOutOfBoundsException", Cond.classLink RL 15 "java/lang/IllegalArgumentException", Cond.methodLink RL 7 yX0_turn, Cond.instanceMethod yX0_turn, Cond.selects RX0 yX0_turn yX0_turn, Cond.initialized RX0, Cond.code yX0_turn cX0_turn 3 (some .int), Cond.fieldLink RX0 11 "CornerCube" "cube" "J", Cond.fieldLink RX0 15 "CornerCube" "turnsMade" "I", Cond.methodLink RX0 28 yX0_checkFace, Cond.static yX0_checkFace, Cond.code yX0_checkFace cX0_checkFace 1 none, Cond.classLink RX0 98 "java/lang/IndexOutOfBoundsException", Cond.initialized "java/lang/IndexOutOfBoundsException", Cond.methodLink RX0 32 yX0_checkQuarters, Cond.static yX0_checkQuarters, Cond.code yX0_checkQuarters cX0_checkQuarters 1 none, Cond.classLink RX0 50 "java/lang/IllegalArgumentException", Cond.initialized "java/lang/IllegalArgumentException", Cond.methodLink RX0 35 yX0_turnNumber, Cond.static yX0_turnNumber, Cond.code yX0_turnNumber cX0_turnNumber 2 (some .int), Cond.methodLink RX0 39 yX0_turned, Cond.static yX0_turned]
def wsL_turn_r2 : List Cond := [Cond.code yX0_turned cX0_turned 6 (some .long), Cond.methodLink RX0 171 yX0_quartersOf, Cond.static yX0_quartersOf, Cond.code yX0_quartersOf cX0_quartersOf 1 (some .int), Cond.methodLink RX0 134 yX0_faceOf, Cond.static yX0_faceOf, Cond.code yX0_faceOf cX0_faceOf 1 (some .int), Cond.methodLink RX0 182 yX0_quarterTurned, Cond.static yX0_quarterTurned, Cond.code yX0_quarterTurned cX0_quarterTurned 3 (some .long), Cond.methodLink RX0 185 yX0_gone, Cond.static yX0_gone, Cond.code yX0_gone cX0_gone 9 (some .long), Cond.methodLink RX0 189 yX0_hexDigit, Cond.static yX0_hexDigit, Cond.code yX0_hexDigit cX0_hexDigit 2 (some .int), Cond.methodLink RX0 87 yX0_cornerAt, Cond.static yX0_cornerAt, Cond.code yX0_cornerAt cX0_cornerAt 3 (some .int), Cond.methodLink RX0 91 yX0_twistAt, Cond.static yX0_twistAt, Cond.code yX0_twistAt cX0_twistAt 3 (some .int), Cond.methodLink RX0 192 yX0_withCorner, Cond.static yX0_withCorner]
def wsL_turn_r3 : List Cond := [Cond.code yX0_withCorner cX0_withCorner 9 (some .long), Cond.constantLong RX0 178 (255), Cond.constantLong RX0 180 (-1), Cond.methodLink RX0 43 yX0_rightCorners, Cond.static yX0_rightCorners, Cond.code yX0_rightCorners cX0_rightCorners 4 (some .int), Cond.methodLink RX0 94 yX0_isRight, Cond.static yX0_isRight, Cond.code yX0_isRight cX0_isRight 3 (some .boolean)]
def wsL_turn : List Cond := .codeWith yL_turn cL_turn 5 (some .int) [(0, 10, 13, 13), (0, 10, 17, 15)] :: ((wsL_turn_r1 ++ (wsL_turn_r2 ++ wsL_turn_r3)) ++ wsX00 ++ (vx_atS RX0 102 "java/lang/IndexOutOfBoundsException" ["java/lang/RuntimeException", "java/lang/Exception"]).filter goodWord ++ (vx_atS RX0 54 "java/lang/IllegalArgumentException" ["java/lang/RuntimeException", "java/lang/Exception"]).filter goodWord)
def wsL_play_r1 : List Cond := [Cond.classLink RL 13 "java/lang/IndexOutOfBoundsException", Cond.classLink RL 15 "java/lang/IllegalArgumentException", Cond.classLink RL 20 "java/lang/IllegalStateException", Cond.methodLink RL 17 yX0_play, Cond.instanceMethod yX0_play, Cond.selects RX0 yX0_play yX0_play, Cond.initialized RX0, Cond.code yX0_play cX0_play 4 (some .int), Cond.classLink RX0 50 "java/lang/IllegalArgumentException", Cond.initialized "java/lang/IllegalArgumentException", Cond.classLink RX0 57 "java/lang/IllegalStateException", Cond.initialized "java/lang/IllegalStateException", Cond.fieldLink RX0 24 "CornerCube" "lengths" "[I", Cond.fieldLink RX0 11 "CornerCube" "cube" "J", Cond.fieldLink RX0 15 "CornerCube" "turnsMade" "I", Cond.methodLink RX0 47 yX0_checkWord, Cond.static yX0_checkWord, Cond.code yX0_checkWord cX0_checkWord 1 none, Cond.classLink RX0 98 "java/lang/IndexOutOfBoundsException", Cond.initialized "java/lang/IndexOutOfBoundsException", Cond.methodLink RX0 62 yX0_behindWord, Cond.instanceMethod yX0_behindWord, Cond.selects RX0 yX0_behindWord yX0_behindWord, Cond.code yX0_behindWord cX0_behindWord 7 (some .long)]
def wsL_play_r2 : List Cond := [Cond.fieldLink RX0 21 "CornerCube" "turnsOf" "[[I", Cond.methodLink RX0 39 yX0_turned, Cond.static yX0_turned, Cond.code yX0_turned cX0_turned 6 (some .long), Cond.methodLink RX0 171 yX0_quartersOf, Cond.static yX0_quartersOf, Cond.code yX0_quartersOf cX0_quartersOf 1 (some .int), Cond.methodLink RX0 134 yX0_faceOf, Cond.static yX0_faceOf, Cond.code yX0_faceOf cX0_faceOf 1 (some .int), Cond.methodLink RX0 182 yX0_quarterTurned, Cond.static yX0_quarterTurned, Cond.code yX0_quarterTurned cX0_quarterTurned 3 (some .long), Cond.methodLink RX0 185 yX0_gone, Cond.static yX0_gone, Cond.code yX0_gone cX0_gone 9 (some .long), Cond.methodLink RX0 189 yX0_hexDigit, Cond.static yX0_hexDigit, Cond.code yX0_hexDigit cX0_hexDigit 2 (some .int), Cond.methodLink RX0 87 yX0_cornerAt, Cond.static yX0_cornerAt, Cond.code yX0_cornerAt cX0_cornerAt 3 (some .int), Cond.methodLink RX0 91 yX0_twistAt, Cond.static yX0_twistAt]
def wsL_play_r3 : List Cond := [Cond.code yX0_twistAt cX0_twistAt 3 (some .int), Cond.methodLink RX0 192 yX0_withCorner, Cond.static yX0_withCorner, Cond.code yX0_withCorner cX0_withCorner 9 (some .long), Cond.constantLong RX0 178 (255), Cond.constantLong RX0 180 (-1), Cond.methodLink RX0 43 yX0_rightCorners, Cond.static yX0_rightCorners, Cond.code yX0_rightCorners cX0_rightCorners 4 (some .int), Cond.methodLink RX0 94 yX0_isRight, Cond.static yX0_isRight, Cond.code yX0_isRight cX0_isRight 3 (some .boolean)]
def wsL_play : List Cond := .codeWith yL_play cL_play 5 (some .int) [(0, 10, 13, 13), (0, 10, 17, 15), (0, 10, 21, 20)] :: ((wsL_play_r1 ++ (wsL_play_r2 ++ wsL_play_r3)) ++ wsX00 ++ (vx_atS RX0 54 "java/lang/IllegalArgumentException" ["java/lang/RuntimeException", "java/lang/Exception"]).filter goodWord ++ (vx_atS RX0 61 "java/lang/IllegalStateException" ["java/lang/RuntimeException", "java/lang/Exception"]).filter goodWord ++ (vx_atS RX0 102 "java/lang/IndexOutOfBoundsException" ["java/lang/RuntimeException", "java/lang/Exception"]).filter goodWord)
def wsL_say_r1 : List Cond := [Cond.classLink RL 13 "java/lang/IndexOutOfBoundsException", Cond.classLink RL 15 "java/lang/IllegalArgumentException", Cond.classLink RL 20 "java/lang/IllegalStateException", Cond.methodLink RL 22 yX0_say, Cond.instanceMethod yX0_say, Cond.selects RX0 yX0_say yX0_say, Cond.initialized RX0, Cond.code yX0_say cX0_say 4 (some .int), Cond.classLink RX0 57 "java/lang/IllegalStateException", Cond.initialized "java/lang/IllegalStateException", Cond.fieldLink RX0 24 "CornerCube" "lengths" "[I", Cond.fieldLink RX0 21 "CornerCube" "turnsOf" "[[I", Cond.methodLink RX0 47 yX0_checkWord, Cond.static yX0_checkWord, Cond.code yX0_checkWord cX0_checkWord 1 none, Cond.classLink RX0 98 "java/lang/IndexOutOfBoundsException", Cond.initialized "java/lang/IndexOutOfBoundsException", Cond.methodLink RX0 28 yX0_checkFace, Cond.static yX0_checkFace, Cond.code yX0_checkFace cX0_checkFace 1 none, Cond.methodLink RX0 32 yX0_checkQuarters, Cond.static yX0_checkQuarters, Cond.code yX0_checkQuarters cX0_checkQuarters 1 none, Cond.classLink RX0 50 "java/lang/IllegalArgumentException"]
def wsL_say_r2 : List Cond := [Cond.initialized "java/lang/IllegalArgumentException", Cond.methodLink RX0 35 yX0_turnNumber, Cond.static yX0_turnNumber, Cond.code yX0_turnNumber cX0_turnNumber 2 (some .int)]
def wsL_say : List Cond := .codeWith yL_say cL_say 6 (some .int) [(0, 12, 15, 13), (0, 12, 19, 15), (0, 12, 23, 20)] :: ((wsL_say_r1 ++ wsL_say_r2) ++ wsX00 ++ (vx_atS RX0 61 "java/lang/IllegalStateException" ["java/lang/RuntimeException", "java/lang/Exception"]).filter goodWord ++ (vx_atS RX0 102 "java/lang/IndexOutOfBoundsException" ["java/lang/RuntimeException", "java/lang/Exception"]).filter goodWord ++ (vx_atS RX0 54 "java/lang/IllegalArgumentException" ["java/lang/RuntimeException", "java/lang/Exception"]).filter goodWord)
def wsL_wipe : List Cond := .codeWith yL_wipe cL_wipe 4 (some .int) [(0, 9, 12, 13)] :: ([.classLink RL 13 "java/lang/IndexOutOfBoundsException", .methodLink RL 26 yX0_wipe, .instanceMethod yX0_wipe, .selects RX0 yX0_wipe yX0_wipe, .initialized RX0, .code yX0_wipe cX0_wipe 3 (some .int), .fieldLink RX0 24 "CornerCube" "lengths" "[I", .methodLink RX0 47 yX0_checkWord, .static yX0_checkWord, .code yX0_checkWord cX0_checkWord 1 none, .classLink RX0 98 "java/lang/IndexOutOfBoundsException", .initialized "java/lang/IndexOutOfBoundsException"] ++ wsX00 ++ (vx_atS RX0 102 "java/lang/IndexOutOfBoundsException" ["java/lang/RuntimeException", "java/lang/Exception"]).filter goodWord)
def wsL_round_r1 : List Cond := [Cond.classLink RL 13 "java/lang/IndexOutOfBoundsException", Cond.methodLink RL 30 yX0_round, Cond.instanceMethod yX0_round, Cond.selects RX0 yX0_round yX0_round, Cond.initialized RX0, Cond.code yX0_round cX0_round 6 (some .int), Cond.fieldLink RX0 21 "CornerCube" "turnsOf" "[[I", Cond.fieldLink RX0 24 "CornerCube" "lengths" "[I", Cond.methodLink RX0 47 yX0_checkWord, Cond.static yX0_checkWord, Cond.code yX0_checkWord cX0_checkWord 1 none, Cond.classLink RX0 98 "java/lang/IndexOutOfBoundsException", Cond.initialized "java/lang/IndexOutOfBoundsException", Cond.methodLink RX0 70 yX0_turnedBack, Cond.static yX0_turnedBack, Cond.code yX0_turnedBack cX0_turnedBack 1 (some .int), Cond.methodLink RX0 134 yX0_faceOf, Cond.static yX0_faceOf, Cond.code yX0_faceOf cX0_faceOf 1 (some .int), Cond.methodLink RX0 171 yX0_quartersOf, Cond.static yX0_quartersOf, Cond.code yX0_quartersOf cX0_quartersOf 1 (some .int), Cond.methodLink RX0 35 yX0_turnNumber, Cond.static yX0_turnNumber]
def wsL_round_r2 : List Cond := [Cond.code yX0_turnNumber cX0_turnNumber 2 (some .int)]
def wsL_round : List Cond := .codeWith yL_round cL_round 4 (some .int) [(0, 9, 12, 13)] :: ((wsL_round_r1 ++ wsL_round_r2) ++ wsX00 ++ (vx_atS RX0 102 "java/lang/IndexOutOfBoundsException" ["java/lang/RuntimeException", "java/lang/Exception"]).filter goodWord)
def wsL_join : List Cond := .codeWith yL_join cL_join 5 (some .int) [(0, 10, 13, 13), (0, 10, 17, 20)] :: ([.classLink RL 13 "java/lang/IndexOutOfBoundsException", .classLink RL 20 "java/lang/IllegalStateException", .methodLink RL 33 yX0_join, .instanceMethod yX0_join, .selects RX0 yX0_join yX0_join, .initialized RX0, .code yX0_join cX0_join 5 (some .int), .classLink RX0 57 "java/lang/IllegalStateException", .initialized "java/lang/IllegalStateException", .fieldLink RX0 24 "CornerCube" "lengths" "[I", .fieldLink RX0 21 "CornerCube" "turnsOf" "[[I", .methodLink RX0 47 yX0_checkWord, .static yX0_checkWord, .code yX0_checkWord cX0_checkWord 1 none, .classLink RX0 98 "java/lang/IndexOutOfBoundsException", .initialized "java/lang/IndexOutOfBoundsException"] ++ wsX00 ++ (vx_atS RX0 61 "java/lang/IllegalStateException" ["java/lang/RuntimeException", "java/lang/Exception"]).filter goodWord ++ (vx_atS RX0 102 "java/lang/IndexOutOfBoundsException" ["java/lang/RuntimeException", "java/lang/Exception"]).filter goodWord)
def wsL_tidy_r1 : List Cond := [Cond.classLink RL 13 "java/lang/IndexOutOfBoundsException", Cond.methodLink RL 36 yX0_tidy, Cond.instanceMethod yX0_tidy, Cond.selects RX0 yX0_tidy yX0_tidy, Cond.initialized RX0, Cond.code yX0_tidy cX0_tidy 4 (some .int), Cond.fieldLink RX0 24 "CornerCube" "lengths" "[I", Cond.fieldLink RX0 21 "CornerCube" "turnsOf" "[[I", Cond.methodLink RX0 47 yX0_checkWord, Cond.static yX0_checkWord, Cond.code yX0_checkWord cX0_checkWord 1 none, Cond.classLink RX0 98 "java/lang/IndexOutOfBoundsException", Cond.initialized "java/lang/IndexOutOfBoundsException", Cond.methodLink RX0 76 yX0_keep, Cond.static yX0_keep, Cond.code yX0_keep cX0_keep 4 (some .int), Cond.methodLink RX0 134 yX0_faceOf, Cond.static yX0_faceOf, Cond.code yX0_faceOf cX0_faceOf 1 (some .int), Cond.methodLink RX0 171 yX0_quartersOf, Cond.static yX0_quartersOf, Cond.code yX0_quartersOf cX0_quartersOf 1 (some .int), Cond.methodLink RX0 35 yX0_turnNumber, Cond.static yX0_turnNumber]
def wsL_tidy_r2 : List Cond := [Cond.code yX0_turnNumber cX0_turnNumber 2 (some .int)]
def wsL_tidy : List Cond := .codeWith yL_tidy cL_tidy 4 (some .int) [(0, 9, 12, 13)] :: ((wsL_tidy_r1 ++ wsL_tidy_r2) ++ wsX00 ++ (vx_atS RX0 102 "java/lang/IndexOutOfBoundsException" ["java/lang/RuntimeException", "java/lang/Exception"]).filter goodWord)
def wsL_told : List Cond := .codeWith yL_told cL_told 5 (some .int) [(0, 10, 13, 13)] :: ([.classLink RL 13 "java/lang/IndexOutOfBoundsException", .methodLink RL 39 yX0_told, .instanceMethod yX0_told, .selects RX0 yX0_told yX0_told, .initialized RX0, .code yX0_told cX0_told 3 (some .int), .fieldLink RX0 11 "CornerCube" "cube" "J", .methodLink RX0 80 yX0_checkPlace, .static yX0_checkPlace, .code yX0_checkPlace cX0_checkPlace 1 none, .classLink RX0 98 "java/lang/IndexOutOfBoundsException", .initialized "java/lang/IndexOutOfBoundsException", .methodLink RX0 83 yX0_checkWhat, .static yX0_checkWhat, .code yX0_checkWhat cX0_checkWhat 2 none, .methodLink RX0 87 yX0_cornerAt, .static yX0_cornerAt, .code yX0_cornerAt cX0_cornerAt 3 (some .int), .methodLink RX0 91 yX0_twistAt, .static yX0_twistAt, .code yX0_twistAt cX0_twistAt 3 (some .int), .methodLink RX0 94 yX0_isRight, .static yX0_isRight, .code yX0_isRight cX0_isRight 3 (some .boolean)] ++ wsX00 ++ (vx_atS RX0 102 "java/lang/IndexOutOfBoundsException" ["java/lang/RuntimeException", "java/lang/Exception"]).filter goodWord)
def wsL_where : List Cond := .codeWith yL_where cL_where 4 (some .int) [(0, 9, 12, 13)] :: ([.classLink RL 13 "java/lang/IndexOutOfBoundsException", .methodLink RL 42 yX0_where, .instanceMethod yX0_where, .selects RX0 yX0_where yX0_where, .initialized RX0, .code yX0_where cX0_where 3 (some .int), .classLink RX0 98 "java/lang/IndexOutOfBoundsException", .initialized "java/lang/IndexOutOfBoundsException", .fieldLink RX0 11 "CornerCube" "cube" "J", .methodLink RX0 87 yX0_cornerAt, .static yX0_cornerAt, .code yX0_cornerAt cX0_cornerAt 3 (some .int)] ++ wsX00 ++ (vx_atS RX0 102 "java/lang/IndexOutOfBoundsException" ["java/lang/RuntimeException", "java/lang/Exception"]).filter goodWord)
def wsL_count_r1 : List Cond := [Cond.classLink RL 13 "java/lang/IndexOutOfBoundsException", Cond.methodLink RL 45 yX0_count, Cond.instanceMethod yX0_count, Cond.selects RX0 yX0_count yX0_count, Cond.initialized RX0, Cond.code yX0_count cX0_count 2 (some .int), Cond.fieldLink RX0 15 "CornerCube" "turnsMade" "I", Cond.fieldLink RX0 11 "CornerCube" "cube" "J", Cond.methodLink RX0 83 yX0_checkWhat, Cond.static yX0_checkWhat, Cond.code yX0_checkWhat cX0_checkWhat 2 none, Cond.classLink RX0 98 "java/lang/IndexOutOfBoundsException", Cond.initialized "java/lang/IndexOutOfBoundsException", Cond.methodLink RX0 43 yX0_rightCorners, Cond.static yX0_rightCorners, Cond.code yX0_rightCorners cX0_rightCorners 4 (some .int), Cond.methodLink RX0 94 yX0_isRight, Cond.static yX0_isRight, Cond.code yX0_isRight cX0_isRight 3 (some .boolean), Cond.methodLink RX0 87 yX0_cornerAt, Cond.static yX0_cornerAt, Cond.code yX0_cornerAt cX0_cornerAt 3 (some .int), Cond.methodLink RX0 91 yX0_twistAt, Cond.static yX0_twistAt]
def wsL_count_r2 : List Cond := [Cond.code yX0_twistAt cX0_twistAt 3 (some .int), Cond.methodLink RX0 103 yX0_placedCorners, Cond.static yX0_placedCorners, Cond.code yX0_placedCorners cX0_placedCorners 4 (some .int), Cond.methodLink RX0 106 yX0_untwistedCorners, Cond.static yX0_untwistedCorners, Cond.code yX0_untwistedCorners cX0_untwistedCorners 4 (some .int), Cond.methodLink RX0 109 yX0_pairsOutOfOrder, Cond.static yX0_pairsOutOfOrder, Cond.code yX0_pairsOutOfOrder cX0_pairsOutOfOrder 5 (some .int), Cond.methodLink RX0 112 yX0_orderOf, Cond.static yX0_orderOf, Cond.code yX0_orderOf cX0_orderOf 5 (some .int), Cond.constantLong RX0 9 (506097522914230528), Cond.methodLink RX0 174 yX0_behindDeed, Cond.static yX0_behindDeed, Cond.code yX0_behindDeed cX0_behindDeed 8 (some .long), Cond.methodLink RX0 192 yX0_withCorner, Cond.static yX0_withCorner, Cond.code yX0_withCorner cX0_withCorner 9 (some .long), Cond.constantLong RX0 178 (255), Cond.constantLong RX0 180 (-1), Cond.methodLink RX0 115 yX0_turnsOfAllWords, Cond.instanceMethod yX0_turnsOfAllWords]
def wsL_count_r3 : List Cond := [Cond.selects RX0 yX0_turnsOfAllWords yX0_turnsOfAllWords, Cond.code yX0_turnsOfAllWords cX0_turnsOfAllWords 3 (some .int), Cond.fieldLink RX0 24 "CornerCube" "lengths" "[I"]
def wsL_count : List Cond := .codeWith yL_count cL_count 4 (some .int) [(0, 9, 12, 13)] :: ((wsL_count_r1 ++ (wsL_count_r2 ++ wsL_count_r3)) ++ wsX00 ++ (vx_atS RX0 102 "java/lang/IndexOutOfBoundsException" ["java/lang/RuntimeException", "java/lang/Exception"]).filter goodWord)
def wsL_word_r1 : List Cond := [Cond.classLink RL 13 "java/lang/IndexOutOfBoundsException", Cond.methodLink RL 48 yX0_word, Cond.instanceMethod yX0_word, Cond.selects RX0 yX0_word yX0_word, Cond.initialized RX0, Cond.code yX0_word cX0_word 3 (some .int), Cond.fieldLink RX0 24 "CornerCube" "lengths" "[I", Cond.methodLink RX0 47 yX0_checkWord, Cond.static yX0_checkWord, Cond.code yX0_checkWord cX0_checkWord 1 none, Cond.classLink RX0 98 "java/lang/IndexOutOfBoundsException", Cond.initialized "java/lang/IndexOutOfBoundsException", Cond.methodLink RX0 83 yX0_checkWhat, Cond.static yX0_checkWhat, Cond.code yX0_checkWhat cX0_checkWhat 2 none, Cond.methodLink RX0 119 yX0_deedOf, Cond.instanceMethod yX0_deedOf, Cond.selects RX0 yX0_deedOf yX0_deedOf, Cond.code yX0_deedOf cX0_deedOf 2 (some .long), Cond.constantLong RX0 9 (506097522914230528), Cond.methodLink RX0 62 yX0_behindWord, Cond.instanceMethod yX0_behindWord, Cond.selects RX0 yX0_behindWord yX0_behindWord, Cond.code yX0_behindWord cX0_behindWord 7 (some .long)]
def wsL_word_r2 : List Cond := [Cond.fieldLink RX0 21 "CornerCube" "turnsOf" "[[I", Cond.methodLink RX0 39 yX0_turned, Cond.static yX0_turned, Cond.code yX0_turned cX0_turned 6 (some .long), Cond.methodLink RX0 171 yX0_quartersOf, Cond.static yX0_quartersOf, Cond.code yX0_quartersOf cX0_quartersOf 1 (some .int), Cond.methodLink RX0 134 yX0_faceOf, Cond.static yX0_faceOf, Cond.code yX0_faceOf cX0_faceOf 1 (some .int), Cond.methodLink RX0 182 yX0_quarterTurned, Cond.static yX0_quarterTurned, Cond.code yX0_quarterTurned cX0_quarterTurned 3 (some .long), Cond.methodLink RX0 185 yX0_gone, Cond.static yX0_gone, Cond.code yX0_gone cX0_gone 9 (some .long), Cond.methodLink RX0 189 yX0_hexDigit, Cond.static yX0_hexDigit, Cond.code yX0_hexDigit cX0_hexDigit 2 (some .int), Cond.methodLink RX0 87 yX0_cornerAt, Cond.static yX0_cornerAt, Cond.code yX0_cornerAt cX0_cornerAt 3 (some .int), Cond.methodLink RX0 91 yX0_twistAt, Cond.static yX0_twistAt]
def wsL_word_r3 : List Cond := [Cond.code yX0_twistAt cX0_twistAt 3 (some .int), Cond.methodLink RX0 192 yX0_withCorner, Cond.static yX0_withCorner, Cond.code yX0_withCorner cX0_withCorner 9 (some .long), Cond.constantLong RX0 178 (255), Cond.constantLong RX0 180 (-1), Cond.methodLink RX0 112 yX0_orderOf, Cond.static yX0_orderOf, Cond.code yX0_orderOf cX0_orderOf 5 (some .int), Cond.methodLink RX0 174 yX0_behindDeed, Cond.static yX0_behindDeed, Cond.code yX0_behindDeed cX0_behindDeed 8 (some .long), Cond.methodLink RX0 65 yX0_wrongCorners, Cond.static yX0_wrongCorners, Cond.code yX0_wrongCorners cX0_wrongCorners 2 (some .int), Cond.methodLink RX0 43 yX0_rightCorners, Cond.static yX0_rightCorners, Cond.code yX0_rightCorners cX0_rightCorners 4 (some .int), Cond.methodLink RX0 94 yX0_isRight, Cond.static yX0_isRight, Cond.code yX0_isRight cX0_isRight 3 (some .boolean), Cond.methodLink RX0 103 yX0_placedCorners, Cond.static yX0_placedCorners, Cond.code yX0_placedCorners cX0_placedCorners 4 (some .int)]
def wsL_word : List Cond := .codeWith yL_word cL_word 5 (some .int) [(0, 10, 13, 13)] :: ((wsL_word_r1 ++ (wsL_word_r2 ++ wsL_word_r3)) ++ wsX00 ++ (vx_atS RX0 102 "java/lang/IndexOutOfBoundsException" ["java/lang/RuntimeException", "java/lang/Exception"]).filter goodWord)
def wsL_at : List Cond := .codeWith yL_at cL_at 5 (some .int) [(0, 10, 13, 13)] :: ([.classLink RL 13 "java/lang/IndexOutOfBoundsException", .methodLink RL 51 yX0_at, .instanceMethod yX0_at, .selects RX0 yX0_at yX0_at, .initialized RX0, .code yX0_at cX0_at 3 (some .int), .classLink RX0 98 "java/lang/IndexOutOfBoundsException", .initialized "java/lang/IndexOutOfBoundsException", .fieldLink RX0 24 "CornerCube" "lengths" "[I", .fieldLink RX0 21 "CornerCube" "turnsOf" "[[I", .methodLink RX0 47 yX0_checkWord, .static yX0_checkWord, .code yX0_checkWord cX0_checkWord 1 none] ++ wsX00 ++ (vx_atS RX0 102 "java/lang/IndexOutOfBoundsException" ["java/lang/RuntimeException", "java/lang/Exception"]).filter goodWord)
def wsL_same_r1 : List Cond := [Cond.classLink RL 13 "java/lang/IndexOutOfBoundsException", Cond.methodLink RL 54 yX0_same, Cond.instanceMethod yX0_same, Cond.selects RX0 yX0_same yX0_same, Cond.initialized RX0, Cond.code yX0_same cX0_same 3 (some .boolean), Cond.methodLink RX0 47 yX0_checkWord, Cond.static yX0_checkWord, Cond.code yX0_checkWord cX0_checkWord 1 none, Cond.classLink RX0 98 "java/lang/IndexOutOfBoundsException", Cond.initialized "java/lang/IndexOutOfBoundsException", Cond.methodLink RX0 119 yX0_deedOf, Cond.instanceMethod yX0_deedOf, Cond.selects RX0 yX0_deedOf yX0_deedOf, Cond.code yX0_deedOf cX0_deedOf 2 (some .long), Cond.constantLong RX0 9 (506097522914230528), Cond.methodLink RX0 62 yX0_behindWord, Cond.instanceMethod yX0_behindWord, Cond.selects RX0 yX0_behindWord yX0_behindWord, Cond.code yX0_behindWord cX0_behindWord 7 (some .long), Cond.fieldLink RX0 24 "CornerCube" "lengths" "[I", Cond.fieldLink RX0 21 "CornerCube" "turnsOf" "[[I", Cond.methodLink RX0 39 yX0_turned, Cond.static yX0_turned]
def wsL_same_r2 : List Cond := [Cond.code yX0_turned cX0_turned 6 (some .long), Cond.methodLink RX0 171 yX0_quartersOf, Cond.static yX0_quartersOf, Cond.code yX0_quartersOf cX0_quartersOf 1 (some .int), Cond.methodLink RX0 134 yX0_faceOf, Cond.static yX0_faceOf, Cond.code yX0_faceOf cX0_faceOf 1 (some .int), Cond.methodLink RX0 182 yX0_quarterTurned, Cond.static yX0_quarterTurned, Cond.code yX0_quarterTurned cX0_quarterTurned 3 (some .long), Cond.methodLink RX0 185 yX0_gone, Cond.static yX0_gone, Cond.code yX0_gone cX0_gone 9 (some .long), Cond.methodLink RX0 189 yX0_hexDigit, Cond.static yX0_hexDigit, Cond.code yX0_hexDigit cX0_hexDigit 2 (some .int), Cond.methodLink RX0 87 yX0_cornerAt, Cond.static yX0_cornerAt, Cond.code yX0_cornerAt cX0_cornerAt 3 (some .int), Cond.methodLink RX0 91 yX0_twistAt, Cond.static yX0_twistAt, Cond.code yX0_twistAt cX0_twistAt 3 (some .int), Cond.methodLink RX0 192 yX0_withCorner, Cond.static yX0_withCorner]
def wsL_same_r3 : List Cond := [Cond.code yX0_withCorner cX0_withCorner 9 (some .long), Cond.constantLong RX0 178 (255), Cond.constantLong RX0 180 (-1)]
def wsL_same : List Cond := .codeWith yL_same cL_same 5 (some .int) [(0, 17, 20, 13)] :: ((wsL_same_r1 ++ (wsL_same_r2 ++ wsL_same_r3)) ++ wsX00 ++ (vx_atS RX0 102 "java/lang/IndexOutOfBoundsException" ["java/lang/RuntimeException", "java/lang/Exception"]).filter goodWord)
def wsL_mixed_r1 : List Cond := [Cond.classLink RL 13 "java/lang/IndexOutOfBoundsException", Cond.methodLink RL 58 yX0_mixed, Cond.instanceMethod yX0_mixed, Cond.selects RX0 yX0_mixed yX0_mixed, Cond.initialized RX0, Cond.code yX0_mixed cX0_mixed 5 (some .int), Cond.methodLink RX0 47 yX0_checkWord, Cond.static yX0_checkWord, Cond.code yX0_checkWord cX0_checkWord 1 none, Cond.classLink RX0 98 "java/lang/IndexOutOfBoundsException", Cond.initialized "java/lang/IndexOutOfBoundsException", Cond.methodLink RX0 119 yX0_deedOf, Cond.instanceMethod yX0_deedOf, Cond.selects RX0 yX0_deedOf yX0_deedOf, Cond.code yX0_deedOf cX0_deedOf 2 (some .long), Cond.constantLong RX0 9 (506097522914230528), Cond.methodLink RX0 62 yX0_behindWord, Cond.instanceMethod yX0_behindWord, Cond.selects RX0 yX0_behindWord yX0_behindWord, Cond.code yX0_behindWord cX0_behindWord 7 (some .long), Cond.fieldLink RX0 24 "CornerCube" "lengths" "[I", Cond.fieldLink RX0 21 "CornerCube" "turnsOf" "[[I", Cond.methodLink RX0 39 yX0_turned, Cond.static yX0_turned]
def wsL_mixed_r2 : List Cond := [Cond.code yX0_turned cX0_turned 6 (some .long), Cond.methodLink RX0 171 yX0_quartersOf, Cond.static yX0_quartersOf, Cond.code yX0_quartersOf cX0_quartersOf 1 (some .int), Cond.methodLink RX0 134 yX0_faceOf, Cond.static yX0_faceOf, Cond.code yX0_faceOf cX0_faceOf 1 (some .int), Cond.methodLink RX0 182 yX0_quarterTurned, Cond.static yX0_quarterTurned, Cond.code yX0_quarterTurned cX0_quarterTurned 3 (some .long), Cond.methodLink RX0 185 yX0_gone, Cond.static yX0_gone, Cond.code yX0_gone cX0_gone 9 (some .long), Cond.methodLink RX0 189 yX0_hexDigit, Cond.static yX0_hexDigit, Cond.code yX0_hexDigit cX0_hexDigit 2 (some .int), Cond.methodLink RX0 87 yX0_cornerAt, Cond.static yX0_cornerAt, Cond.code yX0_cornerAt cX0_cornerAt 3 (some .int), Cond.methodLink RX0 91 yX0_twistAt, Cond.static yX0_twistAt, Cond.code yX0_twistAt cX0_twistAt 3 (some .int), Cond.methodLink RX0 192 yX0_withCorner, Cond.static yX0_withCorner]
def wsL_mixed_r3 : List Cond := [Cond.code yX0_withCorner cX0_withCorner 9 (some .long), Cond.constantLong RX0 178 (255), Cond.constantLong RX0 180 (-1), Cond.methodLink RX0 125 yX0_behindWordRound, Cond.instanceMethod yX0_behindWordRound, Cond.selects RX0 yX0_behindWordRound yX0_behindWordRound, Cond.code yX0_behindWordRound cX0_behindWordRound 7 (some .long), Cond.methodLink RX0 70 yX0_turnedBack, Cond.static yX0_turnedBack, Cond.code yX0_turnedBack cX0_turnedBack 1 (some .int), Cond.methodLink RX0 35 yX0_turnNumber, Cond.static yX0_turnNumber, Cond.code yX0_turnNumber cX0_turnNumber 2 (some .int), Cond.methodLink RX0 65 yX0_wrongCorners, Cond.static yX0_wrongCorners, Cond.code yX0_wrongCorners cX0_wrongCorners 2 (some .int), Cond.methodLink RX0 43 yX0_rightCorners, Cond.static yX0_rightCorners, Cond.code yX0_rightCorners cX0_rightCorners 4 (some .int), Cond.methodLink RX0 94 yX0_isRight, Cond.static yX0_isRight, Cond.code yX0_isRight cX0_isRight 3 (some .boolean)]
def wsL_mixed : List Cond := .codeWith yL_mixed cL_mixed 5 (some .int) [(0, 10, 13, 13)] :: ((wsL_mixed_r1 ++ (wsL_mixed_r2 ++ wsL_mixed_r3)) ++ wsX00 ++ (vx_atS RX0 102 "java/lang/IndexOutOfBoundsException" ["java/lang/RuntimeException", "java/lang/Exception"]).filter goodWord)
def wsL_would_r1 : List Cond := [Cond.classLink RL 13 "java/lang/IndexOutOfBoundsException", Cond.classLink RL 15 "java/lang/IllegalArgumentException", Cond.methodLink RL 61 yX0_would, Cond.instanceMethod yX0_would, Cond.selects RX0 yX0_would yX0_would, Cond.initialized RX0, Cond.code yX0_would cX0_would 3 (some .int), Cond.fieldLink RX0 11 "CornerCube" "cube" "J", Cond.methodLink RX0 28 yX0_checkFace, Cond.static yX0_checkFace, Cond.code yX0_checkFace cX0_checkFace 1 none, Cond.classLink RX0 98 "java/lang/IndexOutOfBoundsException", Cond.initialized "java/lang/IndexOutOfBoundsException", Cond.methodLink RX0 32 yX0_checkQuarters, Cond.static yX0_checkQuarters, Cond.code yX0_checkQuarters cX0_checkQuarters 1 none, Cond.classLink RX0 50 "java/lang/IllegalArgumentException", Cond.initialized "java/lang/IllegalArgumentException", Cond.methodLink RX0 35 yX0_turnNumber, Cond.static yX0_turnNumber, Cond.code yX0_turnNumber cX0_turnNumber 2 (some .int), Cond.methodLink RX0 39 yX0_turned, Cond.static yX0_turned, Cond.code yX0_turned cX0_turned 6 (some .long)]
def wsL_would_r2 : List Cond := [Cond.methodLink RX0 171 yX0_quartersOf, Cond.static yX0_quartersOf, Cond.code yX0_quartersOf cX0_quartersOf 1 (some .int), Cond.methodLink RX0 134 yX0_faceOf, Cond.static yX0_faceOf, Cond.code yX0_faceOf cX0_faceOf 1 (some .int), Cond.methodLink RX0 182 yX0_quarterTurned, Cond.static yX0_quarterTurned, Cond.code yX0_quarterTurned cX0_quarterTurned 3 (some .long), Cond.methodLink RX0 185 yX0_gone, Cond.static yX0_gone, Cond.code yX0_gone cX0_gone 9 (some .long), Cond.methodLink RX0 189 yX0_hexDigit, Cond.static yX0_hexDigit, Cond.code yX0_hexDigit cX0_hexDigit 2 (some .int), Cond.methodLink RX0 87 yX0_cornerAt, Cond.static yX0_cornerAt, Cond.code yX0_cornerAt cX0_cornerAt 3 (some .int), Cond.methodLink RX0 91 yX0_twistAt, Cond.static yX0_twistAt, Cond.code yX0_twistAt cX0_twistAt 3 (some .int), Cond.methodLink RX0 192 yX0_withCorner, Cond.static yX0_withCorner, Cond.code yX0_withCorner cX0_withCorner 9 (some .long)]
def wsL_would_r3 : List Cond := [Cond.constantLong RX0 178 (255), Cond.constantLong RX0 180 (-1), Cond.methodLink RX0 43 yX0_rightCorners, Cond.static yX0_rightCorners, Cond.code yX0_rightCorners cX0_rightCorners 4 (some .int), Cond.methodLink RX0 94 yX0_isRight, Cond.static yX0_isRight, Cond.code yX0_isRight cX0_isRight 3 (some .boolean)]
def wsL_would : List Cond := .codeWith yL_would cL_would 5 (some .int) [(0, 10, 13, 13), (0, 10, 17, 15)] :: ((wsL_would_r1 ++ (wsL_would_r2 ++ wsL_would_r3)) ++ wsX00 ++ (vx_atS RX0 102 "java/lang/IndexOutOfBoundsException" ["java/lang/RuntimeException", "java/lang/Exception"]).filter goodWord ++ (vx_atS RX0 54 "java/lang/IllegalArgumentException" ["java/lang/RuntimeException", "java/lang/Exception"]).filter goodWord)
def wsL_far_r1 : List Cond := [Cond.classLink RL 15 "java/lang/IllegalArgumentException", Cond.methodLink RL 64 yX0_far, Cond.instanceMethod yX0_far, Cond.selects RX0 yX0_far yX0_far, Cond.initialized RX0, Cond.code yX0_far cX0_far 2 (some .int), Cond.fieldLink RX0 11 "CornerCube" "cube" "J", Cond.methodLink RX0 128 yX0_checkMost, Cond.static yX0_checkMost, Cond.code yX0_checkMost cX0_checkMost 1 none, Cond.classLink RX0 50 "java/lang/IllegalArgumentException", Cond.initialized "java/lang/IllegalArgumentException", Cond.methodLink RX0 131 yX0_fewestTurns, Cond.static yX0_fewestTurns, Cond.code yX0_fewestTurns cX0_fewestTurns 4 (some .int), Cond.methodLink RX0 137 yX0_isRightWithin, Cond.static yX0_isRightWithin, Cond.code yX0_isRightWithin cX0_isRightWithin 5 (some .boolean), Cond.constantLong RX0 9 (506097522914230528), Cond.methodLink RX0 65 yX0_wrongCorners, Cond.static yX0_wrongCorners, Cond.code yX0_wrongCorners cX0_wrongCorners 2 (some .int), Cond.methodLink RX0 43 yX0_rightCorners, Cond.static yX0_rightCorners]
def wsL_far_r2 : List Cond := [Cond.code yX0_rightCorners cX0_rightCorners 4 (some .int), Cond.methodLink RX0 94 yX0_isRight, Cond.static yX0_isRight, Cond.code yX0_isRight cX0_isRight 3 (some .boolean), Cond.methodLink RX0 87 yX0_cornerAt, Cond.static yX0_cornerAt, Cond.code yX0_cornerAt cX0_cornerAt 3 (some .int), Cond.methodLink RX0 91 yX0_twistAt, Cond.static yX0_twistAt, Cond.code yX0_twistAt cX0_twistAt 3 (some .int), Cond.methodLink RX0 196 yX0_mostSetRight, Cond.static yX0_mostSetRight, Cond.code yX0_mostSetRight cX0_mostSetRight 1 (some .int), Cond.methodLink RX0 199 yX0_isRightBeginning, Cond.static yX0_isRightBeginning, Cond.code yX0_isRightBeginning cX0_isRightBeginning 7 (some .boolean), Cond.methodLink RX0 182 yX0_quarterTurned, Cond.static yX0_quarterTurned, Cond.code yX0_quarterTurned cX0_quarterTurned 3 (some .long), Cond.methodLink RX0 185 yX0_gone, Cond.static yX0_gone, Cond.code yX0_gone cX0_gone 9 (some .long), Cond.methodLink RX0 189 yX0_hexDigit, Cond.static yX0_hexDigit]
def wsL_far_r3 : List Cond := [Cond.code yX0_hexDigit cX0_hexDigit 2 (some .int), Cond.methodLink RX0 192 yX0_withCorner, Cond.static yX0_withCorner, Cond.code yX0_withCorner cX0_withCorner 9 (some .long), Cond.constantLong RX0 178 (255), Cond.constantLong RX0 180 (-1)]
def wsL_far : List Cond := .codeWith yL_far cL_far 4 (some .int) [(0, 9, 12, 15)] :: ((wsL_far_r1 ++ (wsL_far_r2 ++ wsL_far_r3)) ++ wsX00 ++ (vx_atS RX0 54 "java/lang/IllegalArgumentException" ["java/lang/RuntimeException", "java/lang/Exception"]).filter goodWord)
def wsL_first_r1 : List Cond := [Cond.classLink RL 15 "java/lang/IllegalArgumentException", Cond.methodLink RL 67 yX0_first, Cond.instanceMethod yX0_first, Cond.selects RX0 yX0_first yX0_first, Cond.initialized RX0, Cond.code yX0_first cX0_first 4 (some .int), Cond.fieldLink RX0 11 "CornerCube" "cube" "J", Cond.methodLink RX0 128 yX0_checkMost, Cond.static yX0_checkMost, Cond.code yX0_checkMost cX0_checkMost 1 none, Cond.classLink RX0 50 "java/lang/IllegalArgumentException", Cond.initialized "java/lang/IllegalArgumentException", Cond.methodLink RX0 131 yX0_fewestTurns, Cond.static yX0_fewestTurns, Cond.code yX0_fewestTurns cX0_fewestTurns 4 (some .int), Cond.methodLink RX0 137 yX0_isRightWithin, Cond.static yX0_isRightWithin, Cond.code yX0_isRightWithin cX0_isRightWithin 5 (some .boolean), Cond.constantLong RX0 9 (506097522914230528), Cond.methodLink RX0 65 yX0_wrongCorners, Cond.static yX0_wrongCorners, Cond.code yX0_wrongCorners cX0_wrongCorners 2 (some .int), Cond.methodLink RX0 43 yX0_rightCorners, Cond.static yX0_rightCorners]
def wsL_first_r2 : List Cond := [Cond.code yX0_rightCorners cX0_rightCorners 4 (some .int), Cond.methodLink RX0 94 yX0_isRight, Cond.static yX0_isRight, Cond.code yX0_isRight cX0_isRight 3 (some .boolean), Cond.methodLink RX0 87 yX0_cornerAt, Cond.static yX0_cornerAt, Cond.code yX0_cornerAt cX0_cornerAt 3 (some .int), Cond.methodLink RX0 91 yX0_twistAt, Cond.static yX0_twistAt, Cond.code yX0_twistAt cX0_twistAt 3 (some .int), Cond.methodLink RX0 196 yX0_mostSetRight, Cond.static yX0_mostSetRight, Cond.code yX0_mostSetRight cX0_mostSetRight 1 (some .int), Cond.methodLink RX0 199 yX0_isRightBeginning, Cond.static yX0_isRightBeginning, Cond.code yX0_isRightBeginning cX0_isRightBeginning 7 (some .boolean), Cond.methodLink RX0 182 yX0_quarterTurned, Cond.static yX0_quarterTurned, Cond.code yX0_quarterTurned cX0_quarterTurned 3 (some .long), Cond.methodLink RX0 185 yX0_gone, Cond.static yX0_gone, Cond.code yX0_gone cX0_gone 9 (some .long), Cond.methodLink RX0 189 yX0_hexDigit, Cond.static yX0_hexDigit]
def wsL_first_r3 : List Cond := [Cond.code yX0_hexDigit cX0_hexDigit 2 (some .int), Cond.methodLink RX0 192 yX0_withCorner, Cond.static yX0_withCorner, Cond.code yX0_withCorner cX0_withCorner 9 (some .long), Cond.constantLong RX0 178 (255), Cond.constantLong RX0 180 (-1), Cond.methodLink RX0 39 yX0_turned, Cond.static yX0_turned, Cond.code yX0_turned cX0_turned 6 (some .long), Cond.methodLink RX0 171 yX0_quartersOf, Cond.static yX0_quartersOf, Cond.code yX0_quartersOf cX0_quartersOf 1 (some .int), Cond.methodLink RX0 134 yX0_faceOf, Cond.static yX0_faceOf, Cond.code yX0_faceOf cX0_faceOf 1 (some .int)]
def wsL_first : List Cond := .codeWith yL_first cL_first 4 (some .int) [(0, 9, 12, 15)] :: ((wsL_first_r1 ++ (wsL_first_r2 ++ wsL_first_r3)) ++ wsX00 ++ (vx_atS RX0 54 "java/lang/IllegalArgumentException" ["java/lang/RuntimeException", "java/lang/Exception"]).filter goodWord)
def wsL_shortest_r1 : List Cond := [Cond.classLink RL 13 "java/lang/IndexOutOfBoundsException", Cond.classLink RL 15 "java/lang/IllegalArgumentException", Cond.methodLink RL 70 yX0_shortest, Cond.instanceMethod yX0_shortest, Cond.selects RX0 yX0_shortest yX0_shortest, Cond.initialized RX0, Cond.code yX0_shortest cX0_shortest 3 (some .int), Cond.methodLink RX0 47 yX0_checkWord, Cond.static yX0_checkWord, Cond.code yX0_checkWord cX0_checkWord 1 none, Cond.classLink RX0 98 "java/lang/IndexOutOfBoundsException", Cond.initialized "java/lang/IndexOutOfBoundsException", Cond.methodLink RX0 128 yX0_checkMost, Cond.static yX0_checkMost, Cond.code yX0_checkMost cX0_checkMost 1 none, Cond.classLink RX0 50 "java/lang/IllegalArgumentException", Cond.initialized "java/lang/IllegalArgumentException", Cond.methodLink RX0 119 yX0_deedOf, Cond.instanceMethod yX0_deedOf, Cond.selects RX0 yX0_deedOf yX0_deedOf, Cond.code yX0_deedOf cX0_deedOf 2 (some .long), Cond.constantLong RX0 9 (506097522914230528), Cond.methodLink RX0 62 yX0_behindWord, Cond.instanceMethod yX0_behindWord]
def wsL_shortest_r2 : List Cond := [Cond.selects RX0 yX0_behindWord yX0_behindWord, Cond.code yX0_behindWord cX0_behindWord 7 (some .long), Cond.fieldLink RX0 24 "CornerCube" "lengths" "[I", Cond.fieldLink RX0 21 "CornerCube" "turnsOf" "[[I", Cond.methodLink RX0 39 yX0_turned, Cond.static yX0_turned, Cond.code yX0_turned cX0_turned 6 (some .long), Cond.methodLink RX0 171 yX0_quartersOf, Cond.static yX0_quartersOf, Cond.code yX0_quartersOf cX0_quartersOf 1 (some .int), Cond.methodLink RX0 134 yX0_faceOf, Cond.static yX0_faceOf, Cond.code yX0_faceOf cX0_faceOf 1 (some .int), Cond.methodLink RX0 182 yX0_quarterTurned, Cond.static yX0_quarterTurned, Cond.code yX0_quarterTurned cX0_quarterTurned 3 (some .long), Cond.methodLink RX0 185 yX0_gone, Cond.static yX0_gone, Cond.code yX0_gone cX0_gone 9 (some .long), Cond.methodLink RX0 189 yX0_hexDigit, Cond.static yX0_hexDigit, Cond.code yX0_hexDigit cX0_hexDigit 2 (some .int), Cond.methodLink RX0 87 yX0_cornerAt, Cond.static yX0_cornerAt]
def wsL_shortest_r3 : List Cond := [Cond.code yX0_cornerAt cX0_cornerAt 3 (some .int), Cond.methodLink RX0 91 yX0_twistAt, Cond.static yX0_twistAt, Cond.code yX0_twistAt cX0_twistAt 3 (some .int), Cond.methodLink RX0 192 yX0_withCorner, Cond.static yX0_withCorner, Cond.code yX0_withCorner cX0_withCorner 9 (some .long), Cond.constantLong RX0 178 (255), Cond.constantLong RX0 180 (-1), Cond.methodLink RX0 131 yX0_fewestTurns, Cond.static yX0_fewestTurns, Cond.code yX0_fewestTurns cX0_fewestTurns 4 (some .int), Cond.methodLink RX0 137 yX0_isRightWithin, Cond.static yX0_isRightWithin, Cond.code yX0_isRightWithin cX0_isRightWithin 5 (some .boolean), Cond.methodLink RX0 65 yX0_wrongCorners, Cond.static yX0_wrongCorners, Cond.code yX0_wrongCorners cX0_wrongCorners 2 (some .int), Cond.methodLink RX0 43 yX0_rightCorners, Cond.static yX0_rightCorners, Cond.code yX0_rightCorners cX0_rightCorners 4 (some .int), Cond.methodLink RX0 94 yX0_isRight, Cond.static yX0_isRight, Cond.code yX0_isRight cX0_isRight 3 (some .boolean)]
def wsL_shortest_r4 : List Cond := [Cond.methodLink RX0 196 yX0_mostSetRight, Cond.static yX0_mostSetRight, Cond.code yX0_mostSetRight cX0_mostSetRight 1 (some .int), Cond.methodLink RX0 199 yX0_isRightBeginning, Cond.static yX0_isRightBeginning, Cond.code yX0_isRightBeginning cX0_isRightBeginning 7 (some .boolean)]
def wsL_shortest : List Cond := .codeWith yL_shortest cL_shortest 5 (some .int) [(0, 10, 13, 13), (0, 10, 17, 15)] :: ((wsL_shortest_r1 ++ (wsL_shortest_r2 ++ (wsL_shortest_r3 ++ wsL_shortest_r4))) ++ wsX00 ++ (vx_atS RX0 102 "java/lang/IndexOutOfBoundsException" ["java/lang/RuntimeException", "java/lang/Exception"]).filter goodWord ++ (vx_atS RX0 54 "java/lang/IllegalArgumentException" ["java/lang/RuntimeException", "java/lang/Exception"]).filter goodWord)
def wsL_law0_r1 : List Cond := [Cond.classLink RL 8 RX0, Cond.instantiable RX0 4, Cond.initialized RX0, Cond.classLink RL 74 RX1, Cond.instantiable RX1 7, Cond.initialized RX1, Cond.arrayClass .long, Cond.methodLink RL 73 yX0_init, Cond.instanceMethod yX0_init, Cond.code yX0_init cX0_init 1 none, Cond.methodLink RX0 1 objectInit, Cond.instanceMethod objectInit, Cond.code objectInit ⟨#[0xb1]⟩ 1 none, Cond.constantLong RX0 9 (506097522914230528), Cond.fieldLink RX0 11 "CornerCube" "cube" "J", Cond.fieldLink RX0 15 "CornerCube" "turnsMade" "I", Cond.classLink RX0 19 "[[I", Cond.arrayClass .int, Cond.fieldLink RX0 21 "CornerCube" "turnsOf" "[[I", Cond.fieldLink RX0 24 "CornerCube" "lengths" "[I", Cond.methodLink RL 76 yX1_init, Cond.instanceMethod yX1_init, Cond.code yX1_init cX1_init 2 none, Cond.methodLink RX1 1 objectInit]
def wsL_law0_r2 : List Cond := [Cond.fieldLink RX1 13 "CornerCubeModel" "cube" "[I", Cond.classLink RX1 17 "[I", Cond.fieldLink RX1 18 "CornerCubeModel" "rows" "[[I", Cond.classLink RX1 22 "[[I", Cond.fieldLink RX1 23 "CornerCubeModel" "tried" "[[I", Cond.fieldLink RX1 26 "CornerCubeModel" "sizes" "[I", Cond.fieldLink RX1 29 "CornerCubeModel" "words" "[I", Cond.methodLink RX1 7 yX1_right, Cond.static yX1_right, Cond.code yX1_right cX1_right 2 (some (.array .int)), Cond.methodLink RX1 32 yX1_turnRow, Cond.static yX1_turnRow, Cond.code yX1_turnRow cX1_turnRow 3 (some (.array .int)), Cond.methodLink RX1 54 yX1_quarter, Cond.static yX1_quarter, Cond.code yX1_quarter cX1_quarter 4 (some (.array .int)), Cond.fieldLink RX1 48 "CornerCubeModel" "ROUND" "[[I", Cond.fieldLink RX1 51 "CornerCubeModel" "MORE" "[[I", Cond.methodLink RX1 57 yX1_then, Cond.static yX1_then, Cond.code yX1_then cX1_then 2 (some (.array .int)), Cond.methodLink RX1 44 yX1_into, Cond.static yX1_into, Cond.code yX1_into cX1_into 5 (some (.array .int))]
def wsL_law0_r3 : List Cond := [Cond.methodLink RL 77 yL_turn, Cond.static yL_turn, Cond.initialized RL, Cond.codeWith yL_turn cL_turn 5 (some .int) [(0, 10, 13, 13), (0, 10, 17, 15)], Cond.classLink RL 13 "java/lang/IndexOutOfBoundsException", Cond.classLink RL 15 "java/lang/IllegalArgumentException", Cond.methodLink RL 7 yX0_turn, Cond.instanceMethod yX0_turn, Cond.selects RX0 yX0_turn yX0_turn, Cond.code yX0_turn cX0_turn 3 (some .int), Cond.methodLink RX0 28 yX0_checkFace, Cond.static yX0_checkFace, Cond.code yX0_checkFace cX0_checkFace 1 none, Cond.classLink RX0 98 "java/lang/IndexOutOfBoundsException", Cond.initialized "java/lang/IndexOutOfBoundsException", Cond.methodLink RX0 32 yX0_checkQuarters, Cond.static yX0_checkQuarters, Cond.code yX0_checkQuarters cX0_checkQuarters 1 none, Cond.classLink RX0 50 "java/lang/IllegalArgumentException", Cond.initialized "java/lang/IllegalArgumentException", Cond.methodLink RX0 35 yX0_turnNumber, Cond.static yX0_turnNumber, Cond.code yX0_turnNumber cX0_turnNumber 2 (some .int), Cond.methodLink RX0 39 yX0_turned]
def wsL_law0_r4 : List Cond := [Cond.static yX0_turned, Cond.code yX0_turned cX0_turned 6 (some .long), Cond.methodLink RX0 171 yX0_quartersOf, Cond.static yX0_quartersOf, Cond.code yX0_quartersOf cX0_quartersOf 1 (some .int), Cond.methodLink RX0 134 yX0_faceOf, Cond.static yX0_faceOf, Cond.code yX0_faceOf cX0_faceOf 1 (some .int), Cond.methodLink RX0 182 yX0_quarterTurned, Cond.static yX0_quarterTurned, Cond.code yX0_quarterTurned cX0_quarterTurned 3 (some .long), Cond.methodLink RX0 185 yX0_gone, Cond.static yX0_gone, Cond.code yX0_gone cX0_gone 9 (some .long), Cond.methodLink RX0 189 yX0_hexDigit, Cond.static yX0_hexDigit, Cond.code yX0_hexDigit cX0_hexDigit 2 (some .int), Cond.methodLink RX0 87 yX0_cornerAt, Cond.static yX0_cornerAt, Cond.code yX0_cornerAt cX0_cornerAt 3 (some .int), Cond.methodLink RX0 91 yX0_twistAt, Cond.static yX0_twistAt, Cond.code yX0_twistAt cX0_twistAt 3 (some .int), Cond.methodLink RX0 192 yX0_withCorner]
def wsL_law0_r5 : List Cond := [Cond.static yX0_withCorner, Cond.code yX0_withCorner cX0_withCorner 9 (some .long), Cond.constantLong RX0 178 (255), Cond.constantLong RX0 180 (-1), Cond.methodLink RX0 43 yX0_rightCorners, Cond.static yX0_rightCorners, Cond.code yX0_rightCorners cX0_rightCorners 4 (some .int), Cond.methodLink RX0 94 yX0_isRight, Cond.static yX0_isRight, Cond.code yX0_isRight cX0_isRight 3 (some .boolean), Cond.methodLink RL 82 yX1_turn, Cond.instanceMethod yX1_turn, Cond.selects RX1 yX1_turn yX1_turn, Cond.code yX1_turn cX1_turn 3 (some .int), Cond.fieldLink RX1 36 "CornerCubeModel" "thrown" "I", Cond.fieldLink RX1 86 "CornerCubeModel" "made" "I", Cond.methodLink RX1 40 yX1_isIn, Cond.static yX1_isIn, Cond.code yX1_isIn cX1_isIn 3 (some .boolean), Cond.methodLink RX1 82 yX1_no, Cond.instanceMethod yX1_no, Cond.selects RX1 yX1_no yX1_no, Cond.code yX1_no cX1_no 2 (some .int), Cond.methodLink RX1 61 yX1_turned]
def wsL_law0_r6 : List Cond := [Cond.instanceMethod yX1_turned, Cond.selects RX1 yX1_turned yX1_turned, Cond.code yX1_turned cX1_turned 3 (some (.array .int)), Cond.methodLink RX1 74 yX1_many, Cond.static yX1_many, Cond.code yX1_many cX1_many 4 (some .int), Cond.methodLink RL 83 yX1_thrown, Cond.instanceMethod yX1_thrown, Cond.selects RX1 yX1_thrown yX1_thrown, Cond.code yX1_thrown cX1_thrown 1 (some .int), Cond.methodLink RL 87 yL_play, Cond.static yL_play, Cond.codeWith yL_play cL_play 5 (some .int) [(0, 10, 13, 13), (0, 10, 17, 15), (0, 10, 21, 20)], Cond.classLink RL 20 "java/lang/IllegalStateException", Cond.methodLink RL 17 yX0_play, Cond.instanceMethod yX0_play, Cond.selects RX0 yX0_play yX0_play, Cond.code yX0_play cX0_play 4 (some .int), Cond.classLink RX0 57 "java/lang/IllegalStateException", Cond.initialized "java/lang/IllegalStateException", Cond.methodLink RX0 47 yX0_checkWord, Cond.static yX0_checkWord, Cond.code yX0_checkWord cX0_checkWord 1 none, Cond.methodLink RX0 62 yX0_behindWord]
def wsL_law0_r7 : List Cond := [Cond.instanceMethod yX0_behindWord, Cond.selects RX0 yX0_behindWord yX0_behindWord, Cond.code yX0_behindWord cX0_behindWord 7 (some .long), Cond.methodLink RL 89 yX1_play, Cond.instanceMethod yX1_play, Cond.selects RX1 yX1_play yX1_play, Cond.code yX1_play cX1_play 4 (some .int), Cond.methodLink RX1 89 yX1_isWord, Cond.static yX1_isWord, Cond.code yX1_isWord cX1_isWord 1 (some .boolean), Cond.methodLink RX1 93 yX1_rowOf, Cond.instanceMethod yX1_rowOf, Cond.selects RX1 yX1_rowOf yX1_rowOf, Cond.code yX1_rowOf cX1_rowOf 4 (some (.array .int)), Cond.methodLink RL 90 yX0_reset, Cond.instanceMethod yX0_reset, Cond.selects RX0 yX0_reset yX0_reset, Cond.code yX0_reset cX0_reset 2 (some .int), Cond.methodLink RX0 65 yX0_wrongCorners, Cond.static yX0_wrongCorners, Cond.code yX0_wrongCorners cX0_wrongCorners 2 (some .int), Cond.methodLink RL 93 yX1_reset, Cond.instanceMethod yX1_reset, Cond.selects RX1 yX1_reset yX1_reset]
def wsL_law0_r8 : List Cond := [Cond.code yX1_reset cX1_reset 2 (some .int), Cond.methodLink RL 94 yL_say, Cond.static yL_say, Cond.codeWith yL_say cL_say 6 (some .int) [(0, 12, 15, 13), (0, 12, 19, 15), (0, 12, 23, 20)], Cond.methodLink RL 22 yX0_say, Cond.instanceMethod yX0_say, Cond.selects RX0 yX0_say yX0_say, Cond.code yX0_say cX0_say 4 (some .int), Cond.methodLink RL 97 yX1_say, Cond.instanceMethod yX1_say, Cond.selects RX1 yX1_say yX1_say, Cond.code yX1_say cX1_say 4 (some .int), Cond.methodLink RX1 96 yX1_put, Cond.instanceMethod yX1_put, Cond.selects RX1 yX1_put yX1_put, Cond.code yX1_put cX1_put 3 none, Cond.methodLink RL 98 yL_wipe, Cond.static yL_wipe, Cond.codeWith yL_wipe cL_wipe 4 (some .int) [(0, 9, 12, 13)], Cond.methodLink RL 26 yX0_wipe, Cond.instanceMethod yX0_wipe, Cond.selects RX0 yX0_wipe yX0_wipe, Cond.code yX0_wipe cX0_wipe 3 (some .int), Cond.methodLink RL 101 yX1_wipe]
def wsL_law0_r9 : List Cond := [Cond.instanceMethod yX1_wipe, Cond.selects RX1 yX1_wipe yX1_wipe, Cond.code yX1_wipe cX1_wipe 3 (some .int), Cond.methodLink RL 102 yL_round, Cond.static yL_round, Cond.codeWith yL_round cL_round 4 (some .int) [(0, 9, 12, 13)], Cond.methodLink RL 30 yX0_round, Cond.instanceMethod yX0_round, Cond.selects RX0 yX0_round yX0_round, Cond.code yX0_round cX0_round 6 (some .int), Cond.methodLink RX0 70 yX0_turnedBack, Cond.static yX0_turnedBack, Cond.code yX0_turnedBack cX0_turnedBack 1 (some .int), Cond.methodLink RL 104 yX1_round, Cond.instanceMethod yX1_round, Cond.selects RX1 yX1_round yX1_round, Cond.code yX1_round cX1_round 4 (some .int), Cond.methodLink RX1 106 yX1_taken, Cond.instanceMethod yX1_taken, Cond.selects RX1 yX1_taken yX1_taken, Cond.code yX1_taken cX1_taken 3 (some (.array .int)), Cond.methodLink RX1 100 arraycopyName, Cond.native arraycopyName, Cond.static arraycopyName]
def wsL_law0_r10 : List Cond := [Cond.initialized "java/lang/System", Cond.methodLink RL 105 yL_join, Cond.static yL_join, Cond.codeWith yL_join cL_join 5 (some .int) [(0, 10, 13, 13), (0, 10, 17, 20)], Cond.methodLink RL 33 yX0_join, Cond.instanceMethod yX0_join, Cond.selects RX0 yX0_join yX0_join, Cond.code yX0_join cX0_join 5 (some .int), Cond.methodLink RL 107 yX1_join, Cond.instanceMethod yX1_join, Cond.selects RX1 yX1_join yX1_join, Cond.code yX1_join cX1_join 5 (some .int), Cond.methodLink RL 108 yL_tidy, Cond.static yL_tidy, Cond.codeWith yL_tidy cL_tidy 4 (some .int) [(0, 9, 12, 13)], Cond.methodLink RL 36 yX0_tidy, Cond.instanceMethod yX0_tidy, Cond.selects RX0 yX0_tidy yX0_tidy, Cond.code yX0_tidy cX0_tidy 4 (some .int), Cond.methodLink RX0 76 yX0_keep, Cond.static yX0_keep, Cond.code yX0_keep cX0_keep 4 (some .int), Cond.methodLink RL 110 yX1_tidy, Cond.instanceMethod yX1_tidy]
def wsL_law0_r11 : List Cond := [Cond.selects RX1 yX1_tidy yX1_tidy, Cond.code yX1_tidy cX1_tidy 8 (some .int), Cond.methodLink RL 111 yL_told, Cond.static yL_told, Cond.codeWith yL_told cL_told 5 (some .int) [(0, 10, 13, 13)], Cond.methodLink RL 39 yX0_told, Cond.instanceMethod yX0_told, Cond.selects RX0 yX0_told yX0_told, Cond.code yX0_told cX0_told 3 (some .int), Cond.methodLink RX0 80 yX0_checkPlace, Cond.static yX0_checkPlace, Cond.code yX0_checkPlace cX0_checkPlace 1 none, Cond.methodLink RX0 83 yX0_checkWhat, Cond.static yX0_checkWhat, Cond.code yX0_checkWhat cX0_checkWhat 2 none, Cond.methodLink RL 113 yX1_told, Cond.instanceMethod yX1_told, Cond.selects RX1 yX1_told yX1_told, Cond.code yX1_told cX1_told 3 (some .int), Cond.methodLink RX1 113 yX1_placeTold, Cond.instanceMethod yX1_placeTold, Cond.selects RX1 yX1_placeTold yX1_placeTold, Cond.code yX1_placeTold cX1_placeTold 3 (some .int), Cond.methodLink RX1 109 yX1_isRight]
def wsL_law0_r12 : List Cond := [Cond.static yX1_isRight, Cond.code yX1_isRight cX1_isRight 2 (some .boolean), Cond.methodLink RL 114 yL_where, Cond.static yL_where, Cond.codeWith yL_where cL_where 4 (some .int) [(0, 9, 12, 13)], Cond.methodLink RL 42 yX0_where, Cond.instanceMethod yX0_where, Cond.selects RX0 yX0_where yX0_where, Cond.code yX0_where cX0_where 3 (some .int), Cond.methodLink RL 116 yX1_where, Cond.instanceMethod yX1_where, Cond.selects RX1 yX1_where yX1_where, Cond.code yX1_where cX1_where 2 (some .int), Cond.methodLink RX1 116 yX1_back, Cond.static yX1_back, Cond.code yX1_back cX1_back 3 (some (.array .int)), Cond.methodLink RL 117 yL_count, Cond.static yL_count, Cond.codeWith yL_count cL_count 4 (some .int) [(0, 9, 12, 13)], Cond.methodLink RL 45 yX0_count, Cond.instanceMethod yX0_count, Cond.selects RX0 yX0_count yX0_count, Cond.code yX0_count cX0_count 2 (some .int), Cond.methodLink RX0 103 yX0_placedCorners]
def wsL_law0_r13 : List Cond := [Cond.static yX0_placedCorners, Cond.code yX0_placedCorners cX0_placedCorners 4 (some .int), Cond.methodLink RX0 106 yX0_untwistedCorners, Cond.static yX0_untwistedCorners, Cond.code yX0_untwistedCorners cX0_untwistedCorners 4 (some .int), Cond.methodLink RX0 109 yX0_pairsOutOfOrder, Cond.static yX0_pairsOutOfOrder, Cond.code yX0_pairsOutOfOrder cX0_pairsOutOfOrder 5 (some .int), Cond.methodLink RX0 112 yX0_orderOf, Cond.static yX0_orderOf, Cond.code yX0_orderOf cX0_orderOf 5 (some .int), Cond.methodLink RX0 174 yX0_behindDeed, Cond.static yX0_behindDeed, Cond.code yX0_behindDeed cX0_behindDeed 8 (some .long), Cond.methodLink RX0 115 yX0_turnsOfAllWords, Cond.instanceMethod yX0_turnsOfAllWords, Cond.selects RX0 yX0_turnsOfAllWords yX0_turnsOfAllWords, Cond.code yX0_turnsOfAllWords cX0_turnsOfAllWords 3 (some .int), Cond.methodLink RL 119 yX1_count, Cond.instanceMethod yX1_count, Cond.selects RX1 yX1_count yX1_count, Cond.code yX1_count cX1_count 2 (some .int), Cond.methodLink RX1 128 yX1_counted, Cond.instanceMethod yX1_counted]
def wsL_law0_r14 : List Cond := [Cond.selects RX1 yX1_counted yX1_counted, Cond.code yX1_counted cX1_counted 2 (some .int), Cond.methodLink RX1 120 yX1_byCycles, Cond.static yX1_byCycles, Cond.code yX1_byCycles cX1_byCycles 10 (some .int), Cond.methodLink RX1 69 Lib.Math.min.name, Cond.static Lib.Math.min.name, Cond.initialized "java/lang/Math", Cond.code Lib.Math.min.name Lib.Math.min.code 2 (some .int), Cond.methodLink RX1 65 yX1_divisor, Cond.static yX1_divisor, Cond.code yX1_divisor cX1_divisor 2 (some .int), Cond.methodLink RX1 124 yX1_allTurns, Cond.instanceMethod yX1_allTurns, Cond.selects RX1 yX1_allTurns yX1_allTurns, Cond.code yX1_allTurns cX1_allTurns 6 (some .int), Cond.methodLink RL 120 yL_word, Cond.static yL_word, Cond.codeWith yL_word cL_word 5 (some .int) [(0, 10, 13, 13)], Cond.methodLink RL 48 yX0_word, Cond.instanceMethod yX0_word, Cond.selects RX0 yX0_word yX0_word, Cond.code yX0_word cX0_word 3 (some .int), Cond.methodLink RX0 119 yX0_deedOf]
def wsL_law0_r15 : List Cond := [Cond.instanceMethod yX0_deedOf, Cond.selects RX0 yX0_deedOf yX0_deedOf, Cond.code yX0_deedOf cX0_deedOf 2 (some .long), Cond.methodLink RL 122 yX1_word, Cond.instanceMethod yX1_word, Cond.selects RX1 yX1_word yX1_word, Cond.code yX1_word cX1_word 3 (some .int), Cond.methodLink RX1 131 yX1_wordTold, Cond.instanceMethod yX1_wordTold, Cond.selects RX1 yX1_wordTold yX1_wordTold, Cond.code yX1_wordTold cX1_wordTold 4 (some .int), Cond.methodLink RL 123 yL_at, Cond.static yL_at, Cond.codeWith yL_at cL_at 5 (some .int) [(0, 10, 13, 13)], Cond.methodLink RL 51 yX0_at, Cond.instanceMethod yX0_at, Cond.selects RX0 yX0_at yX0_at, Cond.code yX0_at cX0_at 3 (some .int), Cond.methodLink RL 125 yX1_at, Cond.instanceMethod yX1_at, Cond.selects RX1 yX1_at yX1_at, Cond.code yX1_at cX1_at 3 (some .int), Cond.methodLink RL 126 yL_same, Cond.static yL_same]
def wsL_law0_r16 : List Cond := [Cond.codeWith yL_same cL_same 5 (some .int) [(0, 17, 20, 13)], Cond.methodLink RL 54 yX0_same, Cond.instanceMethod yX0_same, Cond.selects RX0 yX0_same yX0_same, Cond.code yX0_same cX0_same 3 (some .boolean), Cond.methodLink RL 128 yX1_same, Cond.instanceMethod yX1_same, Cond.selects RX1 yX1_same yX1_same, Cond.code yX1_same cX1_same 3 (some .boolean), Cond.methodLink RL 129 yL_mixed, Cond.static yL_mixed, Cond.codeWith yL_mixed cL_mixed 5 (some .int) [(0, 10, 13, 13)], Cond.methodLink RL 58 yX0_mixed, Cond.instanceMethod yX0_mixed, Cond.selects RX0 yX0_mixed yX0_mixed, Cond.code yX0_mixed cX0_mixed 5 (some .int), Cond.methodLink RX0 125 yX0_behindWordRound, Cond.instanceMethod yX0_behindWordRound, Cond.selects RX0 yX0_behindWordRound yX0_behindWordRound, Cond.code yX0_behindWordRound cX0_behindWordRound 7 (some .long), Cond.methodLink RL 131 yX1_mixed, Cond.instanceMethod yX1_mixed, Cond.selects RX1 yX1_mixed yX1_mixed, Cond.code yX1_mixed cX1_mixed 5 (some .int)]
def wsL_law0_r17 : List Cond := [Cond.methodLink RL 132 yL_would, Cond.static yL_would, Cond.codeWith yL_would cL_would 5 (some .int) [(0, 10, 13, 13), (0, 10, 17, 15)], Cond.methodLink RL 61 yX0_would, Cond.instanceMethod yX0_would, Cond.selects RX0 yX0_would yX0_would, Cond.code yX0_would cX0_would 3 (some .int), Cond.methodLink RL 134 yX1_would, Cond.instanceMethod yX1_would, Cond.selects RX1 yX1_would yX1_would, Cond.code yX1_would cX1_would 3 (some .int), Cond.methodLink RL 135 yL_far, Cond.static yL_far, Cond.codeWith yL_far cL_far 4 (some .int) [(0, 9, 12, 15)], Cond.methodLink RL 64 yX0_far, Cond.instanceMethod yX0_far, Cond.selects RX0 yX0_far yX0_far, Cond.code yX0_far cX0_far 2 (some .int), Cond.methodLink RX0 128 yX0_checkMost, Cond.static yX0_checkMost, Cond.code yX0_checkMost cX0_checkMost 1 none, Cond.methodLink RX0 131 yX0_fewestTurns, Cond.static yX0_fewestTurns, Cond.code yX0_fewestTurns cX0_fewestTurns 4 (some .int)]
def wsL_law0_r18 : List Cond := [Cond.methodLink RX0 137 yX0_isRightWithin, Cond.static yX0_isRightWithin, Cond.code yX0_isRightWithin cX0_isRightWithin 5 (some .boolean), Cond.methodLink RX0 196 yX0_mostSetRight, Cond.static yX0_mostSetRight, Cond.code yX0_mostSetRight cX0_mostSetRight 1 (some .int), Cond.methodLink RX0 199 yX0_isRightBeginning, Cond.static yX0_isRightBeginning, Cond.code yX0_isRightBeginning cX0_isRightBeginning 7 (some .boolean), Cond.methodLink RL 137 yX1_far, Cond.instanceMethod yX1_far, Cond.selects RX1 yX1_far yX1_far, Cond.code yX1_far cX1_far 2 (some .int), Cond.methodLink RX1 134 yX1_farOf, Cond.instanceMethod yX1_farOf, Cond.selects RX1 yX1_farOf yX1_farOf, Cond.code yX1_farOf cX1_farOf 4 (some .int), Cond.methodLink RX1 78 yX1_comes, Cond.instanceMethod yX1_comes, Cond.selects RX1 yX1_comes yX1_comes, Cond.code yX1_comes cX1_comes 5 (some .boolean), Cond.methodLink RL 138 yL_first, Cond.static yL_first, Cond.codeWith yL_first cL_first 4 (some .int) [(0, 9, 12, 15)]]
def wsL_law0_r19 : List Cond := [Cond.methodLink RL 67 yX0_first, Cond.instanceMethod yX0_first, Cond.selects RX0 yX0_first yX0_first, Cond.code yX0_first cX0_first 4 (some .int), Cond.methodLink RL 140 yX1_first, Cond.instanceMethod yX1_first, Cond.selects RX1 yX1_first yX1_first, Cond.code yX1_first cX1_first 4 (some .int), Cond.methodLink RL 141 yL_shortest, Cond.static yL_shortest, Cond.codeWith yL_shortest cL_shortest 5 (some .int) [(0, 10, 13, 13), (0, 10, 17, 15)], Cond.methodLink RL 70 yX0_shortest, Cond.instanceMethod yX0_shortest, Cond.selects RX0 yX0_shortest yX0_shortest, Cond.code yX0_shortest cX0_shortest 3 (some .int), Cond.methodLink RL 143 yX1_shortest, Cond.instanceMethod yX1_shortest, Cond.selects RX1 yX1_shortest yX1_shortest, Cond.code yX1_shortest cX1_shortest 3 (some .int), Cond.methodLink RL 144 yX0_advise, Cond.instanceMethod yX0_advise, Cond.selects RX0 yX0_advise yX0_advise, Cond.code yX0_advise cX0_advise 5 (some .int), Cond.methodLink RL 147 yX1_advise]
def wsL_law0_r20 : List Cond := [Cond.instanceMethod yX1_advise, Cond.selects RX1 yX1_advise yX1_advise, Cond.code yX1_advise cX1_advise 3 (some .int), Cond.methodLink RL 148 yX0_mean, Cond.instanceMethod yX0_mean, Cond.selects RX0 yX0_mean yX0_mean, Cond.code yX0_mean cX0_mean 1 (some .double), Cond.constantDouble RX0 141 (4617315517961601024), Cond.methodLink RL 152 yX1_mean, Cond.instanceMethod yX1_mean, Cond.selects RX1 yX1_mean yX1_mean, Cond.code yX1_mean cX1_mean 1 (some .double), Cond.constantDouble RX1 137 (4617315517961601024), Cond.methodLink RL 153 yX0_digest, Cond.instanceMethod yX0_digest, Cond.selects RX0 yX0_digest yX0_digest, Cond.code yX0_digest cX0_digest 5 (some .long), Cond.constantLong RX0 143 (1787), Cond.constantLong RX0 145 (31), Cond.methodLink RX0 147 yX0_count, Cond.methodLink RX0 150 yX0_told, Cond.methodLink RX0 153 yX0_digestOfWord, Cond.instanceMethod yX0_digestOfWord, Cond.selects RX0 yX0_digestOfWord yX0_digestOfWord]
def wsL_law0_r21 : List Cond := [Cond.code yX0_digestOfWord cX0_digestOfWord 7 (some .long), Cond.methodLink RX0 156 yX0_word, Cond.methodLink RL 157 yX1_digest, Cond.instanceMethod yX1_digest, Cond.selects RX1 yX1_digest yX1_digest, Cond.code yX1_digest cX1_digest 5 (some .long), Cond.constantLong RX1 139 (1787), Cond.constantLong RX1 141 (31)]
def wsL_law0 : List Cond := (wsL_law0_r1 ++ (wsL_law0_r2 ++ (wsL_law0_r3 ++ (wsL_law0_r4 ++ (wsL_law0_r5 ++ (wsL_law0_r6 ++ (wsL_law0_r7 ++ (wsL_law0_r8 ++ (wsL_law0_r9 ++ (wsL_law0_r10 ++ (wsL_law0_r11 ++ (wsL_law0_r12 ++ (wsL_law0_r13 ++ (wsL_law0_r14 ++ (wsL_law0_r15 ++ (wsL_law0_r16 ++ (wsL_law0_r17 ++ (wsL_law0_r18 ++ (wsL_law0_r19 ++ (wsL_law0_r20 ++ wsL_law0_r21)))))))))))))))))))) ++ wsX00 ++ wsX10 ++ ([] : List Cond)
def wsL_law : List Cond := wsL_law0 ++ (vx_atS RX0 102 "java/lang/IndexOutOfBoundsException" ["java/lang/RuntimeException", "java/lang/Exception"]).filter goodWord ++ (vx_atS RX0 54 "java/lang/IllegalArgumentException" ["java/lang/RuntimeException", "java/lang/Exception"]).filter goodWord ++ (vx_atS RX0 61 "java/lang/IllegalStateException" ["java/lang/RuntimeException", "java/lang/Exception"]).filter goodWord
end
section
set_option maxRecDepth 20000 in
theorem wsL_law0_r1_in : ∀ w ∈ wsL_law0_r1, w ∈ lw_tbl := fun w h => (goodIn_p wsL_law0_r1 [32, 35, 429] (by decide +kernel) (by decide +kernel) w h).1
set_option maxRecDepth 20000 in
theorem wsL_law0_r2_in : ∀ w ∈ wsL_law0_r2, w ∈ lw_tbl := fun w h => (goodIn_p wsL_law0_r2 [433, 438, 441, 448, 451] (by decide +kernel) (by decide +kernel) w h).1
set_option maxRecDepth 20000 in
theorem wsL_law0_r3_in : ∀ w ∈ wsL_law0_r3, w ∈ lw_tbl := fun w h => (goodIn_p wsL_law0_r3 [240, 243, 247, 266] (by decide +kernel) (by decide +kernel) w h).1
set_option maxRecDepth 20000 in
theorem wsL_law0_r4_in : ∀ w ∈ wsL_law0_r4, w ∈ lw_tbl := fun w h => (goodIn_p wsL_law0_r4 [78, 81, 84, 87, 90, 93, 68, 71] (by decide +kernel) (by decide +kernel) w h).1
set_option maxRecDepth 20000 in
theorem wsL_law0_r5_in : ∀ w ∈ wsL_law0_r5, w ∈ lw_tbl := fun w h => (goodIn_p wsL_law0_r5 [96, 62, 65, 481, 484, 488] (by decide +kernel) (by decide +kernel) w h).1
set_option maxRecDepth 20000 in
theorem wsL_law0_r6_in : ∀ w ∈ wsL_law0_r6, w ∈ lw_tbl := fun w h => (goodIn_p wsL_law0_r6 [492, 495, 477, 274, 222] (by decide +kernel) (by decide +kernel) w h).1
set_option maxRecDepth 20000 in
theorem wsL_law0_r7_in : ∀ w ∈ wsL_law0_r7, w ∈ lw_tbl := fun w h => (goodIn_p wsL_law0_r7 [231, 499, 502, 506, 56, 59] (by decide +kernel) (by decide +kernel) w h).1
set_option maxRecDepth 20000 in
theorem wsL_law0_r8_in : ∀ w ∈ wsL_law0_r8, w ∈ lw_tbl := fun w h => (goodIn_p wsL_law0_r8 [510, 298, 514, 518, 306] (by decide +kernel) (by decide +kernel) w h).1
set_option maxRecDepth 20000 in
theorem wsL_law0_r9_in : ∀ w ∈ wsL_law0_r9, w ∈ lw_tbl := fun w h => (goodIn_p wsL_law0_r9 [522, 313, 316, 526, 530] (by decide +kernel) (by decide +kernel) w h).1
set_option maxRecDepth 20000 in
theorem wsL_law0_r10_in : ∀ w ∈ wsL_law0_r10, w ∈ lw_tbl := fun w h => (goodIn_p wsL_law0_r10 [323, 537, 331, 334] (by decide +kernel) (by decide +kernel) w h).1
set_option maxRecDepth 20000 in
theorem wsL_law0_r11_in : ∀ w ∈ wsL_law0_r11, w ∈ lw_tbl := fun w h => (goodIn_p wsL_law0_r11 [541, 207, 210, 120, 545, 549] (by decide +kernel) (by decide +kernel) w h).1
set_option maxRecDepth 20000 in
theorem wsL_law0_r12_in : ∀ w ∈ wsL_law0_r12, w ∈ lw_tbl := fun w h => (goodIn_p wsL_law0_r12 [552, 345, 556, 559, 117] (by decide +kernel) (by decide +kernel) w h).1
set_option maxRecDepth 20000 in
theorem wsL_law0_r13_in : ∀ w ∈ wsL_law0_r13, w ∈ lw_tbl := fun w h => (goodIn_p wsL_law0_r13 [191, 194, 197, 200, 203, 106, 563] (by decide +kernel) (by decide +kernel) w h).1
set_option maxRecDepth 20000 in
theorem wsL_law0_r14_in : ∀ w ∈ wsL_law0_r14, w ∈ lw_tbl := fun w h => (goodIn_p wsL_law0_r14 [567, 570, 573, 576, 580, 219] (by decide +kernel) (by decide +kernel) w h).1
set_option maxRecDepth 20000 in
theorem wsL_law0_r15_in : ∀ w ∈ wsL_law0_r15, w ∈ lw_tbl := fun w h => (goodIn_p wsL_law0_r15 [227, 584, 588, 361, 592] (by decide +kernel) (by decide +kernel) w h).1
set_option maxRecDepth 20000 in
theorem wsL_law0_r16_in : ∀ w ∈ wsL_law0_r16, w ∈ lw_tbl := fun w h => (goodIn_p wsL_law0_r16 [369, 596, 376, 380, 600] (by decide +kernel) (by decide +kernel) w h).1
set_option maxRecDepth 20000 in
theorem wsL_law0_r17_in : ∀ w ∈ wsL_law0_r17, w ∈ lw_tbl := fun w h => (goodIn_p wsL_law0_r17 [387, 604, 394, 397, 401] (by decide +kernel) (by decide +kernel) w h).1
set_option maxRecDepth 20000 in
theorem wsL_law0_r18_in : ∀ w ∈ wsL_law0_r18, w ∈ lw_tbl := fun w h => (goodIn_p wsL_law0_r18 [404, 407, 410, 608, 612, 616] (by decide +kernel) (by decide +kernel) w h).1
set_option maxRecDepth 20000 in
theorem wsL_law0_r19_in : ∀ w ∈ wsL_law0_r19, w ∈ lw_tbl := fun w h => (goodIn_p wsL_law0_r19 [417, 620, 424, 624, 75] (by decide +kernel) (by decide +kernel) w h).1
set_option maxRecDepth 20000 in
theorem wsL_law0_r20_in : ∀ w ∈ wsL_law0_r20, w ∈ lw_tbl := fun w h => (goodIn_p wsL_law0_r20 [628, 102, 632, 111] (by decide +kernel) (by decide +kernel) w h).1
set_option maxRecDepth 20000 in
theorem wsL_law0_r21_in : ∀ w ∈ wsL_law0_r21, w ∈ lw_tbl := fun w h => (goodIn_p wsL_law0_r21 [215, 637] (by decide +kernel) (by decide +kernel) w h).1
theorem wsX00_in : ∀ w ∈ wsX00, w ∈ lw_tbl := by decide +kernel
theorem wsX10_in : ∀ w ∈ wsX10, w ∈ lw_tbl := by decide +kernel
theorem wsL_law_inR (w : Cond) (h : w ∈ (wsL_law0_r1 ++ (wsL_law0_r2 ++ (wsL_law0_r3 ++ (wsL_law0_r4 ++ (wsL_law0_r5 ++ (wsL_law0_r6 ++ (wsL_law0_r7 ++ (wsL_law0_r8 ++ (wsL_law0_r9 ++ (wsL_law0_r10 ++ (wsL_law0_r11 ++ (wsL_law0_r12 ++ (wsL_law0_r13 ++ (wsL_law0_r14 ++ (wsL_law0_r15 ++ (wsL_law0_r16 ++ (wsL_law0_r17 ++ (wsL_law0_r18 ++ (wsL_law0_r19 ++ (wsL_law0_r20 ++ wsL_law0_r21))))))))))))))))))))) : w ∈ lw_tbl := (List.mem_append.mp h).elim (fun h => wsL_law0_r1_in w h) (fun h => (List.mem_append.mp h).elim (fun h => wsL_law0_r2_in w h) (fun h => (List.mem_append.mp h).elim (fun h => wsL_law0_r3_in w h) (fun h => (List.mem_append.mp h).elim (fun h => wsL_law0_r4_in w h) (fun h => (List.mem_append.mp h).elim (fun h => wsL_law0_r5_in w h) (fun h => (List.mem_append.mp h).elim (fun h => wsL_law0_r6_in w h) (fun h => (List.mem_append.mp h).elim (fun h => wsL_law0_r7_in w h) (fun h => (List.mem_append.mp h).elim (fun h => wsL_law0_r8_in w h) (fun h => (List.mem_append.mp h).elim (fun h => wsL_law0_r9_in w h) (fun h => (List.mem_append.mp h).elim (fun h => wsL_law0_r10_in w h) (fun h => (List.mem_append.mp h).elim (fun h => wsL_law0_r11_in w h) (fun h => (List.mem_append.mp h).elim (fun h => wsL_law0_r12_in w h) (fun h => (List.mem_append.mp h).elim (fun h => wsL_law0_r13_in w h) (fun h => (List.mem_append.mp h).elim (fun h => wsL_law0_r14_in w h) (fun h => (List.mem_append.mp h).elim (fun h => wsL_law0_r15_in w h) (fun h => (List.mem_append.mp h).elim (fun h => wsL_law0_r16_in w h) (fun h => (List.mem_append.mp h).elim (fun h => wsL_law0_r17_in w h) (fun h => (List.mem_append.mp h).elim (fun h => wsL_law0_r18_in w h) (fun h => (List.mem_append.mp h).elim (fun h => wsL_law0_r19_in w h) (fun h => (List.mem_append.mp h).elim (fun h => wsL_law0_r20_in w h) (fun h => wsL_law0_r21_in w h))))))))))))))))))))
theorem wsL_law_in0 : ∀ w ∈ wsL_law0, w ∈ lw_tbl := fun w h => (List.mem_append.mp h).elim (fun h => (List.mem_append.mp h).elim (fun h => (List.mem_append.mp h).elim (fun h => wsL_law_inR w h) (fun h => wsX00_in w h)) (fun h => wsX10_in w h)) (fun h => absurd h List.not_mem_nil)
theorem wsL_law_x0 : ∀ w ∈ (vx_atS RX0 102 "java/lang/IndexOutOfBoundsException" ["java/lang/RuntimeException", "java/lang/Exception"]).filter goodWord, w ∈ lw_tbl := by decide +kernel
theorem wsL_law_x1 : ∀ w ∈ (vx_atS RX0 54 "java/lang/IllegalArgumentException" ["java/lang/RuntimeException", "java/lang/Exception"]).filter goodWord, w ∈ lw_tbl := by decide +kernel
theorem wsL_law_x2 : ∀ w ∈ (vx_atS RX0 61 "java/lang/IllegalStateException" ["java/lang/RuntimeException", "java/lang/Exception"]).filter goodWord, w ∈ lw_tbl := by decide +kernel
theorem wsL_law_in : ∀ w ∈ wsL_law, w ∈ lw_tbl := fun w h => (List.mem_append.mp h).elim (fun h => (List.mem_append.mp h).elim (fun h => (List.mem_append.mp h).elim (fun h => wsL_law_in0 w h) (fun h => wsL_law_x0 w h)) (fun h => wsL_law_x1 w h)) (fun h => wsL_law_x2 w h)
theorem inlX0 : ∀ w ∈ wsX00, w ∈ wsL_law := fun _ h => List.mem_append_left _ (List.mem_append_left _ (List.mem_append_left _ (List.mem_append_left _ (List.mem_append_left _ (List.mem_append_right _ h)))))
theorem inX0 : ∀ w ∈ wsX00, w ∈ lw_tbl := fun w h => wsL_law_in w (inlX0 w h)
theorem inlX1 : ∀ w ∈ wsX10, w ∈ wsL_law := fun _ h => List.mem_append_left _ (List.mem_append_left _ (List.mem_append_left _ (List.mem_append_left _ (List.mem_append_right _ h))))
theorem inX1 : ∀ w ∈ wsX10, w ∈ lw_tbl := fun w h => wsL_law_in w (inlX1 w h)
theorem inJ9 : ∀ w ∈ wsJ90, w ∈ lw_tbl := by decide +kernel
theorem inJ0 : ∀ w ∈ wsJ00, w ∈ lw_tbl := by decide +kernel
theorem inJ10 : ∀ w ∈ wsJ100, w ∈ lw_tbl := by decide +kernel
abbrev vwCl : List vw_C := [(RX0, TX0, 4), (RX1, TX1, 7)]
end
section
theorem dX0_init_0 : decode cX0_init 0 = .ok (.aload_n 0, 1) := by decide +kernel
theorem dX0_init_1 : decode cX0_init 1 = .ok (.invokespecial 1, 3) := by decide +kernel
theorem dX0_init_4 : decode cX0_init 4 = .ok (.aload_n 0, 1) := by decide +kernel
theorem dX0_init_5 : decode cX0_init 5 = .ok (.ldc2_w 9, 3) := by decide +kernel
theorem dX0_init_8 : decode cX0_init 8 = .ok (.putfield 11, 3) := by decide +kernel
theorem dX0_init_11 : decode cX0_init 11 = .ok (.aload_n 0, 1) := by decide +kernel
theorem dX0_init_12 : decode cX0_init 12 = .ok (.iconst 0, 1) := by decide +kernel
theorem dX0_init_13 : decode cX0_init 13 = .ok (.putfield 15, 3) := by decide +kernel
theorem dX0_init_16 : decode cX0_init 16 = .ok (.aload_n 0, 1) := by decide +kernel
theorem dX0_init_17 : decode cX0_init 17 = .ok (.iconst 5, 1) := by decide +kernel
theorem dX0_init_18 : decode cX0_init 18 = .ok (.bipush 12, 2) := by decide +kernel
theorem dX0_init_20 : decode cX0_init 20 = .ok (.multianewarray 19 2, 4) := by decide +kernel
theorem dX0_init_24 : decode cX0_init 24 = .ok (.putfield 21, 3) := by decide +kernel
theorem dX0_init_27 : decode cX0_init 27 = .ok (.aload_n 0, 1) := by decide +kernel
theorem dX0_init_28 : decode cX0_init 28 = .ok (.iconst 5, 1) := by decide +kernel
theorem dX0_init_29 : decode cX0_init 29 = .ok (.newarray .int, 2) := by decide +kernel
theorem dX0_init_31 : decode cX0_init 31 = .ok (.putfield 24, 3) := by decide +kernel
theorem dX0_init_34 : decode cX0_init 34 = .ok (.return_, 1) := by decide +kernel
set_option maxRecDepth 20000 in
theorem ggX0_turn_X0_checkFace : GoodIn wsX0_turn wsX0_checkFace := goodIn_ca (goodIn_r _ [6, 7, 8] (by decide +kernel) (by decide +kernel)) (goodIn_sub (fun _ h => List.mem_cons_of_mem _ (List.mem_append_left _ (List.mem_append_right _ h))) (by decide +kernel))
set_option maxRecDepth 20000 in
theorem gX0_turn_X0_checkFace : GoodIn wsX0_turn (va_wsS RX0 28 yX0_checkFace wsX0_checkFace) := goodIn_app (goodIn_of _ (by decide +kernel)) ggX0_turn_X0_checkFace
set_option maxRecDepth 20000 in
theorem ggX0_turn_X0_checkQuarters : GoodIn wsX0_turn wsX0_checkQuarters := goodIn_ca (goodIn_r _ [11, 12, 13] (by decide +kernel) (by decide +kernel)) (goodIn_sub (fun _ h => List.mem_cons_of_mem _ (List.mem_append_right _ h)) (by decide +kernel))
set_option maxRecDepth 20000 in
theorem gX0_turn_X0_checkQuarters : GoodIn wsX0_turn (va_wsS RX0 32 yX0_checkQuarters wsX0_checkQuarters) := goodIn_app (goodIn_of _ (by decide +kernel)) ggX0_turn_X0_checkQuarters
set_option maxRecDepth 20000 in
theorem ggX0_turn_X0_turnNumber : GoodIn wsX0_turn wsX0_turnNumber := goodIn_r _ [16] (by decide +kernel) (by decide +kernel)
set_option maxRecDepth 20000 in
theorem gX0_turn_X0_turnNumber : GoodIn wsX0_turn (va_wsS RX0 35 yX0_turnNumber wsX0_turnNumber) := goodIn_app (goodIn_of _ (by decide +kernel)) ggX0_turn_X0_turnNumber
set_option maxRecDepth 20000 in
theorem ggX0_turn_X0_turned : GoodIn wsX0_turn wsX0_turned := goodIn_r _ [19, 20, 21, 5, 22, 23, 24, 25, 26, 27, 28, 29, 30, 31, 32, 33, 34, 35, 36, 37, 38, 39, 40, 41, 42, 43, 44, 45] (by decide +kernel) (by decide +kernel)
set_option maxRecDepth 20000 in
theorem gX0_turn_X0_turned : GoodIn wsX0_turn (va_wsS RX0 39 yX0_turned wsX0_turned) := goodIn_app (goodIn_of _ (by decide +kernel)) ggX0_turn_X0_turned
set_option maxRecDepth 20000 in
theorem ggX0_turn_X0_rightCorners : GoodIn wsX0_turn wsX0_rightCorners := goodIn_r _ [48, 49, 50, 5, 51, 35, 36, 37, 38, 39, 40] (by decide +kernel) (by decide +kernel)
set_option maxRecDepth 20000 in
theorem gX0_turn_X0_rightCorners : GoodIn wsX0_turn (va_wsS RX0 43 yX0_rightCorners wsX0_rightCorners) := goodIn_app (goodIn_of _ (by decide +kernel)) ggX0_turn_X0_rightCorners
theorem dX0_turn_0 : decode cX0_turn 0 = .ok (.iload_n 1, 1) := by decide +kernel
theorem dX0_turn_1 : decode cX0_turn 1 = .ok (.invokestatic 28, 3) := by decide +kernel
theorem dX0_turn_4 : decode cX0_turn 4 = .ok (.iload_n 2, 1) := by decide +kernel
theorem dX0_turn_5 : decode cX0_turn 5 = .ok (.invokestatic 32, 3) := by decide +kernel
theorem dX0_turn_8 : decode cX0_turn 8 = .ok (.aload_n 0, 1) := by decide +kernel
theorem dX0_turn_9 : decode cX0_turn 9 = .ok (.aload_n 0, 1) := by decide +kernel
theorem dX0_turn_10 : decode cX0_turn 10 = .ok (.getfield 11, 3) := by decide +kernel
theorem dX0_turn_13 : decode cX0_turn 13 = .ok (.iload_n 1, 1) := by decide +kernel
theorem dX0_turn_14 : decode cX0_turn 14 = .ok (.iload_n 2, 1) := by decide +kernel
theorem dX0_turn_15 : decode cX0_turn 15 = .ok (.invokestatic 35, 3) := by decide +kernel
theorem dX0_turn_18 : decode cX0_turn 18 = .ok (.invokestatic 39, 3) := by decide +kernel
theorem dX0_turn_21 : decode cX0_turn 21 = .ok (.putfield 11, 3) := by decide +kernel
theorem dX0_turn_24 : decode cX0_turn 24 = .ok (.aload_n 0, 1) := by decide +kernel
theorem dX0_turn_25 : decode cX0_turn 25 = .ok (.dup, 1) := by decide +kernel
theorem dX0_turn_26 : decode cX0_turn 26 = .ok (.getfield 15, 3) := by decide +kernel
theorem dX0_turn_29 : decode cX0_turn 29 = .ok (.iconst 1, 1) := by decide +kernel
theorem dX0_turn_30 : decode cX0_turn 30 = .ok (.iadd, 1) := by decide +kernel
theorem dX0_turn_31 : decode cX0_turn 31 = .ok (.putfield 15, 3) := by decide +kernel
theorem dX0_turn_34 : decode cX0_turn 34 = .ok (.aload_n 0, 1) := by decide +kernel
theorem dX0_turn_35 : decode cX0_turn 35 = .ok (.getfield 11, 3) := by decide +kernel
theorem dX0_turn_38 : decode cX0_turn 38 = .ok (.invokestatic 43, 3) := by decide +kernel
theorem dX0_turn_41 : decode cX0_turn 41 = .ok (.ireturn, 1) := by decide +kernel
set_option maxRecDepth 20000 in
theorem ggX0_play_X0_checkWord : GoodIn wsX0_play wsX0_checkWord := goodIn_ca (goodIn_r _ [11, 12, 13] (by decide +kernel) (by decide +kernel)) (goodIn_sub (fun _ h => List.mem_cons_of_mem _ (List.mem_append_right _ h)) (by decide +kernel))
set_option maxRecDepth 20000 in
theorem gX0_play_X0_checkWord : GoodIn wsX0_play (va_wsS RX0 47 yX0_checkWord wsX0_checkWord) := goodIn_app (goodIn_of _ (by decide +kernel)) ggX0_play_X0_checkWord
set_option maxRecDepth 20000 in
theorem ggX0_play_X0_behindWord : GoodIn wsX0_play wsX0_behindWord := goodIn_r _ [17, 5, 18, 19, 20, 10, 21, 22, 23, 24, 25, 26, 27, 28, 29, 30, 31, 32, 33, 34, 35, 36, 37, 38, 39, 40, 41, 42, 43, 44, 45, 46, 47, 54, 55, 56, 57] (by decide +kernel) (by decide +kernel)
set_option maxRecDepth 20000 in
theorem gX0_play_X0_behindWord : GoodIn wsX0_play (wsV RX0 62 RX0 yX0_behindWord wsX0_behindWord) := goodIn_app (goodIn_of _ (by decide +kernel)) ggX0_play_X0_behindWord
set_option maxRecDepth 20000 in
theorem ggX0_play_X0_rightCorners : GoodIn wsX0_play wsX0_rightCorners := goodIn_r _ [50, 51, 52, 10, 53, 37, 38, 39, 40, 41, 42] (by decide +kernel) (by decide +kernel)
set_option maxRecDepth 20000 in
theorem gX0_play_X0_rightCorners : GoodIn wsX0_play (va_wsS RX0 43 yX0_rightCorners wsX0_rightCorners) := goodIn_app (goodIn_of _ (by decide +kernel)) ggX0_play_X0_rightCorners
theorem dX0_play_0 : decode cX0_play 0 = .ok (.iload_n 1, 1) := by decide +kernel
theorem dX0_play_1 : decode cX0_play 1 = .ok (.invokestatic 47, 3) := by decide +kernel
theorem dX0_play_4 : decode cX0_play 4 = .ok (.iload_n 2, 1) := by decide +kernel
theorem dX0_play_5 : decode cX0_play 5 = .ok (.iconst 1, 1) := by decide +kernel
theorem dX0_play_6 : decode cX0_play 6 = .ok (.if_icmp .lt 9, 3) := by decide +kernel
theorem dX0_play_9 : decode cX0_play 9 = .ok (.iload_n 2, 1) := by decide +kernel
theorem dX0_play_10 : decode cX0_play 10 = .ok (.bipush 50, 2) := by decide +kernel
theorem dX0_play_12 : decode cX0_play 12 = .ok (.if_icmp .le 13, 3) := by decide +kernel
theorem dX0_play_15 : decode cX0_play 15 = .ok (.new 50, 3) := by decide +kernel
theorem dX0_play_18 : decode cX0_play 18 = .ok (.dup, 1) := by decide +kernel
theorem dX0_play_19 : decode cX0_play 19 = .ok (.ldc 52, 2) := by decide +kernel
theorem dX0_play_21 : decode cX0_play 21 = .ok (.invokespecial 54, 3) := by decide +kernel
theorem dX0_play_24 : decode cX0_play 24 = .ok (.athrow, 1) := by decide +kernel
theorem dX0_play_25 : decode cX0_play 25 = .ok (.aload_n 0, 1) := by decide +kernel
theorem dX0_play_26 : decode cX0_play 26 = .ok (.getfield 24, 3) := by decide +kernel
theorem dX0_play_29 : decode cX0_play 29 = .ok (.iload_n 1, 1) := by decide +kernel
theorem dX0_play_30 : decode cX0_play 30 = .ok (.iaload, 1) := by decide +kernel
theorem dX0_play_31 : decode cX0_play 31 = .ok (.ifCond .ne 13, 3) := by decide +kernel
theorem dX0_play_34 : decode cX0_play 34 = .ok (.new 57, 3) := by decide +kernel
theorem dX0_play_37 : decode cX0_play 37 = .ok (.dup, 1) := by decide +kernel
theorem dX0_play_38 : decode cX0_play 38 = .ok (.ldc 59, 2) := by decide +kernel
theorem dX0_play_40 : decode cX0_play 40 = .ok (.invokespecial 61, 3) := by decide +kernel
theorem dX0_play_43 : decode cX0_play 43 = .ok (.athrow, 1) := by decide +kernel
theorem dX0_play_44 : decode cX0_play 44 = .ok (.iconst 0, 1) := by decide +kernel
theorem dX0_play_45 : decode cX0_play 45 = .ok (.istore_n 3, 1) := by decide +kernel
theorem dX0_play_46 : decode cX0_play 46 = .ok (.iload_n 3, 1) := by decide +kernel
theorem dX0_play_47 : decode cX0_play 47 = .ok (.iload_n 2, 1) := by decide +kernel
theorem dX0_play_48 : decode cX0_play 48 = .ok (.if_icmp .ge 22, 3) := by decide +kernel
theorem dX0_play_51 : decode cX0_play 51 = .ok (.aload_n 0, 1) := by decide +kernel
theorem dX0_play_52 : decode cX0_play 52 = .ok (.aload_n 0, 1) := by decide +kernel
theorem dX0_play_53 : decode cX0_play 53 = .ok (.aload_n 0, 1) := by decide +kernel
theorem dX0_play_54 : decode cX0_play 54 = .ok (.getfield 11, 3) := by decide +kernel
theorem dX0_play_57 : decode cX0_play 57 = .ok (.iload_n 1, 1) := by decide +kernel
theorem dX0_play_58 : decode cX0_play 58 = .ok (.invokevirtual 62, 3) := by decide +kernel
theorem dX0_play_61 : decode cX0_play 61 = .ok (.putfield 11, 3) := by decide +kernel
theorem dX0_play_64 : decode cX0_play 64 = .ok (.iinc 3 1, 3) := by decide +kernel
theorem dX0_play_67 : decode cX0_play 67 = .ok (.goto (-21), 3) := by decide +kernel
theorem dX0_play_70 : decode cX0_play 70 = .ok (.aload_n 0, 1) := by decide +kernel
theorem dX0_play_71 : decode cX0_play 71 = .ok (.dup, 1) := by decide +kernel
theorem dX0_play_72 : decode cX0_play 72 = .ok (.getfield 15, 3) := by decide +kernel
theorem dX0_play_75 : decode cX0_play 75 = .ok (.iload_n 2, 1) := by decide +kernel
theorem dX0_play_76 : decode cX0_play 76 = .ok (.aload_n 0, 1) := by decide +kernel
theorem dX0_play_77 : decode cX0_play 77 = .ok (.getfield 24, 3) := by decide +kernel
theorem dX0_play_80 : decode cX0_play 80 = .ok (.iload_n 1, 1) := by decide +kernel
theorem dX0_play_81 : decode cX0_play 81 = .ok (.iaload, 1) := by decide +kernel
theorem dX0_play_82 : decode cX0_play 82 = .ok (.imul, 1) := by decide +kernel
theorem dX0_play_83 : decode cX0_play 83 = .ok (.iadd, 1) := by decide +kernel
theorem dX0_play_84 : decode cX0_play 84 = .ok (.putfield 15, 3) := by decide +kernel
theorem dX0_play_87 : decode cX0_play 87 = .ok (.aload_n 0, 1) := by decide +kernel
theorem dX0_play_88 : decode cX0_play 88 = .ok (.getfield 11, 3) := by decide +kernel
theorem dX0_play_91 : decode cX0_play 91 = .ok (.invokestatic 43, 3) := by decide +kernel
theorem dX0_play_94 : decode cX0_play 94 = .ok (.ireturn, 1) := by decide +kernel
set_option maxRecDepth 20000 in
theorem ggX0_reset_X0_wrongCorners : GoodIn wsX0_reset wsX0_wrongCorners := goodIn_r _ [6, 7, 8, 5, 9, 10, 11, 12, 13, 14, 15, 16, 17, 18] (by decide +kernel) (by decide +kernel)
set_option maxRecDepth 20000 in
theorem gX0_reset_X0_wrongCorners : GoodIn wsX0_reset (va_wsS RX0 65 yX0_wrongCorners wsX0_wrongCorners) := goodIn_app (goodIn_of _ (by decide +kernel)) ggX0_reset_X0_wrongCorners
theorem dX0_reset_0 : decode cX0_reset 0 = .ok (.aload_n 0, 1) := by decide +kernel
theorem dX0_reset_1 : decode cX0_reset 1 = .ok (.getfield 11, 3) := by decide +kernel
theorem dX0_reset_4 : decode cX0_reset 4 = .ok (.invokestatic 65, 3) := by decide +kernel
theorem dX0_reset_7 : decode cX0_reset 7 = .ok (.istore_n 1, 1) := by decide +kernel
theorem dX0_reset_8 : decode cX0_reset 8 = .ok (.aload_n 0, 1) := by decide +kernel
theorem dX0_reset_9 : decode cX0_reset 9 = .ok (.ldc2_w 9, 3) := by decide +kernel
theorem dX0_reset_12 : decode cX0_reset 12 = .ok (.putfield 11, 3) := by decide +kernel
theorem dX0_reset_15 : decode cX0_reset 15 = .ok (.iload_n 1, 1) := by decide +kernel
theorem dX0_reset_16 : decode cX0_reset 16 = .ok (.ireturn, 1) := by decide +kernel
set_option maxRecDepth 20000 in
theorem ggX0_say_X0_checkWord : GoodIn wsX0_say wsX0_checkWord := goodIn_ca (goodIn_r _ [8, 9, 10] (by decide +kernel) (by decide +kernel)) (goodIn_sub (fun _ h => List.mem_cons_of_mem _ (List.mem_append_left _ (List.mem_append_right _ h))) (by decide +kernel))
set_option maxRecDepth 20000 in
theorem gX0_say_X0_checkWord : GoodIn wsX0_say (va_wsS RX0 47 yX0_checkWord wsX0_checkWord) := goodIn_app (goodIn_of _ (by decide +kernel)) ggX0_say_X0_checkWord
set_option maxRecDepth 20000 in
theorem ggX0_say_X0_checkFace : GoodIn wsX0_say wsX0_checkFace := goodIn_ca (goodIn_r _ [13, 9, 10] (by decide +kernel) (by decide +kernel)) (goodIn_sub (fun _ h => List.mem_cons_of_mem _ (List.mem_append_left _ (List.mem_append_right _ h))) (by decide +kernel))
set_option maxRecDepth 20000 in
theorem gX0_say_X0_checkFace : GoodIn wsX0_say (va_wsS RX0 28 yX0_checkFace wsX0_checkFace) := goodIn_app (goodIn_of _ (by decide +kernel)) ggX0_say_X0_checkFace
set_option maxRecDepth 20000 in
theorem ggX0_say_X0_checkQuarters : GoodIn wsX0_say wsX0_checkQuarters := goodIn_ca (goodIn_r _ [16, 17, 18] (by decide +kernel) (by decide +kernel)) (goodIn_sub (fun _ h => List.mem_cons_of_mem _ (List.mem_append_right _ h)) (by decide +kernel))
set_option maxRecDepth 20000 in
theorem gX0_say_X0_checkQuarters : GoodIn wsX0_say (va_wsS RX0 32 yX0_checkQuarters wsX0_checkQuarters) := goodIn_app (goodIn_of _ (by decide +kernel)) ggX0_say_X0_checkQuarters
set_option maxRecDepth 20000 in
theorem ggX0_say_X0_turnNumber : GoodIn wsX0_say wsX0_turnNumber := goodIn_r _ [21] (by decide +kernel) (by decide +kernel)
set_option maxRecDepth 20000 in
theorem gX0_say_X0_turnNumber : GoodIn wsX0_say (va_wsS RX0 35 yX0_turnNumber wsX0_turnNumber) := goodIn_app (goodIn_of _ (by decide +kernel)) ggX0_say_X0_turnNumber
theorem dX0_say_0 : decode cX0_say 0 = .ok (.iload_n 1, 1) := by decide +kernel
theorem dX0_say_1 : decode cX0_say 1 = .ok (.invokestatic 47, 3) := by decide +kernel
theorem dX0_say_4 : decode cX0_say 4 = .ok (.iload_n 2, 1) := by decide +kernel
theorem dX0_say_5 : decode cX0_say 5 = .ok (.invokestatic 28, 3) := by decide +kernel
theorem dX0_say_8 : decode cX0_say 8 = .ok (.iload_n 3, 1) := by decide +kernel
theorem dX0_say_9 : decode cX0_say 9 = .ok (.invokestatic 32, 3) := by decide +kernel
theorem dX0_say_12 : decode cX0_say 12 = .ok (.aload_n 0, 1) := by decide +kernel
theorem dX0_say_13 : decode cX0_say 13 = .ok (.getfield 24, 3) := by decide +kernel
theorem dX0_say_16 : decode cX0_say 16 = .ok (.iload_n 1, 1) := by decide +kernel
theorem dX0_say_17 : decode cX0_say 17 = .ok (.iaload, 1) := by decide +kernel
theorem dX0_say_18 : decode cX0_say 18 = .ok (.bipush 12, 2) := by decide +kernel
theorem dX0_say_20 : decode cX0_say 20 = .ok (.if_icmp .lt 13, 3) := by decide +kernel
theorem dX0_say_23 : decode cX0_say 23 = .ok (.new 57, 3) := by decide +kernel
theorem dX0_say_26 : decode cX0_say 26 = .ok (.dup, 1) := by decide +kernel
theorem dX0_say_27 : decode cX0_say 27 = .ok (.ldc 68, 2) := by decide +kernel
theorem dX0_say_29 : decode cX0_say 29 = .ok (.invokespecial 61, 3) := by decide +kernel
theorem dX0_say_32 : decode cX0_say 32 = .ok (.athrow, 1) := by decide +kernel
theorem dX0_say_33 : decode cX0_say 33 = .ok (.aload_n 0, 1) := by decide +kernel
theorem dX0_say_34 : decode cX0_say 34 = .ok (.getfield 21, 3) := by decide +kernel
theorem dX0_say_37 : decode cX0_say 37 = .ok (.iload_n 1, 1) := by decide +kernel
theorem dX0_say_38 : decode cX0_say 38 = .ok (.aaload, 1) := by decide +kernel
theorem dX0_say_39 : decode cX0_say 39 = .ok (.aload_n 0, 1) := by decide +kernel
theorem dX0_say_40 : decode cX0_say 40 = .ok (.getfield 24, 3) := by decide +kernel
theorem dX0_say_43 : decode cX0_say 43 = .ok (.iload_n 1, 1) := by decide +kernel
theorem dX0_say_44 : decode cX0_say 44 = .ok (.iaload, 1) := by decide +kernel
theorem dX0_say_45 : decode cX0_say 45 = .ok (.iload_n 2, 1) := by decide +kernel
theorem dX0_say_46 : decode cX0_say 46 = .ok (.iload_n 3, 1) := by decide +kernel
theorem dX0_say_47 : decode cX0_say 47 = .ok (.invokestatic 35, 3) := by decide +kernel
theorem dX0_say_50 : decode cX0_say 50 = .ok (.iastore, 1) := by decide +kernel
theorem dX0_say_51 : decode cX0_say 51 = .ok (.aload_n 0, 1) := by decide +kernel
theorem dX0_say_52 : decode cX0_say 52 = .ok (.getfield 24, 3) := by decide +kernel
theorem dX0_say_55 : decode cX0_say 55 = .ok (.iload_n 1, 1) := by decide +kernel
theorem dX0_say_56 : decode cX0_say 56 = .ok (.dup2, 1) := by decide +kernel
theorem dX0_say_57 : decode cX0_say 57 = .ok (.iaload, 1) := by decide +kernel
theorem dX0_say_58 : decode cX0_say 58 = .ok (.iconst 1, 1) := by decide +kernel
theorem dX0_say_59 : decode cX0_say 59 = .ok (.iadd, 1) := by decide +kernel
theorem dX0_say_60 : decode cX0_say 60 = .ok (.iastore, 1) := by decide +kernel
theorem dX0_say_61 : decode cX0_say 61 = .ok (.aload_n 0, 1) := by decide +kernel
theorem dX0_say_62 : decode cX0_say 62 = .ok (.getfield 24, 3) := by decide +kernel
theorem dX0_say_65 : decode cX0_say 65 = .ok (.iload_n 1, 1) := by decide +kernel
theorem dX0_say_66 : decode cX0_say 66 = .ok (.iaload, 1) := by decide +kernel
theorem dX0_say_67 : decode cX0_say 67 = .ok (.ireturn, 1) := by decide +kernel
set_option maxRecDepth 20000 in
theorem ggX0_wipe_X0_checkWord : GoodIn wsX0_wipe wsX0_checkWord := goodIn_ca (goodIn_r _ [5, 6, 7] (by decide +kernel) (by decide +kernel)) (goodIn_sub (fun _ h => List.mem_cons_of_mem _ (List.mem_append_right _ h)) (by decide +kernel))
set_option maxRecDepth 20000 in
theorem gX0_wipe_X0_checkWord : GoodIn wsX0_wipe (va_wsS RX0 47 yX0_checkWord wsX0_checkWord) := goodIn_app (goodIn_of _ (by decide +kernel)) ggX0_wipe_X0_checkWord
theorem dX0_wipe_0 : decode cX0_wipe 0 = .ok (.iload_n 1, 1) := by decide +kernel
theorem dX0_wipe_1 : decode cX0_wipe 1 = .ok (.invokestatic 47, 3) := by decide +kernel
theorem dX0_wipe_4 : decode cX0_wipe 4 = .ok (.aload_n 0, 1) := by decide +kernel
theorem dX0_wipe_5 : decode cX0_wipe 5 = .ok (.getfield 24, 3) := by decide +kernel
theorem dX0_wipe_8 : decode cX0_wipe 8 = .ok (.iload_n 1, 1) := by decide +kernel
theorem dX0_wipe_9 : decode cX0_wipe 9 = .ok (.iaload, 1) := by decide +kernel
theorem dX0_wipe_10 : decode cX0_wipe 10 = .ok (.istore_n 2, 1) := by decide +kernel
theorem dX0_wipe_11 : decode cX0_wipe 11 = .ok (.aload_n 0, 1) := by decide +kernel
theorem dX0_wipe_12 : decode cX0_wipe 12 = .ok (.getfield 24, 3) := by decide +kernel
theorem dX0_wipe_15 : decode cX0_wipe 15 = .ok (.iload_n 1, 1) := by decide +kernel
theorem dX0_wipe_16 : decode cX0_wipe 16 = .ok (.iconst 0, 1) := by decide +kernel
theorem dX0_wipe_17 : decode cX0_wipe 17 = .ok (.iastore, 1) := by decide +kernel
theorem dX0_wipe_18 : decode cX0_wipe 18 = .ok (.iload_n 2, 1) := by decide +kernel
theorem dX0_wipe_19 : decode cX0_wipe 19 = .ok (.ireturn, 1) := by decide +kernel
set_option maxRecDepth 20000 in
theorem ggX0_round_X0_checkWord : GoodIn wsX0_round wsX0_checkWord := goodIn_ca (goodIn_r _ [6, 7, 8] (by decide +kernel) (by decide +kernel)) (goodIn_sub (fun _ h => List.mem_cons_of_mem _ (List.mem_append_right _ h)) (by decide +kernel))
set_option maxRecDepth 20000 in
theorem gX0_round_X0_checkWord : GoodIn wsX0_round (va_wsS RX0 47 yX0_checkWord wsX0_checkWord) := goodIn_app (goodIn_of _ (by decide +kernel)) ggX0_round_X0_checkWord
set_option maxRecDepth 20000 in
theorem ggX0_round_X0_turnedBack : GoodIn wsX0_round wsX0_turnedBack := goodIn_r _ [11, 12, 13, 5, 14, 15, 16, 17, 18, 19, 20] (by decide +kernel) (by decide +kernel)
set_option maxRecDepth 20000 in
theorem gX0_round_X0_turnedBack : GoodIn wsX0_round (va_wsS RX0 70 yX0_turnedBack wsX0_turnedBack) := goodIn_app (goodIn_of _ (by decide +kernel)) ggX0_round_X0_turnedBack
theorem dX0_round_0 : decode cX0_round 0 = .ok (.iload_n 1, 1) := by decide +kernel
theorem dX0_round_1 : decode cX0_round 1 = .ok (.invokestatic 47, 3) := by decide +kernel
theorem dX0_round_4 : decode cX0_round 4 = .ok (.aload_n 0, 1) := by decide +kernel
theorem dX0_round_5 : decode cX0_round 5 = .ok (.getfield 21, 3) := by decide +kernel
theorem dX0_round_8 : decode cX0_round 8 = .ok (.iload_n 1, 1) := by decide +kernel
theorem dX0_round_9 : decode cX0_round 9 = .ok (.aaload, 1) := by decide +kernel
theorem dX0_round_10 : decode cX0_round 10 = .ok (.astore_n 2, 1) := by decide +kernel
theorem dX0_round_11 : decode cX0_round 11 = .ok (.iconst 0, 1) := by decide +kernel
theorem dX0_round_12 : decode cX0_round 12 = .ok (.istore_n 3, 1) := by decide +kernel
theorem dX0_round_13 : decode cX0_round 13 = .ok (.aload_n 0, 1) := by decide +kernel
theorem dX0_round_14 : decode cX0_round 14 = .ok (.getfield 24, 3) := by decide +kernel
theorem dX0_round_17 : decode cX0_round 17 = .ok (.iload_n 1, 1) := by decide +kernel
theorem dX0_round_18 : decode cX0_round 18 = .ok (.iaload, 1) := by decide +kernel
theorem dX0_round_19 : decode cX0_round 19 = .ok (.iconst 1, 1) := by decide +kernel
theorem dX0_round_20 : decode cX0_round 20 = .ok (.isub, 1) := by decide +kernel
theorem dX0_round_21 : decode cX0_round 21 = .ok (.istore 4, 2) := by decide +kernel
theorem dX0_round_23 : decode cX0_round 23 = .ok (.iload_n 3, 1) := by decide +kernel
theorem dX0_round_24 : decode cX0_round 24 = .ok (.iload 4, 2) := by decide +kernel
theorem dX0_round_26 : decode cX0_round 26 = .ok (.if_icmp .gt 36, 3) := by decide +kernel
theorem dX0_round_29 : decode cX0_round 29 = .ok (.aload_n 2, 1) := by decide +kernel
theorem dX0_round_30 : decode cX0_round 30 = .ok (.iload_n 3, 1) := by decide +kernel
theorem dX0_round_31 : decode cX0_round 31 = .ok (.iaload, 1) := by decide +kernel
theorem dX0_round_32 : decode cX0_round 32 = .ok (.istore 5, 2) := by decide +kernel
theorem dX0_round_34 : decode cX0_round 34 = .ok (.aload_n 2, 1) := by decide +kernel
theorem dX0_round_35 : decode cX0_round 35 = .ok (.iload_n 3, 1) := by decide +kernel
theorem dX0_round_36 : decode cX0_round 36 = .ok (.aload_n 2, 1) := by decide +kernel
theorem dX0_round_37 : decode cX0_round 37 = .ok (.iload 4, 2) := by decide +kernel
theorem dX0_round_39 : decode cX0_round 39 = .ok (.iaload, 1) := by decide +kernel
theorem dX0_round_40 : decode cX0_round 40 = .ok (.invokestatic 70, 3) := by decide +kernel
theorem dX0_round_43 : decode cX0_round 43 = .ok (.iastore, 1) := by decide +kernel
theorem dX0_round_44 : decode cX0_round 44 = .ok (.aload_n 2, 1) := by decide +kernel
theorem dX0_round_45 : decode cX0_round 45 = .ok (.iload 4, 2) := by decide +kernel
theorem dX0_round_47 : decode cX0_round 47 = .ok (.iload 5, 2) := by decide +kernel
theorem dX0_round_49 : decode cX0_round 49 = .ok (.invokestatic 70, 3) := by decide +kernel
theorem dX0_round_52 : decode cX0_round 52 = .ok (.iastore, 1) := by decide +kernel
theorem dX0_round_53 : decode cX0_round 53 = .ok (.iinc 3 1, 3) := by decide +kernel
theorem dX0_round_56 : decode cX0_round 56 = .ok (.iinc 4 (-1), 3) := by decide +kernel
theorem dX0_round_59 : decode cX0_round 59 = .ok (.goto (-36), 3) := by decide +kernel
theorem dX0_round_62 : decode cX0_round 62 = .ok (.aload_n 0, 1) := by decide +kernel
theorem dX0_round_63 : decode cX0_round 63 = .ok (.getfield 24, 3) := by decide +kernel
theorem dX0_round_66 : decode cX0_round 66 = .ok (.iload_n 1, 1) := by decide +kernel
theorem dX0_round_67 : decode cX0_round 67 = .ok (.iaload, 1) := by decide +kernel
theorem dX0_round_68 : decode cX0_round 68 = .ok (.ireturn, 1) := by decide +kernel
set_option maxRecDepth 20000 in
theorem ggX0_join_X0_checkWord : GoodIn wsX0_join wsX0_checkWord := goodIn_ca (goodIn_r _ [8, 9, 10] (by decide +kernel) (by decide +kernel)) (goodIn_sub (fun _ h => List.mem_cons_of_mem _ (List.mem_append_right _ h)) (by decide +kernel))
set_option maxRecDepth 20000 in
theorem gX0_join_X0_checkWord : GoodIn wsX0_join (va_wsS RX0 47 yX0_checkWord wsX0_checkWord) := goodIn_app (goodIn_of _ (by decide +kernel)) ggX0_join_X0_checkWord
theorem dX0_join_0 : decode cX0_join 0 = .ok (.iload_n 1, 1) := by decide +kernel
theorem dX0_join_1 : decode cX0_join 1 = .ok (.invokestatic 47, 3) := by decide +kernel
theorem dX0_join_4 : decode cX0_join 4 = .ok (.iload_n 2, 1) := by decide +kernel
theorem dX0_join_5 : decode cX0_join 5 = .ok (.invokestatic 47, 3) := by decide +kernel
theorem dX0_join_8 : decode cX0_join 8 = .ok (.aload_n 0, 1) := by decide +kernel
theorem dX0_join_9 : decode cX0_join 9 = .ok (.getfield 24, 3) := by decide +kernel
theorem dX0_join_12 : decode cX0_join 12 = .ok (.iload_n 2, 1) := by decide +kernel
theorem dX0_join_13 : decode cX0_join 13 = .ok (.iaload, 1) := by decide +kernel
theorem dX0_join_14 : decode cX0_join 14 = .ok (.istore_n 3, 1) := by decide +kernel
theorem dX0_join_15 : decode cX0_join 15 = .ok (.aload_n 0, 1) := by decide +kernel
theorem dX0_join_16 : decode cX0_join 16 = .ok (.getfield 24, 3) := by decide +kernel
theorem dX0_join_19 : decode cX0_join 19 = .ok (.iload_n 1, 1) := by decide +kernel
theorem dX0_join_20 : decode cX0_join 20 = .ok (.iaload, 1) := by decide +kernel
theorem dX0_join_21 : decode cX0_join 21 = .ok (.iload_n 3, 1) := by decide +kernel
theorem dX0_join_22 : decode cX0_join 22 = .ok (.iadd, 1) := by decide +kernel
theorem dX0_join_23 : decode cX0_join 23 = .ok (.bipush 12, 2) := by decide +kernel
theorem dX0_join_25 : decode cX0_join 25 = .ok (.if_icmp .le 13, 3) := by decide +kernel
theorem dX0_join_28 : decode cX0_join 28 = .ok (.new 57, 3) := by decide +kernel
theorem dX0_join_31 : decode cX0_join 31 = .ok (.dup, 1) := by decide +kernel
theorem dX0_join_32 : decode cX0_join 32 = .ok (.ldc 74, 2) := by decide +kernel
theorem dX0_join_34 : decode cX0_join 34 = .ok (.invokespecial 61, 3) := by decide +kernel
theorem dX0_join_37 : decode cX0_join 37 = .ok (.athrow, 1) := by decide +kernel
theorem dX0_join_38 : decode cX0_join 38 = .ok (.iconst 0, 1) := by decide +kernel
theorem dX0_join_39 : decode cX0_join 39 = .ok (.istore 4, 2) := by decide +kernel
theorem dX0_join_41 : decode cX0_join 41 = .ok (.iload 4, 2) := by decide +kernel
theorem dX0_join_43 : decode cX0_join 43 = .ok (.iload_n 3, 1) := by decide +kernel
theorem dX0_join_44 : decode cX0_join 44 = .ok (.if_icmp .ge 34, 3) := by decide +kernel
theorem dX0_join_47 : decode cX0_join 47 = .ok (.aload_n 0, 1) := by decide +kernel
theorem dX0_join_48 : decode cX0_join 48 = .ok (.getfield 21, 3) := by decide +kernel
theorem dX0_join_51 : decode cX0_join 51 = .ok (.iload_n 1, 1) := by decide +kernel
theorem dX0_join_52 : decode cX0_join 52 = .ok (.aaload, 1) := by decide +kernel
theorem dX0_join_53 : decode cX0_join 53 = .ok (.aload_n 0, 1) := by decide +kernel
theorem dX0_join_54 : decode cX0_join 54 = .ok (.getfield 24, 3) := by decide +kernel
theorem dX0_join_57 : decode cX0_join 57 = .ok (.iload_n 1, 1) := by decide +kernel
theorem dX0_join_58 : decode cX0_join 58 = .ok (.iaload, 1) := by decide +kernel
theorem dX0_join_59 : decode cX0_join 59 = .ok (.iload 4, 2) := by decide +kernel
theorem dX0_join_61 : decode cX0_join 61 = .ok (.iadd, 1) := by decide +kernel
theorem dX0_join_62 : decode cX0_join 62 = .ok (.aload_n 0, 1) := by decide +kernel
theorem dX0_join_63 : decode cX0_join 63 = .ok (.getfield 21, 3) := by decide +kernel
theorem dX0_join_66 : decode cX0_join 66 = .ok (.iload_n 2, 1) := by decide +kernel
theorem dX0_join_67 : decode cX0_join 67 = .ok (.aaload, 1) := by decide +kernel
theorem dX0_join_68 : decode cX0_join 68 = .ok (.iload 4, 2) := by decide +kernel
theorem dX0_join_70 : decode cX0_join 70 = .ok (.iaload, 1) := by decide +kernel
theorem dX0_join_71 : decode cX0_join 71 = .ok (.iastore, 1) := by decide +kernel
theorem dX0_join_72 : decode cX0_join 72 = .ok (.iinc 4 1, 3) := by decide +kernel
theorem dX0_join_75 : decode cX0_join 75 = .ok (.goto (-34), 3) := by decide +kernel
theorem dX0_join_78 : decode cX0_join 78 = .ok (.aload_n 0, 1) := by decide +kernel
theorem dX0_join_79 : decode cX0_join 79 = .ok (.getfield 24, 3) := by decide +kernel
theorem dX0_join_82 : decode cX0_join 82 = .ok (.iload_n 1, 1) := by decide +kernel
theorem dX0_join_83 : decode cX0_join 83 = .ok (.dup2, 1) := by decide +kernel
theorem dX0_join_84 : decode cX0_join 84 = .ok (.iaload, 1) := by decide +kernel
theorem dX0_join_85 : decode cX0_join 85 = .ok (.iload_n 3, 1) := by decide +kernel
theorem dX0_join_86 : decode cX0_join 86 = .ok (.iadd, 1) := by decide +kernel
theorem dX0_join_87 : decode cX0_join 87 = .ok (.iastore, 1) := by decide +kernel
theorem dX0_join_88 : decode cX0_join 88 = .ok (.aload_n 0, 1) := by decide +kernel
theorem dX0_join_89 : decode cX0_join 89 = .ok (.getfield 24, 3) := by decide +kernel
theorem dX0_join_92 : decode cX0_join 92 = .ok (.iload_n 1, 1) := by decide +kernel
theorem dX0_join_93 : decode cX0_join 93 = .ok (.iaload, 1) := by decide +kernel
theorem dX0_join_94 : decode cX0_join 94 = .ok (.ireturn, 1) := by decide +kernel
set_option maxRecDepth 20000 in
theorem ggX0_tidy_X0_checkWord : GoodIn wsX0_tidy wsX0_checkWord := goodIn_ca (goodIn_r _ [6, 7, 8] (by decide +kernel) (by decide +kernel)) (goodIn_sub (fun _ h => List.mem_cons_of_mem _ (List.mem_append_right _ h)) (by decide +kernel))
set_option maxRecDepth 20000 in
theorem gX0_tidy_X0_checkWord : GoodIn wsX0_tidy (va_wsS RX0 47 yX0_checkWord wsX0_checkWord) := goodIn_app (goodIn_of _ (by decide +kernel)) ggX0_tidy_X0_checkWord
set_option maxRecDepth 20000 in
theorem ggX0_tidy_X0_keep : GoodIn wsX0_tidy wsX0_keep := goodIn_r _ [11, 12, 13, 5, 14, 15, 16, 17, 18, 19, 20] (by decide +kernel) (by decide +kernel)
set_option maxRecDepth 20000 in
theorem gX0_tidy_X0_keep : GoodIn wsX0_tidy (va_wsS RX0 76 yX0_keep wsX0_keep) := goodIn_app (goodIn_of _ (by decide +kernel)) ggX0_tidy_X0_keep
theorem dX0_tidy_0 : decode cX0_tidy 0 = .ok (.iload_n 1, 1) := by decide +kernel
theorem dX0_tidy_1 : decode cX0_tidy 1 = .ok (.invokestatic 47, 3) := by decide +kernel
theorem dX0_tidy_4 : decode cX0_tidy 4 = .ok (.iconst 0, 1) := by decide +kernel
theorem dX0_tidy_5 : decode cX0_tidy 5 = .ok (.istore_n 2, 1) := by decide +kernel
theorem dX0_tidy_6 : decode cX0_tidy 6 = .ok (.iconst 0, 1) := by decide +kernel
theorem dX0_tidy_7 : decode cX0_tidy 7 = .ok (.istore_n 3, 1) := by decide +kernel
theorem dX0_tidy_8 : decode cX0_tidy 8 = .ok (.iload_n 3, 1) := by decide +kernel
theorem dX0_tidy_9 : decode cX0_tidy 9 = .ok (.aload_n 0, 1) := by decide +kernel
theorem dX0_tidy_10 : decode cX0_tidy 10 = .ok (.getfield 24, 3) := by decide +kernel
theorem dX0_tidy_13 : decode cX0_tidy 13 = .ok (.iload_n 1, 1) := by decide +kernel
theorem dX0_tidy_14 : decode cX0_tidy 14 = .ok (.iaload, 1) := by decide +kernel
theorem dX0_tidy_15 : decode cX0_tidy 15 = .ok (.if_icmp .ge 28, 3) := by decide +kernel
theorem dX0_tidy_18 : decode cX0_tidy 18 = .ok (.aload_n 0, 1) := by decide +kernel
theorem dX0_tidy_19 : decode cX0_tidy 19 = .ok (.getfield 21, 3) := by decide +kernel
theorem dX0_tidy_22 : decode cX0_tidy 22 = .ok (.iload_n 1, 1) := by decide +kernel
theorem dX0_tidy_23 : decode cX0_tidy 23 = .ok (.aaload, 1) := by decide +kernel
theorem dX0_tidy_24 : decode cX0_tidy 24 = .ok (.iload_n 2, 1) := by decide +kernel
theorem dX0_tidy_25 : decode cX0_tidy 25 = .ok (.aload_n 0, 1) := by decide +kernel
theorem dX0_tidy_26 : decode cX0_tidy 26 = .ok (.getfield 21, 3) := by decide +kernel
theorem dX0_tidy_29 : decode cX0_tidy 29 = .ok (.iload_n 1, 1) := by decide +kernel
theorem dX0_tidy_30 : decode cX0_tidy 30 = .ok (.aaload, 1) := by decide +kernel
theorem dX0_tidy_31 : decode cX0_tidy 31 = .ok (.iload_n 3, 1) := by decide +kernel
theorem dX0_tidy_32 : decode cX0_tidy 32 = .ok (.iaload, 1) := by decide +kernel
theorem dX0_tidy_33 : decode cX0_tidy 33 = .ok (.invokestatic 76, 3) := by decide +kernel
theorem dX0_tidy_36 : decode cX0_tidy 36 = .ok (.istore_n 2, 1) := by decide +kernel
theorem dX0_tidy_37 : decode cX0_tidy 37 = .ok (.iinc 3 1, 3) := by decide +kernel
theorem dX0_tidy_40 : decode cX0_tidy 40 = .ok (.goto (-32), 3) := by decide +kernel
theorem dX0_tidy_43 : decode cX0_tidy 43 = .ok (.aload_n 0, 1) := by decide +kernel
theorem dX0_tidy_44 : decode cX0_tidy 44 = .ok (.getfield 24, 3) := by decide +kernel
theorem dX0_tidy_47 : decode cX0_tidy 47 = .ok (.iload_n 1, 1) := by decide +kernel
theorem dX0_tidy_48 : decode cX0_tidy 48 = .ok (.iload_n 2, 1) := by decide +kernel
theorem dX0_tidy_49 : decode cX0_tidy 49 = .ok (.iastore, 1) := by decide +kernel
theorem dX0_tidy_50 : decode cX0_tidy 50 = .ok (.iload_n 2, 1) := by decide +kernel
theorem dX0_tidy_51 : decode cX0_tidy 51 = .ok (.ireturn, 1) := by decide +kernel
set_option maxRecDepth 20000 in
theorem ggX0_told_X0_checkPlace : GoodIn wsX0_told wsX0_checkPlace := goodIn_ca (goodIn_r _ [5, 6, 7] (by decide +kernel) (by decide +kernel)) (goodIn_sub (fun _ h => List.mem_cons_of_mem _ (List.mem_append_right _ h)) (by decide +kernel))
set_option maxRecDepth 20000 in
theorem gX0_told_X0_checkPlace : GoodIn wsX0_told (va_wsS RX0 80 yX0_checkPlace wsX0_checkPlace) := goodIn_app (goodIn_of _ (by decide +kernel)) ggX0_told_X0_checkPlace
set_option maxRecDepth 20000 in
theorem ggX0_told_X0_checkWhat : GoodIn wsX0_told wsX0_checkWhat := goodIn_ca (goodIn_r _ [10, 6, 7] (by decide +kernel) (by decide +kernel)) (goodIn_sub (fun _ h => List.mem_cons_of_mem _ (List.mem_append_right _ h)) (by decide +kernel))
set_option maxRecDepth 20000 in
theorem gX0_told_X0_checkWhat : GoodIn wsX0_told (va_wsS RX0 83 yX0_checkWhat wsX0_checkWhat) := goodIn_app (goodIn_of _ (by decide +kernel)) ggX0_told_X0_checkWhat
set_option maxRecDepth 20000 in
theorem ggX0_told_X0_cornerAt : GoodIn wsX0_told wsX0_cornerAt := goodIn_r _ [13] (by decide +kernel) (by decide +kernel)
set_option maxRecDepth 20000 in
theorem gX0_told_X0_cornerAt : GoodIn wsX0_told (va_wsS RX0 87 yX0_cornerAt wsX0_cornerAt) := goodIn_app (goodIn_of _ (by decide +kernel)) ggX0_told_X0_cornerAt
set_option maxRecDepth 20000 in
theorem ggX0_told_X0_twistAt : GoodIn wsX0_told wsX0_twistAt := goodIn_r _ [16] (by decide +kernel) (by decide +kernel)
set_option maxRecDepth 20000 in
theorem gX0_told_X0_twistAt : GoodIn wsX0_told (va_wsS RX0 91 yX0_twistAt wsX0_twistAt) := goodIn_app (goodIn_of _ (by decide +kernel)) ggX0_told_X0_twistAt
set_option maxRecDepth 20000 in
theorem ggX0_told_X0_isRight : GoodIn wsX0_told wsX0_isRight := goodIn_r _ [19, 11, 12, 4, 13, 14, 15, 16] (by decide +kernel) (by decide +kernel)
set_option maxRecDepth 20000 in
theorem gX0_told_X0_isRight : GoodIn wsX0_told (va_wsS RX0 94 yX0_isRight wsX0_isRight) := goodIn_app (goodIn_of _ (by decide +kernel)) ggX0_told_X0_isRight
theorem dX0_told_0 : decode cX0_told 0 = .ok (.iload_n 1, 1) := by decide +kernel
theorem dX0_told_1 : decode cX0_told 1 = .ok (.invokestatic 80, 3) := by decide +kernel
theorem dX0_told_4 : decode cX0_told 4 = .ok (.iload_n 2, 1) := by decide +kernel
theorem dX0_told_5 : decode cX0_told 5 = .ok (.iconst 3, 1) := by decide +kernel
theorem dX0_told_6 : decode cX0_told 6 = .ok (.invokestatic 83, 3) := by decide +kernel
theorem dX0_told_9 : decode cX0_told 9 = .ok (.iload_n 2, 1) := by decide +kernel
theorem dX0_told_10 : decode cX0_told 10 = .ok (.ifCond .ne 12, 3) := by decide +kernel
theorem dX0_told_13 : decode cX0_told 13 = .ok (.aload_n 0, 1) := by decide +kernel
theorem dX0_told_14 : decode cX0_told 14 = .ok (.getfield 11, 3) := by decide +kernel
theorem dX0_told_17 : decode cX0_told 17 = .ok (.iload_n 1, 1) := by decide +kernel
theorem dX0_told_18 : decode cX0_told 18 = .ok (.invokestatic 87, 3) := by decide +kernel
theorem dX0_told_21 : decode cX0_told 21 = .ok (.ireturn, 1) := by decide +kernel
theorem dX0_told_22 : decode cX0_told 22 = .ok (.iload_n 2, 1) := by decide +kernel
theorem dX0_told_23 : decode cX0_told 23 = .ok (.iconst 1, 1) := by decide +kernel
theorem dX0_told_24 : decode cX0_told 24 = .ok (.if_icmp .ne 12, 3) := by decide +kernel
theorem dX0_told_27 : decode cX0_told 27 = .ok (.aload_n 0, 1) := by decide +kernel
theorem dX0_told_28 : decode cX0_told 28 = .ok (.getfield 11, 3) := by decide +kernel
theorem dX0_told_31 : decode cX0_told 31 = .ok (.iload_n 1, 1) := by decide +kernel
theorem dX0_told_32 : decode cX0_told 32 = .ok (.invokestatic 91, 3) := by decide +kernel
theorem dX0_told_35 : decode cX0_told 35 = .ok (.ireturn, 1) := by decide +kernel
theorem dX0_told_36 : decode cX0_told 36 = .ok (.aload_n 0, 1) := by decide +kernel
theorem dX0_told_37 : decode cX0_told 37 = .ok (.getfield 11, 3) := by decide +kernel
theorem dX0_told_40 : decode cX0_told 40 = .ok (.iload_n 1, 1) := by decide +kernel
theorem dX0_told_41 : decode cX0_told 41 = .ok (.invokestatic 94, 3) := by decide +kernel
theorem dX0_told_44 : decode cX0_told 44 = .ok (.ifCond .eq 7, 3) := by decide +kernel
theorem dX0_told_47 : decode cX0_told 47 = .ok (.iconst 1, 1) := by decide +kernel
theorem dX0_told_48 : decode cX0_told 48 = .ok (.goto 4, 3) := by decide +kernel
theorem dX0_told_51 : decode cX0_told 51 = .ok (.iconst 0, 1) := by decide +kernel
theorem dX0_told_52 : decode cX0_told 52 = .ok (.ireturn, 1) := by decide +kernel
set_option maxRecDepth 20000 in
theorem ggX0_where_X0_cornerAt : GoodIn wsX0_where wsX0_cornerAt := goodIn_r _ [7] (by decide +kernel) (by decide +kernel)
set_option maxRecDepth 20000 in
theorem gX0_where_X0_cornerAt : GoodIn wsX0_where (va_wsS RX0 87 yX0_cornerAt wsX0_cornerAt) := goodIn_app (goodIn_of _ (by decide +kernel)) ggX0_where_X0_cornerAt
theorem dX0_where_0 : decode cX0_where 0 = .ok (.iload_n 1, 1) := by decide +kernel
theorem dX0_where_1 : decode cX0_where 1 = .ok (.ifCond .lt 9, 3) := by decide +kernel
theorem dX0_where_4 : decode cX0_where 4 = .ok (.iload_n 1, 1) := by decide +kernel
theorem dX0_where_5 : decode cX0_where 5 = .ok (.bipush 8, 2) := by decide +kernel
theorem dX0_where_7 : decode cX0_where 7 = .ok (.if_icmp .lt 13, 3) := by decide +kernel
theorem dX0_where_10 : decode cX0_where 10 = .ok (.new 98, 3) := by decide +kernel
theorem dX0_where_13 : decode cX0_where 13 = .ok (.dup, 1) := by decide +kernel
theorem dX0_where_14 : decode cX0_where 14 = .ok (.ldc 100, 2) := by decide +kernel
theorem dX0_where_16 : decode cX0_where 16 = .ok (.invokespecial 102, 3) := by decide +kernel
theorem dX0_where_19 : decode cX0_where 19 = .ok (.athrow, 1) := by decide +kernel
theorem dX0_where_20 : decode cX0_where 20 = .ok (.iconst 0, 1) := by decide +kernel
theorem dX0_where_21 : decode cX0_where 21 = .ok (.istore_n 2, 1) := by decide +kernel
theorem dX0_where_22 : decode cX0_where 22 = .ok (.iload_n 2, 1) := by decide +kernel
theorem dX0_where_23 : decode cX0_where 23 = .ok (.bipush 7, 2) := by decide +kernel
theorem dX0_where_25 : decode cX0_where 25 = .ok (.if_icmp .ge 21, 3) := by decide +kernel
theorem dX0_where_28 : decode cX0_where 28 = .ok (.aload_n 0, 1) := by decide +kernel
theorem dX0_where_29 : decode cX0_where 29 = .ok (.getfield 11, 3) := by decide +kernel
theorem dX0_where_32 : decode cX0_where 32 = .ok (.iload_n 2, 1) := by decide +kernel
theorem dX0_where_33 : decode cX0_where 33 = .ok (.invokestatic 87, 3) := by decide +kernel
theorem dX0_where_36 : decode cX0_where 36 = .ok (.iload_n 1, 1) := by decide +kernel
theorem dX0_where_37 : decode cX0_where 37 = .ok (.if_icmp .eq 9, 3) := by decide +kernel
theorem dX0_where_40 : decode cX0_where 40 = .ok (.iinc 2 1, 3) := by decide +kernel
theorem dX0_where_43 : decode cX0_where 43 = .ok (.goto (-21), 3) := by decide +kernel
theorem dX0_where_46 : decode cX0_where 46 = .ok (.iload_n 2, 1) := by decide +kernel
theorem dX0_where_47 : decode cX0_where 47 = .ok (.ireturn, 1) := by decide +kernel
set_option maxRecDepth 20000 in
theorem ggX0_count_X0_checkWhat : GoodIn wsX0_count wsX0_checkWhat := goodIn_ca (goodIn_r _ [6, 7, 8] (by decide +kernel) (by decide +kernel)) (goodIn_sub (fun _ h => List.mem_cons_of_mem _ (List.mem_append_right _ h)) (by decide +kernel))
set_option maxRecDepth 20000 in
theorem gX0_count_X0_checkWhat : GoodIn wsX0_count (va_wsS RX0 83 yX0_checkWhat wsX0_checkWhat) := goodIn_app (goodIn_of _ (by decide +kernel)) ggX0_count_X0_checkWhat
set_option maxRecDepth 20000 in
theorem ggX0_count_X0_rightCorners : GoodIn wsX0_count wsX0_rightCorners := goodIn_r _ [11, 12, 13, 5, 14, 15, 16, 17, 18, 19, 20] (by decide +kernel) (by decide +kernel)
set_option maxRecDepth 20000 in
theorem gX0_count_X0_rightCorners : GoodIn wsX0_count (va_wsS RX0 43 yX0_rightCorners wsX0_rightCorners) := goodIn_app (goodIn_of _ (by decide +kernel)) ggX0_count_X0_rightCorners
set_option maxRecDepth 20000 in
theorem ggX0_count_X0_placedCorners : GoodIn wsX0_count wsX0_placedCorners := goodIn_r _ [23, 15, 16, 5, 17] (by decide +kernel) (by decide +kernel)
set_option maxRecDepth 20000 in
theorem gX0_count_X0_placedCorners : GoodIn wsX0_count (va_wsS RX0 103 yX0_placedCorners wsX0_placedCorners) := goodIn_app (goodIn_of _ (by decide +kernel)) ggX0_count_X0_placedCorners
set_option maxRecDepth 20000 in
theorem ggX0_count_X0_untwistedCorners : GoodIn wsX0_count wsX0_untwistedCorners := goodIn_r _ [26, 18, 19, 5, 20] (by decide +kernel) (by decide +kernel)
set_option maxRecDepth 20000 in
theorem gX0_count_X0_untwistedCorners : GoodIn wsX0_count (va_wsS RX0 106 yX0_untwistedCorners wsX0_untwistedCorners) := goodIn_app (goodIn_of _ (by decide +kernel)) ggX0_count_X0_untwistedCorners
set_option maxRecDepth 20000 in
theorem ggX0_count_X0_pairsOutOfOrder : GoodIn wsX0_count wsX0_pairsOutOfOrder := goodIn_r _ [29, 15, 16, 5, 17] (by decide +kernel) (by decide +kernel)
set_option maxRecDepth 20000 in
theorem gX0_count_X0_pairsOutOfOrder : GoodIn wsX0_count (va_wsS RX0 109 yX0_pairsOutOfOrder wsX0_pairsOutOfOrder) := goodIn_app (goodIn_of _ (by decide +kernel)) ggX0_count_X0_pairsOutOfOrder
set_option maxRecDepth 20000 in
theorem ggX0_count_X0_orderOf : GoodIn wsX0_count wsX0_orderOf := goodIn_r _ [32, 33, 34, 35, 5, 36, 15, 16, 17, 18, 19, 20, 37, 38, 39, 40, 41] (by decide +kernel) (by decide +kernel)
set_option maxRecDepth 20000 in
theorem gX0_count_X0_orderOf : GoodIn wsX0_count (va_wsS RX0 112 yX0_orderOf wsX0_orderOf) := goodIn_app (goodIn_of _ (by decide +kernel)) ggX0_count_X0_orderOf
set_option maxRecDepth 20000 in
theorem ggX0_count_X0_turnsOfAllWords : GoodIn wsX0_count wsX0_turnsOfAllWords := goodIn_r _ [45, 46, 47, 48, 49, 50] (by decide +kernel) (by decide +kernel)
set_option maxRecDepth 20000 in
theorem gX0_count_X0_turnsOfAllWords : GoodIn wsX0_count (wsV RX0 115 RX0 yX0_turnsOfAllWords wsX0_turnsOfAllWords) := goodIn_app (goodIn_of _ (by decide +kernel)) ggX0_count_X0_turnsOfAllWords
theorem dX0_count_0 : decode cX0_count 0 = .ok (.iload_n 1, 1) := by decide +kernel
theorem dX0_count_1 : decode cX0_count 1 = .ok (.bipush 7, 2) := by decide +kernel
theorem dX0_count_3 : decode cX0_count 3 = .ok (.invokestatic 83, 3) := by decide +kernel
theorem dX0_count_6 : decode cX0_count 6 = .ok (.iload_n 1, 1) := by decide +kernel
theorem dX0_count_7 : decode cX0_count 7 = .ok (.tableswitch 84 0 5 #[37, 42, 50, 58, 66, 76], 37) := by decide +kernel
theorem dX0_count_44 : decode cX0_count 44 = .ok (.aload_n 0, 1) := by decide +kernel
theorem dX0_count_45 : decode cX0_count 45 = .ok (.getfield 15, 3) := by decide +kernel
theorem dX0_count_48 : decode cX0_count 48 = .ok (.ireturn, 1) := by decide +kernel
theorem dX0_count_49 : decode cX0_count 49 = .ok (.aload_n 0, 1) := by decide +kernel
theorem dX0_count_50 : decode cX0_count 50 = .ok (.getfield 11, 3) := by decide +kernel
theorem dX0_count_53 : decode cX0_count 53 = .ok (.invokestatic 43, 3) := by decide +kernel
theorem dX0_count_56 : decode cX0_count 56 = .ok (.ireturn, 1) := by decide +kernel
theorem dX0_count_57 : decode cX0_count 57 = .ok (.aload_n 0, 1) := by decide +kernel
theorem dX0_count_58 : decode cX0_count 58 = .ok (.getfield 11, 3) := by decide +kernel
theorem dX0_count_61 : decode cX0_count 61 = .ok (.invokestatic 103, 3) := by decide +kernel
theorem dX0_count_64 : decode cX0_count 64 = .ok (.ireturn, 1) := by decide +kernel
theorem dX0_count_65 : decode cX0_count 65 = .ok (.aload_n 0, 1) := by decide +kernel
theorem dX0_count_66 : decode cX0_count 66 = .ok (.getfield 11, 3) := by decide +kernel
theorem dX0_count_69 : decode cX0_count 69 = .ok (.invokestatic 106, 3) := by decide +kernel
theorem dX0_count_72 : decode cX0_count 72 = .ok (.ireturn, 1) := by decide +kernel
theorem dX0_count_73 : decode cX0_count 73 = .ok (.aload_n 0, 1) := by decide +kernel
theorem dX0_count_74 : decode cX0_count 74 = .ok (.getfield 11, 3) := by decide +kernel
theorem dX0_count_77 : decode cX0_count 77 = .ok (.invokestatic 109, 3) := by decide +kernel
theorem dX0_count_80 : decode cX0_count 80 = .ok (.iconst 2, 1) := by decide +kernel
theorem dX0_count_81 : decode cX0_count 81 = .ok (.irem, 1) := by decide +kernel
theorem dX0_count_82 : decode cX0_count 82 = .ok (.ireturn, 1) := by decide +kernel
theorem dX0_count_83 : decode cX0_count 83 = .ok (.aload_n 0, 1) := by decide +kernel
theorem dX0_count_84 : decode cX0_count 84 = .ok (.getfield 11, 3) := by decide +kernel
theorem dX0_count_87 : decode cX0_count 87 = .ok (.invokestatic 112, 3) := by decide +kernel
theorem dX0_count_90 : decode cX0_count 90 = .ok (.ireturn, 1) := by decide +kernel
theorem dX0_count_91 : decode cX0_count 91 = .ok (.aload_n 0, 1) := by decide +kernel
theorem dX0_count_92 : decode cX0_count 92 = .ok (.invokevirtual 115, 3) := by decide +kernel
theorem dX0_count_95 : decode cX0_count 95 = .ok (.ireturn, 1) := by decide +kernel
set_option maxRecDepth 20000 in
theorem ggX0_word_X0_checkWord : GoodIn wsX0_word wsX0_checkWord := goodIn_ca (goodIn_r _ [5, 6, 7] (by decide +kernel) (by decide +kernel)) (goodIn_sub (fun _ h => List.mem_cons_of_mem _ (List.mem_append_right _ h)) (by decide +kernel))
set_option maxRecDepth 20000 in
theorem gX0_word_X0_checkWord : GoodIn wsX0_word (va_wsS RX0 47 yX0_checkWord wsX0_checkWord) := goodIn_app (goodIn_of _ (by decide +kernel)) ggX0_word_X0_checkWord
set_option maxRecDepth 20000 in
theorem ggX0_word_X0_checkWhat : GoodIn wsX0_word wsX0_checkWhat := goodIn_ca (goodIn_r _ [10, 6, 7] (by decide +kernel) (by decide +kernel)) (goodIn_sub (fun _ h => List.mem_cons_of_mem _ (List.mem_append_right _ h)) (by decide +kernel))
set_option maxRecDepth 20000 in
theorem gX0_word_X0_checkWhat : GoodIn wsX0_word (va_wsS RX0 83 yX0_checkWhat wsX0_checkWhat) := goodIn_app (goodIn_of _ (by decide +kernel)) ggX0_word_X0_checkWhat
set_option maxRecDepth 20000 in
theorem ggX0_word_X0_deedOf : GoodIn wsX0_word wsX0_deedOf := goodIn_r _ [14, 15, 16, 17, 18, 4, 19, 1, 20, 21, 22, 23, 24, 25, 26, 27, 28, 29, 30, 31, 32, 33, 34, 35, 36, 37, 38, 39, 40, 41, 42, 43, 44, 45, 46, 47, 48, 49, 68, 69, 70, 71] (by decide +kernel) (by decide +kernel)
set_option maxRecDepth 20000 in
theorem gX0_word_X0_deedOf : GoodIn wsX0_word (wsV RX0 119 RX0 yX0_deedOf wsX0_deedOf) := goodIn_app (goodIn_of _ (by decide +kernel)) ggX0_word_X0_deedOf
set_option maxRecDepth 20000 in
theorem ggX0_word_X0_orderOf : GoodIn wsX0_word wsX0_orderOf := goodIn_r _ [52, 15, 53, 54, 4, 55, 39, 40, 41, 42, 43, 44, 45, 46, 47, 48, 49] (by decide +kernel) (by decide +kernel)
set_option maxRecDepth 20000 in
theorem gX0_word_X0_orderOf : GoodIn wsX0_word (va_wsS RX0 112 yX0_orderOf wsX0_orderOf) := goodIn_app (goodIn_of _ (by decide +kernel)) ggX0_word_X0_orderOf
set_option maxRecDepth 20000 in
theorem ggX0_word_X0_wrongCorners : GoodIn wsX0_word wsX0_wrongCorners := goodIn_r _ [58, 59, 60, 4, 61, 62, 63, 64, 39, 40, 41, 42, 43, 44] (by decide +kernel) (by decide +kernel)
set_option maxRecDepth 20000 in
theorem gX0_word_X0_wrongCorners : GoodIn wsX0_word (va_wsS RX0 65 yX0_wrongCorners wsX0_wrongCorners) := goodIn_app (goodIn_of _ (by decide +kernel)) ggX0_word_X0_wrongCorners
set_option maxRecDepth 20000 in
theorem ggX0_word_X0_placedCorners : GoodIn wsX0_word wsX0_placedCorners := goodIn_r _ [67, 39, 40, 4, 41] (by decide +kernel) (by decide +kernel)
set_option maxRecDepth 20000 in
theorem gX0_word_X0_placedCorners : GoodIn wsX0_word (va_wsS RX0 103 yX0_placedCorners wsX0_placedCorners) := goodIn_app (goodIn_of _ (by decide +kernel)) ggX0_word_X0_placedCorners
theorem dX0_word_0 : decode cX0_word 0 = .ok (.iload_n 1, 1) := by decide +kernel
theorem dX0_word_1 : decode cX0_word 1 = .ok (.invokestatic 47, 3) := by decide +kernel
theorem dX0_word_4 : decode cX0_word 4 = .ok (.iload_n 2, 1) := by decide +kernel
theorem dX0_word_5 : decode cX0_word 5 = .ok (.iconst 4, 1) := by decide +kernel
theorem dX0_word_6 : decode cX0_word 6 = .ok (.invokestatic 83, 3) := by decide +kernel
theorem dX0_word_9 : decode cX0_word 9 = .ok (.iload_n 2, 1) := by decide +kernel
theorem dX0_word_10 : decode cX0_word 10 = .ok (.tableswitch 51 0 2 #[26, 33, 42], 26) := by decide +kernel
theorem dX0_word_36 : decode cX0_word 36 = .ok (.aload_n 0, 1) := by decide +kernel
theorem dX0_word_37 : decode cX0_word 37 = .ok (.getfield 24, 3) := by decide +kernel
theorem dX0_word_40 : decode cX0_word 40 = .ok (.iload_n 1, 1) := by decide +kernel
theorem dX0_word_41 : decode cX0_word 41 = .ok (.iaload, 1) := by decide +kernel
theorem dX0_word_42 : decode cX0_word 42 = .ok (.ireturn, 1) := by decide +kernel
theorem dX0_word_43 : decode cX0_word 43 = .ok (.aload_n 0, 1) := by decide +kernel
theorem dX0_word_44 : decode cX0_word 44 = .ok (.iload_n 1, 1) := by decide +kernel
theorem dX0_word_45 : decode cX0_word 45 = .ok (.invokevirtual 119, 3) := by decide +kernel
theorem dX0_word_48 : decode cX0_word 48 = .ok (.invokestatic 112, 3) := by decide +kernel
theorem dX0_word_51 : decode cX0_word 51 = .ok (.ireturn, 1) := by decide +kernel
theorem dX0_word_52 : decode cX0_word 52 = .ok (.aload_n 0, 1) := by decide +kernel
theorem dX0_word_53 : decode cX0_word 53 = .ok (.iload_n 1, 1) := by decide +kernel
theorem dX0_word_54 : decode cX0_word 54 = .ok (.invokevirtual 119, 3) := by decide +kernel
theorem dX0_word_57 : decode cX0_word 57 = .ok (.invokestatic 65, 3) := by decide +kernel
theorem dX0_word_60 : decode cX0_word 60 = .ok (.ireturn, 1) := by decide +kernel
theorem dX0_word_61 : decode cX0_word 61 = .ok (.bipush 8, 2) := by decide +kernel
theorem dX0_word_63 : decode cX0_word 63 = .ok (.aload_n 0, 1) := by decide +kernel
theorem dX0_word_64 : decode cX0_word 64 = .ok (.iload_n 1, 1) := by decide +kernel
theorem dX0_word_65 : decode cX0_word 65 = .ok (.invokevirtual 119, 3) := by decide +kernel
theorem dX0_word_68 : decode cX0_word 68 = .ok (.invokestatic 103, 3) := by decide +kernel
theorem dX0_word_71 : decode cX0_word 71 = .ok (.isub, 1) := by decide +kernel
theorem dX0_word_72 : decode cX0_word 72 = .ok (.ireturn, 1) := by decide +kernel
set_option maxRecDepth 20000 in
theorem ggX0_at_X0_checkWord : GoodIn wsX0_at wsX0_checkWord := goodIn_ca (goodIn_r _ [8, 1, 2] (by decide +kernel) (by decide +kernel)) (goodIn_sub (fun _ h => List.mem_cons_of_mem _ (List.mem_append_right _ h)) (by decide +kernel))
set_option maxRecDepth 20000 in
theorem gX0_at_X0_checkWord : GoodIn wsX0_at (va_wsS RX0 47 yX0_checkWord wsX0_checkWord) := goodIn_app (goodIn_of _ (by decide +kernel)) ggX0_at_X0_checkWord
theorem dX0_at_0 : decode cX0_at 0 = .ok (.iload_n 1, 1) := by decide +kernel
theorem dX0_at_1 : decode cX0_at 1 = .ok (.invokestatic 47, 3) := by decide +kernel
theorem dX0_at_4 : decode cX0_at 4 = .ok (.iload_n 2, 1) := by decide +kernel
theorem dX0_at_5 : decode cX0_at 5 = .ok (.ifCond .lt 13, 3) := by decide +kernel
theorem dX0_at_8 : decode cX0_at 8 = .ok (.iload_n 2, 1) := by decide +kernel
theorem dX0_at_9 : decode cX0_at 9 = .ok (.aload_n 0, 1) := by decide +kernel
theorem dX0_at_10 : decode cX0_at 10 = .ok (.getfield 24, 3) := by decide +kernel
theorem dX0_at_13 : decode cX0_at 13 = .ok (.iload_n 1, 1) := by decide +kernel
theorem dX0_at_14 : decode cX0_at 14 = .ok (.iaload, 1) := by decide +kernel
theorem dX0_at_15 : decode cX0_at 15 = .ok (.if_icmp .lt 13, 3) := by decide +kernel
theorem dX0_at_18 : decode cX0_at 18 = .ok (.new 98, 3) := by decide +kernel
theorem dX0_at_21 : decode cX0_at 21 = .ok (.dup, 1) := by decide +kernel
theorem dX0_at_22 : decode cX0_at 22 = .ok (.ldc 123, 2) := by decide +kernel
theorem dX0_at_24 : decode cX0_at 24 = .ok (.invokespecial 102, 3) := by decide +kernel
theorem dX0_at_27 : decode cX0_at 27 = .ok (.athrow, 1) := by decide +kernel
theorem dX0_at_28 : decode cX0_at 28 = .ok (.aload_n 0, 1) := by decide +kernel
theorem dX0_at_29 : decode cX0_at 29 = .ok (.getfield 21, 3) := by decide +kernel
theorem dX0_at_32 : decode cX0_at 32 = .ok (.iload_n 1, 1) := by decide +kernel
theorem dX0_at_33 : decode cX0_at 33 = .ok (.aaload, 1) := by decide +kernel
theorem dX0_at_34 : decode cX0_at 34 = .ok (.iload_n 2, 1) := by decide +kernel
theorem dX0_at_35 : decode cX0_at 35 = .ok (.iaload, 1) := by decide +kernel
theorem dX0_at_36 : decode cX0_at 36 = .ok (.ireturn, 1) := by decide +kernel
set_option maxRecDepth 20000 in
theorem ggX0_same_X0_checkWord : GoodIn wsX0_same wsX0_checkWord := goodIn_ca (goodIn_r _ [4, 5, 6] (by decide +kernel) (by decide +kernel)) (goodIn_sub (fun _ h => List.mem_cons_of_mem _ (List.mem_append_right _ h)) (by decide +kernel))
set_option maxRecDepth 20000 in
theorem gX0_same_X0_checkWord : GoodIn wsX0_same (va_wsS RX0 47 yX0_checkWord wsX0_checkWord) := goodIn_app (goodIn_of _ (by decide +kernel)) ggX0_same_X0_checkWord
set_option maxRecDepth 20000 in
theorem ggX0_same_X0_deedOf : GoodIn wsX0_same wsX0_deedOf := goodIn_r _ [10, 11, 12, 13, 14, 3, 15, 16, 17, 18, 19, 20, 21, 22, 23, 24, 25, 26, 27, 28, 29, 30, 31, 32, 33, 34, 35, 36, 37, 38, 39, 40, 41, 42, 43, 44, 45, 46, 47, 48, 49, 50] (by decide +kernel) (by decide +kernel)
set_option maxRecDepth 20000 in
theorem gX0_same_X0_deedOf : GoodIn wsX0_same (wsV RX0 119 RX0 yX0_deedOf wsX0_deedOf) := goodIn_app (goodIn_of _ (by decide +kernel)) ggX0_same_X0_deedOf
theorem dX0_same_0 : decode cX0_same 0 = .ok (.iload_n 1, 1) := by decide +kernel
theorem dX0_same_1 : decode cX0_same 1 = .ok (.invokestatic 47, 3) := by decide +kernel
theorem dX0_same_4 : decode cX0_same 4 = .ok (.iload_n 2, 1) := by decide +kernel
theorem dX0_same_5 : decode cX0_same 5 = .ok (.invokestatic 47, 3) := by decide +kernel
theorem dX0_same_8 : decode cX0_same 8 = .ok (.aload_n 0, 1) := by decide +kernel
theorem dX0_same_9 : decode cX0_same 9 = .ok (.iload_n 1, 1) := by decide +kernel
theorem dX0_same_10 : decode cX0_same 10 = .ok (.invokevirtual 119, 3) := by decide +kernel
theorem dX0_same_13 : decode cX0_same 13 = .ok (.aload_n 0, 1) := by decide +kernel
theorem dX0_same_14 : decode cX0_same 14 = .ok (.iload_n 2, 1) := by decide +kernel
theorem dX0_same_15 : decode cX0_same 15 = .ok (.invokevirtual 119, 3) := by decide +kernel
theorem dX0_same_18 : decode cX0_same 18 = .ok (.lcmp, 1) := by decide +kernel
theorem dX0_same_19 : decode cX0_same 19 = .ok (.ifCond .ne 7, 3) := by decide +kernel
theorem dX0_same_22 : decode cX0_same 22 = .ok (.iconst 1, 1) := by decide +kernel
theorem dX0_same_23 : decode cX0_same 23 = .ok (.goto 4, 3) := by decide +kernel
theorem dX0_same_26 : decode cX0_same 26 = .ok (.iconst 0, 1) := by decide +kernel
theorem dX0_same_27 : decode cX0_same 27 = .ok (.ireturn, 1) := by decide +kernel
set_option maxRecDepth 20000 in
theorem ggX0_mixed_X0_checkWord : GoodIn wsX0_mixed wsX0_checkWord := goodIn_ca (goodIn_r _ [4, 5, 6] (by decide +kernel) (by decide +kernel)) (goodIn_sub (fun _ h => List.mem_cons_of_mem _ (List.mem_append_right _ h)) (by decide +kernel))
set_option maxRecDepth 20000 in
theorem gX0_mixed_X0_checkWord : GoodIn wsX0_mixed (va_wsS RX0 47 yX0_checkWord wsX0_checkWord) := goodIn_app (goodIn_of _ (by decide +kernel)) ggX0_mixed_X0_checkWord
set_option maxRecDepth 20000 in
theorem ggX0_mixed_X0_deedOf : GoodIn wsX0_mixed wsX0_deedOf := goodIn_r _ [10, 11, 12, 13, 14, 3, 15, 16, 17, 18, 19, 20, 21, 22, 23, 24, 25, 26, 27, 28, 29, 30, 31, 32, 33, 34, 35, 36, 37, 38, 39, 40, 41, 42, 43, 44, 45, 46, 66, 67, 68, 69] (by decide +kernel) (by decide +kernel)
set_option maxRecDepth 20000 in
theorem gX0_mixed_X0_deedOf : GoodIn wsX0_mixed (wsV RX0 119 RX0 yX0_deedOf wsX0_deedOf) := goodIn_app (goodIn_of _ (by decide +kernel)) ggX0_mixed_X0_deedOf
set_option maxRecDepth 20000 in
theorem ggX0_mixed_X0_behindWord : GoodIn wsX0_mixed wsX0_behindWord := goodIn_r _ [15, 16, 17, 18, 19, 3, 20, 21, 22, 23, 24, 25, 26, 27, 28, 29, 30, 31, 32, 33, 34, 35, 36, 37, 38, 39, 40, 41, 42, 43, 44, 45, 46, 66, 67, 68, 69] (by decide +kernel) (by decide +kernel)
set_option maxRecDepth 20000 in
theorem gX0_mixed_X0_behindWord : GoodIn wsX0_mixed (wsV RX0 62 RX0 yX0_behindWord wsX0_behindWord) := goodIn_app (goodIn_of _ (by decide +kernel)) ggX0_mixed_X0_behindWord
set_option maxRecDepth 20000 in
theorem ggX0_mixed_X0_behindWordRound : GoodIn wsX0_mixed wsX0_behindWordRound := goodIn_r _ [50, 16, 17, 51, 52, 3, 53, 24, 25, 26, 21, 22, 23, 54, 55, 56, 18, 19, 20, 27, 28, 29, 30, 31, 32, 33, 34, 35, 36, 37, 38, 39, 40, 41, 42, 43, 44, 45, 46, 66, 67, 68, 69] (by decide +kernel) (by decide +kernel)
set_option maxRecDepth 20000 in
theorem gX0_mixed_X0_behindWordRound : GoodIn wsX0_mixed (wsV RX0 125 RX0 yX0_behindWordRound wsX0_behindWordRound) := goodIn_app (goodIn_of _ (by decide +kernel)) ggX0_mixed_X0_behindWordRound
set_option maxRecDepth 20000 in
theorem ggX0_mixed_X0_wrongCorners : GoodIn wsX0_mixed wsX0_wrongCorners := goodIn_r _ [59, 60, 61, 3, 62, 63, 64, 65, 36, 37, 38, 39, 40, 41] (by decide +kernel) (by decide +kernel)
set_option maxRecDepth 20000 in
theorem gX0_mixed_X0_wrongCorners : GoodIn wsX0_mixed (va_wsS RX0 65 yX0_wrongCorners wsX0_wrongCorners) := goodIn_app (goodIn_of _ (by decide +kernel)) ggX0_mixed_X0_wrongCorners
theorem dX0_mixed_0 : decode cX0_mixed 0 = .ok (.iload_n 1, 1) := by decide +kernel
theorem dX0_mixed_1 : decode cX0_mixed 1 = .ok (.invokestatic 47, 3) := by decide +kernel
theorem dX0_mixed_4 : decode cX0_mixed 4 = .ok (.iload_n 2, 1) := by decide +kernel
theorem dX0_mixed_5 : decode cX0_mixed 5 = .ok (.invokestatic 47, 3) := by decide +kernel
theorem dX0_mixed_8 : decode cX0_mixed 8 = .ok (.aload_n 0, 1) := by decide +kernel
theorem dX0_mixed_9 : decode cX0_mixed 9 = .ok (.aload_n 0, 1) := by decide +kernel
theorem dX0_mixed_10 : decode cX0_mixed 10 = .ok (.iload_n 1, 1) := by decide +kernel
theorem dX0_mixed_11 : decode cX0_mixed 11 = .ok (.invokevirtual 119, 3) := by decide +kernel
theorem dX0_mixed_14 : decode cX0_mixed 14 = .ok (.iload_n 2, 1) := by decide +kernel
theorem dX0_mixed_15 : decode cX0_mixed 15 = .ok (.invokevirtual 62, 3) := by decide +kernel
theorem dX0_mixed_18 : decode cX0_mixed 18 = .ok (.lstore_n 3, 1) := by decide +kernel
theorem dX0_mixed_19 : decode cX0_mixed 19 = .ok (.aload_n 0, 1) := by decide +kernel
theorem dX0_mixed_20 : decode cX0_mixed 20 = .ok (.aload_n 0, 1) := by decide +kernel
theorem dX0_mixed_21 : decode cX0_mixed 21 = .ok (.lload_n 3, 1) := by decide +kernel
theorem dX0_mixed_22 : decode cX0_mixed 22 = .ok (.iload_n 1, 1) := by decide +kernel
theorem dX0_mixed_23 : decode cX0_mixed 23 = .ok (.invokevirtual 125, 3) := by decide +kernel
theorem dX0_mixed_26 : decode cX0_mixed 26 = .ok (.iload_n 2, 1) := by decide +kernel
theorem dX0_mixed_27 : decode cX0_mixed 27 = .ok (.invokevirtual 125, 3) := by decide +kernel
theorem dX0_mixed_30 : decode cX0_mixed 30 = .ok (.invokestatic 65, 3) := by decide +kernel
theorem dX0_mixed_33 : decode cX0_mixed 33 = .ok (.ireturn, 1) := by decide +kernel
set_option maxRecDepth 20000 in
theorem ggX0_would_X0_checkFace : GoodIn wsX0_would wsX0_checkFace := goodIn_ca (goodIn_r _ [5, 6, 7] (by decide +kernel) (by decide +kernel)) (goodIn_sub (fun _ h => List.mem_cons_of_mem _ (List.mem_append_left _ (List.mem_append_right _ h))) (by decide +kernel))
set_option maxRecDepth 20000 in
theorem gX0_would_X0_checkFace : GoodIn wsX0_would (va_wsS RX0 28 yX0_checkFace wsX0_checkFace) := goodIn_app (goodIn_of _ (by decide +kernel)) ggX0_would_X0_checkFace
set_option maxRecDepth 20000 in
theorem ggX0_would_X0_checkQuarters : GoodIn wsX0_would wsX0_checkQuarters := goodIn_ca (goodIn_r _ [10, 11, 12] (by decide +kernel) (by decide +kernel)) (goodIn_sub (fun _ h => List.mem_cons_of_mem _ (List.mem_append_right _ h)) (by decide +kernel))
set_option maxRecDepth 20000 in
theorem gX0_would_X0_checkQuarters : GoodIn wsX0_would (va_wsS RX0 32 yX0_checkQuarters wsX0_checkQuarters) := goodIn_app (goodIn_of _ (by decide +kernel)) ggX0_would_X0_checkQuarters
set_option maxRecDepth 20000 in
theorem ggX0_would_X0_turnNumber : GoodIn wsX0_would wsX0_turnNumber := goodIn_r _ [15] (by decide +kernel) (by decide +kernel)
set_option maxRecDepth 20000 in
theorem gX0_would_X0_turnNumber : GoodIn wsX0_would (va_wsS RX0 35 yX0_turnNumber wsX0_turnNumber) := goodIn_app (goodIn_of _ (by decide +kernel)) ggX0_would_X0_turnNumber
set_option maxRecDepth 20000 in
theorem ggX0_would_X0_turned : GoodIn wsX0_would wsX0_turned := goodIn_r _ [18, 19, 20, 4, 21, 22, 23, 24, 25, 26, 27, 28, 29, 30, 31, 32, 33, 34, 35, 36, 37, 38, 39, 40, 41, 42, 43, 44] (by decide +kernel) (by decide +kernel)
set_option maxRecDepth 20000 in
theorem gX0_would_X0_turned : GoodIn wsX0_would (va_wsS RX0 39 yX0_turned wsX0_turned) := goodIn_app (goodIn_of _ (by decide +kernel)) ggX0_would_X0_turned
set_option maxRecDepth 20000 in
theorem ggX0_would_X0_rightCorners : GoodIn wsX0_would wsX0_rightCorners := goodIn_r _ [47, 48, 49, 4, 50, 34, 35, 36, 37, 38, 39] (by decide +kernel) (by decide +kernel)
set_option maxRecDepth 20000 in
theorem gX0_would_X0_rightCorners : GoodIn wsX0_would (va_wsS RX0 43 yX0_rightCorners wsX0_rightCorners) := goodIn_app (goodIn_of _ (by decide +kernel)) ggX0_would_X0_rightCorners
theorem dX0_would_0 : decode cX0_would 0 = .ok (.iload_n 1, 1) := by decide +kernel
theorem dX0_would_1 : decode cX0_would 1 = .ok (.invokestatic 28, 3) := by decide +kernel
theorem dX0_would_4 : decode cX0_would 4 = .ok (.iload_n 2, 1) := by decide +kernel
theorem dX0_would_5 : decode cX0_would 5 = .ok (.invokestatic 32, 3) := by decide +kernel
theorem dX0_would_8 : decode cX0_would 8 = .ok (.aload_n 0, 1) := by decide +kernel
theorem dX0_would_9 : decode cX0_would 9 = .ok (.getfield 11, 3) := by decide +kernel
theorem dX0_would_12 : decode cX0_would 12 = .ok (.iload_n 1, 1) := by decide +kernel
theorem dX0_would_13 : decode cX0_would 13 = .ok (.iload_n 2, 1) := by decide +kernel
theorem dX0_would_14 : decode cX0_would 14 = .ok (.invokestatic 35, 3) := by decide +kernel
theorem dX0_would_17 : decode cX0_would 17 = .ok (.invokestatic 39, 3) := by decide +kernel
theorem dX0_would_20 : decode cX0_would 20 = .ok (.invokestatic 43, 3) := by decide +kernel
theorem dX0_would_23 : decode cX0_would 23 = .ok (.ireturn, 1) := by decide +kernel
set_option maxRecDepth 20000 in
theorem ggX0_far_X0_checkMost : GoodIn wsX0_far wsX0_checkMost := goodIn_ca (goodIn_r _ [5, 6, 7] (by decide +kernel) (by decide +kernel)) (goodIn_sub (fun _ h => List.mem_cons_of_mem _ (List.mem_append_right _ h)) (by decide +kernel))
set_option maxRecDepth 20000 in
theorem gX0_far_X0_checkMost : GoodIn wsX0_far (va_wsS RX0 128 yX0_checkMost wsX0_checkMost) := goodIn_app (goodIn_of _ (by decide +kernel)) ggX0_far_X0_checkMost
set_option maxRecDepth 20000 in
theorem ggX0_far_X0_fewestTurns : GoodIn wsX0_far wsX0_fewestTurns := goodIn_r _ [10, 11, 12, 4, 13, 14, 15, 16, 17, 18, 19, 20, 21, 22, 23, 24, 25, 26, 27, 28, 29, 30, 31, 32, 33, 34, 35, 36, 37, 38, 39, 40, 41, 42, 43, 44, 45, 46, 47, 48, 49] (by decide +kernel) (by decide +kernel)
set_option maxRecDepth 20000 in
theorem gX0_far_X0_fewestTurns : GoodIn wsX0_far (va_wsS RX0 131 yX0_fewestTurns wsX0_fewestTurns) := goodIn_app (goodIn_of _ (by decide +kernel)) ggX0_far_X0_fewestTurns
theorem dX0_far_0 : decode cX0_far 0 = .ok (.iload_n 1, 1) := by decide +kernel
theorem dX0_far_1 : decode cX0_far 1 = .ok (.invokestatic 128, 3) := by decide +kernel
theorem dX0_far_4 : decode cX0_far 4 = .ok (.aload_n 0, 1) := by decide +kernel
theorem dX0_far_5 : decode cX0_far 5 = .ok (.getfield 11, 3) := by decide +kernel
theorem dX0_far_8 : decode cX0_far 8 = .ok (.iload_n 1, 1) := by decide +kernel
theorem dX0_far_9 : decode cX0_far 9 = .ok (.invokestatic 131, 3) := by decide +kernel
theorem dX0_far_12 : decode cX0_far 12 = .ok (.ireturn, 1) := by decide +kernel
set_option maxRecDepth 20000 in
theorem ggX0_first_X0_checkMost : GoodIn wsX0_first wsX0_checkMost := goodIn_ca (goodIn_r _ [5, 6, 7] (by decide +kernel) (by decide +kernel)) (goodIn_sub (fun _ h => List.mem_cons_of_mem _ (List.mem_append_right _ h)) (by decide +kernel))
set_option maxRecDepth 20000 in
theorem gX0_first_X0_checkMost : GoodIn wsX0_first (va_wsS RX0 128 yX0_checkMost wsX0_checkMost) := goodIn_app (goodIn_of _ (by decide +kernel)) ggX0_first_X0_checkMost
set_option maxRecDepth 20000 in
theorem ggX0_first_X0_fewestTurns : GoodIn wsX0_first wsX0_fewestTurns := goodIn_r _ [10, 11, 12, 4, 13, 14, 15, 16, 17, 18, 19, 20, 21, 22, 23, 24, 25, 26, 27, 28, 29, 30, 31, 32, 33, 34, 35, 36, 37, 38, 39, 40, 41, 42, 43, 44, 45, 46, 47, 48, 49] (by decide +kernel) (by decide +kernel)
set_option maxRecDepth 20000 in
theorem gX0_first_X0_fewestTurns : GoodIn wsX0_first (va_wsS RX0 131 yX0_fewestTurns wsX0_fewestTurns) := goodIn_app (goodIn_of _ (by decide +kernel)) ggX0_first_X0_fewestTurns
set_option maxRecDepth 20000 in
theorem ggX0_first_X0_turned : GoodIn wsX0_first wsX0_turned := goodIn_r _ [52, 53, 54, 4, 55, 56, 57, 58, 36, 37, 38, 39, 40, 41, 42, 43, 44, 24, 25, 26, 27, 28, 29, 45, 46, 47, 48, 49] (by decide +kernel) (by decide +kernel)
set_option maxRecDepth 20000 in
theorem gX0_first_X0_turned : GoodIn wsX0_first (va_wsS RX0 39 yX0_turned wsX0_turned) := goodIn_app (goodIn_of _ (by decide +kernel)) ggX0_first_X0_turned
set_option maxRecDepth 20000 in
theorem ggX0_first_X0_faceOf : GoodIn wsX0_first wsX0_faceOf := goodIn_r _ [58] (by decide +kernel) (by decide +kernel)
set_option maxRecDepth 20000 in
theorem gX0_first_X0_faceOf : GoodIn wsX0_first (va_wsS RX0 134 yX0_faceOf wsX0_faceOf) := goodIn_app (goodIn_of _ (by decide +kernel)) ggX0_first_X0_faceOf
set_option maxRecDepth 20000 in
theorem ggX0_first_X0_isRightWithin : GoodIn wsX0_first wsX0_isRightWithin := goodIn_r _ [13, 14, 15, 16, 4, 17, 18, 19, 20, 21, 22, 23, 24, 25, 26, 27, 28, 29, 30, 31, 32, 33, 34, 35, 36, 37, 38, 39, 40, 41, 42, 43, 44, 45, 46, 47, 48, 49, 11, 12] (by decide +kernel) (by decide +kernel)
set_option maxRecDepth 20000 in
theorem gX0_first_X0_isRightWithin : GoodIn wsX0_first (va_wsS RX0 137 yX0_isRightWithin wsX0_isRightWithin) := goodIn_app (goodIn_of _ (by decide +kernel)) ggX0_first_X0_isRightWithin
theorem dX0_first_0 : decode cX0_first 0 = .ok (.iload_n 1, 1) := by decide +kernel
theorem dX0_first_1 : decode cX0_first 1 = .ok (.invokestatic 128, 3) := by decide +kernel
theorem dX0_first_4 : decode cX0_first 4 = .ok (.aload_n 0, 1) := by decide +kernel
theorem dX0_first_5 : decode cX0_first 5 = .ok (.getfield 11, 3) := by decide +kernel
theorem dX0_first_8 : decode cX0_first 8 = .ok (.iload_n 1, 1) := by decide +kernel
theorem dX0_first_9 : decode cX0_first 9 = .ok (.invokestatic 131, 3) := by decide +kernel
theorem dX0_first_12 : decode cX0_first 12 = .ok (.istore_n 2, 1) := by decide +kernel
theorem dX0_first_13 : decode cX0_first 13 = .ok (.iconst 0, 1) := by decide +kernel
theorem dX0_first_14 : decode cX0_first 14 = .ok (.istore_n 3, 1) := by decide +kernel
theorem dX0_first_15 : decode cX0_first 15 = .ok (.iload_n 2, 1) := by decide +kernel
theorem dX0_first_16 : decode cX0_first 16 = .ok (.ifCond .le 38, 3) := by decide +kernel
theorem dX0_first_19 : decode cX0_first 19 = .ok (.iload_n 3, 1) := by decide +kernel
theorem dX0_first_20 : decode cX0_first 20 = .ok (.bipush 9, 2) := by decide +kernel
theorem dX0_first_22 : decode cX0_first 22 = .ok (.if_icmp .ge 32, 3) := by decide +kernel
theorem dX0_first_25 : decode cX0_first 25 = .ok (.aload_n 0, 1) := by decide +kernel
theorem dX0_first_26 : decode cX0_first 26 = .ok (.getfield 11, 3) := by decide +kernel
theorem dX0_first_29 : decode cX0_first 29 = .ok (.iload_n 3, 1) := by decide +kernel
theorem dX0_first_30 : decode cX0_first 30 = .ok (.invokestatic 39, 3) := by decide +kernel
theorem dX0_first_33 : decode cX0_first 33 = .ok (.iload_n 2, 1) := by decide +kernel
theorem dX0_first_34 : decode cX0_first 34 = .ok (.iconst 1, 1) := by decide +kernel
theorem dX0_first_35 : decode cX0_first 35 = .ok (.isub, 1) := by decide +kernel
theorem dX0_first_36 : decode cX0_first 36 = .ok (.iload_n 3, 1) := by decide +kernel
theorem dX0_first_37 : decode cX0_first 37 = .ok (.invokestatic 134, 3) := by decide +kernel
theorem dX0_first_40 : decode cX0_first 40 = .ok (.invokestatic 137, 3) := by decide +kernel
theorem dX0_first_43 : decode cX0_first 43 = .ok (.ifCond .eq 5, 3) := by decide +kernel
theorem dX0_first_46 : decode cX0_first 46 = .ok (.iload_n 3, 1) := by decide +kernel
theorem dX0_first_47 : decode cX0_first 47 = .ok (.ireturn, 1) := by decide +kernel
theorem dX0_first_48 : decode cX0_first 48 = .ok (.iinc 3 1, 3) := by decide +kernel
theorem dX0_first_51 : decode cX0_first 51 = .ok (.goto (-36), 3) := by decide +kernel
theorem dX0_first_54 : decode cX0_first 54 = .ok (.iconst (-1), 1) := by decide +kernel
theorem dX0_first_55 : decode cX0_first 55 = .ok (.ireturn, 1) := by decide +kernel
set_option maxRecDepth 20000 in
theorem ggX0_shortest_X0_checkWord : GoodIn wsX0_shortest wsX0_checkWord := goodIn_ca (goodIn_r _ [4, 5, 6] (by decide +kernel) (by decide +kernel)) (goodIn_sub (fun _ h => List.mem_cons_of_mem _ (List.mem_append_left _ (List.mem_append_right _ h))) (by decide +kernel))
set_option maxRecDepth 20000 in
theorem gX0_shortest_X0_checkWord : GoodIn wsX0_shortest (va_wsS RX0 47 yX0_checkWord wsX0_checkWord) := goodIn_app (goodIn_of _ (by decide +kernel)) ggX0_shortest_X0_checkWord
set_option maxRecDepth 20000 in
theorem ggX0_shortest_X0_checkMost : GoodIn wsX0_shortest wsX0_checkMost := goodIn_ca (goodIn_r _ [9, 10, 11] (by decide +kernel) (by decide +kernel)) (goodIn_sub (fun _ h => List.mem_cons_of_mem _ (List.mem_append_right _ h)) (by decide +kernel))
set_option maxRecDepth 20000 in
theorem gX0_shortest_X0_checkMost : GoodIn wsX0_shortest (va_wsS RX0 128 yX0_checkMost wsX0_checkMost) := goodIn_app (goodIn_of _ (by decide +kernel)) ggX0_shortest_X0_checkMost
set_option maxRecDepth 20000 in
theorem ggX0_shortest_X0_deedOf : GoodIn wsX0_shortest wsX0_deedOf := goodIn_r _ [15, 16, 17, 18, 19, 3, 20, 21, 22, 23, 24, 25, 26, 27, 28, 29, 30, 31, 32, 33, 34, 35, 36, 37, 38, 39, 40, 41, 42, 43, 44, 45, 46, 47, 48, 49, 50, 51, 73, 74, 75, 76] (by decide +kernel) (by decide +kernel)
set_option maxRecDepth 20000 in
theorem gX0_shortest_X0_deedOf : GoodIn wsX0_shortest (wsV RX0 119 RX0 yX0_deedOf wsX0_deedOf) := goodIn_app (goodIn_of _ (by decide +kernel)) ggX0_shortest_X0_deedOf
set_option maxRecDepth 20000 in
theorem ggX0_shortest_X0_fewestTurns : GoodIn wsX0_shortest wsX0_fewestTurns := goodIn_r _ [54, 55, 56, 3, 57, 16, 58, 59, 60, 61, 62, 63, 64, 65, 66, 41, 42, 43, 44, 45, 46, 67, 68, 69, 70, 71, 72, 32, 33, 34, 35, 36, 37, 38, 39, 40, 47, 48, 49, 50, 51] (by decide +kernel) (by decide +kernel)
set_option maxRecDepth 20000 in
theorem gX0_shortest_X0_fewestTurns : GoodIn wsX0_shortest (va_wsS RX0 131 yX0_fewestTurns wsX0_fewestTurns) := goodIn_app (goodIn_of _ (by decide +kernel)) ggX0_shortest_X0_fewestTurns
theorem dX0_shortest_0 : decode cX0_shortest 0 = .ok (.iload_n 1, 1) := by decide +kernel
theorem dX0_shortest_1 : decode cX0_shortest 1 = .ok (.invokestatic 47, 3) := by decide +kernel
theorem dX0_shortest_4 : decode cX0_shortest 4 = .ok (.iload_n 2, 1) := by decide +kernel
theorem dX0_shortest_5 : decode cX0_shortest 5 = .ok (.invokestatic 128, 3) := by decide +kernel
theorem dX0_shortest_8 : decode cX0_shortest 8 = .ok (.aload_n 0, 1) := by decide +kernel
theorem dX0_shortest_9 : decode cX0_shortest 9 = .ok (.iload_n 1, 1) := by decide +kernel
theorem dX0_shortest_10 : decode cX0_shortest 10 = .ok (.invokevirtual 119, 3) := by decide +kernel
theorem dX0_shortest_13 : decode cX0_shortest 13 = .ok (.iload_n 2, 1) := by decide +kernel
theorem dX0_shortest_14 : decode cX0_shortest 14 = .ok (.invokestatic 131, 3) := by decide +kernel
theorem dX0_shortest_17 : decode cX0_shortest 17 = .ok (.ireturn, 1) := by decide +kernel
set_option maxRecDepth 20000 in
theorem ggX0_advise_X0_turned : GoodIn wsX0_advise wsX0_turned := goodIn_r _ [5, 6, 7, 4, 8, 9, 10, 11, 12, 13, 14, 15, 16, 17, 18, 19, 20, 21, 22, 23, 24, 25, 26, 27, 28, 29, 30, 31] (by decide +kernel) (by decide +kernel)
set_option maxRecDepth 20000 in
theorem gX0_advise_X0_turned : GoodIn wsX0_advise (va_wsS RX0 39 yX0_turned wsX0_turned) := goodIn_app (goodIn_of _ (by decide +kernel)) ggX0_advise_X0_turned
set_option maxRecDepth 20000 in
theorem ggX0_advise_X0_rightCorners : GoodIn wsX0_advise wsX0_rightCorners := goodIn_r _ [34, 35, 36, 4, 37, 21, 22, 23, 24, 25, 26] (by decide +kernel) (by decide +kernel)
set_option maxRecDepth 20000 in
theorem gX0_advise_X0_rightCorners : GoodIn wsX0_advise (va_wsS RX0 43 yX0_rightCorners wsX0_rightCorners) := goodIn_app (goodIn_of _ (by decide +kernel)) ggX0_advise_X0_rightCorners
theorem dX0_advise_0 : decode cX0_advise 0 = .ok (.iconst 0, 1) := by decide +kernel
theorem dX0_advise_1 : decode cX0_advise 1 = .ok (.istore_n 1, 1) := by decide +kernel
theorem dX0_advise_2 : decode cX0_advise 2 = .ok (.iconst (-1), 1) := by decide +kernel
theorem dX0_advise_3 : decode cX0_advise 3 = .ok (.istore_n 2, 1) := by decide +kernel
theorem dX0_advise_4 : decode cX0_advise 4 = .ok (.iconst 0, 1) := by decide +kernel
theorem dX0_advise_5 : decode cX0_advise 5 = .ok (.istore_n 3, 1) := by decide +kernel
theorem dX0_advise_6 : decode cX0_advise 6 = .ok (.iload_n 3, 1) := by decide +kernel
theorem dX0_advise_7 : decode cX0_advise 7 = .ok (.bipush 9, 2) := by decide +kernel
theorem dX0_advise_9 : decode cX0_advise 9 = .ok (.if_icmp .ge 33, 3) := by decide +kernel
theorem dX0_advise_12 : decode cX0_advise 12 = .ok (.aload_n 0, 1) := by decide +kernel
theorem dX0_advise_13 : decode cX0_advise 13 = .ok (.getfield 11, 3) := by decide +kernel
theorem dX0_advise_16 : decode cX0_advise 16 = .ok (.iload_n 3, 1) := by decide +kernel
theorem dX0_advise_17 : decode cX0_advise 17 = .ok (.invokestatic 39, 3) := by decide +kernel
theorem dX0_advise_20 : decode cX0_advise 20 = .ok (.invokestatic 43, 3) := by decide +kernel
theorem dX0_advise_23 : decode cX0_advise 23 = .ok (.istore 4, 2) := by decide +kernel
theorem dX0_advise_25 : decode cX0_advise 25 = .ok (.iload 4, 2) := by decide +kernel
theorem dX0_advise_27 : decode cX0_advise 27 = .ok (.iload_n 2, 1) := by decide +kernel
theorem dX0_advise_28 : decode cX0_advise 28 = .ok (.if_icmp .le 8, 3) := by decide +kernel
theorem dX0_advise_31 : decode cX0_advise 31 = .ok (.iload_n 3, 1) := by decide +kernel
theorem dX0_advise_32 : decode cX0_advise 32 = .ok (.istore_n 1, 1) := by decide +kernel
theorem dX0_advise_33 : decode cX0_advise 33 = .ok (.iload 4, 2) := by decide +kernel
theorem dX0_advise_35 : decode cX0_advise 35 = .ok (.istore_n 2, 1) := by decide +kernel
theorem dX0_advise_36 : decode cX0_advise 36 = .ok (.iinc 3 1, 3) := by decide +kernel
theorem dX0_advise_39 : decode cX0_advise 39 = .ok (.goto (-33), 3) := by decide +kernel
theorem dX0_advise_42 : decode cX0_advise 42 = .ok (.iload_n 1, 1) := by decide +kernel
theorem dX0_advise_43 : decode cX0_advise 43 = .ok (.ireturn, 1) := by decide +kernel
set_option maxRecDepth 20000 in
theorem ggX0_mean_X0_turnsOfAllWords : GoodIn wsX0_mean wsX0_turnsOfAllWords := goodIn_r _ [6, 7, 8, 9, 10, 11] (by decide +kernel) (by decide +kernel)
set_option maxRecDepth 20000 in
theorem gX0_mean_X0_turnsOfAllWords : GoodIn wsX0_mean (wsV RX0 115 RX0 yX0_turnsOfAllWords wsX0_turnsOfAllWords) := goodIn_app (goodIn_of _ (by decide +kernel)) ggX0_mean_X0_turnsOfAllWords
theorem dX0_mean_0 : decode cX0_mean 0 = .ok (.aload_n 0, 1) := by decide +kernel
theorem dX0_mean_1 : decode cX0_mean 1 = .ok (.invokevirtual 115, 3) := by decide +kernel
theorem dX0_mean_4 : decode cX0_mean 4 = .ok (.i2d, 1) := by decide +kernel
theorem dX0_mean_5 : decode cX0_mean 5 = .ok (.ldc2_w 141, 3) := by decide +kernel
theorem dX0_mean_8 : decode cX0_mean 8 = .ok (.ddiv, 1) := by decide +kernel
theorem dX0_mean_9 : decode cX0_mean 9 = .ok (.dreturn, 1) := by decide +kernel
set_option maxRecDepth 20000 in
theorem ggX0_digest_X0_count : GoodIn wsX0_digest wsX0_count := goodIn_ca (goodIn_r _ [7, 8, 9, 10, 11, 6, 12, 13, 14, 15, 16, 17, 18, 19, 20, 21, 22, 23, 24, 25, 26, 27, 28, 29, 30, 31, 32, 33, 34, 35, 36, 37, 38, 39, 40, 41, 42, 43, 44, 45, 46, 47, 48, 49, 50, 51, 52, 101, 102, 103, 104] (by decide +kernel) (by decide +kernel)) (goodIn_sub (fun _ h => List.mem_cons_of_mem _ (List.mem_append_right _ h)) (by decide +kernel))
set_option maxRecDepth 20000 in
theorem gX0_digest_X0_count : GoodIn wsX0_digest (wsV RX0 147 RX0 yX0_count wsX0_count) := goodIn_app (goodIn_of _ (by decide +kernel)) ggX0_digest_X0_count
set_option maxRecDepth 20000 in
theorem ggX0_digest_X0_told : GoodIn wsX0_digest wsX0_told := goodIn_ca (goodIn_r _ [56, 9, 57, 58, 6, 59, 13, 14, 10, 11, 12, 21, 22, 23, 24, 25, 26, 18, 19, 20, 101, 102, 103, 104] (by decide +kernel) (by decide +kernel)) (goodIn_sub (fun _ h => List.mem_cons_of_mem _ (List.mem_append_right _ h)) (by decide +kernel))
set_option maxRecDepth 20000 in
theorem gX0_digest_X0_told : GoodIn wsX0_digest (wsV RX0 150 RX0 yX0_told wsX0_told) := goodIn_app (goodIn_of _ (by decide +kernel)) ggX0_digest_X0_told
set_option maxRecDepth 20000 in
theorem ggX0_digest_X0_digestOfWord : GoodIn wsX0_digest wsX0_digestOfWord := goodIn_ca (goodIn_r _ [63, 2, 52, 64, 65, 66, 67, 6, 68, 69, 70, 71, 13, 14, 10, 11, 12, 72, 73, 74, 75, 39, 76, 77, 78, 79, 80, 81, 82, 83, 84, 85, 86, 87, 88, 89, 90, 91, 92, 93, 94, 95, 96, 97, 21, 22, 23, 24, 25, 26, 43, 44, 45, 46, 47, 36, 37, 38, 40, 41, 42, 98, 99, 100, 15, 16, 17, 18, 19, 20, 27, 28, 29, 101, 102, 103, 104] (by decide +kernel) (by decide +kernel)) (goodIn_sub (fun _ h => List.mem_cons_of_mem _ (List.mem_append_right _ h)) (by decide +kernel))
set_option maxRecDepth 20000 in
theorem gX0_digest_X0_digestOfWord : GoodIn wsX0_digest (wsV RX0 153 RX0 yX0_digestOfWord wsX0_digestOfWord) := goodIn_app (goodIn_of _ (by decide +kernel)) ggX0_digest_X0_digestOfWord
theorem dX0_digest_0 : decode cX0_digest 0 = .ok (.ldc2_w 143, 3) := by decide +kernel
theorem dX0_digest_3 : decode cX0_digest 3 = .ok (.lstore_n 1, 1) := by decide +kernel
theorem dX0_digest_4 : decode cX0_digest 4 = .ok (.iconst 0, 1) := by decide +kernel
theorem dX0_digest_5 : decode cX0_digest 5 = .ok (.istore_n 3, 1) := by decide +kernel
theorem dX0_digest_6 : decode cX0_digest 6 = .ok (.iload_n 3, 1) := by decide +kernel
theorem dX0_digest_7 : decode cX0_digest 7 = .ok (.bipush 7, 2) := by decide +kernel
theorem dX0_digest_9 : decode cX0_digest 9 = .ok (.if_icmp .ge 22, 3) := by decide +kernel
theorem dX0_digest_12 : decode cX0_digest 12 = .ok (.lload_n 1, 1) := by decide +kernel
theorem dX0_digest_13 : decode cX0_digest 13 = .ok (.ldc2_w 145, 3) := by decide +kernel
theorem dX0_digest_16 : decode cX0_digest 16 = .ok (.lmul, 1) := by decide +kernel
theorem dX0_digest_17 : decode cX0_digest 17 = .ok (.aload_n 0, 1) := by decide +kernel
theorem dX0_digest_18 : decode cX0_digest 18 = .ok (.iload_n 3, 1) := by decide +kernel
theorem dX0_digest_19 : decode cX0_digest 19 = .ok (.invokevirtual 147, 3) := by decide +kernel
theorem dX0_digest_22 : decode cX0_digest 22 = .ok (.i2l, 1) := by decide +kernel
theorem dX0_digest_23 : decode cX0_digest 23 = .ok (.ladd, 1) := by decide +kernel
theorem dX0_digest_24 : decode cX0_digest 24 = .ok (.lstore_n 1, 1) := by decide +kernel
theorem dX0_digest_25 : decode cX0_digest 25 = .ok (.iinc 3 1, 3) := by decide +kernel
theorem dX0_digest_28 : decode cX0_digest 28 = .ok (.goto (-22), 3) := by decide +kernel
theorem dX0_digest_31 : decode cX0_digest 31 = .ok (.iconst 0, 1) := by decide +kernel
theorem dX0_digest_32 : decode cX0_digest 32 = .ok (.istore_n 3, 1) := by decide +kernel
theorem dX0_digest_33 : decode cX0_digest 33 = .ok (.iload_n 3, 1) := by decide +kernel
theorem dX0_digest_34 : decode cX0_digest 34 = .ok (.bipush 8, 2) := by decide +kernel
theorem dX0_digest_36 : decode cX0_digest 36 = .ok (.if_icmp .ge 39, 3) := by decide +kernel
theorem dX0_digest_39 : decode cX0_digest 39 = .ok (.iconst 0, 1) := by decide +kernel
theorem dX0_digest_40 : decode cX0_digest 40 = .ok (.istore 4, 2) := by decide +kernel
theorem dX0_digest_42 : decode cX0_digest 42 = .ok (.iload 4, 2) := by decide +kernel
theorem dX0_digest_44 : decode cX0_digest 44 = .ok (.iconst 3, 1) := by decide +kernel
theorem dX0_digest_45 : decode cX0_digest 45 = .ok (.if_icmp .ge 24, 3) := by decide +kernel
theorem dX0_digest_48 : decode cX0_digest 48 = .ok (.lload_n 1, 1) := by decide +kernel
theorem dX0_digest_49 : decode cX0_digest 49 = .ok (.ldc2_w 145, 3) := by decide +kernel
theorem dX0_digest_52 : decode cX0_digest 52 = .ok (.lmul, 1) := by decide +kernel
theorem dX0_digest_53 : decode cX0_digest 53 = .ok (.aload_n 0, 1) := by decide +kernel
theorem dX0_digest_54 : decode cX0_digest 54 = .ok (.iload_n 3, 1) := by decide +kernel
theorem dX0_digest_55 : decode cX0_digest 55 = .ok (.iload 4, 2) := by decide +kernel
theorem dX0_digest_57 : decode cX0_digest 57 = .ok (.invokevirtual 150, 3) := by decide +kernel
theorem dX0_digest_60 : decode cX0_digest 60 = .ok (.i2l, 1) := by decide +kernel
theorem dX0_digest_61 : decode cX0_digest 61 = .ok (.ladd, 1) := by decide +kernel
theorem dX0_digest_62 : decode cX0_digest 62 = .ok (.lstore_n 1, 1) := by decide +kernel
theorem dX0_digest_63 : decode cX0_digest 63 = .ok (.iinc 4 1, 3) := by decide +kernel
theorem dX0_digest_66 : decode cX0_digest 66 = .ok (.goto (-24), 3) := by decide +kernel
theorem dX0_digest_69 : decode cX0_digest 69 = .ok (.iinc 3 1, 3) := by decide +kernel
theorem dX0_digest_72 : decode cX0_digest 72 = .ok (.goto (-39), 3) := by decide +kernel
theorem dX0_digest_75 : decode cX0_digest 75 = .ok (.iconst 0, 1) := by decide +kernel
theorem dX0_digest_76 : decode cX0_digest 76 = .ok (.istore_n 3, 1) := by decide +kernel
theorem dX0_digest_77 : decode cX0_digest 77 = .ok (.iload_n 3, 1) := by decide +kernel
theorem dX0_digest_78 : decode cX0_digest 78 = .ok (.iconst 5, 1) := by decide +kernel
theorem dX0_digest_79 : decode cX0_digest 79 = .ok (.if_icmp .ge 16, 3) := by decide +kernel
theorem dX0_digest_82 : decode cX0_digest 82 = .ok (.aload_n 0, 1) := by decide +kernel
theorem dX0_digest_83 : decode cX0_digest 83 = .ok (.lload_n 1, 1) := by decide +kernel
theorem dX0_digest_84 : decode cX0_digest 84 = .ok (.iload_n 3, 1) := by decide +kernel
theorem dX0_digest_85 : decode cX0_digest 85 = .ok (.invokevirtual 153, 3) := by decide +kernel
theorem dX0_digest_88 : decode cX0_digest 88 = .ok (.lstore_n 1, 1) := by decide +kernel
theorem dX0_digest_89 : decode cX0_digest 89 = .ok (.iinc 3 1, 3) := by decide +kernel
theorem dX0_digest_92 : decode cX0_digest 92 = .ok (.goto (-15), 3) := by decide +kernel
theorem dX0_digest_95 : decode cX0_digest 95 = .ok (.lload_n 1, 1) := by decide +kernel
theorem dX0_digest_96 : decode cX0_digest 96 = .ok (.lreturn, 1) := by decide +kernel
set_option maxRecDepth 20000 in
theorem ggX0_digestOfWord_X0_word : GoodIn wsX0_digestOfWord wsX0_word := goodIn_ca (goodIn_r _ [8, 2, 9, 10, 7, 11, 12, 13, 14, 15, 16, 17, 18, 19, 20, 21, 22, 23, 24, 25, 3, 26, 27, 28, 29, 30, 31, 32, 33, 34, 35, 36, 37, 38, 39, 40, 41, 42, 43, 44, 45, 46, 47, 48, 49, 50, 51, 52, 53, 54, 55, 56, 57, 58, 59, 60, 61, 62, 63, 64, 65, 66, 67, 68, 69, 70, 71, 72, 73, 74, 75, 76] (by decide +kernel) (by decide +kernel)) (goodIn_sub (fun _ h => List.mem_cons_of_mem _ (List.mem_append_right _ h)) (by decide +kernel))
set_option maxRecDepth 20000 in
theorem gX0_digestOfWord_X0_word : GoodIn wsX0_digestOfWord (wsV RX0 156 RX0 yX0_word wsX0_word) := goodIn_app (goodIn_of _ (by decide +kernel)) ggX0_digestOfWord_X0_word
theorem dX0_digestOfWord_0 : decode cX0_digestOfWord 0 = .ok (.lload_n 1, 1) := by decide +kernel
theorem dX0_digestOfWord_1 : decode cX0_digestOfWord 1 = .ok (.lstore 4, 2) := by decide +kernel
theorem dX0_digestOfWord_3 : decode cX0_digestOfWord 3 = .ok (.iconst 0, 1) := by decide +kernel
theorem dX0_digestOfWord_4 : decode cX0_digestOfWord 4 = .ok (.istore 6, 2) := by decide +kernel
theorem dX0_digestOfWord_6 : decode cX0_digestOfWord 6 = .ok (.iload 6, 2) := by decide +kernel
theorem dX0_digestOfWord_8 : decode cX0_digestOfWord 8 = .ok (.iconst 4, 1) := by decide +kernel
theorem dX0_digestOfWord_9 : decode cX0_digestOfWord 9 = .ok (.if_icmp .ge 26, 3) := by decide +kernel
theorem dX0_digestOfWord_12 : decode cX0_digestOfWord 12 = .ok (.lload 4, 2) := by decide +kernel
theorem dX0_digestOfWord_14 : decode cX0_digestOfWord 14 = .ok (.ldc2_w 145, 3) := by decide +kernel
theorem dX0_digestOfWord_17 : decode cX0_digestOfWord 17 = .ok (.lmul, 1) := by decide +kernel
theorem dX0_digestOfWord_18 : decode cX0_digestOfWord 18 = .ok (.aload_n 0, 1) := by decide +kernel
theorem dX0_digestOfWord_19 : decode cX0_digestOfWord 19 = .ok (.iload_n 3, 1) := by decide +kernel
theorem dX0_digestOfWord_20 : decode cX0_digestOfWord 20 = .ok (.iload 6, 2) := by decide +kernel
theorem dX0_digestOfWord_22 : decode cX0_digestOfWord 22 = .ok (.invokevirtual 156, 3) := by decide +kernel
theorem dX0_digestOfWord_25 : decode cX0_digestOfWord 25 = .ok (.i2l, 1) := by decide +kernel
theorem dX0_digestOfWord_26 : decode cX0_digestOfWord 26 = .ok (.ladd, 1) := by decide +kernel
theorem dX0_digestOfWord_27 : decode cX0_digestOfWord 27 = .ok (.lstore 4, 2) := by decide +kernel
theorem dX0_digestOfWord_29 : decode cX0_digestOfWord 29 = .ok (.iinc 6 1, 3) := by decide +kernel
theorem dX0_digestOfWord_32 : decode cX0_digestOfWord 32 = .ok (.goto (-26), 3) := by decide +kernel
theorem dX0_digestOfWord_35 : decode cX0_digestOfWord 35 = .ok (.iconst 0, 1) := by decide +kernel
theorem dX0_digestOfWord_36 : decode cX0_digestOfWord 36 = .ok (.istore 6, 2) := by decide +kernel
theorem dX0_digestOfWord_38 : decode cX0_digestOfWord 38 = .ok (.iload 6, 2) := by decide +kernel
theorem dX0_digestOfWord_40 : decode cX0_digestOfWord 40 = .ok (.aload_n 0, 1) := by decide +kernel
theorem dX0_digestOfWord_41 : decode cX0_digestOfWord 41 = .ok (.getfield 24, 3) := by decide +kernel
theorem dX0_digestOfWord_44 : decode cX0_digestOfWord 44 = .ok (.iload_n 3, 1) := by decide +kernel
theorem dX0_digestOfWord_45 : decode cX0_digestOfWord 45 = .ok (.iaload, 1) := by decide +kernel
theorem dX0_digestOfWord_46 : decode cX0_digestOfWord 46 = .ok (.if_icmp .ge 28, 3) := by decide +kernel
theorem dX0_digestOfWord_49 : decode cX0_digestOfWord 49 = .ok (.lload 4, 2) := by decide +kernel
theorem dX0_digestOfWord_51 : decode cX0_digestOfWord 51 = .ok (.ldc2_w 145, 3) := by decide +kernel
theorem dX0_digestOfWord_54 : decode cX0_digestOfWord 54 = .ok (.lmul, 1) := by decide +kernel
theorem dX0_digestOfWord_55 : decode cX0_digestOfWord 55 = .ok (.aload_n 0, 1) := by decide +kernel
theorem dX0_digestOfWord_56 : decode cX0_digestOfWord 56 = .ok (.getfield 21, 3) := by decide +kernel
theorem dX0_digestOfWord_59 : decode cX0_digestOfWord 59 = .ok (.iload_n 3, 1) := by decide +kernel
theorem dX0_digestOfWord_60 : decode cX0_digestOfWord 60 = .ok (.aaload, 1) := by decide +kernel
theorem dX0_digestOfWord_61 : decode cX0_digestOfWord 61 = .ok (.iload 6, 2) := by decide +kernel
theorem dX0_digestOfWord_63 : decode cX0_digestOfWord 63 = .ok (.iaload, 1) := by decide +kernel
theorem dX0_digestOfWord_64 : decode cX0_digestOfWord 64 = .ok (.i2l, 1) := by decide +kernel
theorem dX0_digestOfWord_65 : decode cX0_digestOfWord 65 = .ok (.ladd, 1) := by decide +kernel
theorem dX0_digestOfWord_66 : decode cX0_digestOfWord 66 = .ok (.lstore 4, 2) := by decide +kernel
theorem dX0_digestOfWord_68 : decode cX0_digestOfWord 68 = .ok (.iinc 6 1, 3) := by decide +kernel
theorem dX0_digestOfWord_71 : decode cX0_digestOfWord 71 = .ok (.goto (-33), 3) := by decide +kernel
theorem dX0_digestOfWord_74 : decode cX0_digestOfWord 74 = .ok (.lload 4, 2) := by decide +kernel
theorem dX0_digestOfWord_76 : decode cX0_digestOfWord 76 = .ok (.lreturn, 1) := by decide +kernel
theorem dX0_checkFace_0 : decode cX0_checkFace 0 = .ok (.iload_n 0, 1) := by decide +kernel
theorem dX0_checkFace_1 : decode cX0_checkFace 1 = .ok (.ifCond .lt 8, 3) := by decide +kernel
theorem dX0_checkFace_4 : decode cX0_checkFace 4 = .ok (.iload_n 0, 1) := by decide +kernel
theorem dX0_checkFace_5 : decode cX0_checkFace 5 = .ok (.iconst 3, 1) := by decide +kernel
theorem dX0_checkFace_6 : decode cX0_checkFace 6 = .ok (.if_icmp .lt 13, 3) := by decide +kernel
theorem dX0_checkFace_9 : decode cX0_checkFace 9 = .ok (.new 98, 3) := by decide +kernel
theorem dX0_checkFace_12 : decode cX0_checkFace 12 = .ok (.dup, 1) := by decide +kernel
theorem dX0_checkFace_13 : decode cX0_checkFace 13 = .ok (.ldc 159, 2) := by decide +kernel
theorem dX0_checkFace_15 : decode cX0_checkFace 15 = .ok (.invokespecial 102, 3) := by decide +kernel
theorem dX0_checkFace_18 : decode cX0_checkFace 18 = .ok (.athrow, 1) := by decide +kernel
theorem dX0_checkFace_19 : decode cX0_checkFace 19 = .ok (.return_, 1) := by decide +kernel
theorem dX0_checkQuarters_0 : decode cX0_checkQuarters 0 = .ok (.iload_n 0, 1) := by decide +kernel
theorem dX0_checkQuarters_1 : decode cX0_checkQuarters 1 = .ok (.iconst 1, 1) := by decide +kernel
theorem dX0_checkQuarters_2 : decode cX0_checkQuarters 2 = .ok (.if_icmp .lt 8, 3) := by decide +kernel
theorem dX0_checkQuarters_5 : decode cX0_checkQuarters 5 = .ok (.iload_n 0, 1) := by decide +kernel
theorem dX0_checkQuarters_6 : decode cX0_checkQuarters 6 = .ok (.iconst 4, 1) := by decide +kernel
theorem dX0_checkQuarters_7 : decode cX0_checkQuarters 7 = .ok (.if_icmp .lt 13, 3) := by decide +kernel
theorem dX0_checkQuarters_10 : decode cX0_checkQuarters 10 = .ok (.new 50, 3) := by decide +kernel
theorem dX0_checkQuarters_13 : decode cX0_checkQuarters 13 = .ok (.dup, 1) := by decide +kernel
theorem dX0_checkQuarters_14 : decode cX0_checkQuarters 14 = .ok (.ldc 161, 2) := by decide +kernel
theorem dX0_checkQuarters_16 : decode cX0_checkQuarters 16 = .ok (.invokespecial 54, 3) := by decide +kernel
theorem dX0_checkQuarters_19 : decode cX0_checkQuarters 19 = .ok (.athrow, 1) := by decide +kernel
theorem dX0_checkQuarters_20 : decode cX0_checkQuarters 20 = .ok (.return_, 1) := by decide +kernel
theorem dX0_checkWord_0 : decode cX0_checkWord 0 = .ok (.iload_n 0, 1) := by decide +kernel
theorem dX0_checkWord_1 : decode cX0_checkWord 1 = .ok (.ifCond .lt 8, 3) := by decide +kernel
theorem dX0_checkWord_4 : decode cX0_checkWord 4 = .ok (.iload_n 0, 1) := by decide +kernel
theorem dX0_checkWord_5 : decode cX0_checkWord 5 = .ok (.iconst 5, 1) := by decide +kernel
theorem dX0_checkWord_6 : decode cX0_checkWord 6 = .ok (.if_icmp .lt 13, 3) := by decide +kernel
theorem dX0_checkWord_9 : decode cX0_checkWord 9 = .ok (.new 98, 3) := by decide +kernel
theorem dX0_checkWord_12 : decode cX0_checkWord 12 = .ok (.dup, 1) := by decide +kernel
theorem dX0_checkWord_13 : decode cX0_checkWord 13 = .ok (.ldc 163, 2) := by decide +kernel
theorem dX0_checkWord_15 : decode cX0_checkWord 15 = .ok (.invokespecial 102, 3) := by decide +kernel
theorem dX0_checkWord_18 : decode cX0_checkWord 18 = .ok (.athrow, 1) := by decide +kernel
theorem dX0_checkWord_19 : decode cX0_checkWord 19 = .ok (.return_, 1) := by decide +kernel
theorem dX0_checkPlace_0 : decode cX0_checkPlace 0 = .ok (.iload_n 0, 1) := by decide +kernel
theorem dX0_checkPlace_1 : decode cX0_checkPlace 1 = .ok (.ifCond .lt 9, 3) := by decide +kernel
theorem dX0_checkPlace_4 : decode cX0_checkPlace 4 = .ok (.iload_n 0, 1) := by decide +kernel
theorem dX0_checkPlace_5 : decode cX0_checkPlace 5 = .ok (.bipush 8, 2) := by decide +kernel
theorem dX0_checkPlace_7 : decode cX0_checkPlace 7 = .ok (.if_icmp .lt 13, 3) := by decide +kernel
theorem dX0_checkPlace_10 : decode cX0_checkPlace 10 = .ok (.new 98, 3) := by decide +kernel
theorem dX0_checkPlace_13 : decode cX0_checkPlace 13 = .ok (.dup, 1) := by decide +kernel
theorem dX0_checkPlace_14 : decode cX0_checkPlace 14 = .ok (.ldc 165, 2) := by decide +kernel
theorem dX0_checkPlace_16 : decode cX0_checkPlace 16 = .ok (.invokespecial 102, 3) := by decide +kernel
theorem dX0_checkPlace_19 : decode cX0_checkPlace 19 = .ok (.athrow, 1) := by decide +kernel
theorem dX0_checkPlace_20 : decode cX0_checkPlace 20 = .ok (.return_, 1) := by decide +kernel
theorem dX0_checkWhat_0 : decode cX0_checkWhat 0 = .ok (.iload_n 0, 1) := by decide +kernel
theorem dX0_checkWhat_1 : decode cX0_checkWhat 1 = .ok (.ifCond .lt 8, 3) := by decide +kernel
theorem dX0_checkWhat_4 : decode cX0_checkWhat 4 = .ok (.iload_n 0, 1) := by decide +kernel
theorem dX0_checkWhat_5 : decode cX0_checkWhat 5 = .ok (.iload_n 1, 1) := by decide +kernel
theorem dX0_checkWhat_6 : decode cX0_checkWhat 6 = .ok (.if_icmp .lt 13, 3) := by decide +kernel
theorem dX0_checkWhat_9 : decode cX0_checkWhat 9 = .ok (.new 98, 3) := by decide +kernel
theorem dX0_checkWhat_12 : decode cX0_checkWhat 12 = .ok (.dup, 1) := by decide +kernel
theorem dX0_checkWhat_13 : decode cX0_checkWhat 13 = .ok (.ldc 167, 2) := by decide +kernel
theorem dX0_checkWhat_15 : decode cX0_checkWhat 15 = .ok (.invokespecial 102, 3) := by decide +kernel
theorem dX0_checkWhat_18 : decode cX0_checkWhat 18 = .ok (.athrow, 1) := by decide +kernel
theorem dX0_checkWhat_19 : decode cX0_checkWhat 19 = .ok (.return_, 1) := by decide +kernel
theorem dX0_checkMost_0 : decode cX0_checkMost 0 = .ok (.iload_n 0, 1) := by decide +kernel
theorem dX0_checkMost_1 : decode cX0_checkMost 1 = .ok (.ifCond .lt 8, 3) := by decide +kernel
theorem dX0_checkMost_4 : decode cX0_checkMost 4 = .ok (.iload_n 0, 1) := by decide +kernel
theorem dX0_checkMost_5 : decode cX0_checkMost 5 = .ok (.iconst 5, 1) := by decide +kernel
theorem dX0_checkMost_6 : decode cX0_checkMost 6 = .ok (.if_icmp .le 13, 3) := by decide +kernel
theorem dX0_checkMost_9 : decode cX0_checkMost 9 = .ok (.new 50, 3) := by decide +kernel
theorem dX0_checkMost_12 : decode cX0_checkMost 12 = .ok (.dup, 1) := by decide +kernel
theorem dX0_checkMost_13 : decode cX0_checkMost 13 = .ok (.ldc 169, 2) := by decide +kernel
theorem dX0_checkMost_15 : decode cX0_checkMost 15 = .ok (.invokespecial 54, 3) := by decide +kernel
theorem dX0_checkMost_18 : decode cX0_checkMost 18 = .ok (.athrow, 1) := by decide +kernel
theorem dX0_checkMost_19 : decode cX0_checkMost 19 = .ok (.return_, 1) := by decide +kernel
theorem dX0_turnNumber_0 : decode cX0_turnNumber 0 = .ok (.iconst 3, 1) := by decide +kernel
theorem dX0_turnNumber_1 : decode cX0_turnNumber 1 = .ok (.iload_n 0, 1) := by decide +kernel
theorem dX0_turnNumber_2 : decode cX0_turnNumber 2 = .ok (.imul, 1) := by decide +kernel
theorem dX0_turnNumber_3 : decode cX0_turnNumber 3 = .ok (.iload_n 1, 1) := by decide +kernel
theorem dX0_turnNumber_4 : decode cX0_turnNumber 4 = .ok (.iadd, 1) := by decide +kernel
theorem dX0_turnNumber_5 : decode cX0_turnNumber 5 = .ok (.iconst 1, 1) := by decide +kernel
theorem dX0_turnNumber_6 : decode cX0_turnNumber 6 = .ok (.isub, 1) := by decide +kernel
theorem dX0_turnNumber_7 : decode cX0_turnNumber 7 = .ok (.ireturn, 1) := by decide +kernel
theorem dX0_faceOf_0 : decode cX0_faceOf 0 = .ok (.iload_n 0, 1) := by decide +kernel
theorem dX0_faceOf_1 : decode cX0_faceOf 1 = .ok (.iconst 3, 1) := by decide +kernel
theorem dX0_faceOf_2 : decode cX0_faceOf 2 = .ok (.idiv, 1) := by decide +kernel
theorem dX0_faceOf_3 : decode cX0_faceOf 3 = .ok (.ireturn, 1) := by decide +kernel
theorem dX0_quartersOf_0 : decode cX0_quartersOf 0 = .ok (.iload_n 0, 1) := by decide +kernel
theorem dX0_quartersOf_1 : decode cX0_quartersOf 1 = .ok (.iconst 3, 1) := by decide +kernel
theorem dX0_quartersOf_2 : decode cX0_quartersOf 2 = .ok (.irem, 1) := by decide +kernel
theorem dX0_quartersOf_3 : decode cX0_quartersOf 3 = .ok (.iconst 1, 1) := by decide +kernel
theorem dX0_quartersOf_4 : decode cX0_quartersOf 4 = .ok (.iadd, 1) := by decide +kernel
theorem dX0_quartersOf_5 : decode cX0_quartersOf 5 = .ok (.ireturn, 1) := by decide +kernel
set_option maxRecDepth 20000 in
theorem ggX0_turnedBack_X0_faceOf : GoodIn wsX0_turnedBack wsX0_faceOf := goodIn_r _ [4] (by decide +kernel) (by decide +kernel)
set_option maxRecDepth 20000 in
theorem gX0_turnedBack_X0_faceOf : GoodIn wsX0_turnedBack (va_wsS RX0 134 yX0_faceOf wsX0_faceOf) := goodIn_app (goodIn_of _ (by decide +kernel)) ggX0_turnedBack_X0_faceOf
set_option maxRecDepth 20000 in
theorem ggX0_turnedBack_X0_quartersOf : GoodIn wsX0_turnedBack wsX0_quartersOf := goodIn_r _ [7] (by decide +kernel) (by decide +kernel)
set_option maxRecDepth 20000 in
theorem gX0_turnedBack_X0_quartersOf : GoodIn wsX0_turnedBack (va_wsS RX0 171 yX0_quartersOf wsX0_quartersOf) := goodIn_app (goodIn_of _ (by decide +kernel)) ggX0_turnedBack_X0_quartersOf
set_option maxRecDepth 20000 in
theorem ggX0_turnedBack_X0_turnNumber : GoodIn wsX0_turnedBack wsX0_turnNumber := goodIn_r _ [10] (by decide +kernel) (by decide +kernel)
set_option maxRecDepth 20000 in
theorem gX0_turnedBack_X0_turnNumber : GoodIn wsX0_turnedBack (va_wsS RX0 35 yX0_turnNumber wsX0_turnNumber) := goodIn_app (goodIn_of _ (by decide +kernel)) ggX0_turnedBack_X0_turnNumber
theorem dX0_turnedBack_0 : decode cX0_turnedBack 0 = .ok (.iload_n 0, 1) := by decide +kernel
theorem dX0_turnedBack_1 : decode cX0_turnedBack 1 = .ok (.invokestatic 134, 3) := by decide +kernel
theorem dX0_turnedBack_4 : decode cX0_turnedBack 4 = .ok (.iconst 4, 1) := by decide +kernel
theorem dX0_turnedBack_5 : decode cX0_turnedBack 5 = .ok (.iload_n 0, 1) := by decide +kernel
theorem dX0_turnedBack_6 : decode cX0_turnedBack 6 = .ok (.invokestatic 171, 3) := by decide +kernel
theorem dX0_turnedBack_9 : decode cX0_turnedBack 9 = .ok (.isub, 1) := by decide +kernel
theorem dX0_turnedBack_10 : decode cX0_turnedBack 10 = .ok (.invokestatic 35, 3) := by decide +kernel
theorem dX0_turnedBack_13 : decode cX0_turnedBack 13 = .ok (.ireturn, 1) := by decide +kernel
set_option maxRecDepth 20000 in
theorem ggX0_keep_X0_faceOf : GoodIn wsX0_keep wsX0_faceOf := goodIn_r _ [4] (by decide +kernel) (by decide +kernel)
set_option maxRecDepth 20000 in
theorem gX0_keep_X0_faceOf : GoodIn wsX0_keep (va_wsS RX0 134 yX0_faceOf wsX0_faceOf) := goodIn_app (goodIn_of _ (by decide +kernel)) ggX0_keep_X0_faceOf
set_option maxRecDepth 20000 in
theorem ggX0_keep_X0_quartersOf : GoodIn wsX0_keep wsX0_quartersOf := goodIn_r _ [7] (by decide +kernel) (by decide +kernel)
set_option maxRecDepth 20000 in
theorem gX0_keep_X0_quartersOf : GoodIn wsX0_keep (va_wsS RX0 171 yX0_quartersOf wsX0_quartersOf) := goodIn_app (goodIn_of _ (by decide +kernel)) ggX0_keep_X0_quartersOf
set_option maxRecDepth 20000 in
theorem ggX0_keep_X0_turnNumber : GoodIn wsX0_keep wsX0_turnNumber := goodIn_r _ [10] (by decide +kernel) (by decide +kernel)
set_option maxRecDepth 20000 in
theorem gX0_keep_X0_turnNumber : GoodIn wsX0_keep (va_wsS RX0 35 yX0_turnNumber wsX0_turnNumber) := goodIn_app (goodIn_of _ (by decide +kernel)) ggX0_keep_X0_turnNumber
theorem dX0_keep_0 : decode cX0_keep 0 = .ok (.iload_n 1, 1) := by decide +kernel
theorem dX0_keep_1 : decode cX0_keep 1 = .ok (.ifCond .eq 18, 3) := by decide +kernel
theorem dX0_keep_4 : decode cX0_keep 4 = .ok (.aload_n 0, 1) := by decide +kernel
theorem dX0_keep_5 : decode cX0_keep 5 = .ok (.iload_n 1, 1) := by decide +kernel
theorem dX0_keep_6 : decode cX0_keep 6 = .ok (.iconst 1, 1) := by decide +kernel
theorem dX0_keep_7 : decode cX0_keep 7 = .ok (.isub, 1) := by decide +kernel
theorem dX0_keep_8 : decode cX0_keep 8 = .ok (.iaload, 1) := by decide +kernel
theorem dX0_keep_9 : decode cX0_keep 9 = .ok (.invokestatic 134, 3) := by decide +kernel
theorem dX0_keep_12 : decode cX0_keep 12 = .ok (.iload_n 2, 1) := by decide +kernel
theorem dX0_keep_13 : decode cX0_keep 13 = .ok (.invokestatic 134, 3) := by decide +kernel
theorem dX0_keep_16 : decode cX0_keep 16 = .ok (.if_icmp .eq 11, 3) := by decide +kernel
theorem dX0_keep_19 : decode cX0_keep 19 = .ok (.aload_n 0, 1) := by decide +kernel
theorem dX0_keep_20 : decode cX0_keep 20 = .ok (.iload_n 1, 1) := by decide +kernel
theorem dX0_keep_21 : decode cX0_keep 21 = .ok (.iload_n 2, 1) := by decide +kernel
theorem dX0_keep_22 : decode cX0_keep 22 = .ok (.iastore, 1) := by decide +kernel
theorem dX0_keep_23 : decode cX0_keep 23 = .ok (.iload_n 1, 1) := by decide +kernel
theorem dX0_keep_24 : decode cX0_keep 24 = .ok (.iconst 1, 1) := by decide +kernel
theorem dX0_keep_25 : decode cX0_keep 25 = .ok (.iadd, 1) := by decide +kernel
theorem dX0_keep_26 : decode cX0_keep 26 = .ok (.ireturn, 1) := by decide +kernel
theorem dX0_keep_27 : decode cX0_keep 27 = .ok (.aload_n 0, 1) := by decide +kernel
theorem dX0_keep_28 : decode cX0_keep 28 = .ok (.iload_n 1, 1) := by decide +kernel
theorem dX0_keep_29 : decode cX0_keep 29 = .ok (.iconst 1, 1) := by decide +kernel
theorem dX0_keep_30 : decode cX0_keep 30 = .ok (.isub, 1) := by decide +kernel
theorem dX0_keep_31 : decode cX0_keep 31 = .ok (.iaload, 1) := by decide +kernel
theorem dX0_keep_32 : decode cX0_keep 32 = .ok (.invokestatic 171, 3) := by decide +kernel
theorem dX0_keep_35 : decode cX0_keep 35 = .ok (.iload_n 2, 1) := by decide +kernel
theorem dX0_keep_36 : decode cX0_keep 36 = .ok (.invokestatic 171, 3) := by decide +kernel
theorem dX0_keep_39 : decode cX0_keep 39 = .ok (.iadd, 1) := by decide +kernel
theorem dX0_keep_40 : decode cX0_keep 40 = .ok (.iconst 4, 1) := by decide +kernel
theorem dX0_keep_41 : decode cX0_keep 41 = .ok (.irem, 1) := by decide +kernel
theorem dX0_keep_42 : decode cX0_keep 42 = .ok (.istore_n 3, 1) := by decide +kernel
theorem dX0_keep_43 : decode cX0_keep 43 = .ok (.iload_n 3, 1) := by decide +kernel
theorem dX0_keep_44 : decode cX0_keep 44 = .ok (.ifCond .ne 7, 3) := by decide +kernel
theorem dX0_keep_47 : decode cX0_keep 47 = .ok (.iload_n 1, 1) := by decide +kernel
theorem dX0_keep_48 : decode cX0_keep 48 = .ok (.iconst 1, 1) := by decide +kernel
theorem dX0_keep_49 : decode cX0_keep 49 = .ok (.isub, 1) := by decide +kernel
theorem dX0_keep_50 : decode cX0_keep 50 = .ok (.ireturn, 1) := by decide +kernel
theorem dX0_keep_51 : decode cX0_keep 51 = .ok (.aload_n 0, 1) := by decide +kernel
theorem dX0_keep_52 : decode cX0_keep 52 = .ok (.iload_n 1, 1) := by decide +kernel
theorem dX0_keep_53 : decode cX0_keep 53 = .ok (.iconst 1, 1) := by decide +kernel
theorem dX0_keep_54 : decode cX0_keep 54 = .ok (.isub, 1) := by decide +kernel
theorem dX0_keep_55 : decode cX0_keep 55 = .ok (.iload_n 2, 1) := by decide +kernel
theorem dX0_keep_56 : decode cX0_keep 56 = .ok (.invokestatic 134, 3) := by decide +kernel
theorem dX0_keep_59 : decode cX0_keep 59 = .ok (.iload_n 3, 1) := by decide +kernel
theorem dX0_keep_60 : decode cX0_keep 60 = .ok (.invokestatic 35, 3) := by decide +kernel
theorem dX0_keep_63 : decode cX0_keep 63 = .ok (.iastore, 1) := by decide +kernel
theorem dX0_keep_64 : decode cX0_keep 64 = .ok (.iload_n 1, 1) := by decide +kernel
theorem dX0_keep_65 : decode cX0_keep 65 = .ok (.ireturn, 1) := by decide +kernel
set_option maxRecDepth 20000 in
theorem ggX0_deedOf_X0_behindWord : GoodIn wsX0_deedOf wsX0_behindWord := goodIn_r _ [6, 7, 8, 9, 10, 5, 11, 12, 13, 14, 15, 16, 17, 18, 19, 20, 21, 22, 23, 24, 25, 26, 27, 28, 29, 30, 31, 32, 33, 34, 35, 36, 37, 38, 39, 40, 41] (by decide +kernel) (by decide +kernel)
set_option maxRecDepth 20000 in
theorem gX0_deedOf_X0_behindWord : GoodIn wsX0_deedOf (wsV RX0 62 RX0 yX0_behindWord wsX0_behindWord) := goodIn_app (goodIn_of _ (by decide +kernel)) ggX0_deedOf_X0_behindWord
theorem dX0_deedOf_0 : decode cX0_deedOf 0 = .ok (.aload_n 0, 1) := by decide +kernel
theorem dX0_deedOf_1 : decode cX0_deedOf 1 = .ok (.ldc2_w 9, 3) := by decide +kernel
theorem dX0_deedOf_4 : decode cX0_deedOf 4 = .ok (.iload_n 1, 1) := by decide +kernel
theorem dX0_deedOf_5 : decode cX0_deedOf 5 = .ok (.invokevirtual 62, 3) := by decide +kernel
theorem dX0_deedOf_8 : decode cX0_deedOf 8 = .ok (.lreturn, 1) := by decide +kernel
set_option maxRecDepth 20000 in
theorem ggX0_behindWord_X0_turned : GoodIn wsX0_behindWord wsX0_turned := goodIn_r _ [6, 7, 8, 5, 9, 10, 11, 12, 13, 14, 15, 16, 17, 18, 19, 20, 21, 22, 23, 24, 25, 26, 27, 28, 29, 30, 31, 32] (by decide +kernel) (by decide +kernel)
set_option maxRecDepth 20000 in
theorem gX0_behindWord_X0_turned : GoodIn wsX0_behindWord (va_wsS RX0 39 yX0_turned wsX0_turned) := goodIn_app (goodIn_of _ (by decide +kernel)) ggX0_behindWord_X0_turned
theorem dX0_behindWord_0 : decode cX0_behindWord 0 = .ok (.lload_n 1, 1) := by decide +kernel
theorem dX0_behindWord_1 : decode cX0_behindWord 1 = .ok (.lstore 4, 2) := by decide +kernel
theorem dX0_behindWord_3 : decode cX0_behindWord 3 = .ok (.iconst 0, 1) := by decide +kernel
theorem dX0_behindWord_4 : decode cX0_behindWord 4 = .ok (.istore 6, 2) := by decide +kernel
theorem dX0_behindWord_6 : decode cX0_behindWord 6 = .ok (.iload 6, 2) := by decide +kernel
theorem dX0_behindWord_8 : decode cX0_behindWord 8 = .ok (.aload_n 0, 1) := by decide +kernel
theorem dX0_behindWord_9 : decode cX0_behindWord 9 = .ok (.getfield 24, 3) := by decide +kernel
theorem dX0_behindWord_12 : decode cX0_behindWord 12 = .ok (.iload_n 3, 1) := by decide +kernel
theorem dX0_behindWord_13 : decode cX0_behindWord 13 = .ok (.iaload, 1) := by decide +kernel
theorem dX0_behindWord_14 : decode cX0_behindWord 14 = .ok (.if_icmp .ge 25, 3) := by decide +kernel
theorem dX0_behindWord_17 : decode cX0_behindWord 17 = .ok (.lload 4, 2) := by decide +kernel
theorem dX0_behindWord_19 : decode cX0_behindWord 19 = .ok (.aload_n 0, 1) := by decide +kernel
theorem dX0_behindWord_20 : decode cX0_behindWord 20 = .ok (.getfield 21, 3) := by decide +kernel
theorem dX0_behindWord_23 : decode cX0_behindWord 23 = .ok (.iload_n 3, 1) := by decide +kernel
theorem dX0_behindWord_24 : decode cX0_behindWord 24 = .ok (.aaload, 1) := by decide +kernel
theorem dX0_behindWord_25 : decode cX0_behindWord 25 = .ok (.iload 6, 2) := by decide +kernel
theorem dX0_behindWord_27 : decode cX0_behindWord 27 = .ok (.iaload, 1) := by decide +kernel
theorem dX0_behindWord_28 : decode cX0_behindWord 28 = .ok (.invokestatic 39, 3) := by decide +kernel
theorem dX0_behindWord_31 : decode cX0_behindWord 31 = .ok (.lstore 4, 2) := by decide +kernel
theorem dX0_behindWord_33 : decode cX0_behindWord 33 = .ok (.iinc 6 1, 3) := by decide +kernel
theorem dX0_behindWord_36 : decode cX0_behindWord 36 = .ok (.goto (-30), 3) := by decide +kernel
theorem dX0_behindWord_39 : decode cX0_behindWord 39 = .ok (.lload 4, 2) := by decide +kernel
theorem dX0_behindWord_41 : decode cX0_behindWord 41 = .ok (.lreturn, 1) := by decide +kernel
set_option maxRecDepth 20000 in
theorem ggX0_behindWordRound_X0_turnedBack : GoodIn wsX0_behindWordRound wsX0_turnedBack := goodIn_r _ [6, 7, 8, 5, 9, 10, 11, 12, 13, 14, 15] (by decide +kernel) (by decide +kernel)
set_option maxRecDepth 20000 in
theorem gX0_behindWordRound_X0_turnedBack : GoodIn wsX0_behindWordRound (va_wsS RX0 70 yX0_turnedBack wsX0_turnedBack) := goodIn_app (goodIn_of _ (by decide +kernel)) ggX0_behindWordRound_X0_turnedBack
set_option maxRecDepth 20000 in
theorem ggX0_behindWordRound_X0_turned : GoodIn wsX0_behindWordRound wsX0_turned := goodIn_r _ [18, 10, 11, 5, 12, 7, 8, 9, 19, 20, 21, 22, 23, 24, 25, 26, 27, 28, 29, 30, 31, 32, 33, 34, 35, 36, 37, 38] (by decide +kernel) (by decide +kernel)
set_option maxRecDepth 20000 in
theorem gX0_behindWordRound_X0_turned : GoodIn wsX0_behindWordRound (va_wsS RX0 39 yX0_turned wsX0_turned) := goodIn_app (goodIn_of _ (by decide +kernel)) ggX0_behindWordRound_X0_turned
theorem dX0_behindWordRound_0 : decode cX0_behindWordRound 0 = .ok (.lload_n 1, 1) := by decide +kernel
theorem dX0_behindWordRound_1 : decode cX0_behindWordRound 1 = .ok (.lstore 4, 2) := by decide +kernel
theorem dX0_behindWordRound_3 : decode cX0_behindWordRound 3 = .ok (.aload_n 0, 1) := by decide +kernel
theorem dX0_behindWordRound_4 : decode cX0_behindWordRound 4 = .ok (.getfield 24, 3) := by decide +kernel
theorem dX0_behindWordRound_7 : decode cX0_behindWordRound 7 = .ok (.iload_n 3, 1) := by decide +kernel
theorem dX0_behindWordRound_8 : decode cX0_behindWordRound 8 = .ok (.iaload, 1) := by decide +kernel
theorem dX0_behindWordRound_9 : decode cX0_behindWordRound 9 = .ok (.iconst 1, 1) := by decide +kernel
theorem dX0_behindWordRound_10 : decode cX0_behindWordRound 10 = .ok (.isub, 1) := by decide +kernel
theorem dX0_behindWordRound_11 : decode cX0_behindWordRound 11 = .ok (.istore 6, 2) := by decide +kernel
theorem dX0_behindWordRound_13 : decode cX0_behindWordRound 13 = .ok (.iload 6, 2) := by decide +kernel
theorem dX0_behindWordRound_15 : decode cX0_behindWordRound 15 = .ok (.ifCond .lt 28, 3) := by decide +kernel
theorem dX0_behindWordRound_18 : decode cX0_behindWordRound 18 = .ok (.lload 4, 2) := by decide +kernel
theorem dX0_behindWordRound_20 : decode cX0_behindWordRound 20 = .ok (.aload_n 0, 1) := by decide +kernel
theorem dX0_behindWordRound_21 : decode cX0_behindWordRound 21 = .ok (.getfield 21, 3) := by decide +kernel
theorem dX0_behindWordRound_24 : decode cX0_behindWordRound 24 = .ok (.iload_n 3, 1) := by decide +kernel
theorem dX0_behindWordRound_25 : decode cX0_behindWordRound 25 = .ok (.aaload, 1) := by decide +kernel
theorem dX0_behindWordRound_26 : decode cX0_behindWordRound 26 = .ok (.iload 6, 2) := by decide +kernel
theorem dX0_behindWordRound_28 : decode cX0_behindWordRound 28 = .ok (.iaload, 1) := by decide +kernel
theorem dX0_behindWordRound_29 : decode cX0_behindWordRound 29 = .ok (.invokestatic 70, 3) := by decide +kernel
theorem dX0_behindWordRound_32 : decode cX0_behindWordRound 32 = .ok (.invokestatic 39, 3) := by decide +kernel
theorem dX0_behindWordRound_35 : decode cX0_behindWordRound 35 = .ok (.lstore 4, 2) := by decide +kernel
theorem dX0_behindWordRound_37 : decode cX0_behindWordRound 37 = .ok (.iinc 6 (-1), 3) := by decide +kernel
theorem dX0_behindWordRound_40 : decode cX0_behindWordRound 40 = .ok (.goto (-27), 3) := by decide +kernel
theorem dX0_behindWordRound_43 : decode cX0_behindWordRound 43 = .ok (.lload 4, 2) := by decide +kernel
theorem dX0_behindWordRound_45 : decode cX0_behindWordRound 45 = .ok (.lreturn, 1) := by decide +kernel
theorem dX0_turnsOfAllWords_0 : decode cX0_turnsOfAllWords 0 = .ok (.iconst 0, 1) := by decide +kernel
theorem dX0_turnsOfAllWords_1 : decode cX0_turnsOfAllWords 1 = .ok (.istore_n 1, 1) := by decide +kernel
theorem dX0_turnsOfAllWords_2 : decode cX0_turnsOfAllWords 2 = .ok (.iconst 0, 1) := by decide +kernel
theorem dX0_turnsOfAllWords_3 : decode cX0_turnsOfAllWords 3 = .ok (.istore_n 2, 1) := by decide +kernel
theorem dX0_turnsOfAllWords_4 : decode cX0_turnsOfAllWords 4 = .ok (.iload_n 2, 1) := by decide +kernel
theorem dX0_turnsOfAllWords_5 : decode cX0_turnsOfAllWords 5 = .ok (.iconst 5, 1) := by decide +kernel
theorem dX0_turnsOfAllWords_6 : decode cX0_turnsOfAllWords 6 = .ok (.if_icmp .ge 18, 3) := by decide +kernel
theorem dX0_turnsOfAllWords_9 : decode cX0_turnsOfAllWords 9 = .ok (.iload_n 1, 1) := by decide +kernel
theorem dX0_turnsOfAllWords_10 : decode cX0_turnsOfAllWords 10 = .ok (.aload_n 0, 1) := by decide +kernel
theorem dX0_turnsOfAllWords_11 : decode cX0_turnsOfAllWords 11 = .ok (.getfield 24, 3) := by decide +kernel
theorem dX0_turnsOfAllWords_14 : decode cX0_turnsOfAllWords 14 = .ok (.iload_n 2, 1) := by decide +kernel
theorem dX0_turnsOfAllWords_15 : decode cX0_turnsOfAllWords 15 = .ok (.iaload, 1) := by decide +kernel
theorem dX0_turnsOfAllWords_16 : decode cX0_turnsOfAllWords 16 = .ok (.iadd, 1) := by decide +kernel
theorem dX0_turnsOfAllWords_17 : decode cX0_turnsOfAllWords 17 = .ok (.istore_n 1, 1) := by decide +kernel
theorem dX0_turnsOfAllWords_18 : decode cX0_turnsOfAllWords 18 = .ok (.iinc 2 1, 3) := by decide +kernel
theorem dX0_turnsOfAllWords_21 : decode cX0_turnsOfAllWords 21 = .ok (.goto (-17), 3) := by decide +kernel
theorem dX0_turnsOfAllWords_24 : decode cX0_turnsOfAllWords 24 = .ok (.iload_n 1, 1) := by decide +kernel
theorem dX0_turnsOfAllWords_25 : decode cX0_turnsOfAllWords 25 = .ok (.ireturn, 1) := by decide +kernel
theorem dX0_cornerAt_0 : decode cX0_cornerAt 0 = .ok (.lload_n 0, 1) := by decide +kernel
theorem dX0_cornerAt_1 : decode cX0_cornerAt 1 = .ok (.bipush 8, 2) := by decide +kernel
theorem dX0_cornerAt_3 : decode cX0_cornerAt 3 = .ok (.iload_n 2, 1) := by decide +kernel
theorem dX0_cornerAt_4 : decode cX0_cornerAt 4 = .ok (.imul, 1) := by decide +kernel
theorem dX0_cornerAt_5 : decode cX0_cornerAt 5 = .ok (.lushr, 1) := by decide +kernel
theorem dX0_cornerAt_6 : decode cX0_cornerAt 6 = .ok (.l2i, 1) := by decide +kernel
theorem dX0_cornerAt_7 : decode cX0_cornerAt 7 = .ok (.bipush 7, 2) := by decide +kernel
theorem dX0_cornerAt_9 : decode cX0_cornerAt 9 = .ok (.iand, 1) := by decide +kernel
theorem dX0_cornerAt_10 : decode cX0_cornerAt 10 = .ok (.ireturn, 1) := by decide +kernel
theorem dX0_twistAt_0 : decode cX0_twistAt 0 = .ok (.lload_n 0, 1) := by decide +kernel
theorem dX0_twistAt_1 : decode cX0_twistAt 1 = .ok (.bipush 8, 2) := by decide +kernel
theorem dX0_twistAt_3 : decode cX0_twistAt 3 = .ok (.iload_n 2, 1) := by decide +kernel
theorem dX0_twistAt_4 : decode cX0_twistAt 4 = .ok (.imul, 1) := by decide +kernel
theorem dX0_twistAt_5 : decode cX0_twistAt 5 = .ok (.iconst 3, 1) := by decide +kernel
theorem dX0_twistAt_6 : decode cX0_twistAt 6 = .ok (.iadd, 1) := by decide +kernel
theorem dX0_twistAt_7 : decode cX0_twistAt 7 = .ok (.lushr, 1) := by decide +kernel
theorem dX0_twistAt_8 : decode cX0_twistAt 8 = .ok (.l2i, 1) := by decide +kernel
theorem dX0_twistAt_9 : decode cX0_twistAt 9 = .ok (.iconst 3, 1) := by decide +kernel
theorem dX0_twistAt_10 : decode cX0_twistAt 10 = .ok (.iand, 1) := by decide +kernel
theorem dX0_twistAt_11 : decode cX0_twistAt 11 = .ok (.ireturn, 1) := by decide +kernel
set_option maxRecDepth 20000 in
theorem ggX0_isRight_X0_cornerAt : GoodIn wsX0_isRight wsX0_cornerAt := goodIn_r _ [4] (by decide +kernel) (by decide +kernel)
set_option maxRecDepth 20000 in
theorem gX0_isRight_X0_cornerAt : GoodIn wsX0_isRight (va_wsS RX0 87 yX0_cornerAt wsX0_cornerAt) := goodIn_app (goodIn_of _ (by decide +kernel)) ggX0_isRight_X0_cornerAt
set_option maxRecDepth 20000 in
theorem ggX0_isRight_X0_twistAt : GoodIn wsX0_isRight wsX0_twistAt := goodIn_r _ [7] (by decide +kernel) (by decide +kernel)
set_option maxRecDepth 20000 in
theorem gX0_isRight_X0_twistAt : GoodIn wsX0_isRight (va_wsS RX0 91 yX0_twistAt wsX0_twistAt) := goodIn_app (goodIn_of _ (by decide +kernel)) ggX0_isRight_X0_twistAt
theorem dX0_isRight_0 : decode cX0_isRight 0 = .ok (.lload_n 0, 1) := by decide +kernel
theorem dX0_isRight_1 : decode cX0_isRight 1 = .ok (.iload_n 2, 1) := by decide +kernel
theorem dX0_isRight_2 : decode cX0_isRight 2 = .ok (.invokestatic 87, 3) := by decide +kernel
theorem dX0_isRight_5 : decode cX0_isRight 5 = .ok (.iload_n 2, 1) := by decide +kernel
theorem dX0_isRight_6 : decode cX0_isRight 6 = .ok (.if_icmp .ne 15, 3) := by decide +kernel
theorem dX0_isRight_9 : decode cX0_isRight 9 = .ok (.lload_n 0, 1) := by decide +kernel
theorem dX0_isRight_10 : decode cX0_isRight 10 = .ok (.iload_n 2, 1) := by decide +kernel
theorem dX0_isRight_11 : decode cX0_isRight 11 = .ok (.invokestatic 91, 3) := by decide +kernel
theorem dX0_isRight_14 : decode cX0_isRight 14 = .ok (.ifCond .ne 7, 3) := by decide +kernel
theorem dX0_isRight_17 : decode cX0_isRight 17 = .ok (.iconst 1, 1) := by decide +kernel
theorem dX0_isRight_18 : decode cX0_isRight 18 = .ok (.goto 4, 3) := by decide +kernel
theorem dX0_isRight_21 : decode cX0_isRight 21 = .ok (.iconst 0, 1) := by decide +kernel
theorem dX0_isRight_22 : decode cX0_isRight 22 = .ok (.ireturn, 1) := by decide +kernel
set_option maxRecDepth 20000 in
theorem ggX0_rightCorners_X0_isRight : GoodIn wsX0_rightCorners wsX0_isRight := goodIn_r _ [4, 5, 6, 3, 7, 8, 9, 10] (by decide +kernel) (by decide +kernel)
set_option maxRecDepth 20000 in
theorem gX0_rightCorners_X0_isRight : GoodIn wsX0_rightCorners (va_wsS RX0 94 yX0_isRight wsX0_isRight) := goodIn_app (goodIn_of _ (by decide +kernel)) ggX0_rightCorners_X0_isRight
theorem dX0_rightCorners_0 : decode cX0_rightCorners 0 = .ok (.iconst 0, 1) := by decide +kernel
theorem dX0_rightCorners_1 : decode cX0_rightCorners 1 = .ok (.istore_n 2, 1) := by decide +kernel
theorem dX0_rightCorners_2 : decode cX0_rightCorners 2 = .ok (.iconst 0, 1) := by decide +kernel
theorem dX0_rightCorners_3 : decode cX0_rightCorners 3 = .ok (.istore_n 3, 1) := by decide +kernel
theorem dX0_rightCorners_4 : decode cX0_rightCorners 4 = .ok (.iload_n 3, 1) := by decide +kernel
theorem dX0_rightCorners_5 : decode cX0_rightCorners 5 = .ok (.bipush 8, 2) := by decide +kernel
theorem dX0_rightCorners_7 : decode cX0_rightCorners 7 = .ok (.if_icmp .ge 20, 3) := by decide +kernel
theorem dX0_rightCorners_10 : decode cX0_rightCorners 10 = .ok (.lload_n 0, 1) := by decide +kernel
theorem dX0_rightCorners_11 : decode cX0_rightCorners 11 = .ok (.iload_n 3, 1) := by decide +kernel
theorem dX0_rightCorners_12 : decode cX0_rightCorners 12 = .ok (.invokestatic 94, 3) := by decide +kernel
theorem dX0_rightCorners_15 : decode cX0_rightCorners 15 = .ok (.ifCond .eq 6, 3) := by decide +kernel
theorem dX0_rightCorners_18 : decode cX0_rightCorners 18 = .ok (.iinc 2 1, 3) := by decide +kernel
theorem dX0_rightCorners_21 : decode cX0_rightCorners 21 = .ok (.iinc 3 1, 3) := by decide +kernel
theorem dX0_rightCorners_24 : decode cX0_rightCorners 24 = .ok (.goto (-20), 3) := by decide +kernel
theorem dX0_rightCorners_27 : decode cX0_rightCorners 27 = .ok (.iload_n 2, 1) := by decide +kernel
theorem dX0_rightCorners_28 : decode cX0_rightCorners 28 = .ok (.ireturn, 1) := by decide +kernel
set_option maxRecDepth 20000 in
theorem ggX0_wrongCorners_X0_rightCorners : GoodIn wsX0_wrongCorners wsX0_rightCorners := goodIn_r _ [4, 5, 6, 3, 7, 8, 9, 10, 11, 12, 13] (by decide +kernel) (by decide +kernel)
set_option maxRecDepth 20000 in
theorem gX0_wrongCorners_X0_rightCorners : GoodIn wsX0_wrongCorners (va_wsS RX0 43 yX0_rightCorners wsX0_rightCorners) := goodIn_app (goodIn_of _ (by decide +kernel)) ggX0_wrongCorners_X0_rightCorners
theorem dX0_wrongCorners_0 : decode cX0_wrongCorners 0 = .ok (.bipush 8, 2) := by decide +kernel
theorem dX0_wrongCorners_2 : decode cX0_wrongCorners 2 = .ok (.lload_n 0, 1) := by decide +kernel
theorem dX0_wrongCorners_3 : decode cX0_wrongCorners 3 = .ok (.invokestatic 43, 3) := by decide +kernel
theorem dX0_wrongCorners_6 : decode cX0_wrongCorners 6 = .ok (.isub, 1) := by decide +kernel
theorem dX0_wrongCorners_7 : decode cX0_wrongCorners 7 = .ok (.ireturn, 1) := by decide +kernel
set_option maxRecDepth 20000 in
theorem ggX0_placedCorners_X0_cornerAt : GoodIn wsX0_placedCorners wsX0_cornerAt := goodIn_r _ [4] (by decide +kernel) (by decide +kernel)
set_option maxRecDepth 20000 in
theorem gX0_placedCorners_X0_cornerAt : GoodIn wsX0_placedCorners (va_wsS RX0 87 yX0_cornerAt wsX0_cornerAt) := goodIn_app (goodIn_of _ (by decide +kernel)) ggX0_placedCorners_X0_cornerAt
theorem dX0_placedCorners_0 : decode cX0_placedCorners 0 = .ok (.iconst 0, 1) := by decide +kernel
theorem dX0_placedCorners_1 : decode cX0_placedCorners 1 = .ok (.istore_n 2, 1) := by decide +kernel
theorem dX0_placedCorners_2 : decode cX0_placedCorners 2 = .ok (.iconst 0, 1) := by decide +kernel
theorem dX0_placedCorners_3 : decode cX0_placedCorners 3 = .ok (.istore_n 3, 1) := by decide +kernel
theorem dX0_placedCorners_4 : decode cX0_placedCorners 4 = .ok (.iload_n 3, 1) := by decide +kernel
theorem dX0_placedCorners_5 : decode cX0_placedCorners 5 = .ok (.bipush 8, 2) := by decide +kernel
theorem dX0_placedCorners_7 : decode cX0_placedCorners 7 = .ok (.if_icmp .ge 21, 3) := by decide +kernel
theorem dX0_placedCorners_10 : decode cX0_placedCorners 10 = .ok (.lload_n 0, 1) := by decide +kernel
theorem dX0_placedCorners_11 : decode cX0_placedCorners 11 = .ok (.iload_n 3, 1) := by decide +kernel
theorem dX0_placedCorners_12 : decode cX0_placedCorners 12 = .ok (.invokestatic 87, 3) := by decide +kernel
theorem dX0_placedCorners_15 : decode cX0_placedCorners 15 = .ok (.iload_n 3, 1) := by decide +kernel
theorem dX0_placedCorners_16 : decode cX0_placedCorners 16 = .ok (.if_icmp .ne 6, 3) := by decide +kernel
theorem dX0_placedCorners_19 : decode cX0_placedCorners 19 = .ok (.iinc 2 1, 3) := by decide +kernel
theorem dX0_placedCorners_22 : decode cX0_placedCorners 22 = .ok (.iinc 3 1, 3) := by decide +kernel
theorem dX0_placedCorners_25 : decode cX0_placedCorners 25 = .ok (.goto (-21), 3) := by decide +kernel
theorem dX0_placedCorners_28 : decode cX0_placedCorners 28 = .ok (.iload_n 2, 1) := by decide +kernel
theorem dX0_placedCorners_29 : decode cX0_placedCorners 29 = .ok (.ireturn, 1) := by decide +kernel
set_option maxRecDepth 20000 in
theorem ggX0_untwistedCorners_X0_twistAt : GoodIn wsX0_untwistedCorners wsX0_twistAt := goodIn_r _ [4] (by decide +kernel) (by decide +kernel)
set_option maxRecDepth 20000 in
theorem gX0_untwistedCorners_X0_twistAt : GoodIn wsX0_untwistedCorners (va_wsS RX0 91 yX0_twistAt wsX0_twistAt) := goodIn_app (goodIn_of _ (by decide +kernel)) ggX0_untwistedCorners_X0_twistAt
theorem dX0_untwistedCorners_0 : decode cX0_untwistedCorners 0 = .ok (.iconst 0, 1) := by decide +kernel
theorem dX0_untwistedCorners_1 : decode cX0_untwistedCorners 1 = .ok (.istore_n 2, 1) := by decide +kernel
theorem dX0_untwistedCorners_2 : decode cX0_untwistedCorners 2 = .ok (.iconst 0, 1) := by decide +kernel
theorem dX0_untwistedCorners_3 : decode cX0_untwistedCorners 3 = .ok (.istore_n 3, 1) := by decide +kernel
theorem dX0_untwistedCorners_4 : decode cX0_untwistedCorners 4 = .ok (.iload_n 3, 1) := by decide +kernel
theorem dX0_untwistedCorners_5 : decode cX0_untwistedCorners 5 = .ok (.bipush 8, 2) := by decide +kernel
theorem dX0_untwistedCorners_7 : decode cX0_untwistedCorners 7 = .ok (.if_icmp .ge 20, 3) := by decide +kernel
theorem dX0_untwistedCorners_10 : decode cX0_untwistedCorners 10 = .ok (.lload_n 0, 1) := by decide +kernel
theorem dX0_untwistedCorners_11 : decode cX0_untwistedCorners 11 = .ok (.iload_n 3, 1) := by decide +kernel
theorem dX0_untwistedCorners_12 : decode cX0_untwistedCorners 12 = .ok (.invokestatic 91, 3) := by decide +kernel
theorem dX0_untwistedCorners_15 : decode cX0_untwistedCorners 15 = .ok (.ifCond .ne 6, 3) := by decide +kernel
theorem dX0_untwistedCorners_18 : decode cX0_untwistedCorners 18 = .ok (.iinc 2 1, 3) := by decide +kernel
theorem dX0_untwistedCorners_21 : decode cX0_untwistedCorners 21 = .ok (.iinc 3 1, 3) := by decide +kernel
theorem dX0_untwistedCorners_24 : decode cX0_untwistedCorners 24 = .ok (.goto (-20), 3) := by decide +kernel
theorem dX0_untwistedCorners_27 : decode cX0_untwistedCorners 27 = .ok (.iload_n 2, 1) := by decide +kernel
theorem dX0_untwistedCorners_28 : decode cX0_untwistedCorners 28 = .ok (.ireturn, 1) := by decide +kernel
set_option maxRecDepth 20000 in
theorem ggX0_pairsOutOfOrder_X0_cornerAt : GoodIn wsX0_pairsOutOfOrder wsX0_cornerAt := goodIn_r _ [4] (by decide +kernel) (by decide +kernel)
set_option maxRecDepth 20000 in
theorem gX0_pairsOutOfOrder_X0_cornerAt : GoodIn wsX0_pairsOutOfOrder (va_wsS RX0 87 yX0_cornerAt wsX0_cornerAt) := goodIn_app (goodIn_of _ (by decide +kernel)) ggX0_pairsOutOfOrder_X0_cornerAt
theorem dX0_pairsOutOfOrder_0 : decode cX0_pairsOutOfOrder 0 = .ok (.iconst 0, 1) := by decide +kernel
theorem dX0_pairsOutOfOrder_1 : decode cX0_pairsOutOfOrder 1 = .ok (.istore_n 2, 1) := by decide +kernel
theorem dX0_pairsOutOfOrder_2 : decode cX0_pairsOutOfOrder 2 = .ok (.iconst 0, 1) := by decide +kernel
theorem dX0_pairsOutOfOrder_3 : decode cX0_pairsOutOfOrder 3 = .ok (.istore_n 3, 1) := by decide +kernel
theorem dX0_pairsOutOfOrder_4 : decode cX0_pairsOutOfOrder 4 = .ok (.iload_n 3, 1) := by decide +kernel
theorem dX0_pairsOutOfOrder_5 : decode cX0_pairsOutOfOrder 5 = .ok (.bipush 8, 2) := by decide +kernel
theorem dX0_pairsOutOfOrder_7 : decode cX0_pairsOutOfOrder 7 = .ok (.if_icmp .ge 44, 3) := by decide +kernel
theorem dX0_pairsOutOfOrder_10 : decode cX0_pairsOutOfOrder 10 = .ok (.iload_n 3, 1) := by decide +kernel
theorem dX0_pairsOutOfOrder_11 : decode cX0_pairsOutOfOrder 11 = .ok (.iconst 1, 1) := by decide +kernel
theorem dX0_pairsOutOfOrder_12 : decode cX0_pairsOutOfOrder 12 = .ok (.iadd, 1) := by decide +kernel
theorem dX0_pairsOutOfOrder_13 : decode cX0_pairsOutOfOrder 13 = .ok (.istore 4, 2) := by decide +kernel
theorem dX0_pairsOutOfOrder_15 : decode cX0_pairsOutOfOrder 15 = .ok (.iload 4, 2) := by decide +kernel
theorem dX0_pairsOutOfOrder_17 : decode cX0_pairsOutOfOrder 17 = .ok (.bipush 8, 2) := by decide +kernel
theorem dX0_pairsOutOfOrder_19 : decode cX0_pairsOutOfOrder 19 = .ok (.if_icmp .ge 26, 3) := by decide +kernel
theorem dX0_pairsOutOfOrder_22 : decode cX0_pairsOutOfOrder 22 = .ok (.lload_n 0, 1) := by decide +kernel
theorem dX0_pairsOutOfOrder_23 : decode cX0_pairsOutOfOrder 23 = .ok (.iload_n 3, 1) := by decide +kernel
theorem dX0_pairsOutOfOrder_24 : decode cX0_pairsOutOfOrder 24 = .ok (.invokestatic 87, 3) := by decide +kernel
theorem dX0_pairsOutOfOrder_27 : decode cX0_pairsOutOfOrder 27 = .ok (.lload_n 0, 1) := by decide +kernel
theorem dX0_pairsOutOfOrder_28 : decode cX0_pairsOutOfOrder 28 = .ok (.iload 4, 2) := by decide +kernel
theorem dX0_pairsOutOfOrder_30 : decode cX0_pairsOutOfOrder 30 = .ok (.invokestatic 87, 3) := by decide +kernel
theorem dX0_pairsOutOfOrder_33 : decode cX0_pairsOutOfOrder 33 = .ok (.if_icmp .le 6, 3) := by decide +kernel
theorem dX0_pairsOutOfOrder_36 : decode cX0_pairsOutOfOrder 36 = .ok (.iinc 2 1, 3) := by decide +kernel
theorem dX0_pairsOutOfOrder_39 : decode cX0_pairsOutOfOrder 39 = .ok (.iinc 4 1, 3) := by decide +kernel
theorem dX0_pairsOutOfOrder_42 : decode cX0_pairsOutOfOrder 42 = .ok (.goto (-27), 3) := by decide +kernel
theorem dX0_pairsOutOfOrder_45 : decode cX0_pairsOutOfOrder 45 = .ok (.iinc 3 1, 3) := by decide +kernel
theorem dX0_pairsOutOfOrder_48 : decode cX0_pairsOutOfOrder 48 = .ok (.goto (-44), 3) := by decide +kernel
theorem dX0_pairsOutOfOrder_51 : decode cX0_pairsOutOfOrder 51 = .ok (.iload_n 2, 1) := by decide +kernel
theorem dX0_pairsOutOfOrder_52 : decode cX0_pairsOutOfOrder 52 = .ok (.ireturn, 1) := by decide +kernel
set_option maxRecDepth 20000 in
theorem ggX0_orderOf_X0_behindDeed : GoodIn wsX0_orderOf wsX0_behindDeed := goodIn_r _ [5, 6, 7, 4, 8, 9, 10, 11, 12, 13, 14, 15, 16] (by decide +kernel) (by decide +kernel)
set_option maxRecDepth 20000 in
theorem gX0_orderOf_X0_behindDeed : GoodIn wsX0_orderOf (va_wsS RX0 174 yX0_behindDeed wsX0_behindDeed) := goodIn_app (goodIn_of _ (by decide +kernel)) ggX0_orderOf_X0_behindDeed
theorem dX0_orderOf_0 : decode cX0_orderOf 0 = .ok (.iconst 1, 1) := by decide +kernel
theorem dX0_orderOf_1 : decode cX0_orderOf 1 = .ok (.istore_n 2, 1) := by decide +kernel
theorem dX0_orderOf_2 : decode cX0_orderOf 2 = .ok (.lload_n 0, 1) := by decide +kernel
theorem dX0_orderOf_3 : decode cX0_orderOf 3 = .ok (.lstore_n 3, 1) := by decide +kernel
theorem dX0_orderOf_4 : decode cX0_orderOf 4 = .ok (.lload_n 3, 1) := by decide +kernel
theorem dX0_orderOf_5 : decode cX0_orderOf 5 = .ok (.ldc2_w 9, 3) := by decide +kernel
theorem dX0_orderOf_8 : decode cX0_orderOf 8 = .ok (.lcmp, 1) := by decide +kernel
theorem dX0_orderOf_9 : decode cX0_orderOf 9 = .ok (.ifCond .eq 22, 3) := by decide +kernel
theorem dX0_orderOf_12 : decode cX0_orderOf 12 = .ok (.iload_n 2, 1) := by decide +kernel
theorem dX0_orderOf_13 : decode cX0_orderOf 13 = .ok (.sipush 1000, 3) := by decide +kernel
theorem dX0_orderOf_16 : decode cX0_orderOf 16 = .ok (.if_icmp .ge 15, 3) := by decide +kernel
theorem dX0_orderOf_19 : decode cX0_orderOf 19 = .ok (.lload_n 3, 1) := by decide +kernel
theorem dX0_orderOf_20 : decode cX0_orderOf 20 = .ok (.lload_n 0, 1) := by decide +kernel
theorem dX0_orderOf_21 : decode cX0_orderOf 21 = .ok (.invokestatic 174, 3) := by decide +kernel
theorem dX0_orderOf_24 : decode cX0_orderOf 24 = .ok (.lstore_n 3, 1) := by decide +kernel
theorem dX0_orderOf_25 : decode cX0_orderOf 25 = .ok (.iinc 2 1, 3) := by decide +kernel
theorem dX0_orderOf_28 : decode cX0_orderOf 28 = .ok (.goto (-24), 3) := by decide +kernel
theorem dX0_orderOf_31 : decode cX0_orderOf 31 = .ok (.iload_n 2, 1) := by decide +kernel
theorem dX0_orderOf_32 : decode cX0_orderOf 32 = .ok (.ireturn, 1) := by decide +kernel
theorem dX0_withCorner_0 : decode cX0_withCorner 0 = .ok (.lload_n 0, 1) := by decide +kernel
theorem dX0_withCorner_1 : decode cX0_withCorner 1 = .ok (.ldc2_w 178, 3) := by decide +kernel
theorem dX0_withCorner_4 : decode cX0_withCorner 4 = .ok (.bipush 8, 2) := by decide +kernel
theorem dX0_withCorner_6 : decode cX0_withCorner 6 = .ok (.iload_n 2, 1) := by decide +kernel
theorem dX0_withCorner_7 : decode cX0_withCorner 7 = .ok (.imul, 1) := by decide +kernel
theorem dX0_withCorner_8 : decode cX0_withCorner 8 = .ok (.lshl, 1) := by decide +kernel
theorem dX0_withCorner_9 : decode cX0_withCorner 9 = .ok (.ldc2_w 180, 3) := by decide +kernel
theorem dX0_withCorner_12 : decode cX0_withCorner 12 = .ok (.lxor, 1) := by decide +kernel
theorem dX0_withCorner_13 : decode cX0_withCorner 13 = .ok (.land, 1) := by decide +kernel
theorem dX0_withCorner_14 : decode cX0_withCorner 14 = .ok (.lstore 5, 2) := by decide +kernel
theorem dX0_withCorner_16 : decode cX0_withCorner 16 = .ok (.iload 4, 2) := by decide +kernel
theorem dX0_withCorner_18 : decode cX0_withCorner 18 = .ok (.iconst 3, 1) := by decide +kernel
theorem dX0_withCorner_19 : decode cX0_withCorner 19 = .ok (.irem, 1) := by decide +kernel
theorem dX0_withCorner_20 : decode cX0_withCorner 20 = .ok (.iconst 3, 1) := by decide +kernel
theorem dX0_withCorner_21 : decode cX0_withCorner 21 = .ok (.ishl, 1) := by decide +kernel
theorem dX0_withCorner_22 : decode cX0_withCorner 22 = .ok (.iload_n 3, 1) := by decide +kernel
theorem dX0_withCorner_23 : decode cX0_withCorner 23 = .ok (.ior, 1) := by decide +kernel
theorem dX0_withCorner_24 : decode cX0_withCorner 24 = .ok (.i2l, 1) := by decide +kernel
theorem dX0_withCorner_25 : decode cX0_withCorner 25 = .ok (.lstore 7, 2) := by decide +kernel
theorem dX0_withCorner_27 : decode cX0_withCorner 27 = .ok (.lload 5, 2) := by decide +kernel
theorem dX0_withCorner_29 : decode cX0_withCorner 29 = .ok (.lload 7, 2) := by decide +kernel
theorem dX0_withCorner_31 : decode cX0_withCorner 31 = .ok (.bipush 8, 2) := by decide +kernel
theorem dX0_withCorner_33 : decode cX0_withCorner 33 = .ok (.iload_n 2, 1) := by decide +kernel
theorem dX0_withCorner_34 : decode cX0_withCorner 34 = .ok (.imul, 1) := by decide +kernel
theorem dX0_withCorner_35 : decode cX0_withCorner 35 = .ok (.lshl, 1) := by decide +kernel
theorem dX0_withCorner_36 : decode cX0_withCorner 36 = .ok (.lor, 1) := by decide +kernel
theorem dX0_withCorner_37 : decode cX0_withCorner 37 = .ok (.lreturn, 1) := by decide +kernel
set_option maxRecDepth 20000 in
theorem ggX0_turned_X0_quartersOf : GoodIn wsX0_turned wsX0_quartersOf := goodIn_r _ [4] (by decide +kernel) (by decide +kernel)
set_option maxRecDepth 20000 in
theorem gX0_turned_X0_quartersOf : GoodIn wsX0_turned (va_wsS RX0 171 yX0_quartersOf wsX0_quartersOf) := goodIn_app (goodIn_of _ (by decide +kernel)) ggX0_turned_X0_quartersOf
set_option maxRecDepth 20000 in
theorem ggX0_turned_X0_faceOf : GoodIn wsX0_turned wsX0_faceOf := goodIn_r _ [7] (by decide +kernel) (by decide +kernel)
set_option maxRecDepth 20000 in
theorem gX0_turned_X0_faceOf : GoodIn wsX0_turned (va_wsS RX0 134 yX0_faceOf wsX0_faceOf) := goodIn_app (goodIn_of _ (by decide +kernel)) ggX0_turned_X0_faceOf
set_option maxRecDepth 20000 in
theorem ggX0_turned_X0_quarterTurned : GoodIn wsX0_turned wsX0_quarterTurned := goodIn_r _ [10, 11, 12, 3, 13, 14, 15, 16, 17, 18, 19, 20, 21, 22, 23, 24, 25, 26, 27] (by decide +kernel) (by decide +kernel)
set_option maxRecDepth 20000 in
theorem gX0_turned_X0_quarterTurned : GoodIn wsX0_turned (va_wsS RX0 182 yX0_quarterTurned wsX0_quarterTurned) := goodIn_app (goodIn_of _ (by decide +kernel)) ggX0_turned_X0_quarterTurned
theorem dX0_turned_0 : decode cX0_turned 0 = .ok (.lload_n 0, 1) := by decide +kernel
theorem dX0_turned_1 : decode cX0_turned 1 = .ok (.lstore_n 3, 1) := by decide +kernel
theorem dX0_turned_2 : decode cX0_turned 2 = .ok (.iconst 0, 1) := by decide +kernel
theorem dX0_turned_3 : decode cX0_turned 3 = .ok (.istore 5, 2) := by decide +kernel
theorem dX0_turned_5 : decode cX0_turned 5 = .ok (.iload 5, 2) := by decide +kernel
theorem dX0_turned_7 : decode cX0_turned 7 = .ok (.iload_n 2, 1) := by decide +kernel
theorem dX0_turned_8 : decode cX0_turned 8 = .ok (.invokestatic 171, 3) := by decide +kernel
theorem dX0_turned_11 : decode cX0_turned 11 = .ok (.if_icmp .ge 18, 3) := by decide +kernel
theorem dX0_turned_14 : decode cX0_turned 14 = .ok (.lload_n 3, 1) := by decide +kernel
theorem dX0_turned_15 : decode cX0_turned 15 = .ok (.iload_n 2, 1) := by decide +kernel
theorem dX0_turned_16 : decode cX0_turned 16 = .ok (.invokestatic 134, 3) := by decide +kernel
theorem dX0_turned_19 : decode cX0_turned 19 = .ok (.invokestatic 182, 3) := by decide +kernel
theorem dX0_turned_22 : decode cX0_turned 22 = .ok (.lstore_n 3, 1) := by decide +kernel
theorem dX0_turned_23 : decode cX0_turned 23 = .ok (.iinc 5 1, 3) := by decide +kernel
theorem dX0_turned_26 : decode cX0_turned 26 = .ok (.goto (-21), 3) := by decide +kernel
theorem dX0_turned_29 : decode cX0_turned 29 = .ok (.lload_n 3, 1) := by decide +kernel
theorem dX0_turned_30 : decode cX0_turned 30 = .ok (.lreturn, 1) := by decide +kernel
set_option maxRecDepth 20000 in
theorem ggX0_quarterTurned_X0_gone : GoodIn wsX0_quarterTurned wsX0_gone := goodIn_r _ [4, 5, 6, 3, 7, 8, 9, 10, 11, 12, 13, 14, 15, 16, 17, 18] (by decide +kernel) (by decide +kernel)
set_option maxRecDepth 20000 in
theorem gX0_quarterTurned_X0_gone : GoodIn wsX0_quarterTurned (va_wsS RX0 185 yX0_gone wsX0_gone) := goodIn_app (goodIn_of _ (by decide +kernel)) ggX0_quarterTurned_X0_gone
theorem dX0_quarterTurned_0 : decode cX0_quarterTurned 0 = .ok (.iload_n 2, 1) := by decide +kernel
theorem dX0_quarterTurned_1 : decode cX0_quarterTurned 1 = .ok (.lookupswitch 47 #[(0, 27), (1, 36)], 27) := by decide +kernel
theorem dX0_quarterTurned_28 : decode cX0_quarterTurned 28 = .ok (.lload_n 0, 1) := by decide +kernel
theorem dX0_quarterTurned_29 : decode cX0_quarterTurned 29 = .ok (.sipush 291, 3) := by decide +kernel
theorem dX0_quarterTurned_32 : decode cX0_quarterTurned 32 = .ok (.iconst 0, 1) := by decide +kernel
theorem dX0_quarterTurned_33 : decode cX0_quarterTurned 33 = .ok (.invokestatic 185, 3) := by decide +kernel
theorem dX0_quarterTurned_36 : decode cX0_quarterTurned 36 = .ok (.lreturn, 1) := by decide +kernel
theorem dX0_quarterTurned_37 : decode cX0_quarterTurned 37 = .ok (.lload_n 0, 1) := by decide +kernel
theorem dX0_quarterTurned_38 : decode cX0_quarterTurned 38 = .ok (.sipush 884, 3) := by decide +kernel
theorem dX0_quarterTurned_41 : decode cX0_quarterTurned 41 = .ok (.sipush 4626, 3) := by decide +kernel
theorem dX0_quarterTurned_44 : decode cX0_quarterTurned 44 = .ok (.invokestatic 185, 3) := by decide +kernel
theorem dX0_quarterTurned_47 : decode cX0_quarterTurned 47 = .ok (.lreturn, 1) := by decide +kernel
theorem dX0_quarterTurned_48 : decode cX0_quarterTurned 48 = .ok (.lload_n 0, 1) := by decide +kernel
theorem dX0_quarterTurned_49 : decode cX0_quarterTurned 49 = .ok (.sipush 1105, 3) := by decide +kernel
theorem dX0_quarterTurned_52 : decode cX0_quarterTurned 52 = .ok (.sipush 8481, 3) := by decide +kernel
theorem dX0_quarterTurned_55 : decode cX0_quarterTurned 55 = .ok (.invokestatic 185, 3) := by decide +kernel
theorem dX0_quarterTurned_58 : decode cX0_quarterTurned 58 = .ok (.lreturn, 1) := by decide +kernel
set_option maxRecDepth 20000 in
theorem ggX0_gone_X0_hexDigit : GoodIn wsX0_gone wsX0_hexDigit := goodIn_r _ [4] (by decide +kernel) (by decide +kernel)
set_option maxRecDepth 20000 in
theorem gX0_gone_X0_hexDigit : GoodIn wsX0_gone (va_wsS RX0 189 yX0_hexDigit wsX0_hexDigit) := goodIn_app (goodIn_of _ (by decide +kernel)) ggX0_gone_X0_hexDigit
set_option maxRecDepth 20000 in
theorem ggX0_gone_X0_cornerAt : GoodIn wsX0_gone wsX0_cornerAt := goodIn_r _ [7] (by decide +kernel) (by decide +kernel)
set_option maxRecDepth 20000 in
theorem gX0_gone_X0_cornerAt : GoodIn wsX0_gone (va_wsS RX0 87 yX0_cornerAt wsX0_cornerAt) := goodIn_app (goodIn_of _ (by decide +kernel)) ggX0_gone_X0_cornerAt
set_option maxRecDepth 20000 in
theorem ggX0_gone_X0_twistAt : GoodIn wsX0_gone wsX0_twistAt := goodIn_r _ [10] (by decide +kernel) (by decide +kernel)
set_option maxRecDepth 20000 in
theorem gX0_gone_X0_twistAt : GoodIn wsX0_gone (va_wsS RX0 91 yX0_twistAt wsX0_twistAt) := goodIn_app (goodIn_of _ (by decide +kernel)) ggX0_gone_X0_twistAt
set_option maxRecDepth 20000 in
theorem ggX0_gone_X0_withCorner : GoodIn wsX0_gone wsX0_withCorner := goodIn_r _ [13, 14, 15] (by decide +kernel) (by decide +kernel)
set_option maxRecDepth 20000 in
theorem gX0_gone_X0_withCorner : GoodIn wsX0_gone (va_wsS RX0 192 yX0_withCorner wsX0_withCorner) := goodIn_app (goodIn_of _ (by decide +kernel)) ggX0_gone_X0_withCorner
theorem dX0_gone_0 : decode cX0_gone 0 = .ok (.lload_n 0, 1) := by decide +kernel
theorem dX0_gone_1 : decode cX0_gone 1 = .ok (.lstore 4, 2) := by decide +kernel
theorem dX0_gone_3 : decode cX0_gone 3 = .ok (.iconst 0, 1) := by decide +kernel
theorem dX0_gone_4 : decode cX0_gone 4 = .ok (.istore 6, 2) := by decide +kernel
theorem dX0_gone_6 : decode cX0_gone 6 = .ok (.iload 6, 2) := by decide +kernel
theorem dX0_gone_8 : decode cX0_gone 8 = .ok (.iconst 4, 1) := by decide +kernel
theorem dX0_gone_9 : decode cX0_gone 9 = .ok (.if_icmp .ge 57, 3) := by decide +kernel
theorem dX0_gone_12 : decode cX0_gone 12 = .ok (.iload_n 2, 1) := by decide +kernel
theorem dX0_gone_13 : decode cX0_gone 13 = .ok (.iload 6, 2) := by decide +kernel
theorem dX0_gone_15 : decode cX0_gone 15 = .ok (.invokestatic 189, 3) := by decide +kernel
theorem dX0_gone_18 : decode cX0_gone 18 = .ok (.istore 7, 2) := by decide +kernel
theorem dX0_gone_20 : decode cX0_gone 20 = .ok (.iload_n 2, 1) := by decide +kernel
theorem dX0_gone_21 : decode cX0_gone 21 = .ok (.iload 6, 2) := by decide +kernel
theorem dX0_gone_23 : decode cX0_gone 23 = .ok (.iconst 1, 1) := by decide +kernel
theorem dX0_gone_24 : decode cX0_gone 24 = .ok (.iadd, 1) := by decide +kernel
theorem dX0_gone_25 : decode cX0_gone 25 = .ok (.iconst 4, 1) := by decide +kernel
theorem dX0_gone_26 : decode cX0_gone 26 = .ok (.irem, 1) := by decide +kernel
theorem dX0_gone_27 : decode cX0_gone 27 = .ok (.invokestatic 189, 3) := by decide +kernel
theorem dX0_gone_30 : decode cX0_gone 30 = .ok (.istore 8, 2) := by decide +kernel
theorem dX0_gone_32 : decode cX0_gone 32 = .ok (.lload 4, 2) := by decide +kernel
theorem dX0_gone_34 : decode cX0_gone 34 = .ok (.iload 8, 2) := by decide +kernel
theorem dX0_gone_36 : decode cX0_gone 36 = .ok (.lload_n 0, 1) := by decide +kernel
theorem dX0_gone_37 : decode cX0_gone 37 = .ok (.iload 7, 2) := by decide +kernel
theorem dX0_gone_39 : decode cX0_gone 39 = .ok (.invokestatic 87, 3) := by decide +kernel
theorem dX0_gone_42 : decode cX0_gone 42 = .ok (.lload_n 0, 1) := by decide +kernel
theorem dX0_gone_43 : decode cX0_gone 43 = .ok (.iload 7, 2) := by decide +kernel
theorem dX0_gone_45 : decode cX0_gone 45 = .ok (.invokestatic 91, 3) := by decide +kernel
theorem dX0_gone_48 : decode cX0_gone 48 = .ok (.iload_n 3, 1) := by decide +kernel
theorem dX0_gone_49 : decode cX0_gone 49 = .ok (.iload 6, 2) := by decide +kernel
theorem dX0_gone_51 : decode cX0_gone 51 = .ok (.invokestatic 189, 3) := by decide +kernel
theorem dX0_gone_54 : decode cX0_gone 54 = .ok (.iadd, 1) := by decide +kernel
theorem dX0_gone_55 : decode cX0_gone 55 = .ok (.invokestatic 192, 3) := by decide +kernel
theorem dX0_gone_58 : decode cX0_gone 58 = .ok (.lstore 4, 2) := by decide +kernel
theorem dX0_gone_60 : decode cX0_gone 60 = .ok (.iinc 6 1, 3) := by decide +kernel
theorem dX0_gone_63 : decode cX0_gone 63 = .ok (.goto (-57), 3) := by decide +kernel
theorem dX0_gone_66 : decode cX0_gone 66 = .ok (.lload 4, 2) := by decide +kernel
theorem dX0_gone_68 : decode cX0_gone 68 = .ok (.lreturn, 1) := by decide +kernel
theorem dX0_hexDigit_0 : decode cX0_hexDigit 0 = .ok (.iload_n 0, 1) := by decide +kernel
theorem dX0_hexDigit_1 : decode cX0_hexDigit 1 = .ok (.iconst 4, 1) := by decide +kernel
theorem dX0_hexDigit_2 : decode cX0_hexDigit 2 = .ok (.iconst 3, 1) := by decide +kernel
theorem dX0_hexDigit_3 : decode cX0_hexDigit 3 = .ok (.iload_n 1, 1) := by decide +kernel
theorem dX0_hexDigit_4 : decode cX0_hexDigit 4 = .ok (.isub, 1) := by decide +kernel
theorem dX0_hexDigit_5 : decode cX0_hexDigit 5 = .ok (.imul, 1) := by decide +kernel
theorem dX0_hexDigit_6 : decode cX0_hexDigit 6 = .ok (.ishr, 1) := by decide +kernel
theorem dX0_hexDigit_7 : decode cX0_hexDigit 7 = .ok (.bipush 15, 2) := by decide +kernel
theorem dX0_hexDigit_9 : decode cX0_hexDigit 9 = .ok (.iand, 1) := by decide +kernel
theorem dX0_hexDigit_10 : decode cX0_hexDigit 10 = .ok (.ireturn, 1) := by decide +kernel
set_option maxRecDepth 20000 in
theorem ggX0_behindDeed_X0_cornerAt : GoodIn wsX0_behindDeed wsX0_cornerAt := goodIn_r _ [4] (by decide +kernel) (by decide +kernel)
set_option maxRecDepth 20000 in
theorem gX0_behindDeed_X0_cornerAt : GoodIn wsX0_behindDeed (va_wsS RX0 87 yX0_cornerAt wsX0_cornerAt) := goodIn_app (goodIn_of _ (by decide +kernel)) ggX0_behindDeed_X0_cornerAt
set_option maxRecDepth 20000 in
theorem ggX0_behindDeed_X0_twistAt : GoodIn wsX0_behindDeed wsX0_twistAt := goodIn_r _ [7] (by decide +kernel) (by decide +kernel)
set_option maxRecDepth 20000 in
theorem gX0_behindDeed_X0_twistAt : GoodIn wsX0_behindDeed (va_wsS RX0 91 yX0_twistAt wsX0_twistAt) := goodIn_app (goodIn_of _ (by decide +kernel)) ggX0_behindDeed_X0_twistAt
set_option maxRecDepth 20000 in
theorem ggX0_behindDeed_X0_withCorner : GoodIn wsX0_behindDeed wsX0_withCorner := goodIn_r _ [10, 11, 12] (by decide +kernel) (by decide +kernel)
set_option maxRecDepth 20000 in
theorem gX0_behindDeed_X0_withCorner : GoodIn wsX0_behindDeed (va_wsS RX0 192 yX0_withCorner wsX0_withCorner) := goodIn_app (goodIn_of _ (by decide +kernel)) ggX0_behindDeed_X0_withCorner
theorem dX0_behindDeed_0 : decode cX0_behindDeed 0 = .ok (.lload_n 0, 1) := by decide +kernel
theorem dX0_behindDeed_1 : decode cX0_behindDeed 1 = .ok (.lstore 4, 2) := by decide +kernel
theorem dX0_behindDeed_3 : decode cX0_behindDeed 3 = .ok (.iconst 0, 1) := by decide +kernel
theorem dX0_behindDeed_4 : decode cX0_behindDeed 4 = .ok (.istore 6, 2) := by decide +kernel
theorem dX0_behindDeed_6 : decode cX0_behindDeed 6 = .ok (.iload 6, 2) := by decide +kernel
theorem dX0_behindDeed_8 : decode cX0_behindDeed 8 = .ok (.bipush 8, 2) := by decide +kernel
theorem dX0_behindDeed_10 : decode cX0_behindDeed 10 = .ok (.if_icmp .ge 45, 3) := by decide +kernel
theorem dX0_behindDeed_13 : decode cX0_behindDeed 13 = .ok (.lload_n 2, 1) := by decide +kernel
theorem dX0_behindDeed_14 : decode cX0_behindDeed 14 = .ok (.iload 6, 2) := by decide +kernel
theorem dX0_behindDeed_16 : decode cX0_behindDeed 16 = .ok (.invokestatic 87, 3) := by decide +kernel
theorem dX0_behindDeed_19 : decode cX0_behindDeed 19 = .ok (.istore 7, 2) := by decide +kernel
theorem dX0_behindDeed_21 : decode cX0_behindDeed 21 = .ok (.lload 4, 2) := by decide +kernel
theorem dX0_behindDeed_23 : decode cX0_behindDeed 23 = .ok (.iload 6, 2) := by decide +kernel
theorem dX0_behindDeed_25 : decode cX0_behindDeed 25 = .ok (.lload_n 0, 1) := by decide +kernel
theorem dX0_behindDeed_26 : decode cX0_behindDeed 26 = .ok (.iload 7, 2) := by decide +kernel
theorem dX0_behindDeed_28 : decode cX0_behindDeed 28 = .ok (.invokestatic 87, 3) := by decide +kernel
theorem dX0_behindDeed_31 : decode cX0_behindDeed 31 = .ok (.lload_n 0, 1) := by decide +kernel
theorem dX0_behindDeed_32 : decode cX0_behindDeed 32 = .ok (.iload 7, 2) := by decide +kernel
theorem dX0_behindDeed_34 : decode cX0_behindDeed 34 = .ok (.invokestatic 91, 3) := by decide +kernel
theorem dX0_behindDeed_37 : decode cX0_behindDeed 37 = .ok (.lload_n 2, 1) := by decide +kernel
theorem dX0_behindDeed_38 : decode cX0_behindDeed 38 = .ok (.iload 6, 2) := by decide +kernel
theorem dX0_behindDeed_40 : decode cX0_behindDeed 40 = .ok (.invokestatic 91, 3) := by decide +kernel
theorem dX0_behindDeed_43 : decode cX0_behindDeed 43 = .ok (.iadd, 1) := by decide +kernel
theorem dX0_behindDeed_44 : decode cX0_behindDeed 44 = .ok (.invokestatic 192, 3) := by decide +kernel
theorem dX0_behindDeed_47 : decode cX0_behindDeed 47 = .ok (.lstore 4, 2) := by decide +kernel
theorem dX0_behindDeed_49 : decode cX0_behindDeed 49 = .ok (.iinc 6 1, 3) := by decide +kernel
theorem dX0_behindDeed_52 : decode cX0_behindDeed 52 = .ok (.goto (-46), 3) := by decide +kernel
theorem dX0_behindDeed_55 : decode cX0_behindDeed 55 = .ok (.lload 4, 2) := by decide +kernel
theorem dX0_behindDeed_57 : decode cX0_behindDeed 57 = .ok (.lreturn, 1) := by decide +kernel
set_option maxRecDepth 20000 in
theorem ggX0_fewestTurns_X0_isRightWithin : GoodIn wsX0_fewestTurns wsX0_isRightWithin := goodIn_r _ [4, 5, 6, 7, 3, 8, 9, 10, 11, 12, 13, 14, 15, 16, 17, 18, 19, 20, 21, 22, 23, 24, 25, 26, 27, 28, 29, 30, 31, 32, 33, 34, 35, 36, 37, 38, 39, 40, 1, 2] (by decide +kernel) (by decide +kernel)
set_option maxRecDepth 20000 in
theorem gX0_fewestTurns_X0_isRightWithin : GoodIn wsX0_fewestTurns (va_wsS RX0 137 yX0_isRightWithin wsX0_isRightWithin) := goodIn_app (goodIn_of _ (by decide +kernel)) ggX0_fewestTurns_X0_isRightWithin
theorem dX0_fewestTurns_0 : decode cX0_fewestTurns 0 = .ok (.iconst 0, 1) := by decide +kernel
theorem dX0_fewestTurns_1 : decode cX0_fewestTurns 1 = .ok (.istore_n 3, 1) := by decide +kernel
theorem dX0_fewestTurns_2 : decode cX0_fewestTurns 2 = .ok (.iload_n 3, 1) := by decide +kernel
theorem dX0_fewestTurns_3 : decode cX0_fewestTurns 3 = .ok (.iload_n 2, 1) := by decide +kernel
theorem dX0_fewestTurns_4 : decode cX0_fewestTurns 4 = .ok (.if_icmp .gt 20, 3) := by decide +kernel
theorem dX0_fewestTurns_7 : decode cX0_fewestTurns 7 = .ok (.lload_n 0, 1) := by decide +kernel
theorem dX0_fewestTurns_8 : decode cX0_fewestTurns 8 = .ok (.iload_n 3, 1) := by decide +kernel
theorem dX0_fewestTurns_9 : decode cX0_fewestTurns 9 = .ok (.iconst (-1), 1) := by decide +kernel
theorem dX0_fewestTurns_10 : decode cX0_fewestTurns 10 = .ok (.invokestatic 137, 3) := by decide +kernel
theorem dX0_fewestTurns_13 : decode cX0_fewestTurns 13 = .ok (.ifCond .eq 5, 3) := by decide +kernel
theorem dX0_fewestTurns_16 : decode cX0_fewestTurns 16 = .ok (.iload_n 3, 1) := by decide +kernel
theorem dX0_fewestTurns_17 : decode cX0_fewestTurns 17 = .ok (.ireturn, 1) := by decide +kernel
theorem dX0_fewestTurns_18 : decode cX0_fewestTurns 18 = .ok (.iinc 3 1, 3) := by decide +kernel
theorem dX0_fewestTurns_21 : decode cX0_fewestTurns 21 = .ok (.goto (-19), 3) := by decide +kernel
theorem dX0_fewestTurns_24 : decode cX0_fewestTurns 24 = .ok (.iconst (-1), 1) := by decide +kernel
theorem dX0_fewestTurns_25 : decode cX0_fewestTurns 25 = .ok (.ireturn, 1) := by decide +kernel
set_option maxRecDepth 20000 in
theorem ggX0_isRightWithin_X0_wrongCorners : GoodIn wsX0_isRightWithin wsX0_wrongCorners := goodIn_r _ [5, 6, 7, 4, 8, 9, 10, 11, 12, 13, 14, 15, 16, 17] (by decide +kernel) (by decide +kernel)
set_option maxRecDepth 20000 in
theorem gX0_isRightWithin_X0_wrongCorners : GoodIn wsX0_isRightWithin (va_wsS RX0 65 yX0_wrongCorners wsX0_wrongCorners) := goodIn_app (goodIn_of _ (by decide +kernel)) ggX0_isRightWithin_X0_wrongCorners
set_option maxRecDepth 20000 in
theorem ggX0_isRightWithin_X0_mostSetRight : GoodIn wsX0_isRightWithin wsX0_mostSetRight := goodIn_r _ [20] (by decide +kernel) (by decide +kernel)
set_option maxRecDepth 20000 in
theorem gX0_isRightWithin_X0_mostSetRight : GoodIn wsX0_isRightWithin (va_wsS RX0 196 yX0_mostSetRight wsX0_mostSetRight) := goodIn_app (goodIn_of _ (by decide +kernel)) ggX0_isRightWithin_X0_mostSetRight
set_option maxRecDepth 20000 in
theorem ggX0_isRightWithin_X0_isRightBeginning : GoodIn wsX0_isRightWithin wsX0_isRightBeginning := goodIn_r _ [23, 24, 25, 4, 26, 27, 28, 29, 30, 31, 32, 12, 13, 14, 15, 16, 17, 33, 34, 35, 36, 37, 38, 39, 0, 1, 2, 3, 5, 6, 7, 8, 9, 10, 11, 18, 19, 20, 21, 22] (by decide +kernel) (by decide +kernel)
set_option maxRecDepth 20000 in
theorem gX0_isRightWithin_X0_isRightBeginning : GoodIn wsX0_isRightWithin (va_wsS RX0 199 yX0_isRightBeginning wsX0_isRightBeginning) := goodIn_app (goodIn_of _ (by decide +kernel)) ggX0_isRightWithin_X0_isRightBeginning
theorem dX0_isRightWithin_0 : decode cX0_isRightWithin 0 = .ok (.lload_n 0, 1) := by decide +kernel
theorem dX0_isRightWithin_1 : decode cX0_isRightWithin 1 = .ok (.ldc2_w 9, 3) := by decide +kernel
theorem dX0_isRightWithin_4 : decode cX0_isRightWithin 4 = .ok (.lcmp, 1) := by decide +kernel
theorem dX0_isRightWithin_5 : decode cX0_isRightWithin 5 = .ok (.ifCond .ne 5, 3) := by decide +kernel
theorem dX0_isRightWithin_8 : decode cX0_isRightWithin 8 = .ok (.iconst 1, 1) := by decide +kernel
theorem dX0_isRightWithin_9 : decode cX0_isRightWithin 9 = .ok (.ireturn, 1) := by decide +kernel
theorem dX0_isRightWithin_10 : decode cX0_isRightWithin 10 = .ok (.iload_n 2, 1) := by decide +kernel
theorem dX0_isRightWithin_11 : decode cX0_isRightWithin 11 = .ok (.ifCond .le 14, 3) := by decide +kernel
theorem dX0_isRightWithin_14 : decode cX0_isRightWithin 14 = .ok (.lload_n 0, 1) := by decide +kernel
theorem dX0_isRightWithin_15 : decode cX0_isRightWithin 15 = .ok (.invokestatic 65, 3) := by decide +kernel
theorem dX0_isRightWithin_18 : decode cX0_isRightWithin 18 = .ok (.iload_n 2, 1) := by decide +kernel
theorem dX0_isRightWithin_19 : decode cX0_isRightWithin 19 = .ok (.invokestatic 196, 3) := by decide +kernel
theorem dX0_isRightWithin_22 : decode cX0_isRightWithin 22 = .ok (.if_icmp .le 5, 3) := by decide +kernel
theorem dX0_isRightWithin_25 : decode cX0_isRightWithin 25 = .ok (.iconst 0, 1) := by decide +kernel
theorem dX0_isRightWithin_26 : decode cX0_isRightWithin 26 = .ok (.ireturn, 1) := by decide +kernel
theorem dX0_isRightWithin_27 : decode cX0_isRightWithin 27 = .ok (.iconst 0, 1) := by decide +kernel
theorem dX0_isRightWithin_28 : decode cX0_isRightWithin 28 = .ok (.istore 4, 2) := by decide +kernel
theorem dX0_isRightWithin_30 : decode cX0_isRightWithin 30 = .ok (.iload 4, 2) := by decide +kernel
theorem dX0_isRightWithin_32 : decode cX0_isRightWithin 32 = .ok (.iconst 3, 1) := by decide +kernel
theorem dX0_isRightWithin_33 : decode cX0_isRightWithin 33 = .ok (.if_icmp .ge 27, 3) := by decide +kernel
theorem dX0_isRightWithin_36 : decode cX0_isRightWithin 36 = .ok (.iload 4, 2) := by decide +kernel
theorem dX0_isRightWithin_38 : decode cX0_isRightWithin 38 = .ok (.iload_n 3, 1) := by decide +kernel
theorem dX0_isRightWithin_39 : decode cX0_isRightWithin 39 = .ok (.if_icmp .eq 15, 3) := by decide +kernel
theorem dX0_isRightWithin_42 : decode cX0_isRightWithin 42 = .ok (.lload_n 0, 1) := by decide +kernel
theorem dX0_isRightWithin_43 : decode cX0_isRightWithin 43 = .ok (.iload 4, 2) := by decide +kernel
theorem dX0_isRightWithin_45 : decode cX0_isRightWithin 45 = .ok (.iload_n 2, 1) := by decide +kernel
theorem dX0_isRightWithin_46 : decode cX0_isRightWithin 46 = .ok (.invokestatic 199, 3) := by decide +kernel
theorem dX0_isRightWithin_49 : decode cX0_isRightWithin 49 = .ok (.ifCond .eq 5, 3) := by decide +kernel
theorem dX0_isRightWithin_52 : decode cX0_isRightWithin 52 = .ok (.iconst 1, 1) := by decide +kernel
theorem dX0_isRightWithin_53 : decode cX0_isRightWithin 53 = .ok (.ireturn, 1) := by decide +kernel
theorem dX0_isRightWithin_54 : decode cX0_isRightWithin 54 = .ok (.iinc 4 1, 3) := by decide +kernel
theorem dX0_isRightWithin_57 : decode cX0_isRightWithin 57 = .ok (.goto (-27), 3) := by decide +kernel
theorem dX0_isRightWithin_60 : decode cX0_isRightWithin 60 = .ok (.iconst 0, 1) := by decide +kernel
theorem dX0_isRightWithin_61 : decode cX0_isRightWithin 61 = .ok (.ireturn, 1) := by decide +kernel
set_option maxRecDepth 20000 in
theorem ggX0_isRightBeginning_X0_quarterTurned : GoodIn wsX0_isRightBeginning wsX0_quarterTurned := goodIn_r _ [4, 5, 6, 3, 7, 8, 9, 10, 11, 12, 13, 14, 15, 16, 17, 18, 19, 20, 21] (by decide +kernel) (by decide +kernel)
set_option maxRecDepth 20000 in
theorem gX0_isRightBeginning_X0_quarterTurned : GoodIn wsX0_isRightBeginning (va_wsS RX0 182 yX0_quarterTurned wsX0_quarterTurned) := goodIn_app (goodIn_of _ (by decide +kernel)) ggX0_isRightBeginning_X0_quarterTurned
set_option maxRecDepth 20000 in
theorem ggX0_isRightBeginning_X0_isRightWithin : GoodIn wsX0_isRightBeginning wsX0_isRightWithin := goodIn_r _ [24, 25, 26, 27, 3, 28, 29, 30, 31, 32, 33, 34, 11, 12, 13, 14, 15, 16, 35, 36, 37, 38, 39, 0, 1, 2, 4, 5, 6, 7, 8, 9, 10, 17, 18, 19, 20, 21, 22, 23] (by decide +kernel) (by decide +kernel)
set_option maxRecDepth 20000 in
theorem gX0_isRightBeginning_X0_isRightWithin : GoodIn wsX0_isRightBeginning (va_wsS RX0 137 yX0_isRightWithin wsX0_isRightWithin) := goodIn_app (goodIn_of _ (by decide +kernel)) ggX0_isRightBeginning_X0_isRightWithin
theorem dX0_isRightBeginning_0 : decode cX0_isRightBeginning 0 = .ok (.lload_n 0, 1) := by decide +kernel
theorem dX0_isRightBeginning_1 : decode cX0_isRightBeginning 1 = .ok (.lstore 4, 2) := by decide +kernel
theorem dX0_isRightBeginning_3 : decode cX0_isRightBeginning 3 = .ok (.iconst 1, 1) := by decide +kernel
theorem dX0_isRightBeginning_4 : decode cX0_isRightBeginning 4 = .ok (.istore 6, 2) := by decide +kernel
theorem dX0_isRightBeginning_6 : decode cX0_isRightBeginning 6 = .ok (.iload 6, 2) := by decide +kernel
theorem dX0_isRightBeginning_8 : decode cX0_isRightBeginning 8 = .ok (.iconst 4, 1) := by decide +kernel
theorem dX0_isRightBeginning_9 : decode cX0_isRightBeginning 9 = .ok (.if_icmp .ge 31, 3) := by decide +kernel
theorem dX0_isRightBeginning_12 : decode cX0_isRightBeginning 12 = .ok (.lload 4, 2) := by decide +kernel
theorem dX0_isRightBeginning_14 : decode cX0_isRightBeginning 14 = .ok (.iload_n 2, 1) := by decide +kernel
theorem dX0_isRightBeginning_15 : decode cX0_isRightBeginning 15 = .ok (.invokestatic 182, 3) := by decide +kernel
theorem dX0_isRightBeginning_18 : decode cX0_isRightBeginning 18 = .ok (.lstore 4, 2) := by decide +kernel
theorem dX0_isRightBeginning_20 : decode cX0_isRightBeginning 20 = .ok (.lload 4, 2) := by decide +kernel
theorem dX0_isRightBeginning_22 : decode cX0_isRightBeginning 22 = .ok (.iload_n 3, 1) := by decide +kernel
theorem dX0_isRightBeginning_23 : decode cX0_isRightBeginning 23 = .ok (.iconst 1, 1) := by decide +kernel
theorem dX0_isRightBeginning_24 : decode cX0_isRightBeginning 24 = .ok (.isub, 1) := by decide +kernel
theorem dX0_isRightBeginning_25 : decode cX0_isRightBeginning 25 = .ok (.iload_n 2, 1) := by decide +kernel
theorem dX0_isRightBeginning_26 : decode cX0_isRightBeginning 26 = .ok (.invokestatic 137, 3) := by decide +kernel
theorem dX0_isRightBeginning_29 : decode cX0_isRightBeginning 29 = .ok (.ifCond .eq 5, 3) := by decide +kernel
theorem dX0_isRightBeginning_32 : decode cX0_isRightBeginning 32 = .ok (.iconst 1, 1) := by decide +kernel
theorem dX0_isRightBeginning_33 : decode cX0_isRightBeginning 33 = .ok (.ireturn, 1) := by decide +kernel
theorem dX0_isRightBeginning_34 : decode cX0_isRightBeginning 34 = .ok (.iinc 6 1, 3) := by decide +kernel
theorem dX0_isRightBeginning_37 : decode cX0_isRightBeginning 37 = .ok (.goto (-31), 3) := by decide +kernel
theorem dX0_isRightBeginning_40 : decode cX0_isRightBeginning 40 = .ok (.iconst 0, 1) := by decide +kernel
theorem dX0_isRightBeginning_41 : decode cX0_isRightBeginning 41 = .ok (.ireturn, 1) := by decide +kernel
theorem dX0_mostSetRight_0 : decode cX0_mostSetRight 0 = .ok (.iload_n 0, 1) := by decide +kernel
theorem dX0_mostSetRight_1 : decode cX0_mostSetRight 1 = .ok (.iconst 1, 1) := by decide +kernel
theorem dX0_mostSetRight_2 : decode cX0_mostSetRight 2 = .ok (.if_icmp .ne 5, 3) := by decide +kernel
theorem dX0_mostSetRight_5 : decode cX0_mostSetRight 5 = .ok (.iconst 4, 1) := by decide +kernel
theorem dX0_mostSetRight_6 : decode cX0_mostSetRight 6 = .ok (.ireturn, 1) := by decide +kernel
theorem dX0_mostSetRight_7 : decode cX0_mostSetRight 7 = .ok (.iload_n 0, 1) := by decide +kernel
theorem dX0_mostSetRight_8 : decode cX0_mostSetRight 8 = .ok (.iconst 2, 1) := by decide +kernel
theorem dX0_mostSetRight_9 : decode cX0_mostSetRight 9 = .ok (.if_icmp .ne 8, 3) := by decide +kernel
theorem dX0_mostSetRight_12 : decode cX0_mostSetRight 12 = .ok (.bipush 6, 2) := by decide +kernel
theorem dX0_mostSetRight_14 : decode cX0_mostSetRight 14 = .ok (.goto 5, 3) := by decide +kernel
theorem dX0_mostSetRight_17 : decode cX0_mostSetRight 17 = .ok (.bipush 8, 2) := by decide +kernel
theorem dX0_mostSetRight_19 : decode cX0_mostSetRight 19 = .ok (.ireturn, 1) := by decide +kernel
end
section
set_option maxRecDepth 20000 in
theorem ggX1_init_X1_right : GoodIn wsX1_init wsX1_right := goodIn_r _ [15, 8] (by decide +kernel) (by decide +kernel)
set_option maxRecDepth 20000 in
theorem gX1_init_X1_right : GoodIn wsX1_init (va_wsS RX1 7 yX1_right wsX1_right) := goodIn_app (goodIn_of _ (by decide +kernel)) ggX1_init_X1_right
set_option maxRecDepth 20000 in
theorem ggX1_init_X1_turnRow : GoodIn wsX1_init wsX1_turnRow := goodIn_r _ [18, 19, 20, 14, 21, 22, 23, 12, 13, 15, 8, 24, 25, 26, 27, 28, 29] (by decide +kernel) (by decide +kernel)
set_option maxRecDepth 20000 in
theorem gX1_init_X1_turnRow : GoodIn wsX1_init (va_wsS RX1 32 yX1_turnRow wsX1_turnRow) := goodIn_app (goodIn_of _ (by decide +kernel)) ggX1_init_X1_turnRow
theorem dX1_init_0 : decode cX1_init 0 = .ok (.aload_n 0, 1) := by decide +kernel
theorem dX1_init_1 : decode cX1_init 1 = .ok (.invokespecial 1, 3) := by decide +kernel
theorem dX1_init_4 : decode cX1_init 4 = .ok (.aload_n 0, 1) := by decide +kernel
theorem dX1_init_5 : decode cX1_init 5 = .ok (.invokestatic 7, 3) := by decide +kernel
theorem dX1_init_8 : decode cX1_init 8 = .ok (.putfield 13, 3) := by decide +kernel
theorem dX1_init_11 : decode cX1_init 11 = .ok (.aload_n 0, 1) := by decide +kernel
theorem dX1_init_12 : decode cX1_init 12 = .ok (.bipush 9, 2) := by decide +kernel
theorem dX1_init_14 : decode cX1_init 14 = .ok (.anewarray 17, 3) := by decide +kernel
theorem dX1_init_17 : decode cX1_init 17 = .ok (.putfield 18, 3) := by decide +kernel
theorem dX1_init_20 : decode cX1_init 20 = .ok (.aload_n 0, 1) := by decide +kernel
theorem dX1_init_21 : decode cX1_init 21 = .ok (.bipush 6, 2) := by decide +kernel
theorem dX1_init_23 : decode cX1_init 23 = .ok (.bipush 16, 2) := by decide +kernel
theorem dX1_init_25 : decode cX1_init 25 = .ok (.multianewarray 22 2, 4) := by decide +kernel
theorem dX1_init_29 : decode cX1_init 29 = .ok (.putfield 23, 3) := by decide +kernel
theorem dX1_init_32 : decode cX1_init 32 = .ok (.aload_n 0, 1) := by decide +kernel
theorem dX1_init_33 : decode cX1_init 33 = .ok (.iconst 5, 1) := by decide +kernel
theorem dX1_init_34 : decode cX1_init 34 = .ok (.newarray .int, 2) := by decide +kernel
theorem dX1_init_36 : decode cX1_init 36 = .ok (.putfield 26, 3) := by decide +kernel
theorem dX1_init_39 : decode cX1_init 39 = .ok (.aload_n 0, 1) := by decide +kernel
theorem dX1_init_40 : decode cX1_init 40 = .ok (.bipush 60, 2) := by decide +kernel
theorem dX1_init_42 : decode cX1_init 42 = .ok (.newarray .int, 2) := by decide +kernel
theorem dX1_init_44 : decode cX1_init 44 = .ok (.putfield 29, 3) := by decide +kernel
theorem dX1_init_47 : decode cX1_init 47 = .ok (.iconst 0, 1) := by decide +kernel
theorem dX1_init_48 : decode cX1_init 48 = .ok (.istore_n 1, 1) := by decide +kernel
theorem dX1_init_49 : decode cX1_init 49 = .ok (.iload_n 1, 1) := by decide +kernel
theorem dX1_init_50 : decode cX1_init 50 = .ok (.bipush 9, 2) := by decide +kernel
theorem dX1_init_52 : decode cX1_init 52 = .ok (.if_icmp .ge 19, 3) := by decide +kernel
theorem dX1_init_55 : decode cX1_init 55 = .ok (.aload_n 0, 1) := by decide +kernel
theorem dX1_init_56 : decode cX1_init 56 = .ok (.getfield 18, 3) := by decide +kernel
theorem dX1_init_59 : decode cX1_init 59 = .ok (.iload_n 1, 1) := by decide +kernel
theorem dX1_init_60 : decode cX1_init 60 = .ok (.iload_n 1, 1) := by decide +kernel
theorem dX1_init_61 : decode cX1_init 61 = .ok (.invokestatic 32, 3) := by decide +kernel
theorem dX1_init_64 : decode cX1_init 64 = .ok (.aastore, 1) := by decide +kernel
theorem dX1_init_65 : decode cX1_init 65 = .ok (.iinc 1 1, 3) := by decide +kernel
theorem dX1_init_68 : decode cX1_init 68 = .ok (.goto (-19), 3) := by decide +kernel
theorem dX1_init_71 : decode cX1_init 71 = .ok (.return_, 1) := by decide +kernel
theorem dX1_thrown_0 : decode cX1_thrown 0 = .ok (.aload_n 0, 1) := by decide +kernel
theorem dX1_thrown_1 : decode cX1_thrown 1 = .ok (.getfield 36, 3) := by decide +kernel
theorem dX1_thrown_4 : decode cX1_thrown 4 = .ok (.ireturn, 1) := by decide +kernel
theorem dX1_no_0 : decode cX1_no 0 = .ok (.aload_n 0, 1) := by decide +kernel
theorem dX1_no_1 : decode cX1_no 1 = .ok (.iload_n 1, 1) := by decide +kernel
theorem dX1_no_2 : decode cX1_no 2 = .ok (.putfield 36, 3) := by decide +kernel
theorem dX1_no_5 : decode cX1_no 5 = .ok (.iconst 0, 1) := by decide +kernel
theorem dX1_no_6 : decode cX1_no 6 = .ok (.ireturn, 1) := by decide +kernel
theorem dX1_isIn_0 : decode cX1_isIn 0 = .ok (.iload_n 0, 1) := by decide +kernel
theorem dX1_isIn_1 : decode cX1_isIn 1 = .ok (.iload_n 1, 1) := by decide +kernel
theorem dX1_isIn_2 : decode cX1_isIn 2 = .ok (.if_icmp .lt 12, 3) := by decide +kernel
theorem dX1_isIn_5 : decode cX1_isIn 5 = .ok (.iload_n 0, 1) := by decide +kernel
theorem dX1_isIn_6 : decode cX1_isIn 6 = .ok (.iload_n 2, 1) := by decide +kernel
theorem dX1_isIn_7 : decode cX1_isIn 7 = .ok (.if_icmp .gt 7, 3) := by decide +kernel
theorem dX1_isIn_10 : decode cX1_isIn 10 = .ok (.iconst 1, 1) := by decide +kernel
theorem dX1_isIn_11 : decode cX1_isIn 11 = .ok (.goto 4, 3) := by decide +kernel
theorem dX1_isIn_14 : decode cX1_isIn 14 = .ok (.iconst 0, 1) := by decide +kernel
theorem dX1_isIn_15 : decode cX1_isIn 15 = .ok (.ireturn, 1) := by decide +kernel
set_option maxRecDepth 20000 in
theorem ggX1_isWord_X1_isIn : GoodIn wsX1_isWord wsX1_isIn := goodIn_r _ [4] (by decide +kernel) (by decide +kernel)
set_option maxRecDepth 20000 in
theorem gX1_isWord_X1_isIn : GoodIn wsX1_isWord (va_wsS RX1 40 yX1_isIn wsX1_isIn) := goodIn_app (goodIn_of _ (by decide +kernel)) ggX1_isWord_X1_isIn
theorem dX1_isWord_0 : decode cX1_isWord 0 = .ok (.iload_n 0, 1) := by decide +kernel
theorem dX1_isWord_1 : decode cX1_isWord 1 = .ok (.iconst 0, 1) := by decide +kernel
theorem dX1_isWord_2 : decode cX1_isWord 2 = .ok (.iconst 4, 1) := by decide +kernel
theorem dX1_isWord_3 : decode cX1_isWord 3 = .ok (.invokestatic 40, 3) := by decide +kernel
theorem dX1_isWord_6 : decode cX1_isWord 6 = .ok (.ireturn, 1) := by decide +kernel
theorem dX1_right_0 : decode cX1_right 0 = .ok (.bipush 16, 2) := by decide +kernel
theorem dX1_right_2 : decode cX1_right 2 = .ok (.newarray .int, 2) := by decide +kernel
theorem dX1_right_4 : decode cX1_right 4 = .ok (.astore_n 0, 1) := by decide +kernel
theorem dX1_right_5 : decode cX1_right 5 = .ok (.iconst 0, 1) := by decide +kernel
theorem dX1_right_6 : decode cX1_right 6 = .ok (.istore_n 1, 1) := by decide +kernel
theorem dX1_right_7 : decode cX1_right 7 = .ok (.iload_n 1, 1) := by decide +kernel
theorem dX1_right_8 : decode cX1_right 8 = .ok (.bipush 8, 2) := by decide +kernel
theorem dX1_right_10 : decode cX1_right 10 = .ok (.if_icmp .ge 13, 3) := by decide +kernel
theorem dX1_right_13 : decode cX1_right 13 = .ok (.aload_n 0, 1) := by decide +kernel
theorem dX1_right_14 : decode cX1_right 14 = .ok (.iload_n 1, 1) := by decide +kernel
theorem dX1_right_15 : decode cX1_right 15 = .ok (.iload_n 1, 1) := by decide +kernel
theorem dX1_right_16 : decode cX1_right 16 = .ok (.iastore, 1) := by decide +kernel
theorem dX1_right_17 : decode cX1_right 17 = .ok (.iinc 1 1, 3) := by decide +kernel
theorem dX1_right_20 : decode cX1_right 20 = .ok (.goto (-13), 3) := by decide +kernel
theorem dX1_right_23 : decode cX1_right 23 = .ok (.aload_n 0, 1) := by decide +kernel
theorem dX1_right_24 : decode cX1_right 24 = .ok (.areturn, 1) := by decide +kernel
set_option maxRecDepth 20000 in
theorem ggX1_then_X1_into : GoodIn wsX1_then wsX1_into := goodIn_r _ [5] (by decide +kernel) (by decide +kernel)
set_option maxRecDepth 20000 in
theorem gX1_then_X1_into : GoodIn wsX1_then (va_wsS RX1 44 yX1_into wsX1_into) := goodIn_app (goodIn_of _ (by decide +kernel)) ggX1_then_X1_into
theorem dX1_then_0 : decode cX1_then 0 = .ok (.aload_n 0, 1) := by decide +kernel
theorem dX1_then_1 : decode cX1_then 1 = .ok (.aload_n 1, 1) := by decide +kernel
theorem dX1_then_2 : decode cX1_then 2 = .ok (.bipush 16, 2) := by decide +kernel
theorem dX1_then_4 : decode cX1_then 4 = .ok (.newarray .int, 2) := by decide +kernel
theorem dX1_then_6 : decode cX1_then 6 = .ok (.invokestatic 44, 3) := by decide +kernel
theorem dX1_then_9 : decode cX1_then 9 = .ok (.areturn, 1) := by decide +kernel
theorem dX1_into_0 : decode cX1_into 0 = .ok (.iconst 0, 1) := by decide +kernel
theorem dX1_into_1 : decode cX1_into 1 = .ok (.istore_n 3, 1) := by decide +kernel
theorem dX1_into_2 : decode cX1_into 2 = .ok (.iload_n 3, 1) := by decide +kernel
theorem dX1_into_3 : decode cX1_into 3 = .ok (.bipush 8, 2) := by decide +kernel
theorem dX1_into_5 : decode cX1_into 5 = .ok (.if_icmp .ge 43, 3) := by decide +kernel
theorem dX1_into_8 : decode cX1_into 8 = .ok (.aload_n 1, 1) := by decide +kernel
theorem dX1_into_9 : decode cX1_into 9 = .ok (.iload_n 3, 1) := by decide +kernel
theorem dX1_into_10 : decode cX1_into 10 = .ok (.iaload, 1) := by decide +kernel
theorem dX1_into_11 : decode cX1_into 11 = .ok (.istore 4, 2) := by decide +kernel
theorem dX1_into_13 : decode cX1_into 13 = .ok (.aload_n 2, 1) := by decide +kernel
theorem dX1_into_14 : decode cX1_into 14 = .ok (.iload_n 3, 1) := by decide +kernel
theorem dX1_into_15 : decode cX1_into 15 = .ok (.aload_n 0, 1) := by decide +kernel
theorem dX1_into_16 : decode cX1_into 16 = .ok (.iload 4, 2) := by decide +kernel
theorem dX1_into_18 : decode cX1_into 18 = .ok (.iaload, 1) := by decide +kernel
theorem dX1_into_19 : decode cX1_into 19 = .ok (.iastore, 1) := by decide +kernel
theorem dX1_into_20 : decode cX1_into 20 = .ok (.aload_n 2, 1) := by decide +kernel
theorem dX1_into_21 : decode cX1_into 21 = .ok (.bipush 8, 2) := by decide +kernel
theorem dX1_into_23 : decode cX1_into 23 = .ok (.iload_n 3, 1) := by decide +kernel
theorem dX1_into_24 : decode cX1_into 24 = .ok (.iadd, 1) := by decide +kernel
theorem dX1_into_25 : decode cX1_into 25 = .ok (.aload_n 0, 1) := by decide +kernel
theorem dX1_into_26 : decode cX1_into 26 = .ok (.bipush 8, 2) := by decide +kernel
theorem dX1_into_28 : decode cX1_into 28 = .ok (.iload 4, 2) := by decide +kernel
theorem dX1_into_30 : decode cX1_into 30 = .ok (.iadd, 1) := by decide +kernel
theorem dX1_into_31 : decode cX1_into 31 = .ok (.iaload, 1) := by decide +kernel
theorem dX1_into_32 : decode cX1_into 32 = .ok (.aload_n 1, 1) := by decide +kernel
theorem dX1_into_33 : decode cX1_into 33 = .ok (.bipush 8, 2) := by decide +kernel
theorem dX1_into_35 : decode cX1_into 35 = .ok (.iload_n 3, 1) := by decide +kernel
theorem dX1_into_36 : decode cX1_into 36 = .ok (.iadd, 1) := by decide +kernel
theorem dX1_into_37 : decode cX1_into 37 = .ok (.iaload, 1) := by decide +kernel
theorem dX1_into_38 : decode cX1_into 38 = .ok (.iadd, 1) := by decide +kernel
theorem dX1_into_39 : decode cX1_into 39 = .ok (.iconst 3, 1) := by decide +kernel
theorem dX1_into_40 : decode cX1_into 40 = .ok (.irem, 1) := by decide +kernel
theorem dX1_into_41 : decode cX1_into 41 = .ok (.iastore, 1) := by decide +kernel
theorem dX1_into_42 : decode cX1_into 42 = .ok (.iinc 3 1, 3) := by decide +kernel
theorem dX1_into_45 : decode cX1_into 45 = .ok (.goto (-43), 3) := by decide +kernel
theorem dX1_into_48 : decode cX1_into 48 = .ok (.aload_n 2, 1) := by decide +kernel
theorem dX1_into_49 : decode cX1_into 49 = .ok (.areturn, 1) := by decide +kernel
theorem dX1_back_0 : decode cX1_back 0 = .ok (.bipush 16, 2) := by decide +kernel
theorem dX1_back_2 : decode cX1_back 2 = .ok (.newarray .int, 2) := by decide +kernel
theorem dX1_back_4 : decode cX1_back 4 = .ok (.astore_n 1, 1) := by decide +kernel
theorem dX1_back_5 : decode cX1_back 5 = .ok (.iconst 0, 1) := by decide +kernel
theorem dX1_back_6 : decode cX1_back 6 = .ok (.istore_n 2, 1) := by decide +kernel
theorem dX1_back_7 : decode cX1_back 7 = .ok (.iload_n 2, 1) := by decide +kernel
theorem dX1_back_8 : decode cX1_back 8 = .ok (.bipush 8, 2) := by decide +kernel
theorem dX1_back_10 : decode cX1_back 10 = .ok (.if_icmp .ge 33, 3) := by decide +kernel
theorem dX1_back_13 : decode cX1_back 13 = .ok (.aload_n 1, 1) := by decide +kernel
theorem dX1_back_14 : decode cX1_back 14 = .ok (.aload_n 0, 1) := by decide +kernel
theorem dX1_back_15 : decode cX1_back 15 = .ok (.iload_n 2, 1) := by decide +kernel
theorem dX1_back_16 : decode cX1_back 16 = .ok (.iaload, 1) := by decide +kernel
theorem dX1_back_17 : decode cX1_back 17 = .ok (.iload_n 2, 1) := by decide +kernel
theorem dX1_back_18 : decode cX1_back 18 = .ok (.iastore, 1) := by decide +kernel
theorem dX1_back_19 : decode cX1_back 19 = .ok (.aload_n 1, 1) := by decide +kernel
theorem dX1_back_20 : decode cX1_back 20 = .ok (.bipush 8, 2) := by decide +kernel
theorem dX1_back_22 : decode cX1_back 22 = .ok (.aload_n 0, 1) := by decide +kernel
theorem dX1_back_23 : decode cX1_back 23 = .ok (.iload_n 2, 1) := by decide +kernel
theorem dX1_back_24 : decode cX1_back 24 = .ok (.iaload, 1) := by decide +kernel
theorem dX1_back_25 : decode cX1_back 25 = .ok (.iadd, 1) := by decide +kernel
theorem dX1_back_26 : decode cX1_back 26 = .ok (.iconst 3, 1) := by decide +kernel
theorem dX1_back_27 : decode cX1_back 27 = .ok (.aload_n 0, 1) := by decide +kernel
theorem dX1_back_28 : decode cX1_back 28 = .ok (.bipush 8, 2) := by decide +kernel
theorem dX1_back_30 : decode cX1_back 30 = .ok (.iload_n 2, 1) := by decide +kernel
theorem dX1_back_31 : decode cX1_back 31 = .ok (.iadd, 1) := by decide +kernel
theorem dX1_back_32 : decode cX1_back 32 = .ok (.iaload, 1) := by decide +kernel
theorem dX1_back_33 : decode cX1_back 33 = .ok (.isub, 1) := by decide +kernel
theorem dX1_back_34 : decode cX1_back 34 = .ok (.iconst 3, 1) := by decide +kernel
theorem dX1_back_35 : decode cX1_back 35 = .ok (.irem, 1) := by decide +kernel
theorem dX1_back_36 : decode cX1_back 36 = .ok (.iastore, 1) := by decide +kernel
theorem dX1_back_37 : decode cX1_back 37 = .ok (.iinc 2 1, 3) := by decide +kernel
theorem dX1_back_40 : decode cX1_back 40 = .ok (.goto (-33), 3) := by decide +kernel
theorem dX1_back_43 : decode cX1_back 43 = .ok (.aload_n 1, 1) := by decide +kernel
theorem dX1_back_44 : decode cX1_back 44 = .ok (.areturn, 1) := by decide +kernel
set_option maxRecDepth 20000 in
theorem ggX1_quarter_X1_right : GoodIn wsX1_quarter wsX1_right := goodIn_r _ [6, 7] (by decide +kernel) (by decide +kernel)
set_option maxRecDepth 20000 in
theorem gX1_quarter_X1_right : GoodIn wsX1_quarter (va_wsS RX1 7 yX1_right wsX1_right) := goodIn_app (goodIn_of _ (by decide +kernel)) ggX1_quarter_X1_right
theorem dX1_quarter_0 : decode cX1_quarter 0 = .ok (.invokestatic 7, 3) := by decide +kernel
theorem dX1_quarter_3 : decode cX1_quarter 3 = .ok (.astore_n 1, 1) := by decide +kernel
theorem dX1_quarter_4 : decode cX1_quarter 4 = .ok (.iconst 0, 1) := by decide +kernel
theorem dX1_quarter_5 : decode cX1_quarter 5 = .ok (.istore_n 2, 1) := by decide +kernel
theorem dX1_quarter_6 : decode cX1_quarter 6 = .ok (.iload_n 2, 1) := by decide +kernel
theorem dX1_quarter_7 : decode cX1_quarter 7 = .ok (.iconst 4, 1) := by decide +kernel
theorem dX1_quarter_8 : decode cX1_quarter 8 = .ok (.if_icmp .ge 44, 3) := by decide +kernel
theorem dX1_quarter_11 : decode cX1_quarter 11 = .ok (.getstatic 48, 3) := by decide +kernel
theorem dX1_quarter_14 : decode cX1_quarter 14 = .ok (.iload_n 0, 1) := by decide +kernel
theorem dX1_quarter_15 : decode cX1_quarter 15 = .ok (.aaload, 1) := by decide +kernel
theorem dX1_quarter_16 : decode cX1_quarter 16 = .ok (.iload_n 2, 1) := by decide +kernel
theorem dX1_quarter_17 : decode cX1_quarter 17 = .ok (.iconst 1, 1) := by decide +kernel
theorem dX1_quarter_18 : decode cX1_quarter 18 = .ok (.iadd, 1) := by decide +kernel
theorem dX1_quarter_19 : decode cX1_quarter 19 = .ok (.iconst 4, 1) := by decide +kernel
theorem dX1_quarter_20 : decode cX1_quarter 20 = .ok (.irem, 1) := by decide +kernel
theorem dX1_quarter_21 : decode cX1_quarter 21 = .ok (.iaload, 1) := by decide +kernel
theorem dX1_quarter_22 : decode cX1_quarter 22 = .ok (.istore_n 3, 1) := by decide +kernel
theorem dX1_quarter_23 : decode cX1_quarter 23 = .ok (.aload_n 1, 1) := by decide +kernel
theorem dX1_quarter_24 : decode cX1_quarter 24 = .ok (.iload_n 3, 1) := by decide +kernel
theorem dX1_quarter_25 : decode cX1_quarter 25 = .ok (.getstatic 48, 3) := by decide +kernel
theorem dX1_quarter_28 : decode cX1_quarter 28 = .ok (.iload_n 0, 1) := by decide +kernel
theorem dX1_quarter_29 : decode cX1_quarter 29 = .ok (.aaload, 1) := by decide +kernel
theorem dX1_quarter_30 : decode cX1_quarter 30 = .ok (.iload_n 2, 1) := by decide +kernel
theorem dX1_quarter_31 : decode cX1_quarter 31 = .ok (.iaload, 1) := by decide +kernel
theorem dX1_quarter_32 : decode cX1_quarter 32 = .ok (.iastore, 1) := by decide +kernel
theorem dX1_quarter_33 : decode cX1_quarter 33 = .ok (.aload_n 1, 1) := by decide +kernel
theorem dX1_quarter_34 : decode cX1_quarter 34 = .ok (.bipush 8, 2) := by decide +kernel
theorem dX1_quarter_36 : decode cX1_quarter 36 = .ok (.iload_n 3, 1) := by decide +kernel
theorem dX1_quarter_37 : decode cX1_quarter 37 = .ok (.iadd, 1) := by decide +kernel
theorem dX1_quarter_38 : decode cX1_quarter 38 = .ok (.getstatic 51, 3) := by decide +kernel
theorem dX1_quarter_41 : decode cX1_quarter 41 = .ok (.iload_n 0, 1) := by decide +kernel
theorem dX1_quarter_42 : decode cX1_quarter 42 = .ok (.aaload, 1) := by decide +kernel
theorem dX1_quarter_43 : decode cX1_quarter 43 = .ok (.iload_n 2, 1) := by decide +kernel
theorem dX1_quarter_44 : decode cX1_quarter 44 = .ok (.iaload, 1) := by decide +kernel
theorem dX1_quarter_45 : decode cX1_quarter 45 = .ok (.iastore, 1) := by decide +kernel
theorem dX1_quarter_46 : decode cX1_quarter 46 = .ok (.iinc 2 1, 3) := by decide +kernel
theorem dX1_quarter_49 : decode cX1_quarter 49 = .ok (.goto (-43), 3) := by decide +kernel
theorem dX1_quarter_52 : decode cX1_quarter 52 = .ok (.aload_n 1, 1) := by decide +kernel
theorem dX1_quarter_53 : decode cX1_quarter 53 = .ok (.areturn, 1) := by decide +kernel
set_option maxRecDepth 20000 in
theorem ggX1_turnRow_X1_quarter : GoodIn wsX1_turnRow wsX1_quarter := goodIn_r _ [4, 5, 6, 7, 8, 3, 9, 10] (by decide +kernel) (by decide +kernel)
set_option maxRecDepth 20000 in
theorem gX1_turnRow_X1_quarter : GoodIn wsX1_turnRow (va_wsS RX1 54 yX1_quarter wsX1_quarter) := goodIn_app (goodIn_of _ (by decide +kernel)) ggX1_turnRow_X1_quarter
set_option maxRecDepth 20000 in
theorem ggX1_turnRow_X1_then : GoodIn wsX1_turnRow wsX1_then := goodIn_r _ [13, 10, 14, 15, 3, 16] (by decide +kernel) (by decide +kernel)
set_option maxRecDepth 20000 in
theorem gX1_turnRow_X1_then : GoodIn wsX1_turnRow (va_wsS RX1 57 yX1_then wsX1_then) := goodIn_app (goodIn_of _ (by decide +kernel)) ggX1_turnRow_X1_then
theorem dX1_turnRow_0 : decode cX1_turnRow 0 = .ok (.iload_n 0, 1) := by decide +kernel
theorem dX1_turnRow_1 : decode cX1_turnRow 1 = .ok (.iconst 3, 1) := by decide +kernel
theorem dX1_turnRow_2 : decode cX1_turnRow 2 = .ok (.idiv, 1) := by decide +kernel
theorem dX1_turnRow_3 : decode cX1_turnRow 3 = .ok (.invokestatic 54, 3) := by decide +kernel
theorem dX1_turnRow_6 : decode cX1_turnRow 6 = .ok (.astore_n 1, 1) := by decide +kernel
theorem dX1_turnRow_7 : decode cX1_turnRow 7 = .ok (.iconst 0, 1) := by decide +kernel
theorem dX1_turnRow_8 : decode cX1_turnRow 8 = .ok (.istore_n 2, 1) := by decide +kernel
theorem dX1_turnRow_9 : decode cX1_turnRow 9 = .ok (.iload_n 2, 1) := by decide +kernel
theorem dX1_turnRow_10 : decode cX1_turnRow 10 = .ok (.iload_n 0, 1) := by decide +kernel
theorem dX1_turnRow_11 : decode cX1_turnRow 11 = .ok (.iconst 3, 1) := by decide +kernel
theorem dX1_turnRow_12 : decode cX1_turnRow 12 = .ok (.irem, 1) := by decide +kernel
theorem dX1_turnRow_13 : decode cX1_turnRow 13 = .ok (.if_icmp .ge 20, 3) := by decide +kernel
theorem dX1_turnRow_16 : decode cX1_turnRow 16 = .ok (.aload_n 1, 1) := by decide +kernel
theorem dX1_turnRow_17 : decode cX1_turnRow 17 = .ok (.iload_n 0, 1) := by decide +kernel
theorem dX1_turnRow_18 : decode cX1_turnRow 18 = .ok (.iconst 3, 1) := by decide +kernel
theorem dX1_turnRow_19 : decode cX1_turnRow 19 = .ok (.idiv, 1) := by decide +kernel
theorem dX1_turnRow_20 : decode cX1_turnRow 20 = .ok (.invokestatic 54, 3) := by decide +kernel
theorem dX1_turnRow_23 : decode cX1_turnRow 23 = .ok (.invokestatic 57, 3) := by decide +kernel
theorem dX1_turnRow_26 : decode cX1_turnRow 26 = .ok (.astore_n 1, 1) := by decide +kernel
theorem dX1_turnRow_27 : decode cX1_turnRow 27 = .ok (.iinc 2 1, 3) := by decide +kernel
theorem dX1_turnRow_30 : decode cX1_turnRow 30 = .ok (.goto (-21), 3) := by decide +kernel
theorem dX1_turnRow_33 : decode cX1_turnRow 33 = .ok (.aload_n 1, 1) := by decide +kernel
theorem dX1_turnRow_34 : decode cX1_turnRow 34 = .ok (.areturn, 1) := by decide +kernel
set_option maxRecDepth 20000 in
theorem ggX1_turned_X1_then : GoodIn wsX1_turned wsX1_then := goodIn_r _ [5, 6, 7, 8, 4, 9] (by decide +kernel) (by decide +kernel)
set_option maxRecDepth 20000 in
theorem gX1_turned_X1_then : GoodIn wsX1_turned (va_wsS RX1 57 yX1_then wsX1_then) := goodIn_app (goodIn_of _ (by decide +kernel)) ggX1_turned_X1_then
theorem dX1_turned_0 : decode cX1_turned 0 = .ok (.aload_n 1, 1) := by decide +kernel
theorem dX1_turned_1 : decode cX1_turned 1 = .ok (.aload_n 0, 1) := by decide +kernel
theorem dX1_turned_2 : decode cX1_turned 2 = .ok (.getfield 18, 3) := by decide +kernel
theorem dX1_turned_5 : decode cX1_turned 5 = .ok (.iload_n 2, 1) := by decide +kernel
theorem dX1_turned_6 : decode cX1_turned 6 = .ok (.aaload, 1) := by decide +kernel
theorem dX1_turned_7 : decode cX1_turned 7 = .ok (.invokestatic 57, 3) := by decide +kernel
theorem dX1_turned_10 : decode cX1_turned 10 = .ok (.areturn, 1) := by decide +kernel
set_option maxRecDepth 20000 in
theorem ggX1_rowOf_X1_right : GoodIn wsX1_rowOf wsX1_right := goodIn_r _ [6, 7] (by decide +kernel) (by decide +kernel)
set_option maxRecDepth 20000 in
theorem gX1_rowOf_X1_right : GoodIn wsX1_rowOf (va_wsS RX1 7 yX1_right wsX1_right) := goodIn_app (goodIn_of _ (by decide +kernel)) ggX1_rowOf_X1_right
set_option maxRecDepth 20000 in
theorem ggX1_rowOf_X1_turned : GoodIn wsX1_rowOf wsX1_turned := goodIn_r _ [11, 12, 13, 14, 5, 15, 7, 16, 17, 18, 19, 20, 21, 22, 23, 24, 25] (by decide +kernel) (by decide +kernel)
set_option maxRecDepth 20000 in
theorem gX1_rowOf_X1_turned : GoodIn wsX1_rowOf (wsV RX1 61 RX1 yX1_turned wsX1_turned) := goodIn_app (goodIn_of _ (by decide +kernel)) ggX1_rowOf_X1_turned
theorem dX1_rowOf_0 : decode cX1_rowOf 0 = .ok (.invokestatic 7, 3) := by decide +kernel
theorem dX1_rowOf_3 : decode cX1_rowOf 3 = .ok (.astore_n 2, 1) := by decide +kernel
theorem dX1_rowOf_4 : decode cX1_rowOf 4 = .ok (.iconst 0, 1) := by decide +kernel
theorem dX1_rowOf_5 : decode cX1_rowOf 5 = .ok (.istore_n 3, 1) := by decide +kernel
theorem dX1_rowOf_6 : decode cX1_rowOf 6 = .ok (.iload_n 3, 1) := by decide +kernel
theorem dX1_rowOf_7 : decode cX1_rowOf 7 = .ok (.aload_n 0, 1) := by decide +kernel
theorem dX1_rowOf_8 : decode cX1_rowOf 8 = .ok (.getfield 26, 3) := by decide +kernel
theorem dX1_rowOf_11 : decode cX1_rowOf 11 = .ok (.iload_n 1, 1) := by decide +kernel
theorem dX1_rowOf_12 : decode cX1_rowOf 12 = .ok (.iaload, 1) := by decide +kernel
theorem dX1_rowOf_13 : decode cX1_rowOf 13 = .ok (.if_icmp .ge 26, 3) := by decide +kernel
theorem dX1_rowOf_16 : decode cX1_rowOf 16 = .ok (.aload_n 0, 1) := by decide +kernel
theorem dX1_rowOf_17 : decode cX1_rowOf 17 = .ok (.aload_n 2, 1) := by decide +kernel
theorem dX1_rowOf_18 : decode cX1_rowOf 18 = .ok (.aload_n 0, 1) := by decide +kernel
theorem dX1_rowOf_19 : decode cX1_rowOf 19 = .ok (.getfield 29, 3) := by decide +kernel
theorem dX1_rowOf_22 : decode cX1_rowOf 22 = .ok (.bipush 12, 2) := by decide +kernel
theorem dX1_rowOf_24 : decode cX1_rowOf 24 = .ok (.iload_n 1, 1) := by decide +kernel
theorem dX1_rowOf_25 : decode cX1_rowOf 25 = .ok (.imul, 1) := by decide +kernel
theorem dX1_rowOf_26 : decode cX1_rowOf 26 = .ok (.iload_n 3, 1) := by decide +kernel
theorem dX1_rowOf_27 : decode cX1_rowOf 27 = .ok (.iadd, 1) := by decide +kernel
theorem dX1_rowOf_28 : decode cX1_rowOf 28 = .ok (.iaload, 1) := by decide +kernel
theorem dX1_rowOf_29 : decode cX1_rowOf 29 = .ok (.invokevirtual 61, 3) := by decide +kernel
theorem dX1_rowOf_32 : decode cX1_rowOf 32 = .ok (.astore_n 2, 1) := by decide +kernel
theorem dX1_rowOf_33 : decode cX1_rowOf 33 = .ok (.iinc 3 1, 3) := by decide +kernel
theorem dX1_rowOf_36 : decode cX1_rowOf 36 = .ok (.goto (-30), 3) := by decide +kernel
theorem dX1_rowOf_39 : decode cX1_rowOf 39 = .ok (.aload_n 2, 1) := by decide +kernel
theorem dX1_rowOf_40 : decode cX1_rowOf 40 = .ok (.areturn, 1) := by decide +kernel
theorem dX1_isRight_0 : decode cX1_isRight 0 = .ok (.aload_n 0, 1) := by decide +kernel
theorem dX1_isRight_1 : decode cX1_isRight 1 = .ok (.iload_n 1, 1) := by decide +kernel
theorem dX1_isRight_2 : decode cX1_isRight 2 = .ok (.iaload, 1) := by decide +kernel
theorem dX1_isRight_3 : decode cX1_isRight 3 = .ok (.iload_n 1, 1) := by decide +kernel
theorem dX1_isRight_4 : decode cX1_isRight 4 = .ok (.if_icmp .ne 16, 3) := by decide +kernel
theorem dX1_isRight_7 : decode cX1_isRight 7 = .ok (.aload_n 0, 1) := by decide +kernel
theorem dX1_isRight_8 : decode cX1_isRight 8 = .ok (.bipush 8, 2) := by decide +kernel
theorem dX1_isRight_10 : decode cX1_isRight 10 = .ok (.iload_n 1, 1) := by decide +kernel
theorem dX1_isRight_11 : decode cX1_isRight 11 = .ok (.iadd, 1) := by decide +kernel
theorem dX1_isRight_12 : decode cX1_isRight 12 = .ok (.iaload, 1) := by decide +kernel
theorem dX1_isRight_13 : decode cX1_isRight 13 = .ok (.ifCond .ne 7, 3) := by decide +kernel
theorem dX1_isRight_16 : decode cX1_isRight 16 = .ok (.iconst 1, 1) := by decide +kernel
theorem dX1_isRight_17 : decode cX1_isRight 17 = .ok (.goto 4, 3) := by decide +kernel
theorem dX1_isRight_20 : decode cX1_isRight 20 = .ok (.iconst 0, 1) := by decide +kernel
theorem dX1_isRight_21 : decode cX1_isRight 21 = .ok (.ireturn, 1) := by decide +kernel
theorem dX1_many_0 : decode cX1_many 0 = .ok (.iconst 0, 1) := by decide +kernel
theorem dX1_many_1 : decode cX1_many 1 = .ok (.istore_n 2, 1) := by decide +kernel
theorem dX1_many_2 : decode cX1_many 2 = .ok (.iconst 0, 1) := by decide +kernel
theorem dX1_many_3 : decode cX1_many 3 = .ok (.istore_n 3, 1) := by decide +kernel
theorem dX1_many_4 : decode cX1_many 4 = .ok (.iload_n 3, 1) := by decide +kernel
theorem dX1_many_5 : decode cX1_many 5 = .ok (.bipush 8, 2) := by decide +kernel
theorem dX1_many_7 : decode cX1_many 7 = .ok (.if_icmp .ge 43, 3) := by decide +kernel
theorem dX1_many_10 : decode cX1_many 10 = .ok (.iload_n 2, 1) := by decide +kernel
theorem dX1_many_11 : decode cX1_many 11 = .ok (.iload_n 1, 1) := by decide +kernel
theorem dX1_many_12 : decode cX1_many 12 = .ok (.iconst 3, 1) := by decide +kernel
theorem dX1_many_13 : decode cX1_many 13 = .ok (.if_icmp .eq 10, 3) := by decide +kernel
theorem dX1_many_16 : decode cX1_many 16 = .ok (.aload_n 0, 1) := by decide +kernel
theorem dX1_many_17 : decode cX1_many 17 = .ok (.iload_n 3, 1) := by decide +kernel
theorem dX1_many_18 : decode cX1_many 18 = .ok (.iaload, 1) := by decide +kernel
theorem dX1_many_19 : decode cX1_many 19 = .ok (.iload_n 3, 1) := by decide +kernel
theorem dX1_many_20 : decode cX1_many 20 = .ok (.if_icmp .ne 21, 3) := by decide +kernel
theorem dX1_many_23 : decode cX1_many 23 = .ok (.iload_n 1, 1) := by decide +kernel
theorem dX1_many_24 : decode cX1_many 24 = .ok (.iconst 2, 1) := by decide +kernel
theorem dX1_many_25 : decode cX1_many 25 = .ok (.if_icmp .eq 12, 3) := by decide +kernel
theorem dX1_many_28 : decode cX1_many 28 = .ok (.aload_n 0, 1) := by decide +kernel
theorem dX1_many_29 : decode cX1_many 29 = .ok (.bipush 8, 2) := by decide +kernel
theorem dX1_many_31 : decode cX1_many 31 = .ok (.iload_n 3, 1) := by decide +kernel
theorem dX1_many_32 : decode cX1_many 32 = .ok (.iadd, 1) := by decide +kernel
theorem dX1_many_33 : decode cX1_many 33 = .ok (.iaload, 1) := by decide +kernel
theorem dX1_many_34 : decode cX1_many 34 = .ok (.ifCond .ne 7, 3) := by decide +kernel
theorem dX1_many_37 : decode cX1_many 37 = .ok (.iconst 1, 1) := by decide +kernel
theorem dX1_many_38 : decode cX1_many 38 = .ok (.goto 4, 3) := by decide +kernel
theorem dX1_many_41 : decode cX1_many 41 = .ok (.iconst 0, 1) := by decide +kernel
theorem dX1_many_42 : decode cX1_many 42 = .ok (.iadd, 1) := by decide +kernel
theorem dX1_many_43 : decode cX1_many 43 = .ok (.istore_n 2, 1) := by decide +kernel
theorem dX1_many_44 : decode cX1_many 44 = .ok (.iinc 3 1, 3) := by decide +kernel
theorem dX1_many_47 : decode cX1_many 47 = .ok (.goto (-43), 3) := by decide +kernel
theorem dX1_many_50 : decode cX1_many 50 = .ok (.iload_n 2, 1) := by decide +kernel
theorem dX1_many_51 : decode cX1_many 51 = .ok (.ireturn, 1) := by decide +kernel
set_option maxRecDepth 20000 in
theorem ggX1_divisor_X1_divisor : GoodIn wsX1_divisor wsX1_divisor := goodIn_r _ [0, 1, 2, 3] (by decide +kernel) (by decide +kernel)
set_option maxRecDepth 20000 in
theorem gX1_divisor_X1_divisor : GoodIn wsX1_divisor (va_wsS RX1 65 yX1_divisor wsX1_divisor) := goodIn_app (goodIn_of _ (by decide +kernel)) ggX1_divisor_X1_divisor
theorem dX1_divisor_0 : decode cX1_divisor 0 = .ok (.iload_n 1, 1) := by decide +kernel
theorem dX1_divisor_1 : decode cX1_divisor 1 = .ok (.ifCond .ne 7, 3) := by decide +kernel
theorem dX1_divisor_4 : decode cX1_divisor 4 = .ok (.iload_n 0, 1) := by decide +kernel
theorem dX1_divisor_5 : decode cX1_divisor 5 = .ok (.goto 10, 3) := by decide +kernel
theorem dX1_divisor_8 : decode cX1_divisor 8 = .ok (.iload_n 1, 1) := by decide +kernel
theorem dX1_divisor_9 : decode cX1_divisor 9 = .ok (.iload_n 0, 1) := by decide +kernel
theorem dX1_divisor_10 : decode cX1_divisor 10 = .ok (.iload_n 1, 1) := by decide +kernel
theorem dX1_divisor_11 : decode cX1_divisor 11 = .ok (.irem, 1) := by decide +kernel
theorem dX1_divisor_12 : decode cX1_divisor 12 = .ok (.invokestatic 65, 3) := by decide +kernel
theorem dX1_divisor_15 : decode cX1_divisor 15 = .ok (.ireturn, 1) := by decide +kernel
set_option maxRecDepth 20000 in
theorem ggX1_byCycles_X1_divisor : GoodIn wsX1_byCycles wsX1_divisor := goodIn_r _ [8, 5, 6, 7] (by decide +kernel) (by decide +kernel)
set_option maxRecDepth 20000 in
theorem gX1_byCycles_X1_divisor : GoodIn wsX1_byCycles (va_wsS RX1 65 yX1_divisor wsX1_divisor) := goodIn_app (goodIn_of _ (by decide +kernel)) ggX1_byCycles_X1_divisor
theorem dX1_byCycles_0 : decode cX1_byCycles 0 = .ok (.iconst 1, 1) := by decide +kernel
theorem dX1_byCycles_1 : decode cX1_byCycles 1 = .ok (.istore_n 2, 1) := by decide +kernel
theorem dX1_byCycles_2 : decode cX1_byCycles 2 = .ok (.iconst 0, 1) := by decide +kernel
theorem dX1_byCycles_3 : decode cX1_byCycles 3 = .ok (.istore_n 3, 1) := by decide +kernel
theorem dX1_byCycles_4 : decode cX1_byCycles 4 = .ok (.iconst 0, 1) := by decide +kernel
theorem dX1_byCycles_5 : decode cX1_byCycles 5 = .ok (.istore 4, 2) := by decide +kernel
theorem dX1_byCycles_7 : decode cX1_byCycles 7 = .ok (.iload 4, 2) := by decide +kernel
theorem dX1_byCycles_9 : decode cX1_byCycles 9 = .ok (.bipush 8, 2) := by decide +kernel
theorem dX1_byCycles_11 : decode cX1_byCycles 11 = .ok (.if_icmp .ge 107, 3) := by decide +kernel
theorem dX1_byCycles_14 : decode cX1_byCycles 14 = .ok (.iconst 0, 1) := by decide +kernel
theorem dX1_byCycles_15 : decode cX1_byCycles 15 = .ok (.istore 5, 2) := by decide +kernel
theorem dX1_byCycles_17 : decode cX1_byCycles 17 = .ok (.iconst 0, 1) := by decide +kernel
theorem dX1_byCycles_18 : decode cX1_byCycles 18 = .ok (.istore 6, 2) := by decide +kernel
theorem dX1_byCycles_20 : decode cX1_byCycles 20 = .ok (.iload 4, 2) := by decide +kernel
theorem dX1_byCycles_22 : decode cX1_byCycles 22 = .ok (.istore 7, 2) := by decide +kernel
theorem dX1_byCycles_24 : decode cX1_byCycles 24 = .ok (.iload 4, 2) := by decide +kernel
theorem dX1_byCycles_26 : decode cX1_byCycles 26 = .ok (.istore 8, 2) := by decide +kernel
theorem dX1_byCycles_28 : decode cX1_byCycles 28 = .ok (.iload 7, 2) := by decide +kernel
theorem dX1_byCycles_30 : decode cX1_byCycles 30 = .ok (.iload 8, 2) := by decide +kernel
theorem dX1_byCycles_32 : decode cX1_byCycles 32 = .ok (.invokestatic 69, 3) := by decide +kernel
theorem dX1_byCycles_35 : decode cX1_byCycles 35 = .ok (.istore 7, 2) := by decide +kernel
theorem dX1_byCycles_37 : decode cX1_byCycles 37 = .ok (.iload 6, 2) := by decide +kernel
theorem dX1_byCycles_39 : decode cX1_byCycles 39 = .ok (.aload_n 0, 1) := by decide +kernel
theorem dX1_byCycles_40 : decode cX1_byCycles 40 = .ok (.bipush 8, 2) := by decide +kernel
theorem dX1_byCycles_42 : decode cX1_byCycles 42 = .ok (.iload 8, 2) := by decide +kernel
theorem dX1_byCycles_44 : decode cX1_byCycles 44 = .ok (.iadd, 1) := by decide +kernel
theorem dX1_byCycles_45 : decode cX1_byCycles 45 = .ok (.iaload, 1) := by decide +kernel
theorem dX1_byCycles_46 : decode cX1_byCycles 46 = .ok (.iadd, 1) := by decide +kernel
theorem dX1_byCycles_47 : decode cX1_byCycles 47 = .ok (.istore 6, 2) := by decide +kernel
theorem dX1_byCycles_49 : decode cX1_byCycles 49 = .ok (.iinc 5 1, 3) := by decide +kernel
theorem dX1_byCycles_52 : decode cX1_byCycles 52 = .ok (.aload_n 0, 1) := by decide +kernel
theorem dX1_byCycles_53 : decode cX1_byCycles 53 = .ok (.iload 8, 2) := by decide +kernel
theorem dX1_byCycles_55 : decode cX1_byCycles 55 = .ok (.iaload, 1) := by decide +kernel
theorem dX1_byCycles_56 : decode cX1_byCycles 56 = .ok (.istore 8, 2) := by decide +kernel
theorem dX1_byCycles_58 : decode cX1_byCycles 58 = .ok (.iload 8, 2) := by decide +kernel
theorem dX1_byCycles_60 : decode cX1_byCycles 60 = .ok (.iload 4, 2) := by decide +kernel
theorem dX1_byCycles_62 : decode cX1_byCycles 62 = .ok (.if_icmp .ne (-34), 3) := by decide +kernel
theorem dX1_byCycles_65 : decode cX1_byCycles 65 = .ok (.iload 7, 2) := by decide +kernel
theorem dX1_byCycles_67 : decode cX1_byCycles 67 = .ok (.iload 4, 2) := by decide +kernel
theorem dX1_byCycles_69 : decode cX1_byCycles 69 = .ok (.if_icmp .ge 6, 3) := by decide +kernel
theorem dX1_byCycles_72 : decode cX1_byCycles 72 = .ok (.goto 40, 3) := by decide +kernel
theorem dX1_byCycles_75 : decode cX1_byCycles 75 = .ok (.iload 6, 2) := by decide +kernel
theorem dX1_byCycles_77 : decode cX1_byCycles 77 = .ok (.iconst 3, 1) := by decide +kernel
theorem dX1_byCycles_78 : decode cX1_byCycles 78 = .ok (.irem, 1) := by decide +kernel
theorem dX1_byCycles_79 : decode cX1_byCycles 79 = .ok (.ifCond .ne 8, 3) := by decide +kernel
theorem dX1_byCycles_82 : decode cX1_byCycles 82 = .ok (.iload 5, 2) := by decide +kernel
theorem dX1_byCycles_84 : decode cX1_byCycles 84 = .ok (.goto 7, 3) := by decide +kernel
theorem dX1_byCycles_87 : decode cX1_byCycles 87 = .ok (.iconst 3, 1) := by decide +kernel
theorem dX1_byCycles_88 : decode cX1_byCycles 88 = .ok (.iload 5, 2) := by decide +kernel
theorem dX1_byCycles_90 : decode cX1_byCycles 90 = .ok (.imul, 1) := by decide +kernel
theorem dX1_byCycles_91 : decode cX1_byCycles 91 = .ok (.istore 9, 2) := by decide +kernel
theorem dX1_byCycles_93 : decode cX1_byCycles 93 = .ok (.iload_n 2, 1) := by decide +kernel
theorem dX1_byCycles_94 : decode cX1_byCycles 94 = .ok (.iload_n 2, 1) := by decide +kernel
theorem dX1_byCycles_95 : decode cX1_byCycles 95 = .ok (.iload 9, 2) := by decide +kernel
theorem dX1_byCycles_97 : decode cX1_byCycles 97 = .ok (.invokestatic 65, 3) := by decide +kernel
theorem dX1_byCycles_100 : decode cX1_byCycles 100 = .ok (.idiv, 1) := by decide +kernel
theorem dX1_byCycles_101 : decode cX1_byCycles 101 = .ok (.iload 9, 2) := by decide +kernel
theorem dX1_byCycles_103 : decode cX1_byCycles 103 = .ok (.imul, 1) := by decide +kernel
theorem dX1_byCycles_104 : decode cX1_byCycles 104 = .ok (.istore_n 2, 1) := by decide +kernel
theorem dX1_byCycles_105 : decode cX1_byCycles 105 = .ok (.iload_n 3, 1) := by decide +kernel
theorem dX1_byCycles_106 : decode cX1_byCycles 106 = .ok (.iload 5, 2) := by decide +kernel
theorem dX1_byCycles_108 : decode cX1_byCycles 108 = .ok (.iconst 1, 1) := by decide +kernel
theorem dX1_byCycles_109 : decode cX1_byCycles 109 = .ok (.isub, 1) := by decide +kernel
theorem dX1_byCycles_110 : decode cX1_byCycles 110 = .ok (.iadd, 1) := by decide +kernel
theorem dX1_byCycles_111 : decode cX1_byCycles 111 = .ok (.istore_n 3, 1) := by decide +kernel
theorem dX1_byCycles_112 : decode cX1_byCycles 112 = .ok (.iinc 4 1, 3) := by decide +kernel
theorem dX1_byCycles_115 : decode cX1_byCycles 115 = .ok (.goto (-108), 3) := by decide +kernel
theorem dX1_byCycles_118 : decode cX1_byCycles 118 = .ok (.iload_n 1, 1) := by decide +kernel
theorem dX1_byCycles_119 : decode cX1_byCycles 119 = .ok (.ifCond .eq 9, 3) := by decide +kernel
theorem dX1_byCycles_122 : decode cX1_byCycles 122 = .ok (.iload_n 3, 1) := by decide +kernel
theorem dX1_byCycles_123 : decode cX1_byCycles 123 = .ok (.iconst 2, 1) := by decide +kernel
theorem dX1_byCycles_124 : decode cX1_byCycles 124 = .ok (.irem, 1) := by decide +kernel
theorem dX1_byCycles_125 : decode cX1_byCycles 125 = .ok (.goto 4, 3) := by decide +kernel
theorem dX1_byCycles_128 : decode cX1_byCycles 128 = .ok (.iload_n 2, 1) := by decide +kernel
theorem dX1_byCycles_129 : decode cX1_byCycles 129 = .ok (.ireturn, 1) := by decide +kernel
set_option maxRecDepth 20000 in
theorem ggX1_comes_X1_many : GoodIn wsX1_comes wsX1_many := goodIn_r _ [6] (by decide +kernel) (by decide +kernel)
set_option maxRecDepth 20000 in
theorem gX1_comes_X1_many : GoodIn wsX1_comes (va_wsS RX1 74 yX1_many wsX1_many) := goodIn_app (goodIn_of _ (by decide +kernel)) ggX1_comes_X1_many
set_option maxRecDepth 20000 in
theorem ggX1_comes_X1_into : GoodIn wsX1_comes wsX1_into := goodIn_r _ [9] (by decide +kernel) (by decide +kernel)
set_option maxRecDepth 20000 in
theorem gX1_comes_X1_into : GoodIn wsX1_comes (va_wsS RX1 44 yX1_into wsX1_into) := goodIn_app (goodIn_of _ (by decide +kernel)) ggX1_comes_X1_into
set_option maxRecDepth 20000 in
theorem ggX1_comes_X1_comes : GoodIn wsX1_comes wsX1_comes := goodIn_r _ [0, 1, 2, 3, 4, 5, 6, 7, 8, 9, 10, 11, 12, 13, 14, 15, 16, 17, 18, 19] (by decide +kernel) (by decide +kernel)
set_option maxRecDepth 20000 in
theorem gX1_comes_X1_comes : GoodIn wsX1_comes (wsV RX1 78 RX1 yX1_comes wsX1_comes) := goodIn_app (goodIn_of _ (by decide +kernel)) ggX1_comes_X1_comes
theorem dX1_comes_0 : decode cX1_comes 0 = .ok (.iload_n 2, 1) := by decide +kernel
theorem dX1_comes_1 : decode cX1_comes 1 = .ok (.ifCond .ne 19, 3) := by decide +kernel
theorem dX1_comes_4 : decode cX1_comes 4 = .ok (.aload_n 1, 1) := by decide +kernel
theorem dX1_comes_5 : decode cX1_comes 5 = .ok (.iconst 1, 1) := by decide +kernel
theorem dX1_comes_6 : decode cX1_comes 6 = .ok (.invokestatic 74, 3) := by decide +kernel
theorem dX1_comes_9 : decode cX1_comes 9 = .ok (.bipush 8, 2) := by decide +kernel
theorem dX1_comes_11 : decode cX1_comes 11 = .ok (.if_icmp .ne 7, 3) := by decide +kernel
theorem dX1_comes_14 : decode cX1_comes 14 = .ok (.iconst 1, 1) := by decide +kernel
theorem dX1_comes_15 : decode cX1_comes 15 = .ok (.goto 4, 3) := by decide +kernel
theorem dX1_comes_18 : decode cX1_comes 18 = .ok (.iconst 0, 1) := by decide +kernel
theorem dX1_comes_19 : decode cX1_comes 19 = .ok (.ireturn, 1) := by decide +kernel
theorem dX1_comes_20 : decode cX1_comes 20 = .ok (.iconst 0, 1) := by decide +kernel
theorem dX1_comes_21 : decode cX1_comes 21 = .ok (.istore 4, 2) := by decide +kernel
theorem dX1_comes_23 : decode cX1_comes 23 = .ok (.iload 4, 2) := by decide +kernel
theorem dX1_comes_25 : decode cX1_comes 25 = .ok (.bipush 9, 2) := by decide +kernel
theorem dX1_comes_27 : decode cX1_comes 27 = .ok (.if_icmp .ge 50, 3) := by decide +kernel
theorem dX1_comes_30 : decode cX1_comes 30 = .ok (.iload 4, 2) := by decide +kernel
theorem dX1_comes_32 : decode cX1_comes 32 = .ok (.iconst 3, 1) := by decide +kernel
theorem dX1_comes_33 : decode cX1_comes 33 = .ok (.idiv, 1) := by decide +kernel
theorem dX1_comes_34 : decode cX1_comes 34 = .ok (.iload_n 3, 1) := by decide +kernel
theorem dX1_comes_35 : decode cX1_comes 35 = .ok (.if_icmp .eq 36, 3) := by decide +kernel
theorem dX1_comes_38 : decode cX1_comes 38 = .ok (.aload_n 0, 1) := by decide +kernel
theorem dX1_comes_39 : decode cX1_comes 39 = .ok (.aload_n 1, 1) := by decide +kernel
theorem dX1_comes_40 : decode cX1_comes 40 = .ok (.aload_n 0, 1) := by decide +kernel
theorem dX1_comes_41 : decode cX1_comes 41 = .ok (.getfield 18, 3) := by decide +kernel
theorem dX1_comes_44 : decode cX1_comes 44 = .ok (.iload 4, 2) := by decide +kernel
theorem dX1_comes_46 : decode cX1_comes 46 = .ok (.aaload, 1) := by decide +kernel
theorem dX1_comes_47 : decode cX1_comes 47 = .ok (.aload_n 0, 1) := by decide +kernel
theorem dX1_comes_48 : decode cX1_comes 48 = .ok (.getfield 23, 3) := by decide +kernel
theorem dX1_comes_51 : decode cX1_comes 51 = .ok (.iload_n 2, 1) := by decide +kernel
theorem dX1_comes_52 : decode cX1_comes 52 = .ok (.aaload, 1) := by decide +kernel
theorem dX1_comes_53 : decode cX1_comes 53 = .ok (.invokestatic 44, 3) := by decide +kernel
theorem dX1_comes_56 : decode cX1_comes 56 = .ok (.iload_n 2, 1) := by decide +kernel
theorem dX1_comes_57 : decode cX1_comes 57 = .ok (.iconst 1, 1) := by decide +kernel
theorem dX1_comes_58 : decode cX1_comes 58 = .ok (.isub, 1) := by decide +kernel
theorem dX1_comes_59 : decode cX1_comes 59 = .ok (.iload 4, 2) := by decide +kernel
theorem dX1_comes_61 : decode cX1_comes 61 = .ok (.iconst 3, 1) := by decide +kernel
theorem dX1_comes_62 : decode cX1_comes 62 = .ok (.idiv, 1) := by decide +kernel
theorem dX1_comes_63 : decode cX1_comes 63 = .ok (.invokevirtual 78, 3) := by decide +kernel
theorem dX1_comes_66 : decode cX1_comes 66 = .ok (.ifCond .eq 5, 3) := by decide +kernel
theorem dX1_comes_69 : decode cX1_comes 69 = .ok (.iconst 1, 1) := by decide +kernel
theorem dX1_comes_70 : decode cX1_comes 70 = .ok (.ireturn, 1) := by decide +kernel
theorem dX1_comes_71 : decode cX1_comes 71 = .ok (.iinc 4 1, 3) := by decide +kernel
theorem dX1_comes_74 : decode cX1_comes 74 = .ok (.goto (-51), 3) := by decide +kernel
theorem dX1_comes_77 : decode cX1_comes 77 = .ok (.iconst 0, 1) := by decide +kernel
theorem dX1_comes_78 : decode cX1_comes 78 = .ok (.ireturn, 1) := by decide +kernel
set_option maxRecDepth 20000 in
theorem ggX1_farOf_X1_comes : GoodIn wsX1_farOf wsX1_comes := goodIn_r _ [5, 6, 7, 8, 9, 4, 10, 11, 12, 13, 1, 2, 3, 14, 15, 16, 17, 18, 19, 20] (by decide +kernel) (by decide +kernel)
set_option maxRecDepth 20000 in
theorem gX1_farOf_X1_comes : GoodIn wsX1_farOf (wsV RX1 78 RX1 yX1_comes wsX1_comes) := goodIn_app (goodIn_of _ (by decide +kernel)) ggX1_farOf_X1_comes
theorem dX1_farOf_0 : decode cX1_farOf 0 = .ok (.iconst 0, 1) := by decide +kernel
theorem dX1_farOf_1 : decode cX1_farOf 1 = .ok (.istore_n 3, 1) := by decide +kernel
theorem dX1_farOf_2 : decode cX1_farOf 2 = .ok (.iload_n 3, 1) := by decide +kernel
theorem dX1_farOf_3 : decode cX1_farOf 3 = .ok (.iload_n 2, 1) := by decide +kernel
theorem dX1_farOf_4 : decode cX1_farOf 4 = .ok (.if_icmp .gt 21, 3) := by decide +kernel
theorem dX1_farOf_7 : decode cX1_farOf 7 = .ok (.aload_n 0, 1) := by decide +kernel
theorem dX1_farOf_8 : decode cX1_farOf 8 = .ok (.aload_n 1, 1) := by decide +kernel
theorem dX1_farOf_9 : decode cX1_farOf 9 = .ok (.iload_n 3, 1) := by decide +kernel
theorem dX1_farOf_10 : decode cX1_farOf 10 = .ok (.iconst (-1), 1) := by decide +kernel
theorem dX1_farOf_11 : decode cX1_farOf 11 = .ok (.invokevirtual 78, 3) := by decide +kernel
theorem dX1_farOf_14 : decode cX1_farOf 14 = .ok (.ifCond .eq 5, 3) := by decide +kernel
theorem dX1_farOf_17 : decode cX1_farOf 17 = .ok (.iload_n 3, 1) := by decide +kernel
theorem dX1_farOf_18 : decode cX1_farOf 18 = .ok (.ireturn, 1) := by decide +kernel
theorem dX1_farOf_19 : decode cX1_farOf 19 = .ok (.iinc 3 1, 3) := by decide +kernel
theorem dX1_farOf_22 : decode cX1_farOf 22 = .ok (.goto (-20), 3) := by decide +kernel
theorem dX1_farOf_25 : decode cX1_farOf 25 = .ok (.iconst (-1), 1) := by decide +kernel
theorem dX1_farOf_26 : decode cX1_farOf 26 = .ok (.ireturn, 1) := by decide +kernel
set_option maxRecDepth 20000 in
theorem ggX1_turn_X1_isIn : GoodIn wsX1_turn wsX1_isIn := goodIn_r _ [7] (by decide +kernel) (by decide +kernel)
set_option maxRecDepth 20000 in
theorem gX1_turn_X1_isIn : GoodIn wsX1_turn (va_wsS RX1 40 yX1_isIn wsX1_isIn) := goodIn_app (goodIn_of _ (by decide +kernel)) ggX1_turn_X1_isIn
set_option maxRecDepth 20000 in
theorem ggX1_turn_X1_no : GoodIn wsX1_turn wsX1_no := goodIn_r _ [11, 1, 27, 28, 29, 30, 31, 32, 33] (by decide +kernel) (by decide +kernel)
set_option maxRecDepth 20000 in
theorem gX1_turn_X1_no : GoodIn wsX1_turn (wsV RX1 82 RX1 yX1_no wsX1_no) := goodIn_app (goodIn_of _ (by decide +kernel)) ggX1_turn_X1_no
set_option maxRecDepth 20000 in
theorem ggX1_turn_X1_turned : GoodIn wsX1_turn wsX1_turned := goodIn_r _ [15, 16, 17, 18, 6, 19, 20, 21, 22, 23, 27, 28, 29, 30, 31, 32, 33] (by decide +kernel) (by decide +kernel)
set_option maxRecDepth 20000 in
theorem gX1_turn_X1_turned : GoodIn wsX1_turn (wsV RX1 61 RX1 yX1_turned wsX1_turned) := goodIn_app (goodIn_of _ (by decide +kernel)) ggX1_turn_X1_turned
set_option maxRecDepth 20000 in
theorem ggX1_turn_X1_many : GoodIn wsX1_turn wsX1_many := goodIn_r _ [26] (by decide +kernel) (by decide +kernel)
set_option maxRecDepth 20000 in
theorem gX1_turn_X1_many : GoodIn wsX1_turn (va_wsS RX1 74 yX1_many wsX1_many) := goodIn_app (goodIn_of _ (by decide +kernel)) ggX1_turn_X1_many
theorem dX1_turn_0 : decode cX1_turn 0 = .ok (.aload_n 0, 1) := by decide +kernel
theorem dX1_turn_1 : decode cX1_turn 1 = .ok (.iconst 0, 1) := by decide +kernel
theorem dX1_turn_2 : decode cX1_turn 2 = .ok (.putfield 36, 3) := by decide +kernel
theorem dX1_turn_5 : decode cX1_turn 5 = .ok (.iload_n 1, 1) := by decide +kernel
theorem dX1_turn_6 : decode cX1_turn 6 = .ok (.iconst 0, 1) := by decide +kernel
theorem dX1_turn_7 : decode cX1_turn 7 = .ok (.iconst 2, 1) := by decide +kernel
theorem dX1_turn_8 : decode cX1_turn 8 = .ok (.invokestatic 40, 3) := by decide +kernel
theorem dX1_turn_11 : decode cX1_turn 11 = .ok (.ifCond .ne 9, 3) := by decide +kernel
theorem dX1_turn_14 : decode cX1_turn 14 = .ok (.aload_n 0, 1) := by decide +kernel
theorem dX1_turn_15 : decode cX1_turn 15 = .ok (.iconst 1, 1) := by decide +kernel
theorem dX1_turn_16 : decode cX1_turn 16 = .ok (.invokevirtual 82, 3) := by decide +kernel
theorem dX1_turn_19 : decode cX1_turn 19 = .ok (.ireturn, 1) := by decide +kernel
theorem dX1_turn_20 : decode cX1_turn 20 = .ok (.iload_n 2, 1) := by decide +kernel
theorem dX1_turn_21 : decode cX1_turn 21 = .ok (.iconst 1, 1) := by decide +kernel
theorem dX1_turn_22 : decode cX1_turn 22 = .ok (.iconst 3, 1) := by decide +kernel
theorem dX1_turn_23 : decode cX1_turn 23 = .ok (.invokestatic 40, 3) := by decide +kernel
theorem dX1_turn_26 : decode cX1_turn 26 = .ok (.ifCond .ne 9, 3) := by decide +kernel
theorem dX1_turn_29 : decode cX1_turn 29 = .ok (.aload_n 0, 1) := by decide +kernel
theorem dX1_turn_30 : decode cX1_turn 30 = .ok (.iconst 2, 1) := by decide +kernel
theorem dX1_turn_31 : decode cX1_turn 31 = .ok (.invokevirtual 82, 3) := by decide +kernel
theorem dX1_turn_34 : decode cX1_turn 34 = .ok (.ireturn, 1) := by decide +kernel
theorem dX1_turn_35 : decode cX1_turn 35 = .ok (.aload_n 0, 1) := by decide +kernel
theorem dX1_turn_36 : decode cX1_turn 36 = .ok (.aload_n 0, 1) := by decide +kernel
theorem dX1_turn_37 : decode cX1_turn 37 = .ok (.aload_n 0, 1) := by decide +kernel
theorem dX1_turn_38 : decode cX1_turn 38 = .ok (.getfield 13, 3) := by decide +kernel
theorem dX1_turn_41 : decode cX1_turn 41 = .ok (.iconst 3, 1) := by decide +kernel
theorem dX1_turn_42 : decode cX1_turn 42 = .ok (.iload_n 1, 1) := by decide +kernel
theorem dX1_turn_43 : decode cX1_turn 43 = .ok (.imul, 1) := by decide +kernel
theorem dX1_turn_44 : decode cX1_turn 44 = .ok (.iload_n 2, 1) := by decide +kernel
theorem dX1_turn_45 : decode cX1_turn 45 = .ok (.iadd, 1) := by decide +kernel
theorem dX1_turn_46 : decode cX1_turn 46 = .ok (.iconst 1, 1) := by decide +kernel
theorem dX1_turn_47 : decode cX1_turn 47 = .ok (.isub, 1) := by decide +kernel
theorem dX1_turn_48 : decode cX1_turn 48 = .ok (.invokevirtual 61, 3) := by decide +kernel
theorem dX1_turn_51 : decode cX1_turn 51 = .ok (.putfield 13, 3) := by decide +kernel
theorem dX1_turn_54 : decode cX1_turn 54 = .ok (.aload_n 0, 1) := by decide +kernel
theorem dX1_turn_55 : decode cX1_turn 55 = .ok (.dup, 1) := by decide +kernel
theorem dX1_turn_56 : decode cX1_turn 56 = .ok (.getfield 86, 3) := by decide +kernel
theorem dX1_turn_59 : decode cX1_turn 59 = .ok (.iconst 1, 1) := by decide +kernel
theorem dX1_turn_60 : decode cX1_turn 60 = .ok (.iadd, 1) := by decide +kernel
theorem dX1_turn_61 : decode cX1_turn 61 = .ok (.putfield 86, 3) := by decide +kernel
theorem dX1_turn_64 : decode cX1_turn 64 = .ok (.aload_n 0, 1) := by decide +kernel
theorem dX1_turn_65 : decode cX1_turn 65 = .ok (.getfield 13, 3) := by decide +kernel
theorem dX1_turn_68 : decode cX1_turn 68 = .ok (.iconst 1, 1) := by decide +kernel
theorem dX1_turn_69 : decode cX1_turn 69 = .ok (.invokestatic 74, 3) := by decide +kernel
theorem dX1_turn_72 : decode cX1_turn 72 = .ok (.ireturn, 1) := by decide +kernel
set_option maxRecDepth 20000 in
theorem ggX1_play_X1_isWord : GoodIn wsX1_play wsX1_isWord := goodIn_r _ [8, 9, 10, 7, 11] (by decide +kernel) (by decide +kernel)
set_option maxRecDepth 20000 in
theorem gX1_play_X1_isWord : GoodIn wsX1_play (va_wsS RX1 89 yX1_isWord wsX1_isWord) := goodIn_app (goodIn_of _ (by decide +kernel)) ggX1_play_X1_isWord
set_option maxRecDepth 20000 in
theorem ggX1_play_X1_no : GoodIn wsX1_play wsX1_no := goodIn_r _ [15, 1, 39, 40, 41, 42, 43, 44, 45] (by decide +kernel) (by decide +kernel)
set_option maxRecDepth 20000 in
theorem gX1_play_X1_no : GoodIn wsX1_play (wsV RX1 82 RX1 yX1_no wsX1_no) := goodIn_app (goodIn_of _ (by decide +kernel)) ggX1_play_X1_no
set_option maxRecDepth 20000 in
theorem ggX1_play_X1_isIn : GoodIn wsX1_play wsX1_isIn := goodIn_r _ [11] (by decide +kernel) (by decide +kernel)
set_option maxRecDepth 20000 in
theorem gX1_play_X1_isIn : GoodIn wsX1_play (va_wsS RX1 40 yX1_isIn wsX1_isIn) := goodIn_app (goodIn_of _ (by decide +kernel)) ggX1_play_X1_isIn
set_option maxRecDepth 20000 in
theorem ggX1_play_X1_rowOf : GoodIn wsX1_play wsX1_rowOf := goodIn_r _ [19, 2, 20, 21, 22, 7, 23, 24, 25, 26, 27, 28, 29, 30, 31, 32, 33, 34, 35, 39, 40, 41, 42, 43, 44, 45] (by decide +kernel) (by decide +kernel)
set_option maxRecDepth 20000 in
theorem gX1_play_X1_rowOf : GoodIn wsX1_play (wsV RX1 93 RX1 yX1_rowOf wsX1_rowOf) := goodIn_app (goodIn_of _ (by decide +kernel)) ggX1_play_X1_rowOf
set_option maxRecDepth 20000 in
theorem ggX1_play_X1_then : GoodIn wsX1_play wsX1_then := goodIn_r _ [32, 24, 33, 34, 7, 35] (by decide +kernel) (by decide +kernel)
set_option maxRecDepth 20000 in
theorem gX1_play_X1_then : GoodIn wsX1_play (va_wsS RX1 57 yX1_then wsX1_then) := goodIn_app (goodIn_of _ (by decide +kernel)) ggX1_play_X1_then
set_option maxRecDepth 20000 in
theorem ggX1_play_X1_many : GoodIn wsX1_play wsX1_many := goodIn_r _ [38] (by decide +kernel) (by decide +kernel)
set_option maxRecDepth 20000 in
theorem gX1_play_X1_many : GoodIn wsX1_play (va_wsS RX1 74 yX1_many wsX1_many) := goodIn_app (goodIn_of _ (by decide +kernel)) ggX1_play_X1_many
theorem dX1_play_0 : decode cX1_play 0 = .ok (.aload_n 0, 1) := by decide +kernel
theorem dX1_play_1 : decode cX1_play 1 = .ok (.iconst 0, 1) := by decide +kernel
theorem dX1_play_2 : decode cX1_play 2 = .ok (.putfield 36, 3) := by decide +kernel
theorem dX1_play_5 : decode cX1_play 5 = .ok (.iload_n 1, 1) := by decide +kernel
theorem dX1_play_6 : decode cX1_play 6 = .ok (.invokestatic 89, 3) := by decide +kernel
theorem dX1_play_9 : decode cX1_play 9 = .ok (.ifCond .ne 9, 3) := by decide +kernel
theorem dX1_play_12 : decode cX1_play 12 = .ok (.aload_n 0, 1) := by decide +kernel
theorem dX1_play_13 : decode cX1_play 13 = .ok (.iconst 1, 1) := by decide +kernel
theorem dX1_play_14 : decode cX1_play 14 = .ok (.invokevirtual 82, 3) := by decide +kernel
theorem dX1_play_17 : decode cX1_play 17 = .ok (.ireturn, 1) := by decide +kernel
theorem dX1_play_18 : decode cX1_play 18 = .ok (.iload_n 2, 1) := by decide +kernel
theorem dX1_play_19 : decode cX1_play 19 = .ok (.iconst 1, 1) := by decide +kernel
theorem dX1_play_20 : decode cX1_play 20 = .ok (.bipush 50, 2) := by decide +kernel
theorem dX1_play_22 : decode cX1_play 22 = .ok (.invokestatic 40, 3) := by decide +kernel
theorem dX1_play_25 : decode cX1_play 25 = .ok (.ifCond .ne 9, 3) := by decide +kernel
theorem dX1_play_28 : decode cX1_play 28 = .ok (.aload_n 0, 1) := by decide +kernel
theorem dX1_play_29 : decode cX1_play 29 = .ok (.iconst 2, 1) := by decide +kernel
theorem dX1_play_30 : decode cX1_play 30 = .ok (.invokevirtual 82, 3) := by decide +kernel
theorem dX1_play_33 : decode cX1_play 33 = .ok (.ireturn, 1) := by decide +kernel
theorem dX1_play_34 : decode cX1_play 34 = .ok (.aload_n 0, 1) := by decide +kernel
theorem dX1_play_35 : decode cX1_play 35 = .ok (.getfield 26, 3) := by decide +kernel
theorem dX1_play_38 : decode cX1_play 38 = .ok (.iload_n 1, 1) := by decide +kernel
theorem dX1_play_39 : decode cX1_play 39 = .ok (.iaload, 1) := by decide +kernel
theorem dX1_play_40 : decode cX1_play 40 = .ok (.ifCond .ne 9, 3) := by decide +kernel
theorem dX1_play_43 : decode cX1_play 43 = .ok (.aload_n 0, 1) := by decide +kernel
theorem dX1_play_44 : decode cX1_play 44 = .ok (.iconst 3, 1) := by decide +kernel
theorem dX1_play_45 : decode cX1_play 45 = .ok (.invokevirtual 82, 3) := by decide +kernel
theorem dX1_play_48 : decode cX1_play 48 = .ok (.ireturn, 1) := by decide +kernel
theorem dX1_play_49 : decode cX1_play 49 = .ok (.iconst 0, 1) := by decide +kernel
theorem dX1_play_50 : decode cX1_play 50 = .ok (.istore_n 3, 1) := by decide +kernel
theorem dX1_play_51 : decode cX1_play 51 = .ok (.iload_n 3, 1) := by decide +kernel
theorem dX1_play_52 : decode cX1_play 52 = .ok (.iload_n 2, 1) := by decide +kernel
theorem dX1_play_53 : decode cX1_play 53 = .ok (.if_icmp .ge 25, 3) := by decide +kernel
theorem dX1_play_56 : decode cX1_play 56 = .ok (.aload_n 0, 1) := by decide +kernel
theorem dX1_play_57 : decode cX1_play 57 = .ok (.aload_n 0, 1) := by decide +kernel
theorem dX1_play_58 : decode cX1_play 58 = .ok (.getfield 13, 3) := by decide +kernel
theorem dX1_play_61 : decode cX1_play 61 = .ok (.aload_n 0, 1) := by decide +kernel
theorem dX1_play_62 : decode cX1_play 62 = .ok (.iload_n 1, 1) := by decide +kernel
theorem dX1_play_63 : decode cX1_play 63 = .ok (.invokevirtual 93, 3) := by decide +kernel
theorem dX1_play_66 : decode cX1_play 66 = .ok (.invokestatic 57, 3) := by decide +kernel
theorem dX1_play_69 : decode cX1_play 69 = .ok (.putfield 13, 3) := by decide +kernel
theorem dX1_play_72 : decode cX1_play 72 = .ok (.iinc 3 1, 3) := by decide +kernel
theorem dX1_play_75 : decode cX1_play 75 = .ok (.goto (-24), 3) := by decide +kernel
theorem dX1_play_78 : decode cX1_play 78 = .ok (.aload_n 0, 1) := by decide +kernel
theorem dX1_play_79 : decode cX1_play 79 = .ok (.dup, 1) := by decide +kernel
theorem dX1_play_80 : decode cX1_play 80 = .ok (.getfield 86, 3) := by decide +kernel
theorem dX1_play_83 : decode cX1_play 83 = .ok (.iload_n 2, 1) := by decide +kernel
theorem dX1_play_84 : decode cX1_play 84 = .ok (.aload_n 0, 1) := by decide +kernel
theorem dX1_play_85 : decode cX1_play 85 = .ok (.getfield 26, 3) := by decide +kernel
theorem dX1_play_88 : decode cX1_play 88 = .ok (.iload_n 1, 1) := by decide +kernel
theorem dX1_play_89 : decode cX1_play 89 = .ok (.iaload, 1) := by decide +kernel
theorem dX1_play_90 : decode cX1_play 90 = .ok (.imul, 1) := by decide +kernel
theorem dX1_play_91 : decode cX1_play 91 = .ok (.iadd, 1) := by decide +kernel
theorem dX1_play_92 : decode cX1_play 92 = .ok (.putfield 86, 3) := by decide +kernel
theorem dX1_play_95 : decode cX1_play 95 = .ok (.aload_n 0, 1) := by decide +kernel
theorem dX1_play_96 : decode cX1_play 96 = .ok (.getfield 13, 3) := by decide +kernel
theorem dX1_play_99 : decode cX1_play 99 = .ok (.iconst 1, 1) := by decide +kernel
theorem dX1_play_100 : decode cX1_play 100 = .ok (.invokestatic 74, 3) := by decide +kernel
theorem dX1_play_103 : decode cX1_play 103 = .ok (.ireturn, 1) := by decide +kernel
set_option maxRecDepth 20000 in
theorem ggX1_reset_X1_many : GoodIn wsX1_reset wsX1_many := goodIn_r _ [6] (by decide +kernel) (by decide +kernel)
set_option maxRecDepth 20000 in
theorem gX1_reset_X1_many : GoodIn wsX1_reset (va_wsS RX1 74 yX1_many wsX1_many) := goodIn_app (goodIn_of _ (by decide +kernel)) ggX1_reset_X1_many
set_option maxRecDepth 20000 in
theorem ggX1_reset_X1_right : GoodIn wsX1_reset wsX1_right := goodIn_r _ [9, 10] (by decide +kernel) (by decide +kernel)
set_option maxRecDepth 20000 in
theorem gX1_reset_X1_right : GoodIn wsX1_reset (va_wsS RX1 7 yX1_right wsX1_right) := goodIn_app (goodIn_of _ (by decide +kernel)) ggX1_reset_X1_right
theorem dX1_reset_0 : decode cX1_reset 0 = .ok (.aload_n 0, 1) := by decide +kernel
theorem dX1_reset_1 : decode cX1_reset 1 = .ok (.iconst 0, 1) := by decide +kernel
theorem dX1_reset_2 : decode cX1_reset 2 = .ok (.putfield 36, 3) := by decide +kernel
theorem dX1_reset_5 : decode cX1_reset 5 = .ok (.bipush 8, 2) := by decide +kernel
theorem dX1_reset_7 : decode cX1_reset 7 = .ok (.aload_n 0, 1) := by decide +kernel
theorem dX1_reset_8 : decode cX1_reset 8 = .ok (.getfield 13, 3) := by decide +kernel
theorem dX1_reset_11 : decode cX1_reset 11 = .ok (.iconst 1, 1) := by decide +kernel
theorem dX1_reset_12 : decode cX1_reset 12 = .ok (.invokestatic 74, 3) := by decide +kernel
theorem dX1_reset_15 : decode cX1_reset 15 = .ok (.isub, 1) := by decide +kernel
theorem dX1_reset_16 : decode cX1_reset 16 = .ok (.istore_n 1, 1) := by decide +kernel
theorem dX1_reset_17 : decode cX1_reset 17 = .ok (.aload_n 0, 1) := by decide +kernel
theorem dX1_reset_18 : decode cX1_reset 18 = .ok (.invokestatic 7, 3) := by decide +kernel
theorem dX1_reset_21 : decode cX1_reset 21 = .ok (.putfield 13, 3) := by decide +kernel
theorem dX1_reset_24 : decode cX1_reset 24 = .ok (.iload_n 1, 1) := by decide +kernel
theorem dX1_reset_25 : decode cX1_reset 25 = .ok (.ireturn, 1) := by decide +kernel
theorem dX1_put_0 : decode cX1_put 0 = .ok (.aload_n 0, 1) := by decide +kernel
theorem dX1_put_1 : decode cX1_put 1 = .ok (.getfield 29, 3) := by decide +kernel
theorem dX1_put_4 : decode cX1_put 4 = .ok (.bipush 12, 2) := by decide +kernel
theorem dX1_put_6 : decode cX1_put 6 = .ok (.iload_n 1, 1) := by decide +kernel
theorem dX1_put_7 : decode cX1_put 7 = .ok (.imul, 1) := by decide +kernel
theorem dX1_put_8 : decode cX1_put 8 = .ok (.aload_n 0, 1) := by decide +kernel
theorem dX1_put_9 : decode cX1_put 9 = .ok (.getfield 26, 3) := by decide +kernel
theorem dX1_put_12 : decode cX1_put 12 = .ok (.iload_n 1, 1) := by decide +kernel
theorem dX1_put_13 : decode cX1_put 13 = .ok (.iaload, 1) := by decide +kernel
theorem dX1_put_14 : decode cX1_put 14 = .ok (.iadd, 1) := by decide +kernel
theorem dX1_put_15 : decode cX1_put 15 = .ok (.iload_n 2, 1) := by decide +kernel
theorem dX1_put_16 : decode cX1_put 16 = .ok (.iastore, 1) := by decide +kernel
theorem dX1_put_17 : decode cX1_put 17 = .ok (.aload_n 0, 1) := by decide +kernel
theorem dX1_put_18 : decode cX1_put 18 = .ok (.getfield 26, 3) := by decide +kernel
theorem dX1_put_21 : decode cX1_put 21 = .ok (.iload_n 1, 1) := by decide +kernel
theorem dX1_put_22 : decode cX1_put 22 = .ok (.dup2, 1) := by decide +kernel
theorem dX1_put_23 : decode cX1_put 23 = .ok (.iaload, 1) := by decide +kernel
theorem dX1_put_24 : decode cX1_put 24 = .ok (.iconst 1, 1) := by decide +kernel
theorem dX1_put_25 : decode cX1_put 25 = .ok (.iadd, 1) := by decide +kernel
theorem dX1_put_26 : decode cX1_put 26 = .ok (.iastore, 1) := by decide +kernel
theorem dX1_put_27 : decode cX1_put 27 = .ok (.return_, 1) := by decide +kernel
set_option maxRecDepth 20000 in
theorem ggX1_say_X1_isWord : GoodIn wsX1_say wsX1_isWord := goodIn_r _ [6, 7, 8, 5, 9] (by decide +kernel) (by decide +kernel)
set_option maxRecDepth 20000 in
theorem gX1_say_X1_isWord : GoodIn wsX1_say (va_wsS RX1 89 yX1_isWord wsX1_isWord) := goodIn_app (goodIn_of _ (by decide +kernel)) ggX1_say_X1_isWord
set_option maxRecDepth 20000 in
theorem ggX1_say_X1_isIn : GoodIn wsX1_say wsX1_isIn := goodIn_r _ [9] (by decide +kernel) (by decide +kernel)
set_option maxRecDepth 20000 in
theorem gX1_say_X1_isIn : GoodIn wsX1_say (va_wsS RX1 40 yX1_isIn wsX1_isIn) := goodIn_app (goodIn_of _ (by decide +kernel)) ggX1_say_X1_isIn
set_option maxRecDepth 20000 in
theorem ggX1_say_X1_no : GoodIn wsX1_say wsX1_no := goodIn_r _ [13, 1, 19, 20, 21, 22, 23, 24, 25] (by decide +kernel) (by decide +kernel)
set_option maxRecDepth 20000 in
theorem gX1_say_X1_no : GoodIn wsX1_say (wsV RX1 82 RX1 yX1_no wsX1_no) := goodIn_app (goodIn_of _ (by decide +kernel)) ggX1_say_X1_no
set_option maxRecDepth 20000 in
theorem ggX1_say_X1_put : GoodIn wsX1_say wsX1_put := goodIn_r _ [17, 18, 2, 19, 20, 21, 22, 23, 24, 25] (by decide +kernel) (by decide +kernel)
set_option maxRecDepth 20000 in
theorem gX1_say_X1_put : GoodIn wsX1_say (wsV RX1 96 RX1 yX1_put wsX1_put) := goodIn_app (goodIn_of _ (by decide +kernel)) ggX1_say_X1_put
theorem dX1_say_0 : decode cX1_say 0 = .ok (.aload_n 0, 1) := by decide +kernel
theorem dX1_say_1 : decode cX1_say 1 = .ok (.iconst 0, 1) := by decide +kernel
theorem dX1_say_2 : decode cX1_say 2 = .ok (.putfield 36, 3) := by decide +kernel
theorem dX1_say_5 : decode cX1_say 5 = .ok (.iload_n 1, 1) := by decide +kernel
theorem dX1_say_6 : decode cX1_say 6 = .ok (.invokestatic 89, 3) := by decide +kernel
theorem dX1_say_9 : decode cX1_say 9 = .ok (.ifCond .eq 12, 3) := by decide +kernel
theorem dX1_say_12 : decode cX1_say 12 = .ok (.iload_n 2, 1) := by decide +kernel
theorem dX1_say_13 : decode cX1_say 13 = .ok (.iconst 0, 1) := by decide +kernel
theorem dX1_say_14 : decode cX1_say 14 = .ok (.iconst 2, 1) := by decide +kernel
theorem dX1_say_15 : decode cX1_say 15 = .ok (.invokestatic 40, 3) := by decide +kernel
theorem dX1_say_18 : decode cX1_say 18 = .ok (.ifCond .ne 9, 3) := by decide +kernel
theorem dX1_say_21 : decode cX1_say 21 = .ok (.aload_n 0, 1) := by decide +kernel
theorem dX1_say_22 : decode cX1_say 22 = .ok (.iconst 1, 1) := by decide +kernel
theorem dX1_say_23 : decode cX1_say 23 = .ok (.invokevirtual 82, 3) := by decide +kernel
theorem dX1_say_26 : decode cX1_say 26 = .ok (.ireturn, 1) := by decide +kernel
theorem dX1_say_27 : decode cX1_say 27 = .ok (.iload_n 3, 1) := by decide +kernel
theorem dX1_say_28 : decode cX1_say 28 = .ok (.iconst 1, 1) := by decide +kernel
theorem dX1_say_29 : decode cX1_say 29 = .ok (.iconst 3, 1) := by decide +kernel
theorem dX1_say_30 : decode cX1_say 30 = .ok (.invokestatic 40, 3) := by decide +kernel
theorem dX1_say_33 : decode cX1_say 33 = .ok (.ifCond .ne 9, 3) := by decide +kernel
theorem dX1_say_36 : decode cX1_say 36 = .ok (.aload_n 0, 1) := by decide +kernel
theorem dX1_say_37 : decode cX1_say 37 = .ok (.iconst 2, 1) := by decide +kernel
theorem dX1_say_38 : decode cX1_say 38 = .ok (.invokevirtual 82, 3) := by decide +kernel
theorem dX1_say_41 : decode cX1_say 41 = .ok (.ireturn, 1) := by decide +kernel
theorem dX1_say_42 : decode cX1_say 42 = .ok (.aload_n 0, 1) := by decide +kernel
theorem dX1_say_43 : decode cX1_say 43 = .ok (.getfield 26, 3) := by decide +kernel
theorem dX1_say_46 : decode cX1_say 46 = .ok (.iload_n 1, 1) := by decide +kernel
theorem dX1_say_47 : decode cX1_say 47 = .ok (.iaload, 1) := by decide +kernel
theorem dX1_say_48 : decode cX1_say 48 = .ok (.bipush 12, 2) := by decide +kernel
theorem dX1_say_50 : decode cX1_say 50 = .ok (.if_icmp .ne 9, 3) := by decide +kernel
theorem dX1_say_53 : decode cX1_say 53 = .ok (.aload_n 0, 1) := by decide +kernel
theorem dX1_say_54 : decode cX1_say 54 = .ok (.iconst 3, 1) := by decide +kernel
theorem dX1_say_55 : decode cX1_say 55 = .ok (.invokevirtual 82, 3) := by decide +kernel
theorem dX1_say_58 : decode cX1_say 58 = .ok (.ireturn, 1) := by decide +kernel
theorem dX1_say_59 : decode cX1_say 59 = .ok (.aload_n 0, 1) := by decide +kernel
theorem dX1_say_60 : decode cX1_say 60 = .ok (.iload_n 1, 1) := by decide +kernel
theorem dX1_say_61 : decode cX1_say 61 = .ok (.iconst 3, 1) := by decide +kernel
theorem dX1_say_62 : decode cX1_say 62 = .ok (.iload_n 2, 1) := by decide +kernel
theorem dX1_say_63 : decode cX1_say 63 = .ok (.imul, 1) := by decide +kernel
theorem dX1_say_64 : decode cX1_say 64 = .ok (.iload_n 3, 1) := by decide +kernel
theorem dX1_say_65 : decode cX1_say 65 = .ok (.iadd, 1) := by decide +kernel
theorem dX1_say_66 : decode cX1_say 66 = .ok (.iconst 1, 1) := by decide +kernel
theorem dX1_say_67 : decode cX1_say 67 = .ok (.isub, 1) := by decide +kernel
theorem dX1_say_68 : decode cX1_say 68 = .ok (.invokevirtual 96, 3) := by decide +kernel
theorem dX1_say_71 : decode cX1_say 71 = .ok (.aload_n 0, 1) := by decide +kernel
theorem dX1_say_72 : decode cX1_say 72 = .ok (.getfield 26, 3) := by decide +kernel
theorem dX1_say_75 : decode cX1_say 75 = .ok (.iload_n 1, 1) := by decide +kernel
theorem dX1_say_76 : decode cX1_say 76 = .ok (.iaload, 1) := by decide +kernel
theorem dX1_say_77 : decode cX1_say 77 = .ok (.ireturn, 1) := by decide +kernel
set_option maxRecDepth 20000 in
theorem ggX1_wipe_X1_isWord : GoodIn wsX1_wipe wsX1_isWord := goodIn_r _ [6, 7, 8, 5, 9] (by decide +kernel) (by decide +kernel)
set_option maxRecDepth 20000 in
theorem gX1_wipe_X1_isWord : GoodIn wsX1_wipe (va_wsS RX1 89 yX1_isWord wsX1_isWord) := goodIn_app (goodIn_of _ (by decide +kernel)) ggX1_wipe_X1_isWord
set_option maxRecDepth 20000 in
theorem ggX1_wipe_X1_no : GoodIn wsX1_wipe wsX1_no := goodIn_r _ [13, 1, 14, 15, 16, 17, 18, 19, 20] (by decide +kernel) (by decide +kernel)
set_option maxRecDepth 20000 in
theorem gX1_wipe_X1_no : GoodIn wsX1_wipe (wsV RX1 82 RX1 yX1_no wsX1_no) := goodIn_app (goodIn_of _ (by decide +kernel)) ggX1_wipe_X1_no
theorem dX1_wipe_0 : decode cX1_wipe 0 = .ok (.aload_n 0, 1) := by decide +kernel
theorem dX1_wipe_1 : decode cX1_wipe 1 = .ok (.iconst 0, 1) := by decide +kernel
theorem dX1_wipe_2 : decode cX1_wipe 2 = .ok (.putfield 36, 3) := by decide +kernel
theorem dX1_wipe_5 : decode cX1_wipe 5 = .ok (.iload_n 1, 1) := by decide +kernel
theorem dX1_wipe_6 : decode cX1_wipe 6 = .ok (.invokestatic 89, 3) := by decide +kernel
theorem dX1_wipe_9 : decode cX1_wipe 9 = .ok (.ifCond .ne 9, 3) := by decide +kernel
theorem dX1_wipe_12 : decode cX1_wipe 12 = .ok (.aload_n 0, 1) := by decide +kernel
theorem dX1_wipe_13 : decode cX1_wipe 13 = .ok (.iconst 1, 1) := by decide +kernel
theorem dX1_wipe_14 : decode cX1_wipe 14 = .ok (.invokevirtual 82, 3) := by decide +kernel
theorem dX1_wipe_17 : decode cX1_wipe 17 = .ok (.ireturn, 1) := by decide +kernel
theorem dX1_wipe_18 : decode cX1_wipe 18 = .ok (.aload_n 0, 1) := by decide +kernel
theorem dX1_wipe_19 : decode cX1_wipe 19 = .ok (.getfield 26, 3) := by decide +kernel
theorem dX1_wipe_22 : decode cX1_wipe 22 = .ok (.iload_n 1, 1) := by decide +kernel
theorem dX1_wipe_23 : decode cX1_wipe 23 = .ok (.iaload, 1) := by decide +kernel
theorem dX1_wipe_24 : decode cX1_wipe 24 = .ok (.istore_n 2, 1) := by decide +kernel
theorem dX1_wipe_25 : decode cX1_wipe 25 = .ok (.aload_n 0, 1) := by decide +kernel
theorem dX1_wipe_26 : decode cX1_wipe 26 = .ok (.getfield 26, 3) := by decide +kernel
theorem dX1_wipe_29 : decode cX1_wipe 29 = .ok (.iload_n 1, 1) := by decide +kernel
theorem dX1_wipe_30 : decode cX1_wipe 30 = .ok (.iconst 0, 1) := by decide +kernel
theorem dX1_wipe_31 : decode cX1_wipe 31 = .ok (.iastore, 1) := by decide +kernel
theorem dX1_wipe_32 : decode cX1_wipe 32 = .ok (.iload_n 2, 1) := by decide +kernel
theorem dX1_wipe_33 : decode cX1_wipe 33 = .ok (.ireturn, 1) := by decide +kernel
theorem dX1_taken_0 : decode cX1_taken 0 = .ok (.aload_n 0, 1) := by decide +kernel
theorem dX1_taken_1 : decode cX1_taken 1 = .ok (.getfield 26, 3) := by decide +kernel
theorem dX1_taken_4 : decode cX1_taken 4 = .ok (.iload_n 1, 1) := by decide +kernel
theorem dX1_taken_5 : decode cX1_taken 5 = .ok (.iaload, 1) := by decide +kernel
theorem dX1_taken_6 : decode cX1_taken 6 = .ok (.newarray .int, 2) := by decide +kernel
theorem dX1_taken_8 : decode cX1_taken 8 = .ok (.astore_n 2, 1) := by decide +kernel
theorem dX1_taken_9 : decode cX1_taken 9 = .ok (.aload_n 0, 1) := by decide +kernel
theorem dX1_taken_10 : decode cX1_taken 10 = .ok (.getfield 29, 3) := by decide +kernel
theorem dX1_taken_13 : decode cX1_taken 13 = .ok (.bipush 12, 2) := by decide +kernel
theorem dX1_taken_15 : decode cX1_taken 15 = .ok (.iload_n 1, 1) := by decide +kernel
theorem dX1_taken_16 : decode cX1_taken 16 = .ok (.imul, 1) := by decide +kernel
theorem dX1_taken_17 : decode cX1_taken 17 = .ok (.aload_n 2, 1) := by decide +kernel
theorem dX1_taken_18 : decode cX1_taken 18 = .ok (.iconst 0, 1) := by decide +kernel
theorem dX1_taken_19 : decode cX1_taken 19 = .ok (.aload_n 2, 1) := by decide +kernel
theorem dX1_taken_20 : decode cX1_taken 20 = .ok (.arraylength, 1) := by decide +kernel
theorem dX1_taken_21 : decode cX1_taken 21 = .ok (.invokestatic 100, 3) := by decide +kernel
theorem dX1_taken_24 : decode cX1_taken 24 = .ok (.aload_n 0, 1) := by decide +kernel
theorem dX1_taken_25 : decode cX1_taken 25 = .ok (.getfield 26, 3) := by decide +kernel
theorem dX1_taken_28 : decode cX1_taken 28 = .ok (.iload_n 1, 1) := by decide +kernel
theorem dX1_taken_29 : decode cX1_taken 29 = .ok (.iconst 0, 1) := by decide +kernel
theorem dX1_taken_30 : decode cX1_taken 30 = .ok (.iastore, 1) := by decide +kernel
theorem dX1_taken_31 : decode cX1_taken 31 = .ok (.aload_n 2, 1) := by decide +kernel
theorem dX1_taken_32 : decode cX1_taken 32 = .ok (.areturn, 1) := by decide +kernel
set_option maxRecDepth 20000 in
theorem ggX1_round_X1_isWord : GoodIn wsX1_round wsX1_isWord := goodIn_r _ [6, 7, 8, 5, 9] (by decide +kernel) (by decide +kernel)
set_option maxRecDepth 20000 in
theorem gX1_round_X1_isWord : GoodIn wsX1_round (va_wsS RX1 89 yX1_isWord wsX1_isWord) := goodIn_app (goodIn_of _ (by decide +kernel)) ggX1_round_X1_isWord
set_option maxRecDepth 20000 in
theorem ggX1_round_X1_no : GoodIn wsX1_round wsX1_no := goodIn_r _ [13, 1, 28, 29, 30, 31, 32, 33, 34] (by decide +kernel) (by decide +kernel)
set_option maxRecDepth 20000 in
theorem gX1_round_X1_no : GoodIn wsX1_round (wsV RX1 82 RX1 yX1_no wsX1_no) := goodIn_app (goodIn_of _ (by decide +kernel)) ggX1_round_X1_no
set_option maxRecDepth 20000 in
theorem ggX1_round_X1_taken : GoodIn wsX1_round wsX1_taken := goodIn_r _ [17, 2, 18, 19, 20, 21, 22, 23, 28, 29, 30, 31, 32, 33, 34] (by decide +kernel) (by decide +kernel)
set_option maxRecDepth 20000 in
theorem gX1_round_X1_taken : GoodIn wsX1_round (wsV RX1 106 RX1 yX1_taken wsX1_taken) := goodIn_app (goodIn_of _ (by decide +kernel)) ggX1_round_X1_taken
set_option maxRecDepth 20000 in
theorem ggX1_round_X1_put : GoodIn wsX1_round wsX1_put := goodIn_r _ [27, 19, 2, 28, 29, 30, 31, 32, 33, 34] (by decide +kernel) (by decide +kernel)
set_option maxRecDepth 20000 in
theorem gX1_round_X1_put : GoodIn wsX1_round (wsV RX1 96 RX1 yX1_put wsX1_put) := goodIn_app (goodIn_of _ (by decide +kernel)) ggX1_round_X1_put
theorem dX1_round_0 : decode cX1_round 0 = .ok (.aload_n 0, 1) := by decide +kernel
theorem dX1_round_1 : decode cX1_round 1 = .ok (.iconst 0, 1) := by decide +kernel
theorem dX1_round_2 : decode cX1_round 2 = .ok (.putfield 36, 3) := by decide +kernel
theorem dX1_round_5 : decode cX1_round 5 = .ok (.iload_n 1, 1) := by decide +kernel
theorem dX1_round_6 : decode cX1_round 6 = .ok (.invokestatic 89, 3) := by decide +kernel
theorem dX1_round_9 : decode cX1_round 9 = .ok (.ifCond .ne 9, 3) := by decide +kernel
theorem dX1_round_12 : decode cX1_round 12 = .ok (.aload_n 0, 1) := by decide +kernel
theorem dX1_round_13 : decode cX1_round 13 = .ok (.iconst 1, 1) := by decide +kernel
theorem dX1_round_14 : decode cX1_round 14 = .ok (.invokevirtual 82, 3) := by decide +kernel
theorem dX1_round_17 : decode cX1_round 17 = .ok (.ireturn, 1) := by decide +kernel
theorem dX1_round_18 : decode cX1_round 18 = .ok (.aload_n 0, 1) := by decide +kernel
theorem dX1_round_19 : decode cX1_round 19 = .ok (.iload_n 1, 1) := by decide +kernel
theorem dX1_round_20 : decode cX1_round 20 = .ok (.invokevirtual 106, 3) := by decide +kernel
theorem dX1_round_23 : decode cX1_round 23 = .ok (.astore_n 2, 1) := by decide +kernel
theorem dX1_round_24 : decode cX1_round 24 = .ok (.aload_n 2, 1) := by decide +kernel
theorem dX1_round_25 : decode cX1_round 25 = .ok (.arraylength, 1) := by decide +kernel
theorem dX1_round_26 : decode cX1_round 26 = .ok (.iconst 1, 1) := by decide +kernel
theorem dX1_round_27 : decode cX1_round 27 = .ok (.isub, 1) := by decide +kernel
theorem dX1_round_28 : decode cX1_round 28 = .ok (.istore_n 3, 1) := by decide +kernel
theorem dX1_round_29 : decode cX1_round 29 = .ok (.iload_n 3, 1) := by decide +kernel
theorem dX1_round_30 : decode cX1_round 30 = .ok (.ifCond .lt 29, 3) := by decide +kernel
theorem dX1_round_33 : decode cX1_round 33 = .ok (.aload_n 0, 1) := by decide +kernel
theorem dX1_round_34 : decode cX1_round 34 = .ok (.iload_n 1, 1) := by decide +kernel
theorem dX1_round_35 : decode cX1_round 35 = .ok (.aload_n 2, 1) := by decide +kernel
theorem dX1_round_36 : decode cX1_round 36 = .ok (.iload_n 3, 1) := by decide +kernel
theorem dX1_round_37 : decode cX1_round 37 = .ok (.iaload, 1) := by decide +kernel
theorem dX1_round_38 : decode cX1_round 38 = .ok (.iconst 3, 1) := by decide +kernel
theorem dX1_round_39 : decode cX1_round 39 = .ok (.idiv, 1) := by decide +kernel
theorem dX1_round_40 : decode cX1_round 40 = .ok (.iconst 3, 1) := by decide +kernel
theorem dX1_round_41 : decode cX1_round 41 = .ok (.imul, 1) := by decide +kernel
theorem dX1_round_42 : decode cX1_round 42 = .ok (.iconst 2, 1) := by decide +kernel
theorem dX1_round_43 : decode cX1_round 43 = .ok (.iadd, 1) := by decide +kernel
theorem dX1_round_44 : decode cX1_round 44 = .ok (.aload_n 2, 1) := by decide +kernel
theorem dX1_round_45 : decode cX1_round 45 = .ok (.iload_n 3, 1) := by decide +kernel
theorem dX1_round_46 : decode cX1_round 46 = .ok (.iaload, 1) := by decide +kernel
theorem dX1_round_47 : decode cX1_round 47 = .ok (.iconst 3, 1) := by decide +kernel
theorem dX1_round_48 : decode cX1_round 48 = .ok (.irem, 1) := by decide +kernel
theorem dX1_round_49 : decode cX1_round 49 = .ok (.isub, 1) := by decide +kernel
theorem dX1_round_50 : decode cX1_round 50 = .ok (.invokevirtual 96, 3) := by decide +kernel
theorem dX1_round_53 : decode cX1_round 53 = .ok (.iinc 3 (-1), 3) := by decide +kernel
theorem dX1_round_56 : decode cX1_round 56 = .ok (.goto (-27), 3) := by decide +kernel
theorem dX1_round_59 : decode cX1_round 59 = .ok (.aload_n 0, 1) := by decide +kernel
theorem dX1_round_60 : decode cX1_round 60 = .ok (.getfield 26, 3) := by decide +kernel
theorem dX1_round_63 : decode cX1_round 63 = .ok (.iload_n 1, 1) := by decide +kernel
theorem dX1_round_64 : decode cX1_round 64 = .ok (.iaload, 1) := by decide +kernel
theorem dX1_round_65 : decode cX1_round 65 = .ok (.ireturn, 1) := by decide +kernel
set_option maxRecDepth 20000 in
theorem ggX1_join_X1_isWord : GoodIn wsX1_join wsX1_isWord := goodIn_r _ [7, 8, 9, 6, 10] (by decide +kernel) (by decide +kernel)
set_option maxRecDepth 20000 in
theorem gX1_join_X1_isWord : GoodIn wsX1_join (va_wsS RX1 89 yX1_isWord wsX1_isWord) := goodIn_app (goodIn_of _ (by decide +kernel)) ggX1_join_X1_isWord
set_option maxRecDepth 20000 in
theorem ggX1_join_X1_no : GoodIn wsX1_join wsX1_no := goodIn_r _ [14, 1, 19, 20, 21, 22, 23, 24, 25] (by decide +kernel) (by decide +kernel)
set_option maxRecDepth 20000 in
theorem gX1_join_X1_no : GoodIn wsX1_join (wsV RX1 82 RX1 yX1_no wsX1_no) := goodIn_app (goodIn_of _ (by decide +kernel)) ggX1_join_X1_no
set_option maxRecDepth 20000 in
theorem ggX1_join_X1_put : GoodIn wsX1_join wsX1_put := goodIn_r _ [18, 3, 2, 19, 20, 21, 22, 23, 24, 25] (by decide +kernel) (by decide +kernel)
set_option maxRecDepth 20000 in
theorem gX1_join_X1_put : GoodIn wsX1_join (wsV RX1 96 RX1 yX1_put wsX1_put) := goodIn_app (goodIn_of _ (by decide +kernel)) ggX1_join_X1_put
theorem dX1_join_0 : decode cX1_join 0 = .ok (.aload_n 0, 1) := by decide +kernel
theorem dX1_join_1 : decode cX1_join 1 = .ok (.iconst 0, 1) := by decide +kernel
theorem dX1_join_2 : decode cX1_join 2 = .ok (.putfield 36, 3) := by decide +kernel
theorem dX1_join_5 : decode cX1_join 5 = .ok (.iload_n 1, 1) := by decide +kernel
theorem dX1_join_6 : decode cX1_join 6 = .ok (.invokestatic 89, 3) := by decide +kernel
theorem dX1_join_9 : decode cX1_join 9 = .ok (.ifCond .eq 10, 3) := by decide +kernel
theorem dX1_join_12 : decode cX1_join 12 = .ok (.iload_n 2, 1) := by decide +kernel
theorem dX1_join_13 : decode cX1_join 13 = .ok (.invokestatic 89, 3) := by decide +kernel
theorem dX1_join_16 : decode cX1_join 16 = .ok (.ifCond .ne 9, 3) := by decide +kernel
theorem dX1_join_19 : decode cX1_join 19 = .ok (.aload_n 0, 1) := by decide +kernel
theorem dX1_join_20 : decode cX1_join 20 = .ok (.iconst 1, 1) := by decide +kernel
theorem dX1_join_21 : decode cX1_join 21 = .ok (.invokevirtual 82, 3) := by decide +kernel
theorem dX1_join_24 : decode cX1_join 24 = .ok (.ireturn, 1) := by decide +kernel
theorem dX1_join_25 : decode cX1_join 25 = .ok (.aload_n 0, 1) := by decide +kernel
theorem dX1_join_26 : decode cX1_join 26 = .ok (.getfield 26, 3) := by decide +kernel
theorem dX1_join_29 : decode cX1_join 29 = .ok (.iload_n 2, 1) := by decide +kernel
theorem dX1_join_30 : decode cX1_join 30 = .ok (.iaload, 1) := by decide +kernel
theorem dX1_join_31 : decode cX1_join 31 = .ok (.istore_n 3, 1) := by decide +kernel
theorem dX1_join_32 : decode cX1_join 32 = .ok (.aload_n 0, 1) := by decide +kernel
theorem dX1_join_33 : decode cX1_join 33 = .ok (.getfield 26, 3) := by decide +kernel
theorem dX1_join_36 : decode cX1_join 36 = .ok (.iload_n 1, 1) := by decide +kernel
theorem dX1_join_37 : decode cX1_join 37 = .ok (.iaload, 1) := by decide +kernel
theorem dX1_join_38 : decode cX1_join 38 = .ok (.iload_n 3, 1) := by decide +kernel
theorem dX1_join_39 : decode cX1_join 39 = .ok (.iadd, 1) := by decide +kernel
theorem dX1_join_40 : decode cX1_join 40 = .ok (.bipush 12, 2) := by decide +kernel
theorem dX1_join_42 : decode cX1_join 42 = .ok (.if_icmp .le 9, 3) := by decide +kernel
theorem dX1_join_45 : decode cX1_join 45 = .ok (.aload_n 0, 1) := by decide +kernel
theorem dX1_join_46 : decode cX1_join 46 = .ok (.iconst 2, 1) := by decide +kernel
theorem dX1_join_47 : decode cX1_join 47 = .ok (.invokevirtual 82, 3) := by decide +kernel
theorem dX1_join_50 : decode cX1_join 50 = .ok (.ireturn, 1) := by decide +kernel
theorem dX1_join_51 : decode cX1_join 51 = .ok (.iconst 0, 1) := by decide +kernel
theorem dX1_join_52 : decode cX1_join 52 = .ok (.istore 4, 2) := by decide +kernel
theorem dX1_join_54 : decode cX1_join 54 = .ok (.iload 4, 2) := by decide +kernel
theorem dX1_join_56 : decode cX1_join 56 = .ok (.iload_n 3, 1) := by decide +kernel
theorem dX1_join_57 : decode cX1_join 57 = .ok (.if_icmp .ge 26, 3) := by decide +kernel
theorem dX1_join_60 : decode cX1_join 60 = .ok (.aload_n 0, 1) := by decide +kernel
theorem dX1_join_61 : decode cX1_join 61 = .ok (.iload_n 1, 1) := by decide +kernel
theorem dX1_join_62 : decode cX1_join 62 = .ok (.aload_n 0, 1) := by decide +kernel
theorem dX1_join_63 : decode cX1_join 63 = .ok (.getfield 29, 3) := by decide +kernel
theorem dX1_join_66 : decode cX1_join 66 = .ok (.bipush 12, 2) := by decide +kernel
theorem dX1_join_68 : decode cX1_join 68 = .ok (.iload_n 2, 1) := by decide +kernel
theorem dX1_join_69 : decode cX1_join 69 = .ok (.imul, 1) := by decide +kernel
theorem dX1_join_70 : decode cX1_join 70 = .ok (.iload 4, 2) := by decide +kernel
theorem dX1_join_72 : decode cX1_join 72 = .ok (.iadd, 1) := by decide +kernel
theorem dX1_join_73 : decode cX1_join 73 = .ok (.iaload, 1) := by decide +kernel
theorem dX1_join_74 : decode cX1_join 74 = .ok (.invokevirtual 96, 3) := by decide +kernel
theorem dX1_join_77 : decode cX1_join 77 = .ok (.iinc 4 1, 3) := by decide +kernel
theorem dX1_join_80 : decode cX1_join 80 = .ok (.goto (-26), 3) := by decide +kernel
theorem dX1_join_83 : decode cX1_join 83 = .ok (.aload_n 0, 1) := by decide +kernel
theorem dX1_join_84 : decode cX1_join 84 = .ok (.getfield 26, 3) := by decide +kernel
theorem dX1_join_87 : decode cX1_join 87 = .ok (.iload_n 1, 1) := by decide +kernel
theorem dX1_join_88 : decode cX1_join 88 = .ok (.iaload, 1) := by decide +kernel
theorem dX1_join_89 : decode cX1_join 89 = .ok (.ireturn, 1) := by decide +kernel
set_option maxRecDepth 20000 in
theorem ggX1_tidy_X1_isWord : GoodIn wsX1_tidy wsX1_isWord := goodIn_r _ [7, 8, 9, 6, 10] (by decide +kernel) (by decide +kernel)
set_option maxRecDepth 20000 in
theorem gX1_tidy_X1_isWord : GoodIn wsX1_tidy (va_wsS RX1 89 yX1_isWord wsX1_isWord) := goodIn_app (goodIn_of _ (by decide +kernel)) ggX1_tidy_X1_isWord
set_option maxRecDepth 20000 in
theorem ggX1_tidy_X1_no : GoodIn wsX1_tidy wsX1_no := goodIn_r _ [14, 1, 28, 29, 30, 31, 32, 33, 34] (by decide +kernel) (by decide +kernel)
set_option maxRecDepth 20000 in
theorem gX1_tidy_X1_no : GoodIn wsX1_tidy (wsV RX1 82 RX1 yX1_no wsX1_no) := goodIn_app (goodIn_of _ (by decide +kernel)) ggX1_tidy_X1_no
set_option maxRecDepth 20000 in
theorem ggX1_tidy_X1_taken : GoodIn wsX1_tidy wsX1_taken := goodIn_r _ [18, 2, 19, 3, 20, 21, 22, 23, 28, 29, 30, 31, 32, 33, 34] (by decide +kernel) (by decide +kernel)
set_option maxRecDepth 20000 in
theorem gX1_tidy_X1_taken : GoodIn wsX1_tidy (wsV RX1 106 RX1 yX1_taken wsX1_taken) := goodIn_app (goodIn_of _ (by decide +kernel)) ggX1_tidy_X1_taken
set_option maxRecDepth 20000 in
theorem ggX1_tidy_X1_put : GoodIn wsX1_tidy wsX1_put := goodIn_r _ [27, 3, 2, 28, 29, 30, 31, 32, 33, 34] (by decide +kernel) (by decide +kernel)
set_option maxRecDepth 20000 in
theorem gX1_tidy_X1_put : GoodIn wsX1_tidy (wsV RX1 96 RX1 yX1_put wsX1_put) := goodIn_app (goodIn_of _ (by decide +kernel)) ggX1_tidy_X1_put
theorem dX1_tidy_0 : decode cX1_tidy 0 = .ok (.aload_n 0, 1) := by decide +kernel
theorem dX1_tidy_1 : decode cX1_tidy 1 = .ok (.iconst 0, 1) := by decide +kernel
theorem dX1_tidy_2 : decode cX1_tidy 2 = .ok (.putfield 36, 3) := by decide +kernel
theorem dX1_tidy_5 : decode cX1_tidy 5 = .ok (.iload_n 1, 1) := by decide +kernel
theorem dX1_tidy_6 : decode cX1_tidy 6 = .ok (.invokestatic 89, 3) := by decide +kernel
theorem dX1_tidy_9 : decode cX1_tidy 9 = .ok (.ifCond .ne 9, 3) := by decide +kernel
theorem dX1_tidy_12 : decode cX1_tidy 12 = .ok (.aload_n 0, 1) := by decide +kernel
theorem dX1_tidy_13 : decode cX1_tidy 13 = .ok (.iconst 1, 1) := by decide +kernel
theorem dX1_tidy_14 : decode cX1_tidy 14 = .ok (.invokevirtual 82, 3) := by decide +kernel
theorem dX1_tidy_17 : decode cX1_tidy 17 = .ok (.ireturn, 1) := by decide +kernel
theorem dX1_tidy_18 : decode cX1_tidy 18 = .ok (.aload_n 0, 1) := by decide +kernel
theorem dX1_tidy_19 : decode cX1_tidy 19 = .ok (.iload_n 1, 1) := by decide +kernel
theorem dX1_tidy_20 : decode cX1_tidy 20 = .ok (.invokevirtual 106, 3) := by decide +kernel
theorem dX1_tidy_23 : decode cX1_tidy 23 = .ok (.astore_n 2, 1) := by decide +kernel
theorem dX1_tidy_24 : decode cX1_tidy 24 = .ok (.aload_n 2, 1) := by decide +kernel
theorem dX1_tidy_25 : decode cX1_tidy 25 = .ok (.arraylength, 1) := by decide +kernel
theorem dX1_tidy_26 : decode cX1_tidy 26 = .ok (.istore_n 3, 1) := by decide +kernel
theorem dX1_tidy_27 : decode cX1_tidy 27 = .ok (.iconst 0, 1) := by decide +kernel
theorem dX1_tidy_28 : decode cX1_tidy 28 = .ok (.istore 4, 2) := by decide +kernel
theorem dX1_tidy_30 : decode cX1_tidy 30 = .ok (.iload 4, 2) := by decide +kernel
theorem dX1_tidy_32 : decode cX1_tidy 32 = .ok (.iload_n 3, 1) := by decide +kernel
theorem dX1_tidy_33 : decode cX1_tidy 33 = .ok (.if_icmp .ge 116, 3) := by decide +kernel
theorem dX1_tidy_36 : decode cX1_tidy 36 = .ok (.aload_n 2, 1) := by decide +kernel
theorem dX1_tidy_37 : decode cX1_tidy 37 = .ok (.iload 4, 2) := by decide +kernel
theorem dX1_tidy_39 : decode cX1_tidy 39 = .ok (.iaload, 1) := by decide +kernel
theorem dX1_tidy_40 : decode cX1_tidy 40 = .ok (.istore 5, 2) := by decide +kernel
theorem dX1_tidy_42 : decode cX1_tidy 42 = .ok (.bipush 12, 2) := by decide +kernel
theorem dX1_tidy_44 : decode cX1_tidy 44 = .ok (.iload_n 1, 1) := by decide +kernel
theorem dX1_tidy_45 : decode cX1_tidy 45 = .ok (.imul, 1) := by decide +kernel
theorem dX1_tidy_46 : decode cX1_tidy 46 = .ok (.aload_n 0, 1) := by decide +kernel
theorem dX1_tidy_47 : decode cX1_tidy 47 = .ok (.getfield 26, 3) := by decide +kernel
theorem dX1_tidy_50 : decode cX1_tidy 50 = .ok (.iload_n 1, 1) := by decide +kernel
theorem dX1_tidy_51 : decode cX1_tidy 51 = .ok (.iaload, 1) := by decide +kernel
theorem dX1_tidy_52 : decode cX1_tidy 52 = .ok (.iadd, 1) := by decide +kernel
theorem dX1_tidy_53 : decode cX1_tidy 53 = .ok (.iconst 1, 1) := by decide +kernel
theorem dX1_tidy_54 : decode cX1_tidy 54 = .ok (.isub, 1) := by decide +kernel
theorem dX1_tidy_55 : decode cX1_tidy 55 = .ok (.istore 6, 2) := by decide +kernel
theorem dX1_tidy_57 : decode cX1_tidy 57 = .ok (.aload_n 0, 1) := by decide +kernel
theorem dX1_tidy_58 : decode cX1_tidy 58 = .ok (.getfield 26, 3) := by decide +kernel
theorem dX1_tidy_61 : decode cX1_tidy 61 = .ok (.iload_n 1, 1) := by decide +kernel
theorem dX1_tidy_62 : decode cX1_tidy 62 = .ok (.iaload, 1) := by decide +kernel
theorem dX1_tidy_63 : decode cX1_tidy 63 = .ok (.ifCond .eq 19, 3) := by decide +kernel
theorem dX1_tidy_66 : decode cX1_tidy 66 = .ok (.aload_n 0, 1) := by decide +kernel
theorem dX1_tidy_67 : decode cX1_tidy 67 = .ok (.getfield 29, 3) := by decide +kernel
theorem dX1_tidy_70 : decode cX1_tidy 70 = .ok (.iload 6, 2) := by decide +kernel
theorem dX1_tidy_72 : decode cX1_tidy 72 = .ok (.iaload, 1) := by decide +kernel
theorem dX1_tidy_73 : decode cX1_tidy 73 = .ok (.iconst 3, 1) := by decide +kernel
theorem dX1_tidy_74 : decode cX1_tidy 74 = .ok (.idiv, 1) := by decide +kernel
theorem dX1_tidy_75 : decode cX1_tidy 75 = .ok (.iload 5, 2) := by decide +kernel
theorem dX1_tidy_77 : decode cX1_tidy 77 = .ok (.iconst 3, 1) := by decide +kernel
theorem dX1_tidy_78 : decode cX1_tidy 78 = .ok (.idiv, 1) := by decide +kernel
theorem dX1_tidy_79 : decode cX1_tidy 79 = .ok (.if_icmp .eq 13, 3) := by decide +kernel
theorem dX1_tidy_82 : decode cX1_tidy 82 = .ok (.aload_n 0, 1) := by decide +kernel
theorem dX1_tidy_83 : decode cX1_tidy 83 = .ok (.iload_n 1, 1) := by decide +kernel
theorem dX1_tidy_84 : decode cX1_tidy 84 = .ok (.iload 5, 2) := by decide +kernel
theorem dX1_tidy_86 : decode cX1_tidy 86 = .ok (.invokevirtual 96, 3) := by decide +kernel
theorem dX1_tidy_89 : decode cX1_tidy 89 = .ok (.goto 54, 3) := by decide +kernel
theorem dX1_tidy_92 : decode cX1_tidy 92 = .ok (.aload_n 0, 1) := by decide +kernel
theorem dX1_tidy_93 : decode cX1_tidy 93 = .ok (.getfield 29, 3) := by decide +kernel
theorem dX1_tidy_96 : decode cX1_tidy 96 = .ok (.iload 6, 2) := by decide +kernel
theorem dX1_tidy_98 : decode cX1_tidy 98 = .ok (.iaload, 1) := by decide +kernel
theorem dX1_tidy_99 : decode cX1_tidy 99 = .ok (.iconst 3, 1) := by decide +kernel
theorem dX1_tidy_100 : decode cX1_tidy 100 = .ok (.irem, 1) := by decide +kernel
theorem dX1_tidy_101 : decode cX1_tidy 101 = .ok (.iload 5, 2) := by decide +kernel
theorem dX1_tidy_103 : decode cX1_tidy 103 = .ok (.iconst 3, 1) := by decide +kernel
theorem dX1_tidy_104 : decode cX1_tidy 104 = .ok (.irem, 1) := by decide +kernel
theorem dX1_tidy_105 : decode cX1_tidy 105 = .ok (.iadd, 1) := by decide +kernel
theorem dX1_tidy_106 : decode cX1_tidy 106 = .ok (.iconst 2, 1) := by decide +kernel
theorem dX1_tidy_107 : decode cX1_tidy 107 = .ok (.iadd, 1) := by decide +kernel
theorem dX1_tidy_108 : decode cX1_tidy 108 = .ok (.iconst 4, 1) := by decide +kernel
theorem dX1_tidy_109 : decode cX1_tidy 109 = .ok (.irem, 1) := by decide +kernel
theorem dX1_tidy_110 : decode cX1_tidy 110 = .ok (.istore 7, 2) := by decide +kernel
theorem dX1_tidy_112 : decode cX1_tidy 112 = .ok (.aload_n 0, 1) := by decide +kernel
theorem dX1_tidy_113 : decode cX1_tidy 113 = .ok (.getfield 26, 3) := by decide +kernel
theorem dX1_tidy_116 : decode cX1_tidy 116 = .ok (.iload_n 1, 1) := by decide +kernel
theorem dX1_tidy_117 : decode cX1_tidy 117 = .ok (.dup2, 1) := by decide +kernel
theorem dX1_tidy_118 : decode cX1_tidy 118 = .ok (.iaload, 1) := by decide +kernel
theorem dX1_tidy_119 : decode cX1_tidy 119 = .ok (.iconst 1, 1) := by decide +kernel
theorem dX1_tidy_120 : decode cX1_tidy 120 = .ok (.isub, 1) := by decide +kernel
theorem dX1_tidy_121 : decode cX1_tidy 121 = .ok (.iastore, 1) := by decide +kernel
theorem dX1_tidy_122 : decode cX1_tidy 122 = .ok (.iload 7, 2) := by decide +kernel
theorem dX1_tidy_124 : decode cX1_tidy 124 = .ok (.ifCond .le 19, 3) := by decide +kernel
theorem dX1_tidy_127 : decode cX1_tidy 127 = .ok (.aload_n 0, 1) := by decide +kernel
theorem dX1_tidy_128 : decode cX1_tidy 128 = .ok (.iload_n 1, 1) := by decide +kernel
theorem dX1_tidy_129 : decode cX1_tidy 129 = .ok (.iload 5, 2) := by decide +kernel
theorem dX1_tidy_131 : decode cX1_tidy 131 = .ok (.iconst 3, 1) := by decide +kernel
theorem dX1_tidy_132 : decode cX1_tidy 132 = .ok (.idiv, 1) := by decide +kernel
theorem dX1_tidy_133 : decode cX1_tidy 133 = .ok (.iconst 3, 1) := by decide +kernel
theorem dX1_tidy_134 : decode cX1_tidy 134 = .ok (.imul, 1) := by decide +kernel
theorem dX1_tidy_135 : decode cX1_tidy 135 = .ok (.iload 7, 2) := by decide +kernel
theorem dX1_tidy_137 : decode cX1_tidy 137 = .ok (.iadd, 1) := by decide +kernel
theorem dX1_tidy_138 : decode cX1_tidy 138 = .ok (.iconst 1, 1) := by decide +kernel
theorem dX1_tidy_139 : decode cX1_tidy 139 = .ok (.isub, 1) := by decide +kernel
theorem dX1_tidy_140 : decode cX1_tidy 140 = .ok (.invokevirtual 96, 3) := by decide +kernel
theorem dX1_tidy_143 : decode cX1_tidy 143 = .ok (.iinc 4 1, 3) := by decide +kernel
theorem dX1_tidy_146 : decode cX1_tidy 146 = .ok (.goto (-116), 3) := by decide +kernel
theorem dX1_tidy_149 : decode cX1_tidy 149 = .ok (.aload_n 0, 1) := by decide +kernel
theorem dX1_tidy_150 : decode cX1_tidy 150 = .ok (.getfield 26, 3) := by decide +kernel
theorem dX1_tidy_153 : decode cX1_tidy 153 = .ok (.iload_n 1, 1) := by decide +kernel
theorem dX1_tidy_154 : decode cX1_tidy 154 = .ok (.iaload, 1) := by decide +kernel
theorem dX1_tidy_155 : decode cX1_tidy 155 = .ok (.ireturn, 1) := by decide +kernel
set_option maxRecDepth 20000 in
theorem ggX1_placeTold_X1_isRight : GoodIn wsX1_placeTold wsX1_isRight := goodIn_r _ [5] (by decide +kernel) (by decide +kernel)
set_option maxRecDepth 20000 in
theorem gX1_placeTold_X1_isRight : GoodIn wsX1_placeTold (va_wsS RX1 109 yX1_isRight wsX1_isRight) := goodIn_app (goodIn_of _ (by decide +kernel)) ggX1_placeTold_X1_isRight
theorem dX1_placeTold_0 : decode cX1_placeTold 0 = .ok (.iload_n 2, 1) := by decide +kernel
theorem dX1_placeTold_1 : decode cX1_placeTold 1 = .ok (.ifCond .ne 12, 3) := by decide +kernel
theorem dX1_placeTold_4 : decode cX1_placeTold 4 = .ok (.aload_n 0, 1) := by decide +kernel
theorem dX1_placeTold_5 : decode cX1_placeTold 5 = .ok (.getfield 13, 3) := by decide +kernel
theorem dX1_placeTold_8 : decode cX1_placeTold 8 = .ok (.iload_n 1, 1) := by decide +kernel
theorem dX1_placeTold_9 : decode cX1_placeTold 9 = .ok (.iaload, 1) := by decide +kernel
theorem dX1_placeTold_10 : decode cX1_placeTold 10 = .ok (.goto 36, 3) := by decide +kernel
theorem dX1_placeTold_13 : decode cX1_placeTold 13 = .ok (.iload_n 2, 1) := by decide +kernel
theorem dX1_placeTold_14 : decode cX1_placeTold 14 = .ok (.iconst 1, 1) := by decide +kernel
theorem dX1_placeTold_15 : decode cX1_placeTold 15 = .ok (.if_icmp .ne 15, 3) := by decide +kernel
theorem dX1_placeTold_18 : decode cX1_placeTold 18 = .ok (.aload_n 0, 1) := by decide +kernel
theorem dX1_placeTold_19 : decode cX1_placeTold 19 = .ok (.getfield 13, 3) := by decide +kernel
theorem dX1_placeTold_22 : decode cX1_placeTold 22 = .ok (.bipush 8, 2) := by decide +kernel
theorem dX1_placeTold_24 : decode cX1_placeTold 24 = .ok (.iload_n 1, 1) := by decide +kernel
theorem dX1_placeTold_25 : decode cX1_placeTold 25 = .ok (.iadd, 1) := by decide +kernel
theorem dX1_placeTold_26 : decode cX1_placeTold 26 = .ok (.iaload, 1) := by decide +kernel
theorem dX1_placeTold_27 : decode cX1_placeTold 27 = .ok (.goto 19, 3) := by decide +kernel
theorem dX1_placeTold_30 : decode cX1_placeTold 30 = .ok (.aload_n 0, 1) := by decide +kernel
theorem dX1_placeTold_31 : decode cX1_placeTold 31 = .ok (.getfield 13, 3) := by decide +kernel
theorem dX1_placeTold_34 : decode cX1_placeTold 34 = .ok (.iload_n 1, 1) := by decide +kernel
theorem dX1_placeTold_35 : decode cX1_placeTold 35 = .ok (.invokestatic 109, 3) := by decide +kernel
theorem dX1_placeTold_38 : decode cX1_placeTold 38 = .ok (.ifCond .eq 7, 3) := by decide +kernel
theorem dX1_placeTold_41 : decode cX1_placeTold 41 = .ok (.iconst 1, 1) := by decide +kernel
theorem dX1_placeTold_42 : decode cX1_placeTold 42 = .ok (.goto 4, 3) := by decide +kernel
theorem dX1_placeTold_45 : decode cX1_placeTold 45 = .ok (.iconst 0, 1) := by decide +kernel
theorem dX1_placeTold_46 : decode cX1_placeTold 46 = .ok (.ireturn, 1) := by decide +kernel
set_option maxRecDepth 20000 in
theorem ggX1_told_X1_isIn : GoodIn wsX1_told wsX1_isIn := goodIn_r _ [5] (by decide +kernel) (by decide +kernel)
set_option maxRecDepth 20000 in
theorem gX1_told_X1_isIn : GoodIn wsX1_told (va_wsS RX1 40 yX1_isIn wsX1_isIn) := goodIn_app (goodIn_of _ (by decide +kernel)) ggX1_told_X1_isIn
set_option maxRecDepth 20000 in
theorem ggX1_told_X1_placeTold : GoodIn wsX1_told wsX1_placeTold := goodIn_r _ [9, 10, 11, 12, 4, 13, 18, 19, 20, 21, 22, 23, 24] (by decide +kernel) (by decide +kernel)
set_option maxRecDepth 20000 in
theorem gX1_told_X1_placeTold : GoodIn wsX1_told (wsV RX1 113 RX1 yX1_placeTold wsX1_placeTold) := goodIn_app (goodIn_of _ (by decide +kernel)) ggX1_told_X1_placeTold
set_option maxRecDepth 20000 in
theorem ggX1_told_X1_no : GoodIn wsX1_told wsX1_no := goodIn_r _ [17, 1, 18, 19, 20, 21, 22, 23, 24] (by decide +kernel) (by decide +kernel)
set_option maxRecDepth 20000 in
theorem gX1_told_X1_no : GoodIn wsX1_told (wsV RX1 82 RX1 yX1_no wsX1_no) := goodIn_app (goodIn_of _ (by decide +kernel)) ggX1_told_X1_no
theorem dX1_told_0 : decode cX1_told 0 = .ok (.aload_n 0, 1) := by decide +kernel
theorem dX1_told_1 : decode cX1_told 1 = .ok (.iconst 0, 1) := by decide +kernel
theorem dX1_told_2 : decode cX1_told 2 = .ok (.putfield 36, 3) := by decide +kernel
theorem dX1_told_5 : decode cX1_told 5 = .ok (.iload_n 1, 1) := by decide +kernel
theorem dX1_told_6 : decode cX1_told 6 = .ok (.iconst 0, 1) := by decide +kernel
theorem dX1_told_7 : decode cX1_told 7 = .ok (.bipush 7, 2) := by decide +kernel
theorem dX1_told_9 : decode cX1_told 9 = .ok (.invokestatic 40, 3) := by decide +kernel
theorem dX1_told_12 : decode cX1_told 12 = .ok (.ifCond .eq 21, 3) := by decide +kernel
theorem dX1_told_15 : decode cX1_told 15 = .ok (.iload_n 2, 1) := by decide +kernel
theorem dX1_told_16 : decode cX1_told 16 = .ok (.iconst 0, 1) := by decide +kernel
theorem dX1_told_17 : decode cX1_told 17 = .ok (.iconst 2, 1) := by decide +kernel
theorem dX1_told_18 : decode cX1_told 18 = .ok (.invokestatic 40, 3) := by decide +kernel
theorem dX1_told_21 : decode cX1_told 21 = .ok (.ifCond .eq 12, 3) := by decide +kernel
theorem dX1_told_24 : decode cX1_told 24 = .ok (.aload_n 0, 1) := by decide +kernel
theorem dX1_told_25 : decode cX1_told 25 = .ok (.iload_n 1, 1) := by decide +kernel
theorem dX1_told_26 : decode cX1_told 26 = .ok (.iload_n 2, 1) := by decide +kernel
theorem dX1_told_27 : decode cX1_told 27 = .ok (.invokevirtual 113, 3) := by decide +kernel
theorem dX1_told_30 : decode cX1_told 30 = .ok (.goto 8, 3) := by decide +kernel
theorem dX1_told_33 : decode cX1_told 33 = .ok (.aload_n 0, 1) := by decide +kernel
theorem dX1_told_34 : decode cX1_told 34 = .ok (.iconst 1, 1) := by decide +kernel
theorem dX1_told_35 : decode cX1_told 35 = .ok (.invokevirtual 82, 3) := by decide +kernel
theorem dX1_told_38 : decode cX1_told 38 = .ok (.ireturn, 1) := by decide +kernel
set_option maxRecDepth 20000 in
theorem ggX1_where_X1_isIn : GoodIn wsX1_where wsX1_isIn := goodIn_r _ [6] (by decide +kernel) (by decide +kernel)
set_option maxRecDepth 20000 in
theorem gX1_where_X1_isIn : GoodIn wsX1_where (va_wsS RX1 40 yX1_isIn wsX1_isIn) := goodIn_app (goodIn_of _ (by decide +kernel)) ggX1_where_X1_isIn
set_option maxRecDepth 20000 in
theorem ggX1_where_X1_back : GoodIn wsX1_where wsX1_back := goodIn_r _ [9, 10] (by decide +kernel) (by decide +kernel)
set_option maxRecDepth 20000 in
theorem gX1_where_X1_back : GoodIn wsX1_where (va_wsS RX1 116 yX1_back wsX1_back) := goodIn_app (goodIn_of _ (by decide +kernel)) ggX1_where_X1_back
set_option maxRecDepth 20000 in
theorem ggX1_where_X1_no : GoodIn wsX1_where wsX1_no := goodIn_r _ [14, 1, 15, 16, 17, 18, 19, 20, 21] (by decide +kernel) (by decide +kernel)
set_option maxRecDepth 20000 in
theorem gX1_where_X1_no : GoodIn wsX1_where (wsV RX1 82 RX1 yX1_no wsX1_no) := goodIn_app (goodIn_of _ (by decide +kernel)) ggX1_where_X1_no
theorem dX1_where_0 : decode cX1_where 0 = .ok (.aload_n 0, 1) := by decide +kernel
theorem dX1_where_1 : decode cX1_where 1 = .ok (.iconst 0, 1) := by decide +kernel
theorem dX1_where_2 : decode cX1_where 2 = .ok (.putfield 36, 3) := by decide +kernel
theorem dX1_where_5 : decode cX1_where 5 = .ok (.iload_n 1, 1) := by decide +kernel
theorem dX1_where_6 : decode cX1_where 6 = .ok (.iconst 0, 1) := by decide +kernel
theorem dX1_where_7 : decode cX1_where 7 = .ok (.bipush 7, 2) := by decide +kernel
theorem dX1_where_9 : decode cX1_where 9 = .ok (.invokestatic 40, 3) := by decide +kernel
theorem dX1_where_12 : decode cX1_where 12 = .ok (.ifCond .eq 15, 3) := by decide +kernel
theorem dX1_where_15 : decode cX1_where 15 = .ok (.aload_n 0, 1) := by decide +kernel
theorem dX1_where_16 : decode cX1_where 16 = .ok (.getfield 13, 3) := by decide +kernel
theorem dX1_where_19 : decode cX1_where 19 = .ok (.invokestatic 116, 3) := by decide +kernel
theorem dX1_where_22 : decode cX1_where 22 = .ok (.iload_n 1, 1) := by decide +kernel
theorem dX1_where_23 : decode cX1_where 23 = .ok (.iaload, 1) := by decide +kernel
theorem dX1_where_24 : decode cX1_where 24 = .ok (.goto 8, 3) := by decide +kernel
theorem dX1_where_27 : decode cX1_where 27 = .ok (.aload_n 0, 1) := by decide +kernel
theorem dX1_where_28 : decode cX1_where 28 = .ok (.iconst 1, 1) := by decide +kernel
theorem dX1_where_29 : decode cX1_where 29 = .ok (.invokevirtual 82, 3) := by decide +kernel
theorem dX1_where_32 : decode cX1_where 32 = .ok (.ireturn, 1) := by decide +kernel
theorem dX1_allTurns_0 : decode cX1_allTurns 0 = .ok (.iconst 0, 1) := by decide +kernel
theorem dX1_allTurns_1 : decode cX1_allTurns 1 = .ok (.istore_n 1, 1) := by decide +kernel
theorem dX1_allTurns_2 : decode cX1_allTurns 2 = .ok (.aload_n 0, 1) := by decide +kernel
theorem dX1_allTurns_3 : decode cX1_allTurns 3 = .ok (.getfield 26, 3) := by decide +kernel
theorem dX1_allTurns_6 : decode cX1_allTurns 6 = .ok (.astore_n 2, 1) := by decide +kernel
theorem dX1_allTurns_7 : decode cX1_allTurns 7 = .ok (.aload_n 2, 1) := by decide +kernel
theorem dX1_allTurns_8 : decode cX1_allTurns 8 = .ok (.arraylength, 1) := by decide +kernel
theorem dX1_allTurns_9 : decode cX1_allTurns 9 = .ok (.istore_n 3, 1) := by decide +kernel
theorem dX1_allTurns_10 : decode cX1_allTurns 10 = .ok (.iconst 0, 1) := by decide +kernel
theorem dX1_allTurns_11 : decode cX1_allTurns 11 = .ok (.istore 4, 2) := by decide +kernel
theorem dX1_allTurns_13 : decode cX1_allTurns 13 = .ok (.iload 4, 2) := by decide +kernel
theorem dX1_allTurns_15 : decode cX1_allTurns 15 = .ok (.iload_n 3, 1) := by decide +kernel
theorem dX1_allTurns_16 : decode cX1_allTurns 16 = .ok (.if_icmp .ge 20, 3) := by decide +kernel
theorem dX1_allTurns_19 : decode cX1_allTurns 19 = .ok (.aload_n 2, 1) := by decide +kernel
theorem dX1_allTurns_20 : decode cX1_allTurns 20 = .ok (.iload 4, 2) := by decide +kernel
theorem dX1_allTurns_22 : decode cX1_allTurns 22 = .ok (.iaload, 1) := by decide +kernel
theorem dX1_allTurns_23 : decode cX1_allTurns 23 = .ok (.istore 5, 2) := by decide +kernel
theorem dX1_allTurns_25 : decode cX1_allTurns 25 = .ok (.iload_n 1, 1) := by decide +kernel
theorem dX1_allTurns_26 : decode cX1_allTurns 26 = .ok (.iload 5, 2) := by decide +kernel
theorem dX1_allTurns_28 : decode cX1_allTurns 28 = .ok (.iadd, 1) := by decide +kernel
theorem dX1_allTurns_29 : decode cX1_allTurns 29 = .ok (.istore_n 1, 1) := by decide +kernel
theorem dX1_allTurns_30 : decode cX1_allTurns 30 = .ok (.iinc 4 1, 3) := by decide +kernel
theorem dX1_allTurns_33 : decode cX1_allTurns 33 = .ok (.goto (-20), 3) := by decide +kernel
theorem dX1_allTurns_36 : decode cX1_allTurns 36 = .ok (.iload_n 1, 1) := by decide +kernel
theorem dX1_allTurns_37 : decode cX1_allTurns 37 = .ok (.ireturn, 1) := by decide +kernel
set_option maxRecDepth 20000 in
theorem ggX1_counted_X1_many : GoodIn wsX1_counted wsX1_many := goodIn_r _ [6] (by decide +kernel) (by decide +kernel)
set_option maxRecDepth 20000 in
theorem gX1_counted_X1_many : GoodIn wsX1_counted (va_wsS RX1 74 yX1_many wsX1_many) := goodIn_app (goodIn_of _ (by decide +kernel)) ggX1_counted_X1_many
set_option maxRecDepth 20000 in
theorem ggX1_counted_X1_byCycles : GoodIn wsX1_counted wsX1_byCycles := goodIn_r _ [9, 10, 11, 12, 13, 14, 15, 5, 16] (by decide +kernel) (by decide +kernel)
set_option maxRecDepth 20000 in
theorem gX1_counted_X1_byCycles : GoodIn wsX1_counted (va_wsS RX1 120 yX1_byCycles wsX1_byCycles) := goodIn_app (goodIn_of _ (by decide +kernel)) ggX1_counted_X1_byCycles
set_option maxRecDepth 20000 in
theorem ggX1_counted_X1_allTurns : GoodIn wsX1_counted wsX1_allTurns := goodIn_r _ [20, 21, 22, 23, 24, 25, 26, 27, 28] (by decide +kernel) (by decide +kernel)
set_option maxRecDepth 20000 in
theorem gX1_counted_X1_allTurns : GoodIn wsX1_counted (wsV RX1 124 RX1 yX1_allTurns wsX1_allTurns) := goodIn_app (goodIn_of _ (by decide +kernel)) ggX1_counted_X1_allTurns
theorem dX1_counted_0 : decode cX1_counted 0 = .ok (.iload_n 1, 1) := by decide +kernel
theorem dX1_counted_1 : decode cX1_counted 1 = .ok (.tableswitch 71 0 5 #[39, 44, 44, 44, 53, 62], 39) := by decide +kernel
theorem dX1_counted_40 : decode cX1_counted 40 = .ok (.aload_n 0, 1) := by decide +kernel
theorem dX1_counted_41 : decode cX1_counted 41 = .ok (.getfield 86, 3) := by decide +kernel
theorem dX1_counted_44 : decode cX1_counted 44 = .ok (.ireturn, 1) := by decide +kernel
theorem dX1_counted_45 : decode cX1_counted 45 = .ok (.aload_n 0, 1) := by decide +kernel
theorem dX1_counted_46 : decode cX1_counted 46 = .ok (.getfield 13, 3) := by decide +kernel
theorem dX1_counted_49 : decode cX1_counted 49 = .ok (.iload_n 1, 1) := by decide +kernel
theorem dX1_counted_50 : decode cX1_counted 50 = .ok (.invokestatic 74, 3) := by decide +kernel
theorem dX1_counted_53 : decode cX1_counted 53 = .ok (.ireturn, 1) := by decide +kernel
theorem dX1_counted_54 : decode cX1_counted 54 = .ok (.aload_n 0, 1) := by decide +kernel
theorem dX1_counted_55 : decode cX1_counted 55 = .ok (.getfield 13, 3) := by decide +kernel
theorem dX1_counted_58 : decode cX1_counted 58 = .ok (.iconst 1, 1) := by decide +kernel
theorem dX1_counted_59 : decode cX1_counted 59 = .ok (.invokestatic 120, 3) := by decide +kernel
theorem dX1_counted_62 : decode cX1_counted 62 = .ok (.ireturn, 1) := by decide +kernel
theorem dX1_counted_63 : decode cX1_counted 63 = .ok (.aload_n 0, 1) := by decide +kernel
theorem dX1_counted_64 : decode cX1_counted 64 = .ok (.getfield 13, 3) := by decide +kernel
theorem dX1_counted_67 : decode cX1_counted 67 = .ok (.iconst 0, 1) := by decide +kernel
theorem dX1_counted_68 : decode cX1_counted 68 = .ok (.invokestatic 120, 3) := by decide +kernel
theorem dX1_counted_71 : decode cX1_counted 71 = .ok (.ireturn, 1) := by decide +kernel
theorem dX1_counted_72 : decode cX1_counted 72 = .ok (.aload_n 0, 1) := by decide +kernel
theorem dX1_counted_73 : decode cX1_counted 73 = .ok (.invokevirtual 124, 3) := by decide +kernel
theorem dX1_counted_76 : decode cX1_counted 76 = .ok (.ireturn, 1) := by decide +kernel
set_option maxRecDepth 20000 in
theorem ggX1_count_X1_isIn : GoodIn wsX1_count wsX1_isIn := goodIn_r _ [5] (by decide +kernel) (by decide +kernel)
set_option maxRecDepth 20000 in
theorem gX1_count_X1_isIn : GoodIn wsX1_count (va_wsS RX1 40 yX1_isIn wsX1_isIn) := goodIn_app (goodIn_of _ (by decide +kernel)) ggX1_count_X1_isIn
set_option maxRecDepth 20000 in
theorem ggX1_count_X1_counted : GoodIn wsX1_count wsX1_counted := goodIn_r _ [9, 10, 11, 12, 13, 4, 14, 15, 16, 17, 18, 19, 20, 21, 22, 23, 24, 25, 26, 27, 28, 29, 34, 35, 36, 37, 38, 39, 40] (by decide +kernel) (by decide +kernel)
set_option maxRecDepth 20000 in
theorem gX1_count_X1_counted : GoodIn wsX1_count (wsV RX1 128 RX1 yX1_counted wsX1_counted) := goodIn_app (goodIn_of _ (by decide +kernel)) ggX1_count_X1_counted
set_option maxRecDepth 20000 in
theorem ggX1_count_X1_no : GoodIn wsX1_count wsX1_no := goodIn_r _ [33, 1, 34, 35, 36, 37, 38, 39, 40] (by decide +kernel) (by decide +kernel)
set_option maxRecDepth 20000 in
theorem gX1_count_X1_no : GoodIn wsX1_count (wsV RX1 82 RX1 yX1_no wsX1_no) := goodIn_app (goodIn_of _ (by decide +kernel)) ggX1_count_X1_no
theorem dX1_count_0 : decode cX1_count 0 = .ok (.aload_n 0, 1) := by decide +kernel
theorem dX1_count_1 : decode cX1_count 1 = .ok (.iconst 0, 1) := by decide +kernel
theorem dX1_count_2 : decode cX1_count 2 = .ok (.putfield 36, 3) := by decide +kernel
theorem dX1_count_5 : decode cX1_count 5 = .ok (.iload_n 1, 1) := by decide +kernel
theorem dX1_count_6 : decode cX1_count 6 = .ok (.iconst 0, 1) := by decide +kernel
theorem dX1_count_7 : decode cX1_count 7 = .ok (.bipush 6, 2) := by decide +kernel
theorem dX1_count_9 : decode cX1_count 9 = .ok (.invokestatic 40, 3) := by decide +kernel
theorem dX1_count_12 : decode cX1_count 12 = .ok (.ifCond .eq 11, 3) := by decide +kernel
theorem dX1_count_15 : decode cX1_count 15 = .ok (.aload_n 0, 1) := by decide +kernel
theorem dX1_count_16 : decode cX1_count 16 = .ok (.iload_n 1, 1) := by decide +kernel
theorem dX1_count_17 : decode cX1_count 17 = .ok (.invokevirtual 128, 3) := by decide +kernel
theorem dX1_count_20 : decode cX1_count 20 = .ok (.goto 8, 3) := by decide +kernel
theorem dX1_count_23 : decode cX1_count 23 = .ok (.aload_n 0, 1) := by decide +kernel
theorem dX1_count_24 : decode cX1_count 24 = .ok (.iconst 1, 1) := by decide +kernel
theorem dX1_count_25 : decode cX1_count 25 = .ok (.invokevirtual 82, 3) := by decide +kernel
theorem dX1_count_28 : decode cX1_count 28 = .ok (.ireturn, 1) := by decide +kernel
set_option maxRecDepth 20000 in
theorem ggX1_wordTold_X1_rowOf : GoodIn wsX1_wordTold wsX1_rowOf := goodIn_r _ [6, 1, 7, 8, 9, 5, 10, 11, 12, 13, 14, 15, 16, 17, 18, 19, 20, 21, 22, 36, 37, 38, 39, 40, 41, 42] (by decide +kernel) (by decide +kernel)
set_option maxRecDepth 20000 in
theorem gX1_wordTold_X1_rowOf : GoodIn wsX1_wordTold (wsV RX1 93 RX1 yX1_rowOf wsX1_rowOf) := goodIn_app (goodIn_of _ (by decide +kernel)) ggX1_wordTold_X1_rowOf
set_option maxRecDepth 20000 in
theorem ggX1_wordTold_X1_byCycles : GoodIn wsX1_wordTold wsX1_byCycles := goodIn_r _ [25, 26, 27, 28, 29, 30, 31, 5, 32] (by decide +kernel) (by decide +kernel)
set_option maxRecDepth 20000 in
theorem gX1_wordTold_X1_byCycles : GoodIn wsX1_wordTold (va_wsS RX1 120 yX1_byCycles wsX1_byCycles) := goodIn_app (goodIn_of _ (by decide +kernel)) ggX1_wordTold_X1_byCycles
set_option maxRecDepth 20000 in
theorem ggX1_wordTold_X1_many : GoodIn wsX1_wordTold wsX1_many := goodIn_r _ [35] (by decide +kernel) (by decide +kernel)
set_option maxRecDepth 20000 in
theorem gX1_wordTold_X1_many : GoodIn wsX1_wordTold (va_wsS RX1 74 yX1_many wsX1_many) := goodIn_app (goodIn_of _ (by decide +kernel)) ggX1_wordTold_X1_many
theorem dX1_wordTold_0 : decode cX1_wordTold 0 = .ok (.aload_n 0, 1) := by decide +kernel
theorem dX1_wordTold_1 : decode cX1_wordTold 1 = .ok (.iload_n 1, 1) := by decide +kernel
theorem dX1_wordTold_2 : decode cX1_wordTold 2 = .ok (.invokevirtual 93, 3) := by decide +kernel
theorem dX1_wordTold_5 : decode cX1_wordTold 5 = .ok (.astore_n 3, 1) := by decide +kernel
theorem dX1_wordTold_6 : decode cX1_wordTold 6 = .ok (.iload_n 2, 1) := by decide +kernel
theorem dX1_wordTold_7 : decode cX1_wordTold 7 = .ok (.lookupswitch 38 #[(0, 25), (1, 32)], 25) := by decide +kernel
theorem dX1_wordTold_32 : decode cX1_wordTold 32 = .ok (.aload_n 0, 1) := by decide +kernel
theorem dX1_wordTold_33 : decode cX1_wordTold 33 = .ok (.getfield 26, 3) := by decide +kernel
theorem dX1_wordTold_36 : decode cX1_wordTold 36 = .ok (.iload_n 1, 1) := by decide +kernel
theorem dX1_wordTold_37 : decode cX1_wordTold 37 = .ok (.iaload, 1) := by decide +kernel
theorem dX1_wordTold_38 : decode cX1_wordTold 38 = .ok (.ireturn, 1) := by decide +kernel
theorem dX1_wordTold_39 : decode cX1_wordTold 39 = .ok (.aload_n 3, 1) := by decide +kernel
theorem dX1_wordTold_40 : decode cX1_wordTold 40 = .ok (.iconst 0, 1) := by decide +kernel
theorem dX1_wordTold_41 : decode cX1_wordTold 41 = .ok (.invokestatic 120, 3) := by decide +kernel
theorem dX1_wordTold_44 : decode cX1_wordTold 44 = .ok (.ireturn, 1) := by decide +kernel
theorem dX1_wordTold_45 : decode cX1_wordTold 45 = .ok (.bipush 8, 2) := by decide +kernel
theorem dX1_wordTold_47 : decode cX1_wordTold 47 = .ok (.aload_n 3, 1) := by decide +kernel
theorem dX1_wordTold_48 : decode cX1_wordTold 48 = .ok (.iload_n 2, 1) := by decide +kernel
theorem dX1_wordTold_49 : decode cX1_wordTold 49 = .ok (.iconst 1, 1) := by decide +kernel
theorem dX1_wordTold_50 : decode cX1_wordTold 50 = .ok (.isub, 1) := by decide +kernel
theorem dX1_wordTold_51 : decode cX1_wordTold 51 = .ok (.invokestatic 74, 3) := by decide +kernel
theorem dX1_wordTold_54 : decode cX1_wordTold 54 = .ok (.isub, 1) := by decide +kernel
theorem dX1_wordTold_55 : decode cX1_wordTold 55 = .ok (.ireturn, 1) := by decide +kernel
set_option maxRecDepth 20000 in
theorem ggX1_word_X1_isWord : GoodIn wsX1_word wsX1_isWord := goodIn_r _ [5, 6, 7, 4, 8] (by decide +kernel) (by decide +kernel)
set_option maxRecDepth 20000 in
theorem gX1_word_X1_isWord : GoodIn wsX1_word (va_wsS RX1 89 yX1_isWord wsX1_isWord) := goodIn_app (goodIn_of _ (by decide +kernel)) ggX1_word_X1_isWord
set_option maxRecDepth 20000 in
theorem ggX1_word_X1_isIn : GoodIn wsX1_word wsX1_isIn := goodIn_r _ [8] (by decide +kernel) (by decide +kernel)
set_option maxRecDepth 20000 in
theorem gX1_word_X1_isIn : GoodIn wsX1_word (va_wsS RX1 40 yX1_isIn wsX1_isIn) := goodIn_app (goodIn_of _ (by decide +kernel)) ggX1_word_X1_isIn
set_option maxRecDepth 20000 in
theorem ggX1_word_X1_wordTold : GoodIn wsX1_word wsX1_wordTold := goodIn_r _ [12, 13, 14, 15, 16, 4, 17, 18, 19, 20, 21, 22, 23, 24, 25, 26, 27, 28, 29, 30, 31, 32, 33, 34, 35, 36, 37, 38, 39, 40, 41, 42, 43, 44, 45, 46, 51, 52, 53, 54, 55, 56, 57] (by decide +kernel) (by decide +kernel)
set_option maxRecDepth 20000 in
theorem gX1_word_X1_wordTold : GoodIn wsX1_word (wsV RX1 131 RX1 yX1_wordTold wsX1_wordTold) := goodIn_app (goodIn_of _ (by decide +kernel)) ggX1_word_X1_wordTold
set_option maxRecDepth 20000 in
theorem ggX1_word_X1_no : GoodIn wsX1_word wsX1_no := goodIn_r _ [50, 1, 51, 52, 53, 54, 55, 56, 57] (by decide +kernel) (by decide +kernel)
set_option maxRecDepth 20000 in
theorem gX1_word_X1_no : GoodIn wsX1_word (wsV RX1 82 RX1 yX1_no wsX1_no) := goodIn_app (goodIn_of _ (by decide +kernel)) ggX1_word_X1_no
theorem dX1_word_0 : decode cX1_word 0 = .ok (.aload_n 0, 1) := by decide +kernel
theorem dX1_word_1 : decode cX1_word 1 = .ok (.iconst 0, 1) := by decide +kernel
theorem dX1_word_2 : decode cX1_word 2 = .ok (.putfield 36, 3) := by decide +kernel
theorem dX1_word_5 : decode cX1_word 5 = .ok (.iload_n 1, 1) := by decide +kernel
theorem dX1_word_6 : decode cX1_word 6 = .ok (.invokestatic 89, 3) := by decide +kernel
theorem dX1_word_9 : decode cX1_word 9 = .ok (.ifCond .eq 21, 3) := by decide +kernel
theorem dX1_word_12 : decode cX1_word 12 = .ok (.iload_n 2, 1) := by decide +kernel
theorem dX1_word_13 : decode cX1_word 13 = .ok (.iconst 0, 1) := by decide +kernel
theorem dX1_word_14 : decode cX1_word 14 = .ok (.iconst 3, 1) := by decide +kernel
theorem dX1_word_15 : decode cX1_word 15 = .ok (.invokestatic 40, 3) := by decide +kernel
theorem dX1_word_18 : decode cX1_word 18 = .ok (.ifCond .eq 12, 3) := by decide +kernel
theorem dX1_word_21 : decode cX1_word 21 = .ok (.aload_n 0, 1) := by decide +kernel
theorem dX1_word_22 : decode cX1_word 22 = .ok (.iload_n 1, 1) := by decide +kernel
theorem dX1_word_23 : decode cX1_word 23 = .ok (.iload_n 2, 1) := by decide +kernel
theorem dX1_word_24 : decode cX1_word 24 = .ok (.invokevirtual 131, 3) := by decide +kernel
theorem dX1_word_27 : decode cX1_word 27 = .ok (.goto 8, 3) := by decide +kernel
theorem dX1_word_30 : decode cX1_word 30 = .ok (.aload_n 0, 1) := by decide +kernel
theorem dX1_word_31 : decode cX1_word 31 = .ok (.iconst 1, 1) := by decide +kernel
theorem dX1_word_32 : decode cX1_word 32 = .ok (.invokevirtual 82, 3) := by decide +kernel
theorem dX1_word_35 : decode cX1_word 35 = .ok (.ireturn, 1) := by decide +kernel
set_option maxRecDepth 20000 in
theorem ggX1_at_X1_isWord : GoodIn wsX1_at wsX1_isWord := goodIn_r _ [7, 8, 9, 6, 10] (by decide +kernel) (by decide +kernel)
set_option maxRecDepth 20000 in
theorem gX1_at_X1_isWord : GoodIn wsX1_at (va_wsS RX1 89 yX1_isWord wsX1_isWord) := goodIn_app (goodIn_of _ (by decide +kernel)) ggX1_at_X1_isWord
set_option maxRecDepth 20000 in
theorem ggX1_at_X1_isIn : GoodIn wsX1_at wsX1_isIn := goodIn_r _ [10] (by decide +kernel) (by decide +kernel)
set_option maxRecDepth 20000 in
theorem gX1_at_X1_isIn : GoodIn wsX1_at (va_wsS RX1 40 yX1_isIn wsX1_isIn) := goodIn_app (goodIn_of _ (by decide +kernel)) ggX1_at_X1_isIn
set_option maxRecDepth 20000 in
theorem ggX1_at_X1_no : GoodIn wsX1_at wsX1_no := goodIn_r _ [14, 1, 15, 16, 17, 18, 19, 20, 21] (by decide +kernel) (by decide +kernel)
set_option maxRecDepth 20000 in
theorem gX1_at_X1_no : GoodIn wsX1_at (wsV RX1 82 RX1 yX1_no wsX1_no) := goodIn_app (goodIn_of _ (by decide +kernel)) ggX1_at_X1_no
theorem dX1_at_0 : decode cX1_at 0 = .ok (.aload_n 0, 1) := by decide +kernel
theorem dX1_at_1 : decode cX1_at 1 = .ok (.iconst 0, 1) := by decide +kernel
theorem dX1_at_2 : decode cX1_at 2 = .ok (.putfield 36, 3) := by decide +kernel
theorem dX1_at_5 : decode cX1_at 5 = .ok (.iload_n 1, 1) := by decide +kernel
theorem dX1_at_6 : decode cX1_at 6 = .ok (.invokestatic 89, 3) := by decide +kernel
theorem dX1_at_9 : decode cX1_at 9 = .ok (.ifCond .eq 33, 3) := by decide +kernel
theorem dX1_at_12 : decode cX1_at 12 = .ok (.iload_n 2, 1) := by decide +kernel
theorem dX1_at_13 : decode cX1_at 13 = .ok (.iconst 0, 1) := by decide +kernel
theorem dX1_at_14 : decode cX1_at 14 = .ok (.aload_n 0, 1) := by decide +kernel
theorem dX1_at_15 : decode cX1_at 15 = .ok (.getfield 26, 3) := by decide +kernel
theorem dX1_at_18 : decode cX1_at 18 = .ok (.iload_n 1, 1) := by decide +kernel
theorem dX1_at_19 : decode cX1_at 19 = .ok (.iaload, 1) := by decide +kernel
theorem dX1_at_20 : decode cX1_at 20 = .ok (.iconst 1, 1) := by decide +kernel
theorem dX1_at_21 : decode cX1_at 21 = .ok (.isub, 1) := by decide +kernel
theorem dX1_at_22 : decode cX1_at 22 = .ok (.invokestatic 40, 3) := by decide +kernel
theorem dX1_at_25 : decode cX1_at 25 = .ok (.ifCond .eq 17, 3) := by decide +kernel
theorem dX1_at_28 : decode cX1_at 28 = .ok (.aload_n 0, 1) := by decide +kernel
theorem dX1_at_29 : decode cX1_at 29 = .ok (.getfield 29, 3) := by decide +kernel
theorem dX1_at_32 : decode cX1_at 32 = .ok (.bipush 12, 2) := by decide +kernel
theorem dX1_at_34 : decode cX1_at 34 = .ok (.iload_n 1, 1) := by decide +kernel
theorem dX1_at_35 : decode cX1_at 35 = .ok (.imul, 1) := by decide +kernel
theorem dX1_at_36 : decode cX1_at 36 = .ok (.iload_n 2, 1) := by decide +kernel
theorem dX1_at_37 : decode cX1_at 37 = .ok (.iadd, 1) := by decide +kernel
theorem dX1_at_38 : decode cX1_at 38 = .ok (.iaload, 1) := by decide +kernel
theorem dX1_at_39 : decode cX1_at 39 = .ok (.goto 8, 3) := by decide +kernel
theorem dX1_at_42 : decode cX1_at 42 = .ok (.aload_n 0, 1) := by decide +kernel
theorem dX1_at_43 : decode cX1_at 43 = .ok (.iconst 1, 1) := by decide +kernel
theorem dX1_at_44 : decode cX1_at 44 = .ok (.invokevirtual 82, 3) := by decide +kernel
theorem dX1_at_47 : decode cX1_at 47 = .ok (.ireturn, 1) := by decide +kernel
set_option maxRecDepth 20000 in
theorem ggX1_same_X1_isWord : GoodIn wsX1_same wsX1_isWord := goodIn_r _ [5, 6, 7, 4, 8] (by decide +kernel) (by decide +kernel)
set_option maxRecDepth 20000 in
theorem gX1_same_X1_isWord : GoodIn wsX1_same (va_wsS RX1 89 yX1_isWord wsX1_isWord) := goodIn_app (goodIn_of _ (by decide +kernel)) ggX1_same_X1_isWord
set_option maxRecDepth 20000 in
theorem ggX1_same_X1_no : GoodIn wsX1_same wsX1_no := goodIn_r _ [12, 1, 40, 41, 42, 43, 44, 45, 46] (by decide +kernel) (by decide +kernel)
set_option maxRecDepth 20000 in
theorem gX1_same_X1_no : GoodIn wsX1_same (wsV RX1 82 RX1 yX1_no wsX1_no) := goodIn_app (goodIn_of _ (by decide +kernel)) ggX1_same_X1_no
set_option maxRecDepth 20000 in
theorem ggX1_same_X1_rowOf : GoodIn wsX1_same wsX1_rowOf := goodIn_r _ [16, 17, 18, 19, 20, 4, 21, 22, 23, 24, 25, 26, 27, 28, 29, 30, 31, 32, 33, 40, 41, 42, 43, 44, 45, 46] (by decide +kernel) (by decide +kernel)
set_option maxRecDepth 20000 in
theorem gX1_same_X1_rowOf : GoodIn wsX1_same (wsV RX1 93 RX1 yX1_rowOf wsX1_rowOf) := goodIn_app (goodIn_of _ (by decide +kernel)) ggX1_same_X1_rowOf
set_option maxRecDepth 20000 in
theorem ggX1_same_X1_back : GoodIn wsX1_same wsX1_back := goodIn_r _ [36, 22] (by decide +kernel) (by decide +kernel)
set_option maxRecDepth 20000 in
theorem gX1_same_X1_back : GoodIn wsX1_same (va_wsS RX1 116 yX1_back wsX1_back) := goodIn_app (goodIn_of _ (by decide +kernel)) ggX1_same_X1_back
set_option maxRecDepth 20000 in
theorem ggX1_same_X1_then : GoodIn wsX1_same wsX1_then := goodIn_r _ [30, 22, 31, 32, 4, 33] (by decide +kernel) (by decide +kernel)
set_option maxRecDepth 20000 in
theorem gX1_same_X1_then : GoodIn wsX1_same (va_wsS RX1 57 yX1_then wsX1_then) := goodIn_app (goodIn_of _ (by decide +kernel)) ggX1_same_X1_then
set_option maxRecDepth 20000 in
theorem ggX1_same_X1_many : GoodIn wsX1_same wsX1_many := goodIn_r _ [39] (by decide +kernel) (by decide +kernel)
set_option maxRecDepth 20000 in
theorem gX1_same_X1_many : GoodIn wsX1_same (va_wsS RX1 74 yX1_many wsX1_many) := goodIn_app (goodIn_of _ (by decide +kernel)) ggX1_same_X1_many
theorem dX1_same_0 : decode cX1_same 0 = .ok (.aload_n 0, 1) := by decide +kernel
theorem dX1_same_1 : decode cX1_same 1 = .ok (.iconst 0, 1) := by decide +kernel
theorem dX1_same_2 : decode cX1_same 2 = .ok (.putfield 36, 3) := by decide +kernel
theorem dX1_same_5 : decode cX1_same 5 = .ok (.iload_n 1, 1) := by decide +kernel
theorem dX1_same_6 : decode cX1_same 6 = .ok (.invokestatic 89, 3) := by decide +kernel
theorem dX1_same_9 : decode cX1_same 9 = .ok (.ifCond .eq 10, 3) := by decide +kernel
theorem dX1_same_12 : decode cX1_same 12 = .ok (.iload_n 2, 1) := by decide +kernel
theorem dX1_same_13 : decode cX1_same 13 = .ok (.invokestatic 89, 3) := by decide +kernel
theorem dX1_same_16 : decode cX1_same 16 = .ok (.ifCond .ne 17, 3) := by decide +kernel
theorem dX1_same_19 : decode cX1_same 19 = .ok (.aload_n 0, 1) := by decide +kernel
theorem dX1_same_20 : decode cX1_same 20 = .ok (.iconst 1, 1) := by decide +kernel
theorem dX1_same_21 : decode cX1_same 21 = .ok (.invokevirtual 82, 3) := by decide +kernel
theorem dX1_same_24 : decode cX1_same 24 = .ok (.ifCond .le 7, 3) := by decide +kernel
theorem dX1_same_27 : decode cX1_same 27 = .ok (.iconst 1, 1) := by decide +kernel
theorem dX1_same_28 : decode cX1_same 28 = .ok (.goto 4, 3) := by decide +kernel
theorem dX1_same_31 : decode cX1_same 31 = .ok (.iconst 0, 1) := by decide +kernel
theorem dX1_same_32 : decode cX1_same 32 = .ok (.ireturn, 1) := by decide +kernel
theorem dX1_same_33 : decode cX1_same 33 = .ok (.aload_n 0, 1) := by decide +kernel
theorem dX1_same_34 : decode cX1_same 34 = .ok (.iload_n 1, 1) := by decide +kernel
theorem dX1_same_35 : decode cX1_same 35 = .ok (.invokevirtual 93, 3) := by decide +kernel
theorem dX1_same_38 : decode cX1_same 38 = .ok (.aload_n 0, 1) := by decide +kernel
theorem dX1_same_39 : decode cX1_same 39 = .ok (.iload_n 2, 1) := by decide +kernel
theorem dX1_same_40 : decode cX1_same 40 = .ok (.invokevirtual 93, 3) := by decide +kernel
theorem dX1_same_43 : decode cX1_same 43 = .ok (.invokestatic 116, 3) := by decide +kernel
theorem dX1_same_46 : decode cX1_same 46 = .ok (.invokestatic 57, 3) := by decide +kernel
theorem dX1_same_49 : decode cX1_same 49 = .ok (.iconst 1, 1) := by decide +kernel
theorem dX1_same_50 : decode cX1_same 50 = .ok (.invokestatic 74, 3) := by decide +kernel
theorem dX1_same_53 : decode cX1_same 53 = .ok (.bipush 8, 2) := by decide +kernel
theorem dX1_same_55 : decode cX1_same 55 = .ok (.if_icmp .ne 7, 3) := by decide +kernel
theorem dX1_same_58 : decode cX1_same 58 = .ok (.iconst 1, 1) := by decide +kernel
theorem dX1_same_59 : decode cX1_same 59 = .ok (.goto 4, 3) := by decide +kernel
theorem dX1_same_62 : decode cX1_same 62 = .ok (.iconst 0, 1) := by decide +kernel
theorem dX1_same_63 : decode cX1_same 63 = .ok (.ireturn, 1) := by decide +kernel
set_option maxRecDepth 20000 in
theorem ggX1_mixed_X1_isWord : GoodIn wsX1_mixed wsX1_isWord := goodIn_r _ [5, 6, 7, 4, 8] (by decide +kernel) (by decide +kernel)
set_option maxRecDepth 20000 in
theorem gX1_mixed_X1_isWord : GoodIn wsX1_mixed (va_wsS RX1 89 yX1_isWord wsX1_isWord) := goodIn_app (goodIn_of _ (by decide +kernel)) ggX1_mixed_X1_isWord
set_option maxRecDepth 20000 in
theorem ggX1_mixed_X1_no : GoodIn wsX1_mixed wsX1_no := goodIn_r _ [12, 1, 40, 41, 42, 43, 44, 45, 46] (by decide +kernel) (by decide +kernel)
set_option maxRecDepth 20000 in
theorem gX1_mixed_X1_no : GoodIn wsX1_mixed (wsV RX1 82 RX1 yX1_no wsX1_no) := goodIn_app (goodIn_of _ (by decide +kernel)) ggX1_mixed_X1_no
set_option maxRecDepth 20000 in
theorem ggX1_mixed_X1_rowOf : GoodIn wsX1_mixed wsX1_rowOf := goodIn_r _ [16, 17, 18, 19, 20, 4, 21, 22, 23, 24, 25, 26, 27, 28, 29, 30, 31, 32, 33, 40, 41, 42, 43, 44, 45, 46] (by decide +kernel) (by decide +kernel)
set_option maxRecDepth 20000 in
theorem gX1_mixed_X1_rowOf : GoodIn wsX1_mixed (wsV RX1 93 RX1 yX1_rowOf wsX1_rowOf) := goodIn_app (goodIn_of _ (by decide +kernel)) ggX1_mixed_X1_rowOf
set_option maxRecDepth 20000 in
theorem ggX1_mixed_X1_then : GoodIn wsX1_mixed wsX1_then := goodIn_r _ [30, 22, 31, 32, 4, 33] (by decide +kernel) (by decide +kernel)
set_option maxRecDepth 20000 in
theorem gX1_mixed_X1_then : GoodIn wsX1_mixed (va_wsS RX1 57 yX1_then wsX1_then) := goodIn_app (goodIn_of _ (by decide +kernel)) ggX1_mixed_X1_then
set_option maxRecDepth 20000 in
theorem ggX1_mixed_X1_back : GoodIn wsX1_mixed wsX1_back := goodIn_r _ [36, 22] (by decide +kernel) (by decide +kernel)
set_option maxRecDepth 20000 in
theorem gX1_mixed_X1_back : GoodIn wsX1_mixed (va_wsS RX1 116 yX1_back wsX1_back) := goodIn_app (goodIn_of _ (by decide +kernel)) ggX1_mixed_X1_back
set_option maxRecDepth 20000 in
theorem ggX1_mixed_X1_many : GoodIn wsX1_mixed wsX1_many := goodIn_r _ [39] (by decide +kernel) (by decide +kernel)
set_option maxRecDepth 20000 in
theorem gX1_mixed_X1_many : GoodIn wsX1_mixed (va_wsS RX1 74 yX1_many wsX1_many) := goodIn_app (goodIn_of _ (by decide +kernel)) ggX1_mixed_X1_many
theorem dX1_mixed_0 : decode cX1_mixed 0 = .ok (.aload_n 0, 1) := by decide +kernel
theorem dX1_mixed_1 : decode cX1_mixed 1 = .ok (.iconst 0, 1) := by decide +kernel
theorem dX1_mixed_2 : decode cX1_mixed 2 = .ok (.putfield 36, 3) := by decide +kernel
theorem dX1_mixed_5 : decode cX1_mixed 5 = .ok (.iload_n 1, 1) := by decide +kernel
theorem dX1_mixed_6 : decode cX1_mixed 6 = .ok (.invokestatic 89, 3) := by decide +kernel
theorem dX1_mixed_9 : decode cX1_mixed 9 = .ok (.ifCond .eq 10, 3) := by decide +kernel
theorem dX1_mixed_12 : decode cX1_mixed 12 = .ok (.iload_n 2, 1) := by decide +kernel
theorem dX1_mixed_13 : decode cX1_mixed 13 = .ok (.invokestatic 89, 3) := by decide +kernel
theorem dX1_mixed_16 : decode cX1_mixed 16 = .ok (.ifCond .ne 9, 3) := by decide +kernel
theorem dX1_mixed_19 : decode cX1_mixed 19 = .ok (.aload_n 0, 1) := by decide +kernel
theorem dX1_mixed_20 : decode cX1_mixed 20 = .ok (.iconst 1, 1) := by decide +kernel
theorem dX1_mixed_21 : decode cX1_mixed 21 = .ok (.invokevirtual 82, 3) := by decide +kernel
theorem dX1_mixed_24 : decode cX1_mixed 24 = .ok (.ireturn, 1) := by decide +kernel
theorem dX1_mixed_25 : decode cX1_mixed 25 = .ok (.aload_n 0, 1) := by decide +kernel
theorem dX1_mixed_26 : decode cX1_mixed 26 = .ok (.iload_n 1, 1) := by decide +kernel
theorem dX1_mixed_27 : decode cX1_mixed 27 = .ok (.invokevirtual 93, 3) := by decide +kernel
theorem dX1_mixed_30 : decode cX1_mixed 30 = .ok (.astore_n 3, 1) := by decide +kernel
theorem dX1_mixed_31 : decode cX1_mixed 31 = .ok (.aload_n 0, 1) := by decide +kernel
theorem dX1_mixed_32 : decode cX1_mixed 32 = .ok (.iload_n 2, 1) := by decide +kernel
theorem dX1_mixed_33 : decode cX1_mixed 33 = .ok (.invokevirtual 93, 3) := by decide +kernel
theorem dX1_mixed_36 : decode cX1_mixed 36 = .ok (.astore 4, 2) := by decide +kernel
theorem dX1_mixed_38 : decode cX1_mixed 38 = .ok (.bipush 8, 2) := by decide +kernel
theorem dX1_mixed_40 : decode cX1_mixed 40 = .ok (.aload_n 3, 1) := by decide +kernel
theorem dX1_mixed_41 : decode cX1_mixed 41 = .ok (.aload 4, 2) := by decide +kernel
theorem dX1_mixed_43 : decode cX1_mixed 43 = .ok (.invokestatic 57, 3) := by decide +kernel
theorem dX1_mixed_46 : decode cX1_mixed 46 = .ok (.aload_n 3, 1) := by decide +kernel
theorem dX1_mixed_47 : decode cX1_mixed 47 = .ok (.invokestatic 116, 3) := by decide +kernel
theorem dX1_mixed_50 : decode cX1_mixed 50 = .ok (.aload 4, 2) := by decide +kernel
theorem dX1_mixed_52 : decode cX1_mixed 52 = .ok (.invokestatic 116, 3) := by decide +kernel
theorem dX1_mixed_55 : decode cX1_mixed 55 = .ok (.invokestatic 57, 3) := by decide +kernel
theorem dX1_mixed_58 : decode cX1_mixed 58 = .ok (.invokestatic 57, 3) := by decide +kernel
theorem dX1_mixed_61 : decode cX1_mixed 61 = .ok (.iconst 1, 1) := by decide +kernel
theorem dX1_mixed_62 : decode cX1_mixed 62 = .ok (.invokestatic 74, 3) := by decide +kernel
theorem dX1_mixed_65 : decode cX1_mixed 65 = .ok (.isub, 1) := by decide +kernel
theorem dX1_mixed_66 : decode cX1_mixed 66 = .ok (.ireturn, 1) := by decide +kernel
set_option maxRecDepth 20000 in
theorem ggX1_would_X1_isIn : GoodIn wsX1_would wsX1_isIn := goodIn_r _ [6] (by decide +kernel) (by decide +kernel)
set_option maxRecDepth 20000 in
theorem gX1_would_X1_isIn : GoodIn wsX1_would (va_wsS RX1 40 yX1_isIn wsX1_isIn) := goodIn_app (goodIn_of _ (by decide +kernel)) ggX1_would_X1_isIn
set_option maxRecDepth 20000 in
theorem ggX1_would_X1_no : GoodIn wsX1_would wsX1_no := goodIn_r _ [10, 1, 26, 27, 28, 29, 30, 31, 32] (by decide +kernel) (by decide +kernel)
set_option maxRecDepth 20000 in
theorem gX1_would_X1_no : GoodIn wsX1_would (wsV RX1 82 RX1 yX1_no wsX1_no) := goodIn_app (goodIn_of _ (by decide +kernel)) ggX1_would_X1_no
set_option maxRecDepth 20000 in
theorem ggX1_would_X1_turned : GoodIn wsX1_would wsX1_turned := goodIn_r _ [14, 15, 16, 17, 5, 18, 19, 20, 21, 22, 26, 27, 28, 29, 30, 31, 32] (by decide +kernel) (by decide +kernel)
set_option maxRecDepth 20000 in
theorem gX1_would_X1_turned : GoodIn wsX1_would (wsV RX1 61 RX1 yX1_turned wsX1_turned) := goodIn_app (goodIn_of _ (by decide +kernel)) ggX1_would_X1_turned
set_option maxRecDepth 20000 in
theorem ggX1_would_X1_many : GoodIn wsX1_would wsX1_many := goodIn_r _ [25] (by decide +kernel) (by decide +kernel)
set_option maxRecDepth 20000 in
theorem gX1_would_X1_many : GoodIn wsX1_would (va_wsS RX1 74 yX1_many wsX1_many) := goodIn_app (goodIn_of _ (by decide +kernel)) ggX1_would_X1_many
theorem dX1_would_0 : decode cX1_would 0 = .ok (.aload_n 0, 1) := by decide +kernel
theorem dX1_would_1 : decode cX1_would 1 = .ok (.iconst 0, 1) := by decide +kernel
theorem dX1_would_2 : decode cX1_would 2 = .ok (.putfield 36, 3) := by decide +kernel
theorem dX1_would_5 : decode cX1_would 5 = .ok (.iload_n 1, 1) := by decide +kernel
theorem dX1_would_6 : decode cX1_would 6 = .ok (.iconst 0, 1) := by decide +kernel
theorem dX1_would_7 : decode cX1_would 7 = .ok (.iconst 2, 1) := by decide +kernel
theorem dX1_would_8 : decode cX1_would 8 = .ok (.invokestatic 40, 3) := by decide +kernel
theorem dX1_would_11 : decode cX1_would 11 = .ok (.ifCond .ne 9, 3) := by decide +kernel
theorem dX1_would_14 : decode cX1_would 14 = .ok (.aload_n 0, 1) := by decide +kernel
theorem dX1_would_15 : decode cX1_would 15 = .ok (.iconst 1, 1) := by decide +kernel
theorem dX1_would_16 : decode cX1_would 16 = .ok (.invokevirtual 82, 3) := by decide +kernel
theorem dX1_would_19 : decode cX1_would 19 = .ok (.ireturn, 1) := by decide +kernel
theorem dX1_would_20 : decode cX1_would 20 = .ok (.iload_n 2, 1) := by decide +kernel
theorem dX1_would_21 : decode cX1_would 21 = .ok (.iconst 1, 1) := by decide +kernel
theorem dX1_would_22 : decode cX1_would 22 = .ok (.iconst 3, 1) := by decide +kernel
theorem dX1_would_23 : decode cX1_would 23 = .ok (.invokestatic 40, 3) := by decide +kernel
theorem dX1_would_26 : decode cX1_would 26 = .ok (.ifCond .eq 25, 3) := by decide +kernel
theorem dX1_would_29 : decode cX1_would 29 = .ok (.aload_n 0, 1) := by decide +kernel
theorem dX1_would_30 : decode cX1_would 30 = .ok (.aload_n 0, 1) := by decide +kernel
theorem dX1_would_31 : decode cX1_would 31 = .ok (.getfield 13, 3) := by decide +kernel
theorem dX1_would_34 : decode cX1_would 34 = .ok (.iconst 3, 1) := by decide +kernel
theorem dX1_would_35 : decode cX1_would 35 = .ok (.iload_n 1, 1) := by decide +kernel
theorem dX1_would_36 : decode cX1_would 36 = .ok (.imul, 1) := by decide +kernel
theorem dX1_would_37 : decode cX1_would 37 = .ok (.iload_n 2, 1) := by decide +kernel
theorem dX1_would_38 : decode cX1_would 38 = .ok (.iadd, 1) := by decide +kernel
theorem dX1_would_39 : decode cX1_would 39 = .ok (.iconst 1, 1) := by decide +kernel
theorem dX1_would_40 : decode cX1_would 40 = .ok (.isub, 1) := by decide +kernel
theorem dX1_would_41 : decode cX1_would 41 = .ok (.invokevirtual 61, 3) := by decide +kernel
theorem dX1_would_44 : decode cX1_would 44 = .ok (.iconst 1, 1) := by decide +kernel
theorem dX1_would_45 : decode cX1_would 45 = .ok (.invokestatic 74, 3) := by decide +kernel
theorem dX1_would_48 : decode cX1_would 48 = .ok (.goto 8, 3) := by decide +kernel
theorem dX1_would_51 : decode cX1_would 51 = .ok (.aload_n 0, 1) := by decide +kernel
theorem dX1_would_52 : decode cX1_would 52 = .ok (.iconst 2, 1) := by decide +kernel
theorem dX1_would_53 : decode cX1_would 53 = .ok (.invokevirtual 82, 3) := by decide +kernel
theorem dX1_would_56 : decode cX1_would 56 = .ok (.ireturn, 1) := by decide +kernel
set_option maxRecDepth 20000 in
theorem ggX1_far_X1_isIn : GoodIn wsX1_far wsX1_isIn := goodIn_r _ [6] (by decide +kernel) (by decide +kernel)
set_option maxRecDepth 20000 in
theorem gX1_far_X1_isIn : GoodIn wsX1_far (va_wsS RX1 40 yX1_isIn wsX1_isIn) := goodIn_app (goodIn_of _ (by decide +kernel)) ggX1_far_X1_isIn
set_option maxRecDepth 20000 in
theorem ggX1_far_X1_farOf : GoodIn wsX1_far wsX1_farOf := goodIn_r _ [10, 11, 12, 13, 5, 14, 15, 16, 17, 18, 19, 20, 21, 22, 27, 28, 29, 30, 31, 32, 33] (by decide +kernel) (by decide +kernel)
set_option maxRecDepth 20000 in
theorem gX1_far_X1_farOf : GoodIn wsX1_far (wsV RX1 134 RX1 yX1_farOf wsX1_farOf) := goodIn_app (goodIn_of _ (by decide +kernel)) ggX1_far_X1_farOf
set_option maxRecDepth 20000 in
theorem ggX1_far_X1_no : GoodIn wsX1_far wsX1_no := goodIn_r _ [26, 1, 27, 28, 29, 30, 31, 32, 33] (by decide +kernel) (by decide +kernel)
set_option maxRecDepth 20000 in
theorem gX1_far_X1_no : GoodIn wsX1_far (wsV RX1 82 RX1 yX1_no wsX1_no) := goodIn_app (goodIn_of _ (by decide +kernel)) ggX1_far_X1_no
theorem dX1_far_0 : decode cX1_far 0 = .ok (.aload_n 0, 1) := by decide +kernel
theorem dX1_far_1 : decode cX1_far 1 = .ok (.iconst 0, 1) := by decide +kernel
theorem dX1_far_2 : decode cX1_far 2 = .ok (.putfield 36, 3) := by decide +kernel
theorem dX1_far_5 : decode cX1_far 5 = .ok (.iload_n 1, 1) := by decide +kernel
theorem dX1_far_6 : decode cX1_far 6 = .ok (.iconst 0, 1) := by decide +kernel
theorem dX1_far_7 : decode cX1_far 7 = .ok (.iconst 5, 1) := by decide +kernel
theorem dX1_far_8 : decode cX1_far 8 = .ok (.invokestatic 40, 3) := by decide +kernel
theorem dX1_far_11 : decode cX1_far 11 = .ok (.ifCond .eq 15, 3) := by decide +kernel
theorem dX1_far_14 : decode cX1_far 14 = .ok (.aload_n 0, 1) := by decide +kernel
theorem dX1_far_15 : decode cX1_far 15 = .ok (.aload_n 0, 1) := by decide +kernel
theorem dX1_far_16 : decode cX1_far 16 = .ok (.getfield 13, 3) := by decide +kernel
theorem dX1_far_19 : decode cX1_far 19 = .ok (.iload_n 1, 1) := by decide +kernel
theorem dX1_far_20 : decode cX1_far 20 = .ok (.invokevirtual 134, 3) := by decide +kernel
theorem dX1_far_23 : decode cX1_far 23 = .ok (.goto 8, 3) := by decide +kernel
theorem dX1_far_26 : decode cX1_far 26 = .ok (.aload_n 0, 1) := by decide +kernel
theorem dX1_far_27 : decode cX1_far 27 = .ok (.iconst 1, 1) := by decide +kernel
theorem dX1_far_28 : decode cX1_far 28 = .ok (.invokevirtual 82, 3) := by decide +kernel
theorem dX1_far_31 : decode cX1_far 31 = .ok (.ireturn, 1) := by decide +kernel
set_option maxRecDepth 20000 in
theorem ggX1_first_X1_isIn : GoodIn wsX1_first wsX1_isIn := goodIn_r _ [6] (by decide +kernel) (by decide +kernel)
set_option maxRecDepth 20000 in
theorem gX1_first_X1_isIn : GoodIn wsX1_first (va_wsS RX1 40 yX1_isIn wsX1_isIn) := goodIn_app (goodIn_of _ (by decide +kernel)) ggX1_first_X1_isIn
set_option maxRecDepth 20000 in
theorem ggX1_first_X1_no : GoodIn wsX1_first wsX1_no := goodIn_r _ [10, 1, 35, 36, 37, 38, 39, 40, 41] (by decide +kernel) (by decide +kernel)
set_option maxRecDepth 20000 in
theorem gX1_first_X1_no : GoodIn wsX1_first (wsV RX1 82 RX1 yX1_no wsX1_no) := goodIn_app (goodIn_of _ (by decide +kernel)) ggX1_first_X1_no
set_option maxRecDepth 20000 in
theorem ggX1_first_X1_farOf : GoodIn wsX1_first wsX1_farOf := goodIn_r _ [14, 15, 16, 17, 5, 18, 19, 20, 21, 22, 23, 24, 25, 26, 35, 36, 37, 38, 39, 40, 41] (by decide +kernel) (by decide +kernel)
set_option maxRecDepth 20000 in
theorem gX1_first_X1_farOf : GoodIn wsX1_first (wsV RX1 134 RX1 yX1_farOf wsX1_farOf) := goodIn_app (goodIn_of _ (by decide +kernel)) ggX1_first_X1_farOf
set_option maxRecDepth 20000 in
theorem ggX1_first_X1_turned : GoodIn wsX1_first wsX1_turned := goodIn_r _ [30, 19, 31, 32, 5, 33, 34, 24, 25, 26, 35, 36, 37, 38, 39, 40, 41] (by decide +kernel) (by decide +kernel)
set_option maxRecDepth 20000 in
theorem gX1_first_X1_turned : GoodIn wsX1_first (wsV RX1 61 RX1 yX1_turned wsX1_turned) := goodIn_app (goodIn_of _ (by decide +kernel)) ggX1_first_X1_turned
set_option maxRecDepth 20000 in
theorem ggX1_first_X1_comes : GoodIn wsX1_first wsX1_comes := goodIn_r _ [18, 19, 20, 21, 22, 5, 23, 24, 25, 26, 15, 16, 17, 35, 36, 37, 38, 39, 40, 41] (by decide +kernel) (by decide +kernel)
set_option maxRecDepth 20000 in
theorem gX1_first_X1_comes : GoodIn wsX1_first (wsV RX1 78 RX1 yX1_comes wsX1_comes) := goodIn_app (goodIn_of _ (by decide +kernel)) ggX1_first_X1_comes
theorem dX1_first_0 : decode cX1_first 0 = .ok (.aload_n 0, 1) := by decide +kernel
theorem dX1_first_1 : decode cX1_first 1 = .ok (.iconst 0, 1) := by decide +kernel
theorem dX1_first_2 : decode cX1_first 2 = .ok (.putfield 36, 3) := by decide +kernel
theorem dX1_first_5 : decode cX1_first 5 = .ok (.iload_n 1, 1) := by decide +kernel
theorem dX1_first_6 : decode cX1_first 6 = .ok (.iconst 0, 1) := by decide +kernel
theorem dX1_first_7 : decode cX1_first 7 = .ok (.iconst 5, 1) := by decide +kernel
theorem dX1_first_8 : decode cX1_first 8 = .ok (.invokestatic 40, 3) := by decide +kernel
theorem dX1_first_11 : decode cX1_first 11 = .ok (.ifCond .ne 9, 3) := by decide +kernel
theorem dX1_first_14 : decode cX1_first 14 = .ok (.aload_n 0, 1) := by decide +kernel
theorem dX1_first_15 : decode cX1_first 15 = .ok (.iconst 1, 1) := by decide +kernel
theorem dX1_first_16 : decode cX1_first 16 = .ok (.invokevirtual 82, 3) := by decide +kernel
theorem dX1_first_19 : decode cX1_first 19 = .ok (.ireturn, 1) := by decide +kernel
theorem dX1_first_20 : decode cX1_first 20 = .ok (.aload_n 0, 1) := by decide +kernel
theorem dX1_first_21 : decode cX1_first 21 = .ok (.aload_n 0, 1) := by decide +kernel
theorem dX1_first_22 : decode cX1_first 22 = .ok (.getfield 13, 3) := by decide +kernel
theorem dX1_first_25 : decode cX1_first 25 = .ok (.iload_n 1, 1) := by decide +kernel
theorem dX1_first_26 : decode cX1_first 26 = .ok (.invokevirtual 134, 3) := by decide +kernel
theorem dX1_first_29 : decode cX1_first 29 = .ok (.istore_n 2, 1) := by decide +kernel
theorem dX1_first_30 : decode cX1_first 30 = .ok (.iconst 0, 1) := by decide +kernel
theorem dX1_first_31 : decode cX1_first 31 = .ok (.istore_n 3, 1) := by decide +kernel
theorem dX1_first_32 : decode cX1_first 32 = .ok (.iload_n 3, 1) := by decide +kernel
theorem dX1_first_33 : decode cX1_first 33 = .ok (.bipush 9, 2) := by decide +kernel
theorem dX1_first_35 : decode cX1_first 35 = .ok (.if_icmp .ge 37, 3) := by decide +kernel
theorem dX1_first_38 : decode cX1_first 38 = .ok (.iload_n 2, 1) := by decide +kernel
theorem dX1_first_39 : decode cX1_first 39 = .ok (.ifCond .le 33, 3) := by decide +kernel
theorem dX1_first_42 : decode cX1_first 42 = .ok (.aload_n 0, 1) := by decide +kernel
theorem dX1_first_43 : decode cX1_first 43 = .ok (.aload_n 0, 1) := by decide +kernel
theorem dX1_first_44 : decode cX1_first 44 = .ok (.aload_n 0, 1) := by decide +kernel
theorem dX1_first_45 : decode cX1_first 45 = .ok (.getfield 13, 3) := by decide +kernel
theorem dX1_first_48 : decode cX1_first 48 = .ok (.iload_n 3, 1) := by decide +kernel
theorem dX1_first_49 : decode cX1_first 49 = .ok (.invokevirtual 61, 3) := by decide +kernel
theorem dX1_first_52 : decode cX1_first 52 = .ok (.iload_n 2, 1) := by decide +kernel
theorem dX1_first_53 : decode cX1_first 53 = .ok (.iconst 1, 1) := by decide +kernel
theorem dX1_first_54 : decode cX1_first 54 = .ok (.isub, 1) := by decide +kernel
theorem dX1_first_55 : decode cX1_first 55 = .ok (.iload_n 3, 1) := by decide +kernel
theorem dX1_first_56 : decode cX1_first 56 = .ok (.iconst 3, 1) := by decide +kernel
theorem dX1_first_57 : decode cX1_first 57 = .ok (.idiv, 1) := by decide +kernel
theorem dX1_first_58 : decode cX1_first 58 = .ok (.invokevirtual 78, 3) := by decide +kernel
theorem dX1_first_61 : decode cX1_first 61 = .ok (.ifCond .eq 5, 3) := by decide +kernel
theorem dX1_first_64 : decode cX1_first 64 = .ok (.iload_n 3, 1) := by decide +kernel
theorem dX1_first_65 : decode cX1_first 65 = .ok (.ireturn, 1) := by decide +kernel
theorem dX1_first_66 : decode cX1_first 66 = .ok (.iinc 3 1, 3) := by decide +kernel
theorem dX1_first_69 : decode cX1_first 69 = .ok (.goto (-37), 3) := by decide +kernel
theorem dX1_first_72 : decode cX1_first 72 = .ok (.iconst (-1), 1) := by decide +kernel
theorem dX1_first_73 : decode cX1_first 73 = .ok (.ireturn, 1) := by decide +kernel
set_option maxRecDepth 20000 in
theorem ggX1_shortest_X1_isWord : GoodIn wsX1_shortest wsX1_isWord := goodIn_r _ [5, 6, 7, 4, 8] (by decide +kernel) (by decide +kernel)
set_option maxRecDepth 20000 in
theorem gX1_shortest_X1_isWord : GoodIn wsX1_shortest (va_wsS RX1 89 yX1_isWord wsX1_isWord) := goodIn_app (goodIn_of _ (by decide +kernel)) ggX1_shortest_X1_isWord
set_option maxRecDepth 20000 in
theorem ggX1_shortest_X1_no : GoodIn wsX1_shortest wsX1_no := goodIn_r _ [12, 1, 46, 47, 48, 49, 50, 51, 52] (by decide +kernel) (by decide +kernel)
set_option maxRecDepth 20000 in
theorem gX1_shortest_X1_no : GoodIn wsX1_shortest (wsV RX1 82 RX1 yX1_no wsX1_no) := goodIn_app (goodIn_of _ (by decide +kernel)) ggX1_shortest_X1_no
set_option maxRecDepth 20000 in
theorem ggX1_shortest_X1_isIn : GoodIn wsX1_shortest wsX1_isIn := goodIn_r _ [8] (by decide +kernel) (by decide +kernel)
set_option maxRecDepth 20000 in
theorem gX1_shortest_X1_isIn : GoodIn wsX1_shortest (va_wsS RX1 40 yX1_isIn wsX1_isIn) := goodIn_app (goodIn_of _ (by decide +kernel)) ggX1_shortest_X1_isIn
set_option maxRecDepth 20000 in
theorem ggX1_shortest_X1_rowOf : GoodIn wsX1_shortest wsX1_rowOf := goodIn_r _ [16, 17, 18, 19, 20, 4, 21, 22, 23, 24, 25, 26, 27, 28, 29, 30, 31, 32, 33, 46, 47, 48, 49, 50, 51, 52] (by decide +kernel) (by decide +kernel)
set_option maxRecDepth 20000 in
theorem gX1_shortest_X1_rowOf : GoodIn wsX1_shortest (wsV RX1 93 RX1 yX1_rowOf wsX1_rowOf) := goodIn_app (goodIn_of _ (by decide +kernel)) ggX1_shortest_X1_rowOf
set_option maxRecDepth 20000 in
theorem ggX1_shortest_X1_farOf : GoodIn wsX1_shortest wsX1_farOf := goodIn_r _ [37, 38, 39, 40, 4, 41, 27, 42, 43, 44, 45, 31, 32, 33, 46, 47, 48, 49, 50, 51, 52] (by decide +kernel) (by decide +kernel)
set_option maxRecDepth 20000 in
theorem gX1_shortest_X1_farOf : GoodIn wsX1_shortest (wsV RX1 134 RX1 yX1_farOf wsX1_farOf) := goodIn_app (goodIn_of _ (by decide +kernel)) ggX1_shortest_X1_farOf
theorem dX1_shortest_0 : decode cX1_shortest 0 = .ok (.aload_n 0, 1) := by decide +kernel
theorem dX1_shortest_1 : decode cX1_shortest 1 = .ok (.iconst 0, 1) := by decide +kernel
theorem dX1_shortest_2 : decode cX1_shortest 2 = .ok (.putfield 36, 3) := by decide +kernel
theorem dX1_shortest_5 : decode cX1_shortest 5 = .ok (.iload_n 1, 1) := by decide +kernel
theorem dX1_shortest_6 : decode cX1_shortest 6 = .ok (.invokestatic 89, 3) := by decide +kernel
theorem dX1_shortest_9 : decode cX1_shortest 9 = .ok (.ifCond .ne 9, 3) := by decide +kernel
theorem dX1_shortest_12 : decode cX1_shortest 12 = .ok (.aload_n 0, 1) := by decide +kernel
theorem dX1_shortest_13 : decode cX1_shortest 13 = .ok (.iconst 1, 1) := by decide +kernel
theorem dX1_shortest_14 : decode cX1_shortest 14 = .ok (.invokevirtual 82, 3) := by decide +kernel
theorem dX1_shortest_17 : decode cX1_shortest 17 = .ok (.ireturn, 1) := by decide +kernel
theorem dX1_shortest_18 : decode cX1_shortest 18 = .ok (.iload_n 2, 1) := by decide +kernel
theorem dX1_shortest_19 : decode cX1_shortest 19 = .ok (.iconst 0, 1) := by decide +kernel
theorem dX1_shortest_20 : decode cX1_shortest 20 = .ok (.iconst 5, 1) := by decide +kernel
theorem dX1_shortest_21 : decode cX1_shortest 21 = .ok (.invokestatic 40, 3) := by decide +kernel
theorem dX1_shortest_24 : decode cX1_shortest 24 = .ok (.ifCond .eq 16, 3) := by decide +kernel
theorem dX1_shortest_27 : decode cX1_shortest 27 = .ok (.aload_n 0, 1) := by decide +kernel
theorem dX1_shortest_28 : decode cX1_shortest 28 = .ok (.aload_n 0, 1) := by decide +kernel
theorem dX1_shortest_29 : decode cX1_shortest 29 = .ok (.iload_n 1, 1) := by decide +kernel
theorem dX1_shortest_30 : decode cX1_shortest 30 = .ok (.invokevirtual 93, 3) := by decide +kernel
theorem dX1_shortest_33 : decode cX1_shortest 33 = .ok (.iload_n 2, 1) := by decide +kernel
theorem dX1_shortest_34 : decode cX1_shortest 34 = .ok (.invokevirtual 134, 3) := by decide +kernel
theorem dX1_shortest_37 : decode cX1_shortest 37 = .ok (.goto 8, 3) := by decide +kernel
theorem dX1_shortest_40 : decode cX1_shortest 40 = .ok (.aload_n 0, 1) := by decide +kernel
theorem dX1_shortest_41 : decode cX1_shortest 41 = .ok (.iconst 2, 1) := by decide +kernel
theorem dX1_shortest_42 : decode cX1_shortest 42 = .ok (.invokevirtual 82, 3) := by decide +kernel
theorem dX1_shortest_45 : decode cX1_shortest 45 = .ok (.ireturn, 1) := by decide +kernel
set_option maxRecDepth 20000 in
theorem ggX1_advise_X1_turned : GoodIn wsX1_advise wsX1_turned := goodIn_r _ [7, 8, 9, 10, 6, 11, 12, 13, 14, 15, 19, 20, 21, 22, 23, 24, 25] (by decide +kernel) (by decide +kernel)
set_option maxRecDepth 20000 in
theorem gX1_advise_X1_turned : GoodIn wsX1_advise (wsV RX1 61 RX1 yX1_turned wsX1_turned) := goodIn_app (goodIn_of _ (by decide +kernel)) ggX1_advise_X1_turned
set_option maxRecDepth 20000 in
theorem ggX1_advise_X1_many : GoodIn wsX1_advise wsX1_many := goodIn_r _ [18] (by decide +kernel) (by decide +kernel)
set_option maxRecDepth 20000 in
theorem gX1_advise_X1_many : GoodIn wsX1_advise (va_wsS RX1 74 yX1_many wsX1_many) := goodIn_app (goodIn_of _ (by decide +kernel)) ggX1_advise_X1_many
theorem dX1_advise_0 : decode cX1_advise 0 = .ok (.aload_n 0, 1) := by decide +kernel
theorem dX1_advise_1 : decode cX1_advise 1 = .ok (.iconst 0, 1) := by decide +kernel
theorem dX1_advise_2 : decode cX1_advise 2 = .ok (.putfield 36, 3) := by decide +kernel
theorem dX1_advise_5 : decode cX1_advise 5 = .ok (.iconst 0, 1) := by decide +kernel
theorem dX1_advise_6 : decode cX1_advise 6 = .ok (.istore_n 1, 1) := by decide +kernel
theorem dX1_advise_7 : decode cX1_advise 7 = .ok (.iconst 1, 1) := by decide +kernel
theorem dX1_advise_8 : decode cX1_advise 8 = .ok (.istore_n 2, 1) := by decide +kernel
theorem dX1_advise_9 : decode cX1_advise 9 = .ok (.iload_n 2, 1) := by decide +kernel
theorem dX1_advise_10 : decode cX1_advise 10 = .ok (.bipush 9, 2) := by decide +kernel
theorem dX1_advise_12 : decode cX1_advise 12 = .ok (.if_icmp .ge 40, 3) := by decide +kernel
theorem dX1_advise_15 : decode cX1_advise 15 = .ok (.aload_n 0, 1) := by decide +kernel
theorem dX1_advise_16 : decode cX1_advise 16 = .ok (.aload_n 0, 1) := by decide +kernel
theorem dX1_advise_17 : decode cX1_advise 17 = .ok (.getfield 13, 3) := by decide +kernel
theorem dX1_advise_20 : decode cX1_advise 20 = .ok (.iload_n 2, 1) := by decide +kernel
theorem dX1_advise_21 : decode cX1_advise 21 = .ok (.invokevirtual 61, 3) := by decide +kernel
theorem dX1_advise_24 : decode cX1_advise 24 = .ok (.iconst 1, 1) := by decide +kernel
theorem dX1_advise_25 : decode cX1_advise 25 = .ok (.invokestatic 74, 3) := by decide +kernel
theorem dX1_advise_28 : decode cX1_advise 28 = .ok (.aload_n 0, 1) := by decide +kernel
theorem dX1_advise_29 : decode cX1_advise 29 = .ok (.aload_n 0, 1) := by decide +kernel
theorem dX1_advise_30 : decode cX1_advise 30 = .ok (.getfield 13, 3) := by decide +kernel
theorem dX1_advise_33 : decode cX1_advise 33 = .ok (.iload_n 1, 1) := by decide +kernel
theorem dX1_advise_34 : decode cX1_advise 34 = .ok (.invokevirtual 61, 3) := by decide +kernel
theorem dX1_advise_37 : decode cX1_advise 37 = .ok (.iconst 1, 1) := by decide +kernel
theorem dX1_advise_38 : decode cX1_advise 38 = .ok (.invokestatic 74, 3) := by decide +kernel
theorem dX1_advise_41 : decode cX1_advise 41 = .ok (.if_icmp .le 5, 3) := by decide +kernel
theorem dX1_advise_44 : decode cX1_advise 44 = .ok (.iload_n 2, 1) := by decide +kernel
theorem dX1_advise_45 : decode cX1_advise 45 = .ok (.istore_n 1, 1) := by decide +kernel
theorem dX1_advise_46 : decode cX1_advise 46 = .ok (.iinc 2 1, 3) := by decide +kernel
theorem dX1_advise_49 : decode cX1_advise 49 = .ok (.goto (-40), 3) := by decide +kernel
theorem dX1_advise_52 : decode cX1_advise 52 = .ok (.iload_n 1, 1) := by decide +kernel
theorem dX1_advise_53 : decode cX1_advise 53 = .ok (.ireturn, 1) := by decide +kernel
set_option maxRecDepth 20000 in
theorem ggX1_mean_X1_allTurns : GoodIn wsX1_mean wsX1_allTurns := goodIn_r _ [7, 8, 9, 10, 11, 12, 13, 14, 15] (by decide +kernel) (by decide +kernel)
set_option maxRecDepth 20000 in
theorem gX1_mean_X1_allTurns : GoodIn wsX1_mean (wsV RX1 124 RX1 yX1_allTurns wsX1_allTurns) := goodIn_app (goodIn_of _ (by decide +kernel)) ggX1_mean_X1_allTurns
theorem dX1_mean_0 : decode cX1_mean 0 = .ok (.aload_n 0, 1) := by decide +kernel
theorem dX1_mean_1 : decode cX1_mean 1 = .ok (.iconst 0, 1) := by decide +kernel
theorem dX1_mean_2 : decode cX1_mean 2 = .ok (.putfield 36, 3) := by decide +kernel
theorem dX1_mean_5 : decode cX1_mean 5 = .ok (.aload_n 0, 1) := by decide +kernel
theorem dX1_mean_6 : decode cX1_mean 6 = .ok (.invokevirtual 124, 3) := by decide +kernel
theorem dX1_mean_9 : decode cX1_mean 9 = .ok (.i2d, 1) := by decide +kernel
theorem dX1_mean_10 : decode cX1_mean 10 = .ok (.ldc2_w 137, 3) := by decide +kernel
theorem dX1_mean_13 : decode cX1_mean 13 = .ok (.ddiv, 1) := by decide +kernel
theorem dX1_mean_14 : decode cX1_mean 14 = .ok (.dreturn, 1) := by decide +kernel
set_option maxRecDepth 20000 in
theorem ggX1_digest_X1_counted : GoodIn wsX1_digest wsX1_counted := goodIn_r _ [10, 11, 12, 13, 14, 9, 15, 16, 17, 18, 19, 20, 21, 22, 23, 24, 25, 26, 27, 28, 29, 4, 60, 61, 62, 63, 64, 65, 66] (by decide +kernel) (by decide +kernel)
set_option maxRecDepth 20000 in
theorem gX1_digest_X1_counted : GoodIn wsX1_digest (wsV RX1 128 RX1 yX1_counted wsX1_counted) := goodIn_app (goodIn_of _ (by decide +kernel)) ggX1_digest_X1_counted
set_option maxRecDepth 20000 in
theorem ggX1_digest_X1_placeTold : GoodIn wsX1_digest wsX1_placeTold := goodIn_r _ [33, 12, 34, 35, 9, 36, 60, 61, 62, 63, 64, 65, 66] (by decide +kernel) (by decide +kernel)
set_option maxRecDepth 20000 in
theorem gX1_digest_X1_placeTold : GoodIn wsX1_digest (wsV RX1 113 RX1 yX1_placeTold wsX1_placeTold) := goodIn_app (goodIn_of _ (by decide +kernel)) ggX1_digest_X1_placeTold
set_option maxRecDepth 20000 in
theorem ggX1_digest_X1_wordTold : GoodIn wsX1_digest wsX1_wordTold := goodIn_r _ [40, 4, 41, 42, 43, 9, 44, 5, 45, 46, 47, 48, 49, 50, 51, 52, 53, 54, 55, 56, 57, 58, 59, 16, 17, 18, 19, 20, 21, 22, 23, 24, 25, 13, 14, 15, 60, 61, 62, 63, 64, 65, 66] (by decide +kernel) (by decide +kernel)
set_option maxRecDepth 20000 in
theorem gX1_digest_X1_wordTold : GoodIn wsX1_digest (wsV RX1 131 RX1 yX1_wordTold wsX1_wordTold) := goodIn_app (goodIn_of _ (by decide +kernel)) ggX1_digest_X1_wordTold
theorem dX1_digest_0 : decode cX1_digest 0 = .ok (.aload_n 0, 1) := by decide +kernel
theorem dX1_digest_1 : decode cX1_digest 1 = .ok (.iconst 0, 1) := by decide +kernel
theorem dX1_digest_2 : decode cX1_digest 2 = .ok (.putfield 36, 3) := by decide +kernel
theorem dX1_digest_5 : decode cX1_digest 5 = .ok (.ldc2_w 139, 3) := by decide +kernel
theorem dX1_digest_8 : decode cX1_digest 8 = .ok (.lstore_n 1, 1) := by decide +kernel
theorem dX1_digest_9 : decode cX1_digest 9 = .ok (.iconst 0, 1) := by decide +kernel
theorem dX1_digest_10 : decode cX1_digest 10 = .ok (.istore_n 3, 1) := by decide +kernel
theorem dX1_digest_11 : decode cX1_digest 11 = .ok (.iload_n 3, 1) := by decide +kernel
theorem dX1_digest_12 : decode cX1_digest 12 = .ok (.bipush 7, 2) := by decide +kernel
theorem dX1_digest_14 : decode cX1_digest 14 = .ok (.if_icmp .ge 22, 3) := by decide +kernel
theorem dX1_digest_17 : decode cX1_digest 17 = .ok (.lload_n 1, 1) := by decide +kernel
theorem dX1_digest_18 : decode cX1_digest 18 = .ok (.ldc2_w 141, 3) := by decide +kernel
theorem dX1_digest_21 : decode cX1_digest 21 = .ok (.lmul, 1) := by decide +kernel
theorem dX1_digest_22 : decode cX1_digest 22 = .ok (.aload_n 0, 1) := by decide +kernel
theorem dX1_digest_23 : decode cX1_digest 23 = .ok (.iload_n 3, 1) := by decide +kernel
theorem dX1_digest_24 : decode cX1_digest 24 = .ok (.invokevirtual 128, 3) := by decide +kernel
theorem dX1_digest_27 : decode cX1_digest 27 = .ok (.i2l, 1) := by decide +kernel
theorem dX1_digest_28 : decode cX1_digest 28 = .ok (.ladd, 1) := by decide +kernel
theorem dX1_digest_29 : decode cX1_digest 29 = .ok (.lstore_n 1, 1) := by decide +kernel
theorem dX1_digest_30 : decode cX1_digest 30 = .ok (.iinc 3 1, 3) := by decide +kernel
theorem dX1_digest_33 : decode cX1_digest 33 = .ok (.goto (-22), 3) := by decide +kernel
theorem dX1_digest_36 : decode cX1_digest 36 = .ok (.iconst 0, 1) := by decide +kernel
theorem dX1_digest_37 : decode cX1_digest 37 = .ok (.istore_n 3, 1) := by decide +kernel
theorem dX1_digest_38 : decode cX1_digest 38 = .ok (.iload_n 3, 1) := by decide +kernel
theorem dX1_digest_39 : decode cX1_digest 39 = .ok (.bipush 8, 2) := by decide +kernel
theorem dX1_digest_41 : decode cX1_digest 41 = .ok (.if_icmp .ge 39, 3) := by decide +kernel
theorem dX1_digest_44 : decode cX1_digest 44 = .ok (.iconst 0, 1) := by decide +kernel
theorem dX1_digest_45 : decode cX1_digest 45 = .ok (.istore 4, 2) := by decide +kernel
theorem dX1_digest_47 : decode cX1_digest 47 = .ok (.iload 4, 2) := by decide +kernel
theorem dX1_digest_49 : decode cX1_digest 49 = .ok (.iconst 3, 1) := by decide +kernel
theorem dX1_digest_50 : decode cX1_digest 50 = .ok (.if_icmp .ge 24, 3) := by decide +kernel
theorem dX1_digest_53 : decode cX1_digest 53 = .ok (.lload_n 1, 1) := by decide +kernel
theorem dX1_digest_54 : decode cX1_digest 54 = .ok (.ldc2_w 141, 3) := by decide +kernel
theorem dX1_digest_57 : decode cX1_digest 57 = .ok (.lmul, 1) := by decide +kernel
theorem dX1_digest_58 : decode cX1_digest 58 = .ok (.aload_n 0, 1) := by decide +kernel
theorem dX1_digest_59 : decode cX1_digest 59 = .ok (.iload_n 3, 1) := by decide +kernel
theorem dX1_digest_60 : decode cX1_digest 60 = .ok (.iload 4, 2) := by decide +kernel
theorem dX1_digest_62 : decode cX1_digest 62 = .ok (.invokevirtual 113, 3) := by decide +kernel
theorem dX1_digest_65 : decode cX1_digest 65 = .ok (.i2l, 1) := by decide +kernel
theorem dX1_digest_66 : decode cX1_digest 66 = .ok (.ladd, 1) := by decide +kernel
theorem dX1_digest_67 : decode cX1_digest 67 = .ok (.lstore_n 1, 1) := by decide +kernel
theorem dX1_digest_68 : decode cX1_digest 68 = .ok (.iinc 4 1, 3) := by decide +kernel
theorem dX1_digest_71 : decode cX1_digest 71 = .ok (.goto (-24), 3) := by decide +kernel
theorem dX1_digest_74 : decode cX1_digest 74 = .ok (.iinc 3 1, 3) := by decide +kernel
theorem dX1_digest_77 : decode cX1_digest 77 = .ok (.goto (-39), 3) := by decide +kernel
theorem dX1_digest_80 : decode cX1_digest 80 = .ok (.iconst 0, 1) := by decide +kernel
theorem dX1_digest_81 : decode cX1_digest 81 = .ok (.istore_n 3, 1) := by decide +kernel
theorem dX1_digest_82 : decode cX1_digest 82 = .ok (.iload_n 3, 1) := by decide +kernel
theorem dX1_digest_83 : decode cX1_digest 83 = .ok (.iconst 5, 1) := by decide +kernel
theorem dX1_digest_84 : decode cX1_digest 84 = .ok (.if_icmp .ge 79, 3) := by decide +kernel
theorem dX1_digest_87 : decode cX1_digest 87 = .ok (.iconst 0, 1) := by decide +kernel
theorem dX1_digest_88 : decode cX1_digest 88 = .ok (.istore 4, 2) := by decide +kernel
theorem dX1_digest_90 : decode cX1_digest 90 = .ok (.iload 4, 2) := by decide +kernel
theorem dX1_digest_92 : decode cX1_digest 92 = .ok (.iconst 4, 1) := by decide +kernel
theorem dX1_digest_93 : decode cX1_digest 93 = .ok (.if_icmp .ge 24, 3) := by decide +kernel
theorem dX1_digest_96 : decode cX1_digest 96 = .ok (.lload_n 1, 1) := by decide +kernel
theorem dX1_digest_97 : decode cX1_digest 97 = .ok (.ldc2_w 141, 3) := by decide +kernel
theorem dX1_digest_100 : decode cX1_digest 100 = .ok (.lmul, 1) := by decide +kernel
theorem dX1_digest_101 : decode cX1_digest 101 = .ok (.aload_n 0, 1) := by decide +kernel
theorem dX1_digest_102 : decode cX1_digest 102 = .ok (.iload_n 3, 1) := by decide +kernel
theorem dX1_digest_103 : decode cX1_digest 103 = .ok (.iload 4, 2) := by decide +kernel
theorem dX1_digest_105 : decode cX1_digest 105 = .ok (.invokevirtual 131, 3) := by decide +kernel
theorem dX1_digest_108 : decode cX1_digest 108 = .ok (.i2l, 1) := by decide +kernel
theorem dX1_digest_109 : decode cX1_digest 109 = .ok (.ladd, 1) := by decide +kernel
theorem dX1_digest_110 : decode cX1_digest 110 = .ok (.lstore_n 1, 1) := by decide +kernel
theorem dX1_digest_111 : decode cX1_digest 111 = .ok (.iinc 4 1, 3) := by decide +kernel
theorem dX1_digest_114 : decode cX1_digest 114 = .ok (.goto (-24), 3) := by decide +kernel
theorem dX1_digest_117 : decode cX1_digest 117 = .ok (.iconst 0, 1) := by decide +kernel
theorem dX1_digest_118 : decode cX1_digest 118 = .ok (.istore 4, 2) := by decide +kernel
theorem dX1_digest_120 : decode cX1_digest 120 = .ok (.iload 4, 2) := by decide +kernel
theorem dX1_digest_122 : decode cX1_digest 122 = .ok (.aload_n 0, 1) := by decide +kernel
theorem dX1_digest_123 : decode cX1_digest 123 = .ok (.getfield 26, 3) := by decide +kernel
theorem dX1_digest_126 : decode cX1_digest 126 = .ok (.iload_n 3, 1) := by decide +kernel
theorem dX1_digest_127 : decode cX1_digest 127 = .ok (.iaload, 1) := by decide +kernel
theorem dX1_digest_128 : decode cX1_digest 128 = .ok (.if_icmp .ge 29, 3) := by decide +kernel
theorem dX1_digest_131 : decode cX1_digest 131 = .ok (.lload_n 1, 1) := by decide +kernel
theorem dX1_digest_132 : decode cX1_digest 132 = .ok (.ldc2_w 141, 3) := by decide +kernel
theorem dX1_digest_135 : decode cX1_digest 135 = .ok (.lmul, 1) := by decide +kernel
theorem dX1_digest_136 : decode cX1_digest 136 = .ok (.aload_n 0, 1) := by decide +kernel
theorem dX1_digest_137 : decode cX1_digest 137 = .ok (.getfield 29, 3) := by decide +kernel
theorem dX1_digest_140 : decode cX1_digest 140 = .ok (.bipush 12, 2) := by decide +kernel
theorem dX1_digest_142 : decode cX1_digest 142 = .ok (.iload_n 3, 1) := by decide +kernel
theorem dX1_digest_143 : decode cX1_digest 143 = .ok (.imul, 1) := by decide +kernel
theorem dX1_digest_144 : decode cX1_digest 144 = .ok (.iload 4, 2) := by decide +kernel
theorem dX1_digest_146 : decode cX1_digest 146 = .ok (.iadd, 1) := by decide +kernel
theorem dX1_digest_147 : decode cX1_digest 147 = .ok (.iaload, 1) := by decide +kernel
theorem dX1_digest_148 : decode cX1_digest 148 = .ok (.i2l, 1) := by decide +kernel
theorem dX1_digest_149 : decode cX1_digest 149 = .ok (.ladd, 1) := by decide +kernel
theorem dX1_digest_150 : decode cX1_digest 150 = .ok (.lstore_n 1, 1) := by decide +kernel
theorem dX1_digest_151 : decode cX1_digest 151 = .ok (.iinc 4 1, 3) := by decide +kernel
theorem dX1_digest_154 : decode cX1_digest 154 = .ok (.goto (-34), 3) := by decide +kernel
theorem dX1_digest_157 : decode cX1_digest 157 = .ok (.iinc 3 1, 3) := by decide +kernel
theorem dX1_digest_160 : decode cX1_digest 160 = .ok (.goto (-78), 3) := by decide +kernel
theorem dX1_digest_163 : decode cX1_digest 163 = .ok (.lload_n 1, 1) := by decide +kernel
theorem dX1_digest_164 : decode cX1_digest 164 = .ok (.lreturn, 1) := by decide +kernel
theorem dJ9_min_7cf53_0 : decode cJ9_min_7cf53 0 = .ok (.iload_n 0, 1) := by decide +kernel
theorem dJ9_min_7cf53_1 : decode cJ9_min_7cf53 1 = .ok (.iload_n 1, 1) := by decide +kernel
theorem dJ9_min_7cf53_2 : decode cJ9_min_7cf53 2 = .ok (.if_icmp .gt 7, 3) := by decide +kernel
theorem dJ9_min_7cf53_5 : decode cJ9_min_7cf53 5 = .ok (.iload_n 0, 1) := by decide +kernel
theorem dJ9_min_7cf53_6 : decode cJ9_min_7cf53 6 = .ok (.goto 4, 3) := by decide +kernel
theorem dJ9_min_7cf53_9 : decode cJ9_min_7cf53 9 = .ok (.iload_n 1, 1) := by decide +kernel
theorem dJ9_min_7cf53_10 : decode cJ9_min_7cf53 10 = .ok (.ireturn, 1) := by decide +kernel
end
section
set_option maxRecDepth 20000 in
theorem ggL_turn_X0_turn : GoodIn wsL_turn wsX0_turn := goodIn_ca (goodIn_ca (goodIn_r _ [7, 8, 9, 10, 11, 6, 12, 13, 14, 15, 16, 17, 18, 19, 20, 21, 22, 23, 24, 25, 26, 27, 28, 29, 30, 31, 32, 33, 34, 35, 36, 37, 38, 39, 40, 41, 42, 43, 44, 45, 46, 47, 48, 49, 50, 51, 52, 53, 54, 55, 56, 57, 58, 59, 60, 61] (by decide +kernel) (by decide +kernel)) (goodIn_sub (fun _ h => List.mem_cons_of_mem _ (List.mem_append_left _ (List.mem_append_right _ h))) (by decide +kernel))) (goodIn_sub (fun _ h => List.mem_cons_of_mem _ (List.mem_append_right _ h)) (by decide +kernel))
set_option maxRecDepth 20000 in
theorem gL_turn_X0_turn : GoodIn wsL_turn (wsV RL 7 RX0 yX0_turn wsX0_turn) := goodIn_app (goodIn_of _ (by decide +kernel)) ggL_turn_X0_turn
theorem dL_turn_0 : decode cL_turn 0 = .ok (.aload_n 3, 1) := by decide +kernel
theorem dL_turn_1 : decode cL_turn 1 = .ok (.iconst 0, 1) := by decide +kernel
theorem dL_turn_2 : decode cL_turn 2 = .ok (.aload_n 0, 1) := by decide +kernel
theorem dL_turn_3 : decode cL_turn 3 = .ok (.iload_n 1, 1) := by decide +kernel
theorem dL_turn_4 : decode cL_turn 4 = .ok (.iload_n 2, 1) := by decide +kernel
theorem dL_turn_5 : decode cL_turn 5 = .ok (.invokevirtual 7, 3) := by decide +kernel
theorem dL_turn_8 : decode cL_turn 8 = .ok (.i2l, 1) := by decide +kernel
theorem dL_turn_9 : decode cL_turn 9 = .ok (.lastore, 1) := by decide +kernel
theorem dL_turn_10 : decode cL_turn 10 = .ok (.goto 11, 3) := by decide +kernel
theorem dL_turn_13 : decode cL_turn 13 = .ok (.astore 4, 2) := by decide +kernel
theorem dL_turn_15 : decode cL_turn 15 = .ok (.iconst 1, 1) := by decide +kernel
theorem dL_turn_16 : decode cL_turn 16 = .ok (.ireturn, 1) := by decide +kernel
theorem dL_turn_17 : decode cL_turn 17 = .ok (.astore 4, 2) := by decide +kernel
theorem dL_turn_19 : decode cL_turn 19 = .ok (.iconst 2, 1) := by decide +kernel
theorem dL_turn_20 : decode cL_turn 20 = .ok (.ireturn, 1) := by decide +kernel
theorem dL_turn_21 : decode cL_turn 21 = .ok (.iconst 0, 1) := by decide +kernel
theorem dL_turn_22 : decode cL_turn 22 = .ok (.ireturn, 1) := by decide +kernel
set_option maxRecDepth 20000 in
theorem ggL_play_X0_play : GoodIn wsL_play wsX0_play := goodIn_ca (goodIn_ca (goodIn_ca (goodIn_r _ [8, 9, 10, 11, 12, 13, 14, 15, 16, 17, 7, 18, 19, 20, 21, 22, 23, 24, 25, 26, 27, 28, 29, 30, 31, 32, 33, 34, 35, 36, 37, 38, 39, 40, 41, 42, 43, 44, 45, 46, 47, 48, 49, 50, 51, 52, 53, 54, 55, 56, 57, 58, 59, 60, 61, 62, 63, 64] (by decide +kernel) (by decide +kernel)) (goodIn_sub (fun _ h => List.mem_cons_of_mem _ (List.mem_append_left _ (List.mem_append_left _ (List.mem_append_right _ h)))) (by decide +kernel))) (goodIn_sub (fun _ h => List.mem_cons_of_mem _ (List.mem_append_left _ (List.mem_append_right _ h))) (by decide +kernel))) (goodIn_sub (fun _ h => List.mem_cons_of_mem _ (List.mem_append_right _ h)) (by decide +kernel))
set_option maxRecDepth 20000 in
theorem gL_play_X0_play : GoodIn wsL_play (wsV RL 17 RX0 yX0_play wsX0_play) := goodIn_app (goodIn_of _ (by decide +kernel)) ggL_play_X0_play
theorem dL_play_0 : decode cL_play 0 = .ok (.aload_n 3, 1) := by decide +kernel
theorem dL_play_1 : decode cL_play 1 = .ok (.iconst 0, 1) := by decide +kernel
theorem dL_play_2 : decode cL_play 2 = .ok (.aload_n 0, 1) := by decide +kernel
theorem dL_play_3 : decode cL_play 3 = .ok (.iload_n 1, 1) := by decide +kernel
theorem dL_play_4 : decode cL_play 4 = .ok (.iload_n 2, 1) := by decide +kernel
theorem dL_play_5 : decode cL_play 5 = .ok (.invokevirtual 17, 3) := by decide +kernel
theorem dL_play_8 : decode cL_play 8 = .ok (.i2l, 1) := by decide +kernel
theorem dL_play_9 : decode cL_play 9 = .ok (.lastore, 1) := by decide +kernel
theorem dL_play_10 : decode cL_play 10 = .ok (.goto 15, 3) := by decide +kernel
theorem dL_play_13 : decode cL_play 13 = .ok (.astore 4, 2) := by decide +kernel
theorem dL_play_15 : decode cL_play 15 = .ok (.iconst 1, 1) := by decide +kernel
theorem dL_play_16 : decode cL_play 16 = .ok (.ireturn, 1) := by decide +kernel
theorem dL_play_17 : decode cL_play 17 = .ok (.astore 4, 2) := by decide +kernel
theorem dL_play_19 : decode cL_play 19 = .ok (.iconst 2, 1) := by decide +kernel
theorem dL_play_20 : decode cL_play 20 = .ok (.ireturn, 1) := by decide +kernel
theorem dL_play_21 : decode cL_play 21 = .ok (.astore 4, 2) := by decide +kernel
theorem dL_play_23 : decode cL_play 23 = .ok (.iconst 3, 1) := by decide +kernel
theorem dL_play_24 : decode cL_play 24 = .ok (.ireturn, 1) := by decide +kernel
theorem dL_play_25 : decode cL_play 25 = .ok (.iconst 0, 1) := by decide +kernel
theorem dL_play_26 : decode cL_play 26 = .ok (.ireturn, 1) := by decide +kernel
set_option maxRecDepth 20000 in
theorem ggL_say_X0_say : GoodIn wsL_say wsX0_say := goodIn_ca (goodIn_ca (goodIn_ca (goodIn_r _ [8, 9, 10, 11, 12, 13, 14, 7, 15, 16, 17, 18, 19, 20, 21, 22, 23, 24, 25, 26, 27, 28, 29, 30, 31, 32] (by decide +kernel) (by decide +kernel)) (goodIn_sub (fun _ h => List.mem_cons_of_mem _ (List.mem_append_left _ (List.mem_append_left _ (List.mem_append_right _ h)))) (by decide +kernel))) (goodIn_sub (fun _ h => List.mem_cons_of_mem _ (List.mem_append_left _ (List.mem_append_right _ h))) (by decide +kernel))) (goodIn_sub (fun _ h => List.mem_cons_of_mem _ (List.mem_append_right _ h)) (by decide +kernel))
set_option maxRecDepth 20000 in
theorem gL_say_X0_say : GoodIn wsL_say (wsV RL 22 RX0 yX0_say wsX0_say) := goodIn_app (goodIn_of _ (by decide +kernel)) ggL_say_X0_say
theorem dL_say_0 : decode cL_say 0 = .ok (.aload 4, 2) := by decide +kernel
theorem dL_say_2 : decode cL_say 2 = .ok (.iconst 0, 1) := by decide +kernel
theorem dL_say_3 : decode cL_say 3 = .ok (.aload_n 0, 1) := by decide +kernel
theorem dL_say_4 : decode cL_say 4 = .ok (.iload_n 1, 1) := by decide +kernel
theorem dL_say_5 : decode cL_say 5 = .ok (.iload_n 2, 1) := by decide +kernel
theorem dL_say_6 : decode cL_say 6 = .ok (.iload_n 3, 1) := by decide +kernel
theorem dL_say_7 : decode cL_say 7 = .ok (.invokevirtual 22, 3) := by decide +kernel
theorem dL_say_10 : decode cL_say 10 = .ok (.i2l, 1) := by decide +kernel
theorem dL_say_11 : decode cL_say 11 = .ok (.lastore, 1) := by decide +kernel
theorem dL_say_12 : decode cL_say 12 = .ok (.goto 15, 3) := by decide +kernel
theorem dL_say_15 : decode cL_say 15 = .ok (.astore 5, 2) := by decide +kernel
theorem dL_say_17 : decode cL_say 17 = .ok (.iconst 1, 1) := by decide +kernel
theorem dL_say_18 : decode cL_say 18 = .ok (.ireturn, 1) := by decide +kernel
theorem dL_say_19 : decode cL_say 19 = .ok (.astore 5, 2) := by decide +kernel
theorem dL_say_21 : decode cL_say 21 = .ok (.iconst 2, 1) := by decide +kernel
theorem dL_say_22 : decode cL_say 22 = .ok (.ireturn, 1) := by decide +kernel
theorem dL_say_23 : decode cL_say 23 = .ok (.astore 5, 2) := by decide +kernel
theorem dL_say_25 : decode cL_say 25 = .ok (.iconst 3, 1) := by decide +kernel
theorem dL_say_26 : decode cL_say 26 = .ok (.ireturn, 1) := by decide +kernel
theorem dL_say_27 : decode cL_say 27 = .ok (.iconst 0, 1) := by decide +kernel
theorem dL_say_28 : decode cL_say 28 = .ok (.ireturn, 1) := by decide +kernel
set_option maxRecDepth 20000 in
theorem ggL_wipe_X0_wipe : GoodIn wsL_wipe wsX0_wipe := goodIn_ca (goodIn_r _ [6, 7, 8, 9, 5, 10, 11, 12, 13, 14, 15, 16] (by decide +kernel) (by decide +kernel)) (goodIn_sub (fun _ h => List.mem_cons_of_mem _ (List.mem_append_right _ h)) (by decide +kernel))
set_option maxRecDepth 20000 in
theorem gL_wipe_X0_wipe : GoodIn wsL_wipe (wsV RL 26 RX0 yX0_wipe wsX0_wipe) := goodIn_app (goodIn_of _ (by decide +kernel)) ggL_wipe_X0_wipe
theorem dL_wipe_0 : decode cL_wipe 0 = .ok (.aload_n 2, 1) := by decide +kernel
theorem dL_wipe_1 : decode cL_wipe 1 = .ok (.iconst 0, 1) := by decide +kernel
theorem dL_wipe_2 : decode cL_wipe 2 = .ok (.aload_n 0, 1) := by decide +kernel
theorem dL_wipe_3 : decode cL_wipe 3 = .ok (.iload_n 1, 1) := by decide +kernel
theorem dL_wipe_4 : decode cL_wipe 4 = .ok (.invokevirtual 26, 3) := by decide +kernel
theorem dL_wipe_7 : decode cL_wipe 7 = .ok (.i2l, 1) := by decide +kernel
theorem dL_wipe_8 : decode cL_wipe 8 = .ok (.lastore, 1) := by decide +kernel
theorem dL_wipe_9 : decode cL_wipe 9 = .ok (.goto 6, 3) := by decide +kernel
theorem dL_wipe_12 : decode cL_wipe 12 = .ok (.astore_n 3, 1) := by decide +kernel
theorem dL_wipe_13 : decode cL_wipe 13 = .ok (.iconst 1, 1) := by decide +kernel
theorem dL_wipe_14 : decode cL_wipe 14 = .ok (.ireturn, 1) := by decide +kernel
theorem dL_wipe_15 : decode cL_wipe 15 = .ok (.iconst 0, 1) := by decide +kernel
theorem dL_wipe_16 : decode cL_wipe 16 = .ok (.ireturn, 1) := by decide +kernel
set_option maxRecDepth 20000 in
theorem ggL_round_X0_round : GoodIn wsL_round wsX0_round := goodIn_ca (goodIn_r _ [6, 7, 8, 9, 10, 5, 11, 12, 13, 14, 15, 16, 17, 18, 19, 20, 21, 22, 23, 24, 25, 26, 27, 28, 29] (by decide +kernel) (by decide +kernel)) (goodIn_sub (fun _ h => List.mem_cons_of_mem _ (List.mem_append_right _ h)) (by decide +kernel))
set_option maxRecDepth 20000 in
theorem gL_round_X0_round : GoodIn wsL_round (wsV RL 30 RX0 yX0_round wsX0_round) := goodIn_app (goodIn_of _ (by decide +kernel)) ggL_round_X0_round
theorem dL_round_0 : decode cL_round 0 = .ok (.aload_n 2, 1) := by decide +kernel
theorem dL_round_1 : decode cL_round 1 = .ok (.iconst 0, 1) := by decide +kernel
theorem dL_round_2 : decode cL_round 2 = .ok (.aload_n 0, 1) := by decide +kernel
theorem dL_round_3 : decode cL_round 3 = .ok (.iload_n 1, 1) := by decide +kernel
theorem dL_round_4 : decode cL_round 4 = .ok (.invokevirtual 30, 3) := by decide +kernel
theorem dL_round_7 : decode cL_round 7 = .ok (.i2l, 1) := by decide +kernel
theorem dL_round_8 : decode cL_round 8 = .ok (.lastore, 1) := by decide +kernel
theorem dL_round_9 : decode cL_round 9 = .ok (.goto 6, 3) := by decide +kernel
theorem dL_round_12 : decode cL_round 12 = .ok (.astore_n 3, 1) := by decide +kernel
theorem dL_round_13 : decode cL_round 13 = .ok (.iconst 1, 1) := by decide +kernel
theorem dL_round_14 : decode cL_round 14 = .ok (.ireturn, 1) := by decide +kernel
theorem dL_round_15 : decode cL_round 15 = .ok (.iconst 0, 1) := by decide +kernel
theorem dL_round_16 : decode cL_round 16 = .ok (.ireturn, 1) := by decide +kernel
set_option maxRecDepth 20000 in
theorem ggL_join_X0_join : GoodIn wsL_join wsX0_join := goodIn_ca (goodIn_ca (goodIn_r _ [7, 8, 9, 10, 11, 12, 13, 6, 14, 15, 16, 17, 18, 19, 20] (by decide +kernel) (by decide +kernel)) (goodIn_sub (fun _ h => List.mem_cons_of_mem _ (List.mem_append_left _ (List.mem_append_right _ h))) (by decide +kernel))) (goodIn_sub (fun _ h => List.mem_cons_of_mem _ (List.mem_append_right _ h)) (by decide +kernel))
set_option maxRecDepth 20000 in
theorem gL_join_X0_join : GoodIn wsL_join (wsV RL 33 RX0 yX0_join wsX0_join) := goodIn_app (goodIn_of _ (by decide +kernel)) ggL_join_X0_join
theorem dL_join_0 : decode cL_join 0 = .ok (.aload_n 3, 1) := by decide +kernel
theorem dL_join_1 : decode cL_join 1 = .ok (.iconst 0, 1) := by decide +kernel
theorem dL_join_2 : decode cL_join 2 = .ok (.aload_n 0, 1) := by decide +kernel
theorem dL_join_3 : decode cL_join 3 = .ok (.iload_n 1, 1) := by decide +kernel
theorem dL_join_4 : decode cL_join 4 = .ok (.iload_n 2, 1) := by decide +kernel
theorem dL_join_5 : decode cL_join 5 = .ok (.invokevirtual 33, 3) := by decide +kernel
theorem dL_join_8 : decode cL_join 8 = .ok (.i2l, 1) := by decide +kernel
theorem dL_join_9 : decode cL_join 9 = .ok (.lastore, 1) := by decide +kernel
theorem dL_join_10 : decode cL_join 10 = .ok (.goto 11, 3) := by decide +kernel
theorem dL_join_13 : decode cL_join 13 = .ok (.astore 4, 2) := by decide +kernel
theorem dL_join_15 : decode cL_join 15 = .ok (.iconst 1, 1) := by decide +kernel
theorem dL_join_16 : decode cL_join 16 = .ok (.ireturn, 1) := by decide +kernel
theorem dL_join_17 : decode cL_join 17 = .ok (.astore 4, 2) := by decide +kernel
theorem dL_join_19 : decode cL_join 19 = .ok (.iconst 2, 1) := by decide +kernel
theorem dL_join_20 : decode cL_join 20 = .ok (.ireturn, 1) := by decide +kernel
theorem dL_join_21 : decode cL_join 21 = .ok (.iconst 0, 1) := by decide +kernel
theorem dL_join_22 : decode cL_join 22 = .ok (.ireturn, 1) := by decide +kernel
set_option maxRecDepth 20000 in
theorem ggL_tidy_X0_tidy : GoodIn wsL_tidy wsX0_tidy := goodIn_ca (goodIn_r _ [6, 7, 8, 9, 10, 5, 11, 12, 13, 14, 15, 16, 17, 18, 19, 20, 21, 22, 23, 24, 25, 26, 27, 28, 29] (by decide +kernel) (by decide +kernel)) (goodIn_sub (fun _ h => List.mem_cons_of_mem _ (List.mem_append_right _ h)) (by decide +kernel))
set_option maxRecDepth 20000 in
theorem gL_tidy_X0_tidy : GoodIn wsL_tidy (wsV RL 36 RX0 yX0_tidy wsX0_tidy) := goodIn_app (goodIn_of _ (by decide +kernel)) ggL_tidy_X0_tidy
theorem dL_tidy_0 : decode cL_tidy 0 = .ok (.aload_n 2, 1) := by decide +kernel
theorem dL_tidy_1 : decode cL_tidy 1 = .ok (.iconst 0, 1) := by decide +kernel
theorem dL_tidy_2 : decode cL_tidy 2 = .ok (.aload_n 0, 1) := by decide +kernel
theorem dL_tidy_3 : decode cL_tidy 3 = .ok (.iload_n 1, 1) := by decide +kernel
theorem dL_tidy_4 : decode cL_tidy 4 = .ok (.invokevirtual 36, 3) := by decide +kernel
theorem dL_tidy_7 : decode cL_tidy 7 = .ok (.i2l, 1) := by decide +kernel
theorem dL_tidy_8 : decode cL_tidy 8 = .ok (.lastore, 1) := by decide +kernel
theorem dL_tidy_9 : decode cL_tidy 9 = .ok (.goto 6, 3) := by decide +kernel
theorem dL_tidy_12 : decode cL_tidy 12 = .ok (.astore_n 3, 1) := by decide +kernel
theorem dL_tidy_13 : decode cL_tidy 13 = .ok (.iconst 1, 1) := by decide +kernel
theorem dL_tidy_14 : decode cL_tidy 14 = .ok (.ireturn, 1) := by decide +kernel
theorem dL_tidy_15 : decode cL_tidy 15 = .ok (.iconst 0, 1) := by decide +kernel
theorem dL_tidy_16 : decode cL_tidy 16 = .ok (.ireturn, 1) := by decide +kernel
set_option maxRecDepth 20000 in
theorem ggL_told_X0_told : GoodIn wsL_told wsX0_told := goodIn_ca (goodIn_r _ [6, 7, 8, 9, 5, 10, 11, 12, 13, 14, 15, 16, 17, 18, 19, 20, 21, 22, 23, 24, 25, 26, 27, 28] (by decide +kernel) (by decide +kernel)) (goodIn_sub (fun _ h => List.mem_cons_of_mem _ (List.mem_append_right _ h)) (by decide +kernel))
set_option maxRecDepth 20000 in
theorem gL_told_X0_told : GoodIn wsL_told (wsV RL 39 RX0 yX0_told wsX0_told) := goodIn_app (goodIn_of _ (by decide +kernel)) ggL_told_X0_told
theorem dL_told_0 : decode cL_told 0 = .ok (.aload_n 3, 1) := by decide +kernel
theorem dL_told_1 : decode cL_told 1 = .ok (.iconst 0, 1) := by decide +kernel
theorem dL_told_2 : decode cL_told 2 = .ok (.aload_n 0, 1) := by decide +kernel
theorem dL_told_3 : decode cL_told 3 = .ok (.iload_n 1, 1) := by decide +kernel
theorem dL_told_4 : decode cL_told 4 = .ok (.iload_n 2, 1) := by decide +kernel
theorem dL_told_5 : decode cL_told 5 = .ok (.invokevirtual 39, 3) := by decide +kernel
theorem dL_told_8 : decode cL_told 8 = .ok (.i2l, 1) := by decide +kernel
theorem dL_told_9 : decode cL_told 9 = .ok (.lastore, 1) := by decide +kernel
theorem dL_told_10 : decode cL_told 10 = .ok (.goto 7, 3) := by decide +kernel
theorem dL_told_13 : decode cL_told 13 = .ok (.astore 4, 2) := by decide +kernel
theorem dL_told_15 : decode cL_told 15 = .ok (.iconst 1, 1) := by decide +kernel
theorem dL_told_16 : decode cL_told 16 = .ok (.ireturn, 1) := by decide +kernel
theorem dL_told_17 : decode cL_told 17 = .ok (.iconst 0, 1) := by decide +kernel
theorem dL_told_18 : decode cL_told 18 = .ok (.ireturn, 1) := by decide +kernel
set_option maxRecDepth 20000 in
theorem ggL_where_X0_where : GoodIn wsL_where wsX0_where := goodIn_ca (goodIn_r _ [6, 7, 8, 9, 10, 11, 5, 12, 13, 14, 15, 16] (by decide +kernel) (by decide +kernel)) (goodIn_sub (fun _ h => List.mem_cons_of_mem _ (List.mem_append_right _ h)) (by decide +kernel))
set_option maxRecDepth 20000 in
theorem gL_where_X0_where : GoodIn wsL_where (wsV RL 42 RX0 yX0_where wsX0_where) := goodIn_app (goodIn_of _ (by decide +kernel)) ggL_where_X0_where
theorem dL_where_0 : decode cL_where 0 = .ok (.aload_n 2, 1) := by decide +kernel
theorem dL_where_1 : decode cL_where 1 = .ok (.iconst 0, 1) := by decide +kernel
theorem dL_where_2 : decode cL_where 2 = .ok (.aload_n 0, 1) := by decide +kernel
theorem dL_where_3 : decode cL_where 3 = .ok (.iload_n 1, 1) := by decide +kernel
theorem dL_where_4 : decode cL_where 4 = .ok (.invokevirtual 42, 3) := by decide +kernel
theorem dL_where_7 : decode cL_where 7 = .ok (.i2l, 1) := by decide +kernel
theorem dL_where_8 : decode cL_where 8 = .ok (.lastore, 1) := by decide +kernel
theorem dL_where_9 : decode cL_where 9 = .ok (.goto 6, 3) := by decide +kernel
theorem dL_where_12 : decode cL_where 12 = .ok (.astore_n 3, 1) := by decide +kernel
theorem dL_where_13 : decode cL_where 13 = .ok (.iconst 1, 1) := by decide +kernel
theorem dL_where_14 : decode cL_where 14 = .ok (.ireturn, 1) := by decide +kernel
theorem dL_where_15 : decode cL_where 15 = .ok (.iconst 0, 1) := by decide +kernel
theorem dL_where_16 : decode cL_where 16 = .ok (.ireturn, 1) := by decide +kernel
set_option maxRecDepth 20000 in
theorem ggL_count_X0_count : GoodIn wsL_count wsX0_count := goodIn_ca (goodIn_r _ [6, 7, 8, 9, 10, 5, 11, 12, 13, 14, 15, 16, 17, 18, 19, 20, 21, 22, 23, 24, 25, 26, 27, 28, 29, 30, 31, 32, 33, 34, 35, 36, 37, 38, 39, 40, 41, 42, 43, 44, 45, 46, 47, 48, 49, 50, 51, 52, 53, 54, 55] (by decide +kernel) (by decide +kernel)) (goodIn_sub (fun _ h => List.mem_cons_of_mem _ (List.mem_append_right _ h)) (by decide +kernel))
set_option maxRecDepth 20000 in
theorem gL_count_X0_count : GoodIn wsL_count (wsV RL 45 RX0 yX0_count wsX0_count) := goodIn_app (goodIn_of _ (by decide +kernel)) ggL_count_X0_count
theorem dL_count_0 : decode cL_count 0 = .ok (.aload_n 2, 1) := by decide +kernel
theorem dL_count_1 : decode cL_count 1 = .ok (.iconst 0, 1) := by decide +kernel
theorem dL_count_2 : decode cL_count 2 = .ok (.aload_n 0, 1) := by decide +kernel
theorem dL_count_3 : decode cL_count 3 = .ok (.iload_n 1, 1) := by decide +kernel
theorem dL_count_4 : decode cL_count 4 = .ok (.invokevirtual 45, 3) := by decide +kernel
theorem dL_count_7 : decode cL_count 7 = .ok (.i2l, 1) := by decide +kernel
theorem dL_count_8 : decode cL_count 8 = .ok (.lastore, 1) := by decide +kernel
theorem dL_count_9 : decode cL_count 9 = .ok (.goto 6, 3) := by decide +kernel
theorem dL_count_12 : decode cL_count 12 = .ok (.astore_n 3, 1) := by decide +kernel
theorem dL_count_13 : decode cL_count 13 = .ok (.iconst 1, 1) := by decide +kernel
theorem dL_count_14 : decode cL_count 14 = .ok (.ireturn, 1) := by decide +kernel
theorem dL_count_15 : decode cL_count 15 = .ok (.iconst 0, 1) := by decide +kernel
theorem dL_count_16 : decode cL_count 16 = .ok (.ireturn, 1) := by decide +kernel
set_option maxRecDepth 20000 in
theorem ggL_word_X0_word : GoodIn wsL_word wsX0_word := goodIn_ca (goodIn_r _ [6, 7, 8, 9, 5, 10, 11, 12, 13, 14, 15, 16, 17, 18, 19, 20, 21, 22, 23, 24, 25, 26, 27, 28, 29, 30, 31, 32, 33, 34, 35, 36, 37, 38, 39, 40, 41, 42, 43, 44, 45, 46, 47, 48, 49, 50, 51, 52, 53, 54, 55, 56, 57, 58, 59, 60, 61, 62, 63, 64, 65, 66, 67, 68, 69, 70, 71, 72, 73, 74, 75, 76] (by decide +kernel) (by decide +kernel)) (goodIn_sub (fun _ h => List.mem_cons_of_mem _ (List.mem_append_right _ h)) (by decide +kernel))
set_option maxRecDepth 20000 in
theorem gL_word_X0_word : GoodIn wsL_word (wsV RL 48 RX0 yX0_word wsX0_word) := goodIn_app (goodIn_of _ (by decide +kernel)) ggL_word_X0_word
theorem dL_word_0 : decode cL_word 0 = .ok (.aload_n 3, 1) := by decide +kernel
theorem dL_word_1 : decode cL_word 1 = .ok (.iconst 0, 1) := by decide +kernel
theorem dL_word_2 : decode cL_word 2 = .ok (.aload_n 0, 1) := by decide +kernel
theorem dL_word_3 : decode cL_word 3 = .ok (.iload_n 1, 1) := by decide +kernel
theorem dL_word_4 : decode cL_word 4 = .ok (.iload_n 2, 1) := by decide +kernel
theorem dL_word_5 : decode cL_word 5 = .ok (.invokevirtual 48, 3) := by decide +kernel
theorem dL_word_8 : decode cL_word 8 = .ok (.i2l, 1) := by decide +kernel
theorem dL_word_9 : decode cL_word 9 = .ok (.lastore, 1) := by decide +kernel
theorem dL_word_10 : decode cL_word 10 = .ok (.goto 7, 3) := by decide +kernel
theorem dL_word_13 : decode cL_word 13 = .ok (.astore 4, 2) := by decide +kernel
theorem dL_word_15 : decode cL_word 15 = .ok (.iconst 1, 1) := by decide +kernel
theorem dL_word_16 : decode cL_word 16 = .ok (.ireturn, 1) := by decide +kernel
theorem dL_word_17 : decode cL_word 17 = .ok (.iconst 0, 1) := by decide +kernel
theorem dL_word_18 : decode cL_word 18 = .ok (.ireturn, 1) := by decide +kernel
set_option maxRecDepth 20000 in
theorem ggL_at_X0_at : GoodIn wsL_at wsX0_at := goodIn_ca (goodIn_r _ [6, 7, 8, 9, 10, 11, 12, 5, 13, 14, 15, 16, 17] (by decide +kernel) (by decide +kernel)) (goodIn_sub (fun _ h => List.mem_cons_of_mem _ (List.mem_append_right _ h)) (by decide +kernel))
set_option maxRecDepth 20000 in
theorem gL_at_X0_at : GoodIn wsL_at (wsV RL 51 RX0 yX0_at wsX0_at) := goodIn_app (goodIn_of _ (by decide +kernel)) ggL_at_X0_at
theorem dL_at_0 : decode cL_at 0 = .ok (.aload_n 3, 1) := by decide +kernel
theorem dL_at_1 : decode cL_at 1 = .ok (.iconst 0, 1) := by decide +kernel
theorem dL_at_2 : decode cL_at 2 = .ok (.aload_n 0, 1) := by decide +kernel
theorem dL_at_3 : decode cL_at 3 = .ok (.iload_n 1, 1) := by decide +kernel
theorem dL_at_4 : decode cL_at 4 = .ok (.iload_n 2, 1) := by decide +kernel
theorem dL_at_5 : decode cL_at 5 = .ok (.invokevirtual 51, 3) := by decide +kernel
theorem dL_at_8 : decode cL_at 8 = .ok (.i2l, 1) := by decide +kernel
theorem dL_at_9 : decode cL_at 9 = .ok (.lastore, 1) := by decide +kernel
theorem dL_at_10 : decode cL_at 10 = .ok (.goto 7, 3) := by decide +kernel
theorem dL_at_13 : decode cL_at 13 = .ok (.astore 4, 2) := by decide +kernel
theorem dL_at_15 : decode cL_at 15 = .ok (.iconst 1, 1) := by decide +kernel
theorem dL_at_16 : decode cL_at 16 = .ok (.ireturn, 1) := by decide +kernel
theorem dL_at_17 : decode cL_at 17 = .ok (.iconst 0, 1) := by decide +kernel
theorem dL_at_18 : decode cL_at 18 = .ok (.ireturn, 1) := by decide +kernel
set_option maxRecDepth 20000 in
theorem ggL_same_X0_same : GoodIn wsL_same wsX0_same := goodIn_ca (goodIn_r _ [6, 7, 8, 5, 9, 10, 11, 12, 13, 14, 15, 16, 17, 18, 19, 20, 21, 22, 23, 24, 25, 26, 27, 28, 29, 30, 31, 32, 33, 34, 35, 36, 37, 38, 39, 40, 41, 42, 43, 44, 45, 46, 47, 48, 49, 50, 51, 52, 53, 54, 55] (by decide +kernel) (by decide +kernel)) (goodIn_sub (fun _ h => List.mem_cons_of_mem _ (List.mem_append_right _ h)) (by decide +kernel))
set_option maxRecDepth 20000 in
theorem gL_same_X0_same : GoodIn wsL_same (wsV RL 54 RX0 yX0_same wsX0_same) := goodIn_app (goodIn_of _ (by decide +kernel)) ggL_same_X0_same
theorem dL_same_0 : decode cL_same 0 = .ok (.aload_n 3, 1) := by decide +kernel
theorem dL_same_1 : decode cL_same 1 = .ok (.iconst 0, 1) := by decide +kernel
theorem dL_same_2 : decode cL_same 2 = .ok (.aload_n 0, 1) := by decide +kernel
theorem dL_same_3 : decode cL_same 3 = .ok (.iload_n 1, 1) := by decide +kernel
theorem dL_same_4 : decode cL_same 4 = .ok (.iload_n 2, 1) := by decide +kernel
theorem dL_same_5 : decode cL_same 5 = .ok (.invokevirtual 54, 3) := by decide +kernel
theorem dL_same_8 : decode cL_same 8 = .ok (.ifCond .eq 7, 3) := by decide +kernel
theorem dL_same_11 : decode cL_same 11 = .ok (.lconst 1, 1) := by decide +kernel
theorem dL_same_12 : decode cL_same 12 = .ok (.goto 4, 3) := by decide +kernel
theorem dL_same_15 : decode cL_same 15 = .ok (.lconst 0, 1) := by decide +kernel
theorem dL_same_16 : decode cL_same 16 = .ok (.lastore, 1) := by decide +kernel
theorem dL_same_17 : decode cL_same 17 = .ok (.goto 7, 3) := by decide +kernel
theorem dL_same_20 : decode cL_same 20 = .ok (.astore 4, 2) := by decide +kernel
theorem dL_same_22 : decode cL_same 22 = .ok (.iconst 1, 1) := by decide +kernel
theorem dL_same_23 : decode cL_same 23 = .ok (.ireturn, 1) := by decide +kernel
theorem dL_same_24 : decode cL_same 24 = .ok (.iconst 0, 1) := by decide +kernel
theorem dL_same_25 : decode cL_same 25 = .ok (.ireturn, 1) := by decide +kernel
set_option maxRecDepth 20000 in
theorem ggL_mixed_X0_mixed : GoodIn wsL_mixed wsX0_mixed := goodIn_ca (goodIn_r _ [6, 7, 8, 5, 9, 10, 11, 12, 13, 14, 15, 16, 17, 18, 19, 20, 21, 22, 23, 24, 25, 26, 27, 28, 29, 30, 31, 32, 33, 34, 35, 36, 37, 38, 39, 40, 41, 42, 43, 44, 45, 46, 47, 48, 49, 50, 51, 52, 53, 54, 55, 56, 57, 58, 59, 60, 61, 62, 63, 64, 65, 66, 67, 68, 69, 70, 71, 72, 73, 74] (by decide +kernel) (by decide +kernel)) (goodIn_sub (fun _ h => List.mem_cons_of_mem _ (List.mem_append_right _ h)) (by decide +kernel))
set_option maxRecDepth 20000 in
theorem gL_mixed_X0_mixed : GoodIn wsL_mixed (wsV RL 58 RX0 yX0_mixed wsX0_mixed) := goodIn_app (goodIn_of _ (by decide +kernel)) ggL_mixed_X0_mixed
theorem dL_mixed_0 : decode cL_mixed 0 = .ok (.aload_n 3, 1) := by decide +kernel
theorem dL_mixed_1 : decode cL_mixed 1 = .ok (.iconst 0, 1) := by decide +kernel
theorem dL_mixed_2 : decode cL_mixed 2 = .ok (.aload_n 0, 1) := by decide +kernel
theorem dL_mixed_3 : decode cL_mixed 3 = .ok (.iload_n 1, 1) := by decide +kernel
theorem dL_mixed_4 : decode cL_mixed 4 = .ok (.iload_n 2, 1) := by decide +kernel
theorem dL_mixed_5 : decode cL_mixed 5 = .ok (.invokevirtual 58, 3) := by decide +kernel
theorem dL_mixed_8 : decode cL_mixed 8 = .ok (.i2l, 1) := by decide +kernel
theorem dL_mixed_9 : decode cL_mixed 9 = .ok (.lastore, 1) := by decide +kernel
theorem dL_mixed_10 : decode cL_mixed 10 = .ok (.goto 7, 3) := by decide +kernel
theorem dL_mixed_13 : decode cL_mixed 13 = .ok (.astore 4, 2) := by decide +kernel
theorem dL_mixed_15 : decode cL_mixed 15 = .ok (.iconst 1, 1) := by decide +kernel
theorem dL_mixed_16 : decode cL_mixed 16 = .ok (.ireturn, 1) := by decide +kernel
theorem dL_mixed_17 : decode cL_mixed 17 = .ok (.iconst 0, 1) := by decide +kernel
theorem dL_mixed_18 : decode cL_mixed 18 = .ok (.ireturn, 1) := by decide +kernel
set_option maxRecDepth 20000 in
theorem ggL_would_X0_would : GoodIn wsL_would wsX0_would := goodIn_ca (goodIn_ca (goodIn_r _ [7, 8, 9, 10, 6, 11, 12, 13, 14, 15, 16, 17, 18, 19, 20, 21, 22, 23, 24, 25, 26, 27, 28, 29, 30, 31, 32, 33, 34, 35, 36, 37, 38, 39, 40, 41, 42, 43, 44, 45, 46, 47, 48, 49, 50, 51, 52, 53, 54, 55, 56, 57, 58, 59, 60] (by decide +kernel) (by decide +kernel)) (goodIn_sub (fun _ h => List.mem_cons_of_mem _ (List.mem_append_left _ (List.mem_append_right _ h))) (by decide +kernel))) (goodIn_sub (fun _ h => List.mem_cons_of_mem _ (List.mem_append_right _ h)) (by decide +kernel))
set_option maxRecDepth 20000 in
theorem gL_would_X0_would : GoodIn wsL_would (wsV RL 61 RX0 yX0_would wsX0_would) := goodIn_app (goodIn_of _ (by decide +kernel)) ggL_would_X0_would
theorem dL_would_0 : decode cL_would 0 = .ok (.aload_n 3, 1) := by decide +kernel
theorem dL_would_1 : decode cL_would 1 = .ok (.iconst 0, 1) := by decide +kernel
theorem dL_would_2 : decode cL_would 2 = .ok (.aload_n 0, 1) := by decide +kernel
theorem dL_would_3 : decode cL_would 3 = .ok (.iload_n 1, 1) := by decide +kernel
theorem dL_would_4 : decode cL_would 4 = .ok (.iload_n 2, 1) := by decide +kernel
theorem dL_would_5 : decode cL_would 5 = .ok (.invokevirtual 61, 3) := by decide +kernel
theorem dL_would_8 : decode cL_would 8 = .ok (.i2l, 1) := by decide +kernel
theorem dL_would_9 : decode cL_would 9 = .ok (.lastore, 1) := by decide +kernel
theorem dL_would_10 : decode cL_would 10 = .ok (.goto 11, 3) := by decide +kernel
theorem dL_would_13 : decode cL_would 13 = .ok (.astore 4, 2) := by decide +kernel
theorem dL_would_15 : decode cL_would 15 = .ok (.iconst 1, 1) := by decide +kernel
theorem dL_would_16 : decode cL_would 16 = .ok (.ireturn, 1) := by decide +kernel
theorem dL_would_17 : decode cL_would 17 = .ok (.astore 4, 2) := by decide +kernel
theorem dL_would_19 : decode cL_would 19 = .ok (.iconst 2, 1) := by decide +kernel
theorem dL_would_20 : decode cL_would 20 = .ok (.ireturn, 1) := by decide +kernel
theorem dL_would_21 : decode cL_would 21 = .ok (.iconst 0, 1) := by decide +kernel
theorem dL_would_22 : decode cL_would 22 = .ok (.ireturn, 1) := by decide +kernel
set_option maxRecDepth 20000 in
theorem ggL_far_X0_far : GoodIn wsL_far wsX0_far := goodIn_ca (goodIn_r _ [6, 7, 8, 9, 5, 10, 11, 12, 13, 14, 15, 16, 17, 18, 19, 20, 21, 22, 23, 24, 25, 26, 27, 28, 29, 30, 31, 32, 33, 34, 35, 36, 37, 38, 39, 40, 41, 42, 43, 44, 45, 46, 47, 48, 49, 50, 51, 52, 53, 54, 55, 56, 57, 58] (by decide +kernel) (by decide +kernel)) (goodIn_sub (fun _ h => List.mem_cons_of_mem _ (List.mem_append_right _ h)) (by decide +kernel))
set_option maxRecDepth 20000 in
theorem gL_far_X0_far : GoodIn wsL_far (wsV RL 64 RX0 yX0_far wsX0_far) := goodIn_app (goodIn_of _ (by decide +kernel)) ggL_far_X0_far
theorem dL_far_0 : decode cL_far 0 = .ok (.aload_n 2, 1) := by decide +kernel
theorem dL_far_1 : decode cL_far 1 = .ok (.iconst 0, 1) := by decide +kernel
theorem dL_far_2 : decode cL_far 2 = .ok (.aload_n 0, 1) := by decide +kernel
theorem dL_far_3 : decode cL_far 3 = .ok (.iload_n 1, 1) := by decide +kernel
theorem dL_far_4 : decode cL_far 4 = .ok (.invokevirtual 64, 3) := by decide +kernel
theorem dL_far_7 : decode cL_far 7 = .ok (.i2l, 1) := by decide +kernel
theorem dL_far_8 : decode cL_far 8 = .ok (.lastore, 1) := by decide +kernel
theorem dL_far_9 : decode cL_far 9 = .ok (.goto 6, 3) := by decide +kernel
theorem dL_far_12 : decode cL_far 12 = .ok (.astore_n 3, 1) := by decide +kernel
theorem dL_far_13 : decode cL_far 13 = .ok (.iconst 1, 1) := by decide +kernel
theorem dL_far_14 : decode cL_far 14 = .ok (.ireturn, 1) := by decide +kernel
theorem dL_far_15 : decode cL_far 15 = .ok (.iconst 0, 1) := by decide +kernel
theorem dL_far_16 : decode cL_far 16 = .ok (.ireturn, 1) := by decide +kernel
set_option maxRecDepth 20000 in
theorem ggL_first_X0_first : GoodIn wsL_first wsX0_first := goodIn_ca (goodIn_r _ [6, 7, 8, 9, 5, 10, 11, 12, 13, 14, 15, 16, 17, 18, 19, 20, 21, 22, 23, 24, 25, 26, 27, 28, 29, 30, 31, 32, 33, 34, 35, 36, 37, 38, 39, 40, 41, 42, 43, 44, 45, 46, 47, 48, 49, 50, 51, 52, 53, 54, 55, 56, 57, 58, 59, 60, 61, 62, 63, 64, 65, 66, 67] (by decide +kernel) (by decide +kernel)) (goodIn_sub (fun _ h => List.mem_cons_of_mem _ (List.mem_append_right _ h)) (by decide +kernel))
set_option maxRecDepth 20000 in
theorem gL_first_X0_first : GoodIn wsL_first (wsV RL 67 RX0 yX0_first wsX0_first) := goodIn_app (goodIn_of _ (by decide +kernel)) ggL_first_X0_first
theorem dL_first_0 : decode cL_first 0 = .ok (.aload_n 2, 1) := by decide +kernel
theorem dL_first_1 : decode cL_first 1 = .ok (.iconst 0, 1) := by decide +kernel
theorem dL_first_2 : decode cL_first 2 = .ok (.aload_n 0, 1) := by decide +kernel
theorem dL_first_3 : decode cL_first 3 = .ok (.iload_n 1, 1) := by decide +kernel
theorem dL_first_4 : decode cL_first 4 = .ok (.invokevirtual 67, 3) := by decide +kernel
theorem dL_first_7 : decode cL_first 7 = .ok (.i2l, 1) := by decide +kernel
theorem dL_first_8 : decode cL_first 8 = .ok (.lastore, 1) := by decide +kernel
theorem dL_first_9 : decode cL_first 9 = .ok (.goto 6, 3) := by decide +kernel
theorem dL_first_12 : decode cL_first 12 = .ok (.astore_n 3, 1) := by decide +kernel
theorem dL_first_13 : decode cL_first 13 = .ok (.iconst 1, 1) := by decide +kernel
theorem dL_first_14 : decode cL_first 14 = .ok (.ireturn, 1) := by decide +kernel
theorem dL_first_15 : decode cL_first 15 = .ok (.iconst 0, 1) := by decide +kernel
theorem dL_first_16 : decode cL_first 16 = .ok (.ireturn, 1) := by decide +kernel
set_option maxRecDepth 20000 in
theorem ggL_shortest_X0_shortest : GoodIn wsL_shortest wsX0_shortest := goodIn_ca (goodIn_ca (goodIn_r _ [7, 8, 9, 6, 10, 11, 12, 13, 14, 15, 16, 17, 18, 19, 20, 21, 22, 23, 24, 25, 26, 27, 28, 29, 30, 31, 32, 33, 34, 35, 36, 37, 38, 39, 40, 41, 42, 43, 44, 45, 46, 47, 48, 49, 50, 51, 52, 53, 54, 55, 56, 57, 58, 59, 60, 61, 62, 63, 64, 65, 66, 67, 68, 69, 70, 71, 72, 73, 74, 75, 76, 77, 78, 79, 80, 81, 82] (by decide +kernel) (by decide +kernel)) (goodIn_sub (fun _ h => List.mem_cons_of_mem _ (List.mem_append_left _ (List.mem_append_right _ h))) (by decide +kernel))) (goodIn_sub (fun _ h => List.mem_cons_of_mem _ (List.mem_append_right _ h)) (by decide +kernel))
set_option maxRecDepth 20000 in
theorem gL_shortest_X0_shortest : GoodIn wsL_shortest (wsV RL 70 RX0 yX0_shortest wsX0_shortest) := goodIn_app (goodIn_of _ (by decide +kernel)) ggL_shortest_X0_shortest
theorem dL_shortest_0 : decode cL_shortest 0 = .ok (.aload_n 3, 1) := by decide +kernel
theorem dL_shortest_1 : decode cL_shortest 1 = .ok (.iconst 0, 1) := by decide +kernel
theorem dL_shortest_2 : decode cL_shortest 2 = .ok (.aload_n 0, 1) := by decide +kernel
theorem dL_shortest_3 : decode cL_shortest 3 = .ok (.iload_n 1, 1) := by decide +kernel
theorem dL_shortest_4 : decode cL_shortest 4 = .ok (.iload_n 2, 1) := by decide +kernel
theorem dL_shortest_5 : decode cL_shortest 5 = .ok (.invokevirtual 70, 3) := by decide +kernel
theorem dL_shortest_8 : decode cL_shortest 8 = .ok (.i2l, 1) := by decide +kernel
theorem dL_shortest_9 : decode cL_shortest 9 = .ok (.lastore, 1) := by decide +kernel
theorem dL_shortest_10 : decode cL_shortest 10 = .ok (.goto 11, 3) := by decide +kernel
theorem dL_shortest_13 : decode cL_shortest 13 = .ok (.astore 4, 2) := by decide +kernel
theorem dL_shortest_15 : decode cL_shortest 15 = .ok (.iconst 1, 1) := by decide +kernel
theorem dL_shortest_16 : decode cL_shortest 16 = .ok (.ireturn, 1) := by decide +kernel
theorem dL_shortest_17 : decode cL_shortest 17 = .ok (.astore 4, 2) := by decide +kernel
theorem dL_shortest_19 : decode cL_shortest 19 = .ok (.iconst 2, 1) := by decide +kernel
theorem dL_shortest_20 : decode cL_shortest 20 = .ok (.ireturn, 1) := by decide +kernel
theorem dL_shortest_21 : decode cL_shortest 21 = .ok (.iconst 0, 1) := by decide +kernel
theorem dL_shortest_22 : decode cL_shortest 22 = .ok (.ireturn, 1) := by decide +kernel
set_option maxRecDepth 20000 in
theorem ggL_law_X0_init : GoodIn wsL_law wsX0_init := goodIn_r _ [9, 10, 11, 12, 13, 14, 15, 16, 17, 18, 19, 488, 489, 490, 491] (by decide +kernel) (by decide +kernel)
set_option maxRecDepth 20000 in
theorem gL_law_X0_init : GoodIn wsL_law (wsX0_init) := ggL_law_X0_init
set_option maxRecDepth 20000 in
theorem ggL_law_X1_init : GoodIn wsL_law wsX1_init := goodIn_r _ [22, 23, 11, 12, 24, 25, 26, 27, 17, 28, 29, 30, 31, 32, 5, 33, 34, 35, 36, 37, 38, 39, 40, 41, 42, 43, 44, 45, 46, 47, 492, 493, 494, 495, 496, 497, 498] (by decide +kernel) (by decide +kernel)
set_option maxRecDepth 20000 in
theorem gL_law_X1_init : GoodIn wsL_law (wsX1_init) := ggL_law_X1_init
set_option maxRecDepth 20000 in
theorem ggL_law_L_turn : GoodIn wsL_law wsL_turn := goodIn_ca (goodIn_ca (goodIn_r _ [51, 52, 53, 54, 55, 56, 2, 57, 14, 15, 58, 59, 60, 61, 62, 63, 64, 65, 66, 67, 68, 69, 70, 71, 72, 73, 74, 75, 76, 77, 78, 79, 80, 81, 82, 83, 84, 85, 86, 87, 88, 89, 90, 91, 92, 93, 94, 95, 96, 97, 98, 99, 100, 101, 102, 103, 104, 105, 488, 489, 490, 491] (by decide +kernel) (by decide +kernel)) (goodIn_sub (fun _ h => List.mem_append_left _ (List.mem_append_left _ (List.mem_append_right _ h))) (by decide +kernel))) (goodIn_sub (fun _ h => List.mem_append_left _ (List.mem_append_right _ h)) (by decide +kernel))
set_option maxRecDepth 20000 in
theorem gL_law_L_turn : GoodIn wsL_law (va_wsS RL 77 yL_turn wsL_turn) := goodIn_app (goodIn_of _ (by decide +kernel)) ggL_law_L_turn
set_option maxRecDepth 20000 in
theorem ggL_law_X1_turn : GoodIn wsL_law wsX1_turn := goodIn_r _ [109, 110, 24, 111, 112, 113, 5, 114, 115, 116, 117, 118, 119, 120, 121, 122, 26, 42, 43, 44, 17, 45, 46, 47, 123, 124, 125, 492, 493, 494, 495, 496, 497, 498] (by decide +kernel) (by decide +kernel)
set_option maxRecDepth 20000 in
theorem gL_law_X1_turn : GoodIn wsL_law (wsV RL 82 RX1 yX1_turn wsX1_turn) := goodIn_app (goodIn_of _ (by decide +kernel)) ggL_law_X1_turn
set_option maxRecDepth 20000 in
theorem ggL_law_X1_thrown : GoodIn wsL_law wsX1_thrown := goodIn_r _ [129, 110, 492, 493, 494, 495, 496, 497, 498] (by decide +kernel) (by decide +kernel)
set_option maxRecDepth 20000 in
theorem gL_law_X1_thrown : GoodIn wsL_law (wsV RL 83 RX1 yX1_thrown wsX1_thrown) := goodIn_app (goodIn_of _ (by decide +kernel)) ggL_law_X1_thrown
set_option maxRecDepth 20000 in
theorem ggL_law_L_play : GoodIn wsL_law wsL_play := goodIn_ca (goodIn_ca (goodIn_ca (goodIn_r _ [132, 52, 53, 133, 134, 135, 136, 2, 137, 66, 67, 138, 139, 19, 14, 15, 140, 141, 142, 61, 62, 143, 144, 145, 146, 18, 71, 72, 73, 74, 75, 76, 77, 78, 79, 80, 81, 82, 83, 84, 85, 86, 87, 88, 89, 90, 91, 92, 93, 94, 95, 96, 97, 98, 99, 100, 101, 102, 103, 104, 105, 488, 489, 490, 491] (by decide +kernel) (by decide +kernel)) (goodIn_sub (fun _ h => List.mem_append_left _ (List.mem_append_right _ h)) (by decide +kernel))) (goodIn_sub (fun _ h => List.mem_append_right _ h) (by decide +kernel))) (goodIn_sub (fun _ h => List.mem_append_left _ (List.mem_append_left _ (List.mem_append_right _ h))) (by decide +kernel))
set_option maxRecDepth 20000 in
theorem gL_law_L_play : GoodIn wsL_law (va_wsS RL 87 yL_play wsL_play) := goodIn_app (goodIn_of _ (by decide +kernel)) ggL_law_L_play
set_option maxRecDepth 20000 in
theorem ggL_law_X1_play : GoodIn wsL_law wsX1_play := goodIn_r _ [150, 110, 29, 24, 111, 151, 152, 5, 153, 112, 113, 114, 115, 116, 117, 118, 154, 155, 156, 157, 30, 31, 32, 33, 17, 119, 120, 121, 122, 26, 42, 43, 44, 45, 46, 47, 123, 124, 125, 492, 493, 494, 495, 496, 497, 498] (by decide +kernel) (by decide +kernel)
set_option maxRecDepth 20000 in
theorem gL_law_X1_play : GoodIn wsL_law (wsV RL 89 RX1 yX1_play wsX1_play) := goodIn_app (goodIn_of _ (by decide +kernel)) ggL_law_X1_play
set_option maxRecDepth 20000 in
theorem ggL_law_X0_reset : GoodIn wsL_law wsX0_reset := goodIn_r _ [161, 14, 13, 162, 163, 2, 164, 100, 101, 102, 103, 104, 105, 89, 90, 91, 92, 93, 94, 488, 489, 490, 491] (by decide +kernel) (by decide +kernel)
set_option maxRecDepth 20000 in
theorem gL_law_X0_reset : GoodIn wsL_law (wsV RL 90 RX0 yX0_reset wsX0_reset) := goodIn_app (goodIn_of _ (by decide +kernel)) ggL_law_X0_reset
set_option maxRecDepth 20000 in
theorem ggL_law_X1_reset : GoodIn wsL_law wsX1_reset := goodIn_r _ [168, 110, 24, 123, 124, 5, 125, 31, 32, 33, 17, 492, 493, 494, 495, 496, 497, 498] (by decide +kernel) (by decide +kernel)
set_option maxRecDepth 20000 in
theorem gL_law_X1_reset : GoodIn wsL_law (wsV RL 93 RX1 yX1_reset wsX1_reset) := goodIn_app (goodIn_of _ (by decide +kernel)) ggL_law_X1_reset
set_option maxRecDepth 20000 in
theorem ggL_law_L_say : GoodIn wsL_law wsL_say := goodIn_ca (goodIn_ca (goodIn_ca (goodIn_r _ [171, 52, 53, 133, 172, 173, 174, 2, 175, 138, 139, 19, 18, 140, 141, 142, 61, 62, 58, 59, 60, 63, 64, 65, 66, 67, 68, 69, 70, 488, 489, 490, 491] (by decide +kernel) (by decide +kernel)) (goodIn_sub (fun _ h => List.mem_append_right _ h) (by decide +kernel))) (goodIn_sub (fun _ h => List.mem_append_left _ (List.mem_append_left _ (List.mem_append_right _ h))) (by decide +kernel))) (goodIn_sub (fun _ h => List.mem_append_left _ (List.mem_append_right _ h)) (by decide +kernel))
set_option maxRecDepth 20000 in
theorem gL_law_L_say : GoodIn wsL_law (va_wsS RL 94 yL_say wsL_say) := goodIn_app (goodIn_of _ (by decide +kernel)) ggL_law_L_say
set_option maxRecDepth 20000 in
theorem ggL_law_X1_say : GoodIn wsL_law wsX1_say := goodIn_r _ [179, 110, 29, 151, 152, 5, 153, 112, 113, 114, 115, 116, 117, 118, 180, 181, 182, 183, 30, 492, 493, 494, 495, 496, 497, 498] (by decide +kernel) (by decide +kernel)
set_option maxRecDepth 20000 in
theorem gL_law_X1_say : GoodIn wsL_law (wsV RL 97 RX1 yX1_say wsX1_say) := goodIn_app (goodIn_of _ (by decide +kernel)) ggL_law_X1_say
set_option maxRecDepth 20000 in
theorem ggL_law_L_wipe : GoodIn wsL_law wsL_wipe := goodIn_ca (goodIn_r _ [186, 52, 187, 188, 189, 2, 190, 19, 140, 141, 142, 61, 62, 488, 489, 490, 491] (by decide +kernel) (by decide +kernel)) (goodIn_sub (fun _ h => List.mem_append_left _ (List.mem_append_left _ (List.mem_append_right _ h))) (by decide +kernel))
set_option maxRecDepth 20000 in
theorem gL_law_L_wipe : GoodIn wsL_law (va_wsS RL 98 yL_wipe wsL_wipe) := goodIn_app (goodIn_of _ (by decide +kernel)) ggL_law_L_wipe
set_option maxRecDepth 20000 in
theorem ggL_law_X1_wipe : GoodIn wsL_law wsX1_wipe := goodIn_r _ [194, 110, 29, 151, 152, 5, 153, 112, 113, 114, 115, 116, 117, 118, 492, 493, 494, 495, 496, 497, 498] (by decide +kernel) (by decide +kernel)
set_option maxRecDepth 20000 in
theorem gL_law_X1_wipe : GoodIn wsL_law (wsV RL 101 RX1 yX1_wipe wsX1_wipe) := goodIn_app (goodIn_of _ (by decide +kernel)) ggL_law_X1_wipe
set_option maxRecDepth 20000 in
theorem ggL_law_L_round : GoodIn wsL_law wsL_round := goodIn_ca (goodIn_r _ [197, 52, 198, 199, 200, 2, 201, 18, 19, 140, 141, 142, 61, 62, 202, 203, 204, 77, 78, 79, 74, 75, 76, 68, 69, 70, 488, 489, 490, 491] (by decide +kernel) (by decide +kernel)) (goodIn_sub (fun _ h => List.mem_append_left _ (List.mem_append_left _ (List.mem_append_right _ h))) (by decide +kernel))
set_option maxRecDepth 20000 in
theorem gL_law_L_round : GoodIn wsL_law (va_wsS RL 102 yL_round wsL_round) := goodIn_app (goodIn_of _ (by decide +kernel)) ggL_law_L_round
set_option maxRecDepth 20000 in
theorem ggL_law_X1_round : GoodIn wsL_law wsX1_round := goodIn_r _ [208, 110, 29, 151, 152, 5, 153, 112, 113, 114, 115, 116, 117, 118, 209, 210, 211, 212, 17, 30, 213, 214, 215, 216, 180, 181, 182, 183, 492, 493, 494, 495, 496, 497, 498] (by decide +kernel) (by decide +kernel)
set_option maxRecDepth 20000 in
theorem gL_law_X1_round : GoodIn wsL_law (wsV RL 104 RX1 yX1_round wsX1_round) := goodIn_app (goodIn_of _ (by decide +kernel)) ggL_law_X1_round
set_option maxRecDepth 20000 in
theorem ggL_law_L_join : GoodIn wsL_law wsL_join := goodIn_ca (goodIn_ca (goodIn_r _ [219, 52, 133, 220, 221, 222, 2, 223, 138, 139, 19, 18, 140, 141, 142, 61, 62, 488, 489, 490, 491] (by decide +kernel) (by decide +kernel)) (goodIn_sub (fun _ h => List.mem_append_right _ h) (by decide +kernel))) (goodIn_sub (fun _ h => List.mem_append_left _ (List.mem_append_left _ (List.mem_append_right _ h))) (by decide +kernel))
set_option maxRecDepth 20000 in
theorem gL_law_L_join : GoodIn wsL_law (va_wsS RL 105 yL_join wsL_join) := goodIn_app (goodIn_of _ (by decide +kernel)) ggL_law_L_join
set_option maxRecDepth 20000 in
theorem ggL_law_X1_join : GoodIn wsL_law wsX1_join := goodIn_r _ [227, 110, 29, 30, 151, 152, 5, 153, 112, 113, 114, 115, 116, 117, 118, 180, 181, 182, 183, 492, 493, 494, 495, 496, 497, 498] (by decide +kernel) (by decide +kernel)
set_option maxRecDepth 20000 in
theorem gL_law_X1_join : GoodIn wsL_law (wsV RL 107 RX1 yX1_join wsX1_join) := goodIn_app (goodIn_of _ (by decide +kernel)) ggL_law_X1_join
set_option maxRecDepth 20000 in
theorem ggL_law_L_tidy : GoodIn wsL_law wsL_tidy := goodIn_ca (goodIn_r _ [230, 52, 231, 232, 233, 2, 234, 19, 18, 140, 141, 142, 61, 62, 235, 236, 237, 77, 78, 79, 74, 75, 76, 68, 69, 70, 488, 489, 490, 491] (by decide +kernel) (by decide +kernel)) (goodIn_sub (fun _ h => List.mem_append_left _ (List.mem_append_left _ (List.mem_append_right _ h))) (by decide +kernel))
set_option maxRecDepth 20000 in
theorem gL_law_L_tidy : GoodIn wsL_law (va_wsS RL 108 yL_tidy wsL_tidy) := goodIn_app (goodIn_of _ (by decide +kernel)) ggL_law_L_tidy
set_option maxRecDepth 20000 in
theorem ggL_law_X1_tidy : GoodIn wsL_law wsX1_tidy := goodIn_r _ [241, 110, 29, 30, 151, 152, 5, 153, 112, 113, 114, 115, 116, 117, 118, 209, 210, 211, 212, 17, 213, 214, 215, 216, 180, 181, 182, 183, 492, 493, 494, 495, 496, 497, 498] (by decide +kernel) (by decide +kernel)
set_option maxRecDepth 20000 in
theorem gL_law_X1_tidy : GoodIn wsL_law (wsV RL 110 RX1 yX1_tidy wsX1_tidy) := goodIn_app (goodIn_of _ (by decide +kernel)) ggL_law_X1_tidy
set_option maxRecDepth 20000 in
theorem ggL_law_L_told : GoodIn wsL_law wsL_told := goodIn_ca (goodIn_r _ [244, 52, 245, 246, 247, 2, 248, 14, 249, 250, 251, 61, 62, 252, 253, 254, 89, 90, 91, 92, 93, 94, 103, 104, 105, 488, 489, 490, 491] (by decide +kernel) (by decide +kernel)) (goodIn_sub (fun _ h => List.mem_append_left _ (List.mem_append_left _ (List.mem_append_right _ h))) (by decide +kernel))
set_option maxRecDepth 20000 in
theorem gL_law_L_told : GoodIn wsL_law (va_wsS RL 111 yL_told wsL_told) := goodIn_app (goodIn_of _ (by decide +kernel)) ggL_law_L_told
set_option maxRecDepth 20000 in
theorem ggL_law_X1_told : GoodIn wsL_law wsX1_told := goodIn_r _ [258, 110, 112, 113, 5, 114, 259, 260, 261, 262, 24, 263, 264, 265, 115, 116, 117, 118, 492, 493, 494, 495, 496, 497, 498] (by decide +kernel) (by decide +kernel)
set_option maxRecDepth 20000 in
theorem gL_law_X1_told : GoodIn wsL_law (wsV RL 113 RX1 yX1_told wsX1_told) := goodIn_app (goodIn_of _ (by decide +kernel)) ggL_law_X1_told
set_option maxRecDepth 20000 in
theorem ggL_law_L_where : GoodIn wsL_law wsL_where := goodIn_ca (goodIn_r _ [268, 52, 269, 270, 271, 2, 272, 61, 62, 14, 89, 90, 91, 488, 489, 490, 491] (by decide +kernel) (by decide +kernel)) (goodIn_sub (fun _ h => List.mem_append_left _ (List.mem_append_left _ (List.mem_append_right _ h))) (by decide +kernel))
set_option maxRecDepth 20000 in
theorem gL_law_L_where : GoodIn wsL_law (va_wsS RL 114 yL_where wsL_where) := goodIn_app (goodIn_of _ (by decide +kernel)) ggL_law_L_where
set_option maxRecDepth 20000 in
theorem ggL_law_X1_where : GoodIn wsL_law wsX1_where := goodIn_r _ [276, 110, 24, 112, 113, 5, 114, 277, 278, 279, 17, 115, 116, 117, 118, 492, 493, 494, 495, 496, 497, 498] (by decide +kernel) (by decide +kernel)
set_option maxRecDepth 20000 in
theorem gL_law_X1_where : GoodIn wsL_law (wsV RL 116 RX1 yX1_where wsX1_where) := goodIn_app (goodIn_of _ (by decide +kernel)) ggL_law_X1_where
set_option maxRecDepth 20000 in
theorem ggL_law_L_count : GoodIn wsL_law wsL_count := goodIn_ca (goodIn_r _ [282, 52, 283, 284, 285, 2, 286, 15, 14, 252, 253, 254, 61, 62, 100, 101, 102, 103, 104, 105, 89, 90, 91, 92, 93, 94, 287, 288, 289, 290, 291, 292, 293, 294, 295, 296, 297, 298, 13, 299, 300, 301, 95, 96, 97, 98, 99, 302, 303, 304, 305, 19, 488, 489, 490, 491] (by decide +kernel) (by decide +kernel)) (goodIn_sub (fun _ h => List.mem_append_left _ (List.mem_append_left _ (List.mem_append_right _ h))) (by decide +kernel))
set_option maxRecDepth 20000 in
theorem gL_law_L_count : GoodIn wsL_law (va_wsS RL 117 yL_count wsL_count) := goodIn_app (goodIn_of _ (by decide +kernel)) ggL_law_L_count
set_option maxRecDepth 20000 in
theorem ggL_law_X1_count : GoodIn wsL_law wsX1_count := goodIn_r _ [309, 110, 112, 113, 5, 114, 310, 311, 312, 313, 111, 24, 123, 124, 125, 314, 315, 316, 317, 318, 319, 320, 321, 322, 323, 324, 325, 326, 327, 29, 115, 116, 117, 118, 492, 493, 494, 495, 496, 497, 498] (by decide +kernel) (by decide +kernel)
set_option maxRecDepth 20000 in
theorem gL_law_X1_count : GoodIn wsL_law (wsV RL 119 RX1 yX1_count wsX1_count) := goodIn_app (goodIn_of _ (by decide +kernel)) ggL_law_X1_count
set_option maxRecDepth 20000 in
theorem ggL_law_L_word : GoodIn wsL_law wsL_word := goodIn_ca (goodIn_r _ [330, 52, 331, 332, 333, 2, 334, 19, 140, 141, 142, 61, 62, 252, 253, 254, 335, 336, 337, 338, 13, 143, 144, 145, 146, 18, 71, 72, 73, 74, 75, 76, 77, 78, 79, 80, 81, 82, 83, 84, 85, 86, 87, 88, 89, 90, 91, 92, 93, 94, 95, 96, 97, 98, 99, 296, 297, 298, 299, 300, 301, 162, 163, 164, 100, 101, 102, 103, 104, 105, 287, 288, 289, 488, 489, 490, 491] (by decide +kernel) (by decide +kernel)) (goodIn_sub (fun _ h => List.mem_append_left _ (List.mem_append_left _ (List.mem_append_right _ h))) (by decide +kernel))
set_option maxRecDepth 20000 in
theorem gL_law_L_word : GoodIn wsL_law (va_wsS RL 120 yL_word wsL_word) := goodIn_app (goodIn_of _ (by decide +kernel)) ggL_law_L_word
set_option maxRecDepth 20000 in
theorem ggL_law_X1_word : GoodIn wsL_law wsX1_word := goodIn_r _ [342, 110, 151, 152, 5, 153, 112, 113, 114, 343, 344, 345, 346, 29, 154, 155, 156, 157, 30, 31, 32, 33, 17, 119, 120, 121, 122, 26, 42, 43, 44, 45, 46, 47, 314, 315, 316, 317, 318, 319, 320, 321, 322, 323, 123, 124, 125, 115, 116, 117, 118, 492, 493, 494, 495, 496, 497, 498] (by decide +kernel) (by decide +kernel)
set_option maxRecDepth 20000 in
theorem gL_law_X1_word : GoodIn wsL_law (wsV RL 122 RX1 yX1_word wsX1_word) := goodIn_app (goodIn_of _ (by decide +kernel)) ggL_law_X1_word
set_option maxRecDepth 20000 in
theorem ggL_law_L_at : GoodIn wsL_law wsL_at := goodIn_ca (goodIn_r _ [349, 52, 350, 351, 352, 2, 353, 61, 62, 19, 18, 140, 141, 142, 488, 489, 490, 491] (by decide +kernel) (by decide +kernel)) (goodIn_sub (fun _ h => List.mem_append_left _ (List.mem_append_left _ (List.mem_append_right _ h))) (by decide +kernel))
set_option maxRecDepth 20000 in
theorem gL_law_L_at : GoodIn wsL_law (va_wsS RL 123 yL_at wsL_at) := goodIn_app (goodIn_of _ (by decide +kernel)) ggL_law_L_at
set_option maxRecDepth 20000 in
theorem ggL_law_X1_at : GoodIn wsL_law wsX1_at := goodIn_r _ [357, 110, 29, 30, 151, 152, 5, 153, 112, 113, 114, 115, 116, 117, 118, 492, 493, 494, 495, 496, 497, 498] (by decide +kernel) (by decide +kernel)
set_option maxRecDepth 20000 in
theorem gL_law_X1_at : GoodIn wsL_law (wsV RL 125 RX1 yX1_at wsX1_at) := goodIn_app (goodIn_of _ (by decide +kernel)) ggL_law_X1_at
set_option maxRecDepth 20000 in
theorem ggL_law_L_same : GoodIn wsL_law wsL_same := goodIn_ca (goodIn_r _ [360, 52, 361, 362, 363, 2, 364, 140, 141, 142, 61, 62, 335, 336, 337, 338, 13, 143, 144, 145, 146, 19, 18, 71, 72, 73, 74, 75, 76, 77, 78, 79, 80, 81, 82, 83, 84, 85, 86, 87, 88, 89, 90, 91, 92, 93, 94, 95, 96, 97, 98, 99, 488, 489, 490, 491] (by decide +kernel) (by decide +kernel)) (goodIn_sub (fun _ h => List.mem_append_left _ (List.mem_append_left _ (List.mem_append_right _ h))) (by decide +kernel))
set_option maxRecDepth 20000 in
theorem gL_law_L_same : GoodIn wsL_law (va_wsS RL 126 yL_same wsL_same) := goodIn_app (goodIn_of _ (by decide +kernel)) ggL_law_L_same
set_option maxRecDepth 20000 in
theorem ggL_law_X1_same : GoodIn wsL_law wsX1_same := goodIn_r _ [368, 110, 151, 152, 5, 153, 112, 113, 114, 115, 116, 117, 118, 154, 155, 156, 157, 29, 30, 31, 32, 33, 17, 119, 120, 121, 122, 26, 42, 43, 44, 45, 46, 47, 277, 278, 279, 123, 124, 125, 492, 493, 494, 495, 496, 497, 498] (by decide +kernel) (by decide +kernel)
set_option maxRecDepth 20000 in
theorem gL_law_X1_same : GoodIn wsL_law (wsV RL 128 RX1 yX1_same wsX1_same) := goodIn_app (goodIn_of _ (by decide +kernel)) ggL_law_X1_same
set_option maxRecDepth 20000 in
theorem ggL_law_L_mixed : GoodIn wsL_law wsL_mixed := goodIn_ca (goodIn_r _ [371, 52, 372, 373, 374, 2, 375, 140, 141, 142, 61, 62, 335, 336, 337, 338, 13, 143, 144, 145, 146, 19, 18, 71, 72, 73, 74, 75, 76, 77, 78, 79, 80, 81, 82, 83, 84, 85, 86, 87, 88, 89, 90, 91, 92, 93, 94, 95, 96, 97, 98, 99, 376, 377, 378, 379, 202, 203, 204, 68, 69, 70, 162, 163, 164, 100, 101, 102, 103, 104, 105, 488, 489, 490, 491] (by decide +kernel) (by decide +kernel)) (goodIn_sub (fun _ h => List.mem_append_left _ (List.mem_append_left _ (List.mem_append_right _ h))) (by decide +kernel))
set_option maxRecDepth 20000 in
theorem gL_law_L_mixed : GoodIn wsL_law (va_wsS RL 129 yL_mixed wsL_mixed) := goodIn_app (goodIn_of _ (by decide +kernel)) ggL_law_L_mixed
set_option maxRecDepth 20000 in
theorem ggL_law_X1_mixed : GoodIn wsL_law wsX1_mixed := goodIn_r _ [383, 110, 151, 152, 5, 153, 112, 113, 114, 115, 116, 117, 118, 154, 155, 156, 157, 29, 30, 31, 32, 33, 17, 119, 120, 121, 122, 26, 42, 43, 44, 45, 46, 47, 277, 278, 279, 123, 124, 125, 492, 493, 494, 495, 496, 497, 498] (by decide +kernel) (by decide +kernel)
set_option maxRecDepth 20000 in
theorem gL_law_X1_mixed : GoodIn wsL_law (wsV RL 131 RX1 yX1_mixed wsX1_mixed) := goodIn_app (goodIn_of _ (by decide +kernel)) ggL_law_X1_mixed
set_option maxRecDepth 20000 in
theorem ggL_law_L_would : GoodIn wsL_law wsL_would := goodIn_ca (goodIn_ca (goodIn_r _ [386, 52, 53, 387, 388, 389, 2, 390, 14, 58, 59, 60, 61, 62, 63, 64, 65, 66, 67, 68, 69, 70, 71, 72, 73, 74, 75, 76, 77, 78, 79, 80, 81, 82, 83, 84, 85, 86, 87, 88, 89, 90, 91, 92, 93, 94, 95, 96, 97, 98, 99, 100, 101, 102, 103, 104, 105, 488, 489, 490, 491] (by decide +kernel) (by decide +kernel)) (goodIn_sub (fun _ h => List.mem_append_left _ (List.mem_append_left _ (List.mem_append_right _ h))) (by decide +kernel))) (goodIn_sub (fun _ h => List.mem_append_left _ (List.mem_append_right _ h)) (by decide +kernel))
set_option maxRecDepth 20000 in
theorem gL_law_L_would : GoodIn wsL_law (va_wsS RL 132 yL_would wsL_would) := goodIn_app (goodIn_of _ (by decide +kernel)) ggL_law_L_would
set_option maxRecDepth 20000 in
theorem ggL_law_X1_would : GoodIn wsL_law wsX1_would := goodIn_r _ [394, 110, 24, 112, 113, 5, 114, 115, 116, 117, 118, 119, 120, 121, 122, 26, 42, 43, 44, 17, 45, 46, 47, 123, 124, 125, 492, 493, 494, 495, 496, 497, 498] (by decide +kernel) (by decide +kernel)
set_option maxRecDepth 20000 in
theorem gL_law_X1_would : GoodIn wsL_law (wsV RL 134 RX1 yX1_would wsX1_would) := goodIn_app (goodIn_of _ (by decide +kernel)) ggL_law_X1_would
set_option maxRecDepth 20000 in
theorem ggL_law_L_far : GoodIn wsL_law wsL_far := goodIn_ca (goodIn_r _ [397, 53, 398, 399, 400, 2, 401, 14, 402, 403, 404, 66, 67, 405, 406, 407, 408, 409, 410, 13, 162, 163, 164, 100, 101, 102, 103, 104, 105, 89, 90, 91, 92, 93, 94, 411, 412, 413, 414, 415, 416, 80, 81, 82, 83, 84, 85, 86, 87, 88, 95, 96, 97, 98, 99, 488, 489, 490, 491] (by decide +kernel) (by decide +kernel)) (goodIn_sub (fun _ h => List.mem_append_left _ (List.mem_append_right _ h)) (by decide +kernel))
set_option maxRecDepth 20000 in
theorem gL_law_L_far : GoodIn wsL_law (va_wsS RL 135 yL_far wsL_far) := goodIn_app (goodIn_of _ (by decide +kernel)) ggL_law_L_far
set_option maxRecDepth 20000 in
theorem ggL_law_X1_far : GoodIn wsL_law wsX1_far := goodIn_r _ [420, 110, 24, 112, 113, 5, 114, 421, 422, 423, 424, 425, 426, 427, 428, 26, 28, 123, 124, 125, 45, 46, 47, 115, 116, 117, 118, 492, 493, 494, 495, 496, 497, 498] (by decide +kernel) (by decide +kernel)
set_option maxRecDepth 20000 in
theorem gL_law_X1_far : GoodIn wsL_law (wsV RL 137 RX1 yX1_far wsX1_far) := goodIn_app (goodIn_of _ (by decide +kernel)) ggL_law_X1_far
set_option maxRecDepth 20000 in
theorem ggL_law_L_first : GoodIn wsL_law wsL_first := goodIn_ca (goodIn_r _ [431, 53, 432, 433, 434, 2, 435, 14, 402, 403, 404, 66, 67, 405, 406, 407, 408, 409, 410, 13, 162, 163, 164, 100, 101, 102, 103, 104, 105, 89, 90, 91, 92, 93, 94, 411, 412, 413, 414, 415, 416, 80, 81, 82, 83, 84, 85, 86, 87, 88, 95, 96, 97, 98, 99, 71, 72, 73, 74, 75, 76, 77, 78, 79, 488, 489, 490, 491] (by decide +kernel) (by decide +kernel)) (goodIn_sub (fun _ h => List.mem_append_left _ (List.mem_append_right _ h)) (by decide +kernel))
set_option maxRecDepth 20000 in
theorem gL_law_L_first : GoodIn wsL_law (va_wsS RL 138 yL_first wsL_first) := goodIn_app (goodIn_of _ (by decide +kernel)) ggL_law_L_first
set_option maxRecDepth 20000 in
theorem ggL_law_X1_first : GoodIn wsL_law wsX1_first := goodIn_r _ [439, 110, 24, 112, 113, 5, 114, 115, 116, 117, 118, 421, 422, 423, 424, 425, 426, 427, 428, 26, 28, 123, 124, 125, 45, 46, 47, 119, 120, 121, 122, 42, 43, 44, 17, 492, 493, 494, 495, 496, 497, 498] (by decide +kernel) (by decide +kernel)
set_option maxRecDepth 20000 in
theorem gL_law_X1_first : GoodIn wsL_law (wsV RL 140 RX1 yX1_first wsX1_first) := goodIn_app (goodIn_of _ (by decide +kernel)) ggL_law_X1_first
set_option maxRecDepth 20000 in
theorem ggL_law_L_shortest : GoodIn wsL_law wsL_shortest := goodIn_ca (goodIn_ca (goodIn_r _ [442, 52, 53, 443, 444, 445, 2, 446, 140, 141, 142, 61, 62, 402, 403, 404, 66, 67, 335, 336, 337, 338, 13, 143, 144, 145, 146, 19, 18, 71, 72, 73, 74, 75, 76, 77, 78, 79, 80, 81, 82, 83, 84, 85, 86, 87, 88, 89, 90, 91, 92, 93, 94, 95, 96, 97, 98, 99, 405, 406, 407, 408, 409, 410, 162, 163, 164, 100, 101, 102, 103, 104, 105, 411, 412, 413, 414, 415, 416, 488, 489, 490, 491] (by decide +kernel) (by decide +kernel)) (goodIn_sub (fun _ h => List.mem_append_left _ (List.mem_append_left _ (List.mem_append_right _ h))) (by decide +kernel))) (goodIn_sub (fun _ h => List.mem_append_left _ (List.mem_append_right _ h)) (by decide +kernel))
set_option maxRecDepth 20000 in
theorem gL_law_L_shortest : GoodIn wsL_law (va_wsS RL 141 yL_shortest wsL_shortest) := goodIn_app (goodIn_of _ (by decide +kernel)) ggL_law_L_shortest
set_option maxRecDepth 20000 in
theorem ggL_law_X1_shortest : GoodIn wsL_law wsX1_shortest := goodIn_r _ [450, 110, 151, 152, 5, 153, 112, 113, 114, 115, 116, 117, 118, 154, 155, 156, 157, 29, 30, 31, 32, 33, 17, 119, 120, 121, 122, 26, 42, 43, 44, 45, 46, 47, 421, 422, 423, 424, 425, 426, 427, 428, 28, 123, 124, 125, 492, 493, 494, 495, 496, 497, 498] (by decide +kernel) (by decide +kernel)
set_option maxRecDepth 20000 in
theorem gL_law_X1_shortest : GoodIn wsL_law (wsV RL 143 RX1 yX1_shortest wsX1_shortest) := goodIn_app (goodIn_of _ (by decide +kernel)) ggL_law_X1_shortest
set_option maxRecDepth 20000 in
theorem ggL_law_X0_advise : GoodIn wsL_law wsX0_advise := goodIn_r _ [454, 14, 71, 72, 2, 73, 74, 75, 76, 77, 78, 79, 80, 81, 82, 83, 84, 85, 86, 87, 88, 89, 90, 91, 92, 93, 94, 95, 96, 97, 98, 99, 100, 101, 102, 103, 104, 105, 488, 489, 490, 491] (by decide +kernel) (by decide +kernel)
set_option maxRecDepth 20000 in
theorem gL_law_X0_advise : GoodIn wsL_law (wsV RL 144 RX0 yX0_advise wsX0_advise) := goodIn_app (goodIn_of _ (by decide +kernel)) ggL_law_X0_advise
set_option maxRecDepth 20000 in
theorem ggL_law_X1_advise : GoodIn wsL_law wsX1_advise := goodIn_r _ [458, 110, 24, 119, 120, 121, 5, 122, 26, 42, 43, 44, 17, 45, 46, 47, 123, 124, 125, 492, 493, 494, 495, 496, 497, 498] (by decide +kernel) (by decide +kernel)
set_option maxRecDepth 20000 in
theorem gL_law_X1_advise : GoodIn wsL_law (wsV RL 147 RX1 yX1_advise wsX1_advise) := goodIn_app (goodIn_of _ (by decide +kernel)) ggL_law_X1_advise
set_option maxRecDepth 20000 in
theorem ggL_law_X0_mean : GoodIn wsL_law wsX0_mean := goodIn_r _ [462, 463, 302, 303, 304, 2, 305, 19, 488, 489, 490, 491] (by decide +kernel) (by decide +kernel)
set_option maxRecDepth 20000 in
theorem gL_law_X0_mean : GoodIn wsL_law (wsV RL 148 RX0 yX0_mean wsX0_mean) := goodIn_app (goodIn_of _ (by decide +kernel)) ggL_law_X0_mean
set_option maxRecDepth 20000 in
theorem ggL_law_X1_mean : GoodIn wsL_law wsX1_mean := goodIn_r _ [467, 110, 468, 324, 325, 326, 5, 327, 29, 492, 493, 494, 495, 496, 497, 498] (by decide +kernel) (by decide +kernel)
set_option maxRecDepth 20000 in
theorem gL_law_X1_mean : GoodIn wsL_law (wsV RL 152 RX1 yX1_mean wsX1_mean) := goodIn_app (goodIn_of _ (by decide +kernel)) ggL_law_X1_mean
set_option maxRecDepth 20000 in
theorem ggL_law_X0_digest : GoodIn wsL_law wsX0_digest := goodIn_ca (goodIn_r _ [472, 473, 474, 475, 284, 285, 2, 286, 15, 14, 252, 253, 254, 61, 62, 100, 101, 102, 103, 104, 105, 89, 90, 91, 92, 93, 94, 287, 288, 289, 290, 291, 292, 293, 294, 295, 296, 297, 298, 13, 299, 300, 301, 95, 96, 97, 98, 99, 302, 303, 304, 305, 19, 476, 246, 247, 248, 249, 250, 251, 477, 478, 479, 480, 18, 481, 332, 333, 334, 140, 141, 142, 335, 336, 337, 338, 143, 144, 145, 146, 71, 72, 73, 74, 75, 76, 77, 78, 79, 80, 81, 82, 83, 84, 85, 86, 87, 88, 162, 163, 164, 488, 489, 490, 491] (by decide +kernel) (by decide +kernel)) (goodIn_sub (fun _ h => List.mem_append_left _ (List.mem_append_left _ (List.mem_append_right _ h))) (by decide +kernel))
set_option maxRecDepth 20000 in
theorem gL_law_X0_digest : GoodIn wsL_law (wsV RL 153 RX0 yX0_digest wsX0_digest) := goodIn_app (goodIn_of _ (by decide +kernel)) ggL_law_X0_digest
set_option maxRecDepth 20000 in
theorem ggL_law_X1_digest : GoodIn wsL_law wsX1_digest := goodIn_r _ [485, 110, 486, 487, 29, 30, 310, 311, 312, 5, 313, 111, 24, 123, 124, 125, 314, 315, 316, 317, 318, 319, 320, 321, 322, 323, 324, 325, 326, 327, 259, 260, 261, 262, 263, 264, 265, 343, 344, 345, 346, 154, 155, 156, 157, 31, 32, 33, 17, 119, 120, 121, 122, 26, 42, 43, 44, 45, 46, 47, 492, 493, 494, 495, 496, 497, 498] (by decide +kernel) (by decide +kernel)
set_option maxRecDepth 20000 in
theorem gL_law_X1_digest : GoodIn wsL_law (wsV RL 157 RX1 yX1_digest wsX1_digest) := goodIn_app (goodIn_of _ (by decide +kernel)) ggL_law_X1_digest
theorem dL_law_0 : decode cL_law 0 = .ok (.new 8, 3) := by decide +kernel
theorem dL_law_3 : decode cL_law 3 = .ok (.dup, 1) := by decide +kernel
theorem dL_law_4 : decode cL_law 4 = .ok (.invokespecial 73, 3) := by decide +kernel
theorem dL_law_7 : decode cL_law 7 = .ok (.astore_n 1, 1) := by decide +kernel
theorem dL_law_8 : decode cL_law 8 = .ok (.new 74, 3) := by decide +kernel
theorem dL_law_11 : decode cL_law 11 = .ok (.dup, 1) := by decide +kernel
theorem dL_law_12 : decode cL_law 12 = .ok (.invokespecial 76, 3) := by decide +kernel
theorem dL_law_15 : decode cL_law 15 = .ok (.astore_n 2, 1) := by decide +kernel
theorem dL_law_16 : decode cL_law 16 = .ok (.iconst 1, 1) := by decide +kernel
theorem dL_law_17 : decode cL_law 17 = .ok (.newarray .long, 2) := by decide +kernel
theorem dL_law_19 : decode cL_law 19 = .ok (.astore_n 3, 1) := by decide +kernel
theorem dL_law_20 : decode cL_law 20 = .ok (.iconst 0, 1) := by decide +kernel
theorem dL_law_21 : decode cL_law 21 = .ok (.istore 4, 2) := by decide +kernel
theorem dL_law_23 : decode cL_law 23 = .ok (.iload 4, 2) := by decide +kernel
theorem dL_law_25 : decode cL_law 25 = .ok (.aload_n 0, 1) := by decide +kernel
theorem dL_law_26 : decode cL_law 26 = .ok (.arraylength, 1) := by decide +kernel
theorem dL_law_27 : decode cL_law 27 = .ok (.iconst 4, 1) := by decide +kernel
theorem dL_law_28 : decode cL_law 28 = .ok (.isub, 1) := by decide +kernel
theorem dL_law_29 : decode cL_law 29 = .ok (.if_icmp .gt 1357, 3) := by decide +kernel
theorem dL_law_32 : decode cL_law 32 = .ok (.aload_n 0, 1) := by decide +kernel
theorem dL_law_33 : decode cL_law 33 = .ok (.iload 4, 2) := by decide +kernel
theorem dL_law_35 : decode cL_law 35 = .ok (.iaload, 1) := by decide +kernel
theorem dL_law_36 : decode cL_law 36 = .ok (.bipush 31, 2) := by decide +kernel
theorem dL_law_38 : decode cL_law 38 = .ok (.iand, 1) := by decide +kernel
theorem dL_law_39 : decode cL_law 39 = .ok (.tableswitch 1341 0 21 #[101, 169, 237, 250, 330, 386, 442, 510, 566, 634, 690, 746, 814, 882, 957, 1025, 1093, 1149, 1205, 1273, 1286, 1327], 101) := by decide +kernel
theorem dL_law_140 : decode cL_law 140 = .ok (.aload_n 1, 1) := by decide +kernel
theorem dL_law_141 : decode cL_law 141 = .ok (.aload_n 0, 1) := by decide +kernel
theorem dL_law_142 : decode cL_law 142 = .ok (.iload 4, 2) := by decide +kernel
theorem dL_law_144 : decode cL_law 144 = .ok (.iconst 1, 1) := by decide +kernel
theorem dL_law_145 : decode cL_law 145 = .ok (.iadd, 1) := by decide +kernel
theorem dL_law_146 : decode cL_law 146 = .ok (.iaload, 1) := by decide +kernel
theorem dL_law_147 : decode cL_law 147 = .ok (.aload_n 0, 1) := by decide +kernel
theorem dL_law_148 : decode cL_law 148 = .ok (.iload 4, 2) := by decide +kernel
theorem dL_law_150 : decode cL_law 150 = .ok (.iconst 2, 1) := by decide +kernel
theorem dL_law_151 : decode cL_law 151 = .ok (.iadd, 1) := by decide +kernel
theorem dL_law_152 : decode cL_law 152 = .ok (.iaload, 1) := by decide +kernel
theorem dL_law_153 : decode cL_law 153 = .ok (.aload_n 3, 1) := by decide +kernel
theorem dL_law_154 : decode cL_law 154 = .ok (.invokestatic 77, 3) := by decide +kernel
theorem dL_law_157 : decode cL_law 157 = .ok (.istore 5, 2) := by decide +kernel
theorem dL_law_159 : decode cL_law 159 = .ok (.aload_n 2, 1) := by decide +kernel
theorem dL_law_160 : decode cL_law 160 = .ok (.aload_n 0, 1) := by decide +kernel
theorem dL_law_161 : decode cL_law 161 = .ok (.iload 4, 2) := by decide +kernel
theorem dL_law_163 : decode cL_law 163 = .ok (.iconst 1, 1) := by decide +kernel
theorem dL_law_164 : decode cL_law 164 = .ok (.iadd, 1) := by decide +kernel
theorem dL_law_165 : decode cL_law 165 = .ok (.iaload, 1) := by decide +kernel
theorem dL_law_166 : decode cL_law 166 = .ok (.aload_n 0, 1) := by decide +kernel
theorem dL_law_167 : decode cL_law 167 = .ok (.iload 4, 2) := by decide +kernel
theorem dL_law_169 : decode cL_law 169 = .ok (.iconst 2, 1) := by decide +kernel
theorem dL_law_170 : decode cL_law 170 = .ok (.iadd, 1) := by decide +kernel
theorem dL_law_171 : decode cL_law 171 = .ok (.iaload, 1) := by decide +kernel
theorem dL_law_172 : decode cL_law 172 = .ok (.invokevirtual 82, 3) := by decide +kernel
theorem dL_law_175 : decode cL_law 175 = .ok (.istore 6, 2) := by decide +kernel
theorem dL_law_177 : decode cL_law 177 = .ok (.aload_n 2, 1) := by decide +kernel
theorem dL_law_178 : decode cL_law 178 = .ok (.invokevirtual 83, 3) := by decide +kernel
theorem dL_law_181 : decode cL_law 181 = .ok (.iload 5, 2) := by decide +kernel
theorem dL_law_183 : decode cL_law 183 = .ok (.if_icmp .eq 5, 3) := by decide +kernel
theorem dL_law_186 : decode cL_law 186 = .ok (.iconst 0, 1) := by decide +kernel
theorem dL_law_187 : decode cL_law 187 = .ok (.ireturn, 1) := by decide +kernel
theorem dL_law_188 : decode cL_law 188 = .ok (.iload 5, 2) := by decide +kernel
theorem dL_law_190 : decode cL_law 190 = .ok (.ifCond .ne 15, 3) := by decide +kernel
theorem dL_law_193 : decode cL_law 193 = .ok (.aload_n 3, 1) := by decide +kernel
theorem dL_law_194 : decode cL_law 194 = .ok (.iconst 0, 1) := by decide +kernel
theorem dL_law_195 : decode cL_law 195 = .ok (.laload, 1) := by decide +kernel
theorem dL_law_196 : decode cL_law 196 = .ok (.iload 6, 2) := by decide +kernel
theorem dL_law_198 : decode cL_law 198 = .ok (.i2l, 1) := by decide +kernel
theorem dL_law_199 : decode cL_law 199 = .ok (.lcmp, 1) := by decide +kernel
theorem dL_law_200 : decode cL_law 200 = .ok (.ifCond .eq 5, 3) := by decide +kernel
theorem dL_law_203 : decode cL_law 203 = .ok (.iconst 0, 1) := by decide +kernel
theorem dL_law_204 : decode cL_law 204 = .ok (.ireturn, 1) := by decide +kernel
theorem dL_law_205 : decode cL_law 205 = .ok (.goto 1175, 3) := by decide +kernel
theorem dL_law_208 : decode cL_law 208 = .ok (.aload_n 1, 1) := by decide +kernel
theorem dL_law_209 : decode cL_law 209 = .ok (.aload_n 0, 1) := by decide +kernel
theorem dL_law_210 : decode cL_law 210 = .ok (.iload 4, 2) := by decide +kernel
theorem dL_law_212 : decode cL_law 212 = .ok (.iconst 1, 1) := by decide +kernel
theorem dL_law_213 : decode cL_law 213 = .ok (.iadd, 1) := by decide +kernel
theorem dL_law_214 : decode cL_law 214 = .ok (.iaload, 1) := by decide +kernel
theorem dL_law_215 : decode cL_law 215 = .ok (.aload_n 0, 1) := by decide +kernel
theorem dL_law_216 : decode cL_law 216 = .ok (.iload 4, 2) := by decide +kernel
theorem dL_law_218 : decode cL_law 218 = .ok (.iconst 2, 1) := by decide +kernel
theorem dL_law_219 : decode cL_law 219 = .ok (.iadd, 1) := by decide +kernel
theorem dL_law_220 : decode cL_law 220 = .ok (.iaload, 1) := by decide +kernel
theorem dL_law_221 : decode cL_law 221 = .ok (.aload_n 3, 1) := by decide +kernel
theorem dL_law_222 : decode cL_law 222 = .ok (.invokestatic 87, 3) := by decide +kernel
theorem dL_law_225 : decode cL_law 225 = .ok (.istore 5, 2) := by decide +kernel
theorem dL_law_227 : decode cL_law 227 = .ok (.aload_n 2, 1) := by decide +kernel
theorem dL_law_228 : decode cL_law 228 = .ok (.aload_n 0, 1) := by decide +kernel
theorem dL_law_229 : decode cL_law 229 = .ok (.iload 4, 2) := by decide +kernel
theorem dL_law_231 : decode cL_law 231 = .ok (.iconst 1, 1) := by decide +kernel
theorem dL_law_232 : decode cL_law 232 = .ok (.iadd, 1) := by decide +kernel
theorem dL_law_233 : decode cL_law 233 = .ok (.iaload, 1) := by decide +kernel
theorem dL_law_234 : decode cL_law 234 = .ok (.aload_n 0, 1) := by decide +kernel
theorem dL_law_235 : decode cL_law 235 = .ok (.iload 4, 2) := by decide +kernel
theorem dL_law_237 : decode cL_law 237 = .ok (.iconst 2, 1) := by decide +kernel
theorem dL_law_238 : decode cL_law 238 = .ok (.iadd, 1) := by decide +kernel
theorem dL_law_239 : decode cL_law 239 = .ok (.iaload, 1) := by decide +kernel
theorem dL_law_240 : decode cL_law 240 = .ok (.invokevirtual 89, 3) := by decide +kernel
theorem dL_law_243 : decode cL_law 243 = .ok (.istore 6, 2) := by decide +kernel
theorem dL_law_245 : decode cL_law 245 = .ok (.aload_n 2, 1) := by decide +kernel
theorem dL_law_246 : decode cL_law 246 = .ok (.invokevirtual 83, 3) := by decide +kernel
theorem dL_law_249 : decode cL_law 249 = .ok (.iload 5, 2) := by decide +kernel
theorem dL_law_251 : decode cL_law 251 = .ok (.if_icmp .eq 5, 3) := by decide +kernel
theorem dL_law_254 : decode cL_law 254 = .ok (.iconst 0, 1) := by decide +kernel
theorem dL_law_255 : decode cL_law 255 = .ok (.ireturn, 1) := by decide +kernel
theorem dL_law_256 : decode cL_law 256 = .ok (.iload 5, 2) := by decide +kernel
theorem dL_law_258 : decode cL_law 258 = .ok (.ifCond .ne 15, 3) := by decide +kernel
theorem dL_law_261 : decode cL_law 261 = .ok (.aload_n 3, 1) := by decide +kernel
theorem dL_law_262 : decode cL_law 262 = .ok (.iconst 0, 1) := by decide +kernel
theorem dL_law_263 : decode cL_law 263 = .ok (.laload, 1) := by decide +kernel
theorem dL_law_264 : decode cL_law 264 = .ok (.iload 6, 2) := by decide +kernel
theorem dL_law_266 : decode cL_law 266 = .ok (.i2l, 1) := by decide +kernel
theorem dL_law_267 : decode cL_law 267 = .ok (.lcmp, 1) := by decide +kernel
theorem dL_law_268 : decode cL_law 268 = .ok (.ifCond .eq 5, 3) := by decide +kernel
theorem dL_law_271 : decode cL_law 271 = .ok (.iconst 0, 1) := by decide +kernel
theorem dL_law_272 : decode cL_law 272 = .ok (.ireturn, 1) := by decide +kernel
theorem dL_law_273 : decode cL_law 273 = .ok (.goto 1107, 3) := by decide +kernel
theorem dL_law_276 : decode cL_law 276 = .ok (.aload_n 1, 1) := by decide +kernel
theorem dL_law_277 : decode cL_law 277 = .ok (.invokevirtual 90, 3) := by decide +kernel
theorem dL_law_280 : decode cL_law 280 = .ok (.aload_n 2, 1) := by decide +kernel
theorem dL_law_281 : decode cL_law 281 = .ok (.invokevirtual 93, 3) := by decide +kernel
theorem dL_law_284 : decode cL_law 284 = .ok (.if_icmp .eq 1096, 3) := by decide +kernel
theorem dL_law_287 : decode cL_law 287 = .ok (.iconst 0, 1) := by decide +kernel
theorem dL_law_288 : decode cL_law 288 = .ok (.ireturn, 1) := by decide +kernel
theorem dL_law_289 : decode cL_law 289 = .ok (.aload_n 1, 1) := by decide +kernel
theorem dL_law_290 : decode cL_law 290 = .ok (.aload_n 0, 1) := by decide +kernel
theorem dL_law_291 : decode cL_law 291 = .ok (.iload 4, 2) := by decide +kernel
theorem dL_law_293 : decode cL_law 293 = .ok (.iconst 1, 1) := by decide +kernel
theorem dL_law_294 : decode cL_law 294 = .ok (.iadd, 1) := by decide +kernel
theorem dL_law_295 : decode cL_law 295 = .ok (.iaload, 1) := by decide +kernel
theorem dL_law_296 : decode cL_law 296 = .ok (.aload_n 0, 1) := by decide +kernel
theorem dL_law_297 : decode cL_law 297 = .ok (.iload 4, 2) := by decide +kernel
theorem dL_law_299 : decode cL_law 299 = .ok (.iconst 2, 1) := by decide +kernel
theorem dL_law_300 : decode cL_law 300 = .ok (.iadd, 1) := by decide +kernel
theorem dL_law_301 : decode cL_law 301 = .ok (.iaload, 1) := by decide +kernel
theorem dL_law_302 : decode cL_law 302 = .ok (.aload_n 0, 1) := by decide +kernel
theorem dL_law_303 : decode cL_law 303 = .ok (.iload 4, 2) := by decide +kernel
theorem dL_law_305 : decode cL_law 305 = .ok (.iconst 3, 1) := by decide +kernel
theorem dL_law_306 : decode cL_law 306 = .ok (.iadd, 1) := by decide +kernel
theorem dL_law_307 : decode cL_law 307 = .ok (.iaload, 1) := by decide +kernel
theorem dL_law_308 : decode cL_law 308 = .ok (.aload_n 3, 1) := by decide +kernel
theorem dL_law_309 : decode cL_law 309 = .ok (.invokestatic 94, 3) := by decide +kernel
theorem dL_law_312 : decode cL_law 312 = .ok (.istore 5, 2) := by decide +kernel
theorem dL_law_314 : decode cL_law 314 = .ok (.aload_n 2, 1) := by decide +kernel
theorem dL_law_315 : decode cL_law 315 = .ok (.aload_n 0, 1) := by decide +kernel
theorem dL_law_316 : decode cL_law 316 = .ok (.iload 4, 2) := by decide +kernel
theorem dL_law_318 : decode cL_law 318 = .ok (.iconst 1, 1) := by decide +kernel
theorem dL_law_319 : decode cL_law 319 = .ok (.iadd, 1) := by decide +kernel
theorem dL_law_320 : decode cL_law 320 = .ok (.iaload, 1) := by decide +kernel
theorem dL_law_321 : decode cL_law 321 = .ok (.aload_n 0, 1) := by decide +kernel
theorem dL_law_322 : decode cL_law 322 = .ok (.iload 4, 2) := by decide +kernel
theorem dL_law_324 : decode cL_law 324 = .ok (.iconst 2, 1) := by decide +kernel
theorem dL_law_325 : decode cL_law 325 = .ok (.iadd, 1) := by decide +kernel
theorem dL_law_326 : decode cL_law 326 = .ok (.iaload, 1) := by decide +kernel
theorem dL_law_327 : decode cL_law 327 = .ok (.aload_n 0, 1) := by decide +kernel
theorem dL_law_328 : decode cL_law 328 = .ok (.iload 4, 2) := by decide +kernel
theorem dL_law_330 : decode cL_law 330 = .ok (.iconst 3, 1) := by decide +kernel
theorem dL_law_331 : decode cL_law 331 = .ok (.iadd, 1) := by decide +kernel
theorem dL_law_332 : decode cL_law 332 = .ok (.iaload, 1) := by decide +kernel
theorem dL_law_333 : decode cL_law 333 = .ok (.invokevirtual 97, 3) := by decide +kernel
theorem dL_law_336 : decode cL_law 336 = .ok (.istore 6, 2) := by decide +kernel
theorem dL_law_338 : decode cL_law 338 = .ok (.aload_n 2, 1) := by decide +kernel
theorem dL_law_339 : decode cL_law 339 = .ok (.invokevirtual 83, 3) := by decide +kernel
theorem dL_law_342 : decode cL_law 342 = .ok (.iload 5, 2) := by decide +kernel
theorem dL_law_344 : decode cL_law 344 = .ok (.if_icmp .eq 5, 3) := by decide +kernel
theorem dL_law_347 : decode cL_law 347 = .ok (.iconst 0, 1) := by decide +kernel
theorem dL_law_348 : decode cL_law 348 = .ok (.ireturn, 1) := by decide +kernel
theorem dL_law_349 : decode cL_law 349 = .ok (.iload 5, 2) := by decide +kernel
theorem dL_law_351 : decode cL_law 351 = .ok (.ifCond .ne 15, 3) := by decide +kernel
theorem dL_law_354 : decode cL_law 354 = .ok (.aload_n 3, 1) := by decide +kernel
theorem dL_law_355 : decode cL_law 355 = .ok (.iconst 0, 1) := by decide +kernel
theorem dL_law_356 : decode cL_law 356 = .ok (.laload, 1) := by decide +kernel
theorem dL_law_357 : decode cL_law 357 = .ok (.iload 6, 2) := by decide +kernel
theorem dL_law_359 : decode cL_law 359 = .ok (.i2l, 1) := by decide +kernel
theorem dL_law_360 : decode cL_law 360 = .ok (.lcmp, 1) := by decide +kernel
theorem dL_law_361 : decode cL_law 361 = .ok (.ifCond .eq 5, 3) := by decide +kernel
theorem dL_law_364 : decode cL_law 364 = .ok (.iconst 0, 1) := by decide +kernel
theorem dL_law_365 : decode cL_law 365 = .ok (.ireturn, 1) := by decide +kernel
theorem dL_law_366 : decode cL_law 366 = .ok (.goto 1014, 3) := by decide +kernel
theorem dL_law_369 : decode cL_law 369 = .ok (.aload_n 1, 1) := by decide +kernel
theorem dL_law_370 : decode cL_law 370 = .ok (.aload_n 0, 1) := by decide +kernel
theorem dL_law_371 : decode cL_law 371 = .ok (.iload 4, 2) := by decide +kernel
theorem dL_law_373 : decode cL_law 373 = .ok (.iconst 1, 1) := by decide +kernel
theorem dL_law_374 : decode cL_law 374 = .ok (.iadd, 1) := by decide +kernel
theorem dL_law_375 : decode cL_law 375 = .ok (.iaload, 1) := by decide +kernel
theorem dL_law_376 : decode cL_law 376 = .ok (.aload_n 3, 1) := by decide +kernel
theorem dL_law_377 : decode cL_law 377 = .ok (.invokestatic 98, 3) := by decide +kernel
theorem dL_law_380 : decode cL_law 380 = .ok (.istore 5, 2) := by decide +kernel
theorem dL_law_382 : decode cL_law 382 = .ok (.aload_n 2, 1) := by decide +kernel
theorem dL_law_383 : decode cL_law 383 = .ok (.aload_n 0, 1) := by decide +kernel
theorem dL_law_384 : decode cL_law 384 = .ok (.iload 4, 2) := by decide +kernel
theorem dL_law_386 : decode cL_law 386 = .ok (.iconst 1, 1) := by decide +kernel
theorem dL_law_387 : decode cL_law 387 = .ok (.iadd, 1) := by decide +kernel
theorem dL_law_388 : decode cL_law 388 = .ok (.iaload, 1) := by decide +kernel
theorem dL_law_389 : decode cL_law 389 = .ok (.invokevirtual 101, 3) := by decide +kernel
theorem dL_law_392 : decode cL_law 392 = .ok (.istore 6, 2) := by decide +kernel
theorem dL_law_394 : decode cL_law 394 = .ok (.aload_n 2, 1) := by decide +kernel
theorem dL_law_395 : decode cL_law 395 = .ok (.invokevirtual 83, 3) := by decide +kernel
theorem dL_law_398 : decode cL_law 398 = .ok (.iload 5, 2) := by decide +kernel
theorem dL_law_400 : decode cL_law 400 = .ok (.if_icmp .eq 5, 3) := by decide +kernel
theorem dL_law_403 : decode cL_law 403 = .ok (.iconst 0, 1) := by decide +kernel
theorem dL_law_404 : decode cL_law 404 = .ok (.ireturn, 1) := by decide +kernel
theorem dL_law_405 : decode cL_law 405 = .ok (.iload 5, 2) := by decide +kernel
theorem dL_law_407 : decode cL_law 407 = .ok (.ifCond .ne 15, 3) := by decide +kernel
theorem dL_law_410 : decode cL_law 410 = .ok (.aload_n 3, 1) := by decide +kernel
theorem dL_law_411 : decode cL_law 411 = .ok (.iconst 0, 1) := by decide +kernel
theorem dL_law_412 : decode cL_law 412 = .ok (.laload, 1) := by decide +kernel
theorem dL_law_413 : decode cL_law 413 = .ok (.iload 6, 2) := by decide +kernel
theorem dL_law_415 : decode cL_law 415 = .ok (.i2l, 1) := by decide +kernel
theorem dL_law_416 : decode cL_law 416 = .ok (.lcmp, 1) := by decide +kernel
theorem dL_law_417 : decode cL_law 417 = .ok (.ifCond .eq 5, 3) := by decide +kernel
theorem dL_law_420 : decode cL_law 420 = .ok (.iconst 0, 1) := by decide +kernel
theorem dL_law_421 : decode cL_law 421 = .ok (.ireturn, 1) := by decide +kernel
theorem dL_law_422 : decode cL_law 422 = .ok (.goto 958, 3) := by decide +kernel
theorem dL_law_425 : decode cL_law 425 = .ok (.aload_n 1, 1) := by decide +kernel
theorem dL_law_426 : decode cL_law 426 = .ok (.aload_n 0, 1) := by decide +kernel
theorem dL_law_427 : decode cL_law 427 = .ok (.iload 4, 2) := by decide +kernel
theorem dL_law_429 : decode cL_law 429 = .ok (.iconst 1, 1) := by decide +kernel
theorem dL_law_430 : decode cL_law 430 = .ok (.iadd, 1) := by decide +kernel
theorem dL_law_431 : decode cL_law 431 = .ok (.iaload, 1) := by decide +kernel
theorem dL_law_432 : decode cL_law 432 = .ok (.aload_n 3, 1) := by decide +kernel
theorem dL_law_433 : decode cL_law 433 = .ok (.invokestatic 102, 3) := by decide +kernel
theorem dL_law_436 : decode cL_law 436 = .ok (.istore 5, 2) := by decide +kernel
theorem dL_law_438 : decode cL_law 438 = .ok (.aload_n 2, 1) := by decide +kernel
theorem dL_law_439 : decode cL_law 439 = .ok (.aload_n 0, 1) := by decide +kernel
theorem dL_law_440 : decode cL_law 440 = .ok (.iload 4, 2) := by decide +kernel
theorem dL_law_442 : decode cL_law 442 = .ok (.iconst 1, 1) := by decide +kernel
theorem dL_law_443 : decode cL_law 443 = .ok (.iadd, 1) := by decide +kernel
theorem dL_law_444 : decode cL_law 444 = .ok (.iaload, 1) := by decide +kernel
theorem dL_law_445 : decode cL_law 445 = .ok (.invokevirtual 104, 3) := by decide +kernel
theorem dL_law_448 : decode cL_law 448 = .ok (.istore 6, 2) := by decide +kernel
theorem dL_law_450 : decode cL_law 450 = .ok (.aload_n 2, 1) := by decide +kernel
theorem dL_law_451 : decode cL_law 451 = .ok (.invokevirtual 83, 3) := by decide +kernel
theorem dL_law_454 : decode cL_law 454 = .ok (.iload 5, 2) := by decide +kernel
theorem dL_law_456 : decode cL_law 456 = .ok (.if_icmp .eq 5, 3) := by decide +kernel
theorem dL_law_459 : decode cL_law 459 = .ok (.iconst 0, 1) := by decide +kernel
theorem dL_law_460 : decode cL_law 460 = .ok (.ireturn, 1) := by decide +kernel
theorem dL_law_461 : decode cL_law 461 = .ok (.iload 5, 2) := by decide +kernel
theorem dL_law_463 : decode cL_law 463 = .ok (.ifCond .ne 15, 3) := by decide +kernel
theorem dL_law_466 : decode cL_law 466 = .ok (.aload_n 3, 1) := by decide +kernel
theorem dL_law_467 : decode cL_law 467 = .ok (.iconst 0, 1) := by decide +kernel
theorem dL_law_468 : decode cL_law 468 = .ok (.laload, 1) := by decide +kernel
theorem dL_law_469 : decode cL_law 469 = .ok (.iload 6, 2) := by decide +kernel
theorem dL_law_471 : decode cL_law 471 = .ok (.i2l, 1) := by decide +kernel
theorem dL_law_472 : decode cL_law 472 = .ok (.lcmp, 1) := by decide +kernel
theorem dL_law_473 : decode cL_law 473 = .ok (.ifCond .eq 5, 3) := by decide +kernel
theorem dL_law_476 : decode cL_law 476 = .ok (.iconst 0, 1) := by decide +kernel
theorem dL_law_477 : decode cL_law 477 = .ok (.ireturn, 1) := by decide +kernel
theorem dL_law_478 : decode cL_law 478 = .ok (.goto 902, 3) := by decide +kernel
theorem dL_law_481 : decode cL_law 481 = .ok (.aload_n 1, 1) := by decide +kernel
theorem dL_law_482 : decode cL_law 482 = .ok (.aload_n 0, 1) := by decide +kernel
theorem dL_law_483 : decode cL_law 483 = .ok (.iload 4, 2) := by decide +kernel
theorem dL_law_485 : decode cL_law 485 = .ok (.iconst 1, 1) := by decide +kernel
theorem dL_law_486 : decode cL_law 486 = .ok (.iadd, 1) := by decide +kernel
theorem dL_law_487 : decode cL_law 487 = .ok (.iaload, 1) := by decide +kernel
theorem dL_law_488 : decode cL_law 488 = .ok (.aload_n 0, 1) := by decide +kernel
theorem dL_law_489 : decode cL_law 489 = .ok (.iload 4, 2) := by decide +kernel
theorem dL_law_491 : decode cL_law 491 = .ok (.iconst 2, 1) := by decide +kernel
theorem dL_law_492 : decode cL_law 492 = .ok (.iadd, 1) := by decide +kernel
theorem dL_law_493 : decode cL_law 493 = .ok (.iaload, 1) := by decide +kernel
theorem dL_law_494 : decode cL_law 494 = .ok (.aload_n 3, 1) := by decide +kernel
theorem dL_law_495 : decode cL_law 495 = .ok (.invokestatic 105, 3) := by decide +kernel
theorem dL_law_498 : decode cL_law 498 = .ok (.istore 5, 2) := by decide +kernel
theorem dL_law_500 : decode cL_law 500 = .ok (.aload_n 2, 1) := by decide +kernel
theorem dL_law_501 : decode cL_law 501 = .ok (.aload_n 0, 1) := by decide +kernel
theorem dL_law_502 : decode cL_law 502 = .ok (.iload 4, 2) := by decide +kernel
theorem dL_law_504 : decode cL_law 504 = .ok (.iconst 1, 1) := by decide +kernel
theorem dL_law_505 : decode cL_law 505 = .ok (.iadd, 1) := by decide +kernel
theorem dL_law_506 : decode cL_law 506 = .ok (.iaload, 1) := by decide +kernel
theorem dL_law_507 : decode cL_law 507 = .ok (.aload_n 0, 1) := by decide +kernel
theorem dL_law_508 : decode cL_law 508 = .ok (.iload 4, 2) := by decide +kernel
theorem dL_law_510 : decode cL_law 510 = .ok (.iconst 2, 1) := by decide +kernel
theorem dL_law_511 : decode cL_law 511 = .ok (.iadd, 1) := by decide +kernel
theorem dL_law_512 : decode cL_law 512 = .ok (.iaload, 1) := by decide +kernel
theorem dL_law_513 : decode cL_law 513 = .ok (.invokevirtual 107, 3) := by decide +kernel
theorem dL_law_516 : decode cL_law 516 = .ok (.istore 6, 2) := by decide +kernel
theorem dL_law_518 : decode cL_law 518 = .ok (.aload_n 2, 1) := by decide +kernel
theorem dL_law_519 : decode cL_law 519 = .ok (.invokevirtual 83, 3) := by decide +kernel
theorem dL_law_522 : decode cL_law 522 = .ok (.iload 5, 2) := by decide +kernel
theorem dL_law_524 : decode cL_law 524 = .ok (.if_icmp .eq 5, 3) := by decide +kernel
theorem dL_law_527 : decode cL_law 527 = .ok (.iconst 0, 1) := by decide +kernel
theorem dL_law_528 : decode cL_law 528 = .ok (.ireturn, 1) := by decide +kernel
theorem dL_law_529 : decode cL_law 529 = .ok (.iload 5, 2) := by decide +kernel
theorem dL_law_531 : decode cL_law 531 = .ok (.ifCond .ne 15, 3) := by decide +kernel
theorem dL_law_534 : decode cL_law 534 = .ok (.aload_n 3, 1) := by decide +kernel
theorem dL_law_535 : decode cL_law 535 = .ok (.iconst 0, 1) := by decide +kernel
theorem dL_law_536 : decode cL_law 536 = .ok (.laload, 1) := by decide +kernel
theorem dL_law_537 : decode cL_law 537 = .ok (.iload 6, 2) := by decide +kernel
theorem dL_law_539 : decode cL_law 539 = .ok (.i2l, 1) := by decide +kernel
theorem dL_law_540 : decode cL_law 540 = .ok (.lcmp, 1) := by decide +kernel
theorem dL_law_541 : decode cL_law 541 = .ok (.ifCond .eq 5, 3) := by decide +kernel
theorem dL_law_544 : decode cL_law 544 = .ok (.iconst 0, 1) := by decide +kernel
theorem dL_law_545 : decode cL_law 545 = .ok (.ireturn, 1) := by decide +kernel
theorem dL_law_546 : decode cL_law 546 = .ok (.goto 834, 3) := by decide +kernel
theorem dL_law_549 : decode cL_law 549 = .ok (.aload_n 1, 1) := by decide +kernel
theorem dL_law_550 : decode cL_law 550 = .ok (.aload_n 0, 1) := by decide +kernel
theorem dL_law_551 : decode cL_law 551 = .ok (.iload 4, 2) := by decide +kernel
theorem dL_law_553 : decode cL_law 553 = .ok (.iconst 1, 1) := by decide +kernel
theorem dL_law_554 : decode cL_law 554 = .ok (.iadd, 1) := by decide +kernel
theorem dL_law_555 : decode cL_law 555 = .ok (.iaload, 1) := by decide +kernel
theorem dL_law_556 : decode cL_law 556 = .ok (.aload_n 3, 1) := by decide +kernel
theorem dL_law_557 : decode cL_law 557 = .ok (.invokestatic 108, 3) := by decide +kernel
theorem dL_law_560 : decode cL_law 560 = .ok (.istore 5, 2) := by decide +kernel
theorem dL_law_562 : decode cL_law 562 = .ok (.aload_n 2, 1) := by decide +kernel
theorem dL_law_563 : decode cL_law 563 = .ok (.aload_n 0, 1) := by decide +kernel
theorem dL_law_564 : decode cL_law 564 = .ok (.iload 4, 2) := by decide +kernel
theorem dL_law_566 : decode cL_law 566 = .ok (.iconst 1, 1) := by decide +kernel
theorem dL_law_567 : decode cL_law 567 = .ok (.iadd, 1) := by decide +kernel
theorem dL_law_568 : decode cL_law 568 = .ok (.iaload, 1) := by decide +kernel
theorem dL_law_569 : decode cL_law 569 = .ok (.invokevirtual 110, 3) := by decide +kernel
theorem dL_law_572 : decode cL_law 572 = .ok (.istore 6, 2) := by decide +kernel
theorem dL_law_574 : decode cL_law 574 = .ok (.aload_n 2, 1) := by decide +kernel
theorem dL_law_575 : decode cL_law 575 = .ok (.invokevirtual 83, 3) := by decide +kernel
theorem dL_law_578 : decode cL_law 578 = .ok (.iload 5, 2) := by decide +kernel
theorem dL_law_580 : decode cL_law 580 = .ok (.if_icmp .eq 5, 3) := by decide +kernel
theorem dL_law_583 : decode cL_law 583 = .ok (.iconst 0, 1) := by decide +kernel
theorem dL_law_584 : decode cL_law 584 = .ok (.ireturn, 1) := by decide +kernel
theorem dL_law_585 : decode cL_law 585 = .ok (.iload 5, 2) := by decide +kernel
theorem dL_law_587 : decode cL_law 587 = .ok (.ifCond .ne 15, 3) := by decide +kernel
theorem dL_law_590 : decode cL_law 590 = .ok (.aload_n 3, 1) := by decide +kernel
theorem dL_law_591 : decode cL_law 591 = .ok (.iconst 0, 1) := by decide +kernel
theorem dL_law_592 : decode cL_law 592 = .ok (.laload, 1) := by decide +kernel
theorem dL_law_593 : decode cL_law 593 = .ok (.iload 6, 2) := by decide +kernel
theorem dL_law_595 : decode cL_law 595 = .ok (.i2l, 1) := by decide +kernel
theorem dL_law_596 : decode cL_law 596 = .ok (.lcmp, 1) := by decide +kernel
theorem dL_law_597 : decode cL_law 597 = .ok (.ifCond .eq 5, 3) := by decide +kernel
theorem dL_law_600 : decode cL_law 600 = .ok (.iconst 0, 1) := by decide +kernel
theorem dL_law_601 : decode cL_law 601 = .ok (.ireturn, 1) := by decide +kernel
theorem dL_law_602 : decode cL_law 602 = .ok (.goto 778, 3) := by decide +kernel
theorem dL_law_605 : decode cL_law 605 = .ok (.aload_n 1, 1) := by decide +kernel
theorem dL_law_606 : decode cL_law 606 = .ok (.aload_n 0, 1) := by decide +kernel
theorem dL_law_607 : decode cL_law 607 = .ok (.iload 4, 2) := by decide +kernel
theorem dL_law_609 : decode cL_law 609 = .ok (.iconst 1, 1) := by decide +kernel
theorem dL_law_610 : decode cL_law 610 = .ok (.iadd, 1) := by decide +kernel
theorem dL_law_611 : decode cL_law 611 = .ok (.iaload, 1) := by decide +kernel
theorem dL_law_612 : decode cL_law 612 = .ok (.aload_n 0, 1) := by decide +kernel
theorem dL_law_613 : decode cL_law 613 = .ok (.iload 4, 2) := by decide +kernel
theorem dL_law_615 : decode cL_law 615 = .ok (.iconst 2, 1) := by decide +kernel
theorem dL_law_616 : decode cL_law 616 = .ok (.iadd, 1) := by decide +kernel
theorem dL_law_617 : decode cL_law 617 = .ok (.iaload, 1) := by decide +kernel
theorem dL_law_618 : decode cL_law 618 = .ok (.aload_n 3, 1) := by decide +kernel
theorem dL_law_619 : decode cL_law 619 = .ok (.invokestatic 111, 3) := by decide +kernel
theorem dL_law_622 : decode cL_law 622 = .ok (.istore 5, 2) := by decide +kernel
theorem dL_law_624 : decode cL_law 624 = .ok (.aload_n 2, 1) := by decide +kernel
theorem dL_law_625 : decode cL_law 625 = .ok (.aload_n 0, 1) := by decide +kernel
theorem dL_law_626 : decode cL_law 626 = .ok (.iload 4, 2) := by decide +kernel
theorem dL_law_628 : decode cL_law 628 = .ok (.iconst 1, 1) := by decide +kernel
theorem dL_law_629 : decode cL_law 629 = .ok (.iadd, 1) := by decide +kernel
theorem dL_law_630 : decode cL_law 630 = .ok (.iaload, 1) := by decide +kernel
theorem dL_law_631 : decode cL_law 631 = .ok (.aload_n 0, 1) := by decide +kernel
theorem dL_law_632 : decode cL_law 632 = .ok (.iload 4, 2) := by decide +kernel
theorem dL_law_634 : decode cL_law 634 = .ok (.iconst 2, 1) := by decide +kernel
theorem dL_law_635 : decode cL_law 635 = .ok (.iadd, 1) := by decide +kernel
theorem dL_law_636 : decode cL_law 636 = .ok (.iaload, 1) := by decide +kernel
theorem dL_law_637 : decode cL_law 637 = .ok (.invokevirtual 113, 3) := by decide +kernel
theorem dL_law_640 : decode cL_law 640 = .ok (.istore 6, 2) := by decide +kernel
theorem dL_law_642 : decode cL_law 642 = .ok (.aload_n 2, 1) := by decide +kernel
theorem dL_law_643 : decode cL_law 643 = .ok (.invokevirtual 83, 3) := by decide +kernel
theorem dL_law_646 : decode cL_law 646 = .ok (.iload 5, 2) := by decide +kernel
theorem dL_law_648 : decode cL_law 648 = .ok (.if_icmp .eq 5, 3) := by decide +kernel
theorem dL_law_651 : decode cL_law 651 = .ok (.iconst 0, 1) := by decide +kernel
theorem dL_law_652 : decode cL_law 652 = .ok (.ireturn, 1) := by decide +kernel
theorem dL_law_653 : decode cL_law 653 = .ok (.iload 5, 2) := by decide +kernel
theorem dL_law_655 : decode cL_law 655 = .ok (.ifCond .ne 15, 3) := by decide +kernel
theorem dL_law_658 : decode cL_law 658 = .ok (.aload_n 3, 1) := by decide +kernel
theorem dL_law_659 : decode cL_law 659 = .ok (.iconst 0, 1) := by decide +kernel
theorem dL_law_660 : decode cL_law 660 = .ok (.laload, 1) := by decide +kernel
theorem dL_law_661 : decode cL_law 661 = .ok (.iload 6, 2) := by decide +kernel
theorem dL_law_663 : decode cL_law 663 = .ok (.i2l, 1) := by decide +kernel
theorem dL_law_664 : decode cL_law 664 = .ok (.lcmp, 1) := by decide +kernel
theorem dL_law_665 : decode cL_law 665 = .ok (.ifCond .eq 5, 3) := by decide +kernel
theorem dL_law_668 : decode cL_law 668 = .ok (.iconst 0, 1) := by decide +kernel
theorem dL_law_669 : decode cL_law 669 = .ok (.ireturn, 1) := by decide +kernel
theorem dL_law_670 : decode cL_law 670 = .ok (.goto 710, 3) := by decide +kernel
theorem dL_law_673 : decode cL_law 673 = .ok (.aload_n 1, 1) := by decide +kernel
theorem dL_law_674 : decode cL_law 674 = .ok (.aload_n 0, 1) := by decide +kernel
theorem dL_law_675 : decode cL_law 675 = .ok (.iload 4, 2) := by decide +kernel
theorem dL_law_677 : decode cL_law 677 = .ok (.iconst 1, 1) := by decide +kernel
theorem dL_law_678 : decode cL_law 678 = .ok (.iadd, 1) := by decide +kernel
theorem dL_law_679 : decode cL_law 679 = .ok (.iaload, 1) := by decide +kernel
theorem dL_law_680 : decode cL_law 680 = .ok (.aload_n 3, 1) := by decide +kernel
theorem dL_law_681 : decode cL_law 681 = .ok (.invokestatic 114, 3) := by decide +kernel
theorem dL_law_684 : decode cL_law 684 = .ok (.istore 5, 2) := by decide +kernel
theorem dL_law_686 : decode cL_law 686 = .ok (.aload_n 2, 1) := by decide +kernel
theorem dL_law_687 : decode cL_law 687 = .ok (.aload_n 0, 1) := by decide +kernel
theorem dL_law_688 : decode cL_law 688 = .ok (.iload 4, 2) := by decide +kernel
theorem dL_law_690 : decode cL_law 690 = .ok (.iconst 1, 1) := by decide +kernel
theorem dL_law_691 : decode cL_law 691 = .ok (.iadd, 1) := by decide +kernel
theorem dL_law_692 : decode cL_law 692 = .ok (.iaload, 1) := by decide +kernel
theorem dL_law_693 : decode cL_law 693 = .ok (.invokevirtual 116, 3) := by decide +kernel
theorem dL_law_696 : decode cL_law 696 = .ok (.istore 6, 2) := by decide +kernel
theorem dL_law_698 : decode cL_law 698 = .ok (.aload_n 2, 1) := by decide +kernel
theorem dL_law_699 : decode cL_law 699 = .ok (.invokevirtual 83, 3) := by decide +kernel
theorem dL_law_702 : decode cL_law 702 = .ok (.iload 5, 2) := by decide +kernel
theorem dL_law_704 : decode cL_law 704 = .ok (.if_icmp .eq 5, 3) := by decide +kernel
theorem dL_law_707 : decode cL_law 707 = .ok (.iconst 0, 1) := by decide +kernel
theorem dL_law_708 : decode cL_law 708 = .ok (.ireturn, 1) := by decide +kernel
theorem dL_law_709 : decode cL_law 709 = .ok (.iload 5, 2) := by decide +kernel
theorem dL_law_711 : decode cL_law 711 = .ok (.ifCond .ne 15, 3) := by decide +kernel
theorem dL_law_714 : decode cL_law 714 = .ok (.aload_n 3, 1) := by decide +kernel
theorem dL_law_715 : decode cL_law 715 = .ok (.iconst 0, 1) := by decide +kernel
theorem dL_law_716 : decode cL_law 716 = .ok (.laload, 1) := by decide +kernel
theorem dL_law_717 : decode cL_law 717 = .ok (.iload 6, 2) := by decide +kernel
theorem dL_law_719 : decode cL_law 719 = .ok (.i2l, 1) := by decide +kernel
theorem dL_law_720 : decode cL_law 720 = .ok (.lcmp, 1) := by decide +kernel
theorem dL_law_721 : decode cL_law 721 = .ok (.ifCond .eq 5, 3) := by decide +kernel
theorem dL_law_724 : decode cL_law 724 = .ok (.iconst 0, 1) := by decide +kernel
theorem dL_law_725 : decode cL_law 725 = .ok (.ireturn, 1) := by decide +kernel
theorem dL_law_726 : decode cL_law 726 = .ok (.goto 654, 3) := by decide +kernel
theorem dL_law_729 : decode cL_law 729 = .ok (.aload_n 1, 1) := by decide +kernel
theorem dL_law_730 : decode cL_law 730 = .ok (.aload_n 0, 1) := by decide +kernel
theorem dL_law_731 : decode cL_law 731 = .ok (.iload 4, 2) := by decide +kernel
theorem dL_law_733 : decode cL_law 733 = .ok (.iconst 1, 1) := by decide +kernel
theorem dL_law_734 : decode cL_law 734 = .ok (.iadd, 1) := by decide +kernel
end
section
theorem dL_law_735 : decode cL_law 735 = .ok (.iaload, 1) := by decide +kernel
theorem dL_law_736 : decode cL_law 736 = .ok (.aload_n 3, 1) := by decide +kernel
theorem dL_law_737 : decode cL_law 737 = .ok (.invokestatic 117, 3) := by decide +kernel
theorem dL_law_740 : decode cL_law 740 = .ok (.istore 5, 2) := by decide +kernel
theorem dL_law_742 : decode cL_law 742 = .ok (.aload_n 2, 1) := by decide +kernel
theorem dL_law_743 : decode cL_law 743 = .ok (.aload_n 0, 1) := by decide +kernel
theorem dL_law_744 : decode cL_law 744 = .ok (.iload 4, 2) := by decide +kernel
theorem dL_law_746 : decode cL_law 746 = .ok (.iconst 1, 1) := by decide +kernel
theorem dL_law_747 : decode cL_law 747 = .ok (.iadd, 1) := by decide +kernel
theorem dL_law_748 : decode cL_law 748 = .ok (.iaload, 1) := by decide +kernel
theorem dL_law_749 : decode cL_law 749 = .ok (.invokevirtual 119, 3) := by decide +kernel
theorem dL_law_752 : decode cL_law 752 = .ok (.istore 6, 2) := by decide +kernel
theorem dL_law_754 : decode cL_law 754 = .ok (.aload_n 2, 1) := by decide +kernel
theorem dL_law_755 : decode cL_law 755 = .ok (.invokevirtual 83, 3) := by decide +kernel
theorem dL_law_758 : decode cL_law 758 = .ok (.iload 5, 2) := by decide +kernel
theorem dL_law_760 : decode cL_law 760 = .ok (.if_icmp .eq 5, 3) := by decide +kernel
theorem dL_law_763 : decode cL_law 763 = .ok (.iconst 0, 1) := by decide +kernel
theorem dL_law_764 : decode cL_law 764 = .ok (.ireturn, 1) := by decide +kernel
theorem dL_law_765 : decode cL_law 765 = .ok (.iload 5, 2) := by decide +kernel
theorem dL_law_767 : decode cL_law 767 = .ok (.ifCond .ne 15, 3) := by decide +kernel
theorem dL_law_770 : decode cL_law 770 = .ok (.aload_n 3, 1) := by decide +kernel
theorem dL_law_771 : decode cL_law 771 = .ok (.iconst 0, 1) := by decide +kernel
theorem dL_law_772 : decode cL_law 772 = .ok (.laload, 1) := by decide +kernel
theorem dL_law_773 : decode cL_law 773 = .ok (.iload 6, 2) := by decide +kernel
theorem dL_law_775 : decode cL_law 775 = .ok (.i2l, 1) := by decide +kernel
theorem dL_law_776 : decode cL_law 776 = .ok (.lcmp, 1) := by decide +kernel
theorem dL_law_777 : decode cL_law 777 = .ok (.ifCond .eq 5, 3) := by decide +kernel
theorem dL_law_780 : decode cL_law 780 = .ok (.iconst 0, 1) := by decide +kernel
theorem dL_law_781 : decode cL_law 781 = .ok (.ireturn, 1) := by decide +kernel
theorem dL_law_782 : decode cL_law 782 = .ok (.goto 598, 3) := by decide +kernel
theorem dL_law_785 : decode cL_law 785 = .ok (.aload_n 1, 1) := by decide +kernel
theorem dL_law_786 : decode cL_law 786 = .ok (.aload_n 0, 1) := by decide +kernel
theorem dL_law_787 : decode cL_law 787 = .ok (.iload 4, 2) := by decide +kernel
theorem dL_law_789 : decode cL_law 789 = .ok (.iconst 1, 1) := by decide +kernel
theorem dL_law_790 : decode cL_law 790 = .ok (.iadd, 1) := by decide +kernel
theorem dL_law_791 : decode cL_law 791 = .ok (.iaload, 1) := by decide +kernel
theorem dL_law_792 : decode cL_law 792 = .ok (.aload_n 0, 1) := by decide +kernel
theorem dL_law_793 : decode cL_law 793 = .ok (.iload 4, 2) := by decide +kernel
theorem dL_law_795 : decode cL_law 795 = .ok (.iconst 2, 1) := by decide +kernel
theorem dL_law_796 : decode cL_law 796 = .ok (.iadd, 1) := by decide +kernel
theorem dL_law_797 : decode cL_law 797 = .ok (.iaload, 1) := by decide +kernel
theorem dL_law_798 : decode cL_law 798 = .ok (.aload_n 3, 1) := by decide +kernel
theorem dL_law_799 : decode cL_law 799 = .ok (.invokestatic 120, 3) := by decide +kernel
theorem dL_law_802 : decode cL_law 802 = .ok (.istore 5, 2) := by decide +kernel
theorem dL_law_804 : decode cL_law 804 = .ok (.aload_n 2, 1) := by decide +kernel
theorem dL_law_805 : decode cL_law 805 = .ok (.aload_n 0, 1) := by decide +kernel
theorem dL_law_806 : decode cL_law 806 = .ok (.iload 4, 2) := by decide +kernel
theorem dL_law_808 : decode cL_law 808 = .ok (.iconst 1, 1) := by decide +kernel
theorem dL_law_809 : decode cL_law 809 = .ok (.iadd, 1) := by decide +kernel
theorem dL_law_810 : decode cL_law 810 = .ok (.iaload, 1) := by decide +kernel
theorem dL_law_811 : decode cL_law 811 = .ok (.aload_n 0, 1) := by decide +kernel
theorem dL_law_812 : decode cL_law 812 = .ok (.iload 4, 2) := by decide +kernel
theorem dL_law_814 : decode cL_law 814 = .ok (.iconst 2, 1) := by decide +kernel
theorem dL_law_815 : decode cL_law 815 = .ok (.iadd, 1) := by decide +kernel
theorem dL_law_816 : decode cL_law 816 = .ok (.iaload, 1) := by decide +kernel
theorem dL_law_817 : decode cL_law 817 = .ok (.invokevirtual 122, 3) := by decide +kernel
theorem dL_law_820 : decode cL_law 820 = .ok (.istore 6, 2) := by decide +kernel
theorem dL_law_822 : decode cL_law 822 = .ok (.aload_n 2, 1) := by decide +kernel
theorem dL_law_823 : decode cL_law 823 = .ok (.invokevirtual 83, 3) := by decide +kernel
theorem dL_law_826 : decode cL_law 826 = .ok (.iload 5, 2) := by decide +kernel
theorem dL_law_828 : decode cL_law 828 = .ok (.if_icmp .eq 5, 3) := by decide +kernel
theorem dL_law_831 : decode cL_law 831 = .ok (.iconst 0, 1) := by decide +kernel
theorem dL_law_832 : decode cL_law 832 = .ok (.ireturn, 1) := by decide +kernel
theorem dL_law_833 : decode cL_law 833 = .ok (.iload 5, 2) := by decide +kernel
theorem dL_law_835 : decode cL_law 835 = .ok (.ifCond .ne 15, 3) := by decide +kernel
theorem dL_law_838 : decode cL_law 838 = .ok (.aload_n 3, 1) := by decide +kernel
theorem dL_law_839 : decode cL_law 839 = .ok (.iconst 0, 1) := by decide +kernel
theorem dL_law_840 : decode cL_law 840 = .ok (.laload, 1) := by decide +kernel
theorem dL_law_841 : decode cL_law 841 = .ok (.iload 6, 2) := by decide +kernel
theorem dL_law_843 : decode cL_law 843 = .ok (.i2l, 1) := by decide +kernel
theorem dL_law_844 : decode cL_law 844 = .ok (.lcmp, 1) := by decide +kernel
theorem dL_law_845 : decode cL_law 845 = .ok (.ifCond .eq 5, 3) := by decide +kernel
theorem dL_law_848 : decode cL_law 848 = .ok (.iconst 0, 1) := by decide +kernel
theorem dL_law_849 : decode cL_law 849 = .ok (.ireturn, 1) := by decide +kernel
theorem dL_law_850 : decode cL_law 850 = .ok (.goto 530, 3) := by decide +kernel
theorem dL_law_853 : decode cL_law 853 = .ok (.aload_n 1, 1) := by decide +kernel
theorem dL_law_854 : decode cL_law 854 = .ok (.aload_n 0, 1) := by decide +kernel
theorem dL_law_855 : decode cL_law 855 = .ok (.iload 4, 2) := by decide +kernel
theorem dL_law_857 : decode cL_law 857 = .ok (.iconst 1, 1) := by decide +kernel
theorem dL_law_858 : decode cL_law 858 = .ok (.iadd, 1) := by decide +kernel
theorem dL_law_859 : decode cL_law 859 = .ok (.iaload, 1) := by decide +kernel
theorem dL_law_860 : decode cL_law 860 = .ok (.aload_n 0, 1) := by decide +kernel
theorem dL_law_861 : decode cL_law 861 = .ok (.iload 4, 2) := by decide +kernel
theorem dL_law_863 : decode cL_law 863 = .ok (.iconst 2, 1) := by decide +kernel
theorem dL_law_864 : decode cL_law 864 = .ok (.iadd, 1) := by decide +kernel
theorem dL_law_865 : decode cL_law 865 = .ok (.iaload, 1) := by decide +kernel
theorem dL_law_866 : decode cL_law 866 = .ok (.aload_n 3, 1) := by decide +kernel
theorem dL_law_867 : decode cL_law 867 = .ok (.invokestatic 123, 3) := by decide +kernel
theorem dL_law_870 : decode cL_law 870 = .ok (.istore 5, 2) := by decide +kernel
theorem dL_law_872 : decode cL_law 872 = .ok (.aload_n 2, 1) := by decide +kernel
theorem dL_law_873 : decode cL_law 873 = .ok (.aload_n 0, 1) := by decide +kernel
theorem dL_law_874 : decode cL_law 874 = .ok (.iload 4, 2) := by decide +kernel
theorem dL_law_876 : decode cL_law 876 = .ok (.iconst 1, 1) := by decide +kernel
theorem dL_law_877 : decode cL_law 877 = .ok (.iadd, 1) := by decide +kernel
theorem dL_law_878 : decode cL_law 878 = .ok (.iaload, 1) := by decide +kernel
theorem dL_law_879 : decode cL_law 879 = .ok (.aload_n 0, 1) := by decide +kernel
theorem dL_law_880 : decode cL_law 880 = .ok (.iload 4, 2) := by decide +kernel
theorem dL_law_882 : decode cL_law 882 = .ok (.iconst 2, 1) := by decide +kernel
theorem dL_law_883 : decode cL_law 883 = .ok (.iadd, 1) := by decide +kernel
theorem dL_law_884 : decode cL_law 884 = .ok (.iaload, 1) := by decide +kernel
theorem dL_law_885 : decode cL_law 885 = .ok (.invokevirtual 125, 3) := by decide +kernel
theorem dL_law_888 : decode cL_law 888 = .ok (.istore 6, 2) := by decide +kernel
theorem dL_law_890 : decode cL_law 890 = .ok (.aload_n 2, 1) := by decide +kernel
theorem dL_law_891 : decode cL_law 891 = .ok (.invokevirtual 83, 3) := by decide +kernel
theorem dL_law_894 : decode cL_law 894 = .ok (.iload 5, 2) := by decide +kernel
theorem dL_law_896 : decode cL_law 896 = .ok (.if_icmp .eq 5, 3) := by decide +kernel
theorem dL_law_899 : decode cL_law 899 = .ok (.iconst 0, 1) := by decide +kernel
theorem dL_law_900 : decode cL_law 900 = .ok (.ireturn, 1) := by decide +kernel
theorem dL_law_901 : decode cL_law 901 = .ok (.iload 5, 2) := by decide +kernel
theorem dL_law_903 : decode cL_law 903 = .ok (.ifCond .ne 15, 3) := by decide +kernel
theorem dL_law_906 : decode cL_law 906 = .ok (.aload_n 3, 1) := by decide +kernel
theorem dL_law_907 : decode cL_law 907 = .ok (.iconst 0, 1) := by decide +kernel
theorem dL_law_908 : decode cL_law 908 = .ok (.laload, 1) := by decide +kernel
theorem dL_law_909 : decode cL_law 909 = .ok (.iload 6, 2) := by decide +kernel
theorem dL_law_911 : decode cL_law 911 = .ok (.i2l, 1) := by decide +kernel
theorem dL_law_912 : decode cL_law 912 = .ok (.lcmp, 1) := by decide +kernel
theorem dL_law_913 : decode cL_law 913 = .ok (.ifCond .eq 5, 3) := by decide +kernel
theorem dL_law_916 : decode cL_law 916 = .ok (.iconst 0, 1) := by decide +kernel
theorem dL_law_917 : decode cL_law 917 = .ok (.ireturn, 1) := by decide +kernel
theorem dL_law_918 : decode cL_law 918 = .ok (.goto 462, 3) := by decide +kernel
theorem dL_law_921 : decode cL_law 921 = .ok (.aload_n 1, 1) := by decide +kernel
theorem dL_law_922 : decode cL_law 922 = .ok (.aload_n 0, 1) := by decide +kernel
theorem dL_law_923 : decode cL_law 923 = .ok (.iload 4, 2) := by decide +kernel
theorem dL_law_925 : decode cL_law 925 = .ok (.iconst 1, 1) := by decide +kernel
theorem dL_law_926 : decode cL_law 926 = .ok (.iadd, 1) := by decide +kernel
theorem dL_law_927 : decode cL_law 927 = .ok (.iaload, 1) := by decide +kernel
theorem dL_law_928 : decode cL_law 928 = .ok (.aload_n 0, 1) := by decide +kernel
theorem dL_law_929 : decode cL_law 929 = .ok (.iload 4, 2) := by decide +kernel
theorem dL_law_931 : decode cL_law 931 = .ok (.iconst 2, 1) := by decide +kernel
theorem dL_law_932 : decode cL_law 932 = .ok (.iadd, 1) := by decide +kernel
theorem dL_law_933 : decode cL_law 933 = .ok (.iaload, 1) := by decide +kernel
theorem dL_law_934 : decode cL_law 934 = .ok (.aload_n 3, 1) := by decide +kernel
theorem dL_law_935 : decode cL_law 935 = .ok (.invokestatic 126, 3) := by decide +kernel
theorem dL_law_938 : decode cL_law 938 = .ok (.istore 5, 2) := by decide +kernel
theorem dL_law_940 : decode cL_law 940 = .ok (.aload_n 2, 1) := by decide +kernel
theorem dL_law_941 : decode cL_law 941 = .ok (.aload_n 0, 1) := by decide +kernel
theorem dL_law_942 : decode cL_law 942 = .ok (.iload 4, 2) := by decide +kernel
theorem dL_law_944 : decode cL_law 944 = .ok (.iconst 1, 1) := by decide +kernel
theorem dL_law_945 : decode cL_law 945 = .ok (.iadd, 1) := by decide +kernel
theorem dL_law_946 : decode cL_law 946 = .ok (.iaload, 1) := by decide +kernel
theorem dL_law_947 : decode cL_law 947 = .ok (.aload_n 0, 1) := by decide +kernel
theorem dL_law_948 : decode cL_law 948 = .ok (.iload 4, 2) := by decide +kernel
theorem dL_law_950 : decode cL_law 950 = .ok (.iconst 2, 1) := by decide +kernel
theorem dL_law_951 : decode cL_law 951 = .ok (.iadd, 1) := by decide +kernel
theorem dL_law_952 : decode cL_law 952 = .ok (.iaload, 1) := by decide +kernel
theorem dL_law_953 : decode cL_law 953 = .ok (.invokevirtual 128, 3) := by decide +kernel
theorem dL_law_956 : decode cL_law 956 = .ok (.istore 6, 2) := by decide +kernel
theorem dL_law_958 : decode cL_law 958 = .ok (.aload_n 2, 1) := by decide +kernel
theorem dL_law_959 : decode cL_law 959 = .ok (.invokevirtual 83, 3) := by decide +kernel
theorem dL_law_962 : decode cL_law 962 = .ok (.iload 5, 2) := by decide +kernel
theorem dL_law_964 : decode cL_law 964 = .ok (.if_icmp .eq 5, 3) := by decide +kernel
theorem dL_law_967 : decode cL_law 967 = .ok (.iconst 0, 1) := by decide +kernel
theorem dL_law_968 : decode cL_law 968 = .ok (.ireturn, 1) := by decide +kernel
theorem dL_law_969 : decode cL_law 969 = .ok (.iload 5, 2) := by decide +kernel
theorem dL_law_971 : decode cL_law 971 = .ok (.ifCond .ne 22, 3) := by decide +kernel
theorem dL_law_974 : decode cL_law 974 = .ok (.aload_n 3, 1) := by decide +kernel
theorem dL_law_975 : decode cL_law 975 = .ok (.iconst 0, 1) := by decide +kernel
theorem dL_law_976 : decode cL_law 976 = .ok (.laload, 1) := by decide +kernel
theorem dL_law_977 : decode cL_law 977 = .ok (.iload 6, 2) := by decide +kernel
theorem dL_law_979 : decode cL_law 979 = .ok (.ifCond .eq 7, 3) := by decide +kernel
theorem dL_law_982 : decode cL_law 982 = .ok (.lconst 1, 1) := by decide +kernel
theorem dL_law_983 : decode cL_law 983 = .ok (.goto 4, 3) := by decide +kernel
theorem dL_law_986 : decode cL_law 986 = .ok (.lconst 0, 1) := by decide +kernel
theorem dL_law_987 : decode cL_law 987 = .ok (.lcmp, 1) := by decide +kernel
theorem dL_law_988 : decode cL_law 988 = .ok (.ifCond .eq 5, 3) := by decide +kernel
theorem dL_law_991 : decode cL_law 991 = .ok (.iconst 0, 1) := by decide +kernel
theorem dL_law_992 : decode cL_law 992 = .ok (.ireturn, 1) := by decide +kernel
theorem dL_law_993 : decode cL_law 993 = .ok (.goto 387, 3) := by decide +kernel
theorem dL_law_996 : decode cL_law 996 = .ok (.aload_n 1, 1) := by decide +kernel
theorem dL_law_997 : decode cL_law 997 = .ok (.aload_n 0, 1) := by decide +kernel
theorem dL_law_998 : decode cL_law 998 = .ok (.iload 4, 2) := by decide +kernel
theorem dL_law_1000 : decode cL_law 1000 = .ok (.iconst 1, 1) := by decide +kernel
theorem dL_law_1001 : decode cL_law 1001 = .ok (.iadd, 1) := by decide +kernel
theorem dL_law_1002 : decode cL_law 1002 = .ok (.iaload, 1) := by decide +kernel
theorem dL_law_1003 : decode cL_law 1003 = .ok (.aload_n 0, 1) := by decide +kernel
theorem dL_law_1004 : decode cL_law 1004 = .ok (.iload 4, 2) := by decide +kernel
theorem dL_law_1006 : decode cL_law 1006 = .ok (.iconst 2, 1) := by decide +kernel
theorem dL_law_1007 : decode cL_law 1007 = .ok (.iadd, 1) := by decide +kernel
theorem dL_law_1008 : decode cL_law 1008 = .ok (.iaload, 1) := by decide +kernel
theorem dL_law_1009 : decode cL_law 1009 = .ok (.aload_n 3, 1) := by decide +kernel
theorem dL_law_1010 : decode cL_law 1010 = .ok (.invokestatic 129, 3) := by decide +kernel
theorem dL_law_1013 : decode cL_law 1013 = .ok (.istore 5, 2) := by decide +kernel
theorem dL_law_1015 : decode cL_law 1015 = .ok (.aload_n 2, 1) := by decide +kernel
theorem dL_law_1016 : decode cL_law 1016 = .ok (.aload_n 0, 1) := by decide +kernel
theorem dL_law_1017 : decode cL_law 1017 = .ok (.iload 4, 2) := by decide +kernel
theorem dL_law_1019 : decode cL_law 1019 = .ok (.iconst 1, 1) := by decide +kernel
theorem dL_law_1020 : decode cL_law 1020 = .ok (.iadd, 1) := by decide +kernel
theorem dL_law_1021 : decode cL_law 1021 = .ok (.iaload, 1) := by decide +kernel
theorem dL_law_1022 : decode cL_law 1022 = .ok (.aload_n 0, 1) := by decide +kernel
theorem dL_law_1023 : decode cL_law 1023 = .ok (.iload 4, 2) := by decide +kernel
theorem dL_law_1025 : decode cL_law 1025 = .ok (.iconst 2, 1) := by decide +kernel
theorem dL_law_1026 : decode cL_law 1026 = .ok (.iadd, 1) := by decide +kernel
theorem dL_law_1027 : decode cL_law 1027 = .ok (.iaload, 1) := by decide +kernel
theorem dL_law_1028 : decode cL_law 1028 = .ok (.invokevirtual 131, 3) := by decide +kernel
theorem dL_law_1031 : decode cL_law 1031 = .ok (.istore 6, 2) := by decide +kernel
theorem dL_law_1033 : decode cL_law 1033 = .ok (.aload_n 2, 1) := by decide +kernel
theorem dL_law_1034 : decode cL_law 1034 = .ok (.invokevirtual 83, 3) := by decide +kernel
theorem dL_law_1037 : decode cL_law 1037 = .ok (.iload 5, 2) := by decide +kernel
theorem dL_law_1039 : decode cL_law 1039 = .ok (.if_icmp .eq 5, 3) := by decide +kernel
theorem dL_law_1042 : decode cL_law 1042 = .ok (.iconst 0, 1) := by decide +kernel
theorem dL_law_1043 : decode cL_law 1043 = .ok (.ireturn, 1) := by decide +kernel
theorem dL_law_1044 : decode cL_law 1044 = .ok (.iload 5, 2) := by decide +kernel
theorem dL_law_1046 : decode cL_law 1046 = .ok (.ifCond .ne 15, 3) := by decide +kernel
theorem dL_law_1049 : decode cL_law 1049 = .ok (.aload_n 3, 1) := by decide +kernel
theorem dL_law_1050 : decode cL_law 1050 = .ok (.iconst 0, 1) := by decide +kernel
theorem dL_law_1051 : decode cL_law 1051 = .ok (.laload, 1) := by decide +kernel
theorem dL_law_1052 : decode cL_law 1052 = .ok (.iload 6, 2) := by decide +kernel
theorem dL_law_1054 : decode cL_law 1054 = .ok (.i2l, 1) := by decide +kernel
theorem dL_law_1055 : decode cL_law 1055 = .ok (.lcmp, 1) := by decide +kernel
theorem dL_law_1056 : decode cL_law 1056 = .ok (.ifCond .eq 5, 3) := by decide +kernel
theorem dL_law_1059 : decode cL_law 1059 = .ok (.iconst 0, 1) := by decide +kernel
theorem dL_law_1060 : decode cL_law 1060 = .ok (.ireturn, 1) := by decide +kernel
theorem dL_law_1061 : decode cL_law 1061 = .ok (.goto 319, 3) := by decide +kernel
theorem dL_law_1064 : decode cL_law 1064 = .ok (.aload_n 1, 1) := by decide +kernel
theorem dL_law_1065 : decode cL_law 1065 = .ok (.aload_n 0, 1) := by decide +kernel
theorem dL_law_1066 : decode cL_law 1066 = .ok (.iload 4, 2) := by decide +kernel
theorem dL_law_1068 : decode cL_law 1068 = .ok (.iconst 1, 1) := by decide +kernel
theorem dL_law_1069 : decode cL_law 1069 = .ok (.iadd, 1) := by decide +kernel
theorem dL_law_1070 : decode cL_law 1070 = .ok (.iaload, 1) := by decide +kernel
theorem dL_law_1071 : decode cL_law 1071 = .ok (.aload_n 0, 1) := by decide +kernel
theorem dL_law_1072 : decode cL_law 1072 = .ok (.iload 4, 2) := by decide +kernel
theorem dL_law_1074 : decode cL_law 1074 = .ok (.iconst 2, 1) := by decide +kernel
theorem dL_law_1075 : decode cL_law 1075 = .ok (.iadd, 1) := by decide +kernel
theorem dL_law_1076 : decode cL_law 1076 = .ok (.iaload, 1) := by decide +kernel
theorem dL_law_1077 : decode cL_law 1077 = .ok (.aload_n 3, 1) := by decide +kernel
theorem dL_law_1078 : decode cL_law 1078 = .ok (.invokestatic 132, 3) := by decide +kernel
theorem dL_law_1081 : decode cL_law 1081 = .ok (.istore 5, 2) := by decide +kernel
theorem dL_law_1083 : decode cL_law 1083 = .ok (.aload_n 2, 1) := by decide +kernel
theorem dL_law_1084 : decode cL_law 1084 = .ok (.aload_n 0, 1) := by decide +kernel
theorem dL_law_1085 : decode cL_law 1085 = .ok (.iload 4, 2) := by decide +kernel
theorem dL_law_1087 : decode cL_law 1087 = .ok (.iconst 1, 1) := by decide +kernel
theorem dL_law_1088 : decode cL_law 1088 = .ok (.iadd, 1) := by decide +kernel
theorem dL_law_1089 : decode cL_law 1089 = .ok (.iaload, 1) := by decide +kernel
theorem dL_law_1090 : decode cL_law 1090 = .ok (.aload_n 0, 1) := by decide +kernel
theorem dL_law_1091 : decode cL_law 1091 = .ok (.iload 4, 2) := by decide +kernel
theorem dL_law_1093 : decode cL_law 1093 = .ok (.iconst 2, 1) := by decide +kernel
theorem dL_law_1094 : decode cL_law 1094 = .ok (.iadd, 1) := by decide +kernel
theorem dL_law_1095 : decode cL_law 1095 = .ok (.iaload, 1) := by decide +kernel
theorem dL_law_1096 : decode cL_law 1096 = .ok (.invokevirtual 134, 3) := by decide +kernel
theorem dL_law_1099 : decode cL_law 1099 = .ok (.istore 6, 2) := by decide +kernel
theorem dL_law_1101 : decode cL_law 1101 = .ok (.aload_n 2, 1) := by decide +kernel
theorem dL_law_1102 : decode cL_law 1102 = .ok (.invokevirtual 83, 3) := by decide +kernel
theorem dL_law_1105 : decode cL_law 1105 = .ok (.iload 5, 2) := by decide +kernel
theorem dL_law_1107 : decode cL_law 1107 = .ok (.if_icmp .eq 5, 3) := by decide +kernel
theorem dL_law_1110 : decode cL_law 1110 = .ok (.iconst 0, 1) := by decide +kernel
theorem dL_law_1111 : decode cL_law 1111 = .ok (.ireturn, 1) := by decide +kernel
theorem dL_law_1112 : decode cL_law 1112 = .ok (.iload 5, 2) := by decide +kernel
theorem dL_law_1114 : decode cL_law 1114 = .ok (.ifCond .ne 15, 3) := by decide +kernel
theorem dL_law_1117 : decode cL_law 1117 = .ok (.aload_n 3, 1) := by decide +kernel
theorem dL_law_1118 : decode cL_law 1118 = .ok (.iconst 0, 1) := by decide +kernel
theorem dL_law_1119 : decode cL_law 1119 = .ok (.laload, 1) := by decide +kernel
theorem dL_law_1120 : decode cL_law 1120 = .ok (.iload 6, 2) := by decide +kernel
theorem dL_law_1122 : decode cL_law 1122 = .ok (.i2l, 1) := by decide +kernel
theorem dL_law_1123 : decode cL_law 1123 = .ok (.lcmp, 1) := by decide +kernel
theorem dL_law_1124 : decode cL_law 1124 = .ok (.ifCond .eq 5, 3) := by decide +kernel
theorem dL_law_1127 : decode cL_law 1127 = .ok (.iconst 0, 1) := by decide +kernel
theorem dL_law_1128 : decode cL_law 1128 = .ok (.ireturn, 1) := by decide +kernel
theorem dL_law_1129 : decode cL_law 1129 = .ok (.goto 251, 3) := by decide +kernel
theorem dL_law_1132 : decode cL_law 1132 = .ok (.aload_n 1, 1) := by decide +kernel
theorem dL_law_1133 : decode cL_law 1133 = .ok (.aload_n 0, 1) := by decide +kernel
theorem dL_law_1134 : decode cL_law 1134 = .ok (.iload 4, 2) := by decide +kernel
theorem dL_law_1136 : decode cL_law 1136 = .ok (.iconst 1, 1) := by decide +kernel
theorem dL_law_1137 : decode cL_law 1137 = .ok (.iadd, 1) := by decide +kernel
theorem dL_law_1138 : decode cL_law 1138 = .ok (.iaload, 1) := by decide +kernel
theorem dL_law_1139 : decode cL_law 1139 = .ok (.aload_n 3, 1) := by decide +kernel
theorem dL_law_1140 : decode cL_law 1140 = .ok (.invokestatic 135, 3) := by decide +kernel
theorem dL_law_1143 : decode cL_law 1143 = .ok (.istore 5, 2) := by decide +kernel
theorem dL_law_1145 : decode cL_law 1145 = .ok (.aload_n 2, 1) := by decide +kernel
theorem dL_law_1146 : decode cL_law 1146 = .ok (.aload_n 0, 1) := by decide +kernel
theorem dL_law_1147 : decode cL_law 1147 = .ok (.iload 4, 2) := by decide +kernel
theorem dL_law_1149 : decode cL_law 1149 = .ok (.iconst 1, 1) := by decide +kernel
theorem dL_law_1150 : decode cL_law 1150 = .ok (.iadd, 1) := by decide +kernel
theorem dL_law_1151 : decode cL_law 1151 = .ok (.iaload, 1) := by decide +kernel
theorem dL_law_1152 : decode cL_law 1152 = .ok (.invokevirtual 137, 3) := by decide +kernel
theorem dL_law_1155 : decode cL_law 1155 = .ok (.istore 6, 2) := by decide +kernel
theorem dL_law_1157 : decode cL_law 1157 = .ok (.aload_n 2, 1) := by decide +kernel
theorem dL_law_1158 : decode cL_law 1158 = .ok (.invokevirtual 83, 3) := by decide +kernel
theorem dL_law_1161 : decode cL_law 1161 = .ok (.iload 5, 2) := by decide +kernel
theorem dL_law_1163 : decode cL_law 1163 = .ok (.if_icmp .eq 5, 3) := by decide +kernel
theorem dL_law_1166 : decode cL_law 1166 = .ok (.iconst 0, 1) := by decide +kernel
theorem dL_law_1167 : decode cL_law 1167 = .ok (.ireturn, 1) := by decide +kernel
theorem dL_law_1168 : decode cL_law 1168 = .ok (.iload 5, 2) := by decide +kernel
theorem dL_law_1170 : decode cL_law 1170 = .ok (.ifCond .ne 15, 3) := by decide +kernel
theorem dL_law_1173 : decode cL_law 1173 = .ok (.aload_n 3, 1) := by decide +kernel
theorem dL_law_1174 : decode cL_law 1174 = .ok (.iconst 0, 1) := by decide +kernel
theorem dL_law_1175 : decode cL_law 1175 = .ok (.laload, 1) := by decide +kernel
theorem dL_law_1176 : decode cL_law 1176 = .ok (.iload 6, 2) := by decide +kernel
theorem dL_law_1178 : decode cL_law 1178 = .ok (.i2l, 1) := by decide +kernel
theorem dL_law_1179 : decode cL_law 1179 = .ok (.lcmp, 1) := by decide +kernel
theorem dL_law_1180 : decode cL_law 1180 = .ok (.ifCond .eq 5, 3) := by decide +kernel
theorem dL_law_1183 : decode cL_law 1183 = .ok (.iconst 0, 1) := by decide +kernel
theorem dL_law_1184 : decode cL_law 1184 = .ok (.ireturn, 1) := by decide +kernel
theorem dL_law_1185 : decode cL_law 1185 = .ok (.goto 195, 3) := by decide +kernel
theorem dL_law_1188 : decode cL_law 1188 = .ok (.aload_n 1, 1) := by decide +kernel
theorem dL_law_1189 : decode cL_law 1189 = .ok (.aload_n 0, 1) := by decide +kernel
theorem dL_law_1190 : decode cL_law 1190 = .ok (.iload 4, 2) := by decide +kernel
theorem dL_law_1192 : decode cL_law 1192 = .ok (.iconst 1, 1) := by decide +kernel
theorem dL_law_1193 : decode cL_law 1193 = .ok (.iadd, 1) := by decide +kernel
theorem dL_law_1194 : decode cL_law 1194 = .ok (.iaload, 1) := by decide +kernel
theorem dL_law_1195 : decode cL_law 1195 = .ok (.aload_n 3, 1) := by decide +kernel
theorem dL_law_1196 : decode cL_law 1196 = .ok (.invokestatic 138, 3) := by decide +kernel
theorem dL_law_1199 : decode cL_law 1199 = .ok (.istore 5, 2) := by decide +kernel
theorem dL_law_1201 : decode cL_law 1201 = .ok (.aload_n 2, 1) := by decide +kernel
theorem dL_law_1202 : decode cL_law 1202 = .ok (.aload_n 0, 1) := by decide +kernel
theorem dL_law_1203 : decode cL_law 1203 = .ok (.iload 4, 2) := by decide +kernel
theorem dL_law_1205 : decode cL_law 1205 = .ok (.iconst 1, 1) := by decide +kernel
theorem dL_law_1206 : decode cL_law 1206 = .ok (.iadd, 1) := by decide +kernel
theorem dL_law_1207 : decode cL_law 1207 = .ok (.iaload, 1) := by decide +kernel
theorem dL_law_1208 : decode cL_law 1208 = .ok (.invokevirtual 140, 3) := by decide +kernel
theorem dL_law_1211 : decode cL_law 1211 = .ok (.istore 6, 2) := by decide +kernel
theorem dL_law_1213 : decode cL_law 1213 = .ok (.aload_n 2, 1) := by decide +kernel
theorem dL_law_1214 : decode cL_law 1214 = .ok (.invokevirtual 83, 3) := by decide +kernel
theorem dL_law_1217 : decode cL_law 1217 = .ok (.iload 5, 2) := by decide +kernel
theorem dL_law_1219 : decode cL_law 1219 = .ok (.if_icmp .eq 5, 3) := by decide +kernel
theorem dL_law_1222 : decode cL_law 1222 = .ok (.iconst 0, 1) := by decide +kernel
theorem dL_law_1223 : decode cL_law 1223 = .ok (.ireturn, 1) := by decide +kernel
theorem dL_law_1224 : decode cL_law 1224 = .ok (.iload 5, 2) := by decide +kernel
theorem dL_law_1226 : decode cL_law 1226 = .ok (.ifCond .ne 15, 3) := by decide +kernel
theorem dL_law_1229 : decode cL_law 1229 = .ok (.aload_n 3, 1) := by decide +kernel
theorem dL_law_1230 : decode cL_law 1230 = .ok (.iconst 0, 1) := by decide +kernel
theorem dL_law_1231 : decode cL_law 1231 = .ok (.laload, 1) := by decide +kernel
theorem dL_law_1232 : decode cL_law 1232 = .ok (.iload 6, 2) := by decide +kernel
theorem dL_law_1234 : decode cL_law 1234 = .ok (.i2l, 1) := by decide +kernel
theorem dL_law_1235 : decode cL_law 1235 = .ok (.lcmp, 1) := by decide +kernel
theorem dL_law_1236 : decode cL_law 1236 = .ok (.ifCond .eq 5, 3) := by decide +kernel
theorem dL_law_1239 : decode cL_law 1239 = .ok (.iconst 0, 1) := by decide +kernel
theorem dL_law_1240 : decode cL_law 1240 = .ok (.ireturn, 1) := by decide +kernel
theorem dL_law_1241 : decode cL_law 1241 = .ok (.goto 139, 3) := by decide +kernel
theorem dL_law_1244 : decode cL_law 1244 = .ok (.aload_n 1, 1) := by decide +kernel
theorem dL_law_1245 : decode cL_law 1245 = .ok (.aload_n 0, 1) := by decide +kernel
theorem dL_law_1246 : decode cL_law 1246 = .ok (.iload 4, 2) := by decide +kernel
theorem dL_law_1248 : decode cL_law 1248 = .ok (.iconst 1, 1) := by decide +kernel
theorem dL_law_1249 : decode cL_law 1249 = .ok (.iadd, 1) := by decide +kernel
theorem dL_law_1250 : decode cL_law 1250 = .ok (.iaload, 1) := by decide +kernel
theorem dL_law_1251 : decode cL_law 1251 = .ok (.aload_n 0, 1) := by decide +kernel
theorem dL_law_1252 : decode cL_law 1252 = .ok (.iload 4, 2) := by decide +kernel
theorem dL_law_1254 : decode cL_law 1254 = .ok (.iconst 2, 1) := by decide +kernel
theorem dL_law_1255 : decode cL_law 1255 = .ok (.iadd, 1) := by decide +kernel
theorem dL_law_1256 : decode cL_law 1256 = .ok (.iaload, 1) := by decide +kernel
theorem dL_law_1257 : decode cL_law 1257 = .ok (.aload_n 3, 1) := by decide +kernel
theorem dL_law_1258 : decode cL_law 1258 = .ok (.invokestatic 141, 3) := by decide +kernel
theorem dL_law_1261 : decode cL_law 1261 = .ok (.istore 5, 2) := by decide +kernel
theorem dL_law_1263 : decode cL_law 1263 = .ok (.aload_n 2, 1) := by decide +kernel
theorem dL_law_1264 : decode cL_law 1264 = .ok (.aload_n 0, 1) := by decide +kernel
theorem dL_law_1265 : decode cL_law 1265 = .ok (.iload 4, 2) := by decide +kernel
theorem dL_law_1267 : decode cL_law 1267 = .ok (.iconst 1, 1) := by decide +kernel
theorem dL_law_1268 : decode cL_law 1268 = .ok (.iadd, 1) := by decide +kernel
theorem dL_law_1269 : decode cL_law 1269 = .ok (.iaload, 1) := by decide +kernel
theorem dL_law_1270 : decode cL_law 1270 = .ok (.aload_n 0, 1) := by decide +kernel
theorem dL_law_1271 : decode cL_law 1271 = .ok (.iload 4, 2) := by decide +kernel
theorem dL_law_1273 : decode cL_law 1273 = .ok (.iconst 2, 1) := by decide +kernel
theorem dL_law_1274 : decode cL_law 1274 = .ok (.iadd, 1) := by decide +kernel
theorem dL_law_1275 : decode cL_law 1275 = .ok (.iaload, 1) := by decide +kernel
theorem dL_law_1276 : decode cL_law 1276 = .ok (.invokevirtual 143, 3) := by decide +kernel
theorem dL_law_1279 : decode cL_law 1279 = .ok (.istore 6, 2) := by decide +kernel
theorem dL_law_1281 : decode cL_law 1281 = .ok (.aload_n 2, 1) := by decide +kernel
theorem dL_law_1282 : decode cL_law 1282 = .ok (.invokevirtual 83, 3) := by decide +kernel
theorem dL_law_1285 : decode cL_law 1285 = .ok (.iload 5, 2) := by decide +kernel
theorem dL_law_1287 : decode cL_law 1287 = .ok (.if_icmp .eq 5, 3) := by decide +kernel
theorem dL_law_1290 : decode cL_law 1290 = .ok (.iconst 0, 1) := by decide +kernel
theorem dL_law_1291 : decode cL_law 1291 = .ok (.ireturn, 1) := by decide +kernel
theorem dL_law_1292 : decode cL_law 1292 = .ok (.iload 5, 2) := by decide +kernel
theorem dL_law_1294 : decode cL_law 1294 = .ok (.ifCond .ne 15, 3) := by decide +kernel
theorem dL_law_1297 : decode cL_law 1297 = .ok (.aload_n 3, 1) := by decide +kernel
theorem dL_law_1298 : decode cL_law 1298 = .ok (.iconst 0, 1) := by decide +kernel
theorem dL_law_1299 : decode cL_law 1299 = .ok (.laload, 1) := by decide +kernel
theorem dL_law_1300 : decode cL_law 1300 = .ok (.iload 6, 2) := by decide +kernel
theorem dL_law_1302 : decode cL_law 1302 = .ok (.i2l, 1) := by decide +kernel
theorem dL_law_1303 : decode cL_law 1303 = .ok (.lcmp, 1) := by decide +kernel
theorem dL_law_1304 : decode cL_law 1304 = .ok (.ifCond .eq 5, 3) := by decide +kernel
theorem dL_law_1307 : decode cL_law 1307 = .ok (.iconst 0, 1) := by decide +kernel
theorem dL_law_1308 : decode cL_law 1308 = .ok (.ireturn, 1) := by decide +kernel
theorem dL_law_1309 : decode cL_law 1309 = .ok (.goto 71, 3) := by decide +kernel
theorem dL_law_1312 : decode cL_law 1312 = .ok (.aload_n 1, 1) := by decide +kernel
theorem dL_law_1313 : decode cL_law 1313 = .ok (.invokevirtual 144, 3) := by decide +kernel
theorem dL_law_1316 : decode cL_law 1316 = .ok (.aload_n 2, 1) := by decide +kernel
theorem dL_law_1317 : decode cL_law 1317 = .ok (.invokevirtual 147, 3) := by decide +kernel
theorem dL_law_1320 : decode cL_law 1320 = .ok (.if_icmp .eq 60, 3) := by decide +kernel
theorem dL_law_1323 : decode cL_law 1323 = .ok (.iconst 0, 1) := by decide +kernel
theorem dL_law_1324 : decode cL_law 1324 = .ok (.ireturn, 1) := by decide +kernel
theorem dL_law_1325 : decode cL_law 1325 = .ok (.aload_n 1, 1) := by decide +kernel
theorem dL_law_1326 : decode cL_law 1326 = .ok (.invokevirtual 148, 3) := by decide +kernel
theorem dL_law_1329 : decode cL_law 1329 = .ok (.dstore 5, 2) := by decide +kernel
theorem dL_law_1331 : decode cL_law 1331 = .ok (.aload_n 2, 1) := by decide +kernel
theorem dL_law_1332 : decode cL_law 1332 = .ok (.invokevirtual 152, 3) := by decide +kernel
theorem dL_law_1335 : decode cL_law 1335 = .ok (.dstore 7, 2) := by decide +kernel
theorem dL_law_1337 : decode cL_law 1337 = .ok (.dload 5, 2) := by decide +kernel
theorem dL_law_1339 : decode cL_law 1339 = .ok (.dload 7, 2) := by decide +kernel
theorem dL_law_1341 : decode cL_law 1341 = .ok (.dcmp .l, 1) := by decide +kernel
theorem dL_law_1342 : decode cL_law 1342 = .ok (.ifCond .eq 21, 3) := by decide +kernel
theorem dL_law_1345 : decode cL_law 1345 = .ok (.dload 5, 2) := by decide +kernel
theorem dL_law_1347 : decode cL_law 1347 = .ok (.dload 5, 2) := by decide +kernel
theorem dL_law_1349 : decode cL_law 1349 = .ok (.dcmp .l, 1) := by decide +kernel
theorem dL_law_1350 : decode cL_law 1350 = .ok (.ifCond .eq 11, 3) := by decide +kernel
theorem dL_law_1353 : decode cL_law 1353 = .ok (.dload 7, 2) := by decide +kernel
theorem dL_law_1355 : decode cL_law 1355 = .ok (.dload 7, 2) := by decide +kernel
theorem dL_law_1357 : decode cL_law 1357 = .ok (.dcmp .l, 1) := by decide +kernel
theorem dL_law_1358 : decode cL_law 1358 = .ok (.ifCond .ne 5, 3) := by decide +kernel
theorem dL_law_1361 : decode cL_law 1361 = .ok (.iconst 0, 1) := by decide +kernel
theorem dL_law_1362 : decode cL_law 1362 = .ok (.ireturn, 1) := by decide +kernel
theorem dL_law_1363 : decode cL_law 1363 = .ok (.goto 17, 3) := by decide +kernel
theorem dL_law_1366 : decode cL_law 1366 = .ok (.aload_n 1, 1) := by decide +kernel
theorem dL_law_1367 : decode cL_law 1367 = .ok (.invokevirtual 153, 3) := by decide +kernel
theorem dL_law_1370 : decode cL_law 1370 = .ok (.aload_n 2, 1) := by decide +kernel
theorem dL_law_1371 : decode cL_law 1371 = .ok (.invokevirtual 157, 3) := by decide +kernel
theorem dL_law_1374 : decode cL_law 1374 = .ok (.lcmp, 1) := by decide +kernel
theorem dL_law_1375 : decode cL_law 1375 = .ok (.ifCond .eq 5, 3) := by decide +kernel
theorem dL_law_1378 : decode cL_law 1378 = .ok (.iconst 0, 1) := by decide +kernel
theorem dL_law_1379 : decode cL_law 1379 = .ok (.ireturn, 1) := by decide +kernel
theorem dL_law_1380 : decode cL_law 1380 = .ok (.iinc 4 4, 3) := by decide +kernel
theorem dL_law_1383 : decode cL_law 1383 = .ok (.goto (-1360), 3) := by decide +kernel
theorem dL_law_1386 : decode cL_law 1386 = .ok (.iconst 1, 1) := by decide +kernel
theorem dL_law_1387 : decode cL_law 1387 = .ok (.ireturn, 1) := by decide +kernel
end
section
/-! MY ROWS 02: what a state is held in (one pool of cells, all behind z0), contracts, and the rows of calls and cells over the pool -/
abbrev rD (d mc ms : Nat) : Room := { frames := d, cells := mc, slots := ms, locals := 60 * d }
abbrev zA (z0 : Nat) : Nat → Prop := fun q => z0 ≤ q
abbrev zT (T : ClassId × ClassId × ClassId) : List (ClassId × FieldType) := [(T.1, .int), (T.2.1, .long), (T.2.2, .array .int)]
/-- rows of ints, of longs, of references in the pool; objects -/
abbrev eI (c : ClassId) (n : Nat) (g : Nat → Int32) : va_E := .inl (c, n, .inl g)
abbrev eJ (c : ClassId) (n : Nat) (g : Nat → Int64) : va_E := .inl (c, n, .inr (.inl g))
abbrev eQ (c : ClassId) (n : Nat) (g : Nat → Option Nat) : va_E := .inl (c, n, .inr (.inr (.inr (.inr g))))
abbrev eO (ci : Nat) (fs : List Value) : va_E := .inr (ci, fs)
def zPool (D : va_G) (z0 : Nat) (L : List Nat) (f : Nat → va_E) (H : Heap) : Prop := va_P D vwCl (va_pl L f) H ∧ va_D (zA z0) (va_pl L f)
/-- the texts of the class's exceptions, by their place in its file -/
def zStr : List (Nat × String) := [(52, "times is not 1 to 50"), (59, "the word has no turns"), (68, "the word has 12 turns"), (74, "these would be more than 12 turns"), (100, "corner is not 0 to 7"), (123, "the word has no such place"), (159, "face is not 0 to 2"), (161, "quarters is not 1 to 3"), (163, "word is not 0 to 4"), (165, "place is not 0 to 7"), (167, "there is no such what"), (169, "most is not 0 to 5")]
/-- the four places that a face goes round, and what twist more each gives -/
def zRing : Nat → Nat → Nat
  | 0 => fun k => [0, 1, 2, 3].getD k 0
  | 1 => fun k => [0, 3, 7, 4].getD k 0
  | _ => fun k => [0, 4, 5, 1].getD k 0
def zMore : Nat → Nat → Nat
  | 0 => fun k => [0, 0, 0, 0].getD k 0
  | 1 => fun k => [1, 2, 1, 2].getD k 0
  | _ => fun k => [2, 1, 2, 1].getD k 0
/-- a static row of rows of ints -/
def zSt (n : String) (V : Nat → Nat → Nat) (z0 : Nat) (U : State) (H : Heap) : Prop := ∃ (t : Nat) (r : Nat → Nat), va_Z RX1 n "[[I" (.ref t) (zA z0) U H ∧ va_T (.array .int) t 3 (fun i => .ref (r i)) (zA z0) U H ∧ ∀ i, i < 3 → va_T .int (r i) 4 (fun k => .int (nI (V i k))) (zA z0) U H
/-- what stays as the start has it: Throwable's two statics, the texts, the reference's two tables -/
def SF (z0 : Nat) (U : State) (H : Heap) : Prop := vx_Zq Bundle.tN "UNASSIGNED_STACK" Bundle.steD (zA z0) U H ∧ vx_Zq Bundle.tN "SUPPRESSED_SENTINEL" Bundle.listD (zA z0) U H ∧ (∀ q ∈ zStr, ∃ a, vk_R RX0 q.1 q.2 a U) ∧ zSt "ROUND" zRing z0 U H ∧ zSt "MORE" zMore z0 U H
theorem zSt.pass {n : String} {V : Nat → Nat → Nat} {z0 : Nat} {u U : State} {H H1 : Heap} (hvm : u.vm.Alike U.vm) (hq : ∀ a : Nat, a < H.size → ¬ zA z0 a → H1[a]? = H[a]?) (h : zSt n V z0 u H) : zSt n V z0 U H1 := by
  obtain ⟨t, r, h1, h2, h3⟩ := h
  exact ⟨t, r, (h1.moved hvm).kept hq, (h2.moved hvm).kept hq, fun i hi => ((h3 i hi).moved hvm).kept hq⟩
theorem SF.pass {z0 : Nat} {u U : State} {H H1 : Heap} (hW : u.WarmedH U.vm) (hq : ∀ a : Nat, a < H.size → ¬ zA z0 a → H1[a]? = H[a]?) (h : SF z0 u H) : SF z0 U H1 := by
  obtain ⟨h1, h2, h3, h4, h5⟩ := h
  have hvm := hW.alike
  refine ⟨(h1.moved hvm).kept hq, (h2.moved hvm).kept hq, fun q hq => ?_, h4.pass hvm hq, h5.pass hvm hq⟩
  obtain ⟨a, ha⟩ := h3 q hq
  exact ⟨a, ha.warm hW⟩
/-- what a method finds beside its cells -/
def zE (D : va_G) (T : ClassId × ClassId × ClassId) (z0 : Nat) (s : State) : Prop := z0 ≤ s.heap.size ∧ SF z0 s s.heap ∧ va_K D vwCl (zT T) s
def zPre (D : va_G) (T : ClassId × ClassId × ClassId) (z0 : Nat) (L : List Nat) (f : Nat → va_E) (U : State) : Prop := zE D T z0 U ∧ zPool D z0 L f U.heap
/-- a method that answers o, reads no more than B says, and leaves all cells -/
def RV (l : Launch) (y : MethodName) (ws : List Cond) (d : Nat) (B : State → Prop) (av : List Value) (o : Option Value) : Prop :=
  Met l y ws (rD d 0 0) (va_Pc av B) (fun _ st oc t => oc = .returned o ∧ t.heap = st.heap) 0 0 (fun _ => False)
abbrev zNo : State → Prop := fun _ => True
/-- a method that answers, and leaves another pool -/
def HV (l : Launch) (y : MethodName) (ws : List Cond) (d mc ms : Nat) (D : va_G) (z0 : Nat) (B : State → Prop) (av : List Value) (post : Option Value → List Nat → (Nat → va_E) → Prop) : Prop :=
  Met l y ws (rD d mc ms) (va_Pc av B) (fun _ st oc t => (∃ (o : Option Value) (L : List Nat) (f : Nat → va_E), oc = .returned o ∧ post o L f ∧ zPool D z0 L f t.heap) ∧ va_F (zA z0) st t) mc ms (zA z0)
/-- a method that throws an E, and leaves the pool -/
def MX (l : Launch) (y : MethodName) (ws : List Cond) (d : Nat) (D : va_G) (z0 : Nat) (B : State → Prop) (L : List Nat) (f : Nat → va_E) (av : List Value) (E : String) : Prop :=
  vx_Met l y ws (rD d 1 6) (va_Pc av B) (fun _ _ _ _ => False) (vx_X (fun _ : Unit => True) (fun E1 _ t => E1 = E ∧ zPool D z0 L f t.heap) (zA z0)) 1 6 (zA z0)
theorem zPre.blind {D : va_G} {T : ClassId × ClassId × ClassId} {z0 : Nat} {L : List Nat} {f : Nat → va_E} {av : List Value} : FrameBlind (va_Pc av (zPre D T z0 L f)) := by
  intro a U g mk h
  obtain ⟨h1, ⟨h2, h3, h4⟩, h5⟩ := h
  exact ⟨h1, ⟨h2, h3.pass (u := U) (U := U.calling g mk a) (State.WarmedH.refl U) (fun _ _ _ => rfl), va_K.moved (u := U) (U := U.calling g mk a) (Vm.Alike.refl U.vm) h4⟩, h5⟩
theorem zNo.blind {av : List Value} : FrameBlind (va_Pc av zNo) := fun _ _ _ _ h => h
end
section
/-! MY ROWS 03: how a method begins and ends, and calls -/
section ZA
variable {p : Program} {l : Launch} {e : Env} {R : Room} {s : State} {m : MethodId} {args : Array Value} {below : List Frame} {meth : Method} {c : Code} {H : Heap} {locs : List Loc} {cells slots : Nat} {Q : State → Prop}
variable {Ts : List Cond} {own : String} {nL : Nat} {cc : ByteArray} {pc : Nat} {ls : Array Slot} {rest : List Value} {D : va_G} {T : ClassId × ClassId × ClassId} {z0 : Nat} {L : List Nat} {f : Nat → va_E}
abbrev RVQ (o : Option Value) : Array Value → State → Outcome → State → Prop := fun _ st oc t => oc = .returned o ∧ t.heap = st.heap
abbrev HVQ (D : va_G) (z0 : Nat) (post : Option Value → List Nat → (Nat → va_E) → Prop) : Array Value → State → Outcome → State → Prop := fun _ st oc t => (∃ (o : Option Value) (L : List Nat) (f : Nat → va_E), oc = .returned o ∧ post o L f ∧ zPool D z0 L f t.heap) ∧ va_F (zA z0) st t
abbrev MXQ (D : va_G) (z0 : Nat) (L : List Nat) (f : Nat → va_E) (E : String) : String → State → State → Prop := vx_X (fun _ : Unit => True) (fun E1 _ t => E1 = E ∧ zPool D z0 L f t.heap) (zA z0)
theorem RV.of {y : MethodName} {ws ws' : List Cond} {d maxL : Nat} {B : State → Prop} {av : List Value} {o : Option Value} {ret : Option FieldType} (hy : plainName y.cls = true) (hw : ws = Cond.code y cc maxL ret :: ws') (hsz : (lg_sl av).length ≤ maxL)
    (body : ∀ (p : Program) (e : Env) (s : State) (m : MethodId) (args : Array Value) (below : List Frame) (meth : Method) (c : Code), CallFix p m c cc maxL s args ws y.cls → meth.sig.returnType = ret → meth.locks = false → B s → ∀ ls : Array Slot, lv_has ls maxL (lv_args 0 av) →
      W p l e (rD d 0 0) s m args below meth c s.heap [] 0 0 (MQ below (RVQ o) args s 0 0 (fun _ => False)) (F0 m 0 ls [])) : RV l y ws d B av o := by
  refine Met.ofW (cc := cc) (maxL := maxL) (ret := ret) hy hw ?_
  intro p e s m args below meth c s₁ Bd hml hv
  obtain ⟨rfl, hB⟩ := hv
  have h := body p e s m av.toArray below meth c ⟨Bd.exec, Bd.bytes, hml, findClass_of_methodNamed Bd.named, atoms_spec (ws := ws) Bd.pre⟩ Bd.returns Bd.notSynchronized hB _ (lv_entry av hsz)
  rw [lg_entry_eq]
  exact h
theorem HV.of {y : MethodName} {ws ws' : List Cond} {d maxL mc ms : Nat} {B : State → Prop} {av : List Value} {post : Option Value → List Nat → (Nat → va_E) → Prop} {ret : Option FieldType} (hy : plainName y.cls = true) (hw : ws = Cond.code y cc maxL ret :: ws') (hsz : (lg_sl av).length ≤ maxL)
    (body : ∀ (p : Program) (e : Env) (s : State) (m : MethodId) (args : Array Value) (below : List Frame) (meth : Method) (c : Code), CallFix p m c cc maxL s args ws y.cls → meth.sig.returnType = ret → meth.locks = false → (y.name = "<init>" → meth.name = "<init>") → B s → ∀ ls : Array Slot, lv_has ls maxL (lv_args 0 av) →
      W p l e (rD d mc ms) s m args below meth c s.heap [] 0 0 (MQ below (HVQ D z0 post) args s mc ms (zA z0)) (F0 m 0 ls [])) : HV l y ws d mc ms D z0 B av post := by
  refine Met.ofW (cc := cc) (maxL := maxL) (ret := ret) hy hw ?_
  intro p e s m args below meth c s₁ Bd hml hv
  obtain ⟨rfl, hB⟩ := hv
  have h := body p e s m av.toArray below meth c ⟨Bd.exec, Bd.bytes, hml, findClass_of_methodNamed Bd.named, atoms_spec (ws := ws) Bd.pre⟩ Bd.returns Bd.notSynchronized (fun hy => (name_of_methodNamed Bd.named Bd.method).1.trans hy) hB _ (lv_entry av hsz)
  rw [lg_entry_eq]
  exact h
/-! ends -/
theorem RV.iret {v x : Int32} (hC : CallFix p m c cc nL s args Ts own) (hr : meth.sig.returnType = some .int) (hlk : meth.locks = false) (hdg : decode cc pc = .ok (.ireturn, 1)) (hv : x = v) :
    W p l e R s m args below meth c s.heap [] 0 0 (MQ below (RVQ (some (.int v))) args s 0 0 (fun _ => False)) (F0 m pc ls [.int x]) := by
  subst hv
  exact W.iret hC.1 hC.2.1 hr (fun t ht _ => ⟨rfl, ht⟩) (fun q h => by cases h) hdg hlk
theorem RV.zret {v x : Int32} (hC : CallFix p m c cc nL s args Ts own) (hr : meth.sig.returnType = some .boolean) (hlk : meth.locks = false) (hdg : decode cc pc = .ok (.ireturn, 1)) (hv : x = v) (hn : x = 0 ∨ x = 1) :
    W p l e R s m args below meth c s.heap [] 0 0 (MQ below (RVQ (some (.int v))) args s 0 0 (fun _ => False)) (F0 m pc ls [.int x]) := by
  subst hv
  exact W.zret hC.1 hC.2.1 hr (by rcases hn with h | h <;> (subst h; decide)) (fun t ht _ => ⟨rfl, ht⟩) (fun q h => by cases h) hdg hlk
theorem RV.lret {v x : Int64} (hC : CallFix p m c cc nL s args Ts own) (hr : meth.sig.returnType = some .long) (hlk : meth.locks = false) (hdg : decode cc pc = .ok (.lreturn, 1)) (hv : x = v) :
    W p l e R s m args below meth c s.heap [] 0 0 (MQ below (RVQ (some (.long v))) args s 0 0 (fun _ => False)) (F0 m pc ls [.long x]) := by
  subst hv
  exact W.lret hC.1 hC.2.1 hr (fun t ht _ => ⟨rfl, ht⟩) (fun q h => by cases h) hdg hlk
theorem RV.vret (hC : CallFix p m c cc nL s args Ts own) (hr : meth.sig.returnType = none) (hlk : meth.locks = false) (hdg : decode cc pc = .ok (.return_, 1)) :
    W p l e R s m args below meth c s.heap [] 0 0 (MQ below (RVQ none) args s 0 0 (fun _ => False)) (F0 m pc ls []) :=
  W.vret hC.1 hC.2.1 hr (fun t ht _ => ⟨rfl, ht⟩) (fun q h => by cases h) hdg hlk
theorem HV.post {o : Option Value} {post : Option Value → List Nat → (Nat → va_E) → Prop} (hP : va_P D vwCl (va_pl L f) H) (hD : va_D (zA z0) (va_pl L f)) (hS : va_S (zA z0) s.heap H locs) (hp : post o L f) (t : State) (ht : t.heap = H) : HVQ D z0 post args s (.returned o) t := by
  refine ⟨⟨o, L, f, rfl, hp, by rw [ht]; exact hP, hD⟩, by rw [ht]; exact hS.1, fun q h1 h2 => by rw [ht]; exact hS.2.1 q h1 h2⟩
theorem HV.iret {x : Int32} {mc ms : Nat} {post : Option Value → List Nat → (Nat → va_E) → Prop} (hC : CallFix p m c cc nL s args Ts own) (hr : meth.sig.returnType = some .int) (hlk : meth.locks = false) (hP : va_P D vwCl (va_pl L f) H) (hD : va_D (zA z0) (va_pl L f)) (hS : va_S (zA z0) s.heap H locs) (hc : cells ≤ mc) (hs : slots ≤ ms) (hdg : decode cc pc = .ok (.ireturn, 1)) (hp : post (some (.int x)) L f) :
    W p l e R s m args below meth c H locs cells slots (MQ below (HVQ D z0 post) args s mc ms (zA z0)) (F0 m pc ls [.int x]) :=
  W.widen hc hs (W.iret hC.1 hC.2.1 hr (fun t ht _ => HV.post hP hD hS hp t ht) hS.2.2 hdg hlk)
theorem HV.zret {x : Int32} {mc ms : Nat} {post : Option Value → List Nat → (Nat → va_E) → Prop} (hC : CallFix p m c cc nL s args Ts own) (hr : meth.sig.returnType = some .boolean) (hlk : meth.locks = false) (hP : va_P D vwCl (va_pl L f) H) (hD : va_D (zA z0) (va_pl L f)) (hS : va_S (zA z0) s.heap H locs) (hc : cells ≤ mc) (hs : slots ≤ ms) (hdg : decode cc pc = .ok (.ireturn, 1)) (hn : x = 0 ∨ x = 1) (hp : post (some (.int x)) L f) :
    W p l e R s m args below meth c H locs cells slots (MQ below (HVQ D z0 post) args s mc ms (zA z0)) (F0 m pc ls [.int x]) :=
  W.widen hc hs (W.zret hC.1 hC.2.1 hr (by rcases hn with h | h <;> (subst h; decide)) (fun t ht _ => HV.post hP hD hS hp t ht) hS.2.2 hdg hlk)
theorem HV.lret {x : Int64} {mc ms : Nat} {post : Option Value → List Nat → (Nat → va_E) → Prop} (hC : CallFix p m c cc nL s args Ts own) (hr : meth.sig.returnType = some .long) (hlk : meth.locks = false) (hP : va_P D vwCl (va_pl L f) H) (hD : va_D (zA z0) (va_pl L f)) (hS : va_S (zA z0) s.heap H locs) (hc : cells ≤ mc) (hs : slots ≤ ms) (hdg : decode cc pc = .ok (.lreturn, 1)) (hp : post (some (.long x)) L f) :
    W p l e R s m args below meth c H locs cells slots (MQ below (HVQ D z0 post) args s mc ms (zA z0)) (F0 m pc ls [.long x]) :=
  W.widen hc hs (W.lret hC.1 hC.2.1 hr (fun t ht _ => HV.post hP hD hS hp t ht) hS.2.2 hdg hlk)
theorem HV.vret {mc ms : Nat} {post : Option Value → List Nat → (Nat → va_E) → Prop} (hC : CallFix p m c cc nL s args Ts own) (hr : meth.sig.returnType = none) (hlk : meth.locks = false) (hP : va_P D vwCl (va_pl L f) H) (hD : va_D (zA z0) (va_pl L f)) (hS : va_S (zA z0) s.heap H locs) (hc : cells ≤ mc) (hs : slots ≤ ms) (hdg : decode cc pc = .ok (.return_, 1)) (hp : post none L f) :
    W p l e R s m args below meth c H locs cells slots (MQ below (HVQ D z0 post) args s mc ms (zA z0)) (F0 m pc ls []) :=
  W.widen hc hs (W.vret hC.1 hC.2.1 hr (fun t ht _ => HV.post hP hD hS hp t ht) hS.2.2 hdg hlk)
theorem HV.aret {x : Nat} {mc ms : Nat} {post : Option Value → List Nat → (Nat → va_E) → Prop} (hC : CallFix p m c cc nL s args Ts own) (hr : meth.sig.returnType = some (.array .int)) (hlk : meth.locks = false) (hP : va_P D vwCl (va_pl L f) H) (hD : va_D (zA z0) (va_pl L f)) (hS : va_S (zA z0) s.heap H locs) (hc : cells ≤ mc) (hs : slots ≤ ms) (hdg : decode cc pc = .ok (.areturn, 1)) (hp : post (some (.ref x)) L f) :
    W p l e R s m args below meth c H locs cells slots (MQ below (HVQ D z0 post) args s mc ms (zA z0)) (F0 m pc ls [.ref x]) :=
  W.widen hc hs (W.aret hC.1 hC.2.1 hr (Or.inr ⟨_, rfl⟩) (Or.inr ⟨_, rfl⟩) (fun t ht _ => HV.post hP hD hS hp t ht) hS.2.2 hdg hlk)
/-! calls -/
theorem zPre.pass {av : List Value} (hE : zE D T z0 s) (hP : va_P D vwCl (va_pl L f) H) (hD : va_D (zA z0) (va_pl L f)) (hS : va_S (zA z0) s.heap H locs) (U : State) (hU : U.heap = H) (hW : s.WarmedH U.vm) : va_Pc av (zPre D T z0 L f) av.toArray U := by
  obtain ⟨h1, h2, h3⟩ := hE
  refine ⟨rfl, ⟨by rw [hU]; exact Nat.le_trans h1 hS.1, by rw [hU]; exact h2.pass hW (fun a ha hn => hS.2.1 a ha hn), va_K.moved hW.alike h3⟩, by rw [hU]; exact hP, hD⟩
theorem p_go {y : MethodName} {mc ms : Nat} {o : Option Value} {a : Array Value} {st0 : List Value} (hr : CallRun p l e R s m args below meth c H locs cells slots 0 0 (F0 m pc ls st0) rest (RVQ o a) (fun _ => False))
    (kk : W p l e R s m args below meth c H locs cells slots Q (F0 m (pc + 3) ls (o.toList ++ rest))) : W p l e R s m args below meth c H locs cells slots Q (F0 m pc ls st0) := by
  intro S hT X
  obtain ⟨v, st₀, t, T', L, h0, X', hL, e1, ⟨hv, hh⟩, st⟩ := hr S hT X
  cases hv
  obtain ⟨t2, a1, b1⟩ := kk T' (by rw [e1, hh, h0]) (Stand.forget X' (fun q h => (hL q h).elim))
  exact ⟨t2, st t2 a1, b1⟩
/-- a static call that reads: pure -/
theorem p_cs {y : MethodName} {n : Nat} {ws ws' : List Cond} {d maxL index : Nat} {av st : List Value} {o : Option Value} {ret : Option FieldType} {bytes : ByteArray} {Ts : List Cond} {own : String} {nL : Nat}
    (hM : RV l y ws d zNo av o) (hC : CallFix p m c cc nL s args Ts own) (hg : GoodIn Ts (va_wsS own index y ws)) (hw : ws = Cond.code y bytes maxL ret :: ws') (hd : y.cls ≠ "java/lang/invoke/MethodHandle" ∧ y.cls ≠ "java/lang/invoke/VarHandle" ∧ (parseMethodDescriptor y.desc).map (fun d => d.parameters.length) = some n) (hn : av.length = n)
    (hR : d + 1 ≤ R.frames ∧ 8 + (maxL + 11) + 60 * d ≤ R.locals) (hf : cells ≤ R.cells ∧ slots ≤ R.slots) (hsz : ls.size = nL) (hW : (rest.map fun v => v.category).sum ≤ 8) (hdg : decode cc pc = .ok (.invokestatic index, 3)) (hst : st = av.reverse ++ rest)
    (kk : W p l e R s m args below meth c H locs cells slots Q (F0 m (pc + 3) ls (o.toList ++ rest))) : W p l e R s m args below meth c H locs cells slots Q (F0 m pc ls st) := by
  subst hst
  exact p_go (y := y) (mc := 0) (ms := 0) (W.runS (As := av) (rest := rest) hC hM (va_cwS n hC.2.2.2.2 hg hw rfl rfl hd hR) ⟨zNo.blind, fun U _ _ => ⟨rfl, trivial⟩⟩ rfl hn hsz rfl (lv_room hW) hdg ⟨hf.1, hf.2⟩) kk
/-- a static call that reads, with the pool -/
theorem p_csB {y : MethodName} {n : Nat} {ws ws' : List Cond} {d maxL index : Nat} {av st : List Value} {o : Option Value} {ret : Option FieldType} {bytes : ByteArray} {Ts : List Cond} {own : String} {nL : Nat}
    (hM : RV l y ws d (zPre D T z0 L f) av o) (hC : CallFix p m c cc nL s args Ts own) (hE : zE D T z0 s) (hP : va_P D vwCl (va_pl L f) H) (hD : va_D (zA z0) (va_pl L f)) (hS : va_S (zA z0) s.heap H locs) (hg : GoodIn Ts (va_wsS own index y ws)) (hw : ws = Cond.code y bytes maxL ret :: ws') (hd : y.cls ≠ "java/lang/invoke/MethodHandle" ∧ y.cls ≠ "java/lang/invoke/VarHandle" ∧ (parseMethodDescriptor y.desc).map (fun d => d.parameters.length) = some n) (hn : av.length = n)
    (hR : d + 1 ≤ R.frames ∧ 8 + (maxL + 11) + 60 * d ≤ R.locals) (hf : cells ≤ R.cells ∧ slots ≤ R.slots) (hsz : ls.size = nL) (hW : (rest.map fun v => v.category).sum ≤ 8) (hdg : decode cc pc = .ok (.invokestatic index, 3)) (hst : st = av.reverse ++ rest)
    (kk : W p l e R s m args below meth c H locs cells slots Q (F0 m (pc + 3) ls (o.toList ++ rest))) : W p l e R s m args below meth c H locs cells slots Q (F0 m pc ls st) := by
  subst hst
  exact p_go (y := y) (mc := 0) (ms := 0) (W.runS (As := av) (rest := rest) hC hM (va_cwS n hC.2.2.2.2 hg hw rfl rfl hd hR) ⟨zPre.blind, fun U hU hW => zPre.pass hE hP hD hS U hU hW⟩ rfl hn hsz rfl (lv_room hW) hdg ⟨hf.1, hf.2⟩) kk
/-- a virtual call that reads, with the pool -/
theorem p_cvB {y : MethodName} {n : Nat} {ws ws' : List Cond} {d maxL index ci N : Nat} {C : String} {TT : u_T} {b : Nat} {fs : List Value} {av st : List Value} {o : Option Value} {ret : Option FieldType} {bytes : ByteArray} {Ts : List Cond} {own : String} {nL : Nat}
    (hM : RV l y ws d (zPre D T z0 L f) (.ref b :: av) o) (hC : CallFix p m c cc nL s args Ts own) (hE : zE D T z0 s) (hP : va_P D vwCl (va_pl L f) H) (hD : va_D (zA z0) (va_pl L f)) (hS : va_S (zA z0) s.heap H locs) (hm : b ∈ L) (he : f b = .inr (ci, fs)) (hc : vwCl[ci]? = some (C, TT, N)) (hg : GoodIn Ts (wsV own index C y ws)) (hw : ws = Cond.code y bytes maxL ret :: ws') (hd : y.cls = C ∧ y.cls ≠ "java/lang/invoke/MethodHandle" ∧ y.cls ≠ "java/lang/invoke/VarHandle" ∧ (parseMethodDescriptor y.desc).map (fun d => d.parameters.length) = some n) (hn : av.length = n)
    (hR : d + 1 ≤ R.frames ∧ 8 + (maxL + 11) + 60 * d ≤ R.locals) (hf : cells ≤ R.cells ∧ slots ≤ R.slots) (hsz : ls.size = nL) (hW : (rest.map fun v => v.category).sum ≤ 8) (hdg : decode cc pc = .ok (.invokevirtual index, 3)) (hst : st = av.reverse ++ .ref b :: rest)
    (kk : W p l e R s m args below meth c H locs cells slots Q (F0 m (pc + 3) ls (o.toList ++ rest))) : W p l e R s m args below meth c H locs cells slots Q (F0 m pc ls st) := by
  subst hst
  obtain ⟨k, hk⟩ := va_pl_get (X := []) (f := f) hm
  rw [List.nil_append, he] at hk
  exact p_go (y := y) (mc := 0) (ms := 0) (W.runV (As := av) (rest := rest) hC hM (cwV n hC.2.2.2.2 hg hw rfl rfl hd hR) ⟨zPre.blind, va_recv hE.2.2 hP hc hk, fun U hU hW => zPre.pass hE hP hD hS U hU hW⟩ rfl hn hsz rfl (lv_room hW) hdg ⟨hf.1, hf.2⟩) kk
theorem p_goH {mc ms : Nat} {post : Option Value → List Nat → (Nat → va_E) → Prop} {a : Array Value} {st0 : List Value} (hr : va_Run p l e R s m args below meth c H locs cells slots mc ms (F0 m pc ls st0) rest (HVQ D z0 post a) (zA z0)) (hS : va_S (zA z0) s.heap H locs)
    (kk : ∀ (o : Option Value) (L1 : List Nat) (f1 : Nat → va_E) (H1 : Heap) (locs1 : List Loc), post o L1 f1 → va_P D vwCl (va_pl L1 f1) H1 → va_D (zA z0) (va_pl L1 f1) → va_S (zA z0) s.heap H1 locs1 → W p l e R s m args below meth c H1 locs1 (cells + mc) (slots + ms) Q (F0 m (pc + 3) ls (o.toList ++ rest))) : W p l e R s m args below meth c H locs cells slots Q (F0 m pc ls st0) := by
  intro S hT X
  obtain ⟨v, st₀, t, T', Ls, h0, X', hL, e1, e2, ⟨⟨o, L1, f1, hv, hp, hb1, hb2⟩, hz, hk⟩, st⟩ := hr S hT X
  cases hv
  rw [h0] at hz hk
  obtain ⟨t2, a1, b1⟩ := kk v L1 f1 T'.heap (locs ++ Ls) hp (by rw [e1]; exact hb1) hb2
    ⟨Nat.le_trans hS.1 (by rw [e1]; exact hz), fun q h1 h2 => by rw [e1, hk q (Nat.lt_of_lt_of_le h1 hS.1) h2]; exact hS.2.1 q h1 h2, fun q hq => by
      rcases List.mem_append.mp hq with h | h
      · exact hS.2.2 q h
      · exact hL q h⟩ T' rfl X'
  exact ⟨t2, st t2 a1, b1⟩
/-- a static call that leaves another pool -/
theorem p_csH {y : MethodName} {n : Nat} {ws ws' : List Cond} {d maxL mc ms index : Nat} {av st : List Value} {post : Option Value → List Nat → (Nat → va_E) → Prop} {ret : Option FieldType} {bytes : ByteArray} {Ts : List Cond} {own : String} {nL : Nat}
    (hM : HV l y ws d mc ms D z0 (zPre D T z0 L f) av post) (hC : CallFix p m c cc nL s args Ts own) (hE : zE D T z0 s) (hP : va_P D vwCl (va_pl L f) H) (hD : va_D (zA z0) (va_pl L f)) (hS : va_S (zA z0) s.heap H locs) (hg : GoodIn Ts (va_wsS own index y ws)) (hw : ws = Cond.code y bytes maxL ret :: ws') (hd : y.cls ≠ "java/lang/invoke/MethodHandle" ∧ y.cls ≠ "java/lang/invoke/VarHandle" ∧ (parseMethodDescriptor y.desc).map (fun d => d.parameters.length) = some n) (hn : av.length = n)
    (hR : d + 1 ≤ R.frames ∧ 8 + (maxL + 11) + 60 * d ≤ R.locals) (hf : cells + mc ≤ R.cells ∧ slots + ms ≤ R.slots) (hsz : ls.size = nL) (hW : (rest.map fun v => v.category).sum ≤ 8) (hdg : decode cc pc = .ok (.invokestatic index, 3)) (hst : st = av.reverse ++ rest)
    (kk : ∀ (o : Option Value) (L1 : List Nat) (f1 : Nat → va_E) (H1 : Heap) (locs1 : List Loc), post o L1 f1 → va_P D vwCl (va_pl L1 f1) H1 → va_D (zA z0) (va_pl L1 f1) → va_S (zA z0) s.heap H1 locs1 → W p l e R s m args below meth c H1 locs1 (cells + mc) (slots + ms) Q (F0 m (pc + 3) ls (o.toList ++ rest))) : W p l e R s m args below meth c H locs cells slots Q (F0 m pc ls st) := by
  subst hst
  exact p_goH (va_runS (As := av) (rest := rest) hC hM (va_cwS n hC.2.2.2.2 hg hw rfl rfl hd hR) ⟨zPre.blind, fun U hU hW => zPre.pass hE hP hD hS U hU hW⟩ rfl hn hsz rfl (lv_room hW) hdg hf) hS kk
theorem p_cvH {y : MethodName} {n : Nat} {ws ws' : List Cond} {d maxL mc ms index ci N : Nat} {C : String} {TT : u_T} {b : Nat} {fs : List Value} {av st : List Value} {post : Option Value → List Nat → (Nat → va_E) → Prop} {ret : Option FieldType} {bytes : ByteArray} {Ts : List Cond} {own : String} {nL : Nat}
    (hM : HV l y ws d mc ms D z0 (zPre D T z0 L f) (.ref b :: av) post) (hC : CallFix p m c cc nL s args Ts own) (hE : zE D T z0 s) (hP : va_P D vwCl (va_pl L f) H) (hD : va_D (zA z0) (va_pl L f)) (hS : va_S (zA z0) s.heap H locs) (hm : b ∈ L) (he : f b = .inr (ci, fs)) (hc : vwCl[ci]? = some (C, TT, N)) (hg : GoodIn Ts (wsV own index C y ws)) (hw : ws = Cond.code y bytes maxL ret :: ws') (hd : y.cls = C ∧ y.cls ≠ "java/lang/invoke/MethodHandle" ∧ y.cls ≠ "java/lang/invoke/VarHandle" ∧ (parseMethodDescriptor y.desc).map (fun d => d.parameters.length) = some n) (hn : av.length = n)
    (hR : d + 1 ≤ R.frames ∧ 8 + (maxL + 11) + 60 * d ≤ R.locals) (hf : cells + mc ≤ R.cells ∧ slots + ms ≤ R.slots) (hsz : ls.size = nL) (hW : (rest.map fun v => v.category).sum ≤ 8) (hdg : decode cc pc = .ok (.invokevirtual index, 3)) (hst : st = av.reverse ++ .ref b :: rest)
    (kk : ∀ (o : Option Value) (L1 : List Nat) (f1 : Nat → va_E) (H1 : Heap) (locs1 : List Loc), post o L1 f1 → va_P D vwCl (va_pl L1 f1) H1 → va_D (zA z0) (va_pl L1 f1) → va_S (zA z0) s.heap H1 locs1 → W p l e R s m args below meth c H1 locs1 (cells + mc) (slots + ms) Q (F0 m (pc + 3) ls (o.toList ++ rest))) : W p l e R s m args below meth c H locs cells slots Q (F0 m pc ls st) := by
  subst hst
  obtain ⟨k, hk⟩ := va_pl_get (X := []) (f := f) hm
  rw [List.nil_append, he] at hk
  exact p_goH (va_runV (As := av) (rest := rest) hC hM (cwV n hC.2.2.2.2 hg hw rfl rfl hd hR) ⟨zPre.blind, va_recv hE.2.2 hP hc hk, fun U hU hW => zPre.pass hE hP hD hS U hU hW⟩ rfl hn hsz rfl (lv_room hW) hdg hf) hS kk
end ZA
end
section
/-! MY ROWS 04: instructions over numbers that are written nI of a natural number -/
section ZB
variable {p : Program} {l : Launch} {e : Env} {R : Room} {s : State} {m : MethodId} {args : Array Value} {below : List Frame} {meth : Method} {c : Code} {H : Heap} {locs : List Loc} {cells slots : Nat} {Q : State → Prop}
variable {cc : ByteArray} {pc nL : Nat} {ls : Array Slot} {rest : List Value} {Ts : List Cond} {own : String}
theorem z_inc (a : Nat) : nI a + Int32.ofInt 1 = nI (a + 1) := nI_1 a
theorem z_inc4 (a : Nat) : nI a + Int32.ofInt 4 = nI (a + 4) := nI_add a 4
theorem z_dec {a : Nat} (h : 0 < a) : nI a + Int32.ofInt (-1) = nI (a - 1) := by
  obtain ⟨b, rfl⟩ : ∃ b, a = b + 1 := ⟨a - 1, by omega⟩
  exact pk_m1 b
theorem q_i {x : Int32} (y : Int32) (h : x = y) (k : W p l e R s m args below meth c H locs cells slots Q (F0 m pc ls (.int y :: rest))) : W p l e R s m args below meth c H locs cells slots Q (F0 m pc ls (.int x :: rest)) := by subst h; exact k
theorem q_l {x : Int64} (y : Int64) (h : x = y) (k : W p l e R s m args below meth c H locs cells slots Q (F0 m pc ls (.long y :: rest))) : W p l e R s m args below meth c H locs cells slots Q (F0 m pc ls (.long x :: rest)) := by subst h; exact k
theorem z_iadd (hC : CallFix p m c cc nL s args Ts own) {a b : Nat} (hdg : decode cc pc = .ok (.iadd, 1)) (k : W p l e R s m args below meth c H locs cells slots Q (F0 m (pc + 1) ls (.int (nI (a + b)) :: rest))) : W p l e R s m args below meth c H locs cells slots Q (F0 m pc ls (.int (nI b) :: .int (nI a) :: rest)) :=
  lv_iadd hC.1 hC.2.1 hdg (q_i _ (nI_add a b) k)
theorem z_imul (hC : CallFix p m c cc nL s args Ts own) {a b : Nat} (hdg : decode cc pc = .ok (.imul, 1)) (k : W p l e R s m args below meth c H locs cells slots Q (F0 m (pc + 1) ls (.int (nI (a * b)) :: rest))) : W p l e R s m args below meth c H locs cells slots Q (F0 m pc ls (.int (nI b) :: .int (nI a) :: rest)) :=
  lv_imul hC.1 hC.2.1 hdg (q_i _ (pk_mul a b) k)
theorem z_isub (hC : CallFix p m c cc nL s args Ts own) {a b : Nat} (hdg : decode cc pc = .ok (.isub, 1)) (h : b ≤ a) (k : W p l e R s m args below meth c H locs cells slots Q (F0 m (pc + 1) ls (.int (nI (a - b)) :: rest))) : W p l e R s m args below meth c H locs cells slots Q (F0 m pc ls (.int (nI b) :: .int (nI a) :: rest)) :=
  lv_isub hC.1 hC.2.1 hdg (q_i _ (pk_sub h) k)
theorem z_ne0 {b : Nat} (h0 : 0 < b) (hb : b < 2 ^ 31) : ¬ nI b = 0 := nI_ne0 h0 hb
theorem z_idiv (hC : CallFix p m c cc nL s args Ts own) {a b : Nat} (hdg : decode cc pc = .ok (.idiv, 1)) (ha : a < 2 ^ 31) (h0 : 0 < b) (hb : b < 2 ^ 31) (k : W p l e R s m args below meth c H locs cells slots Q (F0 m (pc + 1) ls (.int (nI (a / b)) :: rest))) : W p l e R s m args below meth c H locs cells slots Q (F0 m pc ls (.int (nI b) :: .int (nI a) :: rest)) :=
  lv_idiv hC.1 hC.2.1 hdg (z_ne0 h0 hb) (q_i _ (pk_div ha h0 hb) k)
theorem z_irem (hC : CallFix p m c cc nL s args Ts own) {a b : Nat} (hdg : decode cc pc = .ok (.irem, 1)) (ha : a < 2 ^ 31) (h0 : 0 < b) (hb : b < 2 ^ 31) (k : W p l e R s m args below meth c H locs cells slots Q (F0 m (pc + 1) ls (.int (nI (a % b)) :: rest))) : W p l e R s m args below meth c H locs cells slots Q (F0 m pc ls (.int (nI b) :: .int (nI a) :: rest)) :=
  lv_irem hC.1 hC.2.1 hdg (z_ne0 h0 hb) (q_i _ (pk_rem ha h0 hb) k)
theorem z_icmp_ge (hC : CallFix p m c cc nL s args Ts own) {a b tgt : Nat} {off : Int} (hdg : decode cc pc = .ok (.if_icmp .ge off, 3)) (ht : (pc : Int) + off = (tgt : Int)) (ha : a < 2 ^ 31) (hb : b < 2 ^ 31) (kt : b ≤ a → W p l e R s m args below meth c H locs cells slots Q (F0 m tgt ls rest)) (kf : a < b → W p l e R s m args below meth c H locs cells slots Q (F0 m (pc + 3) ls rest)) : W p l e R s m args below meth c H locs cells slots Q (F0 m pc ls (.int (nI b) :: .int (nI a) :: rest)) :=
  lv_icmp_ge hC.1 hC.2.1 hdg ht (fun h => kt ((nI_leI hb ha).mp h)) (fun h => kf (Nat.lt_of_not_le fun q => h ((nI_leI hb ha).mpr q)))
theorem z_icmp_gt (hC : CallFix p m c cc nL s args Ts own) {a b tgt : Nat} {off : Int} (hdg : decode cc pc = .ok (.if_icmp .gt off, 3)) (ht : (pc : Int) + off = (tgt : Int)) (ha : a < 2 ^ 31) (hb : b < 2 ^ 31) (kt : b < a → W p l e R s m args below meth c H locs cells slots Q (F0 m tgt ls rest)) (kf : a ≤ b → W p l e R s m args below meth c H locs cells slots Q (F0 m (pc + 3) ls rest)) : W p l e R s m args below meth c H locs cells slots Q (F0 m pc ls (.int (nI b) :: .int (nI a) :: rest)) :=
  lv_icmp_gt hC.1 hC.2.1 hdg ht (fun h => kt ((nI_ltI hb ha).mp h)) (fun h => kf (Nat.le_of_not_lt fun q => h ((nI_ltI hb ha).mpr q)))
theorem z_icmp_le (hC : CallFix p m c cc nL s args Ts own) {a b tgt : Nat} {off : Int} (hdg : decode cc pc = .ok (.if_icmp .le off, 3)) (ht : (pc : Int) + off = (tgt : Int)) (ha : a < 2 ^ 31) (hb : b < 2 ^ 31) (kt : a ≤ b → W p l e R s m args below meth c H locs cells slots Q (F0 m tgt ls rest)) (kf : b < a → W p l e R s m args below meth c H locs cells slots Q (F0 m (pc + 3) ls rest)) : W p l e R s m args below meth c H locs cells slots Q (F0 m pc ls (.int (nI b) :: .int (nI a) :: rest)) :=
  lv_icmp_le hC.1 hC.2.1 hdg ht (fun h => kt ((nI_leI ha hb).mp h)) (fun h => kf (Nat.lt_of_not_le fun q => h ((nI_leI ha hb).mpr q)))
theorem z_icmp_lt (hC : CallFix p m c cc nL s args Ts own) {a b tgt : Nat} {off : Int} (hdg : decode cc pc = .ok (.if_icmp .lt off, 3)) (ht : (pc : Int) + off = (tgt : Int)) (ha : a < 2 ^ 31) (hb : b < 2 ^ 31) (kt : a < b → W p l e R s m args below meth c H locs cells slots Q (F0 m tgt ls rest)) (kf : b ≤ a → W p l e R s m args below meth c H locs cells slots Q (F0 m (pc + 3) ls rest)) : W p l e R s m args below meth c H locs cells slots Q (F0 m pc ls (.int (nI b) :: .int (nI a) :: rest)) :=
  lv_icmp_lt hC.1 hC.2.1 hdg ht (fun h => kt ((nI_ltI ha hb).mp h)) (fun h => kf (Nat.le_of_not_lt fun q => h ((nI_ltI ha hb).mpr q)))
theorem z_icmp_eq (hC : CallFix p m c cc nL s args Ts own) {a b tgt : Nat} {off : Int} (hdg : decode cc pc = .ok (.if_icmp .eq off, 3)) (ht : (pc : Int) + off = (tgt : Int)) (ha : a < 2 ^ 31) (hb : b < 2 ^ 31) (kt : a = b → W p l e R s m args below meth c H locs cells slots Q (F0 m tgt ls rest)) (kf : ¬ a = b → W p l e R s m args below meth c H locs cells slots Q (F0 m (pc + 3) ls rest)) : W p l e R s m args below meth c H locs cells slots Q (F0 m pc ls (.int (nI b) :: .int (nI a) :: rest)) :=
  lv_icmp_eq hC.1 hC.2.1 hdg ht (fun h => kt ((nI_eq ha hb).mp h)) (fun h => kf (fun q => h ((nI_eq ha hb).mpr q)))
theorem z_icmp_ne (hC : CallFix p m c cc nL s args Ts own) {a b tgt : Nat} {off : Int} (hdg : decode cc pc = .ok (.if_icmp .ne off, 3)) (ht : (pc : Int) + off = (tgt : Int)) (ha : a < 2 ^ 31) (hb : b < 2 ^ 31) (kt : ¬ a = b → W p l e R s m args below meth c H locs cells slots Q (F0 m tgt ls rest)) (kf : a = b → W p l e R s m args below meth c H locs cells slots Q (F0 m (pc + 3) ls rest)) : W p l e R s m args below meth c H locs cells slots Q (F0 m pc ls (.int (nI b) :: .int (nI a) :: rest)) :=
  lv_icmp_ne hC.1 hC.2.1 hdg ht (fun h => kt (fun q => h ((nI_eq ha hb).mpr q))) (fun h => kf ((nI_eq ha hb).mp h))
theorem z_if_eq (hC : CallFix p m c cc nL s args Ts own) {a tgt : Nat} {off : Int} (hdg : decode cc pc = .ok (.ifCond .eq off, 3)) (ht : (pc : Int) + off = (tgt : Int)) (ha : a < 2 ^ 31) (kt : a = 0 → W p l e R s m args below meth c H locs cells slots Q (F0 m tgt ls rest)) (kf : ¬ a = 0 → W p l e R s m args below meth c H locs cells slots Q (F0 m (pc + 3) ls rest)) : W p l e R s m args below meth c H locs cells slots Q (F0 m pc ls (.int (nI a) :: rest)) :=
  lv_if_eq hC.1 hC.2.1 hdg ht (fun h => kt ((nI_eq ha (by decide)).mp (h.trans nI_0.symm))) (fun h => kf (fun q => h (by rw [q]; exact nI_0)))
theorem z_if_ne (hC : CallFix p m c cc nL s args Ts own) {a tgt : Nat} {off : Int} (hdg : decode cc pc = .ok (.ifCond .ne off, 3)) (ht : (pc : Int) + off = (tgt : Int)) (ha : a < 2 ^ 31) (kt : ¬ a = 0 → W p l e R s m args below meth c H locs cells slots Q (F0 m tgt ls rest)) (kf : a = 0 → W p l e R s m args below meth c H locs cells slots Q (F0 m (pc + 3) ls rest)) : W p l e R s m args below meth c H locs cells slots Q (F0 m pc ls (.int (nI a) :: rest)) :=
  lv_if_ne hC.1 hC.2.1 hdg ht (fun h => kt (fun q => h (by rw [q]; exact nI_0))) (fun h => kf ((nI_eq ha (by decide)).mp (h.trans nI_0.symm)))
theorem z_if_lt (hC : CallFix p m c cc nL s args Ts own) {a tgt : Nat} {off : Int} (hdg : decode cc pc = .ok (.ifCond .lt off, 3)) (ht : (pc : Int) + off = (tgt : Int)) (ha : a < 2 ^ 31) (kf : W p l e R s m args below meth c H locs cells slots Q (F0 m (pc + 3) ls rest)) : W p l e R s m args below meth c H locs cells slots Q (F0 m pc ls (.int (nI a) :: rest)) :=
  lv_if_lt hC.1 hC.2.1 hdg ht (fun h => absurd h (nI_pos ha)) (fun _ => kf)
theorem z_if_le (hC : CallFix p m c cc nL s args Ts own) {a tgt : Nat} {off : Int} (hdg : decode cc pc = .ok (.ifCond .le off, 3)) (ht : (pc : Int) + off = (tgt : Int)) (ha : a < 2 ^ 31) (kt : a = 0 → W p l e R s m args below meth c H locs cells slots Q (F0 m tgt ls rest)) (kf : 0 < a → W p l e R s m args below meth c H locs cells slots Q (F0 m (pc + 3) ls rest)) : W p l e R s m args below meth c H locs cells slots Q (F0 m pc ls (.int (nI a) :: rest)) :=
  lv_if_le hC.1 hC.2.1 hdg ht (fun h => kt (Nat.eq_zero_of_not_pos fun q => nI_nle q ha h)) (fun h => kf (Nat.pos_of_ne_zero fun q => h (by rw [q]; decide)))
end ZB
end
section
/-! MY ROWS 05: eight bytes in one long -/
def encN (b : Nat → Nat) : Nat → Nat
  | 0 => 0
  | n + 1 => 2 ^ (8 * n) * b n + encN b n
theorem encN_lt {b : Nat → Nat} (h : ∀ i, i < 8 → b i < 256) : ∀ n, n ≤ 8 → encN b n < 2 ^ (8 * n)
  | 0, _ => by simp [encN]
  | n + 1, hn => by
    have ih := encN_lt h n (by omega)
    have hb := h n (by omega)
    show 2 ^ (8 * n) * b n + encN b n < 2 ^ (8 * (n + 1))
    have e : 2 ^ (8 * (n + 1)) = 2 ^ (8 * n) * 256 := by rw [Nat.mul_add, Nat.pow_add]
    rw [e]
    have h1 : 2 ^ (8 * n) * (b n + 1) ≤ 2 ^ (8 * n) * 256 := Nat.mul_le_mul_left _ (by omega)
    rw [Nat.mul_add, Nat.mul_one] at h1
    omega
theorem encN_bit {b : Nat → Nat} (h : ∀ i, i < 8 → b i < 256) : ∀ n, n ≤ 8 → ∀ i, (encN b n).testBit i = (decide (i < 8 * n) && (b (i / 8)).testBit (i % 8))
  | 0, _, i => by simp [encN]
  | n + 1, hn, i => by
    show (2 ^ (8 * n) * b n + encN b n).testBit i = _
    rw [Nat.testBit_two_pow_mul_add _ (encN_lt h n (by omega))]
    by_cases hi : i < 8 * n
    · rw [if_pos hi, encN_bit h n (by omega)]
      have h2 : i < 8 * (n + 1) := by omega
      simp [hi, h2]
    · rw [if_neg hi]
      by_cases h2 : i < 8 * (n + 1)
      · have e1 : i / 8 = n := by omega
        have e2 : i % 8 = i - 8 * n := by omega
        rw [e1, e2]
        simp [h2]
      · have h8 : (2 : Nat) ^ 8 ≤ 2 ^ (i - 8 * n) := Nat.pow_le_pow_right (by decide) (by omega)
        have h3 : (b n).testBit (i - 8 * n) = false := Nat.testBit_lt_two_pow (Nat.lt_of_lt_of_le (h n (by omega)) h8)
        simp [h2, h3]
theorem encN_congr {a b : Nat → Nat} (h : ∀ i, i < 8 → a i = b i) : ∀ n, n ≤ 8 → encN a n = encN b n
  | 0, _ => rfl
  | n + 1, hn => by
    show 2 ^ (8 * n) * a n + encN a n = 2 ^ (8 * n) * b n + encN b n
    rw [encN_congr h n (by omega), h n (by omega)]
def enc (b : Nat → Nat) : Int64 := Int64.ofBitVec (BitVec.ofNat 64 (encN b 8))
theorem enc_congr {a b : Nat → Nat} (h : ∀ i, i < 8 → a i = b i) : enc a = enc b := by
  unfold enc
  rw [encN_congr h 8 (Nat.le_refl 8)]
theorem enc_bit {b : Nat → Nat} (h : ∀ i, i < 8 → b i < 256) (i : Nat) : (enc b).toBitVec.getLsbD i = (decide (i < 64) && (b (i / 8)).testBit (i % 8)) := by
  show (BitVec.ofNat 64 (encN b 8)).getLsbD i = _
  rw [BitVec.getLsbD_ofNat, encN_bit h 8 (Nat.le_refl 8)]
  by_cases hi : i < 64
  · have h2 : i < 8 * 8 := hi
    simp [hi]
  · simp [hi]
theorem enc_inj {a b : Nat → Nat} (ha : ∀ i, i < 8 → a i < 256) (hb : ∀ i, i < 8 → b i < 256) (h : enc a = enc b) : ∀ i, i < 8 → a i = b i := by
  intro i hi
  apply Nat.eq_of_testBit_eq
  intro j
  by_cases hj : j < 8
  · have h1 := enc_bit ha (8 * i + j)
    have h2 := enc_bit hb (8 * i + j)
    rw [h, h2] at h1
    have e1 : (8 * i + j) / 8 = i := by omega
    have e2 : (8 * i + j) % 8 = j := by omega
    have e3 : 8 * i + j < 64 := by omega
    rw [e1, e2] at h1
    simpa [e3] using h1.symm
  · have h8 : (2 : Nat) ^ 8 ≤ 2 ^ j := Nat.pow_le_pow_right (by decide) (by omega)
    rw [Nat.testBit_lt_two_pow (Nat.lt_of_lt_of_le (ha i hi) h8), Nat.testBit_lt_two_pow (Nat.lt_of_lt_of_le (hb i hi) h8)]
theorem cnt_u : ∀ k, k < 64 → (((nI k).toInt64.toUInt64 &&& Int64.toUInt64 63).toBitVec % 64).toNat = k := by decide +kernel
theorem cnt_l : ∀ k, k < 64 → (((nI k).toInt64 &&& 63).toBitVec.smod 64).toNat = k := by decide +kernel
theorem sh_u (x : Int64) {k : Nat} (hk : k < 64) : (x.toUInt64 >>> ((nI k).toInt64.toUInt64 &&& Int64.toUInt64 63)).toInt64.toBitVec = x.toBitVec >>> k := by
  show x.toBitVec >>> (((nI k).toInt64.toUInt64 &&& Int64.toUInt64 63).toBitVec % 64).toNat = _
  rw [cnt_u k hk]
theorem sh_l (x : Int64) {k : Nat} (hk : k < 64) : (x <<< ((nI k).toInt64 &&& 63)).toBitVec = x.toBitVec <<< k := by
  show x.toBitVec <<< (((nI k).toInt64 &&& 63).toBitVec.smod 64).toNat = _
  rw [cnt_l k hk]
theorem bv_7 : ∀ j, j < 32 → (nI 7).toBitVec.getLsbD j = decide (j < 3) := by decide +kernel
theorem bv_3 : ∀ j, j < 32 → (nI 3).toBitVec.getLsbD j = decide (j < 2) := by decide +kernel
theorem i32_ext {x y : Int32} (h : ∀ j, j < 32 → x.toBitVec.getLsbD j = y.toBitVec.getLsbD j) : x = y := by
  apply Int32.toBitVec_inj.mp
  exact BitVec.eq_of_getLsbD_eq fun j hj => h j hj
theorem i64_ext {x y : Int64} (h : ∀ j, j < 64 → x.toBitVec.getLsbD j = y.toBitVec.getLsbD j) : x = y := by
  apply Int64.toBitVec_inj.mp
  exact BitVec.eq_of_getLsbD_eq fun j hj => h j hj
theorem nI_bit (n j : Nat) (hj : j < 32) : (nI n).toBitVec.getLsbD j = n.testBit j := by
  show (BitVec.ofNat 32 n).getLsbD j = _
  rw [BitVec.getLsbD_ofNat]
  simp [hj]
theorem lN_bit (n j : Nat) (hj : j < 64) : (lN n).toBitVec.getLsbD j = n.testBit j := by
  show (BitVec.ofNat 64 n).getLsbD j = _
  rw [BitVec.getLsbD_ofNat]
  simp [hj]
theorem l2i_bit (x : Int64) (j : Nat) (hj : j < 32) : x.toInt32.toBitVec.getLsbD j = x.toBitVec.getLsbD j := by
  rw [Int64.toBitVec_toInt32]
  rw [BitVec.getLsbD_signExtend]
  simp [hj, show j < 64 by omega]
theorem enc_corner {b : Nat → Nat} (h : ∀ i, i < 8 → b i < 256) {i : Nat} (hi : i < 8) : ((enc b).toUInt64 >>> ((nI (8 * i)).toInt64.toUInt64 &&& Int64.toUInt64 63)).toInt64.toInt32 &&& nI 7 = nI (b i % 8) := by
  apply i32_ext
  intro j hj
  rw [Int32.toBitVec_and, BitVec.getLsbD_and, l2i_bit _ _ hj, sh_u _ (by omega), BitVec.getLsbD_ushiftRight, enc_bit h, bv_7 j hj, nI_bit _ _ hj, show (8 : Nat) = 2 ^ 3 from rfl, Nat.testBit_mod_two_pow]
  by_cases h3 : j < 3
  · have e1 : (2 ^ 3 * i + j) / 2 ^ 3 = i := by omega
    have e2 : (2 ^ 3 * i + j) % 2 ^ 3 = j := by omega
    have e3 : 2 ^ 3 * i + j < 64 := by omega
    rw [e1, e2]
    simp [h3, e3]
  · simp [h3]
theorem enc_twist {b : Nat → Nat} (h : ∀ i, i < 8 → b i < 32) {i : Nat} (hi : i < 8) : ((enc b).toUInt64 >>> ((nI (8 * i + 3)).toInt64.toUInt64 &&& Int64.toUInt64 63)).toInt64.toInt32 &&& nI 3 = nI (b i / 8) := by
  apply i32_ext
  intro j hj
  rw [Int32.toBitVec_and, BitVec.getLsbD_and, l2i_bit _ _ hj, sh_u _ (by omega), BitVec.getLsbD_ushiftRight, enc_bit (fun i hi => Nat.lt_trans (h i hi) (by decide)), bv_3 j hj, nI_bit _ _ hj, show b i / 8 = b i / 2 ^ 3 from rfl, Nat.testBit_div_two_pow]
  by_cases h3 : j < 2
  · have e1 : (8 * i + 3 + j) / 8 = i := by omega
    have e2 : (8 * i + 3 + j) % 8 = j + 3 := by omega
    have e3 : 8 * i + 3 + j < 64 := by omega
    rw [e1, e2]
    simp [h3, e3]
  · have h8 : (2 : Nat) ^ 5 ≤ 2 ^ (j + 3) := Nat.pow_le_pow_right (by decide) (by omega)
    rw [Nat.testBit_lt_two_pow (Nat.lt_of_lt_of_le (h i hi) h8)]
    simp [h3]
theorem bv_255 : ∀ j, j < 64 → (255 : Int64).toBitVec.getLsbD j = decide (j < 8) := by decide +kernel
theorem bv_m1 : ∀ j, j < 64 → (-1 : Int64).toBitVec.getLsbD j = true := by decide +kernel
theorem enc_with {b : Nat → Nat} (h : ∀ i, i < 8 → b i < 256) {q v : Nat} (hq : q < 8) (hv : v < 256) :
    (enc b &&& (((255 : Int64) <<< ((nI (8 * q)).toInt64 &&& 63)) ^^^ (-1))) ||| (lN v <<< ((nI (8 * q)).toInt64 &&& 63)) = enc (fun i => if i = q then v else b i) := by
  have h' : ∀ i, i < 8 → (if i = q then v else b i) < 256 := by
    intro i hi
    split
    · exact hv
    · exact h i hi
  apply i64_ext
  intro j hj
  rw [Int64.toBitVec_or, BitVec.getLsbD_or, Int64.toBitVec_and, BitVec.getLsbD_and, Int64.toBitVec_xor, BitVec.getLsbD_xor, sh_l _ (by omega), sh_l _ (by omega), BitVec.getLsbD_shiftLeft, BitVec.getLsbD_shiftLeft, enc_bit h, enc_bit h', bv_m1 j hj]
  by_cases h1 : j < 8 * q
  · have e : ¬ j / 8 = q := by omega
    simp [h1, hj, e]
  · rw [bv_255 (j - 8 * q) (by omega), lN_bit v (j - 8 * q) (by omega)]
    by_cases h2 : j - 8 * q < 8
    · have e : j / 8 = q := by omega
      have e2 : j % 8 = j - 8 * q := by omega
      simp [h1, hj, h2, e, e2]
    · have e : ¬ j / 8 = q := by omega
      have h8 : (2 : Nat) ^ 8 ≤ 2 ^ (j - 8 * q) := Nat.pow_le_pow_right (by decide) (by omega)
      rw [Nat.testBit_lt_two_pow (Nat.lt_of_lt_of_le hv h8)]
      simp [h1, hj, h2, e]
theorem enc_one : (506097522914230528 : Int64) = enc (fun i => i) := by decide +kernel
end
section
/-! MY ROWS 06: the cube: byte i is the corner at place i, and 8 times its twist -/
def ct (q : Nat → Bool) : Nat → Nat
  | 0 => 0
  | n + 1 => ct q n + (if q n = true then 1 else 0)
theorem ct_t {q : Nat → Bool} {n : Nat} (h : q n = true) : ct q (n + 1) = ct q n + 1 := by simp [ct, h]
theorem ct_f {q : Nat → Bool} {n : Nat} (h : ¬ q n = true) : ct q (n + 1) = ct q n := by simp [ct, h]
theorem ct_le (q : Nat → Bool) : ∀ n, ct q n ≤ n
  | 0 => Nat.le_refl 0
  | n + 1 => by
    have := ct_le q n
    unfold ct
    split <;> omega
def Va (b : Nat → Nat) : Prop := ∀ i, i < 8 → b i < 24
theorem Va.b {b : Nat → Nat} (h : Va b) : ∀ i, i < 8 → b i < 256 := fun i hi => Nat.lt_trans (h i hi) (by decide)
theorem Va.t {b : Nat → Nat} (h : Va b) : ∀ i, i < 8 → b i < 32 := fun i hi => Nat.lt_trans (h i hi) (by decide)
def one : Nat → Nat := fun i => i
theorem one_Va : Va one := fun i hi => Nat.lt_trans hi (by decide)
/-- the deed d, done on the cube a -/
def comp (a d : Nat → Nat) : Nat → Nat := fun i => a (d i % 8) % 8 + 8 * ((a (d i % 8) / 8 + d i / 8) % 3)
theorem comp_Va (a d : Nat → Nat) : Va (comp a d) := fun i _ => by
  show a (d i % 8) % 8 + 8 * ((a (d i % 8) / 8 + d i / 8) % 3) < 24
  omega
def Qf : Nat → Nat → Nat
  | 0 => fun i => [3, 0, 1, 2, 4, 5, 6, 7].getD i 0
  | 1 => fun i => [20, 1, 2, 8, 15, 5, 6, 19].getD i 0
  | _ => fun i => [9, 21, 2, 3, 16, 12, 6, 7].getD i 0
theorem lt8 {P : Nat → Prop} (h0 : P 0) (h1 : P 1) (h2 : P 2) (h3 : P 3) (h4 : P 4) (h5 : P 5) (h6 : P 6) (h7 : P 7) : ∀ i, i < 8 → P i := by
  intro i hi
  rcases (by omega : i = 0 ∨ i = 1 ∨ i = 2 ∨ i = 3 ∨ i = 4 ∨ i = 5 ∨ i = 6 ∨ i = 7) with rfl | rfl | rfl | rfl | rfl | rfl | rfl | rfl <;> assumption
/-- so many quarters of a face -/
def itq (f : Nat) (b : Nat → Nat) : Nat → (Nat → Nat)
  | 0 => b
  | n + 1 => comp (itq f b n) (Qf f)
theorem itq_Va {f : Nat} {b : Nat → Nat} (h : Va b) : ∀ n, Va (itq f b n)
  | 0 => h
  | _ + 1 => comp_Va _ _
def turnC (b : Nat → Nat) (t : Nat) : Nat → Nat := itq (t / 3) b (t % 3 + 1)
theorem turnC_Va (b : Nat → Nat) (t : Nat) : Va (turnC b t) := comp_Va _ _
/-- four places done one behind the other: k of them -/
def gs (b : Nat → Nat) (R M : Nat → Nat) : Nat → (Nat → Nat)
  | 0 => b
  | k + 1 => fun i => if i = R ((k + 1) % 4) then b (R k) % 8 + 8 * ((b (R k) / 8 + M k) % 3) else gs b R M k i
theorem gs_Va {b : Nat → Nat} {R M : Nat → Nat} (h : Va b) : ∀ k, Va (gs b R M k)
  | 0 => h
  | k + 1 => fun i hi => by
    show (if i = R ((k + 1) % 4) then b (R k) % 8 + 8 * ((b (R k) / 8 + M k) % 3) else gs b R M k i) < 24
    split
    · omega
    · exact gs_Va h k i hi
theorem gs_face {b : Nat → Nat} (h : Va b) {f : Nat} (hf : f < 3) : enc (gs b (zRing f) (zMore f) 4) = enc (comp b (Qf f)) := by
  apply enc_congr
  have h0 := h 0 (by decide)
  have h1 := h 1 (by decide)
  have h2 := h 2 (by decide)
  have h3 := h 3 (by decide)
  have h4 := h 4 (by decide)
  have h5 := h 5 (by decide)
  have h6 := h 6 (by decide)
  have h7 := h 7 (by decide)
  rcases (by omega : f = 0 ∨ f = 1 ∨ f = 2) with rfl | rfl | rfl <;>
    (refine lt8 ?_ ?_ ?_ ?_ ?_ ?_ ?_ ?_ <;> simp [gs, comp, Qf, zRing, zMore] <;> omega)
def dig (n k : Nat) : Nat := n / 2 ^ (4 * (3 - k)) % 16
theorem sh_i : ∀ k, k < 32 → ((nI k &&& 31).toBitVec.smod 32).toNat = k := by decide +kernel
theorem dig_shr {n k : Nat} (hn : n < 2 ^ 31) (hk : k < 32) : nI n >>> (nI k &&& 31) = nI (n / 2 ^ k) := pk_shrN hn _ k (sh_i k hk)
theorem and_15 {n : Nat} (hn : n < 2 ^ 32) : nI n &&& nI 15 = nI (n % 16) := pk_andN hn 4 (by decide)
theorem tw_ish : ∀ t, t < 3 → ∀ c, c < 8 → (nI t <<< (nI 3 &&& 31) ||| nI c).toInt64 = lN (c + 8 * t) := by decide +kernel
def pairsTo (b : Nat → Nat) (i : Nat) : Nat → Nat := ct (fun k => decide (b (i + 1 + k) % 8 < b i % 8))
def invs (b : Nat → Nat) : Nat → Nat
  | 0 => 0
  | n + 1 => invs b n + pairsTo b n (7 - n)
end
section
/-! MY ROWS 07: the class's methods over one long (laid by a program of mine) -/
theorem zsub_add {a b : Nat} (h : b ≤ a) : nI a - nI b = nI (a - b) := pk_sub h
set_option maxHeartbeats 4000000 in
set_option maxRecDepth 100000 in
theorem k_turnNumber (l : Launch) {f q : Nat} (hf : f < 3) (hq1 : 1 ≤ q) (hq : q < 4) : RV l yX0_turnNumber wsX0_turnNumber (1) zNo [.int (nI f), .int (nI q)] (some (.int (nI (3 * f + q - 1)))) := by
  refine RV.of (cc := cX0_turnNumber) (maxL := 2) (ret := (some .int)) (by decide) rfl (Nat.le_of_ble_eq_true rfl) ?_
  intro p e s m args below meth c hC hr hlk hB ls hl
  have hl : lv_has ls 2 [(0, .int (nI f)), (1, .int (nI q))] := hl
  refine lv_iconst (v := (nI 3)) hC.1 hC.2.1 dX0_turnNumber_0 (by decide) ?_
  refine lv_iload_n hC.1 hC.2.1 dX0_turnNumber_1 rfl (lv_at hl 0 rfl) ?_
  refine z_imul hC dX0_turnNumber_2 ?_
  refine lv_iload_n hC.1 hC.2.1 dX0_turnNumber_3 rfl (lv_at hl 1 rfl) ?_
  refine z_iadd hC dX0_turnNumber_4 ?_
  refine lv_iconst (v := (nI 1)) hC.1 hC.2.1 dX0_turnNumber_5 (by decide) ?_
  refine z_isub hC dX0_turnNumber_6 (by omega) ?_
  exact RV.iret hC hr hlk dX0_turnNumber_7 (rfl)

set_option maxHeartbeats 4000000 in
set_option maxRecDepth 100000 in
theorem k_faceOf (l : Launch) {t : Nat} (ht : t < 9) : RV l yX0_faceOf wsX0_faceOf (1) zNo [.int (nI t)] (some (.int (nI (t / 3)))) := by
  refine RV.of (cc := cX0_faceOf) (maxL := 1) (ret := (some .int)) (by decide) rfl (Nat.le_of_ble_eq_true rfl) ?_
  intro p e s m args below meth c hC hr hlk hB ls hl
  have hl : lv_has ls 1 [(0, .int (nI t))] := hl
  refine lv_iload_n hC.1 hC.2.1 dX0_faceOf_0 rfl (lv_at hl 0 rfl) ?_
  refine lv_iconst (v := (nI 3)) hC.1 hC.2.1 dX0_faceOf_1 (by decide) ?_
  refine z_idiv hC dX0_faceOf_2 (by omega) (by decide) (by decide) ?_
  exact RV.iret hC hr hlk dX0_faceOf_3 (rfl)

set_option maxHeartbeats 4000000 in
set_option maxRecDepth 100000 in
theorem k_quartersOf (l : Launch) {t : Nat} (ht : t < 9) : RV l yX0_quartersOf wsX0_quartersOf (1) zNo [.int (nI t)] (some (.int (nI (t % 3 + 1)))) := by
  refine RV.of (cc := cX0_quartersOf) (maxL := 1) (ret := (some .int)) (by decide) rfl (Nat.le_of_ble_eq_true rfl) ?_
  intro p e s m args below meth c hC hr hlk hB ls hl
  have hl : lv_has ls 1 [(0, .int (nI t))] := hl
  refine lv_iload_n hC.1 hC.2.1 dX0_quartersOf_0 rfl (lv_at hl 0 rfl) ?_
  refine lv_iconst (v := (nI 3)) hC.1 hC.2.1 dX0_quartersOf_1 (by decide) ?_
  refine z_irem hC dX0_quartersOf_2 (by omega) (by decide) (by decide) ?_
  refine lv_iconst (v := (nI 1)) hC.1 hC.2.1 dX0_quartersOf_3 (by decide) ?_
  refine z_iadd hC dX0_quartersOf_4 ?_
  exact RV.iret hC hr hlk dX0_quartersOf_5 (rfl)

set_option maxHeartbeats 4000000 in
set_option maxRecDepth 100000 in
theorem k_turnedBack (l : Launch) {t : Nat} (ht : t < 9) : RV l yX0_turnedBack wsX0_turnedBack (2) zNo [.int (nI t)] (some (.int (nI (3 * (t / 3) + (4 - (t % 3 + 1)) - 1)))) := by
  refine RV.of (cc := cX0_turnedBack) (maxL := 1) (ret := (some .int)) (by decide) rfl (Nat.le_of_ble_eq_true rfl) ?_
  intro p e s m args below meth c hC hr hlk hB ls hl
  have hl : lv_has ls 1 [(0, .int (nI t))] := hl
  refine lv_iload_n hC.1 hC.2.1 dX0_turnedBack_0 rfl (lv_at hl 0 rfl) ?_
  refine p_cs (n := 1) (k_faceOf l ht) hC gX0_turnedBack_X0_faceOf rfl (by decide +kernel) rfl ⟨by decide, by decide⟩ ⟨Nat.zero_le _, Nat.zero_le _⟩ hl.1 (Nat.le_of_ble_eq_true rfl) dX0_turnedBack_1 rfl ?_
  refine lv_iconst (v := (nI 4)) hC.1 hC.2.1 dX0_turnedBack_4 (by decide) ?_
  refine lv_iload_n hC.1 hC.2.1 dX0_turnedBack_5 rfl (lv_at hl 0 rfl) ?_
  refine p_cs (n := 1) (k_quartersOf l ht) hC gX0_turnedBack_X0_quartersOf rfl (by decide +kernel) rfl ⟨by decide, by decide⟩ ⟨Nat.zero_le _, Nat.zero_le _⟩ hl.1 (Nat.le_of_ble_eq_true rfl) dX0_turnedBack_6 rfl ?_
  refine z_isub hC dX0_turnedBack_9 (by omega) ?_
  refine p_cs (n := 2) (k_turnNumber l (by omega) (by omega) (by omega)) hC gX0_turnedBack_X0_turnNumber rfl (by decide +kernel) rfl ⟨by decide, by decide⟩ ⟨Nat.zero_le _, Nat.zero_le _⟩ hl.1 (Nat.le_of_ble_eq_true rfl) dX0_turnedBack_10 rfl ?_
  exact RV.iret hC hr hlk dX0_turnedBack_13 (rfl)

set_option maxHeartbeats 4000000 in
set_option maxRecDepth 100000 in
theorem k_hexDigit (l : Launch) {n k : Nat} (hn : n < 2 ^ 31) (hk : k < 4) : RV l yX0_hexDigit wsX0_hexDigit (1) zNo [.int (nI n), .int (nI k)] (some (.int (nI (dig n k)))) := by
  refine RV.of (cc := cX0_hexDigit) (maxL := 2) (ret := (some .int)) (by decide) rfl (Nat.le_of_ble_eq_true rfl) ?_
  intro p e s m args below meth c hC hr hlk hB ls hl
  have hl : lv_has ls 2 [(0, .int (nI n)), (1, .int (nI k))] := hl
  refine lv_iload_n hC.1 hC.2.1 dX0_hexDigit_0 rfl (lv_at hl 0 rfl) ?_
  refine lv_iconst (v := (nI 4)) hC.1 hC.2.1 dX0_hexDigit_1 (by decide) ?_
  refine lv_iconst (v := (nI 3)) hC.1 hC.2.1 dX0_hexDigit_2 (by decide) ?_
  refine lv_iload_n hC.1 hC.2.1 dX0_hexDigit_3 rfl (lv_at hl 1 rfl) ?_
  refine z_isub hC dX0_hexDigit_4 (by omega) ?_
  refine z_imul hC dX0_hexDigit_5 ?_
  refine lv_ishr hC.1 hC.2.1 dX0_hexDigit_6 ?_
  refine q_i (nI (n / 2 ^ (4 * (3 - k)))) (dig_shr hn (by omega)) ?_
  refine lv_bipush (v := (nI 15)) hC.1 hC.2.1 dX0_hexDigit_7 (by decide) ?_
  refine lv_iand hC.1 hC.2.1 dX0_hexDigit_9 ?_
  refine q_i (nI (dig n k)) (and_15 (Nat.lt_of_le_of_lt (Nat.div_le_self _ _) (Nat.lt_trans hn (by decide)))) ?_
  exact RV.iret hC hr hlk dX0_hexDigit_10 (rfl)

set_option maxHeartbeats 4000000 in
set_option maxRecDepth 100000 in
theorem k_cornerAt (l : Launch) {b : Nat → Nat} (hv : Va b) {i : Nat} (hi : i < 8) : RV l yX0_cornerAt wsX0_cornerAt (1) zNo [.long (enc b), .int (nI i)] (some (.int (nI (b i % 8)))) := by
  refine RV.of (cc := cX0_cornerAt) (maxL := 3) (ret := (some .int)) (by decide) rfl (Nat.le_of_ble_eq_true rfl) ?_
  intro p e s m args below meth c hC hr hlk hB ls hl
  have hl : lv_has ls 3 [(0, .long (enc b)), (2, .int (nI i))] := hl
  refine lv_lload_n hC.1 hC.2.1 dX0_cornerAt_0 rfl (lv_at hl 0 rfl) ?_
  refine lv_bipush (v := (nI 8)) hC.1 hC.2.1 dX0_cornerAt_1 (by decide) ?_
  refine lv_iload_n hC.1 hC.2.1 dX0_cornerAt_3 rfl (lv_at hl 1 rfl) ?_
  refine z_imul hC dX0_cornerAt_4 ?_
  refine lv_lushr hC.1 hC.2.1 dX0_cornerAt_5 rfl ?_
  refine lv_l2i hC.1 hC.2.1 dX0_cornerAt_6 rfl ?_
  refine lv_bipush (v := (nI 7)) hC.1 hC.2.1 dX0_cornerAt_7 (by decide) ?_
  refine lv_iand hC.1 hC.2.1 dX0_cornerAt_9 ?_
  exact RV.iret hC hr hlk dX0_cornerAt_10 (enc_corner hv.b hi)

set_option maxHeartbeats 4000000 in
set_option maxRecDepth 100000 in
theorem k_twistAt (l : Launch) {b : Nat → Nat} (hv : Va b) {i : Nat} (hi : i < 8) : RV l yX0_twistAt wsX0_twistAt (1) zNo [.long (enc b), .int (nI i)] (some (.int (nI (b i / 8)))) := by
  refine RV.of (cc := cX0_twistAt) (maxL := 3) (ret := (some .int)) (by decide) rfl (Nat.le_of_ble_eq_true rfl) ?_
  intro p e s m args below meth c hC hr hlk hB ls hl
  have hl : lv_has ls 3 [(0, .long (enc b)), (2, .int (nI i))] := hl
  refine lv_lload_n hC.1 hC.2.1 dX0_twistAt_0 rfl (lv_at hl 0 rfl) ?_
  refine lv_bipush (v := (nI 8)) hC.1 hC.2.1 dX0_twistAt_1 (by decide) ?_
  refine lv_iload_n hC.1 hC.2.1 dX0_twistAt_3 rfl (lv_at hl 1 rfl) ?_
  refine z_imul hC dX0_twistAt_4 ?_
  refine lv_iconst (v := (nI 3)) hC.1 hC.2.1 dX0_twistAt_5 (by decide) ?_
  refine z_iadd hC dX0_twistAt_6 ?_
  refine lv_lushr hC.1 hC.2.1 dX0_twistAt_7 rfl ?_
  refine lv_l2i hC.1 hC.2.1 dX0_twistAt_8 rfl ?_
  refine lv_iconst (v := (nI 3)) hC.1 hC.2.1 dX0_twistAt_9 (by decide) ?_
  refine lv_iand hC.1 hC.2.1 dX0_twistAt_10 ?_
  exact RV.iret hC hr hlk dX0_twistAt_11 (enc_twist hv.t hi)

set_option maxHeartbeats 4000000 in
set_option maxRecDepth 100000 in
theorem k_withCorner (l : Launch) {b : Nat → Nat} (hv : Va b) {q v t : Nat} (hq : q < 8) (hc : v < 8) (ht : t < 2 ^ 31) : RV l yX0_withCorner wsX0_withCorner (1) zNo [.long (enc b), .int (nI q), .int (nI v), .int (nI t)] (some (.long (enc (fun i => if i = q then v + 8 * (t % 3) else b i)))) := by
  refine RV.of (cc := cX0_withCorner) (maxL := 9) (ret := (some .long)) (by decide) rfl (Nat.le_of_ble_eq_true rfl) ?_
  intro p e s m args below meth c hC hr hlk hB ls hl
  have hl : lv_has ls 9 [(0, .long (enc b)), (2, .int (nI q)), (3, .int (nI v)), (4, .int (nI t))] := hl
  refine lv_lload_n hC.1 hC.2.1 dX0_withCorner_0 rfl (lv_at hl 0 rfl) ?_
  refine lv_ldc2 (v := 255) hC.1 hC.2.1 hC.2.2.2.1 (hC.2.2.2.2 (.constantLong RX0 178 (255)) (by decide +kernel)) dX0_withCorner_1 ?_
  refine lv_bipush (v := (nI 8)) hC.1 hC.2.1 dX0_withCorner_4 (by decide) ?_
  refine lv_iload_n hC.1 hC.2.1 dX0_withCorner_6 rfl (lv_at hl 1 rfl) ?_
  refine z_imul hC dX0_withCorner_7 ?_
  refine lv_lshl hC.1 hC.2.1 dX0_withCorner_8 rfl ?_
  refine lv_ldc2 (v := (-1)) hC.1 hC.2.1 hC.2.2.2.1 (hC.2.2.2.2 (.constantLong RX0 180 (-1)) (by decide +kernel)) dX0_withCorner_9 ?_
  refine lv_lxor hC.1 hC.2.1 dX0_withCorner_12 ?_
  refine lv_land hC.1 hC.2.1 dX0_withCorner_13 ?_
  refine lv_topl (fun x1 ex1 => ?_)
  refine lv_lstore (lv' := [(5, .long x1), (0, .long (enc b)), (2, .int (nI q)), (3, .int (nI v)), (4, .int (nI t))]) hC.1 hC.2.1 dX0_withCorner_14 hl (by decide) rfl (fun ls hl => ?_)
  refine lv_iload hC.1 hC.2.1 dX0_withCorner_16 (lv_at hl 4 rfl) ?_
  refine lv_iconst (v := (nI 3)) hC.1 hC.2.1 dX0_withCorner_18 (by decide) ?_
  refine z_irem hC dX0_withCorner_19 (by omega) (by decide) (by decide) ?_
  refine lv_iconst (v := (nI 3)) hC.1 hC.2.1 dX0_withCorner_20 (by decide) ?_
  refine lv_ishl hC.1 hC.2.1 dX0_withCorner_21 ?_
  refine lv_iload_n hC.1 hC.2.1 dX0_withCorner_22 rfl (lv_at hl 3 rfl) ?_
  refine lv_ior hC.1 hC.2.1 dX0_withCorner_23 ?_
  refine lv_i2l hC.1 hC.2.1 dX0_withCorner_24 rfl ?_
  refine q_l (lN (v + 8 * (t % 3))) (tw_ish _ (Nat.mod_lt _ (by decide)) _ hc) ?_
  refine lv_lstore (lv' := [(7, .long (lN (v + 8 * (t % 3)))), (5, .long x1), (0, .long (enc b)), (2, .int (nI q)), (3, .int (nI v)), (4, .int (nI t))]) hC.1 hC.2.1 dX0_withCorner_25 hl (by decide) rfl (fun ls hl => ?_)
  refine lv_lload hC.1 hC.2.1 dX0_withCorner_27 (lv_at hl 1 rfl) ?_
  refine lv_lload hC.1 hC.2.1 dX0_withCorner_29 (lv_at hl 0 rfl) ?_
  refine lv_bipush (v := (nI 8)) hC.1 hC.2.1 dX0_withCorner_31 (by decide) ?_
  refine lv_iload_n hC.1 hC.2.1 dX0_withCorner_33 rfl (lv_at hl 3 rfl) ?_
  refine z_imul hC dX0_withCorner_34 ?_
  refine lv_lshl hC.1 hC.2.1 dX0_withCorner_35 rfl ?_
  refine lv_lor hC.1 hC.2.1 dX0_withCorner_36 ?_
  exact RV.lret hC hr hlk dX0_withCorner_37 (by rw [ex1]; exact enc_with hv.b hq (by omega))

theorem right_iff {b : Nat → Nat} (hv : Va b) {i : Nat} (hi : i < 8) : b i = i ↔ b i % 8 = i ∧ b i / 8 = 0 := by
  have := hv i hi
  omega
set_option maxHeartbeats 4000000 in
set_option maxRecDepth 100000 in
theorem k_isRight (l : Launch) {b : Nat → Nat} (hv : Va b) {i : Nat} (hi : i < 8) : RV l yX0_isRight wsX0_isRight (2) zNo [.long (enc b), .int (nI i)] (some (.int (nI (if b i = i then 1 else 0)))) := by
  refine RV.of (cc := cX0_isRight) (maxL := 3) (ret := (some .boolean)) (by decide) rfl (Nat.le_of_ble_eq_true rfl) ?_
  intro p e s m args below meth c hC hr hlk hB ls hl
  have hl : lv_has ls 3 [(0, .long (enc b)), (2, .int (nI i))] := hl
  refine lv_lload_n hC.1 hC.2.1 dX0_isRight_0 rfl (lv_at hl 0 rfl) ?_
  refine lv_iload_n hC.1 hC.2.1 dX0_isRight_1 rfl (lv_at hl 1 rfl) ?_
  refine p_cs (n := 2) (k_cornerAt l hv hi) hC gX0_isRight_X0_cornerAt rfl (by decide +kernel) rfl ⟨by decide, by decide⟩ ⟨Nat.zero_le _, Nat.zero_le _⟩ hl.1 (Nat.le_of_ble_eq_true rfl) dX0_isRight_2 rfl ?_
  refine lv_iload_n hC.1 hC.2.1 dX0_isRight_5 rfl (lv_at hl 1 rfl) ?_
  refine z_icmp_ne (tgt := 21) hC dX0_isRight_6 (by decide) (by omega) (by omega) (fun h_6 => ?_) (fun h_6 => ?_)
  · refine lv_iconst (v := (nI 0)) hC.1 hC.2.1 dX0_isRight_21 (by decide) ?_
    exact RV.zret hC hr hlk dX0_isRight_22 (by rw [if_neg]; rw [right_iff hv hi]; omega) (by decide)
  · refine lv_lload_n hC.1 hC.2.1 dX0_isRight_9 rfl (lv_at hl 0 rfl) ?_
    refine lv_iload_n hC.1 hC.2.1 dX0_isRight_10 rfl (lv_at hl 1 rfl) ?_
    refine p_cs (n := 2) (k_twistAt l hv hi) hC gX0_isRight_X0_twistAt rfl (by decide +kernel) rfl ⟨by decide, by decide⟩ ⟨Nat.zero_le _, Nat.zero_le _⟩ hl.1 (Nat.le_of_ble_eq_true rfl) dX0_isRight_11 rfl ?_
    refine z_if_ne (tgt := 21) hC dX0_isRight_14 (by decide) (by have := hv i hi; omega) (fun h_14 => ?_) (fun h_14 => ?_)
    · refine lv_iconst (v := (nI 0)) hC.1 hC.2.1 dX0_isRight_21 (by decide) ?_
      exact RV.zret hC hr hlk dX0_isRight_22 (by rw [if_neg]; rw [right_iff hv hi]; omega) (by decide)
    · refine lv_iconst (v := (nI 1)) hC.1 hC.2.1 dX0_isRight_17 (by decide) ?_
      refine lv_goto (tgt := 22) hC.1 hC.2.1 dX0_isRight_18 (by decide) ?_
      exact RV.zret hC hr hlk dX0_isRight_22 (by rw [if_pos]; rw [right_iff hv hi]; omega) (by decide)

theorem ite_bd {P : Prop} [Decidable P] : (if P then 1 else 0) < 2 ^ 31 := by split <;> decide
set_option maxHeartbeats 4000000 in
set_option maxRecDepth 100000 in
theorem k_rightCorners (l : Launch) {b : Nat → Nat} (hv : Va b) : RV l yX0_rightCorners wsX0_rightCorners 3 zNo [.long (enc b)] (some (.int (nI (ct (fun i => decide (b i = i)) 8)))) := by
  refine RV.of (cc := cX0_rightCorners) (maxL := 4) (ret := some .int) (by decide) rfl (Nat.le_of_ble_eq_true rfl) ?_
  intro p e s m args below meth c hC hr hlk hB ls hl
  have hl : lv_has ls 4 [(0, .long (enc b))] := hl
  have loop : ∀ (n i : Nat), i + n = 8 → ∀ ls : Array Slot, lv_has ls 4 [(0, .long (enc b)), (2, .int (nI (ct (fun i => decide (b i = i)) i))), (3, .int (nI i))] → W p l e (rD (3) 0 0) s m args below meth c s.heap [] 0 0 (MQ below (RVQ (some (.int (nI (ct (fun i => decide (b i = i)) 8))))) args s 0 0 (fun _ => False)) (F0 m 4 ls []) := by
    intro n
    induction n with
    | zero =>
      intro i hc0 ls hl
      obtain rfl : i = 8 := by omega
      refine lv_iload_n hC.1 hC.2.1 dX0_rightCorners_4 rfl (lv_at hl 2 rfl) ?_
      refine lv_bipush (v := (nI 8)) hC.1 hC.2.1 dX0_rightCorners_5 (by decide) ?_
      refine z_icmp_ge (tgt := 27) hC dX0_rightCorners_7 (by decide) (by omega) (by omega) (fun h_7 => ?_) (fun h_7 => by omega)
      refine lv_iload_n hC.1 hC.2.1 dX0_rightCorners_27 rfl (lv_at hl 1 rfl) ?_
      exact RV.iret hC hr hlk dX0_rightCorners_28 (rfl)
    | succ n ih =>
      intro i hc0 ls hl
      refine lv_iload_n hC.1 hC.2.1 dX0_rightCorners_4 rfl (lv_at hl 2 rfl) ?_
      refine lv_bipush (v := (nI 8)) hC.1 hC.2.1 dX0_rightCorners_5 (by decide) ?_
      refine z_icmp_ge (tgt := 27) hC dX0_rightCorners_7 (by decide) (by omega) (by omega) (fun h_7 => by omega) (fun h_7 => ?_)
      refine lv_lload_n hC.1 hC.2.1 dX0_rightCorners_10 rfl (lv_at hl 0 rfl) ?_
      refine lv_iload_n hC.1 hC.2.1 dX0_rightCorners_11 rfl (lv_at hl 2 rfl) ?_
      refine p_cs (n := 2) (k_isRight l hv (by omega)) hC gX0_rightCorners_X0_isRight rfl (by decide +kernel) rfl ⟨by decide, by decide⟩ ⟨Nat.zero_le _, Nat.zero_le _⟩ hl.1 (Nat.le_of_ble_eq_true rfl) dX0_rightCorners_12 rfl ?_
      refine z_if_eq (tgt := 21) hC dX0_rightCorners_15 (by decide) (ite_bd) (fun h_15 => ?_) (fun h_15 => ?_)
      · refine lv_iinc (v := nI (i + 1)) (lv' := [(3, .int (nI (i + 1))), (0, .long (enc b)), (2, .int (nI (ct (fun i => decide (b i = i)) i)))]) hC.1 hC.2.1 dX0_rightCorners_21 hl (k := 2) rfl (z_inc _) (by decide) rfl (fun ls hl => ?_)
        refine lv_goto (tgt := 4) hC.1 hC.2.1 dX0_rightCorners_24 (by decide) ?_
        exact ih (i + 1) (by omega) ls (by have e9 : ct (fun i => decide (b i = i)) (i + 1) = ct (fun i => decide (b i = i)) i := ct_f (by simp; by_cases hq : b i = i; rw [if_pos hq] at h_15; omega; exact hq); rw [e9]; exact (lv_sub hl [1, 2, 0] rfl))
      · refine lv_iinc (v := nI (ct (fun i => decide (b i = i)) i + 1)) (lv' := [(2, .int (nI (ct (fun i => decide (b i = i)) i + 1))), (0, .long (enc b)), (3, .int (nI i))]) hC.1 hC.2.1 dX0_rightCorners_18 hl (k := 1) rfl (z_inc _) (by decide) rfl (fun ls hl => ?_)
        refine lv_iinc (v := nI (i + 1)) (lv' := [(3, .int (nI (i + 1))), (2, .int (nI (ct (fun i => decide (b i = i)) i + 1))), (0, .long (enc b))]) hC.1 hC.2.1 dX0_rightCorners_21 hl (k := 2) rfl (z_inc _) (by decide) rfl (fun ls hl => ?_)
        refine lv_goto (tgt := 4) hC.1 hC.2.1 dX0_rightCorners_24 (by decide) ?_
        exact ih (i + 1) (by omega) ls (by have e9 : ct (fun i => decide (b i = i)) (i + 1) = ct (fun i => decide (b i = i)) i + 1 := ct_t (by simp; by_cases hq : b i = i; exact hq; rw [if_neg hq] at h_15; omega); rw [e9]; exact (lv_sub hl [2, 1, 0] rfl))
  refine lv_iconst (v := (nI 0)) hC.1 hC.2.1 dX0_rightCorners_0 (by decide) ?_
  refine lv_istore_n (lv' := [(2, .int (nI 0)), (0, .long (enc b))]) hC.1 hC.2.1 dX0_rightCorners_1 rfl hl (by decide) rfl (fun ls hl => ?_)
  refine lv_iconst (v := (nI 0)) hC.1 hC.2.1 dX0_rightCorners_2 (by decide) ?_
  refine lv_istore_n (lv' := [(3, .int (nI 0)), (2, .int (nI 0)), (0, .long (enc b))]) hC.1 hC.2.1 dX0_rightCorners_3 rfl hl (by decide) rfl (fun ls hl => ?_)
  exact loop 8 0 rfl ls (lv_sub hl [2, 1, 0] rfl)

set_option maxHeartbeats 4000000 in
set_option maxRecDepth 100000 in
theorem k_wrongCorners (l : Launch) {b : Nat → Nat} (hv : Va b) : RV l yX0_wrongCorners wsX0_wrongCorners (4) zNo [.long (enc b)] (some (.int (nI (8 - ct (fun i => decide (b i = i)) 8)))) := by
  refine RV.of (cc := cX0_wrongCorners) (maxL := 2) (ret := (some .int)) (by decide) rfl (Nat.le_of_ble_eq_true rfl) ?_
  intro p e s m args below meth c hC hr hlk hB ls hl
  have hl : lv_has ls 2 [(0, .long (enc b))] := hl
  refine lv_bipush (v := (nI 8)) hC.1 hC.2.1 dX0_wrongCorners_0 (by decide) ?_
  refine lv_lload_n hC.1 hC.2.1 dX0_wrongCorners_2 rfl (lv_at hl 0 rfl) ?_
  refine p_cs (n := 1) (k_rightCorners l hv) hC gX0_wrongCorners_X0_rightCorners rfl (by decide +kernel) rfl ⟨by decide, by decide⟩ ⟨Nat.zero_le _, Nat.zero_le _⟩ hl.1 (Nat.le_of_ble_eq_true rfl) dX0_wrongCorners_3 rfl ?_
  refine z_isub hC dX0_wrongCorners_6 (ct_le _ 8) ?_
  exact RV.iret hC hr hlk dX0_wrongCorners_7 (rfl)

set_option maxHeartbeats 4000000 in
set_option maxRecDepth 100000 in
theorem k_placedCorners (l : Launch) {b : Nat → Nat} (hv : Va b) : RV l yX0_placedCorners wsX0_placedCorners 2 zNo [.long (enc b)] (some (.int (nI (ct (fun i => decide (b i % 8 = i)) 8)))) := by
  refine RV.of (cc := cX0_placedCorners) (maxL := 4) (ret := some .int) (by decide) rfl (Nat.le_of_ble_eq_true rfl) ?_
  intro p e s m args below meth c hC hr hlk hB ls hl
  have hl : lv_has ls 4 [(0, .long (enc b))] := hl
  have loop : ∀ (n i : Nat), i + n = 8 → ∀ ls : Array Slot, lv_has ls 4 [(0, .long (enc b)), (2, .int (nI (ct (fun i => decide (b i % 8 = i)) i))), (3, .int (nI i))] → W p l e (rD (2) 0 0) s m args below meth c s.heap [] 0 0 (MQ below (RVQ (some (.int (nI (ct (fun i => decide (b i % 8 = i)) 8))))) args s 0 0 (fun _ => False)) (F0 m 4 ls []) := by
    intro n
    induction n with
    | zero =>
      intro i hc0 ls hl
      obtain rfl : i = 8 := by omega
      refine lv_iload_n hC.1 hC.2.1 dX0_placedCorners_4 rfl (lv_at hl 2 rfl) ?_
      refine lv_bipush (v := (nI 8)) hC.1 hC.2.1 dX0_placedCorners_5 (by decide) ?_
      refine z_icmp_ge (tgt := 28) hC dX0_placedCorners_7 (by decide) (by omega) (by omega) (fun h_7 => ?_) (fun h_7 => by omega)
      refine lv_iload_n hC.1 hC.2.1 dX0_placedCorners_28 rfl (lv_at hl 1 rfl) ?_
      exact RV.iret hC hr hlk dX0_placedCorners_29 (rfl)
    | succ n ih =>
      intro i hc0 ls hl
      refine lv_iload_n hC.1 hC.2.1 dX0_placedCorners_4 rfl (lv_at hl 2 rfl) ?_
      refine lv_bipush (v := (nI 8)) hC.1 hC.2.1 dX0_placedCorners_5 (by decide) ?_
      refine z_icmp_ge (tgt := 28) hC dX0_placedCorners_7 (by decide) (by omega) (by omega) (fun h_7 => by omega) (fun h_7 => ?_)
      refine lv_lload_n hC.1 hC.2.1 dX0_placedCorners_10 rfl (lv_at hl 0 rfl) ?_
      refine lv_iload_n hC.1 hC.2.1 dX0_placedCorners_11 rfl (lv_at hl 2 rfl) ?_
      refine p_cs (n := 2) (k_cornerAt l hv (by omega)) hC gX0_placedCorners_X0_cornerAt rfl (by decide +kernel) rfl ⟨by decide, by decide⟩ ⟨Nat.zero_le _, Nat.zero_le _⟩ hl.1 (Nat.le_of_ble_eq_true rfl) dX0_placedCorners_12 rfl ?_
      refine lv_iload_n hC.1 hC.2.1 dX0_placedCorners_15 rfl (lv_at hl 2 rfl) ?_
      refine z_icmp_ne (tgt := 22) hC dX0_placedCorners_16 (by decide) (by omega) (by omega) (fun h_16 => ?_) (fun h_16 => ?_)
      · refine lv_iinc (v := nI (i + 1)) (lv' := [(3, .int (nI (i + 1))), (0, .long (enc b)), (2, .int (nI (ct (fun i => decide (b i % 8 = i)) i)))]) hC.1 hC.2.1 dX0_placedCorners_22 hl (k := 2) rfl (z_inc _) (by decide) rfl (fun ls hl => ?_)
        refine lv_goto (tgt := 4) hC.1 hC.2.1 dX0_placedCorners_25 (by decide) ?_
        exact ih (i + 1) (by omega) ls (by have e9 : ct (fun i => decide (b i % 8 = i)) (i + 1) = ct (fun i => decide (b i % 8 = i)) i := ct_f (by simp; omega); rw [e9]; exact (lv_sub hl [1, 2, 0] rfl))
      · refine lv_iinc (v := nI (ct (fun i => decide (b i % 8 = i)) i + 1)) (lv' := [(2, .int (nI (ct (fun i => decide (b i % 8 = i)) i + 1))), (0, .long (enc b)), (3, .int (nI i))]) hC.1 hC.2.1 dX0_placedCorners_19 hl (k := 1) rfl (z_inc _) (by decide) rfl (fun ls hl => ?_)
        refine lv_iinc (v := nI (i + 1)) (lv' := [(3, .int (nI (i + 1))), (2, .int (nI (ct (fun i => decide (b i % 8 = i)) i + 1))), (0, .long (enc b))]) hC.1 hC.2.1 dX0_placedCorners_22 hl (k := 2) rfl (z_inc _) (by decide) rfl (fun ls hl => ?_)
        refine lv_goto (tgt := 4) hC.1 hC.2.1 dX0_placedCorners_25 (by decide) ?_
        exact ih (i + 1) (by omega) ls (by have e9 : ct (fun i => decide (b i % 8 = i)) (i + 1) = ct (fun i => decide (b i % 8 = i)) i + 1 := ct_t (by simp; omega); rw [e9]; exact (lv_sub hl [2, 1, 0] rfl))
  refine lv_iconst (v := (nI 0)) hC.1 hC.2.1 dX0_placedCorners_0 (by decide) ?_
  refine lv_istore_n (lv' := [(2, .int (nI 0)), (0, .long (enc b))]) hC.1 hC.2.1 dX0_placedCorners_1 rfl hl (by decide) rfl (fun ls hl => ?_)
  refine lv_iconst (v := (nI 0)) hC.1 hC.2.1 dX0_placedCorners_2 (by decide) ?_
  refine lv_istore_n (lv' := [(3, .int (nI 0)), (2, .int (nI 0)), (0, .long (enc b))]) hC.1 hC.2.1 dX0_placedCorners_3 rfl hl (by decide) rfl (fun ls hl => ?_)
  exact loop 8 0 rfl ls (lv_sub hl [2, 1, 0] rfl)

set_option maxHeartbeats 4000000 in
set_option maxRecDepth 100000 in
theorem k_untwistedCorners (l : Launch) {b : Nat → Nat} (hv : Va b) : RV l yX0_untwistedCorners wsX0_untwistedCorners 2 zNo [.long (enc b)] (some (.int (nI (ct (fun i => decide (b i / 8 = 0)) 8)))) := by
  refine RV.of (cc := cX0_untwistedCorners) (maxL := 4) (ret := some .int) (by decide) rfl (Nat.le_of_ble_eq_true rfl) ?_
  intro p e s m args below meth c hC hr hlk hB ls hl
  have hl : lv_has ls 4 [(0, .long (enc b))] := hl
  have loop : ∀ (n i : Nat), i + n = 8 → ∀ ls : Array Slot, lv_has ls 4 [(0, .long (enc b)), (2, .int (nI (ct (fun i => decide (b i / 8 = 0)) i))), (3, .int (nI i))] → W p l e (rD (2) 0 0) s m args below meth c s.heap [] 0 0 (MQ below (RVQ (some (.int (nI (ct (fun i => decide (b i / 8 = 0)) 8))))) args s 0 0 (fun _ => False)) (F0 m 4 ls []) := by
    intro n
    induction n with
    | zero =>
      intro i hc0 ls hl
      obtain rfl : i = 8 := by omega
      refine lv_iload_n hC.1 hC.2.1 dX0_untwistedCorners_4 rfl (lv_at hl 2 rfl) ?_
      refine lv_bipush (v := (nI 8)) hC.1 hC.2.1 dX0_untwistedCorners_5 (by decide) ?_
      refine z_icmp_ge (tgt := 27) hC dX0_untwistedCorners_7 (by decide) (by omega) (by omega) (fun h_7 => ?_) (fun h_7 => by omega)
      refine lv_iload_n hC.1 hC.2.1 dX0_untwistedCorners_27 rfl (lv_at hl 1 rfl) ?_
      exact RV.iret hC hr hlk dX0_untwistedCorners_28 (rfl)
    | succ n ih =>
      intro i hc0 ls hl
      refine lv_iload_n hC.1 hC.2.1 dX0_untwistedCorners_4 rfl (lv_at hl 2 rfl) ?_
      refine lv_bipush (v := (nI 8)) hC.1 hC.2.1 dX0_untwistedCorners_5 (by decide) ?_
      refine z_icmp_ge (tgt := 27) hC dX0_untwistedCorners_7 (by decide) (by omega) (by omega) (fun h_7 => by omega) (fun h_7 => ?_)
      refine lv_lload_n hC.1 hC.2.1 dX0_untwistedCorners_10 rfl (lv_at hl 0 rfl) ?_
      refine lv_iload_n hC.1 hC.2.1 dX0_untwistedCorners_11 rfl (lv_at hl 2 rfl) ?_
      refine p_cs (n := 2) (k_twistAt l hv (by omega)) hC gX0_untwistedCorners_X0_twistAt rfl (by decide +kernel) rfl ⟨by decide, by decide⟩ ⟨Nat.zero_le _, Nat.zero_le _⟩ hl.1 (Nat.le_of_ble_eq_true rfl) dX0_untwistedCorners_12 rfl ?_
      refine z_if_ne (tgt := 21) hC dX0_untwistedCorners_15 (by decide) (by have := hv i (by omega); omega) (fun h_15 => ?_) (fun h_15 => ?_)
      · refine lv_iinc (v := nI (i + 1)) (lv' := [(3, .int (nI (i + 1))), (0, .long (enc b)), (2, .int (nI (ct (fun i => decide (b i / 8 = 0)) i)))]) hC.1 hC.2.1 dX0_untwistedCorners_21 hl (k := 2) rfl (z_inc _) (by decide) rfl (fun ls hl => ?_)
        refine lv_goto (tgt := 4) hC.1 hC.2.1 dX0_untwistedCorners_24 (by decide) ?_
        exact ih (i + 1) (by omega) ls (by have e9 : ct (fun i => decide (b i / 8 = 0)) (i + 1) = ct (fun i => decide (b i / 8 = 0)) i := ct_f (by simp; omega); rw [e9]; exact (lv_sub hl [1, 2, 0] rfl))
      · refine lv_iinc (v := nI (ct (fun i => decide (b i / 8 = 0)) i + 1)) (lv' := [(2, .int (nI (ct (fun i => decide (b i / 8 = 0)) i + 1))), (0, .long (enc b)), (3, .int (nI i))]) hC.1 hC.2.1 dX0_untwistedCorners_18 hl (k := 1) rfl (z_inc _) (by decide) rfl (fun ls hl => ?_)
        refine lv_iinc (v := nI (i + 1)) (lv' := [(3, .int (nI (i + 1))), (2, .int (nI (ct (fun i => decide (b i / 8 = 0)) i + 1))), (0, .long (enc b))]) hC.1 hC.2.1 dX0_untwistedCorners_21 hl (k := 2) rfl (z_inc _) (by decide) rfl (fun ls hl => ?_)
        refine lv_goto (tgt := 4) hC.1 hC.2.1 dX0_untwistedCorners_24 (by decide) ?_
        exact ih (i + 1) (by omega) ls (by have e9 : ct (fun i => decide (b i / 8 = 0)) (i + 1) = ct (fun i => decide (b i / 8 = 0)) i + 1 := ct_t (by simp; omega); rw [e9]; exact (lv_sub hl [2, 1, 0] rfl))
  refine lv_iconst (v := (nI 0)) hC.1 hC.2.1 dX0_untwistedCorners_0 (by decide) ?_
  refine lv_istore_n (lv' := [(2, .int (nI 0)), (0, .long (enc b))]) hC.1 hC.2.1 dX0_untwistedCorners_1 rfl hl (by decide) rfl (fun ls hl => ?_)
  refine lv_iconst (v := (nI 0)) hC.1 hC.2.1 dX0_untwistedCorners_2 (by decide) ?_
  refine lv_istore_n (lv' := [(3, .int (nI 0)), (2, .int (nI 0)), (0, .long (enc b))]) hC.1 hC.2.1 dX0_untwistedCorners_3 rfl hl (by decide) rfl (fun ls hl => ?_)
  exact loop 8 0 rfl ls (lv_sub hl [2, 1, 0] rfl)

theorem k_hexD (l : Launch) {n k v : Nat} (hn : n < 2 ^ 31) (hk : k < 4) (h : dig n k = v) : RV l yX0_hexDigit wsX0_hexDigit 1 zNo [.int (nI n), .int (nI k)] (some (.int (nI v))) := by
  subst h
  exact k_hexDigit l hn hk
set_option maxHeartbeats 4000000 in
set_option maxRecDepth 100000 in
theorem k_gone (l : Launch) {b : Nat → Nat} (hv : Va b) {rg tw : Nat} (hrg : rg < 2 ^ 31) (htw : tw < 2 ^ 31) {R M : Nat → Nat} (hR : ∀ k, k < 4 → dig rg k = R k ∧ R k < 8) (hM : ∀ k, k < 4 → dig tw k = M k ∧ M k < 4) : RV l yX0_gone wsX0_gone (2) zNo [.long (enc b), .int (nI rg), .int (nI tw)] (some (.long (enc (gs b R M 4)))) := by
  refine RV.of (cc := cX0_gone) (maxL := 9) (ret := (some .long)) (by decide) rfl (Nat.le_of_ble_eq_true rfl) ?_
  intro p e s m args below meth c hC hr hlk hB ls hl
  have hl : lv_has ls 9 [(0, .long (enc b)), (2, .int (nI rg)), (3, .int (nI tw))] := hl
  have loop : ∀ (n i : Nat), i + n = 4 → ∀ ls : Array Slot, lv_has ls 9 [(0, .long (enc b)), (2, .int (nI rg)), (3, .int (nI tw)), (4, .long (enc (gs b R M i))), (6, .int (nI i))] → W p l e (rD (2) 0 0) s m args below meth c s.heap [] 0 0 (MQ below (RVQ (some (.long (enc (gs b R M 4))))) args s 0 0 (fun _ => False)) (F0 m 6 ls []) := by
    intro n
    induction n with
    | zero =>
      intro i hc0 ls hl
      obtain rfl : i = 4 := by omega
      refine lv_iload hC.1 hC.2.1 dX0_gone_6 (lv_at hl 4 rfl) ?_
      refine lv_iconst (v := (nI 4)) hC.1 hC.2.1 dX0_gone_8 (by decide) ?_
      refine z_icmp_ge (tgt := 66) hC dX0_gone_9 (by decide) (by omega) (by omega) (fun h_9 => ?_) (fun h_9 => by omega)
      refine lv_lload hC.1 hC.2.1 dX0_gone_66 (lv_at hl 3 rfl) ?_
      exact RV.lret hC hr hlk dX0_gone_68 (rfl)
    | succ n ih =>
      intro i hc0 ls hl
      have hR1 := hR i (by omega)
      have hR2 := hR ((i + 1) % 4) (Nat.mod_lt _ (by decide))
      have hM1 := hM i (by omega)
      have hb1 := hv (R i) hR1.2
      refine lv_iload hC.1 hC.2.1 dX0_gone_6 (lv_at hl 4 rfl) ?_
      refine lv_iconst (v := (nI 4)) hC.1 hC.2.1 dX0_gone_8 (by decide) ?_
      refine z_icmp_ge (tgt := 66) hC dX0_gone_9 (by decide) (by omega) (by omega) (fun h_9 => by omega) (fun h_9 => ?_)
      refine lv_iload_n hC.1 hC.2.1 dX0_gone_12 rfl (lv_at hl 1 rfl) ?_
      refine lv_iload hC.1 hC.2.1 dX0_gone_13 (lv_at hl 4 rfl) ?_
      refine p_cs (n := 2) (k_hexD l hrg (by omega) hR1.1) hC gX0_gone_X0_hexDigit rfl (by decide +kernel) rfl ⟨by decide, by decide⟩ ⟨Nat.zero_le _, Nat.zero_le _⟩ hl.1 (Nat.le_of_ble_eq_true rfl) dX0_gone_15 rfl ?_
      refine lv_istore (lv' := [(7, .int (nI (R i))), (0, .long (enc b)), (2, .int (nI rg)), (3, .int (nI tw)), (4, .long (enc (gs b R M i))), (6, .int (nI i))]) hC.1 hC.2.1 dX0_gone_18 hl (by decide) rfl (fun ls hl => ?_)
      refine lv_iload_n hC.1 hC.2.1 dX0_gone_20 rfl (lv_at hl 2 rfl) ?_
      refine lv_iload hC.1 hC.2.1 dX0_gone_21 (lv_at hl 5 rfl) ?_
      refine lv_iconst (v := (nI 1)) hC.1 hC.2.1 dX0_gone_23 (by decide) ?_
      refine z_iadd hC dX0_gone_24 ?_
      refine lv_iconst (v := (nI 4)) hC.1 hC.2.1 dX0_gone_25 (by decide) ?_
      refine z_irem hC dX0_gone_26 (by omega) (by decide) (by decide) ?_
      refine p_cs (n := 2) (k_hexD l hrg (Nat.mod_lt _ (by decide)) hR2.1) hC gX0_gone_X0_hexDigit rfl (by decide +kernel) rfl ⟨by decide, by decide⟩ ⟨Nat.zero_le _, Nat.zero_le _⟩ hl.1 (Nat.le_of_ble_eq_true rfl) dX0_gone_27 rfl ?_
      refine lv_istore (lv' := [(8, .int (nI (R ((i + 1) % 4)))), (7, .int (nI (R i))), (0, .long (enc b)), (2, .int (nI rg)), (3, .int (nI tw)), (4, .long (enc (gs b R M i))), (6, .int (nI i))]) hC.1 hC.2.1 dX0_gone_30 hl (by decide) rfl (fun ls hl => ?_)
      refine lv_lload hC.1 hC.2.1 dX0_gone_32 (lv_at hl 5 rfl) ?_
      refine lv_iload hC.1 hC.2.1 dX0_gone_34 (lv_at hl 0 rfl) ?_
      refine lv_lload_n hC.1 hC.2.1 dX0_gone_36 rfl (lv_at hl 2 rfl) ?_
      refine lv_iload hC.1 hC.2.1 dX0_gone_37 (lv_at hl 1 rfl) ?_
      refine p_cs (n := 2) (k_cornerAt l hv hR1.2) hC gX0_gone_X0_cornerAt rfl (by decide +kernel) rfl ⟨by decide, by decide⟩ ⟨Nat.zero_le _, Nat.zero_le _⟩ hl.1 (Nat.le_of_ble_eq_true rfl) dX0_gone_39 rfl ?_
      refine lv_lload_n hC.1 hC.2.1 dX0_gone_42 rfl (lv_at hl 2 rfl) ?_
      refine lv_iload hC.1 hC.2.1 dX0_gone_43 (lv_at hl 1 rfl) ?_
      refine p_cs (n := 2) (k_twistAt l hv hR1.2) hC gX0_gone_X0_twistAt rfl (by decide +kernel) rfl ⟨by decide, by decide⟩ ⟨Nat.zero_le _, Nat.zero_le _⟩ hl.1 (Nat.le_of_ble_eq_true rfl) dX0_gone_45 rfl ?_
      refine lv_iload_n hC.1 hC.2.1 dX0_gone_48 rfl (lv_at hl 4 rfl) ?_
      refine lv_iload hC.1 hC.2.1 dX0_gone_49 (lv_at hl 6 rfl) ?_
      refine p_cs (n := 2) (k_hexD l htw (by omega) hM1.1) hC gX0_gone_X0_hexDigit rfl (by decide +kernel) rfl ⟨by decide, by decide⟩ ⟨Nat.zero_le _, Nat.zero_le _⟩ hl.1 (Nat.le_of_ble_eq_true rfl) dX0_gone_51 rfl ?_
      refine z_iadd hC dX0_gone_54 ?_
      refine p_cs (n := 4) (k_withCorner l (gs_Va hv i) hR2.2 (Nat.mod_lt _ (by decide)) (by omega)) hC gX0_gone_X0_withCorner rfl (by decide +kernel) rfl ⟨by decide, by decide⟩ ⟨Nat.zero_le _, Nat.zero_le _⟩ hl.1 (Nat.le_of_ble_eq_true rfl) dX0_gone_55 rfl ?_
      refine lv_lstore (lv' := [(4, .long (enc (gs b R M (i + 1)))), (8, .int (nI (R ((i + 1) % 4)))), (7, .int (nI (R i))), (0, .long (enc b)), (2, .int (nI rg)), (3, .int (nI tw)), (6, .int (nI i))]) hC.1 hC.2.1 dX0_gone_58 hl (by decide) rfl (fun ls hl => ?_)
      refine lv_iinc (v := nI (i + 1)) (lv' := [(6, .int (nI (i + 1))), (4, .long (enc (gs b R M (i + 1)))), (8, .int (nI (R ((i + 1) % 4)))), (7, .int (nI (R i))), (0, .long (enc b)), (2, .int (nI rg)), (3, .int (nI tw))]) hC.1 hC.2.1 dX0_gone_60 hl (k := 6) rfl (z_inc _) (by decide) rfl (fun ls hl => ?_)
      refine lv_goto (tgt := 6) hC.1 hC.2.1 dX0_gone_63 (by decide) ?_
      exact ih (i + 1) (by omega) ls (lv_sub hl [4, 5, 6, 1, 0] rfl)
  refine lv_lload_n hC.1 hC.2.1 dX0_gone_0 rfl (lv_at hl 0 rfl) ?_
  refine lv_lstore (lv' := [(4, .long (enc b)), (0, .long (enc b)), (2, .int (nI rg)), (3, .int (nI tw))]) hC.1 hC.2.1 dX0_gone_1 hl (by decide) rfl (fun ls hl => ?_)
  refine lv_iconst (v := (nI 0)) hC.1 hC.2.1 dX0_gone_3 (by decide) ?_
  refine lv_istore (lv' := [(6, .int (nI 0)), (4, .long (enc b)), (0, .long (enc b)), (2, .int (nI rg)), (3, .int (nI tw))]) hC.1 hC.2.1 dX0_gone_4 hl (by decide) rfl (fun ls hl => ?_)
  exact loop 4 0 rfl ls (lv_sub hl [2, 3, 4, 1, 0] rfl)

set_option maxHeartbeats 4000000 in
set_option maxRecDepth 100000 in
theorem k_quarterTurned (l : Launch) {b : Nat → Nat} (hv : Va b) {f : Nat} (hf : f < 3) : RV l yX0_quarterTurned wsX0_quarterTurned (3) zNo [.long (enc b), .int (nI f)] (some (.long (enc (comp b (Qf f))))) := by
  refine RV.of (cc := cX0_quarterTurned) (maxL := 3) (ret := (some .long)) (by decide) rfl (Nat.le_of_ble_eq_true rfl) ?_
  intro p e s m args below meth c hC hr hlk hB ls hl
  have hl : lv_has ls 3 [(0, .long (enc b)), (2, .int (nI f))] := hl
  rcases (by omega : f = 0 ∨ f = 1 ∨ f = 2) with rfl | rfl | rfl
  · refine lv_iload_n hC.1 hC.2.1 dX0_quarterTurned_0 rfl (lv_at hl 1 rfl) ?_
    refine lv_lookup (off := 27) (tgt := 28) hC.1 hC.2.1 dX0_quarterTurned_1 (by decide) (by decide) (by decide) ?_
    refine lv_lload_n hC.1 hC.2.1 dX0_quarterTurned_28 rfl (lv_at hl 0 rfl) ?_
    refine lv_sipush (v := (nI 291)) hC.1 hC.2.1 dX0_quarterTurned_29 (by decide) ?_
    refine lv_iconst (v := (nI 0)) hC.1 hC.2.1 dX0_quarterTurned_32 (by decide) ?_
    refine p_cs (n := 3) (k_gone l hv (rg := 291) (tw := 0) (R := zRing 0) (M := zMore 0) (by decide) (by decide) (by decide) (by decide)) hC gX0_quarterTurned_X0_gone rfl (by decide +kernel) rfl ⟨by decide, by decide⟩ ⟨Nat.zero_le _, Nat.zero_le _⟩ hl.1 (Nat.le_of_ble_eq_true rfl) dX0_quarterTurned_33 rfl ?_
    exact RV.lret hC hr hlk dX0_quarterTurned_36 (gs_face hv (f := 0) (by decide))
  · refine lv_iload_n hC.1 hC.2.1 dX0_quarterTurned_0 rfl (lv_at hl 1 rfl) ?_
    refine lv_lookup (off := 36) (tgt := 37) hC.1 hC.2.1 dX0_quarterTurned_1 (by decide) (by decide) (by decide) ?_
    refine lv_lload_n hC.1 hC.2.1 dX0_quarterTurned_37 rfl (lv_at hl 0 rfl) ?_
    refine lv_sipush (v := (nI 884)) hC.1 hC.2.1 dX0_quarterTurned_38 (by decide) ?_
    refine lv_sipush (v := (nI 4626)) hC.1 hC.2.1 dX0_quarterTurned_41 (by decide) ?_
    refine p_cs (n := 3) (k_gone l hv (rg := 884) (tw := 4626) (R := zRing 1) (M := zMore 1) (by decide) (by decide) (by decide) (by decide)) hC gX0_quarterTurned_X0_gone rfl (by decide +kernel) rfl ⟨by decide, by decide⟩ ⟨Nat.zero_le _, Nat.zero_le _⟩ hl.1 (Nat.le_of_ble_eq_true rfl) dX0_quarterTurned_44 rfl ?_
    exact RV.lret hC hr hlk dX0_quarterTurned_47 (gs_face hv (f := 1) (by decide))
  · refine lv_iload_n hC.1 hC.2.1 dX0_quarterTurned_0 rfl (lv_at hl 1 rfl) ?_
    refine lv_lookup (off := 47) (tgt := 48) hC.1 hC.2.1 dX0_quarterTurned_1 (by decide) (by decide) (by decide) ?_
    refine lv_lload_n hC.1 hC.2.1 dX0_quarterTurned_48 rfl (lv_at hl 0 rfl) ?_
    refine lv_sipush (v := (nI 1105)) hC.1 hC.2.1 dX0_quarterTurned_49 (by decide) ?_
    refine lv_sipush (v := (nI 8481)) hC.1 hC.2.1 dX0_quarterTurned_52 (by decide) ?_
    refine p_cs (n := 3) (k_gone l hv (rg := 1105) (tw := 8481) (R := zRing 2) (M := zMore 2) (by decide) (by decide) (by decide) (by decide)) hC gX0_quarterTurned_X0_gone rfl (by decide +kernel) rfl ⟨by decide, by decide⟩ ⟨Nat.zero_le _, Nat.zero_le _⟩ hl.1 (Nat.le_of_ble_eq_true rfl) dX0_quarterTurned_55 rfl ?_
    exact RV.lret hC hr hlk dX0_quarterTurned_58 (gs_face hv (f := 2) (by decide))

set_option maxHeartbeats 4000000 in
set_option maxRecDepth 100000 in
theorem k_turned (l : Launch) {b : Nat → Nat} (hv : Va b) {t : Nat} (ht : t < 9) : RV l yX0_turned wsX0_turned (4) zNo [.long (enc b), .int (nI t)] (some (.long (enc (turnC b t)))) := by
  refine RV.of (cc := cX0_turned) (maxL := 6) (ret := (some .long)) (by decide) rfl (Nat.le_of_ble_eq_true rfl) ?_
  intro p e s m args below meth c hC hr hlk hB ls hl
  have hl : lv_has ls 6 [(0, .long (enc b)), (2, .int (nI t))] := hl
  have loop : ∀ (n i : Nat), i + n = t % 3 + 1 → ∀ ls : Array Slot, lv_has ls 6 [(0, .long (enc b)), (2, .int (nI t)), (3, .long (enc (itq (t / 3) b i))), (5, .int (nI i))] → W p l e (rD (4) 0 0) s m args below meth c s.heap [] 0 0 (MQ below (RVQ (some (.long (enc (turnC b t))))) args s 0 0 (fun _ => False)) (F0 m 5 ls []) := by
    intro n
    induction n with
    | zero =>
      intro i hc0 ls hl
      obtain rfl : i = t % 3 + 1 := by omega
      refine lv_iload hC.1 hC.2.1 dX0_turned_5 (lv_at hl 3 rfl) ?_
      refine lv_iload_n hC.1 hC.2.1 dX0_turned_7 rfl (lv_at hl 1 rfl) ?_
      refine p_cs (n := 1) (k_quartersOf l ht) hC gX0_turned_X0_quartersOf rfl (by decide +kernel) rfl ⟨by decide, by decide⟩ ⟨Nat.zero_le _, Nat.zero_le _⟩ hl.1 (Nat.le_of_ble_eq_true rfl) dX0_turned_8 rfl ?_
      refine z_icmp_ge (tgt := 29) hC dX0_turned_11 (by decide) (by omega) (by omega) (fun h_11 => ?_) (fun h_11 => by omega)
      refine lv_lload_n hC.1 hC.2.1 dX0_turned_29 rfl (lv_at hl 2 rfl) ?_
      exact RV.lret hC hr hlk dX0_turned_30 (rfl)
    | succ n ih =>
      intro i hc0 ls hl
      refine lv_iload hC.1 hC.2.1 dX0_turned_5 (lv_at hl 3 rfl) ?_
      refine lv_iload_n hC.1 hC.2.1 dX0_turned_7 rfl (lv_at hl 1 rfl) ?_
      refine p_cs (n := 1) (k_quartersOf l ht) hC gX0_turned_X0_quartersOf rfl (by decide +kernel) rfl ⟨by decide, by decide⟩ ⟨Nat.zero_le _, Nat.zero_le _⟩ hl.1 (Nat.le_of_ble_eq_true rfl) dX0_turned_8 rfl ?_
      refine z_icmp_ge (tgt := 29) hC dX0_turned_11 (by decide) (by omega) (by omega) (fun h_11 => by omega) (fun h_11 => ?_)
      refine lv_lload_n hC.1 hC.2.1 dX0_turned_14 rfl (lv_at hl 2 rfl) ?_
      refine lv_iload_n hC.1 hC.2.1 dX0_turned_15 rfl (lv_at hl 1 rfl) ?_
      refine p_cs (n := 1) (k_faceOf l ht) hC gX0_turned_X0_faceOf rfl (by decide +kernel) rfl ⟨by decide, by decide⟩ ⟨Nat.zero_le _, Nat.zero_le _⟩ hl.1 (Nat.le_of_ble_eq_true rfl) dX0_turned_16 rfl ?_
      refine p_cs (n := 2) (k_quarterTurned l (itq_Va hv i) (by omega)) hC gX0_turned_X0_quarterTurned rfl (by decide +kernel) rfl ⟨by decide, by decide⟩ ⟨Nat.zero_le _, Nat.zero_le _⟩ hl.1 (Nat.le_of_ble_eq_true rfl) dX0_turned_19 rfl ?_
      refine lv_lstore_n (lv' := [(3, .long (enc (itq (t / 3) b (i + 1)))), (0, .long (enc b)), (2, .int (nI t)), (5, .int (nI i))]) hC.1 hC.2.1 dX0_turned_22 rfl hl (by decide) rfl (fun ls hl => ?_)
      refine lv_iinc (v := nI (i + 1)) (lv' := [(5, .int (nI (i + 1))), (3, .long (enc (itq (t / 3) b (i + 1)))), (0, .long (enc b)), (2, .int (nI t))]) hC.1 hC.2.1 dX0_turned_23 hl (k := 3) rfl (z_inc _) (by decide) rfl (fun ls hl => ?_)
      refine lv_goto (tgt := 5) hC.1 hC.2.1 dX0_turned_26 (by decide) ?_
      exact ih (i + 1) (by omega) ls (lv_sub hl [2, 3, 1, 0] rfl)
  refine lv_lload_n hC.1 hC.2.1 dX0_turned_0 rfl (lv_at hl 0 rfl) ?_
  refine lv_lstore_n (lv' := [(3, .long (enc b)), (0, .long (enc b)), (2, .int (nI t))]) hC.1 hC.2.1 dX0_turned_1 rfl hl (by decide) rfl (fun ls hl => ?_)
  refine lv_iconst (v := (nI 0)) hC.1 hC.2.1 dX0_turned_2 (by decide) ?_
  refine lv_istore (lv' := [(5, .int (nI 0)), (3, .long (enc b)), (0, .long (enc b)), (2, .int (nI t))]) hC.1 hC.2.1 dX0_turned_3 hl (by decide) rfl (fun ls hl => ?_)
  exact loop (t % 3 + 1) 0 (by omega) ls (lv_sub hl [2, 3, 1, 0] rfl)

def bd (a d : Nat → Nat) (k : Nat) : Nat → Nat := fun i => if i < k then comp a d i else a i
theorem bd_Va {a d : Nat → Nat} (h : Va a) (k : Nat) : Va (bd a d k) := fun i hi => by
  show (if i < k then comp a d i else a i) < 24
  split
  · exact comp_Va a d i hi
  · exact h i hi
theorem bd_step (a d : Nat → Nat) (k : Nat) : enc (fun i => if i = k then a (d k % 8) % 8 + 8 * ((a (d k % 8) / 8 + d k / 8) % 3) else bd a d k i) = enc (bd a d (k + 1)) := by
  apply enc_congr
  intro i _
  show (if i = k then comp a d k else if i < k then comp a d i else a i) = if i < k + 1 then comp a d i else a i
  by_cases h : i = k
  · subst h; simp
  · by_cases h2 : i < k
    · rw [if_neg h, if_pos h2, if_pos (by omega)]
    · rw [if_neg h, if_neg h2, if_neg (by omega)]
theorem bd_8 (a d : Nat → Nat) : enc (bd a d 8) = enc (comp a d) := enc_congr fun i hi => if_pos hi
def pw (b : Nat → Nat) : Nat → (Nat → Nat)
  | 0 => b
  | n + 1 => comp (pw b n) b
theorem pw_Va {b : Nat → Nat} (h : Va b) : ∀ n, Va (pw b n)
  | 0 => h
  | _ + 1 => comp_Va _ _
theorem lg0 {x y : Int64} : lg_cmp x y = 0 ↔ x = y := by
  unfold lg_cmp
  by_cases h : x = y
  · subst h; simp
  · simp only [h, iff_false]
    split <;> first | decide | (split <;> first | decide | contradiction)
set_option maxHeartbeats 4000000 in
set_option maxRecDepth 100000 in
theorem k_behindDeed (l : Launch) {a d : Nat → Nat} (ha : Va a) (hd : Va d) : RV l yX0_behindDeed wsX0_behindDeed (2) zNo [.long (enc a), .long (enc d)] (some (.long (enc (comp a d)))) := by
  refine RV.of (cc := cX0_behindDeed) (maxL := 8) (ret := (some .long)) (by decide) rfl (Nat.le_of_ble_eq_true rfl) ?_
  intro p e s m args below meth c hC hr hlk hB ls hl
  have hl : lv_has ls 8 [(0, .long (enc a)), (2, .long (enc d))] := hl
  have loop : ∀ (n i : Nat), i + n = 8 → ∀ ls : Array Slot, lv_has ls 8 [(0, .long (enc a)), (2, .long (enc d)), (4, .long (enc (bd a d i))), (6, .int (nI i))] → W p l e (rD (2) 0 0) s m args below meth c s.heap [] 0 0 (MQ below (RVQ (some (.long (enc (comp a d))))) args s 0 0 (fun _ => False)) (F0 m 6 ls []) := by
    intro n
    induction n with
    | zero =>
      intro i hc0 ls hl
      obtain rfl : i = 8 := by omega
      refine lv_iload hC.1 hC.2.1 dX0_behindDeed_6 (lv_at hl 3 rfl) ?_
      refine lv_bipush (v := (nI 8)) hC.1 hC.2.1 dX0_behindDeed_8 (by decide) ?_
      refine z_icmp_ge (tgt := 55) hC dX0_behindDeed_10 (by decide) (by omega) (by omega) (fun h_10 => ?_) (fun h_10 => by omega)
      refine lv_lload hC.1 hC.2.1 dX0_behindDeed_55 (lv_at hl 2 rfl) ?_
      exact RV.lret hC hr hlk dX0_behindDeed_57 (bd_8 a d)
    | succ n ih =>
      intro i hc0 ls hl
      have hm : d i % 8 < 8 := Nat.mod_lt _ (by decide)
      have hb1 := ha (d i % 8) hm
      have hb2 := hd i (by omega)
      refine lv_iload hC.1 hC.2.1 dX0_behindDeed_6 (lv_at hl 3 rfl) ?_
      refine lv_bipush (v := (nI 8)) hC.1 hC.2.1 dX0_behindDeed_8 (by decide) ?_
      refine z_icmp_ge (tgt := 55) hC dX0_behindDeed_10 (by decide) (by omega) (by omega) (fun h_10 => by omega) (fun h_10 => ?_)
      refine lv_lload_n hC.1 hC.2.1 dX0_behindDeed_13 rfl (lv_at hl 1 rfl) ?_
      refine lv_iload hC.1 hC.2.1 dX0_behindDeed_14 (lv_at hl 3 rfl) ?_
      refine p_cs (n := 2) (k_cornerAt l hd (by omega)) hC gX0_behindDeed_X0_cornerAt rfl (by decide +kernel) rfl ⟨by decide, by decide⟩ ⟨Nat.zero_le _, Nat.zero_le _⟩ hl.1 (Nat.le_of_ble_eq_true rfl) dX0_behindDeed_16 rfl ?_
      refine lv_istore (lv' := [(7, .int (nI (d i % 8))), (0, .long (enc a)), (2, .long (enc d)), (4, .long (enc (bd a d i))), (6, .int (nI i))]) hC.1 hC.2.1 dX0_behindDeed_19 hl (by decide) rfl (fun ls hl => ?_)
      refine lv_lload hC.1 hC.2.1 dX0_behindDeed_21 (lv_at hl 3 rfl) ?_
      refine lv_iload hC.1 hC.2.1 dX0_behindDeed_23 (lv_at hl 4 rfl) ?_
      refine lv_lload_n hC.1 hC.2.1 dX0_behindDeed_25 rfl (lv_at hl 1 rfl) ?_
      refine lv_iload hC.1 hC.2.1 dX0_behindDeed_26 (lv_at hl 0 rfl) ?_
      refine p_cs (n := 2) (k_cornerAt l ha hm) hC gX0_behindDeed_X0_cornerAt rfl (by decide +kernel) rfl ⟨by decide, by decide⟩ ⟨Nat.zero_le _, Nat.zero_le _⟩ hl.1 (Nat.le_of_ble_eq_true rfl) dX0_behindDeed_28 rfl ?_
      refine lv_lload_n hC.1 hC.2.1 dX0_behindDeed_31 rfl (lv_at hl 1 rfl) ?_
      refine lv_iload hC.1 hC.2.1 dX0_behindDeed_32 (lv_at hl 0 rfl) ?_
      refine p_cs (n := 2) (k_twistAt l ha hm) hC gX0_behindDeed_X0_twistAt rfl (by decide +kernel) rfl ⟨by decide, by decide⟩ ⟨Nat.zero_le _, Nat.zero_le _⟩ hl.1 (Nat.le_of_ble_eq_true rfl) dX0_behindDeed_34 rfl ?_
      refine lv_lload_n hC.1 hC.2.1 dX0_behindDeed_37 rfl (lv_at hl 2 rfl) ?_
      refine lv_iload hC.1 hC.2.1 dX0_behindDeed_38 (lv_at hl 4 rfl) ?_
      refine p_cs (n := 2) (k_twistAt l hd (by omega)) hC gX0_behindDeed_X0_twistAt rfl (by decide +kernel) rfl ⟨by decide, by decide⟩ ⟨Nat.zero_le _, Nat.zero_le _⟩ hl.1 (Nat.le_of_ble_eq_true rfl) dX0_behindDeed_40 rfl ?_
      refine z_iadd hC dX0_behindDeed_43 ?_
      refine p_cs (n := 4) (k_withCorner l (bd_Va ha i) (by omega) (Nat.mod_lt _ (by decide)) (by omega)) hC gX0_behindDeed_X0_withCorner rfl (by decide +kernel) rfl ⟨by decide, by decide⟩ ⟨Nat.zero_le _, Nat.zero_le _⟩ hl.1 (Nat.le_of_ble_eq_true rfl) dX0_behindDeed_44 rfl ?_
      refine q_l (enc (bd a d (i + 1))) (bd_step a d i) ?_
      refine lv_lstore (lv' := [(4, .long (enc (bd a d (i + 1)))), (7, .int (nI (d i % 8))), (0, .long (enc a)), (2, .long (enc d)), (6, .int (nI i))]) hC.1 hC.2.1 dX0_behindDeed_47 hl (by decide) rfl (fun ls hl => ?_)
      refine lv_iinc (v := nI (i + 1)) (lv' := [(6, .int (nI (i + 1))), (4, .long (enc (bd a d (i + 1)))), (7, .int (nI (d i % 8))), (0, .long (enc a)), (2, .long (enc d))]) hC.1 hC.2.1 dX0_behindDeed_49 hl (k := 4) rfl (z_inc _) (by decide) rfl (fun ls hl => ?_)
      refine lv_goto (tgt := 6) hC.1 hC.2.1 dX0_behindDeed_52 (by decide) ?_
      exact ih (i + 1) (by omega) ls (lv_sub hl [3, 4, 1, 0] rfl)
  refine lv_lload_n hC.1 hC.2.1 dX0_behindDeed_0 rfl (lv_at hl 0 rfl) ?_
  refine lv_lstore (lv' := [(4, .long (enc a)), (0, .long (enc a)), (2, .long (enc d))]) hC.1 hC.2.1 dX0_behindDeed_1 hl (by decide) rfl (fun ls hl => ?_)
  refine lv_iconst (v := (nI 0)) hC.1 hC.2.1 dX0_behindDeed_3 (by decide) ?_
  refine lv_istore (lv' := [(6, .int (nI 0)), (4, .long (enc a)), (0, .long (enc a)), (2, .long (enc d))]) hC.1 hC.2.1 dX0_behindDeed_4 hl (by decide) rfl (fun ls hl => ?_)
  have e0 : bd a d 0 = a := by funext i; simp [bd]
  exact loop 8 0 rfl ls (by rw [e0]; exact (lv_sub hl [2, 3, 1, 0] rfl))

set_option maxHeartbeats 4000000 in
set_option maxRecDepth 100000 in
theorem k_orderOf (l : Launch) {b : Nat → Nat} (hv : Va b) {N : Nat} (hN : N < 1000) (h1 : ∀ k, k < N → ¬ enc (pw b k) = enc one) (h2 : enc (pw b N) = enc one) : RV l yX0_orderOf wsX0_orderOf (3) zNo [.long (enc b)] (some (.int (nI (N + 1)))) := by
  refine RV.of (cc := cX0_orderOf) (maxL := 5) (ret := (some .int)) (by decide) rfl (Nat.le_of_ble_eq_true rfl) ?_
  intro p e s m args below meth c hC hr hlk hB ls hl
  have hl : lv_has ls 5 [(0, .long (enc b))] := hl
  have loop : ∀ (n k : Nat), k + n = N → ∀ ls : Array Slot, lv_has ls 5 [(0, .long (enc b)), (2, .int (nI (k + 1))), (3, .long (enc (pw b k)))] → W p l e (rD (3) 0 0) s m args below meth c s.heap [] 0 0 (MQ below (RVQ (some (.int (nI (N + 1))))) args s 0 0 (fun _ => False)) (F0 m 4 ls []) := by
    intro n
    induction n with
    | zero =>
      intro k hc0 ls hl
      obtain rfl : k = N := by omega
      refine lv_lload_n hC.1 hC.2.1 dX0_orderOf_4 rfl (lv_at hl 2 rfl) ?_
      refine lv_ldc2 (v := 506097522914230528) hC.1 hC.2.1 hC.2.2.2.1 (hC.2.2.2.2 (.constantLong RX0 9 (506097522914230528)) (by decide +kernel)) dX0_orderOf_5 ?_
      refine q_l (enc one) (enc_one) ?_
      refine W.lcmp hC.1 hC.2.1 dX0_orderOf_8 ?_
      refine lv_if_eq (tgt := 31) hC.1 hC.2.1 dX0_orderOf_9 (by decide) (fun h_9 => ?_) (fun h_9 => absurd (lg0.mpr h2) h_9)
      refine lv_iload_n hC.1 hC.2.1 dX0_orderOf_31 rfl (lv_at hl 1 rfl) ?_
      exact RV.iret hC hr hlk dX0_orderOf_32 (rfl)
    | succ n ih =>
      intro k hc0 ls hl
      refine lv_lload_n hC.1 hC.2.1 dX0_orderOf_4 rfl (lv_at hl 2 rfl) ?_
      refine lv_ldc2 (v := 506097522914230528) hC.1 hC.2.1 hC.2.2.2.1 (hC.2.2.2.2 (.constantLong RX0 9 (506097522914230528)) (by decide +kernel)) dX0_orderOf_5 ?_
      refine q_l (enc one) (enc_one) ?_
      refine W.lcmp hC.1 hC.2.1 dX0_orderOf_8 ?_
      refine lv_if_eq (tgt := 31) hC.1 hC.2.1 dX0_orderOf_9 (by decide) (fun h_9 => absurd (lg0.mp h_9) (h1 k (by omega))) (fun h_9 => ?_)
      refine lv_iload_n hC.1 hC.2.1 dX0_orderOf_12 rfl (lv_at hl 1 rfl) ?_
      refine lv_sipush (v := (nI 1000)) hC.1 hC.2.1 dX0_orderOf_13 (by decide) ?_
      refine z_icmp_ge (tgt := 31) hC dX0_orderOf_16 (by decide) (by omega) (by omega) (fun h_16 => by omega) (fun h_16 => ?_)
      refine lv_lload_n hC.1 hC.2.1 dX0_orderOf_19 rfl (lv_at hl 2 rfl) ?_
      refine lv_lload_n hC.1 hC.2.1 dX0_orderOf_20 rfl (lv_at hl 0 rfl) ?_
      refine p_cs (n := 2) (k_behindDeed l (pw_Va hv k) hv) hC gX0_orderOf_X0_behindDeed rfl (by decide +kernel) rfl ⟨by decide, by decide⟩ ⟨Nat.zero_le _, Nat.zero_le _⟩ hl.1 (Nat.le_of_ble_eq_true rfl) dX0_orderOf_21 rfl ?_
      refine lv_lstore_n (lv' := [(3, .long (enc (pw b (k + 1)))), (0, .long (enc b)), (2, .int (nI (k + 1)))]) hC.1 hC.2.1 dX0_orderOf_24 rfl hl (by decide) rfl (fun ls hl => ?_)
      refine lv_iinc (v := nI (k + 1 + 1)) (lv' := [(2, .int (nI (k + 1 + 1))), (3, .long (enc (pw b (k + 1)))), (0, .long (enc b))]) hC.1 hC.2.1 dX0_orderOf_25 hl (k := 2) rfl (z_inc _) (by decide) rfl (fun ls hl => ?_)
      refine lv_goto (tgt := 4) hC.1 hC.2.1 dX0_orderOf_28 (by decide) ?_
      exact ih (k + 1) (by omega) ls (lv_sub hl [2, 0, 1] rfl)
  refine lv_iconst (v := (nI 1)) hC.1 hC.2.1 dX0_orderOf_0 (by decide) ?_
  refine lv_istore_n (lv' := [(2, .int (nI 1)), (0, .long (enc b))]) hC.1 hC.2.1 dX0_orderOf_1 rfl hl (by decide) rfl (fun ls hl => ?_)
  refine lv_lload_n hC.1 hC.2.1 dX0_orderOf_2 rfl (lv_at hl 1 rfl) ?_
  refine lv_lstore_n (lv' := [(3, .long (enc b)), (2, .int (nI 1)), (0, .long (enc b))]) hC.1 hC.2.1 dX0_orderOf_3 rfl hl (by decide) rfl (fun ls hl => ?_)
  exact loop N 0 (by omega) ls (lv_sub hl [2, 1, 0] rfl)

def msr (n : Nat) : Nat := if n = 1 then 4 else if n = 2 then 6 else 8
theorem msr_lt (n : Nat) : msr n < 2 ^ 31 := by
  unfold msr
  split
  · decide
  · split <;> decide
set_option maxHeartbeats 4000000 in
set_option maxRecDepth 100000 in
theorem k_mostSetRight (l : Launch) {n : Nat} (hn : n < 2 ^ 31) : RV l yX0_mostSetRight wsX0_mostSetRight (1) zNo [.int (nI n)] (some (.int (nI (msr n)))) := by
  refine RV.of (cc := cX0_mostSetRight) (maxL := 1) (ret := (some .int)) (by decide) rfl (Nat.le_of_ble_eq_true rfl) ?_
  intro p e s m args below meth c hC hr hlk hB ls hl
  have hl : lv_has ls 1 [(0, .int (nI n))] := hl
  refine lv_iload_n hC.1 hC.2.1 dX0_mostSetRight_0 rfl (lv_at hl 0 rfl) ?_
  refine lv_iconst (v := (nI 1)) hC.1 hC.2.1 dX0_mostSetRight_1 (by decide) ?_
  refine z_icmp_ne (tgt := 7) hC dX0_mostSetRight_2 (by decide) (by omega) (by omega) (fun h_2 => ?_) (fun h_2 => ?_)
  · refine lv_iload_n hC.1 hC.2.1 dX0_mostSetRight_7 rfl (lv_at hl 0 rfl) ?_
    refine lv_iconst (v := (nI 2)) hC.1 hC.2.1 dX0_mostSetRight_8 (by decide) ?_
    refine z_icmp_ne (tgt := 17) hC dX0_mostSetRight_9 (by decide) (by omega) (by omega) (fun h_9 => ?_) (fun h_9 => ?_)
    · refine lv_bipush (v := (nI 8)) hC.1 hC.2.1 dX0_mostSetRight_17 (by decide) ?_
      exact RV.iret hC hr hlk dX0_mostSetRight_19 (by simp [msr, h_2, h_9])
    · refine lv_bipush (v := (nI 6)) hC.1 hC.2.1 dX0_mostSetRight_12 (by decide) ?_
      refine lv_goto (tgt := 19) hC.1 hC.2.1 dX0_mostSetRight_14 (by decide) ?_
      exact RV.iret hC hr hlk dX0_mostSetRight_19 (by simp [msr, h_9])
  · refine lv_iconst (v := (nI 4)) hC.1 hC.2.1 dX0_mostSetRight_5 (by decide) ?_
    exact RV.iret hC hr hlk dX0_mostSetRight_6 (by simp [msr, h_2])

def anyN (q : Nat → Bool) : Nat → Bool
  | 0 => false
  | n + 1 => anyN q n || q n
theorem anyN_of {q : Nat → Bool} {i : Nat} (h : q i = true) : ∀ n, i < n → anyN q n = true
  | 0, hi => absurd hi (by omega)
  | n + 1, hi => by
    show (anyN q n || q n) = true
    by_cases e : i = n
    · subst e; simp [h]
    · rw [anyN_of h n (by omega)]; rfl
theorem anyN_ex {q : Nat → Bool} : ∀ n, anyN q n = true → ∃ i, i < n ∧ q i = true
  | 0, h => by simp [anyN] at h
  | n + 1, h => by
    have h : (anyN q n || q n) = true := h
    rcases Bool.or_eq_true_iff.mp h with h | h
    · obtain ⟨i, hi, hq⟩ := anyN_ex n h
      exact ⟨i, by omega, hq⟩
    · exact ⟨n, by omega, h⟩
theorem anyN_no {q : Nat → Bool} {n : Nat} (h : anyN q n = false) (h2 : q n = false) : anyN q (n + 1) = false := by
  show (anyN q n || q n) = false
  rw [h, h2]; rfl
def bI (x : Bool) : Nat := if x = true then 1 else 0
theorem bI_t : bI true = 1 := rfl
theorem bI_f : bI false = 0 := rfl
theorem bI_0 {x : Bool} : bI x = 0 ↔ x = false := by cases x <;> simp [bI]
theorem bI_n0 {x : Bool} : ¬ bI x = 0 ↔ x = true := by cases x <;> simp [bI]
theorem bI_lt (x : Bool) : bI x < 2 ^ 31 := by cases x <;> decide
def is1 (b : Nat → Nat) : Bool := decide (enc b = enc one)
/-- within n turns, the first not of the face lf (3: any) -/
def wi : Nat → (Nat → Nat) → Nat → Bool
  | 0 => fun b _ => is1 b
  | n + 1 => fun b lf => is1 b || (decide (8 - ct (fun i => decide (b i = i)) 8 ≤ msr (n + 1)) && anyN (fun f => !(decide (f = lf)) && anyN (fun j => wi n (itq f b (j + 1)) f) 3) 3)
def lastI (lf : Nat) : Int32 := if lf < 3 then nI lf else -1
theorem lastI_lt {lf : Nat} (h : lf < 3) : lastI lf = nI lf := if_pos h
theorem lastI_eq {f lf : Nat} (hf : f < 3) (hl : lf ≤ 3) : nI f = lastI lf ↔ f = lf := by
  rcases (by omega : f = 0 ∨ f = 1 ∨ f = 2) with rfl | rfl | rfl <;> rcases (by omega : lf = 0 ∨ lf = 1 ∨ lf = 2 ∨ lf = 3) with rfl | rfl | rfl | rfl <;> decide
set_option maxHeartbeats 4000000 in
set_option maxRecDepth 100000 in
theorem k_within (l : Launch) : ∀ (n : Nat) {b : Nat → Nat} (hv : Va b) {lf : Nat} (hlf : lf ≤ 3) (hn : n < 6), RV l yX0_isRightWithin wsX0_isRightWithin (6 + 2 * n) zNo [.long (enc b), .int (nI n), .int (lastI lf)] (some (.int (nI (bI (wi n b lf))))) := by
  intro n
  induction n with
  | zero =>
    intro b hv lf hlf hn
    refine RV.of (cc := cX0_isRightWithin) (maxL := 5) (ret := (some .boolean)) (by decide) rfl (Nat.le_of_ble_eq_true rfl) ?_
    intro p e s m args below meth c hC hr hlk hB ls hl
    have hl : lv_has ls 5 [(0, .long (enc b)), (2, .int (nI 0)), (3, .int (lastI lf))] := hl
    refine lv_lload_n hC.1 hC.2.1 dX0_isRightWithin_0 rfl (lv_at hl 0 rfl) ?_
    refine lv_ldc2 (v := 506097522914230528) hC.1 hC.2.1 hC.2.2.2.1 (hC.2.2.2.2 (.constantLong RX0 9 (506097522914230528)) (by decide +kernel)) dX0_isRightWithin_1 ?_
    refine q_l (enc one) (enc_one) ?_
    refine W.lcmp hC.1 hC.2.1 dX0_isRightWithin_4 ?_
    refine lv_if_ne (tgt := 10) hC.1 hC.2.1 dX0_isRightWithin_5 (by decide) (fun h_5 => ?_) (fun h_5 => ?_)
    · refine lv_iload_n hC.1 hC.2.1 dX0_isRightWithin_10 rfl (lv_at hl 1 rfl) ?_
      refine z_if_le (tgt := 25) hC dX0_isRightWithin_11 (by decide) (by omega) (fun h_11 => ?_) (fun h_11 => absurd h_11 (by omega))
      refine lv_iconst (v := (nI 0)) hC.1 hC.2.1 dX0_isRightWithin_25 (by decide) ?_
      exact RV.zret hC hr hlk dX0_isRightWithin_26 (by show nI 0 = nI (bI (is1 b)); rw [show is1 b = false from decide_eq_false (fun q => h_5 (lg0.mpr q))]; rfl) (by decide)
    · refine lv_iconst (v := (nI 1)) hC.1 hC.2.1 dX0_isRightWithin_8 (by decide) ?_
      exact RV.zret hC hr hlk dX0_isRightWithin_9 (by show nI 1 = nI (bI (is1 b)); rw [show is1 b = true from decide_eq_true (lg0.mp h_5)]; rfl) (by decide)
  | succ k ih =>
    intro b hv lf hlf hn
    have hBeg : ∀ {b : Nat → Nat} (hv : Va b) {f : Nat} (hf : f < 3), RV l yX0_isRightBeginning wsX0_isRightBeginning (7 + 2 * k) zNo [.long (enc b), .int (nI f), .int (nI (k + 1))] (some (.int (nI (bI (anyN (fun j => wi k (itq f b (j + 1)) f) 3))))) := by
      intro b hv f hf
      refine RV.of (cc := cX0_isRightBeginning) (maxL := 7) (ret := (some .boolean)) (by decide) rfl (Nat.le_of_ble_eq_true rfl) ?_
      intro p e s m args below meth c hC hr hlk hB ls hl
      have hl : lv_has ls 7 [(0, .long (enc b)), (2, .int (nI f)), (3, .int (nI (k + 1)))] := hl
      have loop : ∀ (n j : Nat), j + n = 3 → anyN (fun j => wi k (itq f b (j + 1)) f) j = false → ∀ ls : Array Slot, lv_has ls 7 [(0, .long (enc b)), (2, .int (nI f)), (3, .int (nI (k + 1))), (4, .long (enc (itq f b j))), (6, .int (nI (j + 1)))] → W p l e (rD (7 + 2 * k) 0 0) s m args below meth c s.heap [] 0 0 (MQ below (RVQ (some (.int (nI (bI (anyN (fun j => wi k (itq f b (j + 1)) f) 3)))))) args s 0 0 (fun _ => False)) (F0 m 6 ls []) := by
        intro n
        induction n with
        | zero =>
          intro j hc0 hc1 ls hl
          obtain rfl : j = 3 := by omega
          refine lv_iload hC.1 hC.2.1 dX0_isRightBeginning_6 (lv_at hl 4 rfl) ?_
          refine lv_iconst (v := (nI 4)) hC.1 hC.2.1 dX0_isRightBeginning_8 (by decide) ?_
          refine z_icmp_ge (tgt := 40) hC dX0_isRightBeginning_9 (by decide) (by omega) (by omega) (fun h_9 => ?_) (fun h_9 => by omega)
          refine lv_iconst (v := (nI 0)) hC.1 hC.2.1 dX0_isRightBeginning_40 (by decide) ?_
          exact RV.zret hC hr hlk dX0_isRightBeginning_41 (by rw [hc1]; rfl) (by decide)
        | succ n ih2 =>
          intro j hc0 hc1 ls hl
          refine lv_iload hC.1 hC.2.1 dX0_isRightBeginning_6 (lv_at hl 4 rfl) ?_
          refine lv_iconst (v := (nI 4)) hC.1 hC.2.1 dX0_isRightBeginning_8 (by decide) ?_
          refine z_icmp_ge (tgt := 40) hC dX0_isRightBeginning_9 (by decide) (by omega) (by omega) (fun h_9 => by omega) (fun h_9 => ?_)
          refine lv_lload hC.1 hC.2.1 dX0_isRightBeginning_12 (lv_at hl 3 rfl) ?_
          refine lv_iload_n hC.1 hC.2.1 dX0_isRightBeginning_14 rfl (lv_at hl 1 rfl) ?_
          refine p_cs (n := 2) (k_quarterTurned l (itq_Va hv j) hf) hC gX0_isRightBeginning_X0_quarterTurned rfl (by decide +kernel) rfl ⟨by simp only [rD]; omega, by simp only [rD]; omega⟩ ⟨Nat.zero_le _, Nat.zero_le _⟩ hl.1 (Nat.le_of_ble_eq_true rfl) dX0_isRightBeginning_15 rfl ?_
          refine lv_lstore (lv' := [(4, .long (enc (itq f b (j + 1)))), (0, .long (enc b)), (2, .int (nI f)), (3, .int (nI (k + 1))), (6, .int (nI (j + 1)))]) hC.1 hC.2.1 dX0_isRightBeginning_18 hl (by decide) rfl (fun ls hl => ?_)
          refine lv_lload hC.1 hC.2.1 dX0_isRightBeginning_20 (lv_at hl 0 rfl) ?_
          refine lv_iload_n hC.1 hC.2.1 dX0_isRightBeginning_22 rfl (lv_at hl 3 rfl) ?_
          refine lv_iconst (v := (nI 1)) hC.1 hC.2.1 dX0_isRightBeginning_23 (by decide) ?_
          refine z_isub hC dX0_isRightBeginning_24 (by omega) ?_
          refine q_i (nI k) (by rfl) ?_
          refine lv_iload_n hC.1 hC.2.1 dX0_isRightBeginning_25 rfl (lv_at hl 2 rfl) ?_
          refine q_i (lastI f) ((lastI_lt hf).symm) ?_
          refine p_cs (n := 3) (ih (itq_Va hv (j + 1)) (by omega : f ≤ 3) (by omega)) hC gX0_isRightBeginning_X0_isRightWithin rfl (by decide +kernel) rfl ⟨by simp only [rD]; omega, by simp only [rD]; omega⟩ ⟨Nat.zero_le _, Nat.zero_le _⟩ hl.1 (Nat.le_of_ble_eq_true rfl) dX0_isRightBeginning_26 rfl ?_
          refine z_if_eq (tgt := 34) hC dX0_isRightBeginning_29 (by decide) (bI_lt _) (fun h_29 => ?_) (fun h_29 => ?_)
          · refine lv_iinc (v := nI (j + 1 + 1)) (lv' := [(6, .int (nI (j + 1 + 1))), (4, .long (enc (itq f b (j + 1)))), (0, .long (enc b)), (2, .int (nI f)), (3, .int (nI (k + 1)))]) hC.1 hC.2.1 dX0_isRightBeginning_34 hl (k := 4) rfl (z_inc _) (by decide) rfl (fun ls hl => ?_)
            refine lv_goto (tgt := 6) hC.1 hC.2.1 dX0_isRightBeginning_37 (by decide) ?_
            exact ih2 (j + 1) (by omega) (anyN_no hc1 (bI_0.mp h_29)) ls (lv_sub hl [2, 3, 4, 1, 0] rfl)
          · refine lv_iconst (v := (nI 1)) hC.1 hC.2.1 dX0_isRightBeginning_32 (by decide) ?_
            exact RV.zret hC hr hlk dX0_isRightBeginning_33 (by rw [anyN_of (i := j) (q := (fun j => wi k (itq f b (j + 1)) f)) (bI_n0.mp h_29) 3 (by omega)]; rfl) (by decide)
      refine lv_lload_n hC.1 hC.2.1 dX0_isRightBeginning_0 rfl (lv_at hl 0 rfl) ?_
      refine lv_lstore (lv' := [(4, .long (enc b)), (0, .long (enc b)), (2, .int (nI f)), (3, .int (nI (k + 1)))]) hC.1 hC.2.1 dX0_isRightBeginning_1 hl (by decide) rfl (fun ls hl => ?_)
      refine lv_iconst (v := (nI 1)) hC.1 hC.2.1 dX0_isRightBeginning_3 (by decide) ?_
      refine lv_istore (lv' := [(6, .int (nI 1)), (4, .long (enc b)), (0, .long (enc b)), (2, .int (nI f)), (3, .int (nI (k + 1)))]) hC.1 hC.2.1 dX0_isRightBeginning_4 hl (by decide) rfl (fun ls hl => ?_)
      exact loop 3 0 (by omega) rfl ls (lv_sub hl [2, 3, 4, 1, 0] rfl)
    refine RV.of (cc := cX0_isRightWithin) (maxL := 5) (ret := (some .boolean)) (by decide) rfl (Nat.le_of_ble_eq_true rfl) ?_
    intro p e s m args below meth c hC hr hlk hB ls hl
    have hl : lv_has ls 5 [(0, .long (enc b)), (2, .int (nI (k + 1))), (3, .int (lastI lf))] := hl
    have loop : is1 b = false → 8 - ct (fun i => decide (b i = i)) 8 ≤ msr (k + 1) → ∀ (n f : Nat), f + n = 3 → anyN (fun f => !(decide (f = lf)) && anyN (fun j => wi k (itq f b (j + 1)) f) 3) f = false → ∀ ls : Array Slot, lv_has ls 5 [(0, .long (enc b)), (2, .int (nI (k + 1))), (3, .int (lastI lf)), (4, .int (nI f))] → W p l e (rD (6 + 2 * (k + 1)) 0 0) s m args below meth c s.heap [] 0 0 (MQ below (RVQ (some (.int (nI (bI (wi (k + 1) b lf)))))) args s 0 0 (fun _ => False)) (F0 m 30 ls []) := by
      intro hs hle n
      induction n with
      | zero =>
        intro f hc0 hc1 ls hl
        obtain rfl : f = 3 := by omega
        refine lv_iload hC.1 hC.2.1 dX0_isRightWithin_30 (lv_at hl 3 rfl) ?_
        refine lv_iconst (v := (nI 3)) hC.1 hC.2.1 dX0_isRightWithin_32 (by decide) ?_
        refine z_icmp_ge (tgt := 60) hC dX0_isRightWithin_33 (by decide) (by omega) (by omega) (fun h_33 => ?_) (fun h_33 => by omega)
        refine lv_iconst (v := (nI 0)) hC.1 hC.2.1 dX0_isRightWithin_60 (by decide) ?_
        exact RV.zret hC hr hlk dX0_isRightWithin_61 (by show _ = nI (bI (is1 b || (decide (8 - ct (fun i => decide (b i = i)) 8 ≤ msr (k + 1)) && anyN (fun f => !(decide (f = lf)) && anyN (fun j => wi k (itq f b (j + 1)) f) 3) 3))); rw [hs, hc1]; simp [bI]) (by decide)
      | succ n ih2 =>
        intro f hc0 hc1 ls hl
        refine lv_iload hC.1 hC.2.1 dX0_isRightWithin_30 (lv_at hl 3 rfl) ?_
        refine lv_iconst (v := (nI 3)) hC.1 hC.2.1 dX0_isRightWithin_32 (by decide) ?_
        refine z_icmp_ge (tgt := 60) hC dX0_isRightWithin_33 (by decide) (by omega) (by omega) (fun h_33 => by omega) (fun h_33 => ?_)
        refine lv_iload hC.1 hC.2.1 dX0_isRightWithin_36 (lv_at hl 3 rfl) ?_
        refine lv_iload_n hC.1 hC.2.1 dX0_isRightWithin_38 rfl (lv_at hl 2 rfl) ?_
        refine lv_icmp_eq (tgt := 54) hC.1 hC.2.1 dX0_isRightWithin_39 (by decide) (fun h_39 => ?_) (fun h_39 => ?_)
        · refine lv_iinc (v := nI (f + 1)) (lv' := [(4, .int (nI (f + 1))), (0, .long (enc b)), (2, .int (nI (k + 1))), (3, .int (lastI lf))]) hC.1 hC.2.1 dX0_isRightWithin_54 hl (k := 3) rfl (z_inc _) (by decide) rfl (fun ls hl => ?_)
          refine lv_goto (tgt := 30) hC.1 hC.2.1 dX0_isRightWithin_57 (by decide) ?_
          exact ih2 (f + 1) (by omega) (anyN_no hc1 (by have e1 := (lastI_eq (by omega) hlf).mp h_39; simp [e1])) ls (lv_sub hl [1, 2, 3, 0] rfl)
        · refine lv_lload_n hC.1 hC.2.1 dX0_isRightWithin_42 rfl (lv_at hl 0 rfl) ?_
          refine lv_iload hC.1 hC.2.1 dX0_isRightWithin_43 (lv_at hl 3 rfl) ?_
          refine lv_iload_n hC.1 hC.2.1 dX0_isRightWithin_45 rfl (lv_at hl 1 rfl) ?_
          refine p_cs (n := 3) (hBeg hv (by omega : f < 3)) hC gX0_isRightWithin_X0_isRightBeginning rfl (by decide +kernel) rfl ⟨by simp only [rD]; omega, by simp only [rD]; omega⟩ ⟨Nat.zero_le _, Nat.zero_le _⟩ hl.1 (Nat.le_of_ble_eq_true rfl) dX0_isRightWithin_46 rfl ?_
          refine z_if_eq (tgt := 54) hC dX0_isRightWithin_49 (by decide) (bI_lt _) (fun h_49 => ?_) (fun h_49 => ?_)
          · refine lv_iinc (v := nI (f + 1)) (lv' := [(4, .int (nI (f + 1))), (0, .long (enc b)), (2, .int (nI (k + 1))), (3, .int (lastI lf))]) hC.1 hC.2.1 dX0_isRightWithin_54 hl (k := 3) rfl (z_inc _) (by decide) rfl (fun ls hl => ?_)
            refine lv_goto (tgt := 30) hC.1 hC.2.1 dX0_isRightWithin_57 (by decide) ?_
            exact ih2 (f + 1) (by omega) (anyN_no hc1 (by have e1 := bI_0.mp h_49; simp [e1])) ls (lv_sub hl [1, 2, 3, 0] rfl)
          · refine lv_iconst (v := (nI 1)) hC.1 hC.2.1 dX0_isRightWithin_52 (by decide) ?_
            exact RV.zret hC hr hlk dX0_isRightWithin_53 (by show _ = nI (bI (is1 b || (decide (8 - ct (fun i => decide (b i = i)) 8 ≤ msr (k + 1)) && anyN (fun f => !(decide (f = lf)) && anyN (fun j => wi k (itq f b (j + 1)) f) 3) 3))); rw [hs, decide_eq_true hle, anyN_of (i := f) (q := (fun f => !(decide (f = lf)) && anyN (fun j => wi k (itq f b (j + 1)) f) 3)) (by have e1 := bI_n0.mp h_49; have e2 : ¬ f = lf := fun q => h_39 ((lastI_eq (by omega) hlf).mpr q); simp [e1, e2]) 3 (by omega)]; rfl) (by decide)
    refine lv_lload_n hC.1 hC.2.1 dX0_isRightWithin_0 rfl (lv_at hl 0 rfl) ?_
    refine lv_ldc2 (v := 506097522914230528) hC.1 hC.2.1 hC.2.2.2.1 (hC.2.2.2.2 (.constantLong RX0 9 (506097522914230528)) (by decide +kernel)) dX0_isRightWithin_1 ?_
    refine q_l (enc one) (enc_one) ?_
    refine W.lcmp hC.1 hC.2.1 dX0_isRightWithin_4 ?_
    refine lv_if_ne (tgt := 10) hC.1 hC.2.1 dX0_isRightWithin_5 (by decide) (fun h_5 => ?_) (fun h_5 => ?_)
    · have hs : is1 b = false := decide_eq_false (fun q => h_5 (lg0.mpr q))
      refine lv_iload_n hC.1 hC.2.1 dX0_isRightWithin_10 rfl (lv_at hl 1 rfl) ?_
      refine z_if_le (tgt := 25) hC dX0_isRightWithin_11 (by decide) (by omega) (fun h_11 => by omega) (fun h_11 => ?_)
      refine lv_lload_n hC.1 hC.2.1 dX0_isRightWithin_14 rfl (lv_at hl 0 rfl) ?_
      refine p_cs (n := 1) (k_wrongCorners l hv) hC gX0_isRightWithin_X0_wrongCorners rfl (by decide +kernel) rfl ⟨by simp only [rD]; omega, by simp only [rD]; omega⟩ ⟨Nat.zero_le _, Nat.zero_le _⟩ hl.1 (Nat.le_of_ble_eq_true rfl) dX0_isRightWithin_15 rfl ?_
      refine lv_iload_n hC.1 hC.2.1 dX0_isRightWithin_18 rfl (lv_at hl 1 rfl) ?_
      refine p_cs (n := 1) (k_mostSetRight l (by omega)) hC gX0_isRightWithin_X0_mostSetRight rfl (by decide +kernel) rfl ⟨by simp only [rD]; omega, by simp only [rD]; omega⟩ ⟨Nat.zero_le _, Nat.zero_le _⟩ hl.1 (Nat.le_of_ble_eq_true rfl) dX0_isRightWithin_19 rfl ?_
      refine z_icmp_le (tgt := 27) hC dX0_isRightWithin_22 (by decide) (by first | exact msr_lt _ | omega) (by first | exact msr_lt _ | omega) (fun h_22 => ?_) (fun h_22 => ?_)
      · refine lv_iconst (v := (nI 0)) hC.1 hC.2.1 dX0_isRightWithin_27 (by decide) ?_
        refine lv_istore (lv' := [(4, .int (nI 0)), (0, .long (enc b)), (2, .int (nI (k + 1))), (3, .int (lastI lf))]) hC.1 hC.2.1 dX0_isRightWithin_28 hl (by decide) rfl (fun ls hl => ?_)
        exact loop hs h_22 3 0 (by omega) rfl ls (lv_sub hl [1, 2, 3, 0] rfl)
      · refine lv_iconst (v := (nI 0)) hC.1 hC.2.1 dX0_isRightWithin_25 (by decide) ?_
        exact RV.zret hC hr hlk dX0_isRightWithin_26 (by show _ = nI (bI (is1 b || (decide (8 - ct (fun i => decide (b i = i)) 8 ≤ msr (k + 1)) && anyN (fun f => !(decide (f = lf)) && anyN (fun j => wi k (itq f b (j + 1)) f) 3) 3))); rw [hs, decide_eq_false (by omega : ¬ 8 - ct (fun i => decide (b i = i)) 8 ≤ msr (k + 1))]; rfl) (by decide)
    · refine lv_iconst (v := (nI 1)) hC.1 hC.2.1 dX0_isRightWithin_8 (by decide) ?_
      exact RV.zret hC hr hlk dX0_isRightWithin_9 (by show _ = nI (bI (is1 b || (decide (8 - ct (fun i => decide (b i = i)) 8 ≤ msr (k + 1)) && anyN (fun f => !(decide (f = lf)) && anyN (fun j => wi k (itq f b (j + 1)) f) 3) 3))); rw [show is1 b = true from decide_eq_true (lg0.mp h_5)]; rfl) (by decide)

set_option maxHeartbeats 4000000 in
set_option maxRecDepth 100000 in
theorem k_fewest (l : Launch) {b : Nat → Nat} (hv : Va b) {most : Nat} (hm : most ≤ 5) {N : Nat} (hN : N ≤ most) (h1 : ∀ k, k < N → wi k b 3 = false) (h2 : wi N b 3 = true) : RV l yX0_fewestTurns wsX0_fewestTurns (20) zNo [.long (enc b), .int (nI most)] (some (.int (nI N))) := by
  refine RV.of (cc := cX0_fewestTurns) (maxL := 4) (ret := (some .int)) (by decide) rfl (Nat.le_of_ble_eq_true rfl) ?_
  intro p e s m args below meth c hC hr hlk hB ls hl
  have hl : lv_has ls 4 [(0, .long (enc b)), (2, .int (nI most))] := hl
  have loop : ∀ (n k : Nat), k + n = N → ∀ ls : Array Slot, lv_has ls 4 [(0, .long (enc b)), (2, .int (nI most)), (3, .int (nI k))] → W p l e (rD (20) 0 0) s m args below meth c s.heap [] 0 0 (MQ below (RVQ (some (.int (nI N)))) args s 0 0 (fun _ => False)) (F0 m 2 ls []) := by
    intro n
    induction n with
    | zero =>
      intro k hc0 ls hl
      obtain rfl : k = N := by omega
      refine lv_iload_n hC.1 hC.2.1 dX0_fewestTurns_2 rfl (lv_at hl 2 rfl) ?_
      refine lv_iload_n hC.1 hC.2.1 dX0_fewestTurns_3 rfl (lv_at hl 1 rfl) ?_
      refine z_icmp_gt (tgt := 24) hC dX0_fewestTurns_4 (by decide) (by omega) (by omega) (fun h_4 => by omega) (fun h_4 => ?_)
      refine lv_lload_n hC.1 hC.2.1 dX0_fewestTurns_7 rfl (lv_at hl 0 rfl) ?_
      refine lv_iload_n hC.1 hC.2.1 dX0_fewestTurns_8 rfl (lv_at hl 2 rfl) ?_
      refine lv_iconst (v := (-1)) hC.1 hC.2.1 dX0_fewestTurns_9 (by decide) ?_
      refine q_i (lastI 3) (by decide) ?_
      refine p_cs (n := 3) (k_within l k hv (lf := 3) (by decide) (by omega)) hC gX0_fewestTurns_X0_isRightWithin rfl (by decide +kernel) rfl ⟨by simp only [rD]; omega, by simp only [rD]; omega⟩ ⟨Nat.zero_le _, Nat.zero_le _⟩ hl.1 (Nat.le_of_ble_eq_true rfl) dX0_fewestTurns_10 rfl ?_
      refine z_if_eq (tgt := 18) hC dX0_fewestTurns_13 (by decide) (bI_lt _) (fun h_13 => absurd (bI_0.mp h_13) (by simp [h2])) (fun h_13 => ?_)
      refine lv_iload_n hC.1 hC.2.1 dX0_fewestTurns_16 rfl (lv_at hl 2 rfl) ?_
      exact RV.iret hC hr hlk dX0_fewestTurns_17 (rfl)
    | succ n ih =>
      intro k hc0 ls hl
      refine lv_iload_n hC.1 hC.2.1 dX0_fewestTurns_2 rfl (lv_at hl 2 rfl) ?_
      refine lv_iload_n hC.1 hC.2.1 dX0_fewestTurns_3 rfl (lv_at hl 1 rfl) ?_
      refine z_icmp_gt (tgt := 24) hC dX0_fewestTurns_4 (by decide) (by omega) (by omega) (fun h_4 => by omega) (fun h_4 => ?_)
      refine lv_lload_n hC.1 hC.2.1 dX0_fewestTurns_7 rfl (lv_at hl 0 rfl) ?_
      refine lv_iload_n hC.1 hC.2.1 dX0_fewestTurns_8 rfl (lv_at hl 2 rfl) ?_
      refine lv_iconst (v := (-1)) hC.1 hC.2.1 dX0_fewestTurns_9 (by decide) ?_
      refine q_i (lastI 3) (by decide) ?_
      refine p_cs (n := 3) (k_within l k hv (lf := 3) (by decide) (by omega)) hC gX0_fewestTurns_X0_isRightWithin rfl (by decide +kernel) rfl ⟨by simp only [rD]; omega, by simp only [rD]; omega⟩ ⟨Nat.zero_le _, Nat.zero_le _⟩ hl.1 (Nat.le_of_ble_eq_true rfl) dX0_fewestTurns_10 rfl ?_
      refine z_if_eq (tgt := 18) hC dX0_fewestTurns_13 (by decide) (bI_lt _) (fun h_13 => ?_) (fun h_13 => absurd (bI_n0.mp h_13) (by simp [h1 k (by omega)]))
      refine lv_iinc (v := nI (k + 1)) (lv' := [(3, .int (nI (k + 1))), (0, .long (enc b)), (2, .int (nI most))]) hC.1 hC.2.1 dX0_fewestTurns_18 hl (k := 2) rfl (z_inc _) (by decide) rfl (fun ls hl => ?_)
      refine lv_goto (tgt := 2) hC.1 hC.2.1 dX0_fewestTurns_21 (by decide) ?_
      exact ih (k + 1) (by omega) ls (lv_sub hl [1, 2, 0] rfl)
  refine lv_iconst (v := (nI 0)) hC.1 hC.2.1 dX0_fewestTurns_0 (by decide) ?_
  refine lv_istore_n (lv' := [(3, .int (nI 0)), (0, .long (enc b)), (2, .int (nI most))]) hC.1 hC.2.1 dX0_fewestTurns_1 rfl hl (by decide) rfl (fun ls hl => ?_)
  exact loop N 0 (by omega) ls (lv_sub hl [1, 2, 0] rfl)

set_option maxHeartbeats 4000000 in
set_option maxRecDepth 100000 in
theorem k_fewestN (l : Launch) {b : Nat → Nat} (hv : Va b) {most : Nat} (hm : most ≤ 5) (h1 : ∀ k, k ≤ most → wi k b 3 = false) : RV l yX0_fewestTurns wsX0_fewestTurns (20) zNo [.long (enc b), .int (nI most)] (some (.int (-1))) := by
  refine RV.of (cc := cX0_fewestTurns) (maxL := 4) (ret := (some .int)) (by decide) rfl (Nat.le_of_ble_eq_true rfl) ?_
  intro p e s m args below meth c hC hr hlk hB ls hl
  have hl : lv_has ls 4 [(0, .long (enc b)), (2, .int (nI most))] := hl
  have loop : ∀ (n k : Nat), k + n = most + 1 → ∀ ls : Array Slot, lv_has ls 4 [(0, .long (enc b)), (2, .int (nI most)), (3, .int (nI k))] → W p l e (rD (20) 0 0) s m args below meth c s.heap [] 0 0 (MQ below (RVQ (some (.int (-1)))) args s 0 0 (fun _ => False)) (F0 m 2 ls []) := by
    intro n
    induction n with
    | zero =>
      intro k hc0 ls hl
      obtain rfl : k = most + 1 := by omega
      refine lv_iload_n hC.1 hC.2.1 dX0_fewestTurns_2 rfl (lv_at hl 2 rfl) ?_
      refine lv_iload_n hC.1 hC.2.1 dX0_fewestTurns_3 rfl (lv_at hl 1 rfl) ?_
      refine z_icmp_gt (tgt := 24) hC dX0_fewestTurns_4 (by decide) (by omega) (by omega) (fun h_4 => ?_) (fun h_4 => by omega)
      refine lv_iconst (v := (-1)) hC.1 hC.2.1 dX0_fewestTurns_24 (by decide) ?_
      exact RV.iret hC hr hlk dX0_fewestTurns_25 (rfl)
    | succ n ih =>
      intro k hc0 ls hl
      refine lv_iload_n hC.1 hC.2.1 dX0_fewestTurns_2 rfl (lv_at hl 2 rfl) ?_
      refine lv_iload_n hC.1 hC.2.1 dX0_fewestTurns_3 rfl (lv_at hl 1 rfl) ?_
      refine z_icmp_gt (tgt := 24) hC dX0_fewestTurns_4 (by decide) (by omega) (by omega) (fun h_4 => by omega) (fun h_4 => ?_)
      refine lv_lload_n hC.1 hC.2.1 dX0_fewestTurns_7 rfl (lv_at hl 0 rfl) ?_
      refine lv_iload_n hC.1 hC.2.1 dX0_fewestTurns_8 rfl (lv_at hl 2 rfl) ?_
      refine lv_iconst (v := (-1)) hC.1 hC.2.1 dX0_fewestTurns_9 (by decide) ?_
      refine q_i (lastI 3) (by decide) ?_
      refine p_cs (n := 3) (k_within l k hv (lf := 3) (by decide) (by omega)) hC gX0_fewestTurns_X0_isRightWithin rfl (by decide +kernel) rfl ⟨by simp only [rD]; omega, by simp only [rD]; omega⟩ ⟨Nat.zero_le _, Nat.zero_le _⟩ hl.1 (Nat.le_of_ble_eq_true rfl) dX0_fewestTurns_10 rfl ?_
      refine z_if_eq (tgt := 18) hC dX0_fewestTurns_13 (by decide) (bI_lt _) (fun h_13 => ?_) (fun h_13 => absurd (bI_n0.mp h_13) (by simp [h1 k (by omega)]))
      refine lv_iinc (v := nI (k + 1)) (lv' := [(3, .int (nI (k + 1))), (0, .long (enc b)), (2, .int (nI most))]) hC.1 hC.2.1 dX0_fewestTurns_18 hl (k := 2) rfl (z_inc _) (by decide) rfl (fun ls hl => ?_)
      refine lv_goto (tgt := 2) hC.1 hC.2.1 dX0_fewestTurns_21 (by decide) ?_
      exact ih (k + 1) (by omega) ls (lv_sub hl [1, 2, 0] rfl)
  refine lv_iconst (v := (nI 0)) hC.1 hC.2.1 dX0_fewestTurns_0 (by decide) ?_
  refine lv_istore_n (lv' := [(3, .int (nI 0)), (0, .long (enc b)), (2, .int (nI most))]) hC.1 hC.2.1 dX0_fewestTurns_1 rfl hl (by decide) rfl (fun ls hl => ?_)
  exact loop (most + 1) 0 (by omega) ls (lv_sub hl [1, 2, 0] rfl)

theorem invs_lt (b : Nat → Nat) : ∀ n, n ≤ 8 → invs b n ≤ 8 * n
  | 0, _ => by simp [invs]
  | n + 1, h => by
    have h1 := invs_lt b n (by omega)
    have h2 : pairsTo b n (7 - n) ≤ 7 - n := ct_le _ _
    show invs b n + pairsTo b n (7 - n) ≤ _
    omega
set_option maxHeartbeats 4000000 in
set_option maxRecDepth 100000 in
theorem k_pairs (l : Launch) {b : Nat → Nat} (hv : Va b) : RV l yX0_pairsOutOfOrder wsX0_pairsOutOfOrder (2) zNo [.long (enc b)] (some (.int (nI (invs b 8)))) := by
  refine RV.of (cc := cX0_pairsOutOfOrder) (maxL := 5) (ret := (some .int)) (by decide) rfl (Nat.le_of_ble_eq_true rfl) ?_
  intro p e s m args below meth c hC hr hlk hB ls hl
  have hl : lv_has ls 5 [(0, .long (enc b))] := hl
  have outer : ∀ (n i : Nat), i + n = 8 → ∀ ls : Array Slot, lv_has ls 5 [(0, .long (enc b)), (2, .int (nI (invs b i))), (3, .int (nI i))] → W p l e (rD (2) 0 0) s m args below meth c s.heap [] 0 0 (MQ below (RVQ (some (.int (nI (invs b 8))))) args s 0 0 (fun _ => False)) (F0 m 4 ls []) := by
    intro n
    induction n with
    | zero =>
      intro i hc0 ls hl
      obtain rfl : i = 8 := by omega
      refine lv_iload_n hC.1 hC.2.1 dX0_pairsOutOfOrder_4 rfl (lv_at hl 2 rfl) ?_
      refine lv_bipush (v := (nI 8)) hC.1 hC.2.1 dX0_pairsOutOfOrder_5 (by decide) ?_
      refine z_icmp_ge (tgt := 51) hC dX0_pairsOutOfOrder_7 (by decide) (by omega) (by omega) (fun h_7 => ?_) (fun h_7 => by omega)
      refine lv_iload_n hC.1 hC.2.1 dX0_pairsOutOfOrder_51 rfl (lv_at hl 1 rfl) ?_
      exact RV.iret hC hr hlk dX0_pairsOutOfOrder_52 (rfl)
    | succ n ih =>
      intro i hc0 ls hl
      have inner : ∀ (n2 k : Nat), k + n2 = 7 - i → ∀ ls : Array Slot, lv_has ls 5 [(0, .long (enc b)), (2, .int (nI (invs b i + pairsTo b i k))), (3, .int (nI i)), (4, .int (nI (i + 1 + k)))] → W p l e (rD (2) 0 0) s m args below meth c s.heap [] 0 0 (MQ below (RVQ (some (.int (nI (invs b 8))))) args s 0 0 (fun _ => False)) (F0 m 15 ls []) := by
        intro n2
        induction n2 with
        | zero =>
          intro k hk ls hl
          have hk7 : k = 7 - i := by omega
          refine lv_iload hC.1 hC.2.1 dX0_pairsOutOfOrder_15 (lv_at hl 3 rfl) ?_
          refine lv_bipush (v := (nI 8)) hC.1 hC.2.1 dX0_pairsOutOfOrder_17 (by decide) ?_
          refine z_icmp_ge (tgt := 45) hC dX0_pairsOutOfOrder_19 (by decide) (by omega) (by omega) (fun h_19 => ?_) (fun h_19 => by omega)
          refine lv_iinc (v := nI (i + 1)) (lv' := [(3, .int (nI (i + 1))), (0, .long (enc b)), (2, .int (nI (invs b i + pairsTo b i k))), (4, .int (nI (i + 1 + k)))]) hC.1 hC.2.1 dX0_pairsOutOfOrder_45 hl (k := 2) rfl (z_inc _) (by decide) rfl (fun ls hl => ?_)
          refine lv_goto (tgt := 4) hC.1 hC.2.1 dX0_pairsOutOfOrder_48 (by decide) ?_
          have e9 : invs b (i + 1) = invs b i + pairsTo b i k := by rw [hk7]; rfl
          exact ih (i + 1) (by omega) ls (by rw [e9]; exact (lv_sub hl [1, 2, 0] rfl))
        | succ n2 ih2 =>
          intro k hk ls hl
          refine lv_iload hC.1 hC.2.1 dX0_pairsOutOfOrder_15 (lv_at hl 3 rfl) ?_
          refine lv_bipush (v := (nI 8)) hC.1 hC.2.1 dX0_pairsOutOfOrder_17 (by decide) ?_
          refine z_icmp_ge (tgt := 45) hC dX0_pairsOutOfOrder_19 (by decide) (by omega) (by omega) (fun h_19 => by omega) (fun h_19 => ?_)
          refine lv_lload_n hC.1 hC.2.1 dX0_pairsOutOfOrder_22 rfl (lv_at hl 0 rfl) ?_
          refine lv_iload_n hC.1 hC.2.1 dX0_pairsOutOfOrder_23 rfl (lv_at hl 2 rfl) ?_
          refine p_cs (n := 2) (k_cornerAt l hv (by omega)) hC gX0_pairsOutOfOrder_X0_cornerAt rfl (by decide +kernel) rfl ⟨by decide, by decide⟩ ⟨Nat.zero_le _, Nat.zero_le _⟩ hl.1 (Nat.le_of_ble_eq_true rfl) dX0_pairsOutOfOrder_24 rfl ?_
          refine lv_lload_n hC.1 hC.2.1 dX0_pairsOutOfOrder_27 rfl (lv_at hl 0 rfl) ?_
          refine lv_iload hC.1 hC.2.1 dX0_pairsOutOfOrder_28 (lv_at hl 3 rfl) ?_
          refine p_cs (n := 2) (k_cornerAt l hv (by omega)) hC gX0_pairsOutOfOrder_X0_cornerAt rfl (by decide +kernel) rfl ⟨by decide, by decide⟩ ⟨Nat.zero_le _, Nat.zero_le _⟩ hl.1 (Nat.le_of_ble_eq_true rfl) dX0_pairsOutOfOrder_30 rfl ?_
          refine z_icmp_le (tgt := 39) hC dX0_pairsOutOfOrder_33 (by decide) (by omega) (by omega) (fun h_33 => ?_) (fun h_33 => ?_)
          · refine lv_iinc (v := nI (i + 1 + k + 1)) (lv' := [(4, .int (nI (i + 1 + k + 1))), (0, .long (enc b)), (2, .int (nI (invs b i + pairsTo b i k))), (3, .int (nI i))]) hC.1 hC.2.1 dX0_pairsOutOfOrder_39 hl (k := 3) rfl (z_inc _) (by decide) rfl (fun ls hl => ?_)
            refine lv_goto (tgt := 15) hC.1 hC.2.1 dX0_pairsOutOfOrder_42 (by decide) ?_
            exact ih2 (k + 1) (by omega) ls (by have e9 : pairsTo b i (k + 1) = pairsTo b i k := ct_f (by simp; omega); rw [e9]; exact (lv_sub hl [1, 2, 3, 0] rfl))
          · refine lv_iinc (v := nI (invs b i + pairsTo b i k + 1)) (lv' := [(2, .int (nI (invs b i + pairsTo b i k + 1))), (0, .long (enc b)), (3, .int (nI i)), (4, .int (nI (i + 1 + k)))]) hC.1 hC.2.1 dX0_pairsOutOfOrder_36 hl (k := 1) rfl (z_inc _) (by decide) rfl (fun ls hl => ?_)
            refine lv_iinc (v := nI (i + 1 + k + 1)) (lv' := [(4, .int (nI (i + 1 + k + 1))), (2, .int (nI (invs b i + pairsTo b i k + 1))), (0, .long (enc b)), (3, .int (nI i))]) hC.1 hC.2.1 dX0_pairsOutOfOrder_39 hl (k := 3) rfl (z_inc _) (by decide) rfl (fun ls hl => ?_)
            refine lv_goto (tgt := 15) hC.1 hC.2.1 dX0_pairsOutOfOrder_42 (by decide) ?_
            exact ih2 (k + 1) (by omega) ls (by have e9 : pairsTo b i (k + 1) = pairsTo b i k + 1 := ct_t (by simp; omega); rw [e9]; exact (lv_sub hl [2, 1, 3, 0] rfl))
      refine lv_iload_n hC.1 hC.2.1 dX0_pairsOutOfOrder_4 rfl (lv_at hl 2 rfl) ?_
      refine lv_bipush (v := (nI 8)) hC.1 hC.2.1 dX0_pairsOutOfOrder_5 (by decide) ?_
      refine z_icmp_ge (tgt := 51) hC dX0_pairsOutOfOrder_7 (by decide) (by omega) (by omega) (fun h_7 => by omega) (fun h_7 => ?_)
      refine lv_iload_n hC.1 hC.2.1 dX0_pairsOutOfOrder_10 rfl (lv_at hl 2 rfl) ?_
      refine lv_iconst (v := (nI 1)) hC.1 hC.2.1 dX0_pairsOutOfOrder_11 (by decide) ?_
      refine z_iadd hC dX0_pairsOutOfOrder_12 ?_
      refine lv_istore (lv' := [(4, .int (nI (i + 1))), (0, .long (enc b)), (2, .int (nI (invs b i))), (3, .int (nI i))]) hC.1 hC.2.1 dX0_pairsOutOfOrder_13 hl (by decide) rfl (fun ls hl => ?_)
      exact inner (7 - i) 0 (by omega) ls (lv_sub hl [1, 2, 3, 0] rfl)
  refine lv_iconst (v := (nI 0)) hC.1 hC.2.1 dX0_pairsOutOfOrder_0 (by decide) ?_
  refine lv_istore_n (lv' := [(2, .int (nI 0)), (0, .long (enc b))]) hC.1 hC.2.1 dX0_pairsOutOfOrder_1 rfl hl (by decide) rfl (fun ls hl => ?_)
  refine lv_iconst (v := (nI 0)) hC.1 hC.2.1 dX0_pairsOutOfOrder_2 (by decide) ?_
  refine lv_istore_n (lv' := [(3, .int (nI 0)), (2, .int (nI 0)), (0, .long (enc b))]) hC.1 hC.2.1 dX0_pairsOutOfOrder_3 rfl hl (by decide) rfl (fun ls hl => ?_)
  exact outer 8 0 (by omega) ls (lv_sub hl [2, 1, 0] rfl)

set_option maxHeartbeats 4000000 in
set_option maxRecDepth 100000 in
theorem k_checkFace (l : Launch) {f : Nat} (hf : f < 3) : RV l yX0_checkFace wsX0_checkFace (1) zNo [.int (nI f)] none := by
  refine RV.of (cc := cX0_checkFace) (maxL := 1) (ret := none) (by decide) rfl (Nat.le_of_ble_eq_true rfl) ?_
  intro p e s m args below meth c hC hr hlk hB ls hl
  have hl : lv_has ls 1 [(0, .int (nI f))] := hl
  refine lv_iload_n hC.1 hC.2.1 dX0_checkFace_0 rfl (lv_at hl 0 rfl) ?_
  refine z_if_lt (tgt := 9) hC dX0_checkFace_1 (by decide) (by omega) ?_
  refine lv_iload_n hC.1 hC.2.1 dX0_checkFace_4 rfl (lv_at hl 0 rfl) ?_
  refine lv_iconst (v := (nI 3)) hC.1 hC.2.1 dX0_checkFace_5 (by decide) ?_
  refine z_icmp_lt (tgt := 19) hC dX0_checkFace_6 (by decide) (by omega) (by omega) (fun h_6 => ?_) (fun h_6 => by omega)
  exact RV.vret hC hr hlk dX0_checkFace_19

set_option maxHeartbeats 4000000 in
set_option maxRecDepth 100000 in
theorem k_checkWord (l : Launch) {f : Nat} (hf : f < 5) : RV l yX0_checkWord wsX0_checkWord (1) zNo [.int (nI f)] none := by
  refine RV.of (cc := cX0_checkWord) (maxL := 1) (ret := none) (by decide) rfl (Nat.le_of_ble_eq_true rfl) ?_
  intro p e s m args below meth c hC hr hlk hB ls hl
  have hl : lv_has ls 1 [(0, .int (nI f))] := hl
  refine lv_iload_n hC.1 hC.2.1 dX0_checkWord_0 rfl (lv_at hl 0 rfl) ?_
  refine z_if_lt (tgt := 9) hC dX0_checkWord_1 (by decide) (by omega) ?_
  refine lv_iload_n hC.1 hC.2.1 dX0_checkWord_4 rfl (lv_at hl 0 rfl) ?_
  refine lv_iconst (v := (nI 5)) hC.1 hC.2.1 dX0_checkWord_5 (by decide) ?_
  refine z_icmp_lt (tgt := 19) hC dX0_checkWord_6 (by decide) (by omega) (by omega) (fun h_6 => ?_) (fun h_6 => by omega)
  exact RV.vret hC hr hlk dX0_checkWord_19

set_option maxHeartbeats 4000000 in
set_option maxRecDepth 100000 in
theorem k_checkPlace (l : Launch) {f : Nat} (hf : f < 8) : RV l yX0_checkPlace wsX0_checkPlace (1) zNo [.int (nI f)] none := by
  refine RV.of (cc := cX0_checkPlace) (maxL := 1) (ret := none) (by decide) rfl (Nat.le_of_ble_eq_true rfl) ?_
  intro p e s m args below meth c hC hr hlk hB ls hl
  have hl : lv_has ls 1 [(0, .int (nI f))] := hl
  refine lv_iload_n hC.1 hC.2.1 dX0_checkPlace_0 rfl (lv_at hl 0 rfl) ?_
  refine z_if_lt (tgt := 10) hC dX0_checkPlace_1 (by decide) (by omega) ?_
  refine lv_iload_n hC.1 hC.2.1 dX0_checkPlace_4 rfl (lv_at hl 0 rfl) ?_
  refine lv_bipush (v := (nI 8)) hC.1 hC.2.1 dX0_checkPlace_5 (by decide) ?_
  refine z_icmp_lt (tgt := 20) hC dX0_checkPlace_7 (by decide) (by omega) (by omega) (fun h_7 => ?_) (fun h_7 => by omega)
  exact RV.vret hC hr hlk dX0_checkPlace_20

set_option maxHeartbeats 4000000 in
set_option maxRecDepth 100000 in
theorem k_checkQuarters (l : Launch) {q : Nat} (h1 : 1 ≤ q) (hq : q < 4) : RV l yX0_checkQuarters wsX0_checkQuarters (1) zNo [.int (nI q)] none := by
  refine RV.of (cc := cX0_checkQuarters) (maxL := 1) (ret := none) (by decide) rfl (Nat.le_of_ble_eq_true rfl) ?_
  intro p e s m args below meth c hC hr hlk hB ls hl
  have hl : lv_has ls 1 [(0, .int (nI q))] := hl
  refine lv_iload_n hC.1 hC.2.1 dX0_checkQuarters_0 rfl (lv_at hl 0 rfl) ?_
  refine lv_iconst (v := (nI 1)) hC.1 hC.2.1 dX0_checkQuarters_1 (by decide) ?_
  refine z_icmp_lt (tgt := 10) hC dX0_checkQuarters_2 (by decide) (by omega) (by omega) (fun h_2 => by omega) (fun h_2 => ?_)
  refine lv_iload_n hC.1 hC.2.1 dX0_checkQuarters_5 rfl (lv_at hl 0 rfl) ?_
  refine lv_iconst (v := (nI 4)) hC.1 hC.2.1 dX0_checkQuarters_6 (by decide) ?_
  refine z_icmp_lt (tgt := 20) hC dX0_checkQuarters_7 (by decide) (by omega) (by omega) (fun h_7 => ?_) (fun h_7 => by omega)
  exact RV.vret hC hr hlk dX0_checkQuarters_20

set_option maxHeartbeats 4000000 in
set_option maxRecDepth 100000 in
theorem k_checkWhat (l : Launch) {f g : Nat} (hf : f < g) (hg : g < 2 ^ 31) : RV l yX0_checkWhat wsX0_checkWhat (1) zNo [.int (nI f), .int (nI g)] none := by
  refine RV.of (cc := cX0_checkWhat) (maxL := 2) (ret := none) (by decide) rfl (Nat.le_of_ble_eq_true rfl) ?_
  intro p e s m args below meth c hC hr hlk hB ls hl
  have hl : lv_has ls 2 [(0, .int (nI f)), (1, .int (nI g))] := hl
  refine lv_iload_n hC.1 hC.2.1 dX0_checkWhat_0 rfl (lv_at hl 0 rfl) ?_
  refine z_if_lt (tgt := 9) hC dX0_checkWhat_1 (by decide) (by omega) ?_
  refine lv_iload_n hC.1 hC.2.1 dX0_checkWhat_4 rfl (lv_at hl 0 rfl) ?_
  refine lv_iload_n hC.1 hC.2.1 dX0_checkWhat_5 rfl (lv_at hl 1 rfl) ?_
  refine z_icmp_lt (tgt := 19) hC dX0_checkWhat_6 (by decide) (by omega) (by omega) (fun h_6 => ?_) (fun h_6 => by omega)
  exact RV.vret hC hr hlk dX0_checkWhat_19

set_option maxHeartbeats 4000000 in
set_option maxRecDepth 100000 in
theorem k_checkMost (l : Launch) {f : Nat} (hf : f ≤ 5) : RV l yX0_checkMost wsX0_checkMost (1) zNo [.int (nI f)] none := by
  refine RV.of (cc := cX0_checkMost) (maxL := 1) (ret := none) (by decide) rfl (Nat.le_of_ble_eq_true rfl) ?_
  intro p e s m args below meth c hC hr hlk hB ls hl
  have hl : lv_has ls 1 [(0, .int (nI f))] := hl
  refine lv_iload_n hC.1 hC.2.1 dX0_checkMost_0 rfl (lv_at hl 0 rfl) ?_
  refine z_if_lt (tgt := 9) hC dX0_checkMost_1 (by decide) (by omega) ?_
  refine lv_iload_n hC.1 hC.2.1 dX0_checkMost_4 rfl (lv_at hl 0 rfl) ?_
  refine lv_iconst (v := (nI 5)) hC.1 hC.2.1 dX0_checkMost_5 (by decide) ?_
  refine z_icmp_le (tgt := 19) hC dX0_checkMost_6 (by decide) (by omega) (by omega) (fun h_6 => ?_) (fun h_6 => by omega)
  exact RV.vret hC hr hlk dX0_checkMost_19
end
section
/-! MY ROWS 08: cells of the pool, read, written, made -/
theorem pl_get {L : List Nat} {f : Nat → va_E} {a : Nat} (h : a ∈ L) : ∃ k : Nat, (va_pl L f)[k]? = some (a, f a) := by
  obtain ⟨k, hk⟩ := va_pl_get (X := []) (f := f) h
  rw [List.nil_append] at hk
  exact ⟨k, hk⟩
theorem pl_set {A : Nat → Prop} {L : List Nat} {f : Nat → va_E} {a k : Nat} {e : va_E} (hD : va_D A (va_pl L f)) (h : a ∈ L) (hk : (va_pl L f)[k]? = some (a, f a)) : (va_pl L f).set k (a, e) = va_pl L (va_up f a e) := by
  have h1 := va_pl_set (X := []) (e := e) (by rw [List.nil_append]; exact hD) h (by rw [List.nil_append]; exact hk)
  rw [List.nil_append, List.nil_append] at h1
  exact h1
theorem pl_new {A : Nat → Prop} {L : List Nat} {f : Nat → va_E} {q : Nat} {e : va_E} (hD : va_D A (va_pl L f ++ [(q, e)])) : q ∉ L := va_pl_fresh2 (X := []) (by rw [List.nil_append]; exact hD)
section ZC
variable {p : Program} {l : Launch} {e : Env} {R : Room} {s : State} {m : MethodId} {args : Array Value} {below : List Frame} {meth : Method} {c : Code} {H : Heap} {locs : List Loc} {cells slots : Nat} {Q : State → Prop}
variable {Ts : List Cond} {own : String} {nL : Nat} {cc : ByteArray} {pc : Nat} {ls : Array Slot} {rest : List Value} {D : va_G} {T : ClassId × ClassId × ClassId} {z0 : Nat} {L : List Nat} {f : Nat → va_E}
theorem zA_hA (hE : zE D T z0 s) : ∀ q, s.heap.size ≤ q → zA z0 q := fun q h => Nat.le_trans hE.1 h
theorem p_get {Cn ref : String} {TT : u_T} {N ci index a : Nat} {fs : List Value} (hC : CallFix p m c cc nL s args Ts Cn) (hE : zE D T z0 s) (hP : va_P D vwCl (va_pl L f) H) (hm : a ∈ L) (he : f a = .inr (ci, fs)) (hc : vwCl[ci]? = some (Cn, TT, N)) (hin : ∀ w ∈ u_ws Cn TT N, w ∈ Ts) (k : Nat) (hk : k < N) (hlink : Cond.fieldLink Cn index ref (TT k).2.1 (TT k).2.2.1 ∈ Ts) (hsame : ref = (TT k).1) {v : Value} (hv : fs[k]? = some v) (hdg : decode cc pc = .ok (.getfield index, 3))
    (kk : W p l e R s m args below meth c H locs cells slots Q (F0 m (pc + 3) ls (v :: rest))) : W p l e R s m args below meth c H locs cells slots Q (F0 m pc ls (.ref a :: rest)) := by
  obtain ⟨j, hj⟩ := pl_get (f := f) hm
  rw [he] at hj
  exact va_get hC.1 hC.2.1 hC.2.2.2.2 hin hC.2.2.2.1 hE.2.2 hP j hj hc k hk (hC.2.2.2.2 _ hlink) (fun x h => by rw [hsame]; exact h) hv hdg kk
theorem p_put {Cn ref : String} {TT : u_T} {N ci index a : Nat} {fs : List Value} {ty0 : Nat → FieldType} (hC : CallFix p m c cc nL s args Ts Cn) (hE : zE D T z0 s) (hP : va_P D vwCl (va_pl L f) H) (hD : va_D (zA z0) (va_pl L f)) (hS : va_S (zA z0) s.heap H locs) (hm : a ∈ L) (he : f a = .inr (ci, fs)) (hc : vwCl[ci]? = some (Cn, TT, N)) (hin : ∀ w ∈ u_ws Cn TT N, w ∈ Ts)
    (hty : ∀ k, k < N → parseFieldDescriptor (TT k).2.2.1 = some (ty0 k)) (hnm : ∀ a, a < N → ∀ b, b < N → a ≠ b → (TT a).2.1 ≠ (TT b).2.1) (k : Nat) (hk : k < N) (hlink : Cond.fieldLink Cn index ref (TT k).2.1 (TT k).2.2.1 ∈ Ts) (hsame : ref = (TT k).1) (hfin : (TT k).2.2.2 = false) {v : Value} (hn : narrow (ty0 k) v = v) (hfit : fits (ty0 k) v = true) (hl : k < fs.length) (hdg : decode cc pc = .ok (.putfield index, 3))
    (kk : ∀ (H1 : Heap) (locs1 : List Loc), va_P D vwCl (va_pl L (va_up f a (.inr (ci, fs.set k v)))) H1 → va_D (zA z0) (va_pl L (va_up f a (.inr (ci, fs.set k v)))) → va_S (zA z0) s.heap H1 locs1 → W p l e R s m args below meth c H1 locs1 cells slots Q (F0 m (pc + 3) ls rest)) : W p l e R s m args below meth c H locs cells slots Q (F0 m pc ls (v :: .ref a :: rest)) := by
  obtain ⟨j, hj⟩ := pl_get (f := f) hm
  have e := fun e => pl_set (e := e) hD hm hj
  rw [he] at hj
  refine va_put (ty := ty0 k) hC.1 hC.2.1 hC.2.2.2.2 hin ty0 hty hnm hC.2.2.2.1 hE.2.2 hP hD hS j hj hc k hk (hC.2.2.2.2 _ hlink) (fun x h => by rw [hsame]; exact h) hfin (hty k hk) hn hfit hl hdg (fun H1 locs1 hP1 hD1 hS1 => ?_)
  rw [e] at hP1 hD1
  exact kk H1 locs1 hP1 hD1 hS1
theorem p_putF {Cn ref : String} {TT : u_T} {N ci index a : Nat} {fs : List Value} {ty0 : Nat → FieldType} (hC : CallFix p m c cc nL s args Ts Cn) (hE : zE D T z0 s) (hP : va_P D vwCl (va_pl L f) H) (hD : va_D (zA z0) (va_pl L f)) (hS : va_S (zA z0) s.heap H locs) (hm : a ∈ L) (he : f a = .inr (ci, fs)) (hc : vwCl[ci]? = some (Cn, TT, N)) (hin : ∀ w ∈ u_ws Cn TT N, w ∈ Ts)
    (hty : ∀ k, k < N → parseFieldDescriptor (TT k).2.2.1 = some (ty0 k)) (hnm : ∀ a, a < N → ∀ b, b < N → a ≠ b → (TT a).2.1 ≠ (TT b).2.1) (k : Nat) (hk : k < N) (hlink : Cond.fieldLink Cn index ref (TT k).2.1 (TT k).2.2.1 ∈ Ts) (hsame : ref = (TT k).1) (hfin : (TT k).2.2.2 = true) (hi : meth.name = "<init>") (hdecl : (TT k).1 = Cn) {v : Value} (hn : narrow (ty0 k) v = v) (hfit : fits (ty0 k) v = true) (hl : k < fs.length) (hdg : decode cc pc = .ok (.putfield index, 3))
    (kk : ∀ (H1 : Heap) (locs1 : List Loc), va_P D vwCl (va_pl L (va_up f a (.inr (ci, fs.set k v)))) H1 → va_D (zA z0) (va_pl L (va_up f a (.inr (ci, fs.set k v)))) → va_S (zA z0) s.heap H1 locs1 → W p l e R s m args below meth c H1 locs1 cells slots Q (F0 m (pc + 3) ls rest)) : W p l e R s m args below meth c H locs cells slots Q (F0 m pc ls (v :: .ref a :: rest)) := by
  obtain ⟨j, hj⟩ := pl_get (f := f) hm
  have e := fun e => pl_set (e := e) hD hm hj
  rw [he] at hj
  refine va_putF (ty := ty0 k) hC.1 hC.2.1 hC.2.2.2.2 hin ty0 hty hnm hC.2.2.2.1 hE.2.2 hP hD hS j hj hc k hk (hC.2.2.2.2 _ hlink) (fun x h => by rw [hsame]; exact h) hfin hi hdecl (hty k hk) hn hfit hl hdg (fun H1 locs1 hP1 hD1 hS1 => ?_)
  rw [e] at hP1 hD1
  exact kk H1 locs1 hP1 hD1 hS1
theorem p_iald {a n j : Nat} {g : Nat → Int32} (hC : CallFix p m c cc nL s args Ts own) (hE : zE D T z0 s) (hP : va_P D vwCl (va_pl L f) H) (hm : a ∈ L) (he : f a = eI T.1 n g) (hj : j < n) (hn : n < 2 ^ 31) (hdg : decode cc pc = .ok (.iaload, 1))
    (kk : W p l e R s m args below meth c H locs cells slots Q (F0 m (pc + 1) ls (.int (g j) :: rest))) : W p l e R s m args below meth c H locs cells slots Q (F0 m pc ls (.int (nI j) :: .ref a :: rest)) := by
  obtain ⟨k, hk⟩ := pl_get (f := f) hm
  rw [he] at hk
  refine va_iald hC.1 hC.2.1 hE.2.2 hP k 0 hk rfl (vp_in_nI hj hn) hdg ?_
  rw [nI_clamp (Nat.lt_trans hj hn)]
  exact kk
theorem p_iast {a n j : Nat} {g : Nat → Int32} {x : Int32} (hC : CallFix p m c cc nL s args Ts own) (hE : zE D T z0 s) (hP : va_P D vwCl (va_pl L f) H) (hD : va_D (zA z0) (va_pl L f)) (hS : va_S (zA z0) s.heap H locs) (hm : a ∈ L) (he : f a = eI T.1 n g) (hj : j < n) (hn : n < 2 ^ 31) (hdg : decode cc pc = .ok (.iastore, 1))
    (kk : ∀ (H1 : Heap) (locs1 : List Loc), va_P D vwCl (va_pl L (va_up f a (eI T.1 n (upd g j x)))) H1 → va_D (zA z0) (va_pl L (va_up f a (eI T.1 n (upd g j x)))) → va_S (zA z0) s.heap H1 locs1 → W p l e R s m args below meth c H1 locs1 cells slots Q (F0 m (pc + 1) ls rest)) : W p l e R s m args below meth c H locs cells slots Q (F0 m pc ls (.int x :: .int (nI j) :: .ref a :: rest)) := by
  obtain ⟨k, hk⟩ := pl_get (f := f) hm
  have e := fun e => pl_set (e := e) hD hm hk
  rw [he] at hk
  refine va_iast hC.1 hC.2.1 hE.2.2 hP hD hS k 0 hk rfl (vp_in_nI hj hn) hdg (fun H1 locs1 hP1 hD1 hS1 => ?_)
  rw [nI_clamp (Nat.lt_trans hj hn), e] at hP1 hD1
  exact kk H1 locs1 hP1 hD1 hS1
theorem p_lald {a n j : Nat} {g : Nat → Int64} (hC : CallFix p m c cc nL s args Ts own) (hE : zE D T z0 s) (hP : va_P D vwCl (va_pl L f) H) (hm : a ∈ L) (he : f a = eJ T.2.1 n g) (hj : j < n) (hn : n < 2 ^ 31) (hdg : decode cc pc = .ok (.laload, 1))
    (kk : W p l e R s m args below meth c H locs cells slots Q (F0 m (pc + 1) ls (.long (g j) :: rest))) : W p l e R s m args below meth c H locs cells slots Q (F0 m pc ls (.int (nI j) :: .ref a :: rest)) := by
  obtain ⟨k, hk⟩ := pl_get (f := f) hm
  rw [he] at hk
  refine va_lald hC.1 hC.2.1 hE.2.2 hP k 1 hk rfl (vp_in_nI hj hn) hdg ?_
  rw [nI_clamp (Nat.lt_trans hj hn)]
  exact kk
theorem p_last {a n j : Nat} {g : Nat → Int64} {x : Int64} (hC : CallFix p m c cc nL s args Ts own) (hE : zE D T z0 s) (hP : va_P D vwCl (va_pl L f) H) (hD : va_D (zA z0) (va_pl L f)) (hS : va_S (zA z0) s.heap H locs) (hm : a ∈ L) (he : f a = eJ T.2.1 n g) (hj : j < n) (hn : n < 2 ^ 31) (hdg : decode cc pc = .ok (.lastore, 1))
    (kk : ∀ (H1 : Heap) (locs1 : List Loc), va_P D vwCl (va_pl L (va_up f a (eJ T.2.1 n (vp_updL g j x)))) H1 → va_D (zA z0) (va_pl L (va_up f a (eJ T.2.1 n (vp_updL g j x)))) → va_S (zA z0) s.heap H1 locs1 → W p l e R s m args below meth c H1 locs1 cells slots Q (F0 m (pc + 1) ls rest)) : W p l e R s m args below meth c H locs cells slots Q (F0 m pc ls (.long x :: .int (nI j) :: .ref a :: rest)) := by
  obtain ⟨k, hk⟩ := pl_get (f := f) hm
  have e := fun e => pl_set (e := e) hD hm hk
  rw [he] at hk
  refine va_last hC.1 hC.2.1 hE.2.2 hP hD hS k 1 hk rfl (vp_in_nI hj hn) hdg (fun H1 locs1 hP1 hD1 hS1 => ?_)
  rw [nI_clamp (Nat.lt_trans hj hn), e] at hP1 hD1
  exact kk H1 locs1 hP1 hD1 hS1
theorem p_aald {a n j y : Nat} {g : Nat → Option Nat} (hC : CallFix p m c cc nL s args Ts own) (hE : zE D T z0 s) (hP : va_P D vwCl (va_pl L f) H) (hm : a ∈ L) (he : f a = eQ T.2.2 n g) (hj : j < n) (hn : n < 2 ^ 31) (hg : g j = some y) (hdg : decode cc pc = .ok (.aaload, 1))
    (kk : W p l e R s m args below meth c H locs cells slots Q (F0 m (pc + 1) ls (.ref y :: rest))) : W p l e R s m args below meth c H locs cells slots Q (F0 m pc ls (.int (nI j) :: .ref a :: rest)) := by
  obtain ⟨k, hk⟩ := pl_get (f := f) hm
  rw [he] at hk
  have hin := vp_in_nI hj hn
  have hcl := nI_clamp (Nat.lt_trans hj hn)
  exact W.aald (v := .ref y) (ty := .array .int) hC.1 hC.2.1 (hP k _ hk) ((hE.2.2.2 2 _ rfl).1 n (fun j => va_rf (g j))) rfl (fun q => by cases q) (by show ¬ (nI j < 0 ∨ (arrV _ _ _).slots.size ≤ _); rw [arrV_size]; exact hin) (by show (arrV _ _ _).slots[_]? = _; rw [hcl, arrV_read _ _ hj]; exact congrArg (fun x => some (va_rf x)) hg) rfl rfl hdg kk
theorem p_alen {a n : Nat} {g : Nat → Int32} (hC : CallFix p m c cc nL s args Ts own) (hE : zE D T z0 s) (hP : va_P D vwCl (va_pl L f) H) (hm : a ∈ L) (he : f a = eI T.1 n g) (hdg : decode cc pc = .ok (.arraylength, 1))
    (kk : W p l e R s m args below meth c H locs cells slots Q (F0 m (pc + 1) ls (.int (nI n) :: rest))) : W p l e R s m args below meth c H locs cells slots Q (F0 m pc ls (.ref a :: rest)) := by
  obtain ⟨k, hk⟩ := pl_get (f := f) hm
  rw [he] at hk
  exact va_alen hC.1 hC.2.1 hE.2.2 hP k 0 hk rfl rfl hdg kk
theorem p_newI {n : Nat} (hC : CallFix p m c cc nL s args Ts own) (hE : zE D T z0 s) (hP : va_P D vwCl (va_pl L f) H) (hD : va_D (zA z0) (va_pl L f)) (hS : va_S (zA z0) s.heap H locs) (harr : Cond.arrayClass .int ∈ Ts) (hn : n ≤ 1000) (hcells : cells + 1 ≤ R.cells) (hslots : slots + n ≤ R.slots) (hdg : decode cc pc = .ok (.newarray .int, 2))
    (kk : ∀ (q : Nat) (H1 : Heap), q ∉ L → va_P D vwCl (va_pl (L ++ [q]) (va_up f q (eI T.1 n (fun _ => 0)))) H1 → va_D (zA z0) (va_pl (L ++ [q]) (va_up f q (eI T.1 n (fun _ => 0)))) → va_S (zA z0) s.heap H1 locs → W p l e R s m args below meth c H1 locs (cells + 1) (slots + n) Q (F0 m (pc + 2) ls (.ref q :: rest))) : W p l e R s m args below meth c H locs cells slots Q (F0 m pc ls (.int (nI n) :: rest)) := by
  have h31 : n < 2 ^ 31 := Nat.lt_of_le_of_lt hn (by decide)
  refine va_newa (atype := .int) (ty := .int) (a0 := (n, .inl (fun _ => 0))) hC.1 hC.2.1 (hC.2.2.2.2 _ harr) rfl hE.2.2 hP hD hS (zA_hA hE) (fun _ => rfl) (nI_pos h31) (nI_clamp h31) (by show n * 4 ≤ 536870912; omega) hcells hslots hdg (fun q cA H1 hK1 hP1 hD1 hS1 => ?_)
  have h1 : s.vm.findClass "[I" = some T.1 := (hE.2.2.2 0 _ rfl).2
  have h2 : s.vm.findClass "[I" = some cA := (hK1.2 3 _ rfl).2
  have h3 : T.1 = cA := Option.some.inj (h1.symm.trans h2)
  subst h3
  have hq := pl_new hD1
  rw [va_pl_push hq] at hP1 hD1
  exact kk q H1 hq hP1 hD1 hS1
theorem p_newJ {n : Nat} (hC : CallFix p m c cc nL s args Ts own) (hE : zE D T z0 s) (hP : va_P D vwCl (va_pl L f) H) (hD : va_D (zA z0) (va_pl L f)) (hS : va_S (zA z0) s.heap H locs) (harr : Cond.arrayClass .long ∈ Ts) (hn : n ≤ 1000) (hcells : cells + 1 ≤ R.cells) (hslots : slots + n ≤ R.slots) (hdg : decode cc pc = .ok (.newarray .long, 2))
    (kk : ∀ (q : Nat) (H1 : Heap), q ∉ L → va_P D vwCl (va_pl (L ++ [q]) (va_up f q (eJ T.2.1 n (fun _ => 0)))) H1 → va_D (zA z0) (va_pl (L ++ [q]) (va_up f q (eJ T.2.1 n (fun _ => 0)))) → va_S (zA z0) s.heap H1 locs → W p l e R s m args below meth c H1 locs (cells + 1) (slots + n) Q (F0 m (pc + 2) ls (.ref q :: rest))) : W p l e R s m args below meth c H locs cells slots Q (F0 m pc ls (.int (nI n) :: rest)) := by
  have h31 : n < 2 ^ 31 := Nat.lt_of_le_of_lt hn (by decide)
  refine va_newa (atype := .long) (ty := .long) (a0 := (n, .inr (.inl (fun _ => 0)))) hC.1 hC.2.1 (hC.2.2.2.2 _ harr) rfl hE.2.2 hP hD hS (zA_hA hE) (fun _ => rfl) (nI_pos h31) (nI_clamp h31) (by show n * 8 ≤ 536870912; omega) hcells hslots hdg (fun q cA H1 hK1 hP1 hD1 hS1 => ?_)
  have h1 : s.vm.findClass "[J" = some T.2.1 := (hE.2.2.2 1 _ rfl).2
  have h2 : s.vm.findClass "[J" = some cA := (hK1.2 3 _ rfl).2
  have h3 : T.2.1 = cA := Option.some.inj (h1.symm.trans h2)
  subst h3
  have hq := pl_new hD1
  rw [va_pl_push hq] at hP1 hD1
  exact kk q H1 hq hP1 hD1 hS1
end ZC
end
