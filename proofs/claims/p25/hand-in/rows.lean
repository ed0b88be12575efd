section
-- ===== PART A: goes FIRST, ahead of the names: the tables' words, and 'selects' of the private methods out of them =====
/-- a private method of a class that the tables say can be made, by its rows of tables_1 -/
def lw_okq (q : MethodName × Nat) : Prop := (q.1.cls ≠ "java/lang/invoke/MethodHandle" ∧ q.1.cls ≠ "java/lang/invoke/VarHandle") ∧ Cond.instantiable q.1.cls q.2 ∈ tables_1 ∧ Cond.privateMethod q.1 ∈ tables_1 ∧ Cond.instanceMethod q.1 ∈ tables_1
theorem lw_p0 : lw_okq (⟨"java/lang/Throwable", "fillInStackTrace", "(I)Ljava/lang/Throwable;"⟩, 6) := ⟨⟨by decide +kernel, by decide +kernel⟩, List.mem_of_getElem? (i := 79) (by decide +kernel), List.mem_of_getElem? (i := 77) (by decide +kernel), List.mem_of_getElem? (i := 78) (by decide +kernel)⟩
theorem lw_p1 : lw_okq (⟨"CornerCube", "behindWord", "(JI)J"⟩, 4) := ⟨⟨by decide +kernel, by decide +kernel⟩, List.mem_of_getElem? (i := 9) (by decide +kernel), List.mem_of_getElem? (i := 194) (by decide +kernel), List.mem_of_getElem? (i := 195) (by decide +kernel)⟩
theorem lw_p2 : lw_okq (⟨"CornerCube", "turnsOfAllWords", "()I"⟩, 4) := ⟨⟨by decide +kernel, by decide +kernel⟩, List.mem_of_getElem? (i := 9) (by decide +kernel), List.mem_of_getElem? (i := 255) (by decide +kernel), List.mem_of_getElem? (i := 256) (by decide +kernel)⟩
theorem lw_p3 : lw_okq (⟨"CornerCube", "deedOf", "(I)J"⟩, 4) := ⟨⟨by decide +kernel, by decide +kernel⟩, List.mem_of_getElem? (i := 9) (by decide +kernel), List.mem_of_getElem? (i := 263) (by decide +kernel), List.mem_of_getElem? (i := 264) (by decide +kernel)⟩
theorem lw_p4 : lw_okq (⟨"CornerCube", "behindWordRound", "(JI)J"⟩, 4) := ⟨⟨by decide +kernel, by decide +kernel⟩, List.mem_of_getElem? (i := 9) (by decide +kernel), List.mem_of_getElem? (i := 275) (by decide +kernel), List.mem_of_getElem? (i := 276) (by decide +kernel)⟩
def lw_privs_1 : List (MethodName × Nat) := [(⟨"java/lang/Throwable", "fillInStackTrace", "(I)Ljava/lang/Throwable;"⟩, 6), (⟨"CornerCube", "behindWord", "(JI)J"⟩, 4), (⟨"CornerCube", "turnsOfAllWords", "()I"⟩, 4), (⟨"CornerCube", "deedOf", "(I)J"⟩, 4), (⟨"CornerCube", "behindWordRound", "(JI)J"⟩, 4)]
theorem lw_r1 : ∀ q ∈ lw_privs_1, lw_okq q := List.forall_mem_cons.mpr ⟨lw_p0, List.forall_mem_cons.mpr ⟨lw_p1, List.forall_mem_cons.mpr ⟨lw_p2, List.forall_mem_cons.mpr ⟨lw_p3, List.forall_mem_cons.mpr ⟨lw_p4, fun _ h => absurd h List.not_mem_nil⟩⟩⟩⟩⟩
def lw_privs : List (MethodName × Nat) := lw_privs_1
def lw_tbl : List Cond := k2_sels lw_privs ++ tables_1
theorem lw_privs_ok : ∀ q ∈ lw_privs, lw_okq q := lw_r1
-- ===== end of PART A; then your names; then what follows =====
/-- the tables say of an array of arrays of ty: its class (the kit's rows name this word; its text was wanting) -/
def va_AOA (ty : FieldType) (U : State) : Prop := (Cond.arrayOver (.array ty)).before #[] U = true
theorem va_AOA.use {ty : FieldType} {A : Array Value} {U : State} (h : va_AOA ty U) : (Cond.arrayOver (.array ty)).before A U = true := h
end
section
/-! ===== BEGIN words of one list among another's, by their places ===== -/
theorem goodIn_r {big : List Cond} (ws : List Cond) (ps : List Nat) (hp : ws = ps.filterMap (fun i => big[i]?)) (h : ws.all goodWord = true) : GoodIn big ws := by
  intro w hw
  have h1 := List.all_eq_true.mp h w hw
  rw [hp] at hw
  obtain ⟨i, -, hi⟩ := List.mem_filterMap.mp hw
  have hm : w ∈ big := by first | exact List.mem_of_getElem? hi | exact List.getElem?_mem hi
  exact ⟨hm, good_of_word h1⟩
theorem goodIn_app {big a b : List Cond} (ha : GoodIn big a) (hb : GoodIn big b) : GoodIn big (a ++ b) := fun w h => (List.mem_append.mp h).elim (ha w) (hb w)
theorem goodIn_ca {big a b : List Cond} {c : Cond} (ha : GoodIn big (c :: a)) (hb : GoodIn big b) : GoodIn big (c :: (a ++ b)) := fun w h => (List.mem_cons.mp h).elim (fun e => ha w (List.mem_cons.mpr (Or.inl e))) (fun h => (List.mem_append.mp h).elim (fun h => ha w (List.mem_cons.mpr (Or.inr h))) (hb w))
theorem goodIn_sub {big ws : List Cond} (hm : ∀ w ∈ ws, w ∈ big) (h : ws.all goodWord = true) : GoodIn big ws := fun w hw => ⟨hm w hw, good_of_word (List.all_eq_true.mp h w hw)⟩
/-! ===== END ===== -/

/-! ===== BEGIN new T[n][m]: the outer array a place, the inner ones among the pooled ===== -/
/-- f, but v at every address of l -/
def vr_up {α : Type} (f : Nat → α) (l : List Nat) (v : α) : Nat → α := fun a => if a ∈ l then v else f a
theorem vr_up_in {α : Type} {f : Nat → α} {l : List Nat} {v : α} {a : Nat} (h : a ∈ l) : vr_up f l v a = v := if_pos h
theorem vr_up_ne {α : Type} {f : Nat → α} {l : List Nat} {v : α} {a : Nat} (h : a ∉ l) : vr_up f l v a = f a := if_neg h
theorem vr_rows {L l : List Nat} {f : Nat → va_E} {e : va_E} (h : ∀ a, a ∈ l → a ∉ L) : va_pl L f ++ l.map (fun a => (a, e)) = va_pl (L ++ l) (vr_up f l e) := by
  unfold va_pl
  rw [List.map_append]
  congr 1
  · apply List.map_congr_left
    intro a ha
    rw [vr_up_ne (fun q => h a q ha)]
  · apply List.map_congr_left
    intro a ha
    rw [vr_up_in ha]
theorem vr_lay {X rows : va_W} {x : Nat × va_E} {pl : va_W} {D : va_G} {cl : List vw_C} {H : Heap} (hP : va_P D cl (((X ++ pl) ++ [x]) ++ rows) H) : va_P D cl ((X ++ [x]) ++ (pl ++ rows)) H := by
  rw [List.append_assoc (X ++ pl)] at hP
  have h := va_P.swap hP
  rw [← List.append_assoc X] at h
  have h2 := va_P.swap h
  rw [List.append_assoc (X ++ [x])] at h2
  exact h2
theorem vr_layD {X rows : va_W} {x : Nat × va_E} {pl : va_W} {A : Nat → Prop} (hD : va_D A (((X ++ pl) ++ [x]) ++ rows)) : va_D A ((X ++ [x]) ++ (pl ++ rows)) := by
  rw [List.append_assoc (X ++ pl)] at hD
  have h := va_D.swap hD
  rw [← List.append_assoc X] at h
  have h2 := va_D.swap h
  rw [List.append_assoc (X ++ [x])] at h2
  exact h2
theorem vr_outer (c : ClassId) (N h0 : Nat) : ∀ i : Nat, Jvm.Free.Multi.outerC c N h0 i = arrV c N (fun j => va_rf (if j < i then some (h0 + 1 + j) else none))
  | 0 => by
    show ({ cls := c, slots := Array.replicate N .null, vm := .none } : Cell) = _
    rw [arrV_new]
    refine congrArg (arrV c N) (funext fun j => ?_)
    simp [va_rf]
  | i + 1 => by
    show (Jvm.Free.Multi.outerC c N h0 i).setSlot i (.ref (h0 + 1 + i)) = _
    rw [vr_outer c N h0 i, arrV_store]
    refine congrArg (arrV c N) (funext fun j => ?_)
    by_cases e : j = i
    · subst e
      simp [updV, va_rf]
    · by_cases h : j < i
      · simp [updV, e, h, Nat.lt_succ_of_lt h]
      · simp [updV, e, h, show ¬ j < i + 1 by omega]
section VGM
variable {p : Program} {l : Launch} {e : Env} {R : Room} {s : State} {m : MethodId} {args : Array Value} {below : List Frame} {meth : Method} {c : Code} {H : Heap} {locs : List Loc} {cells slots : Nat} {Q : State → Prop}
variable {cc : ByteArray} {pc : Nat} {ls : Array Slot} {rest : List Value} {D : va_G} {cl : List vw_C} {A : Nat → Prop} {a : Nat} {tys : List (ClassId × FieldType)} {ws : va_W} {H0 : Heap}
theorem va_mna {X : va_W} {L : List Nat} {f : Nat → va_E} {cc : ByteArray} (hexec : p.tables.exec = Jvm.exec) (hb : c.code = cc) {own : String} {index : Nat} {ty : FieldType} {cy : ClassId} (hown : s.vm.findClass own = some m.cls) (hclink : (Cond.classLink own index ("[" ++ (FieldType.array ty).toString)).before args s = true) (hover : va_AOA ty s) (harr : (Cond.arrayClass ty).before args s = true) (hcy : s.vm.findClass (FieldType.array ty).toString = some cy)
    (hK : va_K D cl tys s) (hP : va_P D cl (X ++ va_pl L f) H) (hD : va_D A (X ++ va_pl L f)) (hS : va_S A H0 H locs) (hA : ∀ q, H0.size ≤ q → A q) {n k : Int32} {N' K' : Nat} {z : vp_A} (hn : ¬ n < 0) (hk : ¬ k < 0) (hN : n.toNatClampNeg = N') (hM : k.toNatClampNeg = K')
    (hb1 : N' * 4 ≤ 536870912) (hb2 : K' * componentBytes ty ≤ 536870912) (hb3 : K' ≤ 536870912) (hdf : fits ty (defaultValue ty) = true) (hdd : (defaultValue ty).isDefault = true) (hcells : cells + (1 + N') ≤ R.cells) (hslots : slots + (N' + N' * K') ≤ R.slots) (hz : ∀ c : ClassId, Jvm.Free.Multi.innerC c K' (defaultValue ty) = vp_cell c z) (hdg : decode cc pc = .ok (.multianewarray index 2, 4))
    (kk : ∀ (q : Nat) (r : Nat → Nat) (cA : ClassId) (H1 : Heap), (∀ i j : Nat, i < N' → j < N' → r i = r j → i = j) → (∀ i : Nat, i < N' → r i ∉ L) → va_K D cl (tys ++ [(cA, .array ty)]) s →
      va_P D cl ((X ++ [(q, .inl (cA, N', .inr (.inr (.inr (.inr (fun i => if i < N' then some (r i) else none))))))]) ++ va_pl (L ++ (List.range N').map r) (vr_up f ((List.range N').map r) (.inl (cy, z)))) H1 → va_D A ((X ++ [(q, .inl (cA, N', .inr (.inr (.inr (.inr (fun i => if i < N' then some (r i) else none))))))]) ++ va_pl (L ++ (List.range N').map r) (vr_up f ((List.range N').map r) (.inl (cy, z)))) → va_S A H0 H1 locs →
      W p l e R s m args below meth c H1 locs (cells + 1 + N') (slots + N' + N' * K') Q (F0 m (pc + 4) ls (.ref q :: rest))) : W p l e R s m args below meth c H locs cells slots Q (F0 m pc ls (.int k :: .int n :: rest)) := by
  subst hN
  subst hM
  intro T hT Xs
  obtain ⟨vm₁, cA, comp, -, fA, fC, hO, -, X', step⟩ := Xs.multianewarray2F hexec hown hclink (va_AOA.use hover) harr (g := F0 m pc ls (.int k :: .int n :: rest)) rfl (by rw [hb]; exact hdg) rfl hn hk hb1 hb2 hb3 hdf hdd hcells hslots
  have ec : some cy = some comp := hcy.symm.trans fC
  cases ec
  generalize hF : Jvm.Free.Multi.fill (T.setVm vm₁) cA cy n.toNatClampNeg k.toNatClampNeg (defaultValue ty) n.toNatClampNeg = F at X' step
  have hTh : (T.setVm vm₁).heap = H := hT
  obtain ⟨f1, f2, -, -⟩ := Jvm.Free.Multi.fill_facts (T.setVm vm₁) cA cy n.toNatClampNeg k.toNatClampNeg (defaultValue ty) n.toNatClampNeg
  rw [hF, hTh] at f1 f2
  have hold : ∀ x : Nat, x < H.size → F.heap[x]? = H[x]? := fun x hx => by
    have := Jvm.Free.Multi.fill_old (T.setVm vm₁) cA cy n.toNatClampNeg k.toNatClampNeg (defaultValue ty) (a := x) (by rw [hTh]; exact hx) n.toNatClampNeg
    rw [hF, hTh] at this
    exact this
  have hrow : ∀ j : Nat, j < n.toNatClampNeg → F.heap[H.size + 1 + j]? = some (vp_cell cy z) := fun j hj => by
    have := Jvm.Free.Multi.fill_inner (T.setVm vm₁) cA cy n.toNatClampNeg k.toNatClampNeg (defaultValue ty) n.toNatClampNeg j hj
    rw [hF, hTh, hz] at this
    exact this
  have hout : Jvm.Free.Multi.outerC cA n.toNatClampNeg H.size n.toNatClampNeg = vp_cell cA (n.toNatClampNeg, .inr (.inr (.inr (.inr (fun i => if i < n.toNatClampNeg then some (H.size + 1 + i) else none))))) := by
    rw [vp_cell_q]
    exact vr_outer cA n.toNatClampNeg H.size n.toNatClampNeg
  rw [hout] at f2
  have hlt : ∀ a, a ∈ L → a < H.size := fun a ha => by
    obtain ⟨k9, hk9⟩ := va_pl_get (X := X) (f := f) ha
    exact (hP k9 _ hk9).lt
  have hnl : ∀ i : Nat, i < n.toNatClampNeg → H.size + 1 + i ∉ L := fun i _ h => by
    have := hlt _ h
    omega
  have hnm : ∀ a, a ∈ (List.range n.toNatClampNeg).map (fun i => H.size + 1 + i) → a ∉ L := fun a ha h => by
    obtain ⟨i, -, rfl⟩ := List.mem_map.mp ha
    have := hlt _ h
    omega
  have hP0 : va_P D cl (X ++ va_pl L f) F.heap := hP.kept (fun k9 x hx => hold x.1 ((hP k9 x hx).lt))
  have hP1 : va_P D cl ((X ++ va_pl L f) ++ [(H.size, .inl (cA, n.toNatClampNeg, .inr (.inr (.inr (.inr (fun i => if i < n.toNatClampNeg then some (H.size + 1 + i) else none))))))]) F.heap := hP0.app (fun k9 x hx => by
    have h0 : k9 < 1 := (List.getElem?_eq_some_iff.mp hx).1
    rw [show k9 = 0 by omega] at hx
    cases hx
    exact f2)
  have hP2 : va_P D cl (((X ++ va_pl L f) ++ [(H.size, .inl (cA, n.toNatClampNeg, .inr (.inr (.inr (.inr (fun i => if i < n.toNatClampNeg then some (H.size + 1 + i) else none))))))]) ++ ((List.range n.toNatClampNeg).map (fun i => H.size + 1 + i)).map (fun a => (a, .inl (cy, z)))) F.heap := hP1.app (fun k9 x hx => by
    obtain ⟨a, ha, rfl⟩ := List.mem_map.mp (List.mem_of_getElem? hx)
    obtain ⟨i, hi, rfl⟩ := List.mem_map.mp ha
    exact hrow i (List.mem_range.mp hi))
  have hD2 : va_D A (((X ++ va_pl L f) ++ [(H.size, .inl (cA, n.toNatClampNeg, .inr (.inr (.inr (.inr (fun i => if i < n.toNatClampNeg then some (H.size + 1 + i) else none))))))]) ++ ((List.range n.toNatClampNeg).map (fun i => H.size + 1 + i)).map (fun a => (a, .inl (cy, z)))) := by
    have hD1 := hD.push (e := .inl (cA, n.toNatClampNeg, .inr (.inr (.inr (.inr (fun i => if i < n.toNatClampNeg then some (H.size + 1 + i) else none)))))) hP rfl (hA _ hS.1)
    generalize hW1 : (X ++ va_pl L f) ++ [(H.size, .inl (cA, n.toNatClampNeg, .inr (.inr (.inr (.inr (fun i => if i < n.toNatClampNeg then some (H.size + 1 + i) else none))))))] = W1 at hD1 hP1 ⊢
    have hle : ∀ (k9 : Nat) (x : Nat × va_E), W1[k9]? = some x → x.1 ≤ H.size := fun k9 x hx => by
      rw [← hW1] at hx
      by_cases hl : k9 < (X ++ va_pl L f).length
      · rw [List.getElem?_append_left hl] at hx
        exact Nat.le_of_lt ((hP k9 x hx).lt)
      · rw [List.getElem?_append_right (by omega)] at hx
        have h0 : k9 - (X ++ va_pl L f).length < 1 := (List.getElem?_eq_some_iff.mp hx).1
        rw [show k9 - (X ++ va_pl L f).length = 0 by omega] at hx
        cases hx
        exact Nat.le_refl _
    have hr : ∀ (k9 : Nat) (x : Nat × va_E), (((List.range n.toNatClampNeg).map (fun i => H.size + 1 + i)).map (fun a => ((a, .inl (cy, z)) : Nat × va_E)))[k9]? = some x → x.1 = H.size + 1 + k9 := fun k9 x hx => by
      rw [List.getElem?_map, List.getElem?_map] at hx
      by_cases h9 : k9 < n.toNatClampNeg
      · rw [List.getElem?_range h9] at hx
        cases hx
        rfl
      · have hn0 : (List.range n.toNatClampNeg)[k9]? = none := List.getElem?_eq_none (by rw [List.length_range]; omega)
        rw [hn0] at hx
        cases hx
    refine ⟨fun i j x y hi hj hxy => ?_, fun k9 x hx => ?_⟩
    · by_cases h1 : i < W1.length <;> by_cases h2 : j < W1.length
      · rw [List.getElem?_append_left h1] at hi
        rw [List.getElem?_append_left h2] at hj
        exact hD1.1 i j x y hi hj hxy
      · rw [List.getElem?_append_left h1] at hi
        rw [List.getElem?_append_right (by omega)] at hj
        have := hle _ _ hi
        have := hr _ _ hj
        omega
      · rw [List.getElem?_append_right (by omega)] at hi
        rw [List.getElem?_append_left h2] at hj
        have := hle _ _ hj
        have := hr _ _ hi
        omega
      · rw [List.getElem?_append_right (by omega)] at hi hj
        have := hr _ _ hi
        have := hr _ _ hj
        omega
    · by_cases h1 : k9 < W1.length
      · rw [List.getElem?_append_left h1] at hx
        exact hD1.2 k9 x hx
      · rw [List.getElem?_append_right (by omega)] at hx
        have := hr _ _ hx
        exact hA _ (by have := hS.1; omega)
  have hAr : ArrOfT s cA (.array ty) := fun N9 z9 => by
    obtain ⟨-, k9, hk9, cm9, hkk9⟩ := (hO 0 0 0).1
    exact ⟨(fun q hq => by cases hq), k9, hk9, cm9, hkk9⟩
  have hK2 : va_K D cl (tys ++ [(cA, .array ty)]) s := ⟨hK.1, fun k9 x hx => by
    by_cases hl : k9 < tys.length
    · rw [List.getElem?_append_left hl] at hx
      exact hK.2 k9 x hx
    · rw [List.getElem?_append_right (by omega)] at hx
      have h0 : k9 - tys.length < 1 := (List.getElem?_eq_some_iff.mp hx).1
      rw [show k9 - tys.length = 0 by omega] at hx
      cases hx
      exact ⟨hAr, fA⟩⟩
  obtain ⟨t, a1, b1⟩ := kk H.size (fun i => H.size + 1 + i) cA F.heap (fun i j _ _ h => by have h9 : H.size + 1 + i = H.size + 1 + j := h; omega) hnl hK2 (by rw [← vr_rows hnm]; exact vr_lay hP2) (by rw [← vr_rows hnm]; exact vr_layD hD2) ⟨by rw [f1]; have := hS.1; omega, fun x h1 h2 => (hold x (Nat.lt_of_lt_of_le h1 hS.1)).trans (hS.2.1 x h1 h2), hS.2.2⟩ F rfl X'
  refine ⟨t, step t ?_, b1⟩
  have e : T.heap.size = H.size := by rw [hT]
  rw [e]
  exact a1
end VGM
/-! ===== END ===== -/

/-! ===== BEGIN exceptions that leave a method, and their catching by the caller (launches without stack traces) ===== -/
section VXA
/-! The laws vx_back, vx_callV, vx_callS, vx_callSW, vx_throw0, vx_throwS follow proofs of the library, with one case more: JvmDerived/Free/Laws.lean (Back.of_free), Shelf42/LK1.lean (callV, callS), Shelf/KitTraced.lean (throwNew0V, throwNewS). -/
/-- where a method has thrown q: the class by its name, the cell, what was written, the world -/
def vx_T (XC : String → State → State → Prop) (st : State) (q : Addr) (t : State) (mc ms : Nat) (free : Addr → Prop) : Prop :=
  ∃ (E : String) (ce : Cell) (L : List Loc), XC E st t ∧ t.heap[q]? = some ce ∧ ce.vm = .none ∧ st.vm.findClass E = some ce.cls ∧ st.WarmedH t.vm ∧ st.sameButNew ({ t with vm := st.vm } : State) L mc ms ∧ ∀ z ∈ L, free z.base
def vx_Q (Qc : Array Value → State → Outcome → State → Prop) (XC : String → State → State → Prop) (mc ms : Nat) (free : Addr → Prop) : Array Value → State → Outcome → State → Prop := fun a st o t =>
  (Qc a st o t ∧ ∃ L, FrameEnd st o t L mc ms ∧ ∀ q ∈ L, free q.base) ∨ ∃ q, o = .threw q ∧ vx_T XC st q t mc ms free
/-- a callee that returns or throws -/
def vx_Met (l : Launch) (y : MethodName) (ws : List Cond) (rm : Room) (Pc : Array Value → State → Prop) (Qc : Array Value → State → Outcome → State → Prop) (XC : String → State → State → Prop) (mc ms : Nat) (free : Addr → Prop) : Prop :=
  MetFree l y (headSpec ws rm) Pc (fun _ _ _ _ _ => True) (vx_Q Qc XC mc ms free)
def vx_Post (XC : String → State → State → Prop) (mc ms : Nat) (free : Addr → Prop) : Pt → Array Value → Addr → Pt → Prop := fun A a q B =>
  ∃ (g : JFrame) (mk : MethodId) (t : State) (L : List Loc) (E : String) (ce : Cell), B.U.heap = t.heap ∧ B.U.vm = t.vm ∧ XC E (A.U.calling g mk a) t ∧ t.heap[q]? = some ce ∧ ce.vm = .none ∧ A.U.vm.findClass E = some ce.cls ∧ B.locs = A.locs ++ L ∧ (∀ z ∈ L, free z.base) ∧ B.cells = A.cells + mc ∧ B.slots = A.slots + ms
def vx_Back (l : Launch) (R : Room) (p : Program) (e : Env) (below : List Frame) (s : State) (sargs : Array Value) (y : MethodName) (len W9 : Nat)
    (Pre : Pt → Array Value → Prop) (Post : Pt → Array Value → Option Value → Pt → Prop) (PostX : Pt → Array Value → Addr → Pt → Prop) : Prop :=
  ∀ (m : MethodId) (meth : Method) (c : Code) (A : Pt) (g : JFrame) (ig : Instr) (mk : MethodId) (a : Array Value),
    Stand p l e R s m sargs below meth c A.U A.locs A.cells A.slots → g.method = m → g.locals.size = c.maxLocals → decode c.code g.pc = .ok (ig, len) →
    2 * g.monitorRoom + (g.stack.map fun v => v.category).sum ≤ W9 → A.U.methodNamed? y = some mk → Pre A a →
    (∃ (v : Option Value) (B : Pt), Stand p l e R s m sargs below meth c B.U B.locs B.cells B.slots ∧ Post A a v B ∧
      Steps p.tables e below (doInvoke e (A.U.setTop g) [] mk a).1 (B.U.setTop { g with pc := g.pc + len, stack := v.toList ++ g.stack })) ∨
    (∃ (q : Addr) (B : Pt), Stand p l e R s m sargs below meth c B.U B.locs B.cells B.slots ∧ PostX A a q B ∧
      Steps p.tables e below (doInvoke e (A.U.setTop g) [] mk a).1 ((B.U.setTop g).pushFrame (.throwing q)))
section Payer
variable {l : Launch} {R : Room} {p : Program} {e : Env} {below : List Frame} {s : State} {sargs : Array Value} {y : MethodName} {len W9 : Nat}
theorem vx_back {ws : List Cond} {rm : Room} {Pc : Array Value → State → Prop} {Qc : Array Value → State → Outcome → State → Prop} {XC : String → State → State → Prop} {mc ms : Nat} {free : Addr → Prop} {bytes : ByteArray} {maxL : Nat} {ret : Option FieldType}
    (hM : vx_Met l y ws rm Pc Qc XC mc ms free) (hblind : FrameBlind Pc) (hrc : rm.cells = mc) (hrs : rm.slots = ms)
    (hframes : rm.frames + 1 ≤ R.frames) (hlocals : W9 + (maxL + 11) + rm.locals ≤ R.locals)
    (hws : ∀ w ∈ ws, ∀ a' U, s.WarmedH U.vm → w.before a' U = true) (hcode : Cond.code y bytes maxL ret ∈ ws) (hinit : ∀ a' U, s.WarmedH U.vm → (Cond.initialized y.cls).before a' U = true) :
    vx_Back l R p e below s sargs y len W9 (PreOf R mc ms Pc) (PostOf Qc mc ms free) (vx_Post XC mc ms free) := by
  intro m meth c A g ig mk a X hg hsize hdg hW hn hp
  have h1 : (headSpec ws rm).pre.before a A.U = true := atoms_intro fun w hw => hws w hw _ _ X.warmed
  have h2 : (Cond.code y bytes maxL ret).before a A.U = true := hws _ hcode _ _ X.warmed
  have h3 : (Cond.initialized y.cls).before a A.U = true := hinit _ _ X.warmed
  have h4 : A.cells + (headSpec ws rm).room.cells ≤ R.cells := by rw [show (headSpec ws rm).room.cells = mc from hrc]; exact hp.1
  have h5 : A.slots + (headSpec ws rm).room.slots ≤ R.slots := by rw [show (headSpec ws rm).room.slots = ms from hrs]; exact hp.2.1
  have hPc : Pc a (A.U.calling g mk a) := hblind _ _ _ _ hp.2.2
  obtain ⟨U, Ls, c0, s0⟩ := A
  dsimp only [Pt.U, Pt.locs, Pt.cells, Pt.slots] at h1 h2 h3 h4 h5 X hn hPc ⊢
  obtain ⟨methY, cY, hmY, hcY, -, hlY, -, -, -, -⟩ := Cond.code_spec hn h2
  obtain ⟨kY, hkY, -⟩ := className_of_methodNamed hn
  have hinitY : kY.init = .initialized := Cond.initialized_spec (findClass_of_methodNamed hn) hkY h3
  have h : At U g.method c below := by rw [hg]; exact X.here
  have hlocals9 : W9 + (maxL + 11) + (headSpec ws rm).room.locals ≤ R.locals := hlocals
  have happ : (headSpec ws rm).appliesLoose y e.platform (U.calling g mk a) = true :=
    Spec.appliesLoose_calling (g := g) h hdg hn hkY hinitY
      (X.room_calling (g := g) (R' := (headSpec ws rm).room) hsize hmY hcY hframes (by rw [hlY]; omega) h4 h5) h1
  obtain ⟨mid, hmid⟩ := h.above
  have hfr : (U.setTop g).frames = (.java g :: mid) ++ below := by rw [State.frames_setTop' g h.top, hmid]; rfl
  obtain ⟨o, s₂, hsteps, -, hend, hq⟩ := Steps.callFree hM p X.admits X.cas X.clock (acts := []) hfr happ hPc trivial
  have hq' : vx_Q Qc XC mc ms free a (U.calling g mk a) o s₂ := hq
  rw [State.frames_setTop' g h.top] at hend
  obtain ⟨g₀, hg0⟩ := Option.isSome_iff_exists.mp h.top
  obtain ⟨r, hr⟩ := State.topJava?_eq_some.mp hg0
  have hr' : (({ U with heap := s₂.heap, slotsUsed := s₂.slotsUsed } : State).setVm s₂.vm).frames = .java g₀ :: r := hr
  rcases hq' with ⟨hqc, L, hfe, hL⟩ | ⟨q, rfl, E, ce, L, hx, hce, hcv, hcl, hW₂, hsm, hL⟩
  · obtain ⟨⟨v, rfl⟩, hW₂, e2, q2, q3, q4, q5, q6⟩ := id hfe
    have e3 : s₂ = ({ (U.calling g mk a).setFrames s₂.frames with heap := s₂.heap, slotsUsed := s₂.slotsUsed } : State).setVm s₂.vm := by
      have : s₂ = ({ s₂ with vm := (U.calling g mk a).vm } : State).setVm s₂.vm := rfl
      rw [e2] at this
      exact this
    obtain ⟨c₂, i₂, len₂, hc₂, hd₂, hf₂⟩ := hend
    have hW' : U.WarmedH s₂.vm := hW₂
    have hcc : c₂ = c := by
      have h1 : s₂.code? g.method = U.code? g.method := by
        rw [State.code?_eq, State.code?_eq, hW'.alike.method?]
      exact Option.some.inj (hc₂.symm.trans (h1.trans h.code))
    subst hcc
    have hlen : len₂ = len := by rw [hdg] at hd₂; cases hd₂; rfl
    subst hlen
    have hs₂ : s₂ = (({ U with heap := s₂.heap, slotsUsed := s₂.slotsUsed } : State).setVm s₂.vm).setTop { g with pc := g.pc + len₂, stack := v.toList ++ g.stack } := by
      refine e3.trans ?_
      rw [hf₂, State.calling_eq h.top, State.setFrames_setFrames, State.setTop_of_frames _ hr', hr]
      rfl
    have hsame : U.sameButNew ({ U with heap := s₂.heap, slotsUsed := s₂.slotsUsed } : State) L mc ms := by
      refine ⟨?_, q2, q3, q4, q5, q6⟩
      obtain ⟨t, ht, -⟩ := State.frames_cons hr
      show ({ U with heap := s₂.heap, slotsUsed := s₂.slotsUsed } : State) = { U.setFrames U.frames with heap := s₂.heap, slotsUsed := s₂.slotsUsed }
      rw [State.setFrames_self ht]
    subst hg
    refine Or.inl ⟨v, ⟨(({ U with heap := s₂.heap, slotsUsed := s₂.slotsUsed } : State).setVm s₂.vm), Ls ++ L, c0 + mc, s0 + ms⟩,
      ⟨X.admits, X.cas, X.clock, X.frames, X.room, X.hears, X.method, X.code, (X.here.setHeapUsed s₂.heap s₂.slotsUsed).setVm hW'.alike, X.tail, State.WarmedH.trans X.warmed hW', X.limits, X.bytes, X.same.trans (hsame.setVm s.vm)⟩,
      ⟨g, mk, s₂, L, rfl, rfl, hqc, rfl, hL, rfl, rfl⟩, ?_⟩
    show Steps p.tables e below _ ((({ U with heap := s₂.heap, slotsUsed := s₂.slotsUsed } : State).setVm s₂.vm).setTop { g with pc := g.pc + len₂, stack := v.toList ++ g.stack })
    rw [← hs₂]
    exact hsteps
  · obtain ⟨e2, q2, q3, q4, q5, q6⟩ := id hsm
    have e3 : s₂ = ({ (U.calling g mk a).setFrames s₂.frames with heap := s₂.heap, slotsUsed := s₂.slotsUsed } : State).setVm s₂.vm := by
      have : s₂ = ({ s₂ with vm := (U.calling g mk a).vm } : State).setVm s₂.vm := rfl
      rw [e2] at this
      exact this
    have hf₂ : s₂.frames = .throwing q :: .java g :: U.frames.tail := hend
    have hW' : U.WarmedH s₂.vm := hW₂
    have hs₂ : s₂ = ((({ U with heap := s₂.heap, slotsUsed := s₂.slotsUsed } : State).setVm s₂.vm).setTop g).pushFrame (.throwing q) := by
      refine e3.trans ?_
      rw [hf₂, State.calling_eq h.top, State.setFrames_setFrames, State.pushFrame, State.frames_setTop _ hr', State.setTop_of_frames _ hr', State.setFrames_setFrames, hr]
      rfl
    have hsame : U.sameButNew ({ U with heap := s₂.heap, slotsUsed := s₂.slotsUsed } : State) L mc ms := by
      refine ⟨?_, q2, q3, q4, q5, q6⟩
      obtain ⟨t, ht, -⟩ := State.frames_cons hr
      show ({ U with heap := s₂.heap, slotsUsed := s₂.slotsUsed } : State) = { U.setFrames U.frames with heap := s₂.heap, slotsUsed := s₂.slotsUsed }
      rw [State.setFrames_self ht]
    subst hg
    refine Or.inr ⟨q, ⟨(({ U with heap := s₂.heap, slotsUsed := s₂.slotsUsed } : State).setVm s₂.vm), Ls ++ L, c0 + mc, s0 + ms⟩,
      ⟨X.admits, X.cas, X.clock, X.frames, X.room, X.hears, X.method, X.code, (X.here.setHeapUsed s₂.heap s₂.slotsUsed).setVm hW'.alike, X.tail, State.WarmedH.trans X.warmed hW', X.limits, X.bytes, X.same.trans (hsame.setVm s.vm)⟩,
      ⟨g, mk, s₂, L, E, ce, rfl, rfl, hx, hce, hcv, hcl, rfl, hL, rfl, rfl⟩, ?_⟩
    show Steps p.tables e below _ (((({ U with heap := s₂.heap, slotsUsed := s₂.slotsUsed } : State).setVm s₂.vm).setTop g).pushFrame (.throwing q))
    rw [← hs₂]
    exact hsteps
end Payer
section Calls
variable {p : Program} {l : Launch} {e : Env} {R : Room} {s : State} {m : MethodId} {args : Array Value} {below : List Frame} {meth : Method} {c : Code} {T : State} {locs : List Loc} {cells slots : Nat}
theorem vx_callV (X : Stand p l e R s m args below meth c T locs cells slots) (hexec : p.tables.exec = Jvm.exec) {own C : String} {index : Nat} {y : MethodName} {bytes : ByteArray} {maxL : Nat} {ret : Option FieldType}
    (hown : s.vm.findClass own = some m.cls) (hlink : (Cond.methodLink own index y).before args s = true) (hinst : (Cond.instanceMethod y).before args s = true) (hsel : (Cond.selects C y y).before args s = true)
    (hcode : (Cond.code y bytes maxL ret).before args s = true) (hy : y.cls ≠ "java/lang/invoke/MethodHandle" ∧ y.cls ≠ "java/lang/invoke/VarHandle")
    {W9 : Nat} {Pre : Pt → Array Value → Prop} {Post : Pt → Array Value → Option Value → Pt → Prop} {PostX : Pt → Array Value → Addr → Pt → Prop} (hK : vx_Back l R p e below s args y 3 W9 Pre Post PostX)
    {b : Addr} {cellB : Cell} (hcell : T.heap[b]? = some cellB) (hobj : cellB.vm.isStatics = false) (hcls : s.vm.findClass C = some cellB.cls)
    {g : JFrame} (hg : g.method = m) (hsize : g.locals.size = c.maxLocals) {argsL rest : List Value} (hlen : ∀ sig, parseMethodDescriptor y.desc = some sig → argsL.length = sig.parameters.length)
    (hstack : g.stack = argsL.reverse ++ .ref b :: rest) (hW : 2 * g.monitorRoom + (rest.map fun v => v.category).sum ≤ W9) (hdg : decode c.code g.pc = .ok (.invokevirtual index, 3))
    (hpre : ∀ vm₁, s.WarmedH vm₁ → Pre ⟨T.setVm vm₁, locs, cells, slots⟩ (Value.ref b :: argsL).toArray) :
    (∃ (v : Option Value) (vm₁ : Vm) (B : Pt), s.WarmedH vm₁ ∧ Stand p l e R s m args below meth c B.U B.locs B.cells B.slots ∧ Post ⟨T.setVm vm₁, locs, cells, slots⟩ (Value.ref b :: argsL).toArray v B ∧
      ∀ target, Steps p.tables e below (B.U.setTop { g with pc := g.pc + 3, stack := v.toList ++ rest }) target → Steps p.tables e below (T.setTop g) target) ∨
    (∃ (q : Addr) (vm₁ : Vm) (B : Pt), s.WarmedH vm₁ ∧ Stand p l e R s m args below meth c B.U B.locs B.cells B.slots ∧ PostX ⟨T.setVm vm₁, locs, cells, slots⟩ (Value.ref b :: argsL).toArray q B ∧
      Steps p.tables e below (T.setTop g) ((B.U.setTop { g with stack := rest }).pushFrame (.throwing q))) := by
  obtain ⟨mk, methM, hnamed, hmethM, hstM, habM⟩ := Cond.instanceMethod_spec hinst
  obtain ⟨methM', cM, hmethM', -, -, -, -, -, -, hsigM⟩ := Cond.code_spec hnamed hcode
  cases hmethM.symm.trans hmethM'
  obtain ⟨c2, r2, m2, q1, q2, q3, q4, kP, hkP, hkPi⟩ := Cond.selects_spec hsel
  cases hcls.symm.trans q1
  cases (State.methodFound?_of_named hnamed hy).symm.trans q2
  cases hnamed.symm.trans q3
  have hselP : selectMethod e.platform s.vm cellB.cls mk = .method mk := by rw [Launch.admits_selectMethod X.admits]; exact q4
  obtain ⟨vm₁, X₁, hstep₁⟩ := X.invokevirtual hexec hown hlink hnamed hmethM hstM hkP hkPi hy (a := b) (cell := cellB) hcell
    (fun z h => by rw [h] at hobj; cases hobj) hselP hmethM habM hkP hkPi (g := g) hg (argsL := argsL) (rest := rest) (hlen _ hsigM) hstack hdg
  rcases hK m meth c ⟨T.setVm vm₁, locs, cells, slots⟩ { g with stack := rest } (.invokevirtual index) mk (Value.ref b :: argsL).toArray X₁ hg hsize hdg hW (X₁.named hnamed) (hpre vm₁ X₁.warmed) with ⟨v, B, X', hpost, hsteps⟩ | ⟨q, B, X', hpost, hsteps⟩
  · exact Or.inl ⟨v, vm₁, B, X₁.warmed, X', hpost, fun target h => hstep₁ _ fun acts => by rw [doInvoke_state]; exact hsteps.trans h⟩
  · exact Or.inr ⟨q, vm₁, B, X₁.warmed, X', hpost, hstep₁ _ fun acts => by rw [doInvoke_state]; exact hsteps⟩
theorem vx_callS (X : Stand p l e R s m args below meth c T locs cells slots) (hexec : p.tables.exec = Jvm.exec) {own : String} {index : Nat} {y : MethodName} {bytes : ByteArray} {maxL : Nat} {ret : Option FieldType}
    (hown : s.vm.findClass own = some m.cls) (hlink : (Cond.methodLink own index y).before args s = true) (hstat : (Cond.static y).before args s = true) (hinit : (Cond.initialized y.cls).before args s = true)
    (hcode : (Cond.code y bytes maxL ret).before args s = true) (hy : y.cls ≠ "java/lang/invoke/MethodHandle" ∧ y.cls ≠ "java/lang/invoke/VarHandle")
    {W9 : Nat} {Pre : Pt → Array Value → Prop} {Post : Pt → Array Value → Option Value → Pt → Prop} {PostX : Pt → Array Value → Addr → Pt → Prop} (hK : vx_Back l R p e below s args y 3 W9 Pre Post PostX)
    {g : JFrame} (hg : g.method = m) (hsize : g.locals.size = c.maxLocals) {argsL rest : List Value} (hlen : ∀ sig, parseMethodDescriptor y.desc = some sig → argsL.length = sig.parameters.length)
    (hstack : g.stack = argsL.reverse ++ rest) (hW : 2 * g.monitorRoom + (rest.map fun v => v.category).sum ≤ W9) (hdg : decode c.code g.pc = .ok (.invokestatic index, 3))
    (hpre : ∀ vm₁, s.WarmedH vm₁ → Pre ⟨T.setVm vm₁, locs, cells, slots⟩ argsL.toArray) :
    (∃ (v : Option Value) (vm₁ : Vm) (B : Pt), s.WarmedH vm₁ ∧ Stand p l e R s m args below meth c B.U B.locs B.cells B.slots ∧ Post ⟨T.setVm vm₁, locs, cells, slots⟩ argsL.toArray v B ∧
      ∀ target, Steps p.tables e below (B.U.setTop { g with pc := g.pc + 3, stack := v.toList ++ rest }) target → Steps p.tables e below (T.setTop g) target) ∨
    (∃ (q : Addr) (vm₁ : Vm) (B : Pt), s.WarmedH vm₁ ∧ Stand p l e R s m args below meth c B.U B.locs B.cells B.slots ∧ PostX ⟨T.setVm vm₁, locs, cells, slots⟩ argsL.toArray q B ∧
      Steps p.tables e below (T.setTop g) ((B.U.setTop { g with stack := rest }).pushFrame (.throwing q))) := by
  obtain ⟨mk, hnamed⟩ := Cond.code_named hcode
  obtain ⟨methM, cM, hmethM, -, -, -, -, -, -, hsigM⟩ := Cond.code_spec hnamed hcode
  have hstatic : methM.isStatic = true := Cond.static_spec hnamed hmethM hstat
  obtain ⟨kP, hkP, -⟩ := className_of_methodNamed hnamed
  have hinitP : kP.init = .initialized := Cond.initialized_spec (findClass_of_methodNamed hnamed) hkP hinit
  obtain ⟨vm₁, X₁, hstep₁⟩ := X.invokestatic hexec hown hlink hnamed hmethM hstatic hkP hinitP hy (g := g) hg (argsL := argsL) (rest := rest) (hlen _ hsigM) hstack hdg
  rcases hK m meth c ⟨T.setVm vm₁, locs, cells, slots⟩ { g with stack := rest } (.invokestatic index) mk argsL.toArray X₁ hg hsize hdg hW (X₁.named hnamed) (hpre vm₁ X₁.warmed) with ⟨v, B, X', hpost, hsteps⟩ | ⟨q, B, X', hpost, hsteps⟩
  · exact Or.inl ⟨v, vm₁, B, X₁.warmed, X', hpost, fun target h => hstep₁ _ fun acts => by rw [doInvoke_state]; exact hsteps.trans h⟩
  · exact Or.inr ⟨q, vm₁, B, X₁.warmed, X', hpost, hstep₁ _ fun acts => by rw [doInvoke_state]; exact hsteps⟩
end Calls
theorem vx_cls {s : State} {T : State} {vm₁ : Vm} {E : String} {k : ClassId} (hW : s.WarmedH vm₁) (h : (T.setVm vm₁).vm.findClass E = some k) : s.vm.findClass E = some k := by
  have h1 : vm₁.findClass E = some k := h
  rw [hW.alike.findClass] at h1
  exact h1
/-- the method's frame g, with q thrown over it -/
def vx_W (p : Program) (l : Launch) (e : Env) (R : Room) (s : State) (m : MethodId) (args : Array Value) (below : List Frame) (meth : Method) (c : Code) (H : Heap) (locs : List Loc) (cells slots : Nat) (Q : State → Prop) (g : JFrame) (q : Addr) : Prop :=
  ∀ T : State, T.heap = H → Stand p l e R s m args below meth c T locs cells slots → ∃ t, Steps p.tables e below ((T.setTop g).pushFrame (.throwing q)) t ∧ Q t
def vx_Run (p : Program) (l : Launch) (e : Env) (R : Room) (s : State) (m : MethodId) (args : Array Value) (below : List Frame) (meth : Method) (c : Code) (H : Heap) (locs : List Loc) (cells slots mc ms : Nat) (g : JFrame) (rest : List Value) (Qa : State → Outcome → State → Prop) (XC : String → State → State → Prop) (free : Addr → Prop) : Prop :=
  ∀ T : State, T.heap = H → Stand p l e R s m args below meth c T locs cells slots →
    (∃ (v : Option Value) (st₀ t T' : State) (L : List Loc), st₀.heap = H ∧ Stand p l e R s m args below meth c T' (locs ++ L) (cells + mc) (slots + ms) ∧ (∀ q ∈ L, free q.base) ∧ T'.heap = t.heap ∧ T'.vm = t.vm ∧ Qa st₀ (.returned v) t ∧
      Goes p e below T g T' { g with pc := g.pc + 3, stack := v.toList ++ rest }) ∨
    (∃ (q : Addr) (st₀ t T' : State) (L : List Loc) (E : String) (ce : Cell), st₀.heap = H ∧ Stand p l e R s m args below meth c T' (locs ++ L) (cells + mc) (slots + ms) ∧ (∀ z ∈ L, free z.base) ∧ T'.heap = t.heap ∧ T'.vm = t.vm ∧ XC E st₀ t ∧ t.heap[q]? = some ce ∧ ce.vm = .none ∧ s.vm.findClass E = some ce.cls ∧
      Steps p.tables e below (T.setTop g) ((T'.setTop { g with stack := rest }).pushFrame (.throwing q)))
def vx_X {S : Type} (px : S → Prop) (B : String → S → State → Prop) (A : Nat → Prop) : String → State → State → Prop := fun E st t => ∃ u : S, px u ∧ B E u t ∧ va_F A st t
section Runs
variable {p : Program} {l : Launch} {e : Env} {R : Room} {s : State} {m : MethodId} {args : Array Value} {below : List Frame} {meth : Method} {c : Code} {H : Heap} {locs : List Loc} {cells slots : Nat}
variable {y : MethodName} {bytes cc : ByteArray} {maxL nL mc ms n index : Nat} {ret : Option FieldType} {ws : List Cond} {rm : Room} {Pc : Array Value → State → Prop} {Qc : Array Value → State → Outcome → State → Prop} {XC : String → State → State → Prop} {free : Addr → Prop} {Ts : List Cond} {own C : String} {b : Addr} {As rest : List Value} {g : JFrame}
theorem vx_callBack (cb : CallB R s args own index y bytes maxL ret ws rm mc ms n) (hM : vx_Met l y ws rm Pc Qc XC mc ms free) (hbl : FrameBlind Pc) : vx_Back l R p e below s args y 3 8 (PreOf R mc ms Pc) (PostOf Qc mc ms free) (vx_Post XC mc ms free) := by
  obtain ⟨hrc, hrs, hfr, hlo, hws, hcw, -, hini, -⟩ := cb
  exact vx_back (bytes := bytes) (maxL := maxL) (ret := ret) hM hbl hrc hrs hfr hlo hws hcw (fun a' U hW => word_at hW (Or.inl (by first | rfl | simp [Cond.onTables, Cond.keeps, Cond.steady])) hini)
theorem vx_runV (S : CallFix p m c cc nL s args Ts own) (hM : vx_Met l y ws rm Pc Qc XC mc ms free) (cw : CallW R s args own C index y bytes maxL ret ws rm mc ms n) (hp : PreV s H C b Pc As)
    (hg : g.method = m) (hn : As.length = n) (hsize : g.locals.size = nL) (hstack : g.stack = As.reverse ++ .ref b :: rest) (hW : 2 * g.monitorRoom + (rest.map fun v => v.category).sum ≤ 8) (hdg : decode cc g.pc = .ok (.invokevirtual index, 3)) (hf : cells + mc ≤ R.cells ∧ slots + ms ≤ R.slots) :
    vx_Run p l e R s m args below meth c H locs cells slots mc ms g rest (Qc (Value.ref b :: As).toArray) XC free := by
  have hK : vx_Back l R p e below s args y 3 8 (PreOf R mc ms Pc) (PostOf Qc mc ms free) (vx_Post XC mc ms free) := vx_callBack cw.1 hM hp.1
  obtain ⟨⟨-, -, -, -, -, -, hcode, -, hy, hlen, hl⟩, hin, hse⟩ := cw
  obtain ⟨hx, hb, hml, ho, -⟩ := S
  obtain ⟨-, ⟨cellB, hcB, hoB, hclB⟩, hPc⟩ := hp
  intro T hT X
  rcases vx_callV X hx (C := C) (bytes := bytes) (maxL := maxL) (ret := ret) ho hl hin hse hcode hy hK (by rw [hT]; exact hcB) hoB hclB hg (hsize.trans hml.symm) (argsL := As) (rest := rest) (fun sig h => hn.trans (hlen sig h)) hstack hW (by rw [hb]; exact hdg)
    (fun vm₁ hW₁ => ⟨hf.1, hf.2, hPc (T.setVm vm₁) hT hW₁⟩) with ⟨v, vm₁, ⟨U', l2, c2, s2⟩, hW₁, X', ⟨g', mk, t, L, e1, e2, hq, h1, hL, h2, h3⟩, st⟩ | ⟨q, vm₁, ⟨U', l2, c2, s2⟩, hW₁, X', ⟨g', mk, t, L, E, ce, e1, e2, hq, hce, hcv, hcl, h1, hL, h2, h3⟩, st⟩
  · dsimp only [Pt.U, Pt.locs, Pt.cells, Pt.slots] at X' e1 e2 h1 h2 h3 st
    subst h1; subst h2; subst h3
    exact Or.inl ⟨v, (T.setVm vm₁).calling g' mk (Value.ref b :: As).toArray, t, U', L, hT, X', hL, e1, e2, hq, st⟩
  · dsimp only [Pt.U, Pt.locs, Pt.cells, Pt.slots] at X' e1 e2 h1 h2 h3 st hcl
    subst h1; subst h2; subst h3
    exact Or.inr ⟨q, (T.setVm vm₁).calling g' mk (Value.ref b :: As).toArray, t, U', L, E, ce, hT, X', hL, e1, e2, hq, hce, hcv, vx_cls hW₁ hcl, st⟩
theorem vx_runS (S : CallFix p m c cc nL s args Ts own) (hM : vx_Met l y ws rm Pc Qc XC mc ms free) (cw : CallB R s args own index y bytes maxL ret ws rm mc ms n ∧ (Cond.static y).before args s = true) (hp : PreS s H Pc As)
    (hg : g.method = m) (hn : As.length = n) (hsize : g.locals.size = nL) (hstack : g.stack = As.reverse ++ rest) (hW : 2 * g.monitorRoom + (rest.map fun v => v.category).sum ≤ 8) (hdg : decode cc g.pc = .ok (.invokestatic index, 3)) (hf : cells + mc ≤ R.cells ∧ slots + ms ≤ R.slots) :
    vx_Run p l e R s m args below meth c H locs cells slots mc ms g rest (Qc As.toArray) XC free := by
  have hK : vx_Back l R p e below s args y 3 8 (PreOf R mc ms Pc) (PostOf Qc mc ms free) (vx_Post XC mc ms free) := vx_callBack cw.1 hM hp.1
  obtain ⟨⟨-, -, -, -, -, -, hcode, hini, hy, hlen, hl⟩, hstt⟩ := cw
  obtain ⟨hx, hb, hml, ho, -⟩ := S
  intro T hT X
  rcases vx_callS X hx (bytes := bytes) (maxL := maxL) (ret := ret) ho hl hstt hini hcode hy hK hg (hsize.trans hml.symm) (argsL := As) (rest := rest) (fun sig h => hn.trans (hlen sig h)) hstack hW (by rw [hb]; exact hdg)
    (fun vm₁ hW₁ => ⟨hf.1, hf.2, hp.2 (T.setVm vm₁) hT hW₁⟩) with ⟨v, vm₁, ⟨U', l2, c2, s2⟩, hW₁, X', ⟨g', mk, t, L, e1, e2, hq, h1, hL, h2, h3⟩, st⟩ | ⟨q, vm₁, ⟨U', l2, c2, s2⟩, hW₁, X', ⟨g', mk, t, L, E, ce, e1, e2, hq, hce, hcv, hcl, h1, hL, h2, h3⟩, st⟩
  · dsimp only [Pt.U, Pt.locs, Pt.cells, Pt.slots] at X' e1 e2 h1 h2 h3 st
    subst h1; subst h2; subst h3
    exact Or.inl ⟨v, (T.setVm vm₁).calling g' mk As.toArray, t, U', L, hT, X', hL, e1, e2, hq, st⟩
  · dsimp only [Pt.U, Pt.locs, Pt.cells, Pt.slots] at X' e1 e2 h1 h2 h3 st hcl
    subst h1; subst h2; subst h3
    exact Or.inr ⟨q, (T.setVm vm₁).calling g' mk As.toArray, t, U', L, E, ce, hT, X', hL, e1, e2, hq, hce, hcv, vx_cls hW₁ hcl, st⟩
end Runs
section Rows
variable {p : Program} {l : Launch} {e : Env} {R : Room} {s : State} {m : MethodId} {args : Array Value} {below : List Frame} {meth : Method} {c : Code} {H : Heap} {locs : List Loc} {cells slots : Nat} {Q : State → Prop}
variable {mc ms : Nat} {free : Addr → Prop} {A0 A1 : Nat → Prop} {H0 : Heap} {a : Array Value} {pc : Nat} {ls : Array Slot} {st0 rest : List Value}
theorem vx_keep {st₀ t T' : State} {L : List Loc} (h0 : st₀.heap = H) (e1 : T'.heap = t.heap) (hS : va_S A0 H0 H locs) (hA : ∀ q, q < H.size → A1 q → A0 q) (hf : ∀ q, free q → A0 q) (hL : ∀ q ∈ L, free q.base) (hF : va_F A1 st₀ t) :
    H.size ≤ T'.heap.size ∧ (∀ q : Nat, q < H.size → ¬ A1 q → T'.heap[q]? = H[q]?) ∧ va_S A0 H0 T'.heap (locs ++ L) := by
  obtain ⟨hz, hk⟩ := hF
  rw [h0] at hz hk
  exact ⟨by rw [e1]; exact hz, fun q h1 h2 => by rw [e1]; exact hk q h1 h2,
    ⟨Nat.le_trans hS.1 (by rw [e1]; exact hz), fun q h1 h2 => by rw [e1, hk q (Nat.lt_of_lt_of_le h1 hS.1) (fun z => h2 (hA q (Nat.lt_of_lt_of_le h1 hS.1) z))]; exact hS.2.1 q h1 h2, fun q hq => by
      rcases List.mem_append.mp hq with h | h
      · exact hS.2.2 q h
      · exact hf _ (hL q h)⟩⟩
theorem vx_calli {S SX : Type} {post : Int32 → S → Prop} {px : SX → Prop} {B : S → State → Prop} {BX : String → SX → State → Prop} {AX : Nat → Prop} (hr : vx_Run p l e R s m args below meth c H locs cells slots mc ms (F0 m pc ls st0) rest (va_Qi post B A1 a) (vx_X px BX AX) free) (hS : va_S A0 H0 H locs) (hA : ∀ q, q < H.size → A1 q → A0 q) (hf : ∀ q, free q → A0 q) (hAX : ∀ q, q < H.size → AX q → A0 q)
    (kx : ∀ (E : String) (ce : Cell) (q9 : Addr) (u : SX) (t : State) (H1 : Heap) (locs1 : List Loc), t.heap = H1 → s.vm.Alike t.vm → px u → BX E u t → H.size ≤ H1.size → (∀ q : Nat, q < H.size → ¬ AX q → H1[q]? = H[q]?) → va_S A0 H0 H1 locs1 → H1[q9]? = some ce → ce.vm = .none → s.vm.findClass E = some ce.cls → vx_W p l e R s m args below meth c H1 locs1 (cells + mc) (slots + ms) Q (F0 m pc ls rest) q9)
    (kk : ∀ (r : Int32) (u : S) (t : State) (H1 : Heap) (locs1 : List Loc), t.heap = H1 → s.vm.Alike t.vm → post r u → B u t → H.size ≤ H1.size → (∀ q : Nat, q < H.size → ¬ A1 q → H1[q]? = H[q]?) → va_S A0 H0 H1 locs1 → W p l e R s m args below meth c H1 locs1 (cells + mc) (slots + ms) Q (F0 m (pc + 3) ls (.int r :: rest))) : W p l e R s m args below meth c H locs cells slots Q (F0 m pc ls st0) := by
  intro T hT X
  rcases hr T hT X with ⟨v, st₀, t, T', L, h0, X', hL, e1, e2, ⟨⟨r, u, hv, hp, hb⟩, hF⟩, st⟩ | ⟨q, st₀, t, T', L, E, ce, h0, X', hL, e1, e2, ⟨u, hp, hb, hF⟩, hce, hcv, hcl, st⟩
  · cases hv
    obtain ⟨k1, k2, k3⟩ := vx_keep h0 e1 hS hA hf hL hF
    obtain ⟨t2, a1, b1⟩ := kk r u t T'.heap (locs ++ L) e1.symm (by rw [← e2]; exact X'.warmed.alike) hp hb k1 k2 k3 T' rfl X'
    exact ⟨t2, st t2 a1, b1⟩
  · obtain ⟨k1, k2, k3⟩ := vx_keep h0 e1 hS hAX hf hL hF
    obtain ⟨t2, a1, b1⟩ := kx E ce q u t T'.heap (locs ++ L) e1.symm (by rw [← e2]; exact X'.warmed.alike) hp hb k1 k2 k3 (by rw [e1]; exact hce) hcv hcl T' rfl X'
    exact ⟨t2, st.trans a1, b1⟩
theorem vx_calll {S SX : Type} {post : Int64 → S → Prop} {px : SX → Prop} {B : S → State → Prop} {BX : String → SX → State → Prop} {AX : Nat → Prop} (hr : vx_Run p l e R s m args below meth c H locs cells slots mc ms (F0 m pc ls st0) rest (va_Ql post B A1 a) (vx_X px BX AX) free) (hS : va_S A0 H0 H locs) (hA : ∀ q, q < H.size → A1 q → A0 q) (hf : ∀ q, free q → A0 q) (hAX : ∀ q, q < H.size → AX q → A0 q)
    (kx : ∀ (E : String) (ce : Cell) (q9 : Addr) (u : SX) (t : State) (H1 : Heap) (locs1 : List Loc), t.heap = H1 → s.vm.Alike t.vm → px u → BX E u t → H.size ≤ H1.size → (∀ q : Nat, q < H.size → ¬ AX q → H1[q]? = H[q]?) → va_S A0 H0 H1 locs1 → H1[q9]? = some ce → ce.vm = .none → s.vm.findClass E = some ce.cls → vx_W p l e R s m args below meth c H1 locs1 (cells + mc) (slots + ms) Q (F0 m pc ls rest) q9)
    (kk : ∀ (r : Int64) (u : S) (t : State) (H1 : Heap) (locs1 : List Loc), t.heap = H1 → s.vm.Alike t.vm → post r u → B u t → H.size ≤ H1.size → (∀ q : Nat, q < H.size → ¬ A1 q → H1[q]? = H[q]?) → va_S A0 H0 H1 locs1 → W p l e R s m args below meth c H1 locs1 (cells + mc) (slots + ms) Q (F0 m (pc + 3) ls (.long r :: rest))) : W p l e R s m args below meth c H locs cells slots Q (F0 m pc ls st0) := by
  intro T hT X
  rcases hr T hT X with ⟨v, st₀, t, T', L, h0, X', hL, e1, e2, ⟨⟨r, u, hv, hp, hb⟩, hF⟩, st⟩ | ⟨q, st₀, t, T', L, E, ce, h0, X', hL, e1, e2, ⟨u, hp, hb, hF⟩, hce, hcv, hcl, st⟩
  · cases hv
    obtain ⟨k1, k2, k3⟩ := vx_keep h0 e1 hS hA hf hL hF
    obtain ⟨t2, a1, b1⟩ := kk r u t T'.heap (locs ++ L) e1.symm (by rw [← e2]; exact X'.warmed.alike) hp hb k1 k2 k3 T' rfl X'
    exact ⟨t2, st t2 a1, b1⟩
  · obtain ⟨k1, k2, k3⟩ := vx_keep h0 e1 hS hAX hf hL hF
    obtain ⟨t2, a1, b1⟩ := kx E ce q u t T'.heap (locs ++ L) e1.symm (by rw [← e2]; exact X'.warmed.alike) hp hb k1 k2 k3 (by rw [e1]; exact hce) hcv hcl T' rfl X'
    exact ⟨t2, st.trans a1, b1⟩
theorem vx_callf {S SX : Type} {post : UInt32 → S → Prop} {px : SX → Prop} {B : S → State → Prop} {BX : String → SX → State → Prop} {AX : Nat → Prop} (hr : vx_Run p l e R s m args below meth c H locs cells slots mc ms (F0 m pc ls st0) rest (va_Qf post B A1 a) (vx_X px BX AX) free) (hS : va_S A0 H0 H locs) (hA : ∀ q, q < H.size → A1 q → A0 q) (hf : ∀ q, free q → A0 q) (hAX : ∀ q, q < H.size → AX q → A0 q)
    (kx : ∀ (E : String) (ce : Cell) (q9 : Addr) (u : SX) (t : State) (H1 : Heap) (locs1 : List Loc), t.heap = H1 → s.vm.Alike t.vm → px u → BX E u t → H.size ≤ H1.size → (∀ q : Nat, q < H.size → ¬ AX q → H1[q]? = H[q]?) → va_S A0 H0 H1 locs1 → H1[q9]? = some ce → ce.vm = .none → s.vm.findClass E = some ce.cls → vx_W p l e R s m args below meth c H1 locs1 (cells + mc) (slots + ms) Q (F0 m pc ls rest) q9)
    (kk : ∀ (r : UInt32) (u : S) (t : State) (H1 : Heap) (locs1 : List Loc), t.heap = H1 → s.vm.Alike t.vm → post r u → B u t → H.size ≤ H1.size → (∀ q : Nat, q < H.size → ¬ A1 q → H1[q]? = H[q]?) → va_S A0 H0 H1 locs1 → W p l e R s m args below meth c H1 locs1 (cells + mc) (slots + ms) Q (F0 m (pc + 3) ls (.float r :: rest))) : W p l e R s m args below meth c H locs cells slots Q (F0 m pc ls st0) := by
  intro T hT X
  rcases hr T hT X with ⟨v, st₀, t, T', L, h0, X', hL, e1, e2, ⟨⟨r, u, hv, hp, hb⟩, hF⟩, st⟩ | ⟨q, st₀, t, T', L, E, ce, h0, X', hL, e1, e2, ⟨u, hp, hb, hF⟩, hce, hcv, hcl, st⟩
  · cases hv
    obtain ⟨k1, k2, k3⟩ := vx_keep h0 e1 hS hA hf hL hF
    obtain ⟨t2, a1, b1⟩ := kk r u t T'.heap (locs ++ L) e1.symm (by rw [← e2]; exact X'.warmed.alike) hp hb k1 k2 k3 T' rfl X'
    exact ⟨t2, st t2 a1, b1⟩
  · obtain ⟨k1, k2, k3⟩ := vx_keep h0 e1 hS hAX hf hL hF
    obtain ⟨t2, a1, b1⟩ := kx E ce q u t T'.heap (locs ++ L) e1.symm (by rw [← e2]; exact X'.warmed.alike) hp hb k1 k2 k3 (by rw [e1]; exact hce) hcv hcl T' rfl X'
    exact ⟨t2, st.trans a1, b1⟩
theorem vx_calld {S SX : Type} {post : UInt64 → S → Prop} {px : SX → Prop} {B : S → State → Prop} {BX : String → SX → State → Prop} {AX : Nat → Prop} (hr : vx_Run p l e R s m args below meth c H locs cells slots mc ms (F0 m pc ls st0) rest (va_Qd post B A1 a) (vx_X px BX AX) free) (hS : va_S A0 H0 H locs) (hA : ∀ q, q < H.size → A1 q → A0 q) (hf : ∀ q, free q → A0 q) (hAX : ∀ q, q < H.size → AX q → A0 q)
    (kx : ∀ (E : String) (ce : Cell) (q9 : Addr) (u : SX) (t : State) (H1 : Heap) (locs1 : List Loc), t.heap = H1 → s.vm.Alike t.vm → px u → BX E u t → H.size ≤ H1.size → (∀ q : Nat, q < H.size → ¬ AX q → H1[q]? = H[q]?) → va_S A0 H0 H1 locs1 → H1[q9]? = some ce → ce.vm = .none → s.vm.findClass E = some ce.cls → vx_W p l e R s m args below meth c H1 locs1 (cells + mc) (slots + ms) Q (F0 m pc ls rest) q9)
    (kk : ∀ (r : UInt64) (u : S) (t : State) (H1 : Heap) (locs1 : List Loc), t.heap = H1 → s.vm.Alike t.vm → post r u → B u t → H.size ≤ H1.size → (∀ q : Nat, q < H.size → ¬ A1 q → H1[q]? = H[q]?) → va_S A0 H0 H1 locs1 → W p l e R s m args below meth c H1 locs1 (cells + mc) (slots + ms) Q (F0 m (pc + 3) ls (.double r :: rest))) : W p l e R s m args below meth c H locs cells slots Q (F0 m pc ls st0) := by
  intro T hT X
  rcases hr T hT X with ⟨v, st₀, t, T', L, h0, X', hL, e1, e2, ⟨⟨r, u, hv, hp, hb⟩, hF⟩, st⟩ | ⟨q, st₀, t, T', L, E, ce, h0, X', hL, e1, e2, ⟨u, hp, hb, hF⟩, hce, hcv, hcl, st⟩
  · cases hv
    obtain ⟨k1, k2, k3⟩ := vx_keep h0 e1 hS hA hf hL hF
    obtain ⟨t2, a1, b1⟩ := kk r u t T'.heap (locs ++ L) e1.symm (by rw [← e2]; exact X'.warmed.alike) hp hb k1 k2 k3 T' rfl X'
    exact ⟨t2, st t2 a1, b1⟩
  · obtain ⟨k1, k2, k3⟩ := vx_keep h0 e1 hS hAX hf hL hF
    obtain ⟨t2, a1, b1⟩ := kx E ce q u t T'.heap (locs ++ L) e1.symm (by rw [← e2]; exact X'.warmed.alike) hp hb k1 k2 k3 (by rw [e1]; exact hce) hcv hcl T' rfl X'
    exact ⟨t2, st.trans a1, b1⟩
theorem vx_callv {S SX : Type} {post : S → Prop} {px : SX → Prop} {B : S → State → Prop} {BX : String → SX → State → Prop} {AX : Nat → Prop} (hr : vx_Run p l e R s m args below meth c H locs cells slots mc ms (F0 m pc ls st0) rest (va_Qv post B A1 a) (vx_X px BX AX) free) (hS : va_S A0 H0 H locs) (hA : ∀ q, q < H.size → A1 q → A0 q) (hf : ∀ q, free q → A0 q) (hAX : ∀ q, q < H.size → AX q → A0 q)
    (kx : ∀ (E : String) (ce : Cell) (q9 : Addr) (u : SX) (t : State) (H1 : Heap) (locs1 : List Loc), t.heap = H1 → s.vm.Alike t.vm → px u → BX E u t → H.size ≤ H1.size → (∀ q : Nat, q < H.size → ¬ AX q → H1[q]? = H[q]?) → va_S A0 H0 H1 locs1 → H1[q9]? = some ce → ce.vm = .none → s.vm.findClass E = some ce.cls → vx_W p l e R s m args below meth c H1 locs1 (cells + mc) (slots + ms) Q (F0 m pc ls rest) q9)
    (kk : ∀ (u : S) (t : State) (H1 : Heap) (locs1 : List Loc), t.heap = H1 → s.vm.Alike t.vm → post u → B u t → H.size ≤ H1.size → (∀ q : Nat, q < H.size → ¬ A1 q → H1[q]? = H[q]?) → va_S A0 H0 H1 locs1 → W p l e R s m args below meth c H1 locs1 (cells + mc) (slots + ms) Q (F0 m (pc + 3) ls (rest))) : W p l e R s m args below meth c H locs cells slots Q (F0 m pc ls st0) := by
  intro T hT X
  rcases hr T hT X with ⟨v, st₀, t, T', L, h0, X', hL, e1, e2, ⟨⟨u, hv, hp, hb⟩, hF⟩, st⟩ | ⟨q, st₀, t, T', L, E, ce, h0, X', hL, e1, e2, ⟨u, hp, hb, hF⟩, hce, hcv, hcl, st⟩
  · cases hv
    obtain ⟨k1, k2, k3⟩ := vx_keep h0 e1 hS hA hf hL hF
    obtain ⟨t2, a1, b1⟩ := kk u t T'.heap (locs ++ L) e1.symm (by rw [← e2]; exact X'.warmed.alike) hp hb k1 k2 k3 T' rfl X'
    exact ⟨t2, st t2 a1, b1⟩
  · obtain ⟨k1, k2, k3⟩ := vx_keep h0 e1 hS hAX hf hL hF
    obtain ⟨t2, a1, b1⟩ := kx E ce q u t T'.heap (locs ++ L) e1.symm (by rw [← e2]; exact X'.warmed.alike) hp hb k1 k2 k3 (by rw [e1]; exact hce) hcv hcl T' rfl X'
    exact ⟨t2, st.trans a1, b1⟩
/-- caught by the row x of this method's table; the rows ahead don't take it -/
theorem vx_catch {own name : String} {E : String} {ce : Cell} {q : Addr} (hown : s.vm.findClass own = some m.cls) (pre : List ExceptionTableEntry) (x : ExceptionTableEntry) (suf : List ExceptionTableEntry) (hsplit : c.exceptionTable.toList = pre ++ x :: suf)
    (hpass : ∀ z ∈ pre, covers z pc = false ∨ (z.catchType ≠ 0 ∧ ∃ nm : String, (Cond.classLink own z.catchType nm).before args s = true ∧ va_Nc E nm s)) (hx : covers x pc = true) (h0 : x.catchType ≠ 0)
    (hlink : (Cond.classLink own x.catchType name).before args s = true) (hcast : (Cond.castable E name).before args s = true) (hcell : H[q]? = some ce) (hv : ce.vm = .none) (hcl : s.vm.findClass E = some ce.cls)
    (kk : W p l e R s m args below meth c H locs cells slots Q (F0 m x.handlerPc ls [.ref q])) : vx_W p l e R s m args below meth c H locs cells slots Q (F0 m pc ls rest) q := by
  intro T hT X
  have hpl : e.platform.magicAccessors = ({} : Platform).magicAccessors := by rw [X.admits.platform]
  obtain ⟨c3, c4, hc3, hc4, hasg⟩ := Cond.castable_spec hcast
  cases Option.some.inj (hc3.symm.trans hcl)
  obtain ⟨c5, hc5, hcl5⟩ := Cond.classLink_spec hown hlink e.platform hpl
  cases Option.some.inj (hc4.symm.trans hc5)
  obtain ⟨vm', X', st⟩ := X.thenCaughtThrough q (g := F0 m pc ls rest) rfl (Steps.refl _) (by rw [hT]; exact hcell) (by rw [hv]; rfl) (by obtain ⟨k9, h9, -⟩ := Vm.findClass_spec hcl; exact ⟨k9, h9⟩) pre x suf hsplit
    (fun z hz => by
      rcases hpass z hz with h | ⟨hz0, nm, hl1, hn1⟩
      · exact Or.inl h
      · obtain ⟨c6, hc6, hcl6⟩ := Cond.classLink_spec hown hl1 e.platform hpl
        obtain ⟨a8, b8, h1, h2, h3⟩ := hn1
        cases Option.some.inj (h1.symm.trans hcl)
        cases Option.some.inj (h2.symm.trans hc6)
        exact Or.inr ⟨hz0, _, hcl6, h3⟩) hx (Or.inr ⟨h0, c4, hcl5, hasg⟩)
  obtain ⟨t, a1, b1⟩ := kk (T.setVm vm') hT X'
  exact ⟨t, st.trans a1, b1⟩
end Rows
section Ends
variable {p : Program} {l : Launch} {e : Env} {R : Room} {s : State} {m : MethodId} {args : Array Value} {below : List Frame} {meth : Method} {c : Code} {H : Heap} {locs : List Loc} {cells slots : Nat} {Q : State → Prop}
variable {mc ms : Nat} {free : Addr → Prop} {A0 A1 : Nat → Prop} {H0 : Heap} {a : Array Value} {ls : Array Slot} {st0 rest : List Value}
variable {Qc : Array Value → State → Outcome → State → Prop} {XC : String → State → State → Prop}
/-- what a body that may throw owes at its end -/
def vx_MQ (below : List Frame) (Qc : Array Value → State → Outcome → State → Prop) (XC : String → State → State → Prop) (a : Array Value) (s : State) (mc ms : Nat) (free : Addr → Prop) : State → Prop := fun t =>
  ∃ o, t.status = .running ∧ Ended t below o ∧ vx_Q Qc XC mc ms free a s o t
theorem vx_ret {g : JFrame} {mc ms : Nat} (k : W p l e R s m args below meth c H locs cells slots (MQ below Qc args s mc ms free) g) : W p l e R s m args below meth c H locs cells slots (vx_MQ below Qc XC args s mc ms free) g := by
  intro T hT X
  obtain ⟨t, a1, o, b1, b2, b3, b4⟩ := k T hT X
  exact ⟨t, a1, o, b1, b2, Or.inl ⟨b3, b4⟩⟩
/-- not caught here: it goes on to the caller -/
theorem vx_widen {g : JFrame} {q : Addr} {k n : Nat} (h1 : cells ≤ k) (h2 : slots ≤ n) (kk : vx_W p l e R s m args below meth c H locs k n Q g q) : vx_W p l e R s m args below meth c H locs cells slots Q g q := fun T hT X => kk T hT (stand_widen X h1 h2)
theorem vx_out {pc : Nat} {E : String} {ce : Cell} {q : Addr} {mc ms : Nat} (hout : ∀ x ∈ c.exceptionTable.toList, covers x pc = false) (hlocks : meth.locks = false) (hcell : H[q]? = some ce) (hv : ce.vm = .none) (hcl : s.vm.findClass E = some ce.cls)
    (hx : ∀ t : State, t.heap = H → s.vm.Alike t.vm → XC E s t) (hf : ∀ z ∈ locs, free z.base) (hc : cells ≤ mc) (hs : slots ≤ ms) :
    vx_W p l e R s m args below meth c H locs cells slots (vx_MQ below Qc XC args s mc ms free) (F0 m pc ls rest) q := by
  intro T hT X
  obtain ⟨st1, hrun, hend, hW, hsm⟩ := X.leaveThrown q (g := F0 m pc ls rest) rfl rfl rfl hout hlocks
  have hcell9 : (T.setFrames (.throwing q :: below)).heap[q]? = some ce := by
    show T.heap[q]? = some ce
    rw [hT]; exact hcell
  exact ⟨_, st1, .threw q, hrun, hend, Or.inr ⟨q, rfl, E, ce, locs, hx _ hT hW.alike, hcell9, hv, hcl, hW, hsm.mono hc hs, hf⟩⟩
theorem vx_frame {U : State} {k n : Nat} (h : s.sameButNew ({ U with vm := s.vm } : State) locs k n) : s.heap.size ≤ U.heap.size ∧ ∀ q : Nat, q < s.heap.size → (∀ z ∈ locs, z.base ≠ q) → U.heap[q]? = s.heap[q]? := by
  obtain ⟨-, h2, -, -, -, h6⟩ := h
  refine ⟨h2, fun q hq hz => ?_⟩
  obtain ⟨c9, e1, e2, e3, e4⟩ := h6 q _ (Array.getElem?_eq_getElem hq)
  have hs : c9.slots = (s.heap[q]).slots := Array.ext_getElem? fun i => e4 i fun hm => hz _ hm rfl
  have h9 : c9 = s.heap[q] := by
    rw [hs] at e2
    exact e2
  have e5 : U.heap[q]? = some c9 := e1
  rw [e5, h9, Array.getElem?_eq_getElem hq]
/-- the words of a throw but the four that speak of the heap -/
def vx_no (w : Cond) : Bool := decide (w ≠ .isRef (.static Bundle.tN "UNASSIGNED_STACK" Bundle.steD)) && decide (w ≠ .isRef (.static Bundle.tN "SUPPRESSED_SENTINEL" Bundle.listD)) && decide (w ≠ .laysStatic Bundle.tN "UNASSIGNED_STACK" Bundle.steD) && decide (w ≠ .laysStatic Bundle.tN "SUPPRESSED_SENTINEL" Bundle.listD)
def vx_at0 (own : String) (ic : Nat) (X : String) (names : List String) : List Cond := (Bundle.ownAtoms0 own ic X names).filter vx_no
def vx_atS (own : String) (ic : Nat) (X : String) (names : List String) : List Cond := (Bundle.ownAtoms own ic X names).filter vx_no
/-- a word that the tables alone decide, or a good one -/
def vx_ot (w : Cond) : Bool := w.onTables || goodWord w
theorem vx_ot_at {args a' : Array Value} {s U : State} {w : Cond} (hW : s.WarmedH U.vm) (hvm : s.vm = U.vm) (hg : vx_ot w = true) (h : w.before args s = true) : w.before a' U = true := by
  simp only [vx_ot, Bool.or_eq_true] at hg
  rcases hg with hg | hg
  · exact va_tabs hg hvm h
  · exact word_at hW (good_of_word hg) h
/-- a list's words: the good ones out of the method's own list, the others by premises of their own -/
theorem vx_hat {args : Array Value} {s : State} {L B : List Cond} (h1 : ∀ w ∈ L.filter goodWord, w.before args s = true) (h2 : ∀ w ∈ L.filter (fun w => !goodWord w), w ∈ B) (h3 : ∀ w ∈ B, w.before args s = true) : ∀ w ∈ L, w.before args s = true := by
  intro w hw
  by_cases g : goodWord w = true
  · exact h1 w (List.mem_filter.mpr ⟨hw, g⟩)
  · refine h3 w (h2 w (List.mem_filter.mpr ⟨hw, ?_⟩))
    show (!goodWord w) = true
    cases hgw : goodWord w
    · rfl
    · exact absurd hgw g
theorem vx_c {args : Array Value} {s : State} {w : Cond} {B : List Cond} (h : w.before args s = true) (t : ∀ w ∈ B, w.before args s = true) : ∀ w' ∈ w :: B, w'.before args s = true := fun w' h' => (List.mem_cons.mp h').elim (fun e => by rw [e]; exact h) (t w')
theorem vx_n {args : Array Value} {s : State} : ∀ w ∈ ([] : List Cond), w.before args s = true := fun _ h => nomatch h
theorem vx_own {args : Array Value} {s : State} {L : List Cond} (h1 : ∀ w ∈ L.filter vx_no, w.before args s = true)
    (hU : (Cond.isRef (.static Bundle.tN "UNASSIGNED_STACK" Bundle.steD)).before args s = true) (hN : (Cond.isRef (.static Bundle.tN "SUPPRESSED_SENTINEL" Bundle.listD)).before args s = true)
    (lU : (Cond.laysStatic Bundle.tN "UNASSIGNED_STACK" Bundle.steD).before args s = true) (lN : (Cond.laysStatic Bundle.tN "SUPPRESSED_SENTINEL" Bundle.listD).before args s = true) : ∀ w ∈ L, w.before args s = true := by
  intro w hw
  by_cases e1 : w = .isRef (.static Bundle.tN "UNASSIGNED_STACK" Bundle.steD)
  · rw [e1]; exact hU
  · by_cases e2 : w = .isRef (.static Bundle.tN "SUPPRESSED_SENTINEL" Bundle.listD)
    · rw [e2]; exact hN
    · by_cases e3 : w = .laysStatic Bundle.tN "UNASSIGNED_STACK" Bundle.steD
      · rw [e3]; exact lU
      · by_cases e4 : w = .laysStatic Bundle.tN "SUPPRESSED_SENTINEL" Bundle.listD
        · rw [e4]; exact lN
        · exact h1 w (List.mem_filter.mpr ⟨hw, by unfold vx_no; rw [decide_eq_true e1, decide_eq_true e2, decide_eq_true e3, decide_eq_true e4]; rfl⟩)
/-- where a static field lies, its class's statics cell in H -/
def vx_L (C n d : String) (A : Nat → Prop) (U : State) (H : Heap) : Prop := ∃ (c : ClassId) (k : Class) (i : Nat) (f : Field) (a : Nat) (cell : Cell), U.vm.findClass C = some c ∧ U.fieldFound? C n d = some (c, k, i, f) ∧ f.isStatic = true ∧ k.statics = some a ∧ H[a]? = some cell ∧ cell.vm.isStatics = true ∧ cell.cls = c ∧ f.slot < cell.slots.size ∧ k.staticTypes[f.slot]? = some f.type ∧ ¬ A a
theorem vx_L.moved {C n d : String} {A : Nat → Prop} {u U : State} {H : Heap} (hvm : u.vm.Alike U.vm) (h : vx_L C n d A u H) : vx_L C n d A U H := by
  obtain ⟨c, k, i, f, a, cell, h1, h2, h3, h4, h5, h6, h7, h8, h9, h10⟩ := h
  obtain ⟨k', hi', he⟩ := State.fieldFound?_setVm hvm h2
  exact ⟨c, k', i, f, a, cell, by rw [hvm.findClass]; exact h1, hi', h3, by rw [he]; exact h4, h5, h6, h7, h8, by rw [he]; exact h9, h10⟩
theorem vx_L.kept {C n d : String} {A : Nat → Prop} {U : State} {H H1 : Heap} (h : vx_L C n d A U H) (hq : ∀ a : Nat, a < H.size → ¬ A a → H1[a]? = H[a]?) : vx_L C n d A U H1 := by
  obtain ⟨c, k, i, f, a, cell, h1, h2, h3, h4, h5, h6, h7, h8, h9, h10⟩ := h
  exact ⟨c, k, i, f, a, cell, h1, h2, h3, h4, by rw [hq a (Array.getElem?_eq_some_iff.mp h5).1 h10]; exact h5, h6, h7, h8, h9, h10⟩
theorem vx_L.narrow {C n d : String} {A B : Nat → Prop} {U : State} {H : Heap} (h : vx_L C n d A U H) (hAB : ∀ q, B q → A q) : vx_L C n d B U H := by
  obtain ⟨c, k, i, f, a, cell, h1, h2, h3, h4, h5, h6, h7, h8, h9, h10⟩ := h
  exact ⟨c, k, i, f, a, cell, h1, h2, h3, h4, h5, h6, h7, h8, h9, fun z => h10 (hAB _ z)⟩
theorem vx_L.word {C n d : String} {A : Nat → Prop} {s : State} {args : Array Value} (h : vx_L C n d A s s.heap) : (Cond.laysStatic C n d).before args s = true := by
  obtain ⟨c, k, i, f, a, cell, h1, h2, h3, h4, h5, h6, h7, h8, h9, -⟩ := h
  show (Cond.laysStatic C n d).holds args s none s [] = true
  exact Cond.laysStatic_of h1 h2 h3 h4 h5 h6 h7 h8 h9
/-- .. and what it holds: null or some reference -/
def vx_Zq (C n d : String) (A : Nat → Prop) (U : State) (H : Heap) : Prop := va_Zq C n d A U H ∧ vx_L C n d A U H
theorem vx_Zq.moved {C n d : String} {A : Nat → Prop} {u U : State} {H : Heap} (hvm : u.vm.Alike U.vm) (h : vx_Zq C n d A u H) : vx_Zq C n d A U H := ⟨va_Zq.moved hvm h.1, vx_L.moved hvm h.2⟩
theorem vx_Zq.kept {C n d : String} {A : Nat → Prop} {U : State} {H H1 : Heap} (h : vx_Zq C n d A U H) (hq : ∀ a : Nat, a < H.size → ¬ A a → H1[a]? = H[a]?) : vx_Zq C n d A U H1 := ⟨va_Zq.kept h.1 hq, vx_L.kept h.2 hq⟩
theorem vx_Zq.narrow {C n d : String} {A B : Nat → Prop} {U : State} {H : Heap} (h : vx_Zq C n d A U H) (hAB : ∀ q, B q → A q) : vx_Zq C n d B U H := ⟨va_Zq.narrow h.1 hAB, vx_L.narrow h.2 hAB⟩
theorem vx_Zqof {args : Array Value} {s : State} {C n d : String} {A : Nat → Prop} (hl : (Cond.laysStatic C n d).before args s = true) (hini : (Cond.initialized C).before args s = true) (h : (Cond.isRef (.static C n d)).before args s = true) (hA : ∀ a : Nat, a < s.heap.size → ¬ A a) : vx_Zq C n d A s s.heap := by
  refine ⟨va_Zqof hl hini h hA, ?_⟩
  obtain ⟨c, k, i, f, a, cell, h1, h2, h3, h4, h5, h6, h7, h8, h9⟩ := Cond.laysStatic_spec hl
  exact ⟨c, k, i, f, a, cell, h1, h2, h3, h4, h5, h6, h7, h8, h9, hA a (Array.getElem?_eq_some_iff.mp h5).1⟩
theorem vx_isRef {C n d : String} {v : Value} {A : Nat → Prop} {s : State} {args : Array Value} (h : va_Z C n d v A s s.heap) (hv : v.isRef = true) : (Cond.isRef (.static C n d)).before args s = true := by
  obtain ⟨cf, kf, fi, f, a, cell, h1, h2, h3, h4, h5, h6, h7, -⟩ := h
  have he : (Term.static C n d).eval args s none [] s = some v := by
    simp [Term.eval, State.fieldNamed?, h1, h2, h4, h5, h6, h7]
  simp only [Cond.before, Cond.holds, Cond.value, he]
  cases v <;> simp_all [Value.isRef]
theorem vx_isRefq {C n d : String} {A : Nat → Prop} {s : State} {args : Array Value} (h : va_Zq C n d A s s.heap) : (Cond.isRef (.static C n d)).before args s = true := by
  rcases h with h | ⟨t, h⟩
  · exact vx_isRef h rfl
  · exact vx_isRef h rfl
/-- the same frame, seen from here: as if the method were called anew in this heap -/
theorem vx_rebase {T : State} (X : Stand p l e R s m args below meth c T locs cells slots) {R' : Room} (hf : R'.frames ≤ R.frames) (hl : R'.locals ≤ R.locals) (hc : cells + R'.cells ≤ R.cells) (hs : slots + R'.slots ≤ R.slots) :
    Stand p l e R' ((T.setVm s.vm).setFrames (.invoking m args :: below)) m args below meth c T [] 0 0 := by
  have htop : (T.setVm s.vm).topJava?.isSome := X.here.top
  have hF : ((T.setVm s.vm).setFrames (.invoking m args :: below)).frames = .invoking m args :: below := State.frames_setFrames _ (State.cur_lt_of_top htop)
  obtain ⟨g₀, hg0⟩ := Option.isSome_iff_exists.mp htop
  obtain ⟨r, hr⟩ := State.topJava?_eq_some.mp hg0
  have hl9 : e.platform.stackLimits (T.setVm s.vm).me = e.platform.stackLimits s.me := X.limits
  have hb9 : (T.setVm s.vm).me.stackBytes = s.me.stackBytes := X.bytes
  refine ⟨X.admits, X.cas, X.clock, hF, ?_, X.hears, X.method, X.code, X.here, X.tail, X.warmed, ?_, ?_, ?_⟩
  · have h := X.room
    have hU : ((T.setVm s.vm).setFrames (.invoking m args :: below)).localsInUse = s.localsInUse := by
      rw [State.localsInUse_invoking hF (meth := meth) (c := c) X.method X.code, State.localsInUse_invoking X.frames X.method X.code]
    simp only [State.hasRoom, Bool.and_eq_true, decide_eq_true_eq] at h ⊢
    obtain ⟨⟨⟨⟨h1, h2, h3, h4, h5, h6⟩, h7⟩, h8⟩, h9⟩ := h
    rw [X.frames, List.length_cons] at h2 h3
    have q1 := X.heapSize
    have q2 := X.used
    simp only [hF, hU, List.length_cons, State.stackLimits_setFrames, State.stackBytes_setFrames, hl9, hb9]
    refine ⟨⟨⟨⟨by omega, by omega, by omega, by omega, by omega, h6⟩, ?_⟩, ?_⟩, X.book⟩
    · show T.heap.size + R'.cells ≤ e.platform.maxCells
      omega
    · show T.slotsUsed + R'.slots ≤ e.platform.maxSlots
      omega
  · rw [State.stackLimits_setFrames]; rfl
  · rw [State.stackBytes_setFrames]; rfl
  · refine ⟨?_, Nat.le_refl _, Nat.le_refl _, ?_, ?_, fun a c9 h9 => ⟨c9, h9, rfl, rfl, fun _ _ => rfl⟩⟩
    · obtain ⟨t, ht, -⟩ := State.frames_cons hr
      show T.setVm s.vm = { ((T.setVm s.vm).setFrames (.invoking m args :: below)).setFrames (T.setVm s.vm).frames with heap := T.heap, slotsUsed := T.slotsUsed }
      rw [State.setFrames_setFrames, State.setFrames_self ht]
      rfl
    · show T.slotsUsed = T.slotsUsed + ((T.heap.toList.drop T.heap.size).map (·.slots.size)).sum
      rw [List.drop_eq_nil_of_le (Nat.le_of_eq Array.length_toList)]
      rfl
    · show ((T.heap.toList.drop T.heap.size).map (·.slots.size)).sum ≤ 0
      rw [List.drop_eq_nil_of_le (Nat.le_of_eq Array.length_toList)]
      exact Nat.le_refl _
/-- 'throw new E()': new; dup; invokespecial; athrow -/
theorem vx_throw0 {cc : ByteArray} {pc : Nat} (hexec : p.tables.exec = Jvm.exec) (hb : c.code = cc) (hl : l.stackTraces = false) {own cls : String} {names : List String} {ik ic mc ms : Nat} {A : Nat → Prop}
    (hown : s.vm.findClass own = some m.cls) (hcls : Bundle.fit cls = true) (hnames : ∀ n ∈ names, Bundle.fit n = true)
    (hk : (Cond.classLink own ik cls).before args s = true) (hini : (Cond.initialized cls).before args s = true) (hat : ∀ w ∈ vx_at0 own ic cls names, w.before args s = true)
    (hgood : ∀ w ∈ Cond.classLink own ik cls :: Cond.initialized cls :: vx_at0 own ic cls names, vx_ot w = true)
    (hU : vx_Zq Bundle.tN "UNASSIGNED_STACK" Bundle.steD A s s.heap) (hN : vx_Zq Bundle.tN "SUPPRESSED_SENTINEL" Bundle.listD A s s.heap) (hS : va_S A s.heap H locs) (hsize : ls.size = c.maxLocals)
    (d0 : decode cc pc = .ok (.new ik, 3)) (d3 : decode cc (pc + 3) = .ok (.dup, 1)) (d4 : decode cc (pc + 4) = .ok (.invokespecial ic, 3)) (d7 : decode cc (pc + 7) = .ok (.athrow, 1))
    (hout : ∀ x ∈ c.exceptionTable.toList, covers x (pc + 7) = false)
    (hRframes : names.length + 3 < R.frames) (hRlocals : (rest.map fun v => v.category).sum + (13 * (names.length + 1) + 42) ≤ R.locals) (hRcells : cells + 1 ≤ R.cells) (hRslots : slots + 6 ≤ R.slots) (hlocks : meth.locks = false)
    (hx : ∀ t : State, s.vm.Alike t.vm → H.size ≤ t.heap.size → (∀ q : Nat, q < H.size → t.heap[q]? = H[q]?) → XC cls s t)
    (hf : ∀ z ∈ locs, free z.base) (hc : cells + 1 ≤ mc) (hs : slots + 6 ≤ ms) :
    W p l e R s m args below meth c H locs cells slots (vx_MQ below Qc XC args s mc ms free) (F0 m pc ls rest) := by
  intro T hT X
  have htr : e.platform.stackTraces = false := (show e.platform.stackTraces = l.stackTraces by rw [X.admits.platform]).trans hl
  have Y := vx_rebase X (R' := { frames := R.frames, locals := R.locals, cells := 1, slots := 6 }) (Nat.le_refl _) (Nat.le_refl _) hRcells hRslots
  obtain ⟨s', hA⟩ : ∃ z, z = (T.setVm s.vm).setFrames (.invoking m args :: below) := ⟨_, rfl⟩
  rw [← hA] at Y
  have hvm : s'.vm = s.vm := by rw [hA]; rfl
  have hhp : s'.heap = H := by rw [hA]; exact hT
  have hW0 : s.WarmedH s'.vm := by rw [hvm]; exact State.WarmedH.refl s
  have hat' : ∀ w ∈ vx_at0 own ic cls names, w.before args s' = true := fun w hw => vx_ot_at hW0 hvm.symm (hgood w (List.mem_cons_of_mem _ (List.mem_cons_of_mem _ hw))) (hat w hw)
  have hk' : (Cond.classLink own ik cls).before args s' = true := vx_ot_at hW0 hvm.symm (hgood _ List.mem_cons_self) hk
  have hini' : (Cond.initialized cls).before args s' = true := vx_ot_at hW0 hvm.symm (hgood _ (List.mem_cons_of_mem _ List.mem_cons_self)) hini
  have hU' : vx_Zq Bundle.tN "UNASSIGNED_STACK" Bundle.steD A s' s'.heap := by rw [hhp]; exact vx_Zq.moved hW0.alike (hU.kept hS.2.1)
  have hN' : vx_Zq Bundle.tN "SUPPRESSED_SENTINEL" Bundle.listD A s' s'.heap := by rw [hhp]; exact vx_Zq.moved hW0.alike (hN.kept hS.2.1)
  have h : ∀ w ∈ Bundle.ownAtoms0 own ic cls names, w.before args s' = true := vx_own hat' (vx_isRefq hU'.1) (vx_isRefq hN'.1) hU'.2.word hN'.2.word
  have hown' : s'.vm.findClass own = some m.cls := by rw [hvm]; exact hown
  have hins : (Cond.instantiable cls 6).before args s' = true := h _ (by simp [Bundle.ownAtoms0])
  obtain ⟨vm₁, cX, kX, hfX, hkX, -, -, X₁, st1⟩ := Y.newCold hexec (own := own) (C := cls) (index := ik) (n := 6) hown' hk' hins hini'
    (g := F0 m pc ls rest) rfl (by rw [hb]; exact d0) (Nat.le_refl _) (Nat.le_refl _)
  generalize hT1 : (T.setVm vm₁).pushCell { cls := cX, slots := kX.instanceTypes.map defaultValue, vm := .none } = T1 at X₁ st1
  have hcat : (Value.ref T.heap.size).category = 1 := rfl
  have hcellA : T1.heap[T.heap.size]? = some (freshCell cX kX) := by rw [← hT1]; exact State.heap_pushCell_size _ _
  have d3' : decode c.code (pc + 3) = .ok (.dup, 1) := by rw [hb]; exact d3
  obtain ⟨U, hsteps, hrun, hend, hW, hsame, ce, hce, hO⟩ := X₁.ctorThrow0 hexec htr (own := own) (cls := cls) (names := names) (ic := ic) hown' hcls hnames h (fun x hx => nomatch hx) hfX hkX hcellA (by rw [hhp, hT]; exact Nat.le_refl _)
    (g := { method := m, pc := pc + 4, locals := ls, stack := .ref T.heap.size :: .ref T.heap.size :: rest, locked := none }) rfl hsize rfl rfl (rest := rest) rfl
    (by rw [hb]; exact d4) (by rw [hb]; exact d7) hout hRframes (by simp only [List.map_cons, List.sum_cons, hcat]; omega) hlocks
  obtain ⟨f1, f2⟩ := vx_frame hsame
  rw [hhp] at f1 f2
  have hWs : s.WarmedH U.vm := State.WarmedH.trans hW0 hW
  have hcl : s.vm.findClass cls = some ce.cls := by
    have h9 := hO.cls
    rw [hvm] at h9
    exact h9
  have hall : s.sameButNew ({ U with vm := s.vm } : State) locs mc ms := by
    subst hA
    obtain ⟨e1, e2⟩ := hsame
    rw [State.setFrames_setFrames] at e1
    have h2 : (T.setVm s.vm).sameButNew ({ U with vm := s.vm } : State) [] (0 + 1) (0 + 6) := ⟨e1, e2⟩
    have h3 := X.same.trans h2
    rw [List.append_nil] at h3
    exact h3.mono hc hs
  refine ⟨U, ?_, .threw T.heap.size, hrun, hend, Or.inr ⟨T.heap.size, rfl, cls, ce, locs, hx U hWs.alike f1 (fun q hq => f2 q hq (fun z hz => nomatch hz)), hce, hO.vm, hcl, hWs, hall, hf⟩⟩
  refine st1 _ ?_
  show Steps p.tables e below (T1.setTop { method := m, pc := pc + 3, locals := ls, stack := .ref T.heap.size :: rest, locked := none }) _
  jvm_step X₁.here [X₁.here.top, hexec, d3', Value.category]
  exact hsteps
/-- 'throw new E("text")': new; dup; ldc; invokespecial; athrow -/
theorem vx_throwS {cc : ByteArray} {pc : Nat} (hexec : p.tables.exec = Jvm.exec) (hb : c.code = cc) (hl : l.stackTraces = false) {own cls text : String} {names : List String} {ik is ic mc ms sa : Nat} {A : Nat → Prop}
    (hown : s.vm.findClass own = some m.cls) (hcls : Bundle.fit cls = true) (hnames : ∀ n ∈ names, Bundle.fit n = true)
    (hk : (Cond.classLink own ik cls).before args s = true) (hini : (Cond.initialized cls).before args s = true) (hstr : vk_R own is text sa s) (hat : ∀ w ∈ vx_atS own ic cls names, w.before args s = true)
    (hgood : ∀ w ∈ Cond.classLink own ik cls :: Cond.initialized cls :: vx_atS own ic cls names, vx_ot w = true)
    (hU : vx_Zq Bundle.tN "UNASSIGNED_STACK" Bundle.steD A s s.heap) (hN : vx_Zq Bundle.tN "SUPPRESSED_SENTINEL" Bundle.listD A s s.heap) (hS : va_S A s.heap H locs) (hsize : ls.size = c.maxLocals)
    (d0 : decode cc pc = .ok (.new ik, 3)) (d3 : decode cc (pc + 3) = .ok (.dup, 1)) (d4 : decode cc (pc + 4) = .ok (.ldc is, 2)) (d6 : decode cc (pc + 6) = .ok (.invokespecial ic, 3)) (d9 : decode cc (pc + 9) = .ok (.athrow, 1))
    (hout : ∀ x ∈ c.exceptionTable.toList, covers x (pc + 9) = false)
    (hRframes : names.length + 3 < R.frames) (hRlocals : (rest.map fun v => v.category).sum + (13 * (names.length + 1) + 43) ≤ R.locals) (hRcells : cells + 1 ≤ R.cells) (hRslots : slots + 6 ≤ R.slots) (hlocks : meth.locks = false)
    (hx : ∀ t : State, s.vm.Alike t.vm → H.size ≤ t.heap.size → (∀ q : Nat, q < H.size → t.heap[q]? = H[q]?) → XC cls s t)
    (hf : ∀ z ∈ locs, free z.base) (hc : cells + 1 ≤ mc) (hs : slots + 6 ≤ ms) :
    W p l e R s m args below meth c H locs cells slots (vx_MQ below Qc XC args s mc ms free) (F0 m pc ls rest) := by
  intro T hT X
  have htr : e.platform.stackTraces = false := (show e.platform.stackTraces = l.stackTraces by rw [X.admits.platform]).trans hl
  have Y := vx_rebase X (R' := { frames := R.frames, locals := R.locals, cells := 1, slots := 6 }) (Nat.le_refl _) (Nat.le_refl _) hRcells hRslots
  obtain ⟨s', hA⟩ : ∃ z, z = (T.setVm s.vm).setFrames (.invoking m args :: below) := ⟨_, rfl⟩
  rw [← hA] at Y
  have hvm : s'.vm = s.vm := by rw [hA]; rfl
  have hhp : s'.heap = H := by rw [hA]; exact hT
  have hW0 : s.WarmedH s'.vm := by rw [hvm]; exact State.WarmedH.refl s
  have hat' : ∀ w ∈ vx_atS own ic cls names, w.before args s' = true := fun w hw => vx_ot_at hW0 hvm.symm (hgood w (List.mem_cons_of_mem _ (List.mem_cons_of_mem _ hw))) (hat w hw)
  have hk' : (Cond.classLink own ik cls).before args s' = true := vx_ot_at hW0 hvm.symm (hgood _ List.mem_cons_self) hk
  have hini' : (Cond.initialized cls).before args s' = true := vx_ot_at hW0 hvm.symm (hgood _ (List.mem_cons_of_mem _ List.mem_cons_self)) hini
  have hU' : vx_Zq Bundle.tN "UNASSIGNED_STACK" Bundle.steD A s' s'.heap := by rw [hhp]; exact vx_Zq.moved hW0.alike (hU.kept hS.2.1)
  have hN' : vx_Zq Bundle.tN "SUPPRESSED_SENTINEL" Bundle.listD A s' s'.heap := by rw [hhp]; exact vx_Zq.moved hW0.alike (hN.kept hS.2.1)
  have h : ∀ w ∈ Bundle.ownAtoms own ic cls names, w.before args s' = true := vx_own hat' (vx_isRefq hU'.1) (vx_isRefq hN'.1) hU'.2.word hN'.2.word
  have hown' : s'.vm.findClass own = some m.cls := by rw [hvm]; exact hown
  have hins : (Cond.instantiable cls 6).before args s' = true := h _ (by simp [Bundle.ownAtoms])
  obtain ⟨vm₁, cX, kX, hfX, hkX, -, -, X₁, st1⟩ := Y.newCold hexec (own := own) (C := cls) (index := ik) (n := 6) hown' hk' hins hini'
    (g := F0 m pc ls rest) rfl (by rw [hb]; exact d0) (Nat.le_refl _) (Nat.le_refl _)
  generalize hT1 : (T.setVm vm₁).pushCell { cls := cX, slots := kX.instanceTypes.map defaultValue, vm := .none } = T1 at X₁ st1
  have hcat : (Value.ref T.heap.size).category = 1 := rfl
  have hcellA : T1.heap[T.heap.size]? = some (freshCell cX kX) := by rw [← hT1]; exact State.heap_pushCell_size _ _
  have d3' : decode c.code (pc + 3) = .ok (.dup, 1) := by rw [hb]; exact d3
  have d4' : decode c.code (pc + 4) = .ok (.ldc is, 2) := by rw [hb]; exact d4
  have hstr' : vk_R own is text sa s' := vk_R.warm hW0 hstr
  obtain ⟨U, hsteps, hrun, hend, hW, hsame, ce, hce, hO⟩ := X₁.ctorThrowS hexec htr (own := own) (cls := cls) (names := names) (ic := ic) hown' hcls hnames h (fun x hx => nomatch hx) hfX hkX hcellA (by rw [hhp, hT]; exact Nat.le_refl _) (msg := .ref sa) rfl
    (g := { method := m, pc := pc + 6, locals := ls, stack := .ref sa :: .ref T.heap.size :: .ref T.heap.size :: rest, locked := none }) rfl hsize rfl rfl (rest := rest) rfl
    (by rw [hb]; exact d6) (by rw [hb]; exact d9) hout hRframes (by simp only [List.map_cons, List.sum_cons, hcat]; omega) hlocks
  obtain ⟨f1, f2⟩ := vx_frame hsame
  rw [hhp] at f1 f2
  have hWs : s.WarmedH U.vm := State.WarmedH.trans hW0 hW
  have hcl : s.vm.findClass cls = some ce.cls := by
    have h9 := hO.cls
    rw [hvm] at h9
    exact h9
  have hall : s.sameButNew ({ U with vm := s.vm } : State) locs mc ms := by
    subst hA
    obtain ⟨e1, e2⟩ := hsame
    rw [State.setFrames_setFrames] at e1
    have h2 : (T.setVm s.vm).sameButNew ({ U with vm := s.vm } : State) [] (0 + 1) (0 + 6) := ⟨e1, e2⟩
    have h3 := X.same.trans h2
    rw [List.append_nil] at h3
    exact h3.mono hc hs
  refine ⟨U, ?_, .threw T.heap.size, hrun, hend, Or.inr ⟨T.heap.size, rfl, cls, ce, locs, hx U hWs.alike f1 (fun q hq => f2 q hq (fun z hz => nomatch hz)), hce, hO.vm, hcl, hWs, hall, hf⟩⟩
  refine st1 _ ?_
  show Steps p.tables e below (T1.setTop { method := m, pc := pc + 3, locals := ls, stack := .ref T.heap.size :: rest, locked := none }) _
  jvm_step X₁.here [X₁.here.top, hexec, d3', Value.category]
  exact X₁.ldcString hexec (own := own) (text := text) (index := is) (a := sa) hown' hstr'.1 hstr'.2
    (g := { method := m, pc := pc + 4, locals := ls, stack := .ref T.heap.size :: .ref T.heap.size :: rest, locked := none }) rfl d4' _ hsteps
/-- 'throw new E("text")', the text by a wide index -/
theorem vx_throwSW {cc : ByteArray} {pc : Nat} (hexec : p.tables.exec = Jvm.exec) (hb : c.code = cc) (hl : l.stackTraces = false) {own cls text : String} {names : List String} {ik is ic mc ms sa : Nat} {A : Nat → Prop}
    (hown : s.vm.findClass own = some m.cls) (hcls : Bundle.fit cls = true) (hnames : ∀ n ∈ names, Bundle.fit n = true)
    (hk : (Cond.classLink own ik cls).before args s = true) (hini : (Cond.initialized cls).before args s = true) (hstr : vk_R own is text sa s) (hat : ∀ w ∈ vx_atS own ic cls names, w.before args s = true)
    (hgood : ∀ w ∈ Cond.classLink own ik cls :: Cond.initialized cls :: vx_atS own ic cls names, vx_ot w = true)
    (hU : vx_Zq Bundle.tN "UNASSIGNED_STACK" Bundle.steD A s s.heap) (hN : vx_Zq Bundle.tN "SUPPRESSED_SENTINEL" Bundle.listD A s s.heap) (hS : va_S A s.heap H locs) (hsize : ls.size = c.maxLocals)
    (d0 : decode cc pc = .ok (.new ik, 3)) (d3 : decode cc (pc + 3) = .ok (.dup, 1)) (d4 : decode cc (pc + 4) = .ok (.ldc_w is, 3)) (d7 : decode cc (pc + 7) = .ok (.invokespecial ic, 3)) (d10 : decode cc (pc + 10) = .ok (.athrow, 1))
    (hout : ∀ x ∈ c.exceptionTable.toList, covers x (pc + 10) = false)
    (hRframes : names.length + 3 < R.frames) (hRlocals : (rest.map fun v => v.category).sum + (13 * (names.length + 1) + 43) ≤ R.locals) (hRcells : cells + 1 ≤ R.cells) (hRslots : slots + 6 ≤ R.slots) (hlocks : meth.locks = false)
    (hx : ∀ t : State, s.vm.Alike t.vm → H.size ≤ t.heap.size → (∀ q : Nat, q < H.size → t.heap[q]? = H[q]?) → XC cls s t)
    (hf : ∀ z ∈ locs, free z.base) (hc : cells + 1 ≤ mc) (hs : slots + 6 ≤ ms) :
    W p l e R s m args below meth c H locs cells slots (vx_MQ below Qc XC args s mc ms free) (F0 m pc ls rest) := by
  intro T hT X
  have htr : e.platform.stackTraces = false := (show e.platform.stackTraces = l.stackTraces by rw [X.admits.platform]).trans hl
  have Y := vx_rebase X (R' := { frames := R.frames, locals := R.locals, cells := 1, slots := 6 }) (Nat.le_refl _) (Nat.le_refl _) hRcells hRslots
  obtain ⟨s', hA⟩ : ∃ z, z = (T.setVm s.vm).setFrames (.invoking m args :: below) := ⟨_, rfl⟩
  rw [← hA] at Y
  have hvm : s'.vm = s.vm := by rw [hA]; rfl
  have hhp : s'.heap = H := by rw [hA]; exact hT
  have hW0 : s.WarmedH s'.vm := by rw [hvm]; exact State.WarmedH.refl s
  have hat' : ∀ w ∈ vx_atS own ic cls names, w.before args s' = true := fun w hw => vx_ot_at hW0 hvm.symm (hgood w (List.mem_cons_of_mem _ (List.mem_cons_of_mem _ hw))) (hat w hw)
  have hk' : (Cond.classLink own ik cls).before args s' = true := vx_ot_at hW0 hvm.symm (hgood _ List.mem_cons_self) hk
  have hini' : (Cond.initialized cls).before args s' = true := vx_ot_at hW0 hvm.symm (hgood _ (List.mem_cons_of_mem _ List.mem_cons_self)) hini
  have hU' : vx_Zq Bundle.tN "UNASSIGNED_STACK" Bundle.steD A s' s'.heap := by rw [hhp]; exact vx_Zq.moved hW0.alike (hU.kept hS.2.1)
  have hN' : vx_Zq Bundle.tN "SUPPRESSED_SENTINEL" Bundle.listD A s' s'.heap := by rw [hhp]; exact vx_Zq.moved hW0.alike (hN.kept hS.2.1)
  have h : ∀ w ∈ Bundle.ownAtoms own ic cls names, w.before args s' = true := vx_own hat' (vx_isRefq hU'.1) (vx_isRefq hN'.1) hU'.2.word hN'.2.word
  have hown' : s'.vm.findClass own = some m.cls := by rw [hvm]; exact hown
  have hins : (Cond.instantiable cls 6).before args s' = true := h _ (by simp [Bundle.ownAtoms])
  obtain ⟨vm₁, cX, kX, hfX, hkX, -, -, X₁, st1⟩ := Y.newCold hexec (own := own) (C := cls) (index := ik) (n := 6) hown' hk' hins hini'
    (g := F0 m pc ls rest) rfl (by rw [hb]; exact d0) (Nat.le_refl _) (Nat.le_refl _)
  generalize hT1 : (T.setVm vm₁).pushCell { cls := cX, slots := kX.instanceTypes.map defaultValue, vm := .none } = T1 at X₁ st1
  have hcat : (Value.ref T.heap.size).category = 1 := rfl
  have hcellA : T1.heap[T.heap.size]? = some (freshCell cX kX) := by rw [← hT1]; exact State.heap_pushCell_size _ _
  have d3' : decode c.code (pc + 3) = .ok (.dup, 1) := by rw [hb]; exact d3
  have d4' : decode c.code (pc + 4) = .ok (.ldc_w is, 3) := by rw [hb]; exact d4
  have hstr' : vk_R own is text sa s' := vk_R.warm hW0 hstr
  obtain ⟨U, hsteps, hrun, hend, hW, hsame, ce, hce, hO⟩ := X₁.ctorThrowS hexec htr (own := own) (cls := cls) (names := names) (ic := ic) hown' hcls hnames h (fun x hx => nomatch hx) hfX hkX hcellA (by rw [hhp, hT]; exact Nat.le_refl _) (msg := .ref sa) rfl
    (g := { method := m, pc := pc + 7, locals := ls, stack := .ref sa :: .ref T.heap.size :: .ref T.heap.size :: rest, locked := none }) rfl hsize rfl rfl (rest := rest) rfl
    (by rw [hb]; exact d7) (by rw [hb]; exact d10) hout hRframes (by simp only [List.map_cons, List.sum_cons, hcat]; omega) hlocks
  obtain ⟨f1, f2⟩ := vx_frame hsame
  rw [hhp] at f1 f2
  have hWs : s.WarmedH U.vm := State.WarmedH.trans hW0 hW
  have hcl : s.vm.findClass cls = some ce.cls := by
    have h9 := hO.cls
    rw [hvm] at h9
    exact h9
  have hall : s.sameButNew ({ U with vm := s.vm } : State) locs mc ms := by
    subst hA
    obtain ⟨e1, e2⟩ := hsame
    rw [State.setFrames_setFrames] at e1
    have h2 : (T.setVm s.vm).sameButNew ({ U with vm := s.vm } : State) [] (0 + 1) (0 + 6) := ⟨e1, e2⟩
    have h3 := X.same.trans h2
    rw [List.append_nil] at h3
    exact h3.mono hc hs
  refine ⟨U, ?_, .threw T.heap.size, hrun, hend, Or.inr ⟨T.heap.size, rfl, cls, ce, locs, hx U hWs.alike f1 (fun q hq => f2 q hq (fun z hz => nomatch hz)), hce, hO.vm, hcl, hWs, hall, hf⟩⟩
  refine st1 _ ?_
  show Steps p.tables e below (T1.setTop { method := m, pc := pc + 3, locals := ls, stack := .ref T.heap.size :: rest, locked := none }) _
  jvm_step X₁.here [X₁.here.top, hexec, d3', Value.category]
  exact X₁.ldcStringW hexec (own := own) (text := text) (index := is) (a := sa) hown' hstr'.1 hstr'.2
    (g := { method := m, pc := pc + 4, locals := ls, stack := .ref T.heap.size :: .ref T.heap.size :: rest, locked := none }) rfl d4' _ hsteps
end Ends
section Bodies
variable {l : Launch}
theorem vx_ofW {y : MethodName} {ws ws' : List Cond} {rm : Room} {Pc : Array Value → State → Prop} {Qc : Array Value → State → Outcome → State → Prop} {XC : String → State → State → Prop} {mc ms : Nat} {free : Addr → Prop} {cc : ByteArray} {maxL : Nat} {ret : Option FieldType}
    (hy : plainName y.cls = true) (hw : ws = Cond.code y cc maxL ret :: ws')
    (body : ∀ p e s m args below meth c s₁, BodyLoose p l y (headSpec ws rm) cc maxL ret e s m args below meth c s₁ → c.maxLocals = maxL → (∀ x ∈ c.exceptionTable.toList, False) → Pc args s →
      W p l e (headSpec ws rm).room s m args below meth c s.heap [] 0 0 (vx_MQ below Qc XC args s mc ms free) (entryFrame m args maxL)) : vx_Met l y ws rm Pc Qc XC mc ms free := by
  refine MetFree.of_bodyS (code := cc) (maxLocals := maxL) (ret := ret) hy ?_ ?_
  · intro args s m h hn
    obtain ⟨meth, c, h1, h2, h3, h4, h5, h6, -, -⟩ := Cond.code_spec hn (atoms_spec (ws := ws) h _ (by rw [hw]; exact List.mem_cons_self))
    exact ⟨meth, c, h1, h2, h3, h4, h5, h6⟩
  · intro p e s m args below meth c s₁ B hml hP _
    have hh0 : s₁.heap = s.heap := by rw [B.state]; rfl
    have ht : ∀ x ∈ c.exceptionTable.toList, False := by
      obtain ⟨meth9, c9, h1, h2, -, -, -, -, h7, -⟩ := Cond.code_spec B.named (atoms_spec (ws := ws) B.pre _ (by rw [hw]; exact List.mem_cons_self))
      cases Option.some.inj (h1.symm.trans B.method)
      cases Option.some.inj (h2.symm.trans (Stand.of_body B).code)
      intro x hx
      rw [Array.isEmpty_iff.mp h7] at hx
      cases hx
    obtain ⟨t, a1, o, b1, b2, b3⟩ := body p e s m args below meth c s₁ B hml ht hP s₁ hh0 (Stand.of_body B)
    exact ⟨t, o, a1, b1, b2, b3⟩
/-- the table of a body with handlers -/
theorem vx_table {p : Program} {x y : MethodName} {S : Spec} {cc bytes : ByteArray} {maxL maxL' : Nat} {ret ret' : Option FieldType} {e : Env} {s s₁ : State} {m : MethodId} {args : Array Value} {below : List Frame} {meth : Method} {c : Code} {hh : List (Nat × Nat × Nat × Nat)}
    (B : BodyLoose p l y S cc maxL ret e s m args below meth c s₁) (h : (Cond.codeWith y bytes maxL' ret' hh).before args s = true) : c.exceptionTable.toList = tableOf hh := by
  obtain ⟨m9, meth9, c9, hn9, h1, h2, -, -, h6, -⟩ := Cond.codeWith_spec h
  cases Option.some.inj (hn9.symm.trans B.named)
  cases Option.some.inj (h1.symm.trans B.method)
  cases Option.some.inj (h2.symm.trans (Stand.of_body B).code)
  rw [← h6, table_eq]
end Bodies
end VXA
/-! ===== END ===== -/
/-! ===== BEGIN a static call of a method with an exception table ===== -/
section VXS
variable {p : Program} {l : Launch} {e : Env} {R : Room} {s : State} {m : MethodId} {args : Array Value} {below : List Frame} {meth : Method} {c : Code} {T : State} {H : Heap} {locs : List Loc} {cells slots : Nat}
abbrev vx_CSW (R : Room) (s : State) (args : Array Value) (own : String) (index : Nat) (y : MethodName) (bytes : ByteArray) (maxL : Nat) (ret : Option FieldType) (hh : List (Nat × Nat × Nat × Nat)) (ws : List Cond) (rm : Room) (mc ms n : Nat) : Prop :=
  (rm.cells = mc ∧ rm.slots = ms ∧ rm.frames + 1 ≤ R.frames ∧ 8 + (maxL + 11) + rm.locals ≤ R.locals ∧ (∀ w ∈ ws, ∀ (a' : Array Value) (U : State), s.WarmedH U.vm → w.before a' U = true) ∧ Cond.codeWith y bytes maxL ret hh ∈ ws) ∧
  (Cond.codeWith y bytes maxL ret hh).before args s = true ∧ (Cond.initialized y.cls).before args s = true ∧ (y.cls ≠ "java/lang/invoke/MethodHandle" ∧ y.cls ≠ "java/lang/invoke/VarHandle") ∧
  (∀ sig, parseMethodDescriptor y.desc = some sig → n = sig.parameters.length) ∧ (Cond.methodLink own index y).before args s = true ∧ (Cond.static y).before args s = true
theorem vx_cwSW {own : String} {index maxL mc ms : Nat} {y : MethodName} {bytes : ByteArray} {ret : Option FieldType} {hh : List (Nat × Nat × Nat × Nat)} {Ts ws ws' : List Cond} {rm : Room} (n : Nat) (ht : ∀ w ∈ Ts, w.before args s = true) (hT : GoodIn Ts (va_wsS own index y ws)) (hw : ws = Cond.codeWith y bytes maxL ret hh :: ws') (hrc : rm.cells = mc) (hrs : rm.slots = ms)
    (hd : y.cls ≠ "java/lang/invoke/MethodHandle" ∧ y.cls ≠ "java/lang/invoke/VarHandle" ∧ (parseMethodDescriptor y.desc).map (fun d => d.parameters.length) = some n) (hR : rm.frames + 1 ≤ R.frames ∧ 8 + (maxL + 11) + rm.locals ≤ R.locals) :
    vx_CSW R s args own index y bytes maxL ret hh ws rm mc ms n := by
  have ok : ∀ w ∈ va_wsS own index y ws, w.before args s = true := fun w h => ht w (hT w h).1
  have hG : GoodIn Ts ws := fun w h => hT w (by unfold va_wsS; exact List.mem_append_right _ h)
  have hc : Cond.codeWith y bytes maxL ret hh ∈ ws := by rw [hw]; exact List.mem_cons_self
  refine ⟨⟨hrc, hrs, hR.1, hR.2, pay_in ht hG, hc⟩, ht _ (hG _ hc).1, ok _ (by simp [va_wsS]), ⟨hd.1, hd.2.1⟩, fun sig h => ?_, ok _ (by simp [va_wsS]), ok _ (by simp [va_wsS])⟩
  have h2 := hd.2.2
  rw [h] at h2
  exact (Option.some.inj h2).symm
theorem vx_callSW (X : Stand p l e R s m args below meth c T locs cells slots) (hexec : p.tables.exec = Jvm.exec) {own : String} {index : Nat} {y : MethodName} {bytes : ByteArray} {maxL : Nat} {ret : Option FieldType} {hh : List (Nat × Nat × Nat × Nat)}
    (hown : s.vm.findClass own = some m.cls) (hlink : (Cond.methodLink own index y).before args s = true) (hstat : (Cond.static y).before args s = true) (hinit : (Cond.initialized y.cls).before args s = true)
    (hcode : (Cond.codeWith y bytes maxL ret hh).before args s = true) (hy : y.cls ≠ "java/lang/invoke/MethodHandle" ∧ y.cls ≠ "java/lang/invoke/VarHandle")
    {W9 : Nat} {Pre : Pt → Array Value → Prop} {Post : Pt → Array Value → Option Value → Pt → Prop} (hK : Back l R p e below s args y 3 W9 Pre Post)
    {g : JFrame} (hg : g.method = m) (hsize : g.locals.size = c.maxLocals) {argsL rest : List Value} (hlen : ∀ sig, parseMethodDescriptor y.desc = some sig → argsL.length = sig.parameters.length)
    (hstack : g.stack = argsL.reverse ++ rest) (hW : 2 * g.monitorRoom + (rest.map fun v => v.category).sum ≤ W9) (hdg : decode c.code g.pc = .ok (.invokestatic index, 3))
    (hpre : ∀ vm₁, s.WarmedH vm₁ → Pre ⟨T.setVm vm₁, locs, cells, slots⟩ argsL.toArray) :
    ∃ (v : Option Value) (vm₁ : Vm) (B : Pt), s.WarmedH vm₁ ∧ Stand p l e R s m args below meth c B.U B.locs B.cells B.slots ∧ Post ⟨T.setVm vm₁, locs, cells, slots⟩ argsL.toArray v B ∧
      ∀ target, Steps p.tables e below (B.U.setTop { g with pc := g.pc + 3, stack := v.toList ++ rest }) target → Steps p.tables e below (T.setTop g) target := by
  obtain ⟨mk, methM, cM, hnamed, hmethM, -, -, -, -, -, -, hsigM⟩ := Cond.codeWith_spec hcode
  have hstatic : methM.isStatic = true := Cond.static_spec hnamed hmethM hstat
  obtain ⟨kP, hkP, -⟩ := className_of_methodNamed hnamed
  have hinitP : kP.init = .initialized := Cond.initialized_spec (findClass_of_methodNamed hnamed) hkP hinit
  obtain ⟨vm₁, X₁, hstep₁⟩ := X.invokestatic hexec hown hlink hnamed hmethM hstatic hkP hinitP hy (g := g) hg (argsL := argsL) (rest := rest) (hlen _ hsigM) hstack hdg
  obtain ⟨v, B, X', hpost, hsteps⟩ := hK m meth c ⟨T.setVm vm₁, locs, cells, slots⟩ { g with stack := rest } (.invokestatic index) mk argsL.toArray X₁ hg hsize hdg hW (X₁.named hnamed) (hpre vm₁ X₁.warmed)
  exact ⟨v, vm₁, B, X₁.warmed, X', hpost, fun target h => hstep₁ _ fun acts => by rw [doInvoke_state]; exact hsteps.trans h⟩
theorem vx_runSW {y : MethodName} {bytes cc : ByteArray} {maxL nL mc ms n index : Nat} {ret : Option FieldType} {hh : List (Nat × Nat × Nat × Nat)} {ws : List Cond} {rm : Room} {Pc : Array Value → State → Prop} {Qc : Array Value → State → Outcome → State → Prop} {free : Addr → Prop} {Ts : List Cond} {own : String} {As rest : List Value} {g : JFrame}
    (S : CallFix p m c cc nL s args Ts own) (hM : Met l y ws rm Pc Qc mc ms free) (cw : vx_CSW R s args own index y bytes maxL ret hh ws rm mc ms n) (hp : PreS s H Pc As)
    (hg : g.method = m) (hn : As.length = n) (hsize : g.locals.size = nL) (hstack : g.stack = As.reverse ++ rest) (hW : 2 * g.monitorRoom + (rest.map fun v => v.category).sum ≤ 8) (hdg : decode cc g.pc = .ok (.invokestatic index, 3)) (hf : cells + mc ≤ R.cells ∧ slots + ms ≤ R.slots) :
    va_Run p l e R s m args below meth c H locs cells slots mc ms g rest (Qc As.toArray) (free) := by
  obtain ⟨⟨hrc, hrs, hfr, hlo, hws, hcw⟩, hcode, hini, hy, hlen, hl, hstt⟩ := cw
  have hK : Back l R p e below s args y 3 8 (PreOf R mc ms Pc) (PostOf Qc mc ms free) := va_backW (hh := hh) (bytes := bytes) (maxL := maxL) (ret := ret) hM hp.1 hrc hrs hfr hlo hws hcw (fun a' U hW => word_at hW (Or.inl (by first | rfl | simp [Cond.onTables, Cond.keeps, Cond.steady])) hini)
  obtain ⟨hx, hb, hml, ho, -⟩ := S
  intro T hT X
  obtain ⟨v, vm₁, ⟨U', l2, c2, s2⟩, hW₁, X', ⟨g', mk, t, L, e1, e2, hq, h1, hL, h2, h3⟩, st⟩ := vx_callSW X hx (hh := hh) (bytes := bytes) (maxL := maxL) (ret := ret) ho hl hstt hini hcode hy hK hg (hsize.trans hml.symm) (argsL := As) (rest := rest) (fun sig h => hn.trans (hlen sig h)) hstack hW (by rw [hb]; exact hdg)
    (fun vm₁ hW₁ => ⟨hf.1, hf.2, hp.2 (T.setVm vm₁) hT hW₁⟩)
  dsimp only [Pt.U, Pt.locs, Pt.cells, Pt.slots] at X' e1 e2 h1 h2 h3 st
  subst h1; subst h2; subst h3
  exact ⟨v, (T.setVm vm₁).calling g' mk As.toArray, t, U', L, hT, X', hL, e1, e2, hq, st⟩
/-- not caught here, past rows that name other classes: it goes on to the caller -/
theorem vx_outP {p : Program} {l : Launch} {e : Env} {R : Room} {s : State} {m : MethodId} {args : Array Value} {below : List Frame} {meth : Method} {c : Code} {H : Heap} {locs : List Loc} {cells slots : Nat} {free : Addr → Prop} {ls : Array Slot} {rest : List Value} {Qc : Array Value → State → Outcome → State → Prop} {XC : String → State → State → Prop}
    {pc : Nat} {own E : String} {ce : Cell} {q : Addr} {mc ms : Nat} (hown : s.vm.findClass own = some m.cls) (hlocks : meth.locks = false)
    (hpass : ∀ z ∈ c.exceptionTable.toList, covers z pc = false ∨ (z.catchType ≠ 0 ∧ ∃ nm : String, (Cond.classLink own z.catchType nm).before args s = true ∧ va_Nc E nm s)) (hcell : H[q]? = some ce) (hv : ce.vm = .none) (hcl : s.vm.findClass E = some ce.cls)
    (hx : ∀ t : State, t.heap = H → s.vm.Alike t.vm → XC E s t) (hf : ∀ z ∈ locs, free z.base) (hc : cells ≤ mc) (hs : slots ≤ ms) :
    vx_W p l e R s m args below meth c H locs cells slots (vx_MQ below Qc XC args s mc ms free) (F0 m pc ls rest) q := by
  intro T hT X
  have hpl : e.platform.magicAccessors = ({} : Platform).magicAccessors := by rw [X.admits.platform]
  obtain ⟨vm', hW', X', st⟩ := X.outThrough hlocks q (g := F0 m pc ls rest) rfl rfl rfl (cell := ce) (by rw [hT]; exact hcell) (by rw [hv]; rfl)
    (by obtain ⟨k9, h9, -⟩ := Vm.findClass_spec hcl; exact ⟨k9, h9⟩) (fun z hz => by
      rcases hpass z hz with h | ⟨hz0, nm, hl1, hn1⟩
      · exact Or.inl h
      · obtain ⟨c6, hc6, hcl6⟩ := Cond.classLink_spec hown hl1 e.platform hpl
        obtain ⟨a8, b8, h1, h2, h3⟩ := hn1
        cases Option.some.inj (h1.symm.trans hcl)
        cases Option.some.inj (h2.symm.trans hc6)
        exact Or.inr ⟨hz0, _, hcl6, h3⟩)
  obtain ⟨g₀, hfr⟩ := X'.frames_eq
  have hcell9 : ((T.setVm vm').setFrames (.throwing q :: below)).heap[q]? = some ce := by
    show T.heap[q]? = some ce
    rw [hT]; exact hcell
  have hend : Ended ((T.setVm vm').setFrames (.throwing q :: below)) below (.threw q) := State.frames_setFrames _ (State.cur_lt_of_frames hfr)
  refine ⟨(T.setVm vm').setFrames (.throwing q :: below), ?_, .threw q, X'.here.running, hend, Or.inr ⟨q, rfl, E, ce, locs, hx _ hT (X'.ends _).1.alike, hcell9, hv, hcl, (X'.ends _).1, (X'.ends _).2.mono hc hs, hf⟩⟩
  rw [X.pushThrowing_eq]
  exact st
/-- a thing of a world lies in the heap -/
theorem vx_lt {D : va_G} {cl : List vw_C} {ws : va_W} {H1 : Heap} (h : va_P D cl ws H1) {k : Nat} {q : Nat × va_E} (hk : ws[k]? = some q) : q.1 < H1.size := (h k q hk).lt
end VXS
/-! ===== END ===== -/
/-! ===== BEGIN methods with a table of their own: called by a name, returning or throwing ===== -/
section VXH
/-! vx_backW, vx_callVX, vx_callSX, vx_callVW, vx_runVW, vx_runVX, vx_runSX, vx_ofWH follow the same proofs as their sisters above (Free/Laws.lean, Shelf42/LK1.lean); vx_outP calls Shelf42/NT130.lean (outThrough). -/
section
variable {l : Launch} {R : Room} {p : Program} {e : Env} {below : List Frame} {s : State} {sargs : Array Value} {y : MethodName} {len W9 : Nat}
theorem vx_backW {ws : List Cond} {rm : Room} {Pc : Array Value → State → Prop} {Qc : Array Value → State → Outcome → State → Prop} {XC : String → State → State → Prop} {mc ms : Nat} {free : Addr → Prop} {bytes : ByteArray} {maxL : Nat} {ret : Option FieldType} {hh : List (Nat × Nat × Nat × Nat)}
    (hM : vx_Met l y ws rm Pc Qc XC mc ms free) (hblind : FrameBlind Pc) (hrc : rm.cells = mc) (hrs : rm.slots = ms)
    (hframes : rm.frames + 1 ≤ R.frames) (hlocals : W9 + (maxL + 11) + rm.locals ≤ R.locals)
    (hws : ∀ w ∈ ws, ∀ a' U, s.WarmedH U.vm → w.before a' U = true) (hcode : Cond.codeWith y bytes maxL ret hh ∈ ws) (hinit : ∀ a' U, s.WarmedH U.vm → (Cond.initialized y.cls).before a' U = true) :
    vx_Back l R p e below s sargs y len W9 (PreOf R mc ms Pc) (PostOf Qc mc ms free) (vx_Post XC mc ms free) := by
  intro m meth c A g ig mk a X hg hsize hdg hW hn hp
  have h1 : (headSpec ws rm).pre.before a A.U = true := atoms_intro fun w hw => hws w hw _ _ X.warmed
  have h2 : (Cond.codeWith y bytes maxL ret hh).before a A.U = true := hws _ hcode _ _ X.warmed
  have h3 : (Cond.initialized y.cls).before a A.U = true := hinit _ _ X.warmed
  have h4 : A.cells + (headSpec ws rm).room.cells ≤ R.cells := by rw [show (headSpec ws rm).room.cells = mc from hrc]; exact hp.1
  have h5 : A.slots + (headSpec ws rm).room.slots ≤ R.slots := by rw [show (headSpec ws rm).room.slots = ms from hrs]; exact hp.2.1
  have hPc : Pc a (A.U.calling g mk a) := hblind _ _ _ _ hp.2.2
  obtain ⟨U, Ls, c0, s0⟩ := A
  dsimp only [Pt.U, Pt.locs, Pt.cells, Pt.slots] at h1 h2 h3 h4 h5 X hn hPc ⊢
  obtain ⟨m9, methY, cY, hn9, hmY, hcY, -, hlY, -⟩ := Cond.codeWith_spec h2
  cases Option.some.inj (hn9.symm.trans hn)
  obtain ⟨kY, hkY, -⟩ := className_of_methodNamed hn
  have hinitY : kY.init = .initialized := Cond.initialized_spec (findClass_of_methodNamed hn) hkY h3
  have h : At U g.method c below := by rw [hg]; exact X.here
  have hlocals9 : W9 + (maxL + 11) + (headSpec ws rm).room.locals ≤ R.locals := hlocals
  have happ : (headSpec ws rm).appliesLoose y e.platform (U.calling g mk a) = true :=
    Spec.appliesLoose_calling (g := g) h hdg hn hkY hinitY
      (X.room_calling (g := g) (R' := (headSpec ws rm).room) hsize hmY hcY hframes (by rw [hlY]; omega) h4 h5) h1
  obtain ⟨mid, hmid⟩ := h.above
  have hfr : (U.setTop g).frames = (.java g :: mid) ++ below := by rw [State.frames_setTop' g h.top, hmid]; rfl
  obtain ⟨o, s₂, hsteps, -, hend, hq⟩ := Steps.callFree hM p X.admits X.cas X.clock (acts := []) hfr happ hPc trivial
  have hq' : vx_Q Qc XC mc ms free a (U.calling g mk a) o s₂ := hq
  rw [State.frames_setTop' g h.top] at hend
  obtain ⟨g₀, hg0⟩ := Option.isSome_iff_exists.mp h.top
  obtain ⟨r, hr⟩ := State.topJava?_eq_some.mp hg0
  have hr' : (({ U with heap := s₂.heap, slotsUsed := s₂.slotsUsed } : State).setVm s₂.vm).frames = .java g₀ :: r := hr
  rcases hq' with ⟨hqc, L, hfe, hL⟩ | ⟨q, rfl, E, ce, L, hx, hce, hcv, hcl, hW₂, hsm, hL⟩
  · obtain ⟨⟨v, rfl⟩, hW₂, e2, q2, q3, q4, q5, q6⟩ := id hfe
    have e3 : s₂ = ({ (U.calling g mk a).setFrames s₂.frames with heap := s₂.heap, slotsUsed := s₂.slotsUsed } : State).setVm s₂.vm := by
      have : s₂ = ({ s₂ with vm := (U.calling g mk a).vm } : State).setVm s₂.vm := rfl
      rw [e2] at this
      exact this
    obtain ⟨c₂, i₂, len₂, hc₂, hd₂, hf₂⟩ := hend
    have hW' : U.WarmedH s₂.vm := hW₂
    have hcc : c₂ = c := by
      have h1 : s₂.code? g.method = U.code? g.method := by
        rw [State.code?_eq, State.code?_eq, hW'.alike.method?]
      exact Option.some.inj (hc₂.symm.trans (h1.trans h.code))
    subst hcc
    have hlen : len₂ = len := by rw [hdg] at hd₂; cases hd₂; rfl
    subst hlen
    have hs₂ : s₂ = (({ U with heap := s₂.heap, slotsUsed := s₂.slotsUsed } : State).setVm s₂.vm).setTop { g with pc := g.pc + len₂, stack := v.toList ++ g.stack } := by
      refine e3.trans ?_
      rw [hf₂, State.calling_eq h.top, State.setFrames_setFrames, State.setTop_of_frames _ hr', hr]
      rfl
    have hsame : U.sameButNew ({ U with heap := s₂.heap, slotsUsed := s₂.slotsUsed } : State) L mc ms := by
      refine ⟨?_, q2, q3, q4, q5, q6⟩
      obtain ⟨t, ht, -⟩ := State.frames_cons hr
      show ({ U with heap := s₂.heap, slotsUsed := s₂.slotsUsed } : State) = { U.setFrames U.frames with heap := s₂.heap, slotsUsed := s₂.slotsUsed }
      rw [State.setFrames_self ht]
    subst hg
    refine Or.inl ⟨v, ⟨(({ U with heap := s₂.heap, slotsUsed := s₂.slotsUsed } : State).setVm s₂.vm), Ls ++ L, c0 + mc, s0 + ms⟩,
      ⟨X.admits, X.cas, X.clock, X.frames, X.room, X.hears, X.method, X.code, (X.here.setHeapUsed s₂.heap s₂.slotsUsed).setVm hW'.alike, X.tail, State.WarmedH.trans X.warmed hW', X.limits, X.bytes, X.same.trans (hsame.setVm s.vm)⟩,
      ⟨g, mk, s₂, L, rfl, rfl, hqc, rfl, hL, rfl, rfl⟩, ?_⟩
    show Steps p.tables e below _ ((({ U with heap := s₂.heap, slotsUsed := s₂.slotsUsed } : State).setVm s₂.vm).setTop { g with pc := g.pc + len₂, stack := v.toList ++ g.stack })
    rw [← hs₂]
    exact hsteps
  · obtain ⟨e2, q2, q3, q4, q5, q6⟩ := id hsm
    have e3 : s₂ = ({ (U.calling g mk a).setFrames s₂.frames with heap := s₂.heap, slotsUsed := s₂.slotsUsed } : State).setVm s₂.vm := by
      have : s₂ = ({ s₂ with vm := (U.calling g mk a).vm } : State).setVm s₂.vm := rfl
      rw [e2] at this
      exact this
    have hf₂ : s₂.frames = .throwing q :: .java g :: U.frames.tail := hend
    have hW' : U.WarmedH s₂.vm := hW₂
    have hs₂ : s₂ = ((({ U with heap := s₂.heap, slotsUsed := s₂.slotsUsed } : State).setVm s₂.vm).setTop g).pushFrame (.throwing q) := by
      refine e3.trans ?_
      rw [hf₂, State.calling_eq h.top, State.setFrames_setFrames, State.pushFrame, State.frames_setTop _ hr', State.setTop_of_frames _ hr', State.setFrames_setFrames, hr]
      rfl
    have hsame : U.sameButNew ({ U with heap := s₂.heap, slotsUsed := s₂.slotsUsed } : State) L mc ms := by
      refine ⟨?_, q2, q3, q4, q5, q6⟩
      obtain ⟨t, ht, -⟩ := State.frames_cons hr
      show ({ U with heap := s₂.heap, slotsUsed := s₂.slotsUsed } : State) = { U.setFrames U.frames with heap := s₂.heap, slotsUsed := s₂.slotsUsed }
      rw [State.setFrames_self ht]
    subst hg
    refine Or.inr ⟨q, ⟨(({ U with heap := s₂.heap, slotsUsed := s₂.slotsUsed } : State).setVm s₂.vm), Ls ++ L, c0 + mc, s0 + ms⟩,
      ⟨X.admits, X.cas, X.clock, X.frames, X.room, X.hears, X.method, X.code, (X.here.setHeapUsed s₂.heap s₂.slotsUsed).setVm hW'.alike, X.tail, State.WarmedH.trans X.warmed hW', X.limits, X.bytes, X.same.trans (hsame.setVm s.vm)⟩,
      ⟨g, mk, s₂, L, E, ce, rfl, rfl, hx, hce, hcv, hcl, rfl, hL, rfl, rfl⟩, ?_⟩
    show Steps p.tables e below _ (((({ U with heap := s₂.heap, slotsUsed := s₂.slotsUsed } : State).setVm s₂.vm).setTop g).pushFrame (.throwing q))
    rw [← hs₂]
    exact hsteps
end
variable {p : Program} {l : Launch} {e : Env} {R : Room} {s : State} {m : MethodId} {args : Array Value} {below : List Frame} {meth : Method} {c : Code} {T : State} {H : Heap} {locs : List Loc} {cells slots : Nat}
theorem vx_callVX (X : Stand p l e R s m args below meth c T locs cells slots) (hexec : p.tables.exec = Jvm.exec) {own C : String} {index : Nat} {y : MethodName} {bytes : ByteArray} {maxL : Nat} {ret : Option FieldType} {hh : List (Nat × Nat × Nat × Nat)}
    (hown : s.vm.findClass own = some m.cls) (hlink : (Cond.methodLink own index y).before args s = true) (hinst : (Cond.instanceMethod y).before args s = true) (hsel : (Cond.selects C y y).before args s = true)
    (hcode : (Cond.codeWith y bytes maxL ret hh).before args s = true) (hy : y.cls ≠ "java/lang/invoke/MethodHandle" ∧ y.cls ≠ "java/lang/invoke/VarHandle")
    {W9 : Nat} {Pre : Pt → Array Value → Prop} {Post : Pt → Array Value → Option Value → Pt → Prop} {PostX : Pt → Array Value → Addr → Pt → Prop} (hK : vx_Back l R p e below s args y 3 W9 Pre Post PostX)
    {b : Addr} {cellB : Cell} (hcell : T.heap[b]? = some cellB) (hobj : cellB.vm.isStatics = false) (hcls : s.vm.findClass C = some cellB.cls)
    {g : JFrame} (hg : g.method = m) (hsize : g.locals.size = c.maxLocals) {argsL rest : List Value} (hlen : ∀ sig, parseMethodDescriptor y.desc = some sig → argsL.length = sig.parameters.length)
    (hstack : g.stack = argsL.reverse ++ .ref b :: rest) (hW : 2 * g.monitorRoom + (rest.map fun v => v.category).sum ≤ W9) (hdg : decode c.code g.pc = .ok (.invokevirtual index, 3))
    (hpre : ∀ vm₁, s.WarmedH vm₁ → Pre ⟨T.setVm vm₁, locs, cells, slots⟩ (Value.ref b :: argsL).toArray) :
    (∃ (v : Option Value) (vm₁ : Vm) (B : Pt), s.WarmedH vm₁ ∧ Stand p l e R s m args below meth c B.U B.locs B.cells B.slots ∧ Post ⟨T.setVm vm₁, locs, cells, slots⟩ (Value.ref b :: argsL).toArray v B ∧
      ∀ target, Steps p.tables e below (B.U.setTop { g with pc := g.pc + 3, stack := v.toList ++ rest }) target → Steps p.tables e below (T.setTop g) target) ∨
    (∃ (q : Addr) (vm₁ : Vm) (B : Pt), s.WarmedH vm₁ ∧ Stand p l e R s m args below meth c B.U B.locs B.cells B.slots ∧ PostX ⟨T.setVm vm₁, locs, cells, slots⟩ (Value.ref b :: argsL).toArray q B ∧
      Steps p.tables e below (T.setTop g) ((B.U.setTop { g with stack := rest }).pushFrame (.throwing q))) := by
  obtain ⟨mk, methM, hnamed, hmethM, hstM, habM⟩ := Cond.instanceMethod_spec hinst
  obtain ⟨m8, methM', cM, hn8, hmethM', -, -, -, -, -, -, hsigM⟩ := Cond.codeWith_spec hcode
  cases Option.some.inj (hn8.symm.trans hnamed)
  cases hmethM.symm.trans hmethM'
  obtain ⟨c2, r2, m2, q1, q2, q3, q4, kP, hkP, hkPi⟩ := Cond.selects_spec hsel
  cases hcls.symm.trans q1
  cases (State.methodFound?_of_named hnamed hy).symm.trans q2
  cases hnamed.symm.trans q3
  have hselP : selectMethod e.platform s.vm cellB.cls mk = .method mk := by rw [Launch.admits_selectMethod X.admits]; exact q4
  obtain ⟨vm₁, X₁, hstep₁⟩ := X.invokevirtual hexec hown hlink hnamed hmethM hstM hkP hkPi hy (a := b) (cell := cellB) hcell
    (fun z h => by rw [h] at hobj; cases hobj) hselP hmethM habM hkP hkPi (g := g) hg (argsL := argsL) (rest := rest) (hlen _ hsigM) hstack hdg
  rcases hK m meth c ⟨T.setVm vm₁, locs, cells, slots⟩ { g with stack := rest } (.invokevirtual index) mk (Value.ref b :: argsL).toArray X₁ hg hsize hdg hW (X₁.named hnamed) (hpre vm₁ X₁.warmed) with ⟨v, B, X', hpost, hsteps⟩ | ⟨q, B, X', hpost, hsteps⟩
  · exact Or.inl ⟨v, vm₁, B, X₁.warmed, X', hpost, fun target h => hstep₁ _ fun acts => by rw [doInvoke_state]; exact hsteps.trans h⟩
  · exact Or.inr ⟨q, vm₁, B, X₁.warmed, X', hpost, hstep₁ _ fun acts => by rw [doInvoke_state]; exact hsteps⟩
theorem vx_callSX (X : Stand p l e R s m args below meth c T locs cells slots) (hexec : p.tables.exec = Jvm.exec) {own : String} {index : Nat} {y : MethodName} {bytes : ByteArray} {maxL : Nat} {ret : Option FieldType} {hh : List (Nat × Nat × Nat × Nat)}
    (hown : s.vm.findClass own = some m.cls) (hlink : (Cond.methodLink own index y).before args s = true) (hstat : (Cond.static y).before args s = true) (hinit : (Cond.initialized y.cls).before args s = true)
    (hcode : (Cond.codeWith y bytes maxL ret hh).before args s = true) (hy : y.cls ≠ "java/lang/invoke/MethodHandle" ∧ y.cls ≠ "java/lang/invoke/VarHandle")
    {W9 : Nat} {Pre : Pt → Array Value → Prop} {Post : Pt → Array Value → Option Value → Pt → Prop} {PostX : Pt → Array Value → Addr → Pt → Prop} (hK : vx_Back l R p e below s args y 3 W9 Pre Post PostX)
    {g : JFrame} (hg : g.method = m) (hsize : g.locals.size = c.maxLocals) {argsL rest : List Value} (hlen : ∀ sig, parseMethodDescriptor y.desc = some sig → argsL.length = sig.parameters.length)
    (hstack : g.stack = argsL.reverse ++ rest) (hW : 2 * g.monitorRoom + (rest.map fun v => v.category).sum ≤ W9) (hdg : decode c.code g.pc = .ok (.invokestatic index, 3))
    (hpre : ∀ vm₁, s.WarmedH vm₁ → Pre ⟨T.setVm vm₁, locs, cells, slots⟩ argsL.toArray) :
    (∃ (v : Option Value) (vm₁ : Vm) (B : Pt), s.WarmedH vm₁ ∧ Stand p l e R s m args below meth c B.U B.locs B.cells B.slots ∧ Post ⟨T.setVm vm₁, locs, cells, slots⟩ argsL.toArray v B ∧
      ∀ target, Steps p.tables e below (B.U.setTop { g with pc := g.pc + 3, stack := v.toList ++ rest }) target → Steps p.tables e below (T.setTop g) target) ∨
    (∃ (q : Addr) (vm₁ : Vm) (B : Pt), s.WarmedH vm₁ ∧ Stand p l e R s m args below meth c B.U B.locs B.cells B.slots ∧ PostX ⟨T.setVm vm₁, locs, cells, slots⟩ argsL.toArray q B ∧
      Steps p.tables e below (T.setTop g) ((B.U.setTop { g with stack := rest }).pushFrame (.throwing q))) := by
  obtain ⟨mk, methM, cM, hnamed, hmethM, -, -, -, -, -, -, hsigM⟩ := Cond.codeWith_spec hcode
  have hstatic : methM.isStatic = true := Cond.static_spec hnamed hmethM hstat
  obtain ⟨kP, hkP, -⟩ := className_of_methodNamed hnamed
  have hinitP : kP.init = .initialized := Cond.initialized_spec (findClass_of_methodNamed hnamed) hkP hinit
  obtain ⟨vm₁, X₁, hstep₁⟩ := X.invokestatic hexec hown hlink hnamed hmethM hstatic hkP hinitP hy (g := g) hg (argsL := argsL) (rest := rest) (hlen _ hsigM) hstack hdg
  rcases hK m meth c ⟨T.setVm vm₁, locs, cells, slots⟩ { g with stack := rest } (.invokestatic index) mk argsL.toArray X₁ hg hsize hdg hW (X₁.named hnamed) (hpre vm₁ X₁.warmed) with ⟨v, B, X', hpost, hsteps⟩ | ⟨q, B, X', hpost, hsteps⟩
  · exact Or.inl ⟨v, vm₁, B, X₁.warmed, X', hpost, fun target h => hstep₁ _ fun acts => by rw [doInvoke_state]; exact hsteps.trans h⟩
  · exact Or.inr ⟨q, vm₁, B, X₁.warmed, X', hpost, hstep₁ _ fun acts => by rw [doInvoke_state]; exact hsteps⟩
theorem vx_callVW (X : Stand p l e R s m args below meth c T locs cells slots) (hexec : p.tables.exec = Jvm.exec) {own C : String} {index : Nat} {y : MethodName} {bytes : ByteArray} {maxL : Nat} {ret : Option FieldType} {hh : List (Nat × Nat × Nat × Nat)}
    (hown : s.vm.findClass own = some m.cls) (hlink : (Cond.methodLink own index y).before args s = true) (hinst : (Cond.instanceMethod y).before args s = true) (hsel : (Cond.selects C y y).before args s = true)
    (hcode : (Cond.codeWith y bytes maxL ret hh).before args s = true) (hy : y.cls ≠ "java/lang/invoke/MethodHandle" ∧ y.cls ≠ "java/lang/invoke/VarHandle")
    {W9 : Nat} {Pre : Pt → Array Value → Prop} {Post : Pt → Array Value → Option Value → Pt → Prop} (hK : Back l R p e below s args y 3 W9 Pre Post)
    {b : Addr} {cellB : Cell} (hcell : T.heap[b]? = some cellB) (hobj : cellB.vm.isStatics = false) (hcls : s.vm.findClass C = some cellB.cls)
    {g : JFrame} (hg : g.method = m) (hsize : g.locals.size = c.maxLocals) {argsL rest : List Value} (hlen : ∀ sig, parseMethodDescriptor y.desc = some sig → argsL.length = sig.parameters.length)
    (hstack : g.stack = argsL.reverse ++ .ref b :: rest) (hW : 2 * g.monitorRoom + (rest.map fun v => v.category).sum ≤ W9) (hdg : decode c.code g.pc = .ok (.invokevirtual index, 3))
    (hpre : ∀ vm₁, s.WarmedH vm₁ → Pre ⟨T.setVm vm₁, locs, cells, slots⟩ (Value.ref b :: argsL).toArray) :
    ∃ (v : Option Value) (vm₁ : Vm) (B : Pt), s.WarmedH vm₁ ∧ Stand p l e R s m args below meth c B.U B.locs B.cells B.slots ∧ Post ⟨T.setVm vm₁, locs, cells, slots⟩ (Value.ref b :: argsL).toArray v B ∧
      ∀ target, Steps p.tables e below (B.U.setTop { g with pc := g.pc + 3, stack := v.toList ++ rest }) target → Steps p.tables e below (T.setTop g) target := by
  obtain ⟨mk, methM, hnamed, hmethM, hstM, habM⟩ := Cond.instanceMethod_spec hinst
  obtain ⟨m8, methM', cM, hn8, hmethM', -, -, -, -, -, -, hsigM⟩ := Cond.codeWith_spec hcode
  cases Option.some.inj (hn8.symm.trans hnamed)
  cases hmethM.symm.trans hmethM'
  obtain ⟨c2, r2, m2, q1, q2, q3, q4, kP, hkP, hkPi⟩ := Cond.selects_spec hsel
  cases hcls.symm.trans q1
  cases (State.methodFound?_of_named hnamed hy).symm.trans q2
  cases hnamed.symm.trans q3
  have hselP : selectMethod e.platform s.vm cellB.cls mk = .method mk := by rw [Launch.admits_selectMethod X.admits]; exact q4
  obtain ⟨vm₁, X₁, hstep₁⟩ := X.invokevirtual hexec hown hlink hnamed hmethM hstM hkP hkPi hy (a := b) (cell := cellB) hcell
    (fun z h => by rw [h] at hobj; cases hobj) hselP hmethM habM hkP hkPi (g := g) hg (argsL := argsL) (rest := rest) (hlen _ hsigM) hstack hdg
  obtain ⟨v, B, X', hpost, hsteps⟩ := hK m meth c ⟨T.setVm vm₁, locs, cells, slots⟩ { g with stack := rest } (.invokevirtual index) mk (Value.ref b :: argsL).toArray X₁ hg hsize hdg hW (X₁.named hnamed) (hpre vm₁ X₁.warmed)
  exact ⟨v, vm₁, B, X₁.warmed, X', hpost, fun target h => hstep₁ _ fun acts => by rw [doInvoke_state]; exact hsteps.trans h⟩
abbrev vx_CVW (R : Room) (s : State) (args : Array Value) (own C : String) (index : Nat) (y : MethodName) (bytes : ByteArray) (maxL : Nat) (ret : Option FieldType) (hh : List (Nat × Nat × Nat × Nat)) (ws : List Cond) (rm : Room) (mc ms n : Nat) : Prop :=
  (rm.cells = mc ∧ rm.slots = ms ∧ rm.frames + 1 ≤ R.frames ∧ 8 + (maxL + 11) + rm.locals ≤ R.locals ∧ (∀ w ∈ ws, ∀ (a' : Array Value) (U : State), s.WarmedH U.vm → w.before a' U = true) ∧ Cond.codeWith y bytes maxL ret hh ∈ ws) ∧
  (Cond.codeWith y bytes maxL ret hh).before args s = true ∧ (Cond.initialized y.cls).before args s = true ∧ (y.cls ≠ "java/lang/invoke/MethodHandle" ∧ y.cls ≠ "java/lang/invoke/VarHandle") ∧
  (∀ sig, parseMethodDescriptor y.desc = some sig → n = sig.parameters.length) ∧ (Cond.methodLink own index y).before args s = true ∧ (Cond.instanceMethod y).before args s = true ∧ (Cond.selects C y y).before args s = true
theorem vx_cwVW {own C : String} {index maxL mc ms : Nat} {y : MethodName} {bytes : ByteArray} {ret : Option FieldType} {hh : List (Nat × Nat × Nat × Nat)} {Ts ws ws' : List Cond} {rm : Room} (n : Nat) (ht : ∀ w ∈ Ts, w.before args s = true) (hT : GoodIn Ts (wsV own index C y ws)) (hw : ws = Cond.codeWith y bytes maxL ret hh :: ws') (hrc : rm.cells = mc) (hrs : rm.slots = ms)
    (hd : y.cls = C ∧ y.cls ≠ "java/lang/invoke/MethodHandle" ∧ y.cls ≠ "java/lang/invoke/VarHandle" ∧ (parseMethodDescriptor y.desc).map (fun d => d.parameters.length) = some n) (hR : rm.frames + 1 ≤ R.frames ∧ 8 + (maxL + 11) + rm.locals ≤ R.locals) :
    vx_CVW R s args own C index y bytes maxL ret hh ws rm mc ms n := by
  obtain ⟨hC, hd⟩ := hd
  subst hC
  have ok : ∀ w ∈ wsV own index y.cls y ws, w.before args s = true := fun w h => ht w (hT w h).1
  have hG : GoodIn Ts ws := fun w h => hT w (by unfold wsV; exact List.mem_append_right _ h)
  have hc : Cond.codeWith y bytes maxL ret hh ∈ ws := by rw [hw]; exact List.mem_cons_self
  refine ⟨⟨hrc, hrs, hR.1, hR.2, pay_in ht hG, hc⟩, ht _ (hG _ hc).1, ok _ (by simp [wsV]), ⟨hd.1, hd.2.1⟩, fun sig h => ?_, ok _ (by simp [wsV]), ok _ (by simp [wsV]), ok _ (by simp [wsV])⟩
  have h2 := hd.2.2
  rw [h] at h2
  exact (Option.some.inj h2).symm
theorem vx_runVW {y : MethodName} {bytes cc : ByteArray} {maxL nL mc ms n index : Nat} {ret : Option FieldType} {hh : List (Nat × Nat × Nat × Nat)} {ws : List Cond} {rm : Room} {Pc : Array Value → State → Prop} {Qc : Array Value → State → Outcome → State → Prop} {free : Addr → Prop} {Ts : List Cond} {own C : String} {b : Addr} {As rest : List Value} {g : JFrame}
    (S : CallFix p m c cc nL s args Ts own) (hM : Met l y ws rm Pc Qc mc ms free) (cw : vx_CVW R s args own C index y bytes maxL ret hh ws rm mc ms n) (hp : PreV s H C b Pc As)
    (hg : g.method = m) (hn : As.length = n) (hsize : g.locals.size = nL) (hstack : g.stack = As.reverse ++ .ref b :: rest) (hW : 2 * g.monitorRoom + (rest.map fun v => v.category).sum ≤ 8) (hdg : decode cc g.pc = .ok (.invokevirtual index, 3)) (hf : cells + mc ≤ R.cells ∧ slots + ms ≤ R.slots) :
    va_Run p l e R s m args below meth c H locs cells slots mc ms g rest (Qc (Value.ref b :: As).toArray) free := by
  obtain ⟨⟨hrc, hrs, hfr, hlo, hws, hcw⟩, hcode, hini, hy, hlen, hl, hin, hse⟩ := cw
  have hK : Back l R p e below s args y 3 8 (PreOf R mc ms Pc) (PostOf Qc mc ms free) := va_backW (hh := hh) (bytes := bytes) (maxL := maxL) (ret := ret) hM hp.1 hrc hrs hfr hlo hws hcw (fun a' U hW => word_at hW (Or.inl (by first | rfl | simp [Cond.onTables, Cond.keeps, Cond.steady])) hini)
  obtain ⟨hx, hb, hml, ho, -⟩ := S
  obtain ⟨-, ⟨cellB, hcB, hoB, hclB⟩, hPc⟩ := hp
  intro T hT X
  obtain ⟨v, vm₁, ⟨U', l2, c2, s2⟩, hW₁, X', ⟨g', mk, t, L, e1, e2, hq, h1, hL, h2, h3⟩, st⟩ := vx_callVW X hx (C := C) (hh := hh) (bytes := bytes) (maxL := maxL) (ret := ret) ho hl hin hse hcode hy hK (by rw [hT]; exact hcB) hoB hclB hg (hsize.trans hml.symm) (argsL := As) (rest := rest) (fun sig h => hn.trans (hlen sig h)) hstack hW (by rw [hb]; exact hdg)
    (fun vm₁ hW₁ => ⟨hf.1, hf.2, hPc (T.setVm vm₁) hT hW₁⟩)
  dsimp only [Pt.U, Pt.locs, Pt.cells, Pt.slots] at X' e1 e2 h1 h2 h3 st
  subst h1; subst h2; subst h3
  exact ⟨v, (T.setVm vm₁).calling g' mk (Value.ref b :: As).toArray, t, U', L, hT, X', hL, e1, e2, hq, st⟩
section
variable {y : MethodName} {bytes cc : ByteArray} {maxL nL mc ms n index : Nat} {ret : Option FieldType} {ws : List Cond} {rm : Room} {Pc : Array Value → State → Prop} {Qc : Array Value → State → Outcome → State → Prop} {XC : String → State → State → Prop} {free : Addr → Prop} {Ts : List Cond} {own C : String} {b : Addr} {As rest : List Value} {g : JFrame}
theorem vx_runVX {hh : List (Nat × Nat × Nat × Nat)} (S : CallFix p m c cc nL s args Ts own) (hM : vx_Met l y ws rm Pc Qc XC mc ms free) (cw : vx_CVW R s args own C index y bytes maxL ret hh ws rm mc ms n) (hp : PreV s H C b Pc As)
    (hg : g.method = m) (hn : As.length = n) (hsize : g.locals.size = nL) (hstack : g.stack = As.reverse ++ .ref b :: rest) (hW : 2 * g.monitorRoom + (rest.map fun v => v.category).sum ≤ 8) (hdg : decode cc g.pc = .ok (.invokevirtual index, 3)) (hf : cells + mc ≤ R.cells ∧ slots + ms ≤ R.slots) :
    vx_Run p l e R s m args below meth c H locs cells slots mc ms g rest (Qc (Value.ref b :: As).toArray) XC free := by
  obtain ⟨⟨hrc, hrs, hfr, hlo, hws, hcw⟩, hcode, hini, hy, hlen, hl, hin, hse⟩ := cw
  have hK : vx_Back l R p e below s args y 3 8 (PreOf R mc ms Pc) (PostOf Qc mc ms free) (vx_Post XC mc ms free) := vx_backW (hh := hh) (bytes := bytes) (maxL := maxL) (ret := ret) hM hp.1 hrc hrs hfr hlo hws hcw (fun a' U hW => word_at hW (Or.inl (by first | rfl | simp [Cond.onTables, Cond.keeps, Cond.steady])) hini)
  obtain ⟨hx, hb, hml, ho, -⟩ := S
  obtain ⟨-, ⟨cellB, hcB, hoB, hclB⟩, hPc⟩ := hp
  intro T hT X
  rcases vx_callVX X hx (C := C) (hh := hh) (bytes := bytes) (maxL := maxL) (ret := ret) ho hl hin hse hcode hy hK (by rw [hT]; exact hcB) hoB hclB hg (hsize.trans hml.symm) (argsL := As) (rest := rest) (fun sig h => hn.trans (hlen sig h)) hstack hW (by rw [hb]; exact hdg)
    (fun vm₁ hW₁ => ⟨hf.1, hf.2, hPc (T.setVm vm₁) hT hW₁⟩) with ⟨v, vm₁, ⟨U', l2, c2, s2⟩, hW₁, X', ⟨g', mk, t, L, e1, e2, hq, h1, hL, h2, h3⟩, st⟩ | ⟨q, vm₁, ⟨U', l2, c2, s2⟩, hW₁, X', ⟨g', mk, t, L, E, ce, e1, e2, hq, hce, hcv, hcl, h1, hL, h2, h3⟩, st⟩
  · dsimp only [Pt.U, Pt.locs, Pt.cells, Pt.slots] at X' e1 e2 h1 h2 h3 st
    subst h1; subst h2; subst h3
    exact Or.inl ⟨v, (T.setVm vm₁).calling g' mk (Value.ref b :: As).toArray, t, U', L, hT, X', hL, e1, e2, hq, st⟩
  · dsimp only [Pt.U, Pt.locs, Pt.cells, Pt.slots] at X' e1 e2 h1 h2 h3 st hcl
    subst h1; subst h2; subst h3
    exact Or.inr ⟨q, (T.setVm vm₁).calling g' mk (Value.ref b :: As).toArray, t, U', L, E, ce, hT, X', hL, e1, e2, hq, hce, hcv, vx_cls hW₁ hcl, st⟩
theorem vx_runSX {hh : List (Nat × Nat × Nat × Nat)} (S : CallFix p m c cc nL s args Ts own) (hM : vx_Met l y ws rm Pc Qc XC mc ms free) (cw : vx_CSW R s args own index y bytes maxL ret hh ws rm mc ms n) (hp : PreS s H Pc As)
    (hg : g.method = m) (hn : As.length = n) (hsize : g.locals.size = nL) (hstack : g.stack = As.reverse ++ rest) (hW : 2 * g.monitorRoom + (rest.map fun v => v.category).sum ≤ 8) (hdg : decode cc g.pc = .ok (.invokestatic index, 3)) (hf : cells + mc ≤ R.cells ∧ slots + ms ≤ R.slots) :
    vx_Run p l e R s m args below meth c H locs cells slots mc ms g rest (Qc As.toArray) XC free := by
  obtain ⟨⟨hrc, hrs, hfr, hlo, hws, hcw⟩, hcode, hini, hy, hlen, hl, hstt⟩ := cw
  have hK : vx_Back l R p e below s args y 3 8 (PreOf R mc ms Pc) (PostOf Qc mc ms free) (vx_Post XC mc ms free) := vx_backW (hh := hh) (bytes := bytes) (maxL := maxL) (ret := ret) hM hp.1 hrc hrs hfr hlo hws hcw (fun a' U hW => word_at hW (Or.inl (by first | rfl | simp [Cond.onTables, Cond.keeps, Cond.steady])) hini)
  obtain ⟨hx, hb, hml, ho, -⟩ := S
  intro T hT X
  rcases vx_callSX X hx (hh := hh) (bytes := bytes) (maxL := maxL) (ret := ret) ho hl hstt hini hcode hy hK hg (hsize.trans hml.symm) (argsL := As) (rest := rest) (fun sig h => hn.trans (hlen sig h)) hstack hW (by rw [hb]; exact hdg)
    (fun vm₁ hW₁ => ⟨hf.1, hf.2, hp.2 (T.setVm vm₁) hT hW₁⟩) with ⟨v, vm₁, ⟨U', l2, c2, s2⟩, hW₁, X', ⟨g', mk, t, L, e1, e2, hq, h1, hL, h2, h3⟩, st⟩ | ⟨q, vm₁, ⟨U', l2, c2, s2⟩, hW₁, X', ⟨g', mk, t, L, E, ce, e1, e2, hq, hce, hcv, hcl, h1, hL, h2, h3⟩, st⟩
  · dsimp only [Pt.U, Pt.locs, Pt.cells, Pt.slots] at X' e1 e2 h1 h2 h3 st
    subst h1; subst h2; subst h3
    exact Or.inl ⟨v, (T.setVm vm₁).calling g' mk As.toArray, t, U', L, hT, X', hL, e1, e2, hq, st⟩
  · dsimp only [Pt.U, Pt.locs, Pt.cells, Pt.slots] at X' e1 e2 h1 h2 h3 st hcl
    subst h1; subst h2; subst h3
    exact Or.inr ⟨q, (T.setVm vm₁).calling g' mk As.toArray, t, U', L, E, ce, hT, X', hL, e1, e2, hq, hce, hcv, vx_cls hW₁ hcl, st⟩
end
end VXH
theorem vx_ofWH {l : Launch} {y : MethodName} {ws ws' : List Cond} {rm : Room} {Pc : Array Value → State → Prop} {Qc : Array Value → State → Outcome → State → Prop} {XC : String → State → State → Prop} {mc ms : Nat} {free : Addr → Prop} {cc : ByteArray} {maxL : Nat} {ret : Option FieldType} {hh : List (Nat × Nat × Nat × Nat)}
    (hy : plainName y.cls = true) (hw : ws = Cond.codeWith y cc maxL ret hh :: ws')
    (body : ∀ p e s m args below meth c s₁, BodyLoose p l y (headSpec ws rm) cc maxL ret e s m args below meth c s₁ → c.maxLocals = maxL → Pc args s →
      W p l e (headSpec ws rm).room s m args below meth c s.heap [] 0 0 (vx_MQ below Qc XC args s mc ms free) (entryFrame m args maxL)) : vx_Met l y ws rm Pc Qc XC mc ms free := by
  refine MetFree.of_bodyS (code := cc) (maxLocals := maxL) (ret := ret) hy ?_ ?_
  · intro args s m h hn
    obtain ⟨m9, meth, c, hn9, h1, h2, h3, h4, -, h5, h6, -⟩ := Cond.codeWith_spec (atoms_spec (ws := ws) h _ (by rw [hw]; exact List.mem_cons_self))
    cases hn.symm.trans hn9
    exact ⟨meth, c, h1, h2, h3, h4, h5, h6⟩
  · intro p e s m args below meth c s₁ B hml hP _
    have hh0 : s₁.heap = s.heap := by rw [B.state]; rfl
    obtain ⟨t, a1, o, b1, b2, b3⟩ := body p e s m args below meth c s₁ B hml hP s₁ hh0 (Stand.of_body B)
    exact ⟨t, o, a1, b1, b2, b3⟩
/-! ===== END ===== -/
end
section

/-! ===== BEGIN printed: names, fields, word lists, decode rows ===== -/
def RX0 : String := "CornerCube"
def TX0 : u_T := fun k => match k with
  | 0 => ("CornerCube", "cube", "J", false)
  | 1 => ("CornerCube", "turnsMade", "I", false)
  | 2 => ("CornerCube", "turnsOf", "[[I", true)
  | _ => ("CornerCube", "lengths", "[I", true)
def tyX0 : Nat → FieldType := fun k => match k with
  | 0 => .long
  | 1 => .int
  | 2 => .array (.array .int)
  | _ => .array .int
abbrev wsX00 : List Cond := u_ws RX0 TX0 4
theorem nmX0 : ∀ a, a < 4 → ∀ b, b < 4 → a ≠ b → (TX0 a).2.1 ≠ (TX0 b).2.1 := by decide +kernel
theorem tyX0_ok : ∀ k, k < 4 → parseFieldDescriptor (TX0 k).2.2.1 = some (tyX0 k) := by decide +kernel
abbrev cX0_init : ByteArray := prog_1_method_1_code
def yX0_init : MethodName := ⟨RX0, "<init>", "()V"⟩
abbrev cX0_turn : ByteArray := prog_1_method_2_code
def yX0_turn : MethodName := ⟨RX0, "turn", "(II)I"⟩
abbrev cX0_play : ByteArray := prog_1_method_3_code
def yX0_play : MethodName := ⟨RX0, "play", "(II)I"⟩
abbrev cX0_reset : ByteArray := prog_1_method_4_code
def yX0_reset : MethodName := ⟨RX0, "reset", "()I"⟩
abbrev cX0_say : ByteArray := prog_1_method_5_code
def yX0_say : MethodName := ⟨RX0, "say", "(III)I"⟩
abbrev cX0_round : ByteArray := prog_1_method_7_code
def yX0_round : MethodName := ⟨RX0, "round", "(I)I"⟩
abbrev cX0_tidy : ByteArray := prog_1_method_9_code
def yX0_tidy : MethodName := ⟨RX0, "tidy", "(I)I"⟩
abbrev cX0_told : ByteArray := prog_1_method_10_code
def yX0_told : MethodName := ⟨RX0, "told", "(II)I"⟩
abbrev cX0_where : ByteArray := prog_1_method_11_code
def yX0_where : MethodName := ⟨RX0, "where", "(I)I"⟩
abbrev cX0_count : ByteArray := prog_1_method_12_code
def yX0_count : MethodName := ⟨RX0, "count", "(I)I"⟩
abbrev cX0_word : ByteArray := prog_1_method_13_code
def yX0_word : MethodName := ⟨RX0, "word", "(II)I"⟩
abbrev cX0_same : ByteArray := prog_1_method_15_code
def yX0_same : MethodName := ⟨RX0, "same", "(II)Z"⟩
abbrev cX0_mixed : ByteArray := prog_1_method_16_code
def yX0_mixed : MethodName := ⟨RX0, "mixed", "(II)I"⟩
abbrev cX0_would : ByteArray := prog_1_method_17_code
def yX0_would : MethodName := ⟨RX0, "would", "(II)I"⟩
abbrev cX0_far : ByteArray := prog_1_method_18_code
def yX0_far : MethodName := ⟨RX0, "far", "(I)I"⟩
abbrev cX0_first : ByteArray := prog_1_method_19_code
def yX0_first : MethodName := ⟨RX0, "first", "(I)I"⟩
abbrev cX0_shortest : ByteArray := prog_1_method_20_code
def yX0_shortest : MethodName := ⟨RX0, "shortest", "(II)I"⟩
abbrev cX0_advise : ByteArray := prog_1_method_21_code
def yX0_advise : MethodName := ⟨RX0, "advise", "()I"⟩
abbrev cX0_digest : ByteArray := prog_1_method_23_code
def yX0_digest : MethodName := ⟨RX0, "digest", "()J"⟩
abbrev cX0_checkFace : ByteArray := prog_1_method_24_code
def yX0_checkFace : MethodName := ⟨RX0, "checkFace", "(I)V"⟩
abbrev cX0_checkQuarters : ByteArray := prog_1_method_25_code
def yX0_checkQuarters : MethodName := ⟨RX0, "checkQuarters", "(I)V"⟩
abbrev cX0_checkWord : ByteArray := prog_1_method_26_code
def yX0_checkWord : MethodName := ⟨RX0, "checkWord", "(I)V"⟩
abbrev cX0_checkPlace : ByteArray := prog_1_method_27_code
def yX0_checkPlace : MethodName := ⟨RX0, "checkPlace", "(I)V"⟩
abbrev cX0_checkWhat : ByteArray := prog_1_method_28_code
def yX0_checkWhat : MethodName := ⟨RX0, "checkWhat", "(II)V"⟩
abbrev cX0_checkMost : ByteArray := prog_1_method_29_code
def yX0_checkMost : MethodName := ⟨RX0, "checkMost", "(I)V"⟩
abbrev cX0_turnNumber : ByteArray := prog_1_method_30_code
def yX0_turnNumber : MethodName := ⟨RX0, "turnNumber", "(II)I"⟩
abbrev cX0_faceOf : ByteArray := prog_1_method_31_code
def yX0_faceOf : MethodName := ⟨RX0, "faceOf", "(I)I"⟩
abbrev cX0_quartersOf : ByteArray := prog_1_method_32_code
def yX0_quartersOf : MethodName := ⟨RX0, "quartersOf", "(I)I"⟩
abbrev cX0_turnedBack : ByteArray := prog_1_method_33_code
def yX0_turnedBack : MethodName := ⟨RX0, "turnedBack", "(I)I"⟩
abbrev cX0_keep : ByteArray := prog_1_method_34_code
def yX0_keep : MethodName := ⟨RX0, "keep", "([III)I"⟩
abbrev cX0_deedOf : ByteArray := prog_1_method_35_code
def yX0_deedOf : MethodName := ⟨RX0, "deedOf", "(I)J"⟩
abbrev cX0_behindWord : ByteArray := prog_1_method_36_code
def yX0_behindWord : MethodName := ⟨RX0, "behindWord", "(JI)J"⟩
abbrev cX0_behindWordRound : ByteArray := prog_1_method_37_code
def yX0_behindWordRound : MethodName := ⟨RX0, "behindWordRound", "(JI)J"⟩
abbrev cX0_turnsOfAllWords : ByteArray := prog_1_method_38_code
def yX0_turnsOfAllWords : MethodName := ⟨RX0, "turnsOfAllWords", "()I"⟩
abbrev cX0_cornerAt : ByteArray := prog_1_method_39_code
def yX0_cornerAt : MethodName := ⟨RX0, "cornerAt", "(JI)I"⟩
abbrev cX0_twistAt : ByteArray := prog_1_method_40_code
def yX0_twistAt : MethodName := ⟨RX0, "twistAt", "(JI)I"⟩
abbrev cX0_isRight : ByteArray := prog_1_method_41_code
def yX0_isRight : MethodName := ⟨RX0, "isRight", "(JI)Z"⟩
abbrev cX0_rightCorners : ByteArray := prog_1_method_42_code
def yX0_rightCorners : MethodName := ⟨RX0, "rightCorners", "(J)I"⟩
abbrev cX0_wrongCorners : ByteArray := prog_1_method_43_code
def yX0_wrongCorners : MethodName := ⟨RX0, "wrongCorners", "(J)I"⟩
abbrev cX0_placedCorners : ByteArray := prog_1_method_44_code
def yX0_placedCorners : MethodName := ⟨RX0, "placedCorners", "(J)I"⟩
abbrev cX0_untwistedCorners : ByteArray := prog_1_method_45_code
def yX0_untwistedCorners : MethodName := ⟨RX0, "untwistedCorners", "(J)I"⟩
abbrev cX0_pairsOutOfOrder : ByteArray := prog_1_method_46_code
def yX0_pairsOutOfOrder : MethodName := ⟨RX0, "pairsOutOfOrder", "(J)I"⟩
abbrev cX0_orderOf : ByteArray := prog_1_method_47_code
def yX0_orderOf : MethodName := ⟨RX0, "orderOf", "(J)I"⟩
abbrev cX0_withCorner : ByteArray := prog_1_method_48_code
def yX0_withCorner : MethodName := ⟨RX0, "withCorner", "(JIII)J"⟩
abbrev cX0_turned : ByteArray := prog_1_method_49_code
def yX0_turned : MethodName := ⟨RX0, "turned", "(JI)J"⟩
abbrev cX0_quarterTurned : ByteArray := prog_1_method_50_code
def yX0_quarterTurned : MethodName := ⟨RX0, "quarterTurned", "(JI)J"⟩
abbrev cX0_ringOf : ByteArray := prog_1_method_51_code
def yX0_ringOf : MethodName := ⟨RX0, "ringOf", "(I)I"⟩
abbrev cX0_moreTwistOf : ByteArray := prog_1_method_52_code
def yX0_moreTwistOf : MethodName := ⟨RX0, "moreTwistOf", "(I)I"⟩
abbrev cX0_hexDigit : ByteArray := prog_1_method_53_code
def yX0_hexDigit : MethodName := ⟨RX0, "hexDigit", "(II)I"⟩
abbrev cX0_behindDeed : ByteArray := prog_1_method_54_code
def yX0_behindDeed : MethodName := ⟨RX0, "behindDeed", "(JJ)J"⟩
abbrev cX0_fewestTurns : ByteArray := prog_1_method_55_code
def yX0_fewestTurns : MethodName := ⟨RX0, "fewestTurns", "(JI)I"⟩
abbrev cX0_isRightWithin : ByteArray := prog_1_method_56_code
def yX0_isRightWithin : MethodName := ⟨RX0, "isRightWithin", "(JII)Z"⟩
abbrev cX0_isRightBeginning : ByteArray := prog_1_method_57_code
def yX0_isRightBeginning : MethodName := ⟨RX0, "isRightBeginning", "(JII)Z"⟩
abbrev cX0_mostSetRight : ByteArray := prog_1_method_58_code
def yX0_mostSetRight : MethodName := ⟨RX0, "mostSetRight", "(I)I"⟩
def RX1 : String := "CornerCubeLaw$Sim"
def TX1 : u_T := fun k => match k with
  | _ => ("", "", "", false)
def tyX1 : Nat → FieldType := fun k => match k with
  | _ => .int
abbrev wsX10 : List Cond := u_ws RX1 TX1 0
theorem nmX1 : ∀ a, a < 0 → ∀ b, b < 0 → a ≠ b → (TX1 a).2.1 ≠ (TX1 b).2.1 := by decide +kernel
theorem tyX1_ok : ∀ k, k < 0 → parseFieldDescriptor (TX1 k).2.2.1 = some (tyX1 k) := by decide +kernel
def RX2 : String := "CornerCubeModel"
def TX2 : u_T := fun k => match k with
  | _ => ("", "", "", false)
def tyX2 : Nat → FieldType := fun k => match k with
  | _ => .int
abbrev wsX20 : List Cond := u_ws RX2 TX2 0
theorem nmX2 : ∀ a, a < 0 → ∀ b, b < 0 → a ≠ b → (TX2 a).2.1 ≠ (TX2 b).2.1 := by decide +kernel
theorem tyX2_ok : ∀ k, k < 0 → parseFieldDescriptor (TX2 k).2.2.1 = some (tyX2 k) := by decide +kernel
def RJ0 : String := "java/lang/String"
def TJ0 : u_T := fun k => match k with
  | _ => ("", "", "", false)
def tyJ0 : Nat → FieldType := fun k => match k with
  | _ => .int
abbrev wsJ00 : List Cond := u_ws RJ0 TJ0 0
theorem nmJ0 : ∀ a, a < 0 → ∀ b, b < 0 → a ≠ b → (TJ0 a).2.1 ≠ (TJ0 b).2.1 := by decide +kernel
theorem tyJ0_ok : ∀ k, k < 0 → parseFieldDescriptor (TJ0 k).2.2.1 = some (tyJ0 k) := by decide +kernel
def RL : String := "CornerCubeLaw"
abbrev cL_below : ByteArray := method_2_code
def yL_below : MethodName := ⟨RL, "below", "(II)I"⟩
abbrev cL_cell : ByteArray := method_3_code
def yL_cell : MethodName := ⟨RL, "cell", "([II)I"⟩
abbrev cL_wordOf : ByteArray := method_4_code
def yL_wordOf : MethodName := ⟨RL, "wordOf", "([II)[I"⟩
abbrev cL_say : ByteArray := method_5_code
def yL_say : MethodName := ⟨RL, "say", "(LCornerCube;I[I)Z"⟩
abbrev cL_law : ByteArray := code
def yL_law : MethodName := ⟨RL, "law", "([I)Z"⟩
def wsX0_init : List Cond := .code yX0_init cX0_init 1 none :: ([.methodLink RX0 1 objectInit, .instanceMethod objectInit, .code objectInit ⟨#[0xb1]⟩ 1 none, .constantLong RX0 9 (506097522914230528), .fieldLink RX0 11 "CornerCube" "cube" "J", .fieldLink RX0 15 "CornerCube" "turnsMade" "I", .classLink RX0 19 "[[I", .arrayClass .int, .fieldLink RX0 21 "CornerCube" "turnsOf" "[[I", .fieldLink RX0 24 "CornerCube" "lengths" "[I"] ++ wsX00)
def wsX0_checkFace : List Cond := .code yX0_checkFace cX0_checkFace 1 none :: ([.classLink RX0 98 "java/lang/IndexOutOfBoundsException", .initialized "java/lang/IndexOutOfBoundsException"] ++ (vx_atS RX0 102 "java/lang/IndexOutOfBoundsException" ["java/lang/RuntimeException", "java/lang/Exception"]).filter goodWord)
def wsX0_checkQuarters : List Cond := .code yX0_checkQuarters cX0_checkQuarters 1 none :: ([.classLink RX0 50 "java/lang/IllegalArgumentException", .initialized "java/lang/IllegalArgumentException"] ++ (vx_atS RX0 54 "java/lang/IllegalArgumentException" ["java/lang/RuntimeException", "java/lang/Exception"]).filter goodWord)
def wsX0_turnNumber : List Cond := .code yX0_turnNumber cX0_turnNumber 2 (some .int) :: ([])
def wsX0_quartersOf : List Cond := .code yX0_quartersOf cX0_quartersOf 1 (some .int) :: ([])
def wsX0_faceOf : List Cond := .code yX0_faceOf cX0_faceOf 1 (some .int) :: ([])
def wsX0_ringOf : List Cond := .code yX0_ringOf cX0_ringOf 1 (some .int) :: ([])
def wsX0_moreTwistOf : List Cond := .code yX0_moreTwistOf cX0_moreTwistOf 1 (some .int) :: ([])
def wsX0_hexDigit : List Cond := .code yX0_hexDigit cX0_hexDigit 2 (some .int) :: ([])
def wsX0_cornerAt : List Cond := .code yX0_cornerAt cX0_cornerAt 3 (some .int) :: ([])
def wsX0_twistAt : List Cond := .code yX0_twistAt cX0_twistAt 3 (some .int) :: ([])
def wsX0_withCorner : List Cond := .code yX0_withCorner cX0_withCorner 9 (some .long) :: ([.constantLong RX0 175 (255), .constantLong RX0 177 (-1)])
def wsX0_quarterTurned : List Cond := .code yX0_quarterTurned cX0_quarterTurned 10 (some .long) :: ([.methodLink RX0 182 yX0_ringOf, .static yX0_ringOf, .initialized RX0, .code yX0_ringOf cX0_ringOf 1 (some .int), .methodLink RX0 185 yX0_moreTwistOf, .static yX0_moreTwistOf, .code yX0_moreTwistOf cX0_moreTwistOf 1 (some .int), .methodLink RX0 188 yX0_hexDigit, .static yX0_hexDigit, .code yX0_hexDigit cX0_hexDigit 2 (some .int), .methodLink RX0 87 yX0_cornerAt, .static yX0_cornerAt, .code yX0_cornerAt cX0_cornerAt 3 (some .int), .methodLink RX0 91 yX0_twistAt, .static yX0_twistAt, .code yX0_twistAt cX0_twistAt 3 (some .int), .methodLink RX0 191 yX0_withCorner, .static yX0_withCorner, .code yX0_withCorner cX0_withCorner 9 (some .long), .constantLong RX0 175 (255), .constantLong RX0 177 (-1)])
def wsX0_turned_r1 : List Cond := [Cond.methodLink RX0 168 yX0_quartersOf, Cond.static yX0_quartersOf, Cond.initialized RX0, Cond.code yX0_quartersOf cX0_quartersOf 1 (some .int), Cond.methodLink RX0 134 yX0_faceOf, Cond.static yX0_faceOf, Cond.code yX0_faceOf cX0_faceOf 1 (some .int), Cond.methodLink RX0 179 yX0_quarterTurned, Cond.static yX0_quarterTurned, Cond.code yX0_quarterTurned cX0_quarterTurned 10 (some .long), Cond.methodLink RX0 182 yX0_ringOf, Cond.static yX0_ringOf, Cond.code yX0_ringOf cX0_ringOf 1 (some .int), Cond.methodLink RX0 185 yX0_moreTwistOf, Cond.static yX0_moreTwistOf, Cond.code yX0_moreTwistOf cX0_moreTwistOf 1 (some .int), Cond.methodLink RX0 188 yX0_hexDigit, Cond.static yX0_hexDigit, Cond.code yX0_hexDigit cX0_hexDigit 2 (some .int), Cond.methodLink RX0 87 yX0_cornerAt, Cond.static yX0_cornerAt, Cond.code yX0_cornerAt cX0_cornerAt 3 (some .int), Cond.methodLink RX0 91 yX0_twistAt, Cond.static yX0_twistAt]
def wsX0_turned_r2 : List Cond := [Cond.code yX0_twistAt cX0_twistAt 3 (some .int), Cond.methodLink RX0 191 yX0_withCorner, Cond.static yX0_withCorner, Cond.code yX0_withCorner cX0_withCorner 9 (some .long), Cond.constantLong RX0 175 (255), Cond.constantLong RX0 177 (-1)]
def wsX0_turned : List Cond := .code yX0_turned cX0_turned 6 (some .long) :: ((wsX0_turned_r1 ++ wsX0_turned_r2))
def wsX0_isRight : List Cond := .code yX0_isRight cX0_isRight 3 (some .boolean) :: ([.methodLink RX0 87 yX0_cornerAt, .static yX0_cornerAt, .initialized RX0, .code yX0_cornerAt cX0_cornerAt 3 (some .int), .methodLink RX0 91 yX0_twistAt, .static yX0_twistAt, .code yX0_twistAt cX0_twistAt 3 (some .int)])
def wsX0_rightCorners : List Cond := .code yX0_rightCorners cX0_rightCorners 4 (some .int) :: ([.methodLink RX0 94 yX0_isRight, .static yX0_isRight, .initialized RX0, .code yX0_isRight cX0_isRight 3 (some .boolean), .methodLink RX0 87 yX0_cornerAt, .static yX0_cornerAt, .code yX0_cornerAt cX0_cornerAt 3 (some .int), .methodLink RX0 91 yX0_twistAt, .static yX0_twistAt, .code yX0_twistAt cX0_twistAt 3 (some .int)])
def wsX0_turn_r1 : List Cond := [Cond.fieldLink RX0 11 "CornerCube" "cube" "J", Cond.fieldLink RX0 15 "CornerCube" "turnsMade" "I", Cond.methodLink RX0 28 yX0_checkFace, Cond.static yX0_checkFace, Cond.initialized RX0, Cond.code yX0_checkFace cX0_checkFace 1 none, Cond.classLink RX0 98 "java/lang/IndexOutOfBoundsException", Cond.initialized "java/lang/IndexOutOfBoundsException", Cond.methodLink RX0 32 yX0_checkQuarters, Cond.static yX0_checkQuarters, Cond.code yX0_checkQuarters cX0_checkQuarters 1 none, Cond.classLink RX0 50 "java/lang/IllegalArgumentException", Cond.initialized "java/lang/IllegalArgumentException", Cond.methodLink RX0 35 yX0_turnNumber, Cond.static yX0_turnNumber, Cond.code yX0_turnNumber cX0_turnNumber 2 (some .int), Cond.methodLink RX0 39 yX0_turned, Cond.static yX0_turned, Cond.code yX0_turned cX0_turned 6 (some .long), Cond.methodLink RX0 168 yX0_quartersOf, Cond.static yX0_quartersOf, Cond.code yX0_quartersOf cX0_quartersOf 1 (some .int), Cond.methodLink RX0 134 yX0_faceOf, Cond.static yX0_faceOf]
def wsX0_turn_r2 : List Cond := [Cond.code yX0_faceOf cX0_faceOf 1 (some .int), Cond.methodLink RX0 179 yX0_quarterTurned, Cond.static yX0_quarterTurned, Cond.code yX0_quarterTurned cX0_quarterTurned 10 (some .long), Cond.methodLink RX0 182 yX0_ringOf, Cond.static yX0_ringOf, Cond.code yX0_ringOf cX0_ringOf 1 (some .int), Cond.methodLink RX0 185 yX0_moreTwistOf, Cond.static yX0_moreTwistOf, Cond.code yX0_moreTwistOf cX0_moreTwistOf 1 (some .int), Cond.methodLink RX0 188 yX0_hexDigit, Cond.static yX0_hexDigit, Cond.code yX0_hexDigit cX0_hexDigit 2 (some .int), Cond.methodLink RX0 87 yX0_cornerAt, Cond.static yX0_cornerAt, Cond.code yX0_cornerAt cX0_cornerAt 3 (some .int), Cond.methodLink RX0 91 yX0_twistAt, Cond.static yX0_twistAt, Cond.code yX0_twistAt cX0_twistAt 3 (some .int), Cond.methodLink RX0 191 yX0_withCorner, Cond.static yX0_withCorner, Cond.code yX0_withCorner cX0_withCorner 9 (some .long), Cond.constantLong RX0 175 (255), Cond.constantLong RX0 177 (-1)]
def wsX0_turn_r3 : List Cond := [Cond.methodLink RX0 43 yX0_rightCorners, Cond.static yX0_rightCorners, Cond.code yX0_rightCorners cX0_rightCorners 4 (some .int), Cond.methodLink RX0 94 yX0_isRight, Cond.static yX0_isRight, Cond.code yX0_isRight cX0_isRight 3 (some .boolean)]
def wsX0_turn : List Cond := .code yX0_turn cX0_turn 3 (some .int) :: ((wsX0_turn_r1 ++ (wsX0_turn_r2 ++ wsX0_turn_r3)) ++ wsX00 ++ (vx_atS RX0 102 "java/lang/IndexOutOfBoundsException" ["java/lang/RuntimeException", "java/lang/Exception"]).filter goodWord ++ (vx_atS RX0 54 "java/lang/IllegalArgumentException" ["java/lang/RuntimeException", "java/lang/Exception"]).filter goodWord)
def wsX0_checkWord : List Cond := .code yX0_checkWord cX0_checkWord 1 none :: ([.classLink RX0 98 "java/lang/IndexOutOfBoundsException", .initialized "java/lang/IndexOutOfBoundsException"] ++ (vx_atS RX0 102 "java/lang/IndexOutOfBoundsException" ["java/lang/RuntimeException", "java/lang/Exception"]).filter goodWord)
def wsX0_behindWord_r1 : List Cond := [Cond.fieldLink RX0 24 "CornerCube" "lengths" "[I", Cond.fieldLink RX0 21 "CornerCube" "turnsOf" "[[I", Cond.methodLink RX0 39 yX0_turned, Cond.static yX0_turned, Cond.initialized RX0, Cond.code yX0_turned cX0_turned 6 (some .long), Cond.methodLink RX0 168 yX0_quartersOf, Cond.static yX0_quartersOf, Cond.code yX0_quartersOf cX0_quartersOf 1 (some .int), Cond.methodLink RX0 134 yX0_faceOf, Cond.static yX0_faceOf, Cond.code yX0_faceOf cX0_faceOf 1 (some .int), Cond.methodLink RX0 179 yX0_quarterTurned, Cond.static yX0_quarterTurned, Cond.code yX0_quarterTurned cX0_quarterTurned 10 (some .long), Cond.methodLink RX0 182 yX0_ringOf, Cond.static yX0_ringOf, Cond.code yX0_ringOf cX0_ringOf 1 (some .int), Cond.methodLink RX0 185 yX0_moreTwistOf, Cond.static yX0_moreTwistOf, Cond.code yX0_moreTwistOf cX0_moreTwistOf 1 (some .int), Cond.methodLink RX0 188 yX0_hexDigit, Cond.static yX0_hexDigit, Cond.code yX0_hexDigit cX0_hexDigit 2 (some .int)]
def wsX0_behindWord_r2 : List Cond := [Cond.methodLink RX0 87 yX0_cornerAt, Cond.static yX0_cornerAt, Cond.code yX0_cornerAt cX0_cornerAt 3 (some .int), Cond.methodLink RX0 91 yX0_twistAt, Cond.static yX0_twistAt, Cond.code yX0_twistAt cX0_twistAt 3 (some .int), Cond.methodLink RX0 191 yX0_withCorner, Cond.static yX0_withCorner, Cond.code yX0_withCorner cX0_withCorner 9 (some .long), Cond.constantLong RX0 175 (255), Cond.constantLong RX0 177 (-1)]
def wsX0_behindWord : List Cond := .code yX0_behindWord cX0_behindWord 7 (some .long) :: ((wsX0_behindWord_r1 ++ wsX0_behindWord_r2) ++ wsX00)
def wsX0_play_r1 : List Cond := [Cond.classLink RX0 50 "java/lang/IllegalArgumentException", Cond.initialized "java/lang/IllegalArgumentException", Cond.classLink RX0 57 "java/lang/IllegalStateException", Cond.initialized "java/lang/IllegalStateException", Cond.fieldLink RX0 24 "CornerCube" "lengths" "[I", Cond.fieldLink RX0 11 "CornerCube" "cube" "J", Cond.fieldLink RX0 15 "CornerCube" "turnsMade" "I", Cond.methodLink RX0 47 yX0_checkWord, Cond.static yX0_checkWord, Cond.initialized RX0, Cond.code yX0_checkWord cX0_checkWord 1 none, Cond.classLink RX0 98 "java/lang/IndexOutOfBoundsException", Cond.initialized "java/lang/IndexOutOfBoundsException", Cond.methodLink RX0 62 yX0_behindWord, Cond.instanceMethod yX0_behindWord, Cond.selects RX0 yX0_behindWord yX0_behindWord, Cond.code yX0_behindWord cX0_behindWord 7 (some .long), Cond.fieldLink RX0 21 "CornerCube" "turnsOf" "[[I", Cond.methodLink RX0 39 yX0_turned, Cond.static yX0_turned, Cond.code yX0_turned cX0_turned 6 (some .long), Cond.methodLink RX0 168 yX0_quartersOf, Cond.static yX0_quartersOf, Cond.code yX0_quartersOf cX0_quartersOf 1 (some .int)]
def wsX0_play_r2 : List Cond := [Cond.methodLink RX0 134 yX0_faceOf, Cond.static yX0_faceOf, Cond.code yX0_faceOf cX0_faceOf 1 (some .int), Cond.methodLink RX0 179 yX0_quarterTurned, Cond.static yX0_quarterTurned, Cond.code yX0_quarterTurned cX0_quarterTurned 10 (some .long), Cond.methodLink RX0 182 yX0_ringOf, Cond.static yX0_ringOf, Cond.code yX0_ringOf cX0_ringOf 1 (some .int), Cond.methodLink RX0 185 yX0_moreTwistOf, Cond.static yX0_moreTwistOf, Cond.code yX0_moreTwistOf cX0_moreTwistOf 1 (some .int), Cond.methodLink RX0 188 yX0_hexDigit, Cond.static yX0_hexDigit, Cond.code yX0_hexDigit cX0_hexDigit 2 (some .int), Cond.methodLink RX0 87 yX0_cornerAt, Cond.static yX0_cornerAt, Cond.code yX0_cornerAt cX0_cornerAt 3 (some .int), Cond.methodLink RX0 91 yX0_twistAt, Cond.static yX0_twistAt, Cond.code yX0_twistAt cX0_twistAt 3 (some .int), Cond.methodLink RX0 191 yX0_withCorner, Cond.static yX0_withCorner, Cond.code yX0_withCorner cX0_withCorner 9 (some .long)]
def wsX0_play_r3 : List Cond := [Cond.constantLong RX0 175 (255), Cond.constantLong RX0 177 (-1), Cond.methodLink RX0 43 yX0_rightCorners, Cond.static yX0_rightCorners, Cond.code yX0_rightCorners cX0_rightCorners 4 (some .int), Cond.methodLink RX0 94 yX0_isRight, Cond.static yX0_isRight, Cond.code yX0_isRight cX0_isRight 3 (some .boolean)]
def wsX0_play : List Cond := .code yX0_play cX0_play 4 (some .int) :: ((wsX0_play_r1 ++ (wsX0_play_r2 ++ wsX0_play_r3)) ++ wsX00 ++ (vx_atS RX0 54 "java/lang/IllegalArgumentException" ["java/lang/RuntimeException", "java/lang/Exception"]).filter goodWord ++ (vx_atS RX0 61 "java/lang/IllegalStateException" ["java/lang/RuntimeException", "java/lang/Exception"]).filter goodWord ++ (vx_atS RX0 102 "java/lang/IndexOutOfBoundsException" ["java/lang/RuntimeException", "java/lang/Exception"]).filter goodWord)
def wsX0_wrongCorners : List Cond := .code yX0_wrongCorners cX0_wrongCorners 2 (some .int) :: ([.methodLink RX0 43 yX0_rightCorners, .static yX0_rightCorners, .initialized RX0, .code yX0_rightCorners cX0_rightCorners 4 (some .int), .methodLink RX0 94 yX0_isRight, .static yX0_isRight, .code yX0_isRight cX0_isRight 3 (some .boolean), .methodLink RX0 87 yX0_cornerAt, .static yX0_cornerAt, .code yX0_cornerAt cX0_cornerAt 3 (some .int), .methodLink RX0 91 yX0_twistAt, .static yX0_twistAt, .code yX0_twistAt cX0_twistAt 3 (some .int)])
def wsX0_reset : List Cond := .code yX0_reset cX0_reset 2 (some .int) :: ([.fieldLink RX0 11 "CornerCube" "cube" "J", .constantLong RX0 9 (506097522914230528), .methodLink RX0 65 yX0_wrongCorners, .static yX0_wrongCorners, .initialized RX0, .code yX0_wrongCorners cX0_wrongCorners 2 (some .int), .methodLink RX0 43 yX0_rightCorners, .static yX0_rightCorners, .code yX0_rightCorners cX0_rightCorners 4 (some .int), .methodLink RX0 94 yX0_isRight, .static yX0_isRight, .code yX0_isRight cX0_isRight 3 (some .boolean), .methodLink RX0 87 yX0_cornerAt, .static yX0_cornerAt, .code yX0_cornerAt cX0_cornerAt 3 (some .int), .methodLink RX0 91 yX0_twistAt, .static yX0_twistAt, .code yX0_twistAt cX0_twistAt 3 (some .int)] ++ wsX00)
def wsX0_say : List Cond := .code yX0_say cX0_say 4 (some .int) :: ([.classLink RX0 57 "java/lang/IllegalStateException", .initialized "java/lang/IllegalStateException", .fieldLink RX0 24 "CornerCube" "lengths" "[I", .fieldLink RX0 21 "CornerCube" "turnsOf" "[[I", .methodLink RX0 47 yX0_checkWord, .static yX0_checkWord, .initialized RX0, .code yX0_checkWord cX0_checkWord 1 none, .classLink RX0 98 "java/lang/IndexOutOfBoundsException", .initialized "java/lang/IndexOutOfBoundsException", .methodLink RX0 28 yX0_checkFace, .static yX0_checkFace, .code yX0_checkFace cX0_checkFace 1 none, .methodLink RX0 32 yX0_checkQuarters, .static yX0_checkQuarters, .code yX0_checkQuarters cX0_checkQuarters 1 none, .classLink RX0 50 "java/lang/IllegalArgumentException", .initialized "java/lang/IllegalArgumentException", .methodLink RX0 35 yX0_turnNumber, .static yX0_turnNumber, .code yX0_turnNumber cX0_turnNumber 2 (some .int)] ++ wsX00 ++ (vx_atS RX0 61 "java/lang/IllegalStateException" ["java/lang/RuntimeException", "java/lang/Exception"]).filter goodWord ++ (vx_atS RX0 102 "java/lang/IndexOutOfBoundsException" ["java/lang/RuntimeException", "java/lang/Exception"]).filter goodWord ++ (vx_atS RX0 54 "java/lang/IllegalArgumentException" ["java/lang/RuntimeException", "java/lang/Exception"]).filter goodWord)
def wsX0_turnedBack : List Cond := .code yX0_turnedBack cX0_turnedBack 1 (some .int) :: ([.methodLink RX0 134 yX0_faceOf, .static yX0_faceOf, .initialized RX0, .code yX0_faceOf cX0_faceOf 1 (some .int), .methodLink RX0 168 yX0_quartersOf, .static yX0_quartersOf, .code yX0_quartersOf cX0_quartersOf 1 (some .int), .methodLink RX0 35 yX0_turnNumber, .static yX0_turnNumber, .code yX0_turnNumber cX0_turnNumber 2 (some .int)])
def wsX0_round : List Cond := .code yX0_round cX0_round 6 (some .int) :: ([.fieldLink RX0 21 "CornerCube" "turnsOf" "[[I", .fieldLink RX0 24 "CornerCube" "lengths" "[I", .methodLink RX0 47 yX0_checkWord, .static yX0_checkWord, .initialized RX0, .code yX0_checkWord cX0_checkWord 1 none, .classLink RX0 98 "java/lang/IndexOutOfBoundsException", .initialized "java/lang/IndexOutOfBoundsException", .methodLink RX0 70 yX0_turnedBack, .static yX0_turnedBack, .code yX0_turnedBack cX0_turnedBack 1 (some .int), .methodLink RX0 134 yX0_faceOf, .static yX0_faceOf, .code yX0_faceOf cX0_faceOf 1 (some .int), .methodLink RX0 168 yX0_quartersOf, .static yX0_quartersOf, .code yX0_quartersOf cX0_quartersOf 1 (some .int), .methodLink RX0 35 yX0_turnNumber, .static yX0_turnNumber, .code yX0_turnNumber cX0_turnNumber 2 (some .int)] ++ wsX00 ++ (vx_atS RX0 102 "java/lang/IndexOutOfBoundsException" ["java/lang/RuntimeException", "java/lang/Exception"]).filter goodWord)
def wsX0_keep : List Cond := .code yX0_keep cX0_keep 4 (some .int) :: ([.methodLink RX0 134 yX0_faceOf, .static yX0_faceOf, .initialized RX0, .code yX0_faceOf cX0_faceOf 1 (some .int), .methodLink RX0 168 yX0_quartersOf, .static yX0_quartersOf, .code yX0_quartersOf cX0_quartersOf 1 (some .int), .methodLink RX0 35 yX0_turnNumber, .static yX0_turnNumber, .code yX0_turnNumber cX0_turnNumber 2 (some .int)])
def wsX0_tidy : List Cond := .code yX0_tidy cX0_tidy 4 (some .int) :: ([.fieldLink RX0 24 "CornerCube" "lengths" "[I", .fieldLink RX0 21 "CornerCube" "turnsOf" "[[I", .methodLink RX0 47 yX0_checkWord, .static yX0_checkWord, .initialized RX0, .code yX0_checkWord cX0_checkWord 1 none, .classLink RX0 98 "java/lang/IndexOutOfBoundsException", .initialized "java/lang/IndexOutOfBoundsException", .methodLink RX0 76 yX0_keep, .static yX0_keep, .code yX0_keep cX0_keep 4 (some .int), .methodLink RX0 134 yX0_faceOf, .static yX0_faceOf, .code yX0_faceOf cX0_faceOf 1 (some .int), .methodLink RX0 168 yX0_quartersOf, .static yX0_quartersOf, .code yX0_quartersOf cX0_quartersOf 1 (some .int), .methodLink RX0 35 yX0_turnNumber, .static yX0_turnNumber, .code yX0_turnNumber cX0_turnNumber 2 (some .int)] ++ wsX00 ++ (vx_atS RX0 102 "java/lang/IndexOutOfBoundsException" ["java/lang/RuntimeException", "java/lang/Exception"]).filter goodWord)
def wsX0_checkPlace : List Cond := .code yX0_checkPlace cX0_checkPlace 1 none :: ([.classLink RX0 98 "java/lang/IndexOutOfBoundsException", .initialized "java/lang/IndexOutOfBoundsException"] ++ (vx_atS RX0 102 "java/lang/IndexOutOfBoundsException" ["java/lang/RuntimeException", "java/lang/Exception"]).filter goodWord)
def wsX0_checkWhat : List Cond := .code yX0_checkWhat cX0_checkWhat 2 none :: ([.classLink RX0 98 "java/lang/IndexOutOfBoundsException", .initialized "java/lang/IndexOutOfBoundsException"] ++ (vx_atS RX0 102 "java/lang/IndexOutOfBoundsException" ["java/lang/RuntimeException", "java/lang/Exception"]).filter goodWord)
def wsX0_told : List Cond := .code yX0_told cX0_told 3 (some .int) :: ([.fieldLink RX0 11 "CornerCube" "cube" "J", .methodLink RX0 80 yX0_checkPlace, .static yX0_checkPlace, .initialized RX0, .code yX0_checkPlace cX0_checkPlace 1 none, .classLink RX0 98 "java/lang/IndexOutOfBoundsException", .initialized "java/lang/IndexOutOfBoundsException", .methodLink RX0 83 yX0_checkWhat, .static yX0_checkWhat, .code yX0_checkWhat cX0_checkWhat 2 none, .methodLink RX0 87 yX0_cornerAt, .static yX0_cornerAt, .code yX0_cornerAt cX0_cornerAt 3 (some .int), .methodLink RX0 91 yX0_twistAt, .static yX0_twistAt, .code yX0_twistAt cX0_twistAt 3 (some .int), .methodLink RX0 94 yX0_isRight, .static yX0_isRight, .code yX0_isRight cX0_isRight 3 (some .boolean)] ++ wsX00 ++ (vx_atS RX0 102 "java/lang/IndexOutOfBoundsException" ["java/lang/RuntimeException", "java/lang/Exception"]).filter goodWord)
def wsX0_where : List Cond := .code yX0_where cX0_where 3 (some .int) :: ([.classLink RX0 98 "java/lang/IndexOutOfBoundsException", .initialized "java/lang/IndexOutOfBoundsException", .fieldLink RX0 11 "CornerCube" "cube" "J", .methodLink RX0 87 yX0_cornerAt, .static yX0_cornerAt, .initialized RX0, .code yX0_cornerAt cX0_cornerAt 3 (some .int)] ++ wsX00 ++ (vx_atS RX0 102 "java/lang/IndexOutOfBoundsException" ["java/lang/RuntimeException", "java/lang/Exception"]).filter goodWord)
def wsX0_placedCorners : List Cond := .code yX0_placedCorners cX0_placedCorners 4 (some .int) :: ([.methodLink RX0 87 yX0_cornerAt, .static yX0_cornerAt, .initialized RX0, .code yX0_cornerAt cX0_cornerAt 3 (some .int)])
def wsX0_untwistedCorners : List Cond := .code yX0_untwistedCorners cX0_untwistedCorners 4 (some .int) :: ([.methodLink RX0 91 yX0_twistAt, .static yX0_twistAt, .initialized RX0, .code yX0_twistAt cX0_twistAt 3 (some .int)])
def wsX0_pairsOutOfOrder : List Cond := .code yX0_pairsOutOfOrder cX0_pairsOutOfOrder 5 (some .int) :: ([.methodLink RX0 87 yX0_cornerAt, .static yX0_cornerAt, .initialized RX0, .code yX0_cornerAt cX0_cornerAt 3 (some .int)])
def wsX0_behindDeed : List Cond := .code yX0_behindDeed cX0_behindDeed 8 (some .long) :: ([.methodLink RX0 87 yX0_cornerAt, .static yX0_cornerAt, .initialized RX0, .code yX0_cornerAt cX0_cornerAt 3 (some .int), .methodLink RX0 91 yX0_twistAt, .static yX0_twistAt, .code yX0_twistAt cX0_twistAt 3 (some .int), .methodLink RX0 191 yX0_withCorner, .static yX0_withCorner, .code yX0_withCorner cX0_withCorner 9 (some .long), .constantLong RX0 175 (255), .constantLong RX0 177 (-1)])
def wsX0_orderOf : List Cond := .code yX0_orderOf cX0_orderOf 5 (some .int) :: ([.constantLong RX0 9 (506097522914230528), .methodLink RX0 171 yX0_behindDeed, .static yX0_behindDeed, .initialized RX0, .code yX0_behindDeed cX0_behindDeed 8 (some .long), .methodLink RX0 87 yX0_cornerAt, .static yX0_cornerAt, .code yX0_cornerAt cX0_cornerAt 3 (some .int), .methodLink RX0 91 yX0_twistAt, .static yX0_twistAt, .code yX0_twistAt cX0_twistAt 3 (some .int), .methodLink RX0 191 yX0_withCorner, .static yX0_withCorner, .code yX0_withCorner cX0_withCorner 9 (some .long), .constantLong RX0 175 (255), .constantLong RX0 177 (-1)])
def wsX0_turnsOfAllWords : List Cond := .code yX0_turnsOfAllWords cX0_turnsOfAllWords 3 (some .int) :: ([.fieldLink RX0 24 "CornerCube" "lengths" "[I"] ++ wsX00)
def wsX0_count_r1 : List Cond := [Cond.fieldLink RX0 15 "CornerCube" "turnsMade" "I", Cond.fieldLink RX0 11 "CornerCube" "cube" "J", Cond.methodLink RX0 83 yX0_checkWhat, Cond.static yX0_checkWhat, Cond.initialized RX0, Cond.code yX0_checkWhat cX0_checkWhat 2 none, Cond.classLink RX0 98 "java/lang/IndexOutOfBoundsException", Cond.initialized "java/lang/IndexOutOfBoundsException", Cond.methodLink RX0 43 yX0_rightCorners, Cond.static yX0_rightCorners, Cond.code yX0_rightCorners cX0_rightCorners 4 (some .int), Cond.methodLink RX0 94 yX0_isRight, Cond.static yX0_isRight, Cond.code yX0_isRight cX0_isRight 3 (some .boolean), Cond.methodLink RX0 87 yX0_cornerAt, Cond.static yX0_cornerAt, Cond.code yX0_cornerAt cX0_cornerAt 3 (some .int), Cond.methodLink RX0 91 yX0_twistAt, Cond.static yX0_twistAt, Cond.code yX0_twistAt cX0_twistAt 3 (some .int), Cond.methodLink RX0 103 yX0_placedCorners, Cond.static yX0_placedCorners, Cond.code yX0_placedCorners cX0_placedCorners 4 (some .int), Cond.methodLink RX0 106 yX0_untwistedCorners]
def wsX0_count_r2 : List Cond := [Cond.static yX0_untwistedCorners, Cond.code yX0_untwistedCorners cX0_untwistedCorners 4 (some .int), Cond.methodLink RX0 109 yX0_pairsOutOfOrder, Cond.static yX0_pairsOutOfOrder, Cond.code yX0_pairsOutOfOrder cX0_pairsOutOfOrder 5 (some .int), Cond.methodLink RX0 112 yX0_orderOf, Cond.static yX0_orderOf, Cond.code yX0_orderOf cX0_orderOf 5 (some .int), Cond.constantLong RX0 9 (506097522914230528), Cond.methodLink RX0 171 yX0_behindDeed, Cond.static yX0_behindDeed, Cond.code yX0_behindDeed cX0_behindDeed 8 (some .long), Cond.methodLink RX0 191 yX0_withCorner, Cond.static yX0_withCorner, Cond.code yX0_withCorner cX0_withCorner 9 (some .long), Cond.constantLong RX0 175 (255), Cond.constantLong RX0 177 (-1), Cond.methodLink RX0 115 yX0_turnsOfAllWords, Cond.instanceMethod yX0_turnsOfAllWords, Cond.selects RX0 yX0_turnsOfAllWords yX0_turnsOfAllWords, Cond.code yX0_turnsOfAllWords cX0_turnsOfAllWords 3 (some .int), Cond.fieldLink RX0 24 "CornerCube" "lengths" "[I"]
def wsX0_count : List Cond := .code yX0_count cX0_count 2 (some .int) :: ((wsX0_count_r1 ++ wsX0_count_r2) ++ wsX00 ++ (vx_atS RX0 102 "java/lang/IndexOutOfBoundsException" ["java/lang/RuntimeException", "java/lang/Exception"]).filter goodWord)
def wsX0_deedOf_r1 : List Cond := [Cond.constantLong RX0 9 (506097522914230528), Cond.methodLink RX0 62 yX0_behindWord, Cond.instanceMethod yX0_behindWord, Cond.selects RX0 yX0_behindWord yX0_behindWord, Cond.initialized RX0, Cond.code yX0_behindWord cX0_behindWord 7 (some .long), Cond.fieldLink RX0 24 "CornerCube" "lengths" "[I", Cond.fieldLink RX0 21 "CornerCube" "turnsOf" "[[I", Cond.methodLink RX0 39 yX0_turned, Cond.static yX0_turned, Cond.code yX0_turned cX0_turned 6 (some .long), Cond.methodLink RX0 168 yX0_quartersOf, Cond.static yX0_quartersOf, Cond.code yX0_quartersOf cX0_quartersOf 1 (some .int), Cond.methodLink RX0 134 yX0_faceOf, Cond.static yX0_faceOf, Cond.code yX0_faceOf cX0_faceOf 1 (some .int), Cond.methodLink RX0 179 yX0_quarterTurned, Cond.static yX0_quarterTurned, Cond.code yX0_quarterTurned cX0_quarterTurned 10 (some .long), Cond.methodLink RX0 182 yX0_ringOf, Cond.static yX0_ringOf, Cond.code yX0_ringOf cX0_ringOf 1 (some .int), Cond.methodLink RX0 185 yX0_moreTwistOf]
def wsX0_deedOf_r2 : List Cond := [Cond.static yX0_moreTwistOf, Cond.code yX0_moreTwistOf cX0_moreTwistOf 1 (some .int), Cond.methodLink RX0 188 yX0_hexDigit, Cond.static yX0_hexDigit, Cond.code yX0_hexDigit cX0_hexDigit 2 (some .int), Cond.methodLink RX0 87 yX0_cornerAt, Cond.static yX0_cornerAt, Cond.code yX0_cornerAt cX0_cornerAt 3 (some .int), Cond.methodLink RX0 91 yX0_twistAt, Cond.static yX0_twistAt, Cond.code yX0_twistAt cX0_twistAt 3 (some .int), Cond.methodLink RX0 191 yX0_withCorner, Cond.static yX0_withCorner, Cond.code yX0_withCorner cX0_withCorner 9 (some .long), Cond.constantLong RX0 175 (255), Cond.constantLong RX0 177 (-1)]
def wsX0_deedOf : List Cond := .code yX0_deedOf cX0_deedOf 2 (some .long) :: ((wsX0_deedOf_r1 ++ wsX0_deedOf_r2) ++ wsX00)
def wsX0_word_r1 : List Cond := [Cond.fieldLink RX0 24 "CornerCube" "lengths" "[I", Cond.methodLink RX0 47 yX0_checkWord, Cond.static yX0_checkWord, Cond.initialized RX0, Cond.code yX0_checkWord cX0_checkWord 1 none, Cond.classLink RX0 98 "java/lang/IndexOutOfBoundsException", Cond.initialized "java/lang/IndexOutOfBoundsException", Cond.methodLink RX0 83 yX0_checkWhat, Cond.static yX0_checkWhat, Cond.code yX0_checkWhat cX0_checkWhat 2 none, Cond.methodLink RX0 119 yX0_deedOf, Cond.instanceMethod yX0_deedOf, Cond.selects RX0 yX0_deedOf yX0_deedOf, Cond.code yX0_deedOf cX0_deedOf 2 (some .long), Cond.constantLong RX0 9 (506097522914230528), Cond.methodLink RX0 62 yX0_behindWord, Cond.instanceMethod yX0_behindWord, Cond.selects RX0 yX0_behindWord yX0_behindWord, Cond.code yX0_behindWord cX0_behindWord 7 (some .long), Cond.fieldLink RX0 21 "CornerCube" "turnsOf" "[[I", Cond.methodLink RX0 39 yX0_turned, Cond.static yX0_turned, Cond.code yX0_turned cX0_turned 6 (some .long), Cond.methodLink RX0 168 yX0_quartersOf]
def wsX0_word_r2 : List Cond := [Cond.static yX0_quartersOf, Cond.code yX0_quartersOf cX0_quartersOf 1 (some .int), Cond.methodLink RX0 134 yX0_faceOf, Cond.static yX0_faceOf, Cond.code yX0_faceOf cX0_faceOf 1 (some .int), Cond.methodLink RX0 179 yX0_quarterTurned, Cond.static yX0_quarterTurned, Cond.code yX0_quarterTurned cX0_quarterTurned 10 (some .long), Cond.methodLink RX0 182 yX0_ringOf, Cond.static yX0_ringOf, Cond.code yX0_ringOf cX0_ringOf 1 (some .int), Cond.methodLink RX0 185 yX0_moreTwistOf, Cond.static yX0_moreTwistOf, Cond.code yX0_moreTwistOf cX0_moreTwistOf 1 (some .int), Cond.methodLink RX0 188 yX0_hexDigit, Cond.static yX0_hexDigit, Cond.code yX0_hexDigit cX0_hexDigit 2 (some .int), Cond.methodLink RX0 87 yX0_cornerAt, Cond.static yX0_cornerAt, Cond.code yX0_cornerAt cX0_cornerAt 3 (some .int), Cond.methodLink RX0 91 yX0_twistAt, Cond.static yX0_twistAt, Cond.code yX0_twistAt cX0_twistAt 3 (some .int), Cond.methodLink RX0 191 yX0_withCorner]
def wsX0_word_r3 : List Cond := [Cond.static yX0_withCorner, Cond.code yX0_withCorner cX0_withCorner 9 (some .long), Cond.constantLong RX0 175 (255), Cond.constantLong RX0 177 (-1), Cond.methodLink RX0 112 yX0_orderOf, Cond.static yX0_orderOf, Cond.code yX0_orderOf cX0_orderOf 5 (some .int), Cond.methodLink RX0 171 yX0_behindDeed, Cond.static yX0_behindDeed, Cond.code yX0_behindDeed cX0_behindDeed 8 (some .long), Cond.methodLink RX0 65 yX0_wrongCorners, Cond.static yX0_wrongCorners, Cond.code yX0_wrongCorners cX0_wrongCorners 2 (some .int), Cond.methodLink RX0 43 yX0_rightCorners, Cond.static yX0_rightCorners, Cond.code yX0_rightCorners cX0_rightCorners 4 (some .int), Cond.methodLink RX0 94 yX0_isRight, Cond.static yX0_isRight, Cond.code yX0_isRight cX0_isRight 3 (some .boolean), Cond.methodLink RX0 103 yX0_placedCorners, Cond.static yX0_placedCorners, Cond.code yX0_placedCorners cX0_placedCorners 4 (some .int)]
def wsX0_word : List Cond := .code yX0_word cX0_word 3 (some .int) :: ((wsX0_word_r1 ++ (wsX0_word_r2 ++ wsX0_word_r3)) ++ wsX00 ++ (vx_atS RX0 102 "java/lang/IndexOutOfBoundsException" ["java/lang/RuntimeException", "java/lang/Exception"]).filter goodWord)
def wsX0_same_r1 : List Cond := [Cond.methodLink RX0 47 yX0_checkWord, Cond.static yX0_checkWord, Cond.initialized RX0, Cond.code yX0_checkWord cX0_checkWord 1 none, Cond.classLink RX0 98 "java/lang/IndexOutOfBoundsException", Cond.initialized "java/lang/IndexOutOfBoundsException", Cond.methodLink RX0 119 yX0_deedOf, Cond.instanceMethod yX0_deedOf, Cond.selects RX0 yX0_deedOf yX0_deedOf, Cond.code yX0_deedOf cX0_deedOf 2 (some .long), Cond.constantLong RX0 9 (506097522914230528), Cond.methodLink RX0 62 yX0_behindWord, Cond.instanceMethod yX0_behindWord, Cond.selects RX0 yX0_behindWord yX0_behindWord, Cond.code yX0_behindWord cX0_behindWord 7 (some .long), Cond.fieldLink RX0 24 "CornerCube" "lengths" "[I", Cond.fieldLink RX0 21 "CornerCube" "turnsOf" "[[I", Cond.methodLink RX0 39 yX0_turned, Cond.static yX0_turned, Cond.code yX0_turned cX0_turned 6 (some .long), Cond.methodLink RX0 168 yX0_quartersOf, Cond.static yX0_quartersOf, Cond.code yX0_quartersOf cX0_quartersOf 1 (some .int), Cond.methodLink RX0 134 yX0_faceOf]
def wsX0_same_r2 : List Cond := [Cond.static yX0_faceOf, Cond.code yX0_faceOf cX0_faceOf 1 (some .int), Cond.methodLink RX0 179 yX0_quarterTurned, Cond.static yX0_quarterTurned, Cond.code yX0_quarterTurned cX0_quarterTurned 10 (some .long), Cond.methodLink RX0 182 yX0_ringOf, Cond.static yX0_ringOf, Cond.code yX0_ringOf cX0_ringOf 1 (some .int), Cond.methodLink RX0 185 yX0_moreTwistOf, Cond.static yX0_moreTwistOf, Cond.code yX0_moreTwistOf cX0_moreTwistOf 1 (some .int), Cond.methodLink RX0 188 yX0_hexDigit, Cond.static yX0_hexDigit, Cond.code yX0_hexDigit cX0_hexDigit 2 (some .int), Cond.methodLink RX0 87 yX0_cornerAt, Cond.static yX0_cornerAt, Cond.code yX0_cornerAt cX0_cornerAt 3 (some .int), Cond.methodLink RX0 91 yX0_twistAt, Cond.static yX0_twistAt, Cond.code yX0_twistAt cX0_twistAt 3 (some .int), Cond.methodLink RX0 191 yX0_withCorner, Cond.static yX0_withCorner, Cond.code yX0_withCorner cX0_withCorner 9 (some .long), Cond.constantLong RX0 175 (255)]
def wsX0_same_r3 : List Cond := [Cond.constantLong RX0 177 (-1)]
def wsX0_same : List Cond := .code yX0_same cX0_same 3 (some .boolean) :: ((wsX0_same_r1 ++ (wsX0_same_r2 ++ wsX0_same_r3)) ++ wsX00 ++ (vx_atS RX0 102 "java/lang/IndexOutOfBoundsException" ["java/lang/RuntimeException", "java/lang/Exception"]).filter goodWord)
def wsX0_behindWordRound_r1 : List Cond := [Cond.fieldLink RX0 24 "CornerCube" "lengths" "[I", Cond.fieldLink RX0 21 "CornerCube" "turnsOf" "[[I", Cond.methodLink RX0 70 yX0_turnedBack, Cond.static yX0_turnedBack, Cond.initialized RX0, Cond.code yX0_turnedBack cX0_turnedBack 1 (some .int), Cond.methodLink RX0 134 yX0_faceOf, Cond.static yX0_faceOf, Cond.code yX0_faceOf cX0_faceOf 1 (some .int), Cond.methodLink RX0 168 yX0_quartersOf, Cond.static yX0_quartersOf, Cond.code yX0_quartersOf cX0_quartersOf 1 (some .int), Cond.methodLink RX0 35 yX0_turnNumber, Cond.static yX0_turnNumber, Cond.code yX0_turnNumber cX0_turnNumber 2 (some .int), Cond.methodLink RX0 39 yX0_turned, Cond.static yX0_turned, Cond.code yX0_turned cX0_turned 6 (some .long), Cond.methodLink RX0 179 yX0_quarterTurned, Cond.static yX0_quarterTurned, Cond.code yX0_quarterTurned cX0_quarterTurned 10 (some .long), Cond.methodLink RX0 182 yX0_ringOf, Cond.static yX0_ringOf, Cond.code yX0_ringOf cX0_ringOf 1 (some .int)]
def wsX0_behindWordRound_r2 : List Cond := [Cond.methodLink RX0 185 yX0_moreTwistOf, Cond.static yX0_moreTwistOf, Cond.code yX0_moreTwistOf cX0_moreTwistOf 1 (some .int), Cond.methodLink RX0 188 yX0_hexDigit, Cond.static yX0_hexDigit, Cond.code yX0_hexDigit cX0_hexDigit 2 (some .int), Cond.methodLink RX0 87 yX0_cornerAt, Cond.static yX0_cornerAt, Cond.code yX0_cornerAt cX0_cornerAt 3 (some .int), Cond.methodLink RX0 91 yX0_twistAt, Cond.static yX0_twistAt, Cond.code yX0_twistAt cX0_twistAt 3 (some .int), Cond.methodLink RX0 191 yX0_withCorner, Cond.static yX0_withCorner, Cond.code yX0_withCorner cX0_withCorner 9 (some .long), Cond.constantLong RX0 175 (255), Cond.constantLong RX0 177 (-1)]
def wsX0_behindWordRound : List Cond := .code yX0_behindWordRound cX0_behindWordRound 7 (some .long) :: ((wsX0_behindWordRound_r1 ++ wsX0_behindWordRound_r2) ++ wsX00)
def wsX0_mixed_r1 : List Cond := [Cond.methodLink RX0 47 yX0_checkWord, Cond.static yX0_checkWord, Cond.initialized RX0, Cond.code yX0_checkWord cX0_checkWord 1 none, Cond.classLink RX0 98 "java/lang/IndexOutOfBoundsException", Cond.initialized "java/lang/IndexOutOfBoundsException", Cond.methodLink RX0 119 yX0_deedOf, Cond.instanceMethod yX0_deedOf, Cond.selects RX0 yX0_deedOf yX0_deedOf, Cond.code yX0_deedOf cX0_deedOf 2 (some .long), Cond.constantLong RX0 9 (506097522914230528), Cond.methodLink RX0 62 yX0_behindWord, Cond.instanceMethod yX0_behindWord, Cond.selects RX0 yX0_behindWord yX0_behindWord, Cond.code yX0_behindWord cX0_behindWord 7 (some .long), Cond.fieldLink RX0 24 "CornerCube" "lengths" "[I", Cond.fieldLink RX0 21 "CornerCube" "turnsOf" "[[I", Cond.methodLink RX0 39 yX0_turned, Cond.static yX0_turned, Cond.code yX0_turned cX0_turned 6 (some .long), Cond.methodLink RX0 168 yX0_quartersOf, Cond.static yX0_quartersOf, Cond.code yX0_quartersOf cX0_quartersOf 1 (some .int), Cond.methodLink RX0 134 yX0_faceOf]
def wsX0_mixed_r2 : List Cond := [Cond.static yX0_faceOf, Cond.code yX0_faceOf cX0_faceOf 1 (some .int), Cond.methodLink RX0 179 yX0_quarterTurned, Cond.static yX0_quarterTurned, Cond.code yX0_quarterTurned cX0_quarterTurned 10 (some .long), Cond.methodLink RX0 182 yX0_ringOf, Cond.static yX0_ringOf, Cond.code yX0_ringOf cX0_ringOf 1 (some .int), Cond.methodLink RX0 185 yX0_moreTwistOf, Cond.static yX0_moreTwistOf, Cond.code yX0_moreTwistOf cX0_moreTwistOf 1 (some .int), Cond.methodLink RX0 188 yX0_hexDigit, Cond.static yX0_hexDigit, Cond.code yX0_hexDigit cX0_hexDigit 2 (some .int), Cond.methodLink RX0 87 yX0_cornerAt, Cond.static yX0_cornerAt, Cond.code yX0_cornerAt cX0_cornerAt 3 (some .int), Cond.methodLink RX0 91 yX0_twistAt, Cond.static yX0_twistAt, Cond.code yX0_twistAt cX0_twistAt 3 (some .int), Cond.methodLink RX0 191 yX0_withCorner, Cond.static yX0_withCorner, Cond.code yX0_withCorner cX0_withCorner 9 (some .long), Cond.constantLong RX0 175 (255)]
def wsX0_mixed_r3 : List Cond := [Cond.constantLong RX0 177 (-1), Cond.methodLink RX0 125 yX0_behindWordRound, Cond.instanceMethod yX0_behindWordRound, Cond.selects RX0 yX0_behindWordRound yX0_behindWordRound, Cond.code yX0_behindWordRound cX0_behindWordRound 7 (some .long), Cond.methodLink RX0 70 yX0_turnedBack, Cond.static yX0_turnedBack, Cond.code yX0_turnedBack cX0_turnedBack 1 (some .int), Cond.methodLink RX0 35 yX0_turnNumber, Cond.static yX0_turnNumber, Cond.code yX0_turnNumber cX0_turnNumber 2 (some .int), Cond.methodLink RX0 65 yX0_wrongCorners, Cond.static yX0_wrongCorners, Cond.code yX0_wrongCorners cX0_wrongCorners 2 (some .int), Cond.methodLink RX0 43 yX0_rightCorners, Cond.static yX0_rightCorners, Cond.code yX0_rightCorners cX0_rightCorners 4 (some .int), Cond.methodLink RX0 94 yX0_isRight, Cond.static yX0_isRight, Cond.code yX0_isRight cX0_isRight 3 (some .boolean)]
def wsX0_mixed : List Cond := .code yX0_mixed cX0_mixed 5 (some .int) :: ((wsX0_mixed_r1 ++ (wsX0_mixed_r2 ++ wsX0_mixed_r3)) ++ wsX00 ++ (vx_atS RX0 102 "java/lang/IndexOutOfBoundsException" ["java/lang/RuntimeException", "java/lang/Exception"]).filter goodWord)
def wsX0_would_r1 : List Cond := [Cond.fieldLink RX0 11 "CornerCube" "cube" "J", Cond.methodLink RX0 28 yX0_checkFace, Cond.static yX0_checkFace, Cond.initialized RX0, Cond.code yX0_checkFace cX0_checkFace 1 none, Cond.classLink RX0 98 "java/lang/IndexOutOfBoundsException", Cond.initialized "java/lang/IndexOutOfBoundsException", Cond.methodLink RX0 32 yX0_checkQuarters, Cond.static yX0_checkQuarters, Cond.code yX0_checkQuarters cX0_checkQuarters 1 none, Cond.classLink RX0 50 "java/lang/IllegalArgumentException", Cond.initialized "java/lang/IllegalArgumentException", Cond.methodLink RX0 35 yX0_turnNumber, Cond.static yX0_turnNumber, Cond.code yX0_turnNumber cX0_turnNumber 2 (some .int), Cond.methodLink RX0 39 yX0_turned, Cond.static yX0_turned, Cond.code yX0_turned cX0_turned 6 (some .long), Cond.methodLink RX0 168 yX0_quartersOf, Cond.static yX0_quartersOf, Cond.code yX0_quartersOf cX0_quartersOf 1 (some .int), Cond.methodLink RX0 134 yX0_faceOf, Cond.static yX0_faceOf, Cond.code yX0_faceOf cX0_faceOf 1 (some .int)]
def wsX0_would_r2 : List Cond := [Cond.methodLink RX0 179 yX0_quarterTurned, Cond.static yX0_quarterTurned, Cond.code yX0_quarterTurned cX0_quarterTurned 10 (some .long), Cond.methodLink RX0 182 yX0_ringOf, Cond.static yX0_ringOf, Cond.code yX0_ringOf cX0_ringOf 1 (some .int), Cond.methodLink RX0 185 yX0_moreTwistOf, Cond.static yX0_moreTwistOf, Cond.code yX0_moreTwistOf cX0_moreTwistOf 1 (some .int), Cond.methodLink RX0 188 yX0_hexDigit, Cond.static yX0_hexDigit, Cond.code yX0_hexDigit cX0_hexDigit 2 (some .int), Cond.methodLink RX0 87 yX0_cornerAt, Cond.static yX0_cornerAt, Cond.code yX0_cornerAt cX0_cornerAt 3 (some .int), Cond.methodLink RX0 91 yX0_twistAt, Cond.static yX0_twistAt, Cond.code yX0_twistAt cX0_twistAt 3 (some .int), Cond.methodLink RX0 191 yX0_withCorner, Cond.static yX0_withCorner, Cond.code yX0_withCorner cX0_withCorner 9 (some .long), Cond.constantLong RX0 175 (255), Cond.constantLong RX0 177 (-1), Cond.methodLink RX0 43 yX0_rightCorners]
def wsX0_would_r3 : List Cond := [Cond.static yX0_rightCorners, Cond.code yX0_rightCorners cX0_rightCorners 4 (some .int), Cond.methodLink RX0 94 yX0_isRight, Cond.static yX0_isRight, Cond.code yX0_isRight cX0_isRight 3 (some .boolean)]
def wsX0_would : List Cond := .code yX0_would cX0_would 3 (some .int) :: ((wsX0_would_r1 ++ (wsX0_would_r2 ++ wsX0_would_r3)) ++ wsX00 ++ (vx_atS RX0 102 "java/lang/IndexOutOfBoundsException" ["java/lang/RuntimeException", "java/lang/Exception"]).filter goodWord ++ (vx_atS RX0 54 "java/lang/IllegalArgumentException" ["java/lang/RuntimeException", "java/lang/Exception"]).filter goodWord)
def wsX0_checkMost : List Cond := .code yX0_checkMost cX0_checkMost 1 none :: ([.classLink RX0 50 "java/lang/IllegalArgumentException", .initialized "java/lang/IllegalArgumentException"] ++ (vx_atS RX0 54 "java/lang/IllegalArgumentException" ["java/lang/RuntimeException", "java/lang/Exception"]).filter goodWord)
def wsX0_mostSetRight : List Cond := .code yX0_mostSetRight cX0_mostSetRight 1 (some .int) :: ([])
def wsX0_isRightBeginning_r1 : List Cond := [Cond.methodLink RX0 179 yX0_quarterTurned, Cond.static yX0_quarterTurned, Cond.initialized RX0, Cond.code yX0_quarterTurned cX0_quarterTurned 10 (some .long), Cond.methodLink RX0 182 yX0_ringOf, Cond.static yX0_ringOf, Cond.code yX0_ringOf cX0_ringOf 1 (some .int), Cond.methodLink RX0 185 yX0_moreTwistOf, Cond.static yX0_moreTwistOf, Cond.code yX0_moreTwistOf cX0_moreTwistOf 1 (some .int), Cond.methodLink RX0 188 yX0_hexDigit, Cond.static yX0_hexDigit, Cond.code yX0_hexDigit cX0_hexDigit 2 (some .int), Cond.methodLink RX0 87 yX0_cornerAt, Cond.static yX0_cornerAt, Cond.code yX0_cornerAt cX0_cornerAt 3 (some .int), Cond.methodLink RX0 91 yX0_twistAt, Cond.static yX0_twistAt, Cond.code yX0_twistAt cX0_twistAt 3 (some .int), Cond.methodLink RX0 191 yX0_withCorner, Cond.static yX0_withCorner, Cond.code yX0_withCorner cX0_withCorner 9 (some .long), Cond.constantLong RX0 175 (255), Cond.constantLong RX0 177 (-1)]
def wsX0_isRightBeginning_r2 : List Cond := [Cond.methodLink RX0 137 yX0_isRightWithin, Cond.static yX0_isRightWithin, Cond.code yX0_isRightWithin cX0_isRightWithin 5 (some .boolean), Cond.constantLong RX0 9 (506097522914230528), Cond.methodLink RX0 65 yX0_wrongCorners, Cond.static yX0_wrongCorners, Cond.code yX0_wrongCorners cX0_wrongCorners 2 (some .int), Cond.methodLink RX0 43 yX0_rightCorners, Cond.static yX0_rightCorners, Cond.code yX0_rightCorners cX0_rightCorners 4 (some .int), Cond.methodLink RX0 94 yX0_isRight, Cond.static yX0_isRight, Cond.code yX0_isRight cX0_isRight 3 (some .boolean), Cond.methodLink RX0 195 yX0_mostSetRight, Cond.static yX0_mostSetRight, Cond.code yX0_mostSetRight cX0_mostSetRight 1 (some .int), Cond.methodLink RX0 198 yX0_isRightBeginning, Cond.static yX0_isRightBeginning]
def wsX0_isRightBeginning : List Cond := .code yX0_isRightBeginning cX0_isRightBeginning 7 (some .boolean) :: ((wsX0_isRightBeginning_r1 ++ wsX0_isRightBeginning_r2))
def wsX0_isRightWithin_r1 : List Cond := [Cond.constantLong RX0 9 (506097522914230528), Cond.methodLink RX0 65 yX0_wrongCorners, Cond.static yX0_wrongCorners, Cond.initialized RX0, Cond.code yX0_wrongCorners cX0_wrongCorners 2 (some .int), Cond.methodLink RX0 43 yX0_rightCorners, Cond.static yX0_rightCorners, Cond.code yX0_rightCorners cX0_rightCorners 4 (some .int), Cond.methodLink RX0 94 yX0_isRight, Cond.static yX0_isRight, Cond.code yX0_isRight cX0_isRight 3 (some .boolean), Cond.methodLink RX0 87 yX0_cornerAt, Cond.static yX0_cornerAt, Cond.code yX0_cornerAt cX0_cornerAt 3 (some .int), Cond.methodLink RX0 91 yX0_twistAt, Cond.static yX0_twistAt, Cond.code yX0_twistAt cX0_twistAt 3 (some .int), Cond.methodLink RX0 195 yX0_mostSetRight, Cond.static yX0_mostSetRight, Cond.code yX0_mostSetRight cX0_mostSetRight 1 (some .int), Cond.methodLink RX0 198 yX0_isRightBeginning, Cond.static yX0_isRightBeginning, Cond.code yX0_isRightBeginning cX0_isRightBeginning 7 (some .boolean), Cond.methodLink RX0 179 yX0_quarterTurned]
def wsX0_isRightWithin_r2 : List Cond := [Cond.static yX0_quarterTurned, Cond.code yX0_quarterTurned cX0_quarterTurned 10 (some .long), Cond.methodLink RX0 182 yX0_ringOf, Cond.static yX0_ringOf, Cond.code yX0_ringOf cX0_ringOf 1 (some .int), Cond.methodLink RX0 185 yX0_moreTwistOf, Cond.static yX0_moreTwistOf, Cond.code yX0_moreTwistOf cX0_moreTwistOf 1 (some .int), Cond.methodLink RX0 188 yX0_hexDigit, Cond.static yX0_hexDigit, Cond.code yX0_hexDigit cX0_hexDigit 2 (some .int), Cond.methodLink RX0 191 yX0_withCorner, Cond.static yX0_withCorner, Cond.code yX0_withCorner cX0_withCorner 9 (some .long), Cond.constantLong RX0 175 (255), Cond.constantLong RX0 177 (-1), Cond.methodLink RX0 137 yX0_isRightWithin, Cond.static yX0_isRightWithin]
def wsX0_isRightWithin : List Cond := .code yX0_isRightWithin cX0_isRightWithin 5 (some .boolean) :: ((wsX0_isRightWithin_r1 ++ wsX0_isRightWithin_r2))
def wsX0_fewestTurns_r1 : List Cond := [Cond.methodLink RX0 137 yX0_isRightWithin, Cond.static yX0_isRightWithin, Cond.initialized RX0, Cond.code yX0_isRightWithin cX0_isRightWithin 5 (some .boolean), Cond.constantLong RX0 9 (506097522914230528), Cond.methodLink RX0 65 yX0_wrongCorners, Cond.static yX0_wrongCorners, Cond.code yX0_wrongCorners cX0_wrongCorners 2 (some .int), Cond.methodLink RX0 43 yX0_rightCorners, Cond.static yX0_rightCorners, Cond.code yX0_rightCorners cX0_rightCorners 4 (some .int), Cond.methodLink RX0 94 yX0_isRight, Cond.static yX0_isRight, Cond.code yX0_isRight cX0_isRight 3 (some .boolean), Cond.methodLink RX0 87 yX0_cornerAt, Cond.static yX0_cornerAt, Cond.code yX0_cornerAt cX0_cornerAt 3 (some .int), Cond.methodLink RX0 91 yX0_twistAt, Cond.static yX0_twistAt, Cond.code yX0_twistAt cX0_twistAt 3 (some .int), Cond.methodLink RX0 195 yX0_mostSetRight, Cond.static yX0_mostSetRight, Cond.code yX0_mostSetRight cX0_mostSetRight 1 (some .int), Cond.methodLink RX0 198 yX0_isRightBeginning]
def wsX0_fewestTurns_r2 : List Cond := [Cond.static yX0_isRightBeginning, Cond.code yX0_isRightBeginning cX0_isRightBeginning 7 (some .boolean), Cond.methodLink RX0 179 yX0_quarterTurned, Cond.static yX0_quarterTurned, Cond.code yX0_quarterTurned cX0_quarterTurned 10 (some .long), Cond.methodLink RX0 182 yX0_ringOf, Cond.static yX0_ringOf, Cond.code yX0_ringOf cX0_ringOf 1 (some .int), Cond.methodLink RX0 185 yX0_moreTwistOf, Cond.static yX0_moreTwistOf, Cond.code yX0_moreTwistOf cX0_moreTwistOf 1 (some .int), Cond.methodLink RX0 188 yX0_hexDigit, Cond.static yX0_hexDigit, Cond.code yX0_hexDigit cX0_hexDigit 2 (some .int), Cond.methodLink RX0 191 yX0_withCorner, Cond.static yX0_withCorner, Cond.code yX0_withCorner cX0_withCorner 9 (some .long), Cond.constantLong RX0 175 (255), Cond.constantLong RX0 177 (-1)]
def wsX0_fewestTurns : List Cond := .code yX0_fewestTurns cX0_fewestTurns 4 (some .int) :: ((wsX0_fewestTurns_r1 ++ wsX0_fewestTurns_r2))
def wsX0_far_r1 : List Cond := [Cond.fieldLink RX0 11 "CornerCube" "cube" "J", Cond.methodLink RX0 128 yX0_checkMost, Cond.static yX0_checkMost, Cond.initialized RX0, Cond.code yX0_checkMost cX0_checkMost 1 none, Cond.classLink RX0 50 "java/lang/IllegalArgumentException", Cond.initialized "java/lang/IllegalArgumentException", Cond.methodLink RX0 131 yX0_fewestTurns, Cond.static yX0_fewestTurns, Cond.code yX0_fewestTurns cX0_fewestTurns 4 (some .int), Cond.methodLink RX0 137 yX0_isRightWithin, Cond.static yX0_isRightWithin, Cond.code yX0_isRightWithin cX0_isRightWithin 5 (some .boolean), Cond.constantLong RX0 9 (506097522914230528), Cond.methodLink RX0 65 yX0_wrongCorners, Cond.static yX0_wrongCorners, Cond.code yX0_wrongCorners cX0_wrongCorners 2 (some .int), Cond.methodLink RX0 43 yX0_rightCorners, Cond.static yX0_rightCorners, Cond.code yX0_rightCorners cX0_rightCorners 4 (some .int), Cond.methodLink RX0 94 yX0_isRight, Cond.static yX0_isRight, Cond.code yX0_isRight cX0_isRight 3 (some .boolean), Cond.methodLink RX0 87 yX0_cornerAt]
def wsX0_far_r2 : List Cond := [Cond.static yX0_cornerAt, Cond.code yX0_cornerAt cX0_cornerAt 3 (some .int), Cond.methodLink RX0 91 yX0_twistAt, Cond.static yX0_twistAt, Cond.code yX0_twistAt cX0_twistAt 3 (some .int), Cond.methodLink RX0 195 yX0_mostSetRight, Cond.static yX0_mostSetRight, Cond.code yX0_mostSetRight cX0_mostSetRight 1 (some .int), Cond.methodLink RX0 198 yX0_isRightBeginning, Cond.static yX0_isRightBeginning, Cond.code yX0_isRightBeginning cX0_isRightBeginning 7 (some .boolean), Cond.methodLink RX0 179 yX0_quarterTurned, Cond.static yX0_quarterTurned, Cond.code yX0_quarterTurned cX0_quarterTurned 10 (some .long), Cond.methodLink RX0 182 yX0_ringOf, Cond.static yX0_ringOf, Cond.code yX0_ringOf cX0_ringOf 1 (some .int), Cond.methodLink RX0 185 yX0_moreTwistOf, Cond.static yX0_moreTwistOf, Cond.code yX0_moreTwistOf cX0_moreTwistOf 1 (some .int), Cond.methodLink RX0 188 yX0_hexDigit, Cond.static yX0_hexDigit, Cond.code yX0_hexDigit cX0_hexDigit 2 (some .int), Cond.methodLink RX0 191 yX0_withCorner]
def wsX0_far_r3 : List Cond := [Cond.static yX0_withCorner, Cond.code yX0_withCorner cX0_withCorner 9 (some .long), Cond.constantLong RX0 175 (255), Cond.constantLong RX0 177 (-1)]
def wsX0_far : List Cond := .code yX0_far cX0_far 2 (some .int) :: ((wsX0_far_r1 ++ (wsX0_far_r2 ++ wsX0_far_r3)) ++ wsX00 ++ (vx_atS RX0 54 "java/lang/IllegalArgumentException" ["java/lang/RuntimeException", "java/lang/Exception"]).filter goodWord)
def wsX0_first_r1 : List Cond := [Cond.fieldLink RX0 11 "CornerCube" "cube" "J", Cond.methodLink RX0 128 yX0_checkMost, Cond.static yX0_checkMost, Cond.initialized RX0, Cond.code yX0_checkMost cX0_checkMost 1 none, Cond.classLink RX0 50 "java/lang/IllegalArgumentException", Cond.initialized "java/lang/IllegalArgumentException", Cond.methodLink RX0 131 yX0_fewestTurns, Cond.static yX0_fewestTurns, Cond.code yX0_fewestTurns cX0_fewestTurns 4 (some .int), Cond.methodLink RX0 137 yX0_isRightWithin, Cond.static yX0_isRightWithin, Cond.code yX0_isRightWithin cX0_isRightWithin 5 (some .boolean), Cond.constantLong RX0 9 (506097522914230528), Cond.methodLink RX0 65 yX0_wrongCorners, Cond.static yX0_wrongCorners, Cond.code yX0_wrongCorners cX0_wrongCorners 2 (some .int), Cond.methodLink RX0 43 yX0_rightCorners, Cond.static yX0_rightCorners, Cond.code yX0_rightCorners cX0_rightCorners 4 (some .int), Cond.methodLink RX0 94 yX0_isRight, Cond.static yX0_isRight, Cond.code yX0_isRight cX0_isRight 3 (some .boolean), Cond.methodLink RX0 87 yX0_cornerAt]
def wsX0_first_r2 : List Cond := [Cond.static yX0_cornerAt, Cond.code yX0_cornerAt cX0_cornerAt 3 (some .int), Cond.methodLink RX0 91 yX0_twistAt, Cond.static yX0_twistAt, Cond.code yX0_twistAt cX0_twistAt 3 (some .int), Cond.methodLink RX0 195 yX0_mostSetRight, Cond.static yX0_mostSetRight, Cond.code yX0_mostSetRight cX0_mostSetRight 1 (some .int), Cond.methodLink RX0 198 yX0_isRightBeginning, Cond.static yX0_isRightBeginning, Cond.code yX0_isRightBeginning cX0_isRightBeginning 7 (some .boolean), Cond.methodLink RX0 179 yX0_quarterTurned, Cond.static yX0_quarterTurned, Cond.code yX0_quarterTurned cX0_quarterTurned 10 (some .long), Cond.methodLink RX0 182 yX0_ringOf, Cond.static yX0_ringOf, Cond.code yX0_ringOf cX0_ringOf 1 (some .int), Cond.methodLink RX0 185 yX0_moreTwistOf, Cond.static yX0_moreTwistOf, Cond.code yX0_moreTwistOf cX0_moreTwistOf 1 (some .int), Cond.methodLink RX0 188 yX0_hexDigit, Cond.static yX0_hexDigit, Cond.code yX0_hexDigit cX0_hexDigit 2 (some .int), Cond.methodLink RX0 191 yX0_withCorner]
def wsX0_first_r3 : List Cond := [Cond.static yX0_withCorner, Cond.code yX0_withCorner cX0_withCorner 9 (some .long), Cond.constantLong RX0 175 (255), Cond.constantLong RX0 177 (-1), Cond.methodLink RX0 39 yX0_turned, Cond.static yX0_turned, Cond.code yX0_turned cX0_turned 6 (some .long), Cond.methodLink RX0 168 yX0_quartersOf, Cond.static yX0_quartersOf, Cond.code yX0_quartersOf cX0_quartersOf 1 (some .int), Cond.methodLink RX0 134 yX0_faceOf, Cond.static yX0_faceOf, Cond.code yX0_faceOf cX0_faceOf 1 (some .int)]
def wsX0_first : List Cond := .code yX0_first cX0_first 4 (some .int) :: ((wsX0_first_r1 ++ (wsX0_first_r2 ++ wsX0_first_r3)) ++ wsX00 ++ (vx_atS RX0 54 "java/lang/IllegalArgumentException" ["java/lang/RuntimeException", "java/lang/Exception"]).filter goodWord)
def wsX0_shortest_r1 : List Cond := [Cond.methodLink RX0 47 yX0_checkWord, Cond.static yX0_checkWord, Cond.initialized RX0, Cond.code yX0_checkWord cX0_checkWord 1 none, Cond.classLink RX0 98 "java/lang/IndexOutOfBoundsException", Cond.initialized "java/lang/IndexOutOfBoundsException", Cond.methodLink RX0 128 yX0_checkMost, Cond.static yX0_checkMost, Cond.code yX0_checkMost cX0_checkMost 1 none, Cond.classLink RX0 50 "java/lang/IllegalArgumentException", Cond.initialized "java/lang/IllegalArgumentException", Cond.methodLink RX0 119 yX0_deedOf, Cond.instanceMethod yX0_deedOf, Cond.selects RX0 yX0_deedOf yX0_deedOf, Cond.code yX0_deedOf cX0_deedOf 2 (some .long), Cond.constantLong RX0 9 (506097522914230528), Cond.methodLink RX0 62 yX0_behindWord, Cond.instanceMethod yX0_behindWord, Cond.selects RX0 yX0_behindWord yX0_behindWord, Cond.code yX0_behindWord cX0_behindWord 7 (some .long), Cond.fieldLink RX0 24 "CornerCube" "lengths" "[I", Cond.fieldLink RX0 21 "CornerCube" "turnsOf" "[[I", Cond.methodLink RX0 39 yX0_turned, Cond.static yX0_turned]
def wsX0_shortest_r2 : List Cond := [Cond.code yX0_turned cX0_turned 6 (some .long), Cond.methodLink RX0 168 yX0_quartersOf, Cond.static yX0_quartersOf, Cond.code yX0_quartersOf cX0_quartersOf 1 (some .int), Cond.methodLink RX0 134 yX0_faceOf, Cond.static yX0_faceOf, Cond.code yX0_faceOf cX0_faceOf 1 (some .int), Cond.methodLink RX0 179 yX0_quarterTurned, Cond.static yX0_quarterTurned, Cond.code yX0_quarterTurned cX0_quarterTurned 10 (some .long), Cond.methodLink RX0 182 yX0_ringOf, Cond.static yX0_ringOf, Cond.code yX0_ringOf cX0_ringOf 1 (some .int), Cond.methodLink RX0 185 yX0_moreTwistOf, Cond.static yX0_moreTwistOf, Cond.code yX0_moreTwistOf cX0_moreTwistOf 1 (some .int), Cond.methodLink RX0 188 yX0_hexDigit, Cond.static yX0_hexDigit, Cond.code yX0_hexDigit cX0_hexDigit 2 (some .int), Cond.methodLink RX0 87 yX0_cornerAt, Cond.static yX0_cornerAt, Cond.code yX0_cornerAt cX0_cornerAt 3 (some .int), Cond.methodLink RX0 91 yX0_twistAt, Cond.static yX0_twistAt]
def wsX0_shortest_r3 : List Cond := [Cond.code yX0_twistAt cX0_twistAt 3 (some .int), Cond.methodLink RX0 191 yX0_withCorner, Cond.static yX0_withCorner, Cond.code yX0_withCorner cX0_withCorner 9 (some .long), Cond.constantLong RX0 175 (255), Cond.constantLong RX0 177 (-1), Cond.methodLink RX0 131 yX0_fewestTurns, Cond.static yX0_fewestTurns, Cond.code yX0_fewestTurns cX0_fewestTurns 4 (some .int), Cond.methodLink RX0 137 yX0_isRightWithin, Cond.static yX0_isRightWithin, Cond.code yX0_isRightWithin cX0_isRightWithin 5 (some .boolean), Cond.methodLink RX0 65 yX0_wrongCorners, Cond.static yX0_wrongCorners, Cond.code yX0_wrongCorners cX0_wrongCorners 2 (some .int), Cond.methodLink RX0 43 yX0_rightCorners, Cond.static yX0_rightCorners, Cond.code yX0_rightCorners cX0_rightCorners 4 (some .int), Cond.methodLink RX0 94 yX0_isRight, Cond.static yX0_isRight, Cond.code yX0_isRight cX0_isRight 3 (some .boolean), Cond.methodLink RX0 195 yX0_mostSetRight, Cond.static yX0_mostSetRight, Cond.code yX0_mostSetRight cX0_mostSetRight 1 (some .int)]
def wsX0_shortest_r4 : List Cond := [Cond.methodLink RX0 198 yX0_isRightBeginning, Cond.static yX0_isRightBeginning, Cond.code yX0_isRightBeginning cX0_isRightBeginning 7 (some .boolean)]
def wsX0_shortest : List Cond := .code yX0_shortest cX0_shortest 3 (some .int) :: ((wsX0_shortest_r1 ++ (wsX0_shortest_r2 ++ (wsX0_shortest_r3 ++ wsX0_shortest_r4))) ++ wsX00 ++ (vx_atS RX0 102 "java/lang/IndexOutOfBoundsException" ["java/lang/RuntimeException", "java/lang/Exception"]).filter goodWord ++ (vx_atS RX0 54 "java/lang/IllegalArgumentException" ["java/lang/RuntimeException", "java/lang/Exception"]).filter goodWord)
def wsX0_advise_r1 : List Cond := [Cond.fieldLink RX0 11 "CornerCube" "cube" "J", Cond.methodLink RX0 39 yX0_turned, Cond.static yX0_turned, Cond.initialized RX0, Cond.code yX0_turned cX0_turned 6 (some .long), Cond.methodLink RX0 168 yX0_quartersOf, Cond.static yX0_quartersOf, Cond.code yX0_quartersOf cX0_quartersOf 1 (some .int), Cond.methodLink RX0 134 yX0_faceOf, Cond.static yX0_faceOf, Cond.code yX0_faceOf cX0_faceOf 1 (some .int), Cond.methodLink RX0 179 yX0_quarterTurned, Cond.static yX0_quarterTurned, Cond.code yX0_quarterTurned cX0_quarterTurned 10 (some .long), Cond.methodLink RX0 182 yX0_ringOf, Cond.static yX0_ringOf, Cond.code yX0_ringOf cX0_ringOf 1 (some .int), Cond.methodLink RX0 185 yX0_moreTwistOf, Cond.static yX0_moreTwistOf, Cond.code yX0_moreTwistOf cX0_moreTwistOf 1 (some .int), Cond.methodLink RX0 188 yX0_hexDigit, Cond.static yX0_hexDigit, Cond.code yX0_hexDigit cX0_hexDigit 2 (some .int), Cond.methodLink RX0 87 yX0_cornerAt]
def wsX0_advise_r2 : List Cond := [Cond.static yX0_cornerAt, Cond.code yX0_cornerAt cX0_cornerAt 3 (some .int), Cond.methodLink RX0 91 yX0_twistAt, Cond.static yX0_twistAt, Cond.code yX0_twistAt cX0_twistAt 3 (some .int), Cond.methodLink RX0 191 yX0_withCorner, Cond.static yX0_withCorner, Cond.code yX0_withCorner cX0_withCorner 9 (some .long), Cond.constantLong RX0 175 (255), Cond.constantLong RX0 177 (-1), Cond.methodLink RX0 43 yX0_rightCorners, Cond.static yX0_rightCorners, Cond.code yX0_rightCorners cX0_rightCorners 4 (some .int), Cond.methodLink RX0 94 yX0_isRight, Cond.static yX0_isRight, Cond.code yX0_isRight cX0_isRight 3 (some .boolean)]
def wsX0_advise : List Cond := .code yX0_advise cX0_advise 5 (some .int) :: ((wsX0_advise_r1 ++ wsX0_advise_r2) ++ wsX00)
def wsX0_digest_r1 : List Cond := [Cond.constantLong RX0 143 (1787), Cond.constantLong RX0 145 (31), Cond.fieldLink RX0 24 "CornerCube" "lengths" "[I", Cond.fieldLink RX0 21 "CornerCube" "turnsOf" "[[I", Cond.methodLink RX0 147 yX0_count, Cond.instanceMethod yX0_count, Cond.selects RX0 yX0_count yX0_count, Cond.initialized RX0, Cond.code yX0_count cX0_count 2 (some .int), Cond.fieldLink RX0 15 "CornerCube" "turnsMade" "I", Cond.fieldLink RX0 11 "CornerCube" "cube" "J", Cond.methodLink RX0 83 yX0_checkWhat, Cond.static yX0_checkWhat, Cond.code yX0_checkWhat cX0_checkWhat 2 none, Cond.classLink RX0 98 "java/lang/IndexOutOfBoundsException", Cond.initialized "java/lang/IndexOutOfBoundsException", Cond.methodLink RX0 43 yX0_rightCorners, Cond.static yX0_rightCorners, Cond.code yX0_rightCorners cX0_rightCorners 4 (some .int), Cond.methodLink RX0 94 yX0_isRight, Cond.static yX0_isRight, Cond.code yX0_isRight cX0_isRight 3 (some .boolean), Cond.methodLink RX0 87 yX0_cornerAt, Cond.static yX0_cornerAt]
def wsX0_digest_r2 : List Cond := [Cond.code yX0_cornerAt cX0_cornerAt 3 (some .int), Cond.methodLink RX0 91 yX0_twistAt, Cond.static yX0_twistAt, Cond.code yX0_twistAt cX0_twistAt 3 (some .int), Cond.methodLink RX0 103 yX0_placedCorners, Cond.static yX0_placedCorners, Cond.code yX0_placedCorners cX0_placedCorners 4 (some .int), Cond.methodLink RX0 106 yX0_untwistedCorners, Cond.static yX0_untwistedCorners, Cond.code yX0_untwistedCorners cX0_untwistedCorners 4 (some .int), Cond.methodLink RX0 109 yX0_pairsOutOfOrder, Cond.static yX0_pairsOutOfOrder, Cond.code yX0_pairsOutOfOrder cX0_pairsOutOfOrder 5 (some .int), Cond.methodLink RX0 112 yX0_orderOf, Cond.static yX0_orderOf, Cond.code yX0_orderOf cX0_orderOf 5 (some .int), Cond.constantLong RX0 9 (506097522914230528), Cond.methodLink RX0 171 yX0_behindDeed, Cond.static yX0_behindDeed, Cond.code yX0_behindDeed cX0_behindDeed 8 (some .long), Cond.methodLink RX0 191 yX0_withCorner, Cond.static yX0_withCorner, Cond.code yX0_withCorner cX0_withCorner 9 (some .long), Cond.constantLong RX0 175 (255)]
def wsX0_digest_r3 : List Cond := [Cond.constantLong RX0 177 (-1), Cond.methodLink RX0 115 yX0_turnsOfAllWords, Cond.instanceMethod yX0_turnsOfAllWords, Cond.selects RX0 yX0_turnsOfAllWords yX0_turnsOfAllWords, Cond.code yX0_turnsOfAllWords cX0_turnsOfAllWords 3 (some .int), Cond.methodLink RX0 150 yX0_told, Cond.instanceMethod yX0_told, Cond.selects RX0 yX0_told yX0_told, Cond.code yX0_told cX0_told 3 (some .int), Cond.methodLink RX0 80 yX0_checkPlace, Cond.static yX0_checkPlace, Cond.code yX0_checkPlace cX0_checkPlace 1 none, Cond.methodLink RX0 153 yX0_word, Cond.instanceMethod yX0_word, Cond.selects RX0 yX0_word yX0_word, Cond.code yX0_word cX0_word 3 (some .int), Cond.methodLink RX0 47 yX0_checkWord, Cond.static yX0_checkWord, Cond.code yX0_checkWord cX0_checkWord 1 none, Cond.methodLink RX0 119 yX0_deedOf, Cond.instanceMethod yX0_deedOf, Cond.selects RX0 yX0_deedOf yX0_deedOf, Cond.code yX0_deedOf cX0_deedOf 2 (some .long), Cond.methodLink RX0 62 yX0_behindWord]
def wsX0_digest_r4 : List Cond := [Cond.instanceMethod yX0_behindWord, Cond.selects RX0 yX0_behindWord yX0_behindWord, Cond.code yX0_behindWord cX0_behindWord 7 (some .long), Cond.methodLink RX0 39 yX0_turned, Cond.static yX0_turned, Cond.code yX0_turned cX0_turned 6 (some .long), Cond.methodLink RX0 168 yX0_quartersOf, Cond.static yX0_quartersOf, Cond.code yX0_quartersOf cX0_quartersOf 1 (some .int), Cond.methodLink RX0 134 yX0_faceOf, Cond.static yX0_faceOf, Cond.code yX0_faceOf cX0_faceOf 1 (some .int), Cond.methodLink RX0 179 yX0_quarterTurned, Cond.static yX0_quarterTurned, Cond.code yX0_quarterTurned cX0_quarterTurned 10 (some .long), Cond.methodLink RX0 182 yX0_ringOf, Cond.static yX0_ringOf, Cond.code yX0_ringOf cX0_ringOf 1 (some .int), Cond.methodLink RX0 185 yX0_moreTwistOf, Cond.static yX0_moreTwistOf, Cond.code yX0_moreTwistOf cX0_moreTwistOf 1 (some .int), Cond.methodLink RX0 188 yX0_hexDigit, Cond.static yX0_hexDigit, Cond.code yX0_hexDigit cX0_hexDigit 2 (some .int)]
def wsX0_digest_r5 : List Cond := [Cond.methodLink RX0 65 yX0_wrongCorners, Cond.static yX0_wrongCorners, Cond.code yX0_wrongCorners cX0_wrongCorners 2 (some .int)]
def wsX0_digest : List Cond := .code yX0_digest cX0_digest 5 (some .long) :: ((wsX0_digest_r1 ++ (wsX0_digest_r2 ++ (wsX0_digest_r3 ++ (wsX0_digest_r4 ++ wsX0_digest_r5)))) ++ wsX00 ++ (vx_atS RX0 102 "java/lang/IndexOutOfBoundsException" ["java/lang/RuntimeException", "java/lang/Exception"]).filter goodWord)
def wsL_below : List Cond := .code yL_below cL_below 2 (some .int) :: ([.constant RL 7 (2147483647)])
def wsL_cell : List Cond := .code yL_cell cL_cell 2 (some .int) :: ([.constant RL 8 (461243603)])
def wsL_wordOf : List Cond := .code yL_wordOf cL_wordOf 4 (some (.array .int)) :: ([.arrayClass .int, .methodLink RL 9 yL_cell, .static yL_cell, .initialized RL, .code yL_cell cL_cell 2 (some .int), .constant RL 8 (461243603), .methodLink RL 15 yL_below, .static yL_below, .code yL_below cL_below 2 (some .int), .constant RL 7 (2147483647)])
def wsL_say_r1 : List Cond := [Cond.methodLink RL 19 yX0_say, Cond.instanceMethod yX0_say, Cond.selects RX0 yX0_say yX0_say, Cond.initialized RX0, Cond.code yX0_say cX0_say 4 (some .int), Cond.classLink RX0 57 "java/lang/IllegalStateException", Cond.initialized "java/lang/IllegalStateException", Cond.fieldLink RX0 24 "CornerCube" "lengths" "[I", Cond.fieldLink RX0 21 "CornerCube" "turnsOf" "[[I", Cond.methodLink RX0 47 yX0_checkWord, Cond.static yX0_checkWord, Cond.code yX0_checkWord cX0_checkWord 1 none, Cond.classLink RX0 98 "java/lang/IndexOutOfBoundsException", Cond.initialized "java/lang/IndexOutOfBoundsException", Cond.methodLink RX0 28 yX0_checkFace, Cond.static yX0_checkFace, Cond.code yX0_checkFace cX0_checkFace 1 none, Cond.methodLink RX0 32 yX0_checkQuarters, Cond.static yX0_checkQuarters, Cond.code yX0_checkQuarters cX0_checkQuarters 1 none, Cond.classLink RX0 50 "java/lang/IllegalArgumentException", Cond.initialized "java/lang/IllegalArgumentException", Cond.methodLink RX0 35 yX0_turnNumber, Cond.static yX0_turnNumber]
def wsL_say_r2 : List Cond := [Cond.code yX0_turnNumber cX0_turnNumber 2 (some .int)]
def wsL_say : List Cond := .code yL_say cL_say 4 (some .boolean) :: ((wsL_say_r1 ++ wsL_say_r2) ++ wsX00 ++ (vx_atS RX0 61 "java/lang/IllegalStateException" ["java/lang/RuntimeException", "java/lang/Exception"]).filter goodWord ++ (vx_atS RX0 102 "java/lang/IndexOutOfBoundsException" ["java/lang/RuntimeException", "java/lang/Exception"]).filter goodWord ++ (vx_atS RX0 54 "java/lang/IllegalArgumentException" ["java/lang/RuntimeException", "java/lang/Exception"]).filter goodWord)
def wsL_law0_r1 : List Cond := [Cond.classLink RL 20 RX0, Cond.instantiable RX0 4, Cond.initialized RX0, Cond.methodLink RL 25 yX0_init, Cond.instanceMethod yX0_init, Cond.code yX0_init cX0_init 1 none, Cond.methodLink RX0 1 objectInit, Cond.instanceMethod objectInit, Cond.code objectInit ⟨#[0xb1]⟩ 1 none, Cond.constantLong RX0 9 (506097522914230528), Cond.fieldLink RX0 11 "CornerCube" "cube" "J", Cond.fieldLink RX0 15 "CornerCube" "turnsMade" "I", Cond.classLink RX0 19 "[[I", Cond.arrayClass .int, Cond.fieldLink RX0 21 "CornerCube" "turnsOf" "[[I", Cond.fieldLink RX0 24 "CornerCube" "lengths" "[I", Cond.methodLink RL 26 yL_wordOf, Cond.static yL_wordOf, Cond.initialized RL, Cond.code yL_wordOf cL_wordOf 4 (some (.array .int)), Cond.methodLink RL 9 yL_cell, Cond.static yL_cell, Cond.code yL_cell cL_cell 2 (some .int), Cond.constant RL 8 (461243603)]
def wsL_law0_r2 : List Cond := [Cond.methodLink RL 15 yL_below, Cond.static yL_below, Cond.code yL_below cL_below 2 (some .int), Cond.constant RL 7 (2147483647), Cond.methodLink RL 30 yL_say, Cond.static yL_say, Cond.code yL_say cL_say 4 (some .boolean), Cond.methodLink RL 19 yX0_say, Cond.instanceMethod yX0_say, Cond.selects RX0 yX0_say yX0_say, Cond.code yX0_say cX0_say 4 (some .int), Cond.classLink RX0 57 "java/lang/IllegalStateException", Cond.initialized "java/lang/IllegalStateException", Cond.methodLink RX0 47 yX0_checkWord, Cond.static yX0_checkWord, Cond.code yX0_checkWord cX0_checkWord 1 none, Cond.classLink RX0 98 "java/lang/IndexOutOfBoundsException", Cond.initialized "java/lang/IndexOutOfBoundsException", Cond.methodLink RX0 28 yX0_checkFace, Cond.static yX0_checkFace, Cond.code yX0_checkFace cX0_checkFace 1 none, Cond.methodLink RX0 32 yX0_checkQuarters, Cond.static yX0_checkQuarters, Cond.code yX0_checkQuarters cX0_checkQuarters 1 none]
def wsL_law0_r3 : List Cond := [Cond.classLink RX0 50 "java/lang/IllegalArgumentException", Cond.initialized "java/lang/IllegalArgumentException", Cond.methodLink RX0 35 yX0_turnNumber, Cond.static yX0_turnNumber, Cond.code yX0_turnNumber cX0_turnNumber 2 (some .int), Cond.methodLink RL 33 yX0_digest, Cond.instanceMethod yX0_digest, Cond.selects RX0 yX0_digest yX0_digest, Cond.code yX0_digest cX0_digest 5 (some .long), Cond.constantLong RX0 143 (1787), Cond.constantLong RX0 145 (31), Cond.methodLink RX0 147 yX0_count, Cond.instanceMethod yX0_count, Cond.selects RX0 yX0_count yX0_count, Cond.code yX0_count cX0_count 2 (some .int), Cond.methodLink RX0 83 yX0_checkWhat, Cond.static yX0_checkWhat, Cond.code yX0_checkWhat cX0_checkWhat 2 none, Cond.methodLink RX0 43 yX0_rightCorners, Cond.static yX0_rightCorners, Cond.code yX0_rightCorners cX0_rightCorners 4 (some .int), Cond.methodLink RX0 94 yX0_isRight, Cond.static yX0_isRight, Cond.code yX0_isRight cX0_isRight 3 (some .boolean)]
def wsL_law0_r4 : List Cond := [Cond.methodLink RX0 87 yX0_cornerAt, Cond.static yX0_cornerAt, Cond.code yX0_cornerAt cX0_cornerAt 3 (some .int), Cond.methodLink RX0 91 yX0_twistAt, Cond.static yX0_twistAt, Cond.code yX0_twistAt cX0_twistAt 3 (some .int), Cond.methodLink RX0 103 yX0_placedCorners, Cond.static yX0_placedCorners, Cond.code yX0_placedCorners cX0_placedCorners 4 (some .int), Cond.methodLink RX0 106 yX0_untwistedCorners, Cond.static yX0_untwistedCorners, Cond.code yX0_untwistedCorners cX0_untwistedCorners 4 (some .int), Cond.methodLink RX0 109 yX0_pairsOutOfOrder, Cond.static yX0_pairsOutOfOrder, Cond.code yX0_pairsOutOfOrder cX0_pairsOutOfOrder 5 (some .int), Cond.methodLink RX0 112 yX0_orderOf, Cond.static yX0_orderOf, Cond.code yX0_orderOf cX0_orderOf 5 (some .int), Cond.methodLink RX0 171 yX0_behindDeed, Cond.static yX0_behindDeed, Cond.code yX0_behindDeed cX0_behindDeed 8 (some .long), Cond.methodLink RX0 191 yX0_withCorner, Cond.static yX0_withCorner, Cond.code yX0_withCorner cX0_withCorner 9 (some .long)]
def wsL_law0_r5 : List Cond := [Cond.constantLong RX0 175 (255), Cond.constantLong RX0 177 (-1), Cond.methodLink RX0 115 yX0_turnsOfAllWords, Cond.instanceMethod yX0_turnsOfAllWords, Cond.selects RX0 yX0_turnsOfAllWords yX0_turnsOfAllWords, Cond.code yX0_turnsOfAllWords cX0_turnsOfAllWords 3 (some .int), Cond.methodLink RX0 150 yX0_told, Cond.instanceMethod yX0_told, Cond.selects RX0 yX0_told yX0_told, Cond.code yX0_told cX0_told 3 (some .int), Cond.methodLink RX0 80 yX0_checkPlace, Cond.static yX0_checkPlace, Cond.code yX0_checkPlace cX0_checkPlace 1 none, Cond.methodLink RX0 153 yX0_word, Cond.instanceMethod yX0_word, Cond.selects RX0 yX0_word yX0_word, Cond.code yX0_word cX0_word 3 (some .int), Cond.methodLink RX0 119 yX0_deedOf, Cond.instanceMethod yX0_deedOf, Cond.selects RX0 yX0_deedOf yX0_deedOf, Cond.code yX0_deedOf cX0_deedOf 2 (some .long), Cond.methodLink RX0 62 yX0_behindWord, Cond.instanceMethod yX0_behindWord, Cond.selects RX0 yX0_behindWord yX0_behindWord]
def wsL_law0_r6 : List Cond := [Cond.code yX0_behindWord cX0_behindWord 7 (some .long), Cond.methodLink RX0 39 yX0_turned, Cond.static yX0_turned, Cond.code yX0_turned cX0_turned 6 (some .long), Cond.methodLink RX0 168 yX0_quartersOf, Cond.static yX0_quartersOf, Cond.code yX0_quartersOf cX0_quartersOf 1 (some .int), Cond.methodLink RX0 134 yX0_faceOf, Cond.static yX0_faceOf, Cond.code yX0_faceOf cX0_faceOf 1 (some .int), Cond.methodLink RX0 179 yX0_quarterTurned, Cond.static yX0_quarterTurned, Cond.code yX0_quarterTurned cX0_quarterTurned 10 (some .long), Cond.methodLink RX0 182 yX0_ringOf, Cond.static yX0_ringOf, Cond.code yX0_ringOf cX0_ringOf 1 (some .int), Cond.methodLink RX0 185 yX0_moreTwistOf, Cond.static yX0_moreTwistOf, Cond.code yX0_moreTwistOf cX0_moreTwistOf 1 (some .int), Cond.methodLink RX0 188 yX0_hexDigit, Cond.static yX0_hexDigit, Cond.code yX0_hexDigit cX0_hexDigit 2 (some .int), Cond.methodLink RX0 65 yX0_wrongCorners, Cond.static yX0_wrongCorners]
def wsL_law0_r7 : List Cond := [Cond.code yX0_wrongCorners cX0_wrongCorners 2 (some .int), Cond.methodLink RL 37 yX0_would, Cond.instanceMethod yX0_would, Cond.selects RX0 yX0_would yX0_would, Cond.code yX0_would cX0_would 3 (some .int), Cond.methodLink RL 40 yX0_advise, Cond.instanceMethod yX0_advise, Cond.selects RX0 yX0_advise yX0_advise, Cond.code yX0_advise cX0_advise 5 (some .int), Cond.methodLink RL 44 yX0_same, Cond.instanceMethod yX0_same, Cond.selects RX0 yX0_same yX0_same, Cond.code yX0_same cX0_same 3 (some .boolean), Cond.methodLink RL 48 yX0_mixed, Cond.instanceMethod yX0_mixed, Cond.selects RX0 yX0_mixed yX0_mixed, Cond.code yX0_mixed cX0_mixed 5 (some .int), Cond.methodLink RX0 125 yX0_behindWordRound, Cond.instanceMethod yX0_behindWordRound, Cond.selects RX0 yX0_behindWordRound yX0_behindWordRound, Cond.code yX0_behindWordRound cX0_behindWordRound 7 (some .long), Cond.methodLink RX0 70 yX0_turnedBack, Cond.static yX0_turnedBack, Cond.code yX0_turnedBack cX0_turnedBack 1 (some .int)]
def wsL_law0_r8 : List Cond := [Cond.methodLink RL 51 yX0_word, Cond.methodLink RL 54 yX0_shortest, Cond.instanceMethod yX0_shortest, Cond.selects RX0 yX0_shortest yX0_shortest, Cond.code yX0_shortest cX0_shortest 3 (some .int), Cond.methodLink RX0 128 yX0_checkMost, Cond.static yX0_checkMost, Cond.code yX0_checkMost cX0_checkMost 1 none, Cond.methodLink RX0 131 yX0_fewestTurns, Cond.static yX0_fewestTurns, Cond.code yX0_fewestTurns cX0_fewestTurns 4 (some .int), Cond.methodLink RX0 137 yX0_isRightWithin, Cond.static yX0_isRightWithin, Cond.code yX0_isRightWithin cX0_isRightWithin 5 (some .boolean), Cond.methodLink RX0 195 yX0_mostSetRight, Cond.static yX0_mostSetRight, Cond.code yX0_mostSetRight cX0_mostSetRight 1 (some .int), Cond.methodLink RX0 198 yX0_isRightBeginning, Cond.static yX0_isRightBeginning, Cond.code yX0_isRightBeginning cX0_isRightBeginning 7 (some .boolean), Cond.methodLink RL 57 yX0_play, Cond.instanceMethod yX0_play, Cond.selects RX0 yX0_play yX0_play, Cond.code yX0_play cX0_play 4 (some .int)]
def wsL_law0_r9 : List Cond := [Cond.methodLink RL 60 yX0_count, Cond.methodLink RL 64 yX0_turn, Cond.instanceMethod yX0_turn, Cond.selects RX0 yX0_turn yX0_turn, Cond.code yX0_turn cX0_turn 3 (some .int), Cond.methodLink RL 67 yX0_reset, Cond.instanceMethod yX0_reset, Cond.selects RX0 yX0_reset yX0_reset, Cond.code yX0_reset cX0_reset 2 (some .int), Cond.methodLink RL 70 yX0_far, Cond.instanceMethod yX0_far, Cond.selects RX0 yX0_far yX0_far, Cond.code yX0_far cX0_far 2 (some .int), Cond.methodLink RL 73 yX0_first, Cond.instanceMethod yX0_first, Cond.selects RX0 yX0_first yX0_first, Cond.code yX0_first cX0_first 4 (some .int), Cond.methodLink RL 76 yX0_round, Cond.instanceMethod yX0_round, Cond.selects RX0 yX0_round yX0_round, Cond.code yX0_round cX0_round 6 (some .int), Cond.methodLink RL 79 yX0_tidy, Cond.instanceMethod yX0_tidy, Cond.selects RX0 yX0_tidy yX0_tidy]
def wsL_law0_r10 : List Cond := [Cond.code yX0_tidy cX0_tidy 4 (some .int), Cond.methodLink RX0 76 yX0_keep, Cond.static yX0_keep, Cond.code yX0_keep cX0_keep 4 (some .int), Cond.methodLink RL 82 yX0_told, Cond.methodLink RL 85 yX0_where, Cond.instanceMethod yX0_where, Cond.selects RX0 yX0_where yX0_where, Cond.code yX0_where cX0_where 3 (some .int)]
def wsL_law0 : List Cond := (wsL_law0_r1 ++ (wsL_law0_r2 ++ (wsL_law0_r3 ++ (wsL_law0_r4 ++ (wsL_law0_r5 ++ (wsL_law0_r6 ++ (wsL_law0_r7 ++ (wsL_law0_r8 ++ (wsL_law0_r9 ++ wsL_law0_r10))))))))) ++ wsX00 ++ ([] : List Cond)
def wsL_law : List Cond := wsL_law0 ++ (vx_atS RX0 61 "java/lang/IllegalStateException" ["java/lang/RuntimeException", "java/lang/Exception"]).filter goodWord ++ (vx_atS RX0 102 "java/lang/IndexOutOfBoundsException" ["java/lang/RuntimeException", "java/lang/Exception"]).filter goodWord ++ (vx_atS RX0 54 "java/lang/IllegalArgumentException" ["java/lang/RuntimeException", "java/lang/Exception"]).filter goodWord
end
section
set_option maxRecDepth 20000 in
theorem wsL_law0_r1_in : ∀ w ∈ wsL_law0_r1, w ∈ lw_tbl := fun w h => (goodIn_p wsL_law0_r1 [17, 20, 338, 334] (by decide +kernel) (by decide +kernel) w h).1
set_option maxRecDepth 20000 in
theorem wsL_law0_r2_in : ∀ w ∈ wsL_law0_r2, w ∈ lw_tbl := fun w h => (goodIn_p wsL_law0_r2 [330, 341, 345, 179, 44, 115] (by decide +kernel) (by decide +kernel) w h).1
set_option maxRecDepth 20000 in
theorem wsL_law0_r3_in : ∀ w ∈ wsL_law0_r3, w ∈ lw_tbl := fun w h => (goodIn_p wsL_law0_r3 [134, 322, 243, 233, 169, 172] (by decide +kernel) (by decide +kernel) w h).1
set_option maxRecDepth 20000 in
theorem wsL_law0_r4_in : ∀ w ∈ wsL_law0_r4, w ∈ lw_tbl := fun w h => (goodIn_p wsL_law0_r4 [158, 161, 246, 249, 252, 255, 258, 164] (by decide +kernel) (by decide +kernel) w h).1
set_option maxRecDepth 20000 in
theorem wsL_law0_r5_in : ∀ w ∈ wsL_law0_r5, w ∈ lw_tbl := fun w h => (goodIn_p wsL_law0_r5 [262, 226, 229, 266, 270] (by decide +kernel) (by decide +kernel) w h).1
set_option maxRecDepth 20000 in
theorem wsL_law0_r6_in : ∀ w ∈ wsL_law0_r6, w ∈ lw_tbl := fun w h => (goodIn_p wsL_law0_r6 [201, 137, 140, 143, 146, 149, 152, 155] (by decide +kernel) (by decide +kernel) w h).1
set_option maxRecDepth 20000 in
theorem wsL_law0_r7_in : ∀ w ∈ wsL_law0_r7, w ∈ lw_tbl := fun w h => (goodIn_p wsL_law0_r7 [208, 286, 318, 274, 278, 282, 215] (by decide +kernel) (by decide +kernel) w h).1
set_option maxRecDepth 20000 in
theorem wsL_law0_r8_in : ∀ w ∈ wsL_law0_r8, w ∈ lw_tbl := fun w h => (goodIn_p wsL_law0_r8 [314, 293, 297, 300, 303, 306, 176] (by decide +kernel) (by decide +kernel) w h).1
set_option maxRecDepth 20000 in
theorem wsL_law0_r9_in : ∀ w ∈ wsL_law0_r9, w ∈ lw_tbl := fun w h => (goodIn_p wsL_law0_r9 [41, 205, 290, 310, 212] (by decide +kernel) (by decide +kernel) w h).1
set_option maxRecDepth 20000 in
theorem wsL_law0_r10_in : ∀ w ∈ wsL_law0_r10, w ∈ lw_tbl := fun w h => (goodIn_p wsL_law0_r10 [219, 222, 238] (by decide +kernel) (by decide +kernel) w h).1
theorem wsX00_in : ∀ w ∈ wsX00, w ∈ lw_tbl := by decide +kernel
theorem wsL_law_inR (w : Cond) (h : w ∈ (wsL_law0_r1 ++ (wsL_law0_r2 ++ (wsL_law0_r3 ++ (wsL_law0_r4 ++ (wsL_law0_r5 ++ (wsL_law0_r6 ++ (wsL_law0_r7 ++ (wsL_law0_r8 ++ (wsL_law0_r9 ++ wsL_law0_r10)))))))))) : w ∈ lw_tbl := (List.mem_append.mp h).elim (fun h => wsL_law0_r1_in w h) (fun h => (List.mem_append.mp h).elim (fun h => wsL_law0_r2_in w h) (fun h => (List.mem_append.mp h).elim (fun h => wsL_law0_r3_in w h) (fun h => (List.mem_append.mp h).elim (fun h => wsL_law0_r4_in w h) (fun h => (List.mem_append.mp h).elim (fun h => wsL_law0_r5_in w h) (fun h => (List.mem_append.mp h).elim (fun h => wsL_law0_r6_in w h) (fun h => (List.mem_append.mp h).elim (fun h => wsL_law0_r7_in w h) (fun h => (List.mem_append.mp h).elim (fun h => wsL_law0_r8_in w h) (fun h => (List.mem_append.mp h).elim (fun h => wsL_law0_r9_in w h) (fun h => wsL_law0_r10_in w h)))))))))
theorem wsL_law_in0 : ∀ w ∈ wsL_law0, w ∈ lw_tbl := fun w h => (List.mem_append.mp h).elim (fun h => (List.mem_append.mp h).elim (fun h => wsL_law_inR w h) (fun h => wsX00_in w h)) (fun h => absurd h List.not_mem_nil)
theorem wsL_law_x0 : ∀ w ∈ (vx_atS RX0 61 "java/lang/IllegalStateException" ["java/lang/RuntimeException", "java/lang/Exception"]).filter goodWord, w ∈ lw_tbl := by decide +kernel
theorem wsL_law_x1 : ∀ w ∈ (vx_atS RX0 102 "java/lang/IndexOutOfBoundsException" ["java/lang/RuntimeException", "java/lang/Exception"]).filter goodWord, w ∈ lw_tbl := by decide +kernel
theorem wsL_law_x2 : ∀ w ∈ (vx_atS RX0 54 "java/lang/IllegalArgumentException" ["java/lang/RuntimeException", "java/lang/Exception"]).filter goodWord, w ∈ lw_tbl := by decide +kernel
theorem wsL_law_in : ∀ w ∈ wsL_law, w ∈ lw_tbl := fun w h => (List.mem_append.mp h).elim (fun h => (List.mem_append.mp h).elim (fun h => (List.mem_append.mp h).elim (fun h => wsL_law_in0 w h) (fun h => wsL_law_x0 w h)) (fun h => wsL_law_x1 w h)) (fun h => wsL_law_x2 w h)
theorem inlX0 : ∀ w ∈ wsX00, w ∈ wsL_law := fun _ h => List.mem_append_left _ (List.mem_append_left _ (List.mem_append_left _ (List.mem_append_left _ (List.mem_append_right _ h))))
theorem inX0 : ∀ w ∈ wsX00, w ∈ lw_tbl := fun w h => wsL_law_in w (inlX0 w h)
theorem inX1 : ∀ w ∈ wsX10, w ∈ lw_tbl := by decide +kernel
theorem inX2 : ∀ w ∈ wsX20, w ∈ lw_tbl := by decide +kernel
theorem inJ0 : ∀ w ∈ wsJ00, w ∈ lw_tbl := by decide +kernel
abbrev vwCl : List vw_C := [(RX0, TX0, 4)]
end
section
theorem dX0_init_0 : decode cX0_init 0 = .ok (.aload_n 0, 1) := by decide +kernel
theorem dX0_init_1 : decode cX0_init 1 = .ok (.invokespecial 1, 3) := by decide +kernel
theorem dX0_init_4 : decode cX0_init 4 = .ok (.aload_n 0, 1) := by decide +kernel
theorem dX0_init_5 : decode cX0_init 5 = .ok (.ldc2_w 9, 3) := by decide +kernel
theorem dX0_init_8 : decode cX0_init 8 = .ok (.putfield 11, 3) := by decide +kernel
theorem dX0_init_11 : decode cX0_init 11 = .ok (.aload_n 0, 1) := by decide +kernel
theorem dX0_init_12 : decode cX0_init 12 = .ok (.iconst 0, 1) := by decide +kernel
theorem dX0_init_13 : decode cX0_init 13 = .ok (.putfield 15, 3) := by decide +kernel
theorem dX0_init_16 : decode cX0_init 16 = .ok (.aload_n 0, 1) := by decide +kernel
theorem dX0_init_17 : decode cX0_init 17 = .ok (.iconst 5, 1) := by decide +kernel
theorem dX0_init_18 : decode cX0_init 18 = .ok (.bipush 12, 2) := by decide +kernel
theorem dX0_init_20 : decode cX0_init 20 = .ok (.multianewarray 19 2, 4) := by decide +kernel
theorem dX0_init_24 : decode cX0_init 24 = .ok (.putfield 21, 3) := by decide +kernel
theorem dX0_init_27 : decode cX0_init 27 = .ok (.aload_n 0, 1) := by decide +kernel
theorem dX0_init_28 : decode cX0_init 28 = .ok (.iconst 5, 1) := by decide +kernel
theorem dX0_init_29 : decode cX0_init 29 = .ok (.newarray .int, 2) := by decide +kernel
theorem dX0_init_31 : decode cX0_init 31 = .ok (.putfield 24, 3) := by decide +kernel
theorem dX0_init_34 : decode cX0_init 34 = .ok (.return_, 1) := by decide +kernel
set_option maxRecDepth 20000 in
theorem ggX0_turn_X0_checkFace : GoodIn wsX0_turn wsX0_checkFace := goodIn_ca (goodIn_r _ [6, 7, 8] (by decide +kernel) (by decide +kernel)) (goodIn_sub (fun _ h => List.mem_cons_of_mem _ (List.mem_append_left _ (List.mem_append_right _ h))) (by decide +kernel))
set_option maxRecDepth 20000 in
theorem gX0_turn_X0_checkFace : GoodIn wsX0_turn (va_wsS RX0 28 yX0_checkFace wsX0_checkFace) := goodIn_app (goodIn_of _ (by decide +kernel)) ggX0_turn_X0_checkFace
set_option maxRecDepth 20000 in
theorem ggX0_turn_X0_checkQuarters : GoodIn wsX0_turn wsX0_checkQuarters := goodIn_ca (goodIn_r _ [11, 12, 13] (by decide +kernel) (by decide +kernel)) (goodIn_sub (fun _ h => List.mem_cons_of_mem _ (List.mem_append_right _ h)) (by decide +kernel))
set_option maxRecDepth 20000 in
theorem gX0_turn_X0_checkQuarters : GoodIn wsX0_turn (va_wsS RX0 32 yX0_checkQuarters wsX0_checkQuarters) := goodIn_app (goodIn_of _ (by decide +kernel)) ggX0_turn_X0_checkQuarters
set_option maxRecDepth 20000 in
theorem ggX0_turn_X0_turnNumber : GoodIn wsX0_turn wsX0_turnNumber := goodIn_r _ [16] (by decide +kernel) (by decide +kernel)
set_option maxRecDepth 20000 in
theorem gX0_turn_X0_turnNumber : GoodIn wsX0_turn (va_wsS RX0 35 yX0_turnNumber wsX0_turnNumber) := goodIn_app (goodIn_of _ (by decide +kernel)) ggX0_turn_X0_turnNumber
set_option maxRecDepth 20000 in
theorem ggX0_turn_X0_turned : GoodIn wsX0_turn wsX0_turned := goodIn_r _ [19, 20, 21, 5, 22, 23, 24, 25, 26, 27, 28, 29, 30, 31, 32, 33, 34, 35, 36, 37, 38, 39, 40, 41, 42, 43, 44, 45, 46, 47, 48] (by decide +kernel) (by decide +kernel)
set_option maxRecDepth 20000 in
theorem gX0_turn_X0_turned : GoodIn wsX0_turn (va_wsS RX0 39 yX0_turned wsX0_turned) := goodIn_app (goodIn_of _ (by decide +kernel)) ggX0_turn_X0_turned
set_option maxRecDepth 20000 in
theorem ggX0_turn_X0_rightCorners : GoodIn wsX0_turn wsX0_rightCorners := goodIn_r _ [51, 52, 53, 5, 54, 38, 39, 40, 41, 42, 43] (by decide +kernel) (by decide +kernel)
set_option maxRecDepth 20000 in
theorem gX0_turn_X0_rightCorners : GoodIn wsX0_turn (va_wsS RX0 43 yX0_rightCorners wsX0_rightCorners) := goodIn_app (goodIn_of _ (by decide +kernel)) ggX0_turn_X0_rightCorners
theorem dX0_turn_0 : decode cX0_turn 0 = .ok (.iload_n 1, 1) := by decide +kernel
theorem dX0_turn_1 : decode cX0_turn 1 = .ok (.invokestatic 28, 3) := by decide +kernel
theorem dX0_turn_4 : decode cX0_turn 4 = .ok (.iload_n 2, 1) := by decide +kernel
theorem dX0_turn_5 : decode cX0_turn 5 = .ok (.invokestatic 32, 3) := by decide +kernel
theorem dX0_turn_8 : decode cX0_turn 8 = .ok (.aload_n 0, 1) := by decide +kernel
theorem dX0_turn_9 : decode cX0_turn 9 = .ok (.aload_n 0, 1) := by decide +kernel
theorem dX0_turn_10 : decode cX0_turn 10 = .ok (.getfield 11, 3) := by decide +kernel
theorem dX0_turn_13 : decode cX0_turn 13 = .ok (.iload_n 1, 1) := by decide +kernel
theorem dX0_turn_14 : decode cX0_turn 14 = .ok (.iload_n 2, 1) := by decide +kernel
theorem dX0_turn_15 : decode cX0_turn 15 = .ok (.invokestatic 35, 3) := by decide +kernel
theorem dX0_turn_18 : decode cX0_turn 18 = .ok (.invokestatic 39, 3) := by decide +kernel
theorem dX0_turn_21 : decode cX0_turn 21 = .ok (.putfield 11, 3) := by decide +kernel
theorem dX0_turn_24 : decode cX0_turn 24 = .ok (.aload_n 0, 1) := by decide +kernel
theorem dX0_turn_25 : decode cX0_turn 25 = .ok (.dup, 1) := by decide +kernel
theorem dX0_turn_26 : decode cX0_turn 26 = .ok (.getfield 15, 3) := by decide +kernel
theorem dX0_turn_29 : decode cX0_turn 29 = .ok (.iconst 1, 1) := by decide +kernel
theorem dX0_turn_30 : decode cX0_turn 30 = .ok (.iadd, 1) := by decide +kernel
theorem dX0_turn_31 : decode cX0_turn 31 = .ok (.putfield 15, 3) := by decide +kernel
theorem dX0_turn_34 : decode cX0_turn 34 = .ok (.aload_n 0, 1) := by decide +kernel
theorem dX0_turn_35 : decode cX0_turn 35 = .ok (.getfield 11, 3) := by decide +kernel
theorem dX0_turn_38 : decode cX0_turn 38 = .ok (.invokestatic 43, 3) := by decide +kernel
theorem dX0_turn_41 : decode cX0_turn 41 = .ok (.ireturn, 1) := by decide +kernel
set_option maxRecDepth 20000 in
theorem ggX0_play_X0_checkWord : GoodIn wsX0_play wsX0_checkWord := goodIn_ca (goodIn_r _ [11, 12, 13] (by decide +kernel) (by decide +kernel)) (goodIn_sub (fun _ h => List.mem_cons_of_mem _ (List.mem_append_right _ h)) (by decide +kernel))
set_option maxRecDepth 20000 in
theorem gX0_play_X0_checkWord : GoodIn wsX0_play (va_wsS RX0 47 yX0_checkWord wsX0_checkWord) := goodIn_app (goodIn_of _ (by decide +kernel)) ggX0_play_X0_checkWord
set_option maxRecDepth 20000 in
theorem ggX0_play_X0_behindWord : GoodIn wsX0_play wsX0_behindWord := goodIn_r _ [17, 5, 18, 19, 20, 10, 21, 22, 23, 24, 25, 26, 27, 28, 29, 30, 31, 32, 33, 34, 35, 36, 37, 38, 39, 40, 41, 42, 43, 44, 45, 46, 47, 48, 49, 50, 57, 58, 59, 60] (by decide +kernel) (by decide +kernel)
set_option maxRecDepth 20000 in
theorem gX0_play_X0_behindWord : GoodIn wsX0_play (wsV RX0 62 RX0 yX0_behindWord wsX0_behindWord) := goodIn_app (goodIn_of _ (by decide +kernel)) ggX0_play_X0_behindWord
set_option maxRecDepth 20000 in
theorem ggX0_play_X0_rightCorners : GoodIn wsX0_play wsX0_rightCorners := goodIn_r _ [53, 54, 55, 10, 56, 40, 41, 42, 43, 44, 45] (by decide +kernel) (by decide +kernel)
set_option maxRecDepth 20000 in
theorem gX0_play_X0_rightCorners : GoodIn wsX0_play (va_wsS RX0 43 yX0_rightCorners wsX0_rightCorners) := goodIn_app (goodIn_of _ (by decide +kernel)) ggX0_play_X0_rightCorners
theorem dX0_play_0 : decode cX0_play 0 = .ok (.iload_n 1, 1) := by decide +kernel
theorem dX0_play_1 : decode cX0_play 1 = .ok (.invokestatic 47, 3) := by decide +kernel
theorem dX0_play_4 : decode cX0_play 4 = .ok (.iload_n 2, 1) := by decide +kernel
theorem dX0_play_5 : decode cX0_play 5 = .ok (.iconst 1, 1) := by decide +kernel
theorem dX0_play_6 : decode cX0_play 6 = .ok (.if_icmp .lt 9, 3) := by decide +kernel
theorem dX0_play_9 : decode cX0_play 9 = .ok (.iload_n 2, 1) := by decide +kernel
theorem dX0_play_10 : decode cX0_play 10 = .ok (.bipush 50, 2) := by decide +kernel
theorem dX0_play_12 : decode cX0_play 12 = .ok (.if_icmp .le 13, 3) := by decide +kernel
theorem dX0_play_15 : decode cX0_play 15 = .ok (.new 50, 3) := by decide +kernel
theorem dX0_play_18 : decode cX0_play 18 = .ok (.dup, 1) := by decide +kernel
theorem dX0_play_19 : decode cX0_play 19 = .ok (.ldc 52, 2) := by decide +kernel
theorem dX0_play_21 : decode cX0_play 21 = .ok (.invokespecial 54, 3) := by decide +kernel
theorem dX0_play_24 : decode cX0_play 24 = .ok (.athrow, 1) := by decide +kernel
theorem dX0_play_25 : decode cX0_play 25 = .ok (.aload_n 0, 1) := by decide +kernel
theorem dX0_play_26 : decode cX0_play 26 = .ok (.getfield 24, 3) := by decide +kernel
theorem dX0_play_29 : decode cX0_play 29 = .ok (.iload_n 1, 1) := by decide +kernel
theorem dX0_play_30 : decode cX0_play 30 = .ok (.iaload, 1) := by decide +kernel
theorem dX0_play_31 : decode cX0_play 31 = .ok (.ifCond .ne 13, 3) := by decide +kernel
theorem dX0_play_34 : decode cX0_play 34 = .ok (.new 57, 3) := by decide +kernel
theorem dX0_play_37 : decode cX0_play 37 = .ok (.dup, 1) := by decide +kernel
theorem dX0_play_38 : decode cX0_play 38 = .ok (.ldc 59, 2) := by decide +kernel
theorem dX0_play_40 : decode cX0_play 40 = .ok (.invokespecial 61, 3) := by decide +kernel
theorem dX0_play_43 : decode cX0_play 43 = .ok (.athrow, 1) := by decide +kernel
theorem dX0_play_44 : decode cX0_play 44 = .ok (.iconst 0, 1) := by decide +kernel
theorem dX0_play_45 : decode cX0_play 45 = .ok (.istore_n 3, 1) := by decide +kernel
theorem dX0_play_46 : decode cX0_play 46 = .ok (.iload_n 3, 1) := by decide +kernel
theorem dX0_play_47 : decode cX0_play 47 = .ok (.iload_n 2, 1) := by decide +kernel
theorem dX0_play_48 : decode cX0_play 48 = .ok (.if_icmp .ge 22, 3) := by decide +kernel
theorem dX0_play_51 : decode cX0_play 51 = .ok (.aload_n 0, 1) := by decide +kernel
theorem dX0_play_52 : decode cX0_play 52 = .ok (.aload_n 0, 1) := by decide +kernel
theorem dX0_play_53 : decode cX0_play 53 = .ok (.aload_n 0, 1) := by decide +kernel
theorem dX0_play_54 : decode cX0_play 54 = .ok (.getfield 11, 3) := by decide +kernel
theorem dX0_play_57 : decode cX0_play 57 = .ok (.iload_n 1, 1) := by decide +kernel
theorem dX0_play_58 : decode cX0_play 58 = .ok (.invokevirtual 62, 3) := by decide +kernel
theorem dX0_play_61 : decode cX0_play 61 = .ok (.putfield 11, 3) := by decide +kernel
theorem dX0_play_64 : decode cX0_play 64 = .ok (.iinc 3 1, 3) := by decide +kernel
theorem dX0_play_67 : decode cX0_play 67 = .ok (.goto (-21), 3) := by decide +kernel
theorem dX0_play_70 : decode cX0_play 70 = .ok (.aload_n 0, 1) := by decide +kernel
theorem dX0_play_71 : decode cX0_play 71 = .ok (.dup, 1) := by decide +kernel
theorem dX0_play_72 : decode cX0_play 72 = .ok (.getfield 15, 3) := by decide +kernel
theorem dX0_play_75 : decode cX0_play 75 = .ok (.iload_n 2, 1) := by decide +kernel
theorem dX0_play_76 : decode cX0_play 76 = .ok (.aload_n 0, 1) := by decide +kernel
theorem dX0_play_77 : decode cX0_play 77 = .ok (.getfield 24, 3) := by decide +kernel
theorem dX0_play_80 : decode cX0_play 80 = .ok (.iload_n 1, 1) := by decide +kernel
theorem dX0_play_81 : decode cX0_play 81 = .ok (.iaload, 1) := by decide +kernel
theorem dX0_play_82 : decode cX0_play 82 = .ok (.imul, 1) := by decide +kernel
theorem dX0_play_83 : decode cX0_play 83 = .ok (.iadd, 1) := by decide +kernel
theorem dX0_play_84 : decode cX0_play 84 = .ok (.putfield 15, 3) := by decide +kernel
theorem dX0_play_87 : decode cX0_play 87 = .ok (.aload_n 0, 1) := by decide +kernel
theorem dX0_play_88 : decode cX0_play 88 = .ok (.getfield 11, 3) := by decide +kernel
theorem dX0_play_91 : decode cX0_play 91 = .ok (.invokestatic 43, 3) := by decide +kernel
theorem dX0_play_94 : decode cX0_play 94 = .ok (.ireturn, 1) := by decide +kernel
set_option maxRecDepth 20000 in
theorem ggX0_reset_X0_wrongCorners : GoodIn wsX0_reset wsX0_wrongCorners := goodIn_r _ [6, 7, 8, 5, 9, 10, 11, 12, 13, 14, 15, 16, 17, 18] (by decide +kernel) (by decide +kernel)
set_option maxRecDepth 20000 in
theorem gX0_reset_X0_wrongCorners : GoodIn wsX0_reset (va_wsS RX0 65 yX0_wrongCorners wsX0_wrongCorners) := goodIn_app (goodIn_of _ (by decide +kernel)) ggX0_reset_X0_wrongCorners
theorem dX0_reset_0 : decode cX0_reset 0 = .ok (.aload_n 0, 1) := by decide +kernel
theorem dX0_reset_1 : decode cX0_reset 1 = .ok (.getfield 11, 3) := by decide +kernel
theorem dX0_reset_4 : decode cX0_reset 4 = .ok (.invokestatic 65, 3) := by decide +kernel
theorem dX0_reset_7 : decode cX0_reset 7 = .ok (.istore_n 1, 1) := by decide +kernel
theorem dX0_reset_8 : decode cX0_reset 8 = .ok (.aload_n 0, 1) := by decide +kernel
theorem dX0_reset_9 : decode cX0_reset 9 = .ok (.ldc2_w 9, 3) := by decide +kernel
theorem dX0_reset_12 : decode cX0_reset 12 = .ok (.putfield 11, 3) := by decide +kernel
theorem dX0_reset_15 : decode cX0_reset 15 = .ok (.iload_n 1, 1) := by decide +kernel
theorem dX0_reset_16 : decode cX0_reset 16 = .ok (.ireturn, 1) := by decide +kernel
set_option maxRecDepth 20000 in
theorem ggX0_say_X0_checkWord : GoodIn wsX0_say wsX0_checkWord := goodIn_ca (goodIn_r _ [8, 9, 10] (by decide +kernel) (by decide +kernel)) (goodIn_sub (fun _ h => List.mem_cons_of_mem _ (List.mem_append_left _ (List.mem_append_right _ h))) (by decide +kernel))
set_option maxRecDepth 20000 in
theorem gX0_say_X0_checkWord : GoodIn wsX0_say (va_wsS RX0 47 yX0_checkWord wsX0_checkWord) := goodIn_app (goodIn_of _ (by decide +kernel)) ggX0_say_X0_checkWord
set_option maxRecDepth 20000 in
theorem ggX0_say_X0_checkFace : GoodIn wsX0_say wsX0_checkFace := goodIn_ca (goodIn_r _ [13, 9, 10] (by decide +kernel) (by decide +kernel)) (goodIn_sub (fun _ h => List.mem_cons_of_mem _ (List.mem_append_left _ (List.mem_append_right _ h))) (by decide +kernel))
set_option maxRecDepth 20000 in
theorem gX0_say_X0_checkFace : GoodIn wsX0_say (va_wsS RX0 28 yX0_checkFace wsX0_checkFace) := goodIn_app (goodIn_of _ (by decide +kernel)) ggX0_say_X0_checkFace
set_option maxRecDepth 20000 in
theorem ggX0_say_X0_checkQuarters : GoodIn wsX0_say wsX0_checkQuarters := goodIn_ca (goodIn_r _ [16, 17, 18] (by decide +kernel) (by decide +kernel)) (goodIn_sub (fun _ h => List.mem_cons_of_mem _ (List.mem_append_right _ h)) (by decide +kernel))
set_option maxRecDepth 20000 in
theorem gX0_say_X0_checkQuarters : GoodIn wsX0_say (va_wsS RX0 32 yX0_checkQuarters wsX0_checkQuarters) := goodIn_app (goodIn_of _ (by decide +kernel)) ggX0_say_X0_checkQuarters
set_option maxRecDepth 20000 in
theorem ggX0_say_X0_turnNumber : GoodIn wsX0_say wsX0_turnNumber := goodIn_r _ [21] (by decide +kernel) (by decide +kernel)
set_option maxRecDepth 20000 in
theorem gX0_say_X0_turnNumber : GoodIn wsX0_say (va_wsS RX0 35 yX0_turnNumber wsX0_turnNumber) := goodIn_app (goodIn_of _ (by decide +kernel)) ggX0_say_X0_turnNumber
theorem dX0_say_0 : decode cX0_say 0 = .ok (.iload_n 1, 1) := by decide +kernel
theorem dX0_say_1 : decode cX0_say 1 = .ok (.invokestatic 47, 3) := by decide +kernel
theorem dX0_say_4 : decode cX0_say 4 = .ok (.iload_n 2, 1) := by decide +kernel
theorem dX0_say_5 : decode cX0_say 5 = .ok (.invokestatic 28, 3) := by decide +kernel
theorem dX0_say_8 : decode cX0_say 8 = .ok (.iload_n 3, 1) := by decide +kernel
theorem dX0_say_9 : decode cX0_say 9 = .ok (.invokestatic 32, 3) := by decide +kernel
theorem dX0_say_12 : decode cX0_say 12 = .ok (.aload_n 0, 1) := by decide +kernel
theorem dX0_say_13 : decode cX0_say 13 = .ok (.getfield 24, 3) := by decide +kernel
theorem dX0_say_16 : decode cX0_say 16 = .ok (.iload_n 1, 1) := by decide +kernel
theorem dX0_say_17 : decode cX0_say 17 = .ok (.iaload, 1) := by decide +kernel
theorem dX0_say_18 : decode cX0_say 18 = .ok (.bipush 12, 2) := by decide +kernel
theorem dX0_say_20 : decode cX0_say 20 = .ok (.if_icmp .lt 13, 3) := by decide +kernel
theorem dX0_say_23 : decode cX0_say 23 = .ok (.new 57, 3) := by decide +kernel
theorem dX0_say_26 : decode cX0_say 26 = .ok (.dup, 1) := by decide +kernel
theorem dX0_say_27 : decode cX0_say 27 = .ok (.ldc 68, 2) := by decide +kernel
theorem dX0_say_29 : decode cX0_say 29 = .ok (.invokespecial 61, 3) := by decide +kernel
theorem dX0_say_32 : decode cX0_say 32 = .ok (.athrow, 1) := by decide +kernel
theorem dX0_say_33 : decode cX0_say 33 = .ok (.aload_n 0, 1) := by decide +kernel
theorem dX0_say_34 : decode cX0_say 34 = .ok (.getfield 21, 3) := by decide +kernel
theorem dX0_say_37 : decode cX0_say 37 = .ok (.iload_n 1, 1) := by decide +kernel
theorem dX0_say_38 : decode cX0_say 38 = .ok (.aaload, 1) := by decide +kernel
theorem dX0_say_39 : decode cX0_say 39 = .ok (.aload_n 0, 1) := by decide +kernel
theorem dX0_say_40 : decode cX0_say 40 = .ok (.getfield 24, 3) := by decide +kernel
theorem dX0_say_43 : decode cX0_say 43 = .ok (.iload_n 1, 1) := by decide +kernel
theorem dX0_say_44 : decode cX0_say 44 = .ok (.iaload, 1) := by decide +kernel
theorem dX0_say_45 : decode cX0_say 45 = .ok (.iload_n 2, 1) := by decide +kernel
theorem dX0_say_46 : decode cX0_say 46 = .ok (.iload_n 3, 1) := by decide +kernel
theorem dX0_say_47 : decode cX0_say 47 = .ok (.invokestatic 35, 3) := by decide +kernel
theorem dX0_say_50 : decode cX0_say 50 = .ok (.iastore, 1) := by decide +kernel
theorem dX0_say_51 : decode cX0_say 51 = .ok (.aload_n 0, 1) := by decide +kernel
theorem dX0_say_52 : decode cX0_say 52 = .ok (.getfield 24, 3) := by decide +kernel
theorem dX0_say_55 : decode cX0_say 55 = .ok (.iload_n 1, 1) := by decide +kernel
theorem dX0_say_56 : decode cX0_say 56 = .ok (.dup2, 1) := by decide +kernel
theorem dX0_say_57 : decode cX0_say 57 = .ok (.iaload, 1) := by decide +kernel
theorem dX0_say_58 : decode cX0_say 58 = .ok (.iconst 1, 1) := by decide +kernel
theorem dX0_say_59 : decode cX0_say 59 = .ok (.iadd, 1) := by decide +kernel
theorem dX0_say_60 : decode cX0_say 60 = .ok (.iastore, 1) := by decide +kernel
theorem dX0_say_61 : decode cX0_say 61 = .ok (.aload_n 0, 1) := by decide +kernel
theorem dX0_say_62 : decode cX0_say 62 = .ok (.getfield 24, 3) := by decide +kernel
theorem dX0_say_65 : decode cX0_say 65 = .ok (.iload_n 1, 1) := by decide +kernel
theorem dX0_say_66 : decode cX0_say 66 = .ok (.iaload, 1) := by decide +kernel
theorem dX0_say_67 : decode cX0_say 67 = .ok (.ireturn, 1) := by decide +kernel
set_option maxRecDepth 20000 in
theorem ggX0_round_X0_checkWord : GoodIn wsX0_round wsX0_checkWord := goodIn_ca (goodIn_r _ [6, 7, 8] (by decide +kernel) (by decide +kernel)) (goodIn_sub (fun _ h => List.mem_cons_of_mem _ (List.mem_append_right _ h)) (by decide +kernel))
set_option maxRecDepth 20000 in
theorem gX0_round_X0_checkWord : GoodIn wsX0_round (va_wsS RX0 47 yX0_checkWord wsX0_checkWord) := goodIn_app (goodIn_of _ (by decide +kernel)) ggX0_round_X0_checkWord
set_option maxRecDepth 20000 in
theorem ggX0_round_X0_turnedBack : GoodIn wsX0_round wsX0_turnedBack := goodIn_r _ [11, 12, 13, 5, 14, 15, 16, 17, 18, 19, 20] (by decide +kernel) (by decide +kernel)
set_option maxRecDepth 20000 in
theorem gX0_round_X0_turnedBack : GoodIn wsX0_round (va_wsS RX0 70 yX0_turnedBack wsX0_turnedBack) := goodIn_app (goodIn_of _ (by decide +kernel)) ggX0_round_X0_turnedBack
theorem dX0_round_0 : decode cX0_round 0 = .ok (.iload_n 1, 1) := by decide +kernel
theorem dX0_round_1 : decode cX0_round 1 = .ok (.invokestatic 47, 3) := by decide +kernel
theorem dX0_round_4 : decode cX0_round 4 = .ok (.aload_n 0, 1) := by decide +kernel
theorem dX0_round_5 : decode cX0_round 5 = .ok (.getfield 21, 3) := by decide +kernel
theorem dX0_round_8 : decode cX0_round 8 = .ok (.iload_n 1, 1) := by decide +kernel
theorem dX0_round_9 : decode cX0_round 9 = .ok (.aaload, 1) := by decide +kernel
theorem dX0_round_10 : decode cX0_round 10 = .ok (.astore_n 2, 1) := by decide +kernel
theorem dX0_round_11 : decode cX0_round 11 = .ok (.iconst 0, 1) := by decide +kernel
theorem dX0_round_12 : decode cX0_round 12 = .ok (.istore_n 3, 1) := by decide +kernel
theorem dX0_round_13 : decode cX0_round 13 = .ok (.aload_n 0, 1) := by decide +kernel
theorem dX0_round_14 : decode cX0_round 14 = .ok (.getfield 24, 3) := by decide +kernel
theorem dX0_round_17 : decode cX0_round 17 = .ok (.iload_n 1, 1) := by decide +kernel
theorem dX0_round_18 : decode cX0_round 18 = .ok (.iaload, 1) := by decide +kernel
theorem dX0_round_19 : decode cX0_round 19 = .ok (.iconst 1, 1) := by decide +kernel
theorem dX0_round_20 : decode cX0_round 20 = .ok (.isub, 1) := by decide +kernel
theorem dX0_round_21 : decode cX0_round 21 = .ok (.istore 4, 2) := by decide +kernel
theorem dX0_round_23 : decode cX0_round 23 = .ok (.iload_n 3, 1) := by decide +kernel
theorem dX0_round_24 : decode cX0_round 24 = .ok (.iload 4, 2) := by decide +kernel
theorem dX0_round_26 : decode cX0_round 26 = .ok (.if_icmp .gt 36, 3) := by decide +kernel
theorem dX0_round_29 : decode cX0_round 29 = .ok (.aload_n 2, 1) := by decide +kernel
theorem dX0_round_30 : decode cX0_round 30 = .ok (.iload_n 3, 1) := by decide +kernel
theorem dX0_round_31 : decode cX0_round 31 = .ok (.iaload, 1) := by decide +kernel
theorem dX0_round_32 : decode cX0_round 32 = .ok (.istore 5, 2) := by decide +kernel
theorem dX0_round_34 : decode cX0_round 34 = .ok (.aload_n 2, 1) := by decide +kernel
theorem dX0_round_35 : decode cX0_round 35 = .ok (.iload_n 3, 1) := by decide +kernel
theorem dX0_round_36 : decode cX0_round 36 = .ok (.aload_n 2, 1) := by decide +kernel
theorem dX0_round_37 : decode cX0_round 37 = .ok (.iload 4, 2) := by decide +kernel
theorem dX0_round_39 : decode cX0_round 39 = .ok (.iaload, 1) := by decide +kernel
theorem dX0_round_40 : decode cX0_round 40 = .ok (.invokestatic 70, 3) := by decide +kernel
theorem dX0_round_43 : decode cX0_round 43 = .ok (.iastore, 1) := by decide +kernel
theorem dX0_round_44 : decode cX0_round 44 = .ok (.aload_n 2, 1) := by decide +kernel
theorem dX0_round_45 : decode cX0_round 45 = .ok (.iload 4, 2) := by decide +kernel
theorem dX0_round_47 : decode cX0_round 47 = .ok (.iload 5, 2) := by decide +kernel
theorem dX0_round_49 : decode cX0_round 49 = .ok (.invokestatic 70, 3) := by decide +kernel
theorem dX0_round_52 : decode cX0_round 52 = .ok (.iastore, 1) := by decide +kernel
theorem dX0_round_53 : decode cX0_round 53 = .ok (.iinc 3 1, 3) := by decide +kernel
theorem dX0_round_56 : decode cX0_round 56 = .ok (.iinc 4 (-1), 3) := by decide +kernel
theorem dX0_round_59 : decode cX0_round 59 = .ok (.goto (-36), 3) := by decide +kernel
theorem dX0_round_62 : decode cX0_round 62 = .ok (.aload_n 0, 1) := by decide +kernel
theorem dX0_round_63 : decode cX0_round 63 = .ok (.getfield 24, 3) := by decide +kernel
theorem dX0_round_66 : decode cX0_round 66 = .ok (.iload_n 1, 1) := by decide +kernel
theorem dX0_round_67 : decode cX0_round 67 = .ok (.iaload, 1) := by decide +kernel
theorem dX0_round_68 : decode cX0_round 68 = .ok (.ireturn, 1) := by decide +kernel
set_option maxRecDepth 20000 in
theorem ggX0_tidy_X0_checkWord : GoodIn wsX0_tidy wsX0_checkWord := goodIn_ca (goodIn_r _ [6, 7, 8] (by decide +kernel) (by decide +kernel)) (goodIn_sub (fun _ h => List.mem_cons_of_mem _ (List.mem_append_right _ h)) (by decide +kernel))
set_option maxRecDepth 20000 in
theorem gX0_tidy_X0_checkWord : GoodIn wsX0_tidy (va_wsS RX0 47 yX0_checkWord wsX0_checkWord) := goodIn_app (goodIn_of _ (by decide +kernel)) ggX0_tidy_X0_checkWord
set_option maxRecDepth 20000 in
theorem ggX0_tidy_X0_keep : GoodIn wsX0_tidy wsX0_keep := goodIn_r _ [11, 12, 13, 5, 14, 15, 16, 17, 18, 19, 20] (by decide +kernel) (by decide +kernel)
set_option maxRecDepth 20000 in
theorem gX0_tidy_X0_keep : GoodIn wsX0_tidy (va_wsS RX0 76 yX0_keep wsX0_keep) := goodIn_app (goodIn_of _ (by decide +kernel)) ggX0_tidy_X0_keep
theorem dX0_tidy_0 : decode cX0_tidy 0 = .ok (.iload_n 1, 1) := by decide +kernel
theorem dX0_tidy_1 : decode cX0_tidy 1 = .ok (.invokestatic 47, 3) := by decide +kernel
theorem dX0_tidy_4 : decode cX0_tidy 4 = .ok (.iconst 0, 1) := by decide +kernel
theorem dX0_tidy_5 : decode cX0_tidy 5 = .ok (.istore_n 2, 1) := by decide +kernel
theorem dX0_tidy_6 : decode cX0_tidy 6 = .ok (.iconst 0, 1) := by decide +kernel
theorem dX0_tidy_7 : decode cX0_tidy 7 = .ok (.istore_n 3, 1) := by decide +kernel
theorem dX0_tidy_8 : decode cX0_tidy 8 = .ok (.iload_n 3, 1) := by decide +kernel
theorem dX0_tidy_9 : decode cX0_tidy 9 = .ok (.aload_n 0, 1) := by decide +kernel
theorem dX0_tidy_10 : decode cX0_tidy 10 = .ok (.getfield 24, 3) := by decide +kernel
theorem dX0_tidy_13 : decode cX0_tidy 13 = .ok (.iload_n 1, 1) := by decide +kernel
theorem dX0_tidy_14 : decode cX0_tidy 14 = .ok (.iaload, 1) := by decide +kernel
theorem dX0_tidy_15 : decode cX0_tidy 15 = .ok (.if_icmp .ge 28, 3) := by decide +kernel
theorem dX0_tidy_18 : decode cX0_tidy 18 = .ok (.aload_n 0, 1) := by decide +kernel
theorem dX0_tidy_19 : decode cX0_tidy 19 = .ok (.getfield 21, 3) := by decide +kernel
theorem dX0_tidy_22 : decode cX0_tidy 22 = .ok (.iload_n 1, 1) := by decide +kernel
theorem dX0_tidy_23 : decode cX0_tidy 23 = .ok (.aaload, 1) := by decide +kernel
theorem dX0_tidy_24 : decode cX0_tidy 24 = .ok (.iload_n 2, 1) := by decide +kernel
theorem dX0_tidy_25 : decode cX0_tidy 25 = .ok (.aload_n 0, 1) := by decide +kernel
theorem dX0_tidy_26 : decode cX0_tidy 26 = .ok (.getfield 21, 3) := by decide +kernel
theorem dX0_tidy_29 : decode cX0_tidy 29 = .ok (.iload_n 1, 1) := by decide +kernel
theorem dX0_tidy_30 : decode cX0_tidy 30 = .ok (.aaload, 1) := by decide +kernel
theorem dX0_tidy_31 : decode cX0_tidy 31 = .ok (.iload_n 3, 1) := by decide +kernel
theorem dX0_tidy_32 : decode cX0_tidy 32 = .ok (.iaload, 1) := by decide +kernel
theorem dX0_tidy_33 : decode cX0_tidy 33 = .ok (.invokestatic 76, 3) := by decide +kernel
theorem dX0_tidy_36 : decode cX0_tidy 36 = .ok (.istore_n 2, 1) := by decide +kernel
theorem dX0_tidy_37 : decode cX0_tidy 37 = .ok (.iinc 3 1, 3) := by decide +kernel
theorem dX0_tidy_40 : decode cX0_tidy 40 = .ok (.goto (-32), 3) := by decide +kernel
theorem dX0_tidy_43 : decode cX0_tidy 43 = .ok (.aload_n 0, 1) := by decide +kernel
theorem dX0_tidy_44 : decode cX0_tidy 44 = .ok (.getfield 24, 3) := by decide +kernel
theorem dX0_tidy_47 : decode cX0_tidy 47 = .ok (.iload_n 1, 1) := by decide +kernel
theorem dX0_tidy_48 : decode cX0_tidy 48 = .ok (.iload_n 2, 1) := by decide +kernel
theorem dX0_tidy_49 : decode cX0_tidy 49 = .ok (.iastore, 1) := by decide +kernel
theorem dX0_tidy_50 : decode cX0_tidy 50 = .ok (.iload_n 2, 1) := by decide +kernel
theorem dX0_tidy_51 : decode cX0_tidy 51 = .ok (.ireturn, 1) := by decide +kernel
set_option maxRecDepth 20000 in
theorem ggX0_told_X0_checkPlace : GoodIn wsX0_told wsX0_checkPlace := goodIn_ca (goodIn_r _ [5, 6, 7] (by decide +kernel) (by decide +kernel)) (goodIn_sub (fun _ h => List.mem_cons_of_mem _ (List.mem_append_right _ h)) (by decide +kernel))
set_option maxRecDepth 20000 in
theorem gX0_told_X0_checkPlace : GoodIn wsX0_told (va_wsS RX0 80 yX0_checkPlace wsX0_checkPlace) := goodIn_app (goodIn_of _ (by decide +kernel)) ggX0_told_X0_checkPlace
set_option maxRecDepth 20000 in
theorem ggX0_told_X0_checkWhat : GoodIn wsX0_told wsX0_checkWhat := goodIn_ca (goodIn_r _ [10, 6, 7] (by decide +kernel) (by decide +kernel)) (goodIn_sub (fun _ h => List.mem_cons_of_mem _ (List.mem_append_right _ h)) (by decide +kernel))
set_option maxRecDepth 20000 in
theorem gX0_told_X0_checkWhat : GoodIn wsX0_told (va_wsS RX0 83 yX0_checkWhat wsX0_checkWhat) := goodIn_app (goodIn_of _ (by decide +kernel)) ggX0_told_X0_checkWhat
set_option maxRecDepth 20000 in
theorem ggX0_told_X0_cornerAt : GoodIn wsX0_told wsX0_cornerAt := goodIn_r _ [13] (by decide +kernel) (by decide +kernel)
set_option maxRecDepth 20000 in
theorem gX0_told_X0_cornerAt : GoodIn wsX0_told (va_wsS RX0 87 yX0_cornerAt wsX0_cornerAt) := goodIn_app (goodIn_of _ (by decide +kernel)) ggX0_told_X0_cornerAt
set_option maxRecDepth 20000 in
theorem ggX0_told_X0_twistAt : GoodIn wsX0_told wsX0_twistAt := goodIn_r _ [16] (by decide +kernel) (by decide +kernel)
set_option maxRecDepth 20000 in
theorem gX0_told_X0_twistAt : GoodIn wsX0_told (va_wsS RX0 91 yX0_twistAt wsX0_twistAt) := goodIn_app (goodIn_of _ (by decide +kernel)) ggX0_told_X0_twistAt
set_option maxRecDepth 20000 in
theorem ggX0_told_X0_isRight : GoodIn wsX0_told wsX0_isRight := goodIn_r _ [19, 11, 12, 4, 13, 14, 15, 16] (by decide +kernel) (by decide +kernel)
set_option maxRecDepth 20000 in
theorem gX0_told_X0_isRight : GoodIn wsX0_told (va_wsS RX0 94 yX0_isRight wsX0_isRight) := goodIn_app (goodIn_of _ (by decide +kernel)) ggX0_told_X0_isRight
theorem dX0_told_0 : decode cX0_told 0 = .ok (.iload_n 1, 1) := by decide +kernel
theorem dX0_told_1 : decode cX0_told 1 = .ok (.invokestatic 80, 3) := by decide +kernel
theorem dX0_told_4 : decode cX0_told 4 = .ok (.iload_n 2, 1) := by decide +kernel
theorem dX0_told_5 : decode cX0_told 5 = .ok (.iconst 3, 1) := by decide +kernel
theorem dX0_told_6 : decode cX0_told 6 = .ok (.invokestatic 83, 3) := by decide +kernel
theorem dX0_told_9 : decode cX0_told 9 = .ok (.iload_n 2, 1) := by decide +kernel
theorem dX0_told_10 : decode cX0_told 10 = .ok (.ifCond .ne 12, 3) := by decide +kernel
theorem dX0_told_13 : decode cX0_told 13 = .ok (.aload_n 0, 1) := by decide +kernel
theorem dX0_told_14 : decode cX0_told 14 = .ok (.getfield 11, 3) := by decide +kernel
theorem dX0_told_17 : decode cX0_told 17 = .ok (.iload_n 1, 1) := by decide +kernel
theorem dX0_told_18 : decode cX0_told 18 = .ok (.invokestatic 87, 3) := by decide +kernel
theorem dX0_told_21 : decode cX0_told 21 = .ok (.ireturn, 1) := by decide +kernel
theorem dX0_told_22 : decode cX0_told 22 = .ok (.iload_n 2, 1) := by decide +kernel
theorem dX0_told_23 : decode cX0_told 23 = .ok (.iconst 1, 1) := by decide +kernel
theorem dX0_told_24 : decode cX0_told 24 = .ok (.if_icmp .ne 12, 3) := by decide +kernel
theorem dX0_told_27 : decode cX0_told 27 = .ok (.aload_n 0, 1) := by decide +kernel
theorem dX0_told_28 : decode cX0_told 28 = .ok (.getfield 11, 3) := by decide +kernel
theorem dX0_told_31 : decode cX0_told 31 = .ok (.iload_n 1, 1) := by decide +kernel
theorem dX0_told_32 : decode cX0_told 32 = .ok (.invokestatic 91, 3) := by decide +kernel
theorem dX0_told_35 : decode cX0_told 35 = .ok (.ireturn, 1) := by decide +kernel
theorem dX0_told_36 : decode cX0_told 36 = .ok (.aload_n 0, 1) := by decide +kernel
theorem dX0_told_37 : decode cX0_told 37 = .ok (.getfield 11, 3) := by decide +kernel
theorem dX0_told_40 : decode cX0_told 40 = .ok (.iload_n 1, 1) := by decide +kernel
theorem dX0_told_41 : decode cX0_told 41 = .ok (.invokestatic 94, 3) := by decide +kernel
theorem dX0_told_44 : decode cX0_told 44 = .ok (.ifCond .eq 7, 3) := by decide +kernel
theorem dX0_told_47 : decode cX0_told 47 = .ok (.iconst 1, 1) := by decide +kernel
theorem dX0_told_48 : decode cX0_told 48 = .ok (.goto 4, 3) := by decide +kernel
theorem dX0_told_51 : decode cX0_told 51 = .ok (.iconst 0, 1) := by decide +kernel
theorem dX0_told_52 : decode cX0_told 52 = .ok (.ireturn, 1) := by decide +kernel
set_option maxRecDepth 20000 in
theorem ggX0_where_X0_cornerAt : GoodIn wsX0_where wsX0_cornerAt := goodIn_r _ [7] (by decide +kernel) (by decide +kernel)
set_option maxRecDepth 20000 in
theorem gX0_where_X0_cornerAt : GoodIn wsX0_where (va_wsS RX0 87 yX0_cornerAt wsX0_cornerAt) := goodIn_app (goodIn_of _ (by decide +kernel)) ggX0_where_X0_cornerAt
theorem dX0_where_0 : decode cX0_where 0 = .ok (.iload_n 1, 1) := by decide +kernel
theorem dX0_where_1 : decode cX0_where 1 = .ok (.ifCond .lt 9, 3) := by decide +kernel
theorem dX0_where_4 : decode cX0_where 4 = .ok (.iload_n 1, 1) := by decide +kernel
theorem dX0_where_5 : decode cX0_where 5 = .ok (.bipush 8, 2) := by decide +kernel
theorem dX0_where_7 : decode cX0_where 7 = .ok (.if_icmp .lt 13, 3) := by decide +kernel
theorem dX0_where_10 : decode cX0_where 10 = .ok (.new 98, 3) := by decide +kernel
theorem dX0_where_13 : decode cX0_where 13 = .ok (.dup, 1) := by decide +kernel
theorem dX0_where_14 : decode cX0_where 14 = .ok (.ldc 100, 2) := by decide +kernel
theorem dX0_where_16 : decode cX0_where 16 = .ok (.invokespecial 102, 3) := by decide +kernel
theorem dX0_where_19 : decode cX0_where 19 = .ok (.athrow, 1) := by decide +kernel
theorem dX0_where_20 : decode cX0_where 20 = .ok (.iconst 0, 1) := by decide +kernel
theorem dX0_where_21 : decode cX0_where 21 = .ok (.istore_n 2, 1) := by decide +kernel
theorem dX0_where_22 : decode cX0_where 22 = .ok (.iload_n 2, 1) := by decide +kernel
theorem dX0_where_23 : decode cX0_where 23 = .ok (.bipush 7, 2) := by decide +kernel
theorem dX0_where_25 : decode cX0_where 25 = .ok (.if_icmp .ge 21, 3) := by decide +kernel
theorem dX0_where_28 : decode cX0_where 28 = .ok (.aload_n 0, 1) := by decide +kernel
theorem dX0_where_29 : decode cX0_where 29 = .ok (.getfield 11, 3) := by decide +kernel
theorem dX0_where_32 : decode cX0_where 32 = .ok (.iload_n 2, 1) := by decide +kernel
theorem dX0_where_33 : decode cX0_where 33 = .ok (.invokestatic 87, 3) := by decide +kernel
theorem dX0_where_36 : decode cX0_where 36 = .ok (.iload_n 1, 1) := by decide +kernel
theorem dX0_where_37 : decode cX0_where 37 = .ok (.if_icmp .eq 9, 3) := by decide +kernel
theorem dX0_where_40 : decode cX0_where 40 = .ok (.iinc 2 1, 3) := by decide +kernel
theorem dX0_where_43 : decode cX0_where 43 = .ok (.goto (-21), 3) := by decide +kernel
theorem dX0_where_46 : decode cX0_where 46 = .ok (.iload_n 2, 1) := by decide +kernel
theorem dX0_where_47 : decode cX0_where 47 = .ok (.ireturn, 1) := by decide +kernel
set_option maxRecDepth 20000 in
theorem ggX0_count_X0_checkWhat : GoodIn wsX0_count wsX0_checkWhat := goodIn_ca (goodIn_r _ [6, 7, 8] (by decide +kernel) (by decide +kernel)) (goodIn_sub (fun _ h => List.mem_cons_of_mem _ (List.mem_append_right _ h)) (by decide +kernel))
set_option maxRecDepth 20000 in
theorem gX0_count_X0_checkWhat : GoodIn wsX0_count (va_wsS RX0 83 yX0_checkWhat wsX0_checkWhat) := goodIn_app (goodIn_of _ (by decide +kernel)) ggX0_count_X0_checkWhat
set_option maxRecDepth 20000 in
theorem ggX0_count_X0_rightCorners : GoodIn wsX0_count wsX0_rightCorners := goodIn_r _ [11, 12, 13, 5, 14, 15, 16, 17, 18, 19, 20] (by decide +kernel) (by decide +kernel)
set_option maxRecDepth 20000 in
theorem gX0_count_X0_rightCorners : GoodIn wsX0_count (va_wsS RX0 43 yX0_rightCorners wsX0_rightCorners) := goodIn_app (goodIn_of _ (by decide +kernel)) ggX0_count_X0_rightCorners
set_option maxRecDepth 20000 in
theorem ggX0_count_X0_placedCorners : GoodIn wsX0_count wsX0_placedCorners := goodIn_r _ [23, 15, 16, 5, 17] (by decide +kernel) (by decide +kernel)
set_option maxRecDepth 20000 in
theorem gX0_count_X0_placedCorners : GoodIn wsX0_count (va_wsS RX0 103 yX0_placedCorners wsX0_placedCorners) := goodIn_app (goodIn_of _ (by decide +kernel)) ggX0_count_X0_placedCorners
set_option maxRecDepth 20000 in
theorem ggX0_count_X0_untwistedCorners : GoodIn wsX0_count wsX0_untwistedCorners := goodIn_r _ [26, 18, 19, 5, 20] (by decide +kernel) (by decide +kernel)
set_option maxRecDepth 20000 in
theorem gX0_count_X0_untwistedCorners : GoodIn wsX0_count (va_wsS RX0 106 yX0_untwistedCorners wsX0_untwistedCorners) := goodIn_app (goodIn_of _ (by decide +kernel)) ggX0_count_X0_untwistedCorners
set_option maxRecDepth 20000 in
theorem ggX0_count_X0_pairsOutOfOrder : GoodIn wsX0_count wsX0_pairsOutOfOrder := goodIn_r _ [29, 15, 16, 5, 17] (by decide +kernel) (by decide +kernel)
set_option maxRecDepth 20000 in
theorem gX0_count_X0_pairsOutOfOrder : GoodIn wsX0_count (va_wsS RX0 109 yX0_pairsOutOfOrder wsX0_pairsOutOfOrder) := goodIn_app (goodIn_of _ (by decide +kernel)) ggX0_count_X0_pairsOutOfOrder
set_option maxRecDepth 20000 in
theorem ggX0_count_X0_orderOf : GoodIn wsX0_count wsX0_orderOf := goodIn_r _ [32, 33, 34, 35, 5, 36, 15, 16, 17, 18, 19, 20, 37, 38, 39, 40, 41] (by decide +kernel) (by decide +kernel)
set_option maxRecDepth 20000 in
theorem gX0_count_X0_orderOf : GoodIn wsX0_count (va_wsS RX0 112 yX0_orderOf wsX0_orderOf) := goodIn_app (goodIn_of _ (by decide +kernel)) ggX0_count_X0_orderOf
set_option maxRecDepth 20000 in
theorem ggX0_count_X0_turnsOfAllWords : GoodIn wsX0_count wsX0_turnsOfAllWords := goodIn_r _ [45, 46, 47, 48, 49, 50] (by decide +kernel) (by decide +kernel)
set_option maxRecDepth 20000 in
theorem gX0_count_X0_turnsOfAllWords : GoodIn wsX0_count (wsV RX0 115 RX0 yX0_turnsOfAllWords wsX0_turnsOfAllWords) := goodIn_app (goodIn_of _ (by decide +kernel)) ggX0_count_X0_turnsOfAllWords
theorem dX0_count_0 : decode cX0_count 0 = .ok (.iload_n 1, 1) := by decide +kernel
theorem dX0_count_1 : decode cX0_count 1 = .ok (.bipush 7, 2) := by decide +kernel
theorem dX0_count_3 : decode cX0_count 3 = .ok (.invokestatic 83, 3) := by decide +kernel
theorem dX0_count_6 : decode cX0_count 6 = .ok (.iload_n 1, 1) := by decide +kernel
theorem dX0_count_7 : decode cX0_count 7 = .ok (.tableswitch 84 0 5 #[37, 42, 50, 58, 66, 76], 37) := by decide +kernel
theorem dX0_count_44 : decode cX0_count 44 = .ok (.aload_n 0, 1) := by decide +kernel
theorem dX0_count_45 : decode cX0_count 45 = .ok (.getfield 15, 3) := by decide +kernel
theorem dX0_count_48 : decode cX0_count 48 = .ok (.ireturn, 1) := by decide +kernel
theorem dX0_count_49 : decode cX0_count 49 = .ok (.aload_n 0, 1) := by decide +kernel
theorem dX0_count_50 : decode cX0_count 50 = .ok (.getfield 11, 3) := by decide +kernel
theorem dX0_count_53 : decode cX0_count 53 = .ok (.invokestatic 43, 3) := by decide +kernel
theorem dX0_count_56 : decode cX0_count 56 = .ok (.ireturn, 1) := by decide +kernel
theorem dX0_count_57 : decode cX0_count 57 = .ok (.aload_n 0, 1) := by decide +kernel
theorem dX0_count_58 : decode cX0_count 58 = .ok (.getfield 11, 3) := by decide +kernel
theorem dX0_count_61 : decode cX0_count 61 = .ok (.invokestatic 103, 3) := by decide +kernel
theorem dX0_count_64 : decode cX0_count 64 = .ok (.ireturn, 1) := by decide +kernel
theorem dX0_count_65 : decode cX0_count 65 = .ok (.aload_n 0, 1) := by decide +kernel
theorem dX0_count_66 : decode cX0_count 66 = .ok (.getfield 11, 3) := by decide +kernel
theorem dX0_count_69 : decode cX0_count 69 = .ok (.invokestatic 106, 3) := by decide +kernel
theorem dX0_count_72 : decode cX0_count 72 = .ok (.ireturn, 1) := by decide +kernel
theorem dX0_count_73 : decode cX0_count 73 = .ok (.aload_n 0, 1) := by decide +kernel
theorem dX0_count_74 : decode cX0_count 74 = .ok (.getfield 11, 3) := by decide +kernel
theorem dX0_count_77 : decode cX0_count 77 = .ok (.invokestatic 109, 3) := by decide +kernel
theorem dX0_count_80 : decode cX0_count 80 = .ok (.iconst 2, 1) := by decide +kernel
theorem dX0_count_81 : decode cX0_count 81 = .ok (.irem, 1) := by decide +kernel
theorem dX0_count_82 : decode cX0_count 82 = .ok (.ireturn, 1) := by decide +kernel
theorem dX0_count_83 : decode cX0_count 83 = .ok (.aload_n 0, 1) := by decide +kernel
theorem dX0_count_84 : decode cX0_count 84 = .ok (.getfield 11, 3) := by decide +kernel
theorem dX0_count_87 : decode cX0_count 87 = .ok (.invokestatic 112, 3) := by decide +kernel
theorem dX0_count_90 : decode cX0_count 90 = .ok (.ireturn, 1) := by decide +kernel
theorem dX0_count_91 : decode cX0_count 91 = .ok (.aload_n 0, 1) := by decide +kernel
theorem dX0_count_92 : decode cX0_count 92 = .ok (.invokevirtual 115, 3) := by decide +kernel
theorem dX0_count_95 : decode cX0_count 95 = .ok (.ireturn, 1) := by decide +kernel
set_option maxRecDepth 20000 in
theorem ggX0_word_X0_checkWord : GoodIn wsX0_word wsX0_checkWord := goodIn_ca (goodIn_r _ [5, 6, 7] (by decide +kernel) (by decide +kernel)) (goodIn_sub (fun _ h => List.mem_cons_of_mem _ (List.mem_append_right _ h)) (by decide +kernel))
set_option maxRecDepth 20000 in
theorem gX0_word_X0_checkWord : GoodIn wsX0_word (va_wsS RX0 47 yX0_checkWord wsX0_checkWord) := goodIn_app (goodIn_of _ (by decide +kernel)) ggX0_word_X0_checkWord
set_option maxRecDepth 20000 in
theorem ggX0_word_X0_checkWhat : GoodIn wsX0_word wsX0_checkWhat := goodIn_ca (goodIn_r _ [10, 6, 7] (by decide +kernel) (by decide +kernel)) (goodIn_sub (fun _ h => List.mem_cons_of_mem _ (List.mem_append_right _ h)) (by decide +kernel))
set_option maxRecDepth 20000 in
theorem gX0_word_X0_checkWhat : GoodIn wsX0_word (va_wsS RX0 83 yX0_checkWhat wsX0_checkWhat) := goodIn_app (goodIn_of _ (by decide +kernel)) ggX0_word_X0_checkWhat
set_option maxRecDepth 20000 in
theorem ggX0_word_X0_deedOf : GoodIn wsX0_word wsX0_deedOf := goodIn_r _ [14, 15, 16, 17, 18, 4, 19, 1, 20, 21, 22, 23, 24, 25, 26, 27, 28, 29, 30, 31, 32, 33, 34, 35, 36, 37, 38, 39, 40, 41, 42, 43, 44, 45, 46, 47, 48, 49, 50, 51, 52, 71, 72, 73, 74] (by decide +kernel) (by decide +kernel)
set_option maxRecDepth 20000 in
theorem gX0_word_X0_deedOf : GoodIn wsX0_word (wsV RX0 119 RX0 yX0_deedOf wsX0_deedOf) := goodIn_app (goodIn_of _ (by decide +kernel)) ggX0_word_X0_deedOf
set_option maxRecDepth 20000 in
theorem ggX0_word_X0_orderOf : GoodIn wsX0_word wsX0_orderOf := goodIn_r _ [55, 15, 56, 57, 4, 58, 42, 43, 44, 45, 46, 47, 48, 49, 50, 51, 52] (by decide +kernel) (by decide +kernel)
set_option maxRecDepth 20000 in
theorem gX0_word_X0_orderOf : GoodIn wsX0_word (va_wsS RX0 112 yX0_orderOf wsX0_orderOf) := goodIn_app (goodIn_of _ (by decide +kernel)) ggX0_word_X0_orderOf
set_option maxRecDepth 20000 in
theorem ggX0_word_X0_wrongCorners : GoodIn wsX0_word wsX0_wrongCorners := goodIn_r _ [61, 62, 63, 4, 64, 65, 66, 67, 42, 43, 44, 45, 46, 47] (by decide +kernel) (by decide +kernel)
set_option maxRecDepth 20000 in
theorem gX0_word_X0_wrongCorners : GoodIn wsX0_word (va_wsS RX0 65 yX0_wrongCorners wsX0_wrongCorners) := goodIn_app (goodIn_of _ (by decide +kernel)) ggX0_word_X0_wrongCorners
set_option maxRecDepth 20000 in
theorem ggX0_word_X0_placedCorners : GoodIn wsX0_word wsX0_placedCorners := goodIn_r _ [70, 42, 43, 4, 44] (by decide +kernel) (by decide +kernel)
set_option maxRecDepth 20000 in
theorem gX0_word_X0_placedCorners : GoodIn wsX0_word (va_wsS RX0 103 yX0_placedCorners wsX0_placedCorners) := goodIn_app (goodIn_of _ (by decide +kernel)) ggX0_word_X0_placedCorners
theorem dX0_word_0 : decode cX0_word 0 = .ok (.iload_n 1, 1) := by decide +kernel
theorem dX0_word_1 : decode cX0_word 1 = .ok (.invokestatic 47, 3) := by decide +kernel
theorem dX0_word_4 : decode cX0_word 4 = .ok (.iload_n 2, 1) := by decide +kernel
theorem dX0_word_5 : decode cX0_word 5 = .ok (.iconst 4, 1) := by decide +kernel
theorem dX0_word_6 : decode cX0_word 6 = .ok (.invokestatic 83, 3) := by decide +kernel
theorem dX0_word_9 : decode cX0_word 9 = .ok (.iload_n 2, 1) := by decide +kernel
theorem dX0_word_10 : decode cX0_word 10 = .ok (.tableswitch 51 0 2 #[26, 33, 42], 26) := by decide +kernel
theorem dX0_word_36 : decode cX0_word 36 = .ok (.aload_n 0, 1) := by decide +kernel
theorem dX0_word_37 : decode cX0_word 37 = .ok (.getfield 24, 3) := by decide +kernel
theorem dX0_word_40 : decode cX0_word 40 = .ok (.iload_n 1, 1) := by decide +kernel
theorem dX0_word_41 : decode cX0_word 41 = .ok (.iaload, 1) := by decide +kernel
theorem dX0_word_42 : decode cX0_word 42 = .ok (.ireturn, 1) := by decide +kernel
theorem dX0_word_43 : decode cX0_word 43 = .ok (.aload_n 0, 1) := by decide +kernel
theorem dX0_word_44 : decode cX0_word 44 = .ok (.iload_n 1, 1) := by decide +kernel
theorem dX0_word_45 : decode cX0_word 45 = .ok (.invokevirtual 119, 3) := by decide +kernel
theorem dX0_word_48 : decode cX0_word 48 = .ok (.invokestatic 112, 3) := by decide +kernel
theorem dX0_word_51 : decode cX0_word 51 = .ok (.ireturn, 1) := by decide +kernel
theorem dX0_word_52 : decode cX0_word 52 = .ok (.aload_n 0, 1) := by decide +kernel
theorem dX0_word_53 : decode cX0_word 53 = .ok (.iload_n 1, 1) := by decide +kernel
theorem dX0_word_54 : decode cX0_word 54 = .ok (.invokevirtual 119, 3) := by decide +kernel
theorem dX0_word_57 : decode cX0_word 57 = .ok (.invokestatic 65, 3) := by decide +kernel
theorem dX0_word_60 : decode cX0_word 60 = .ok (.ireturn, 1) := by decide +kernel
theorem dX0_word_61 : decode cX0_word 61 = .ok (.bipush 8, 2) := by decide +kernel
theorem dX0_word_63 : decode cX0_word 63 = .ok (.aload_n 0, 1) := by decide +kernel
theorem dX0_word_64 : decode cX0_word 64 = .ok (.iload_n 1, 1) := by decide +kernel
theorem dX0_word_65 : decode cX0_word 65 = .ok (.invokevirtual 119, 3) := by decide +kernel
theorem dX0_word_68 : decode cX0_word 68 = .ok (.invokestatic 103, 3) := by decide +kernel
theorem dX0_word_71 : decode cX0_word 71 = .ok (.isub, 1) := by decide +kernel
theorem dX0_word_72 : decode cX0_word 72 = .ok (.ireturn, 1) := by decide +kernel
set_option maxRecDepth 20000 in
theorem ggX0_same_X0_checkWord : GoodIn wsX0_same wsX0_checkWord := goodIn_ca (goodIn_r _ [4, 5, 6] (by decide +kernel) (by decide +kernel)) (goodIn_sub (fun _ h => List.mem_cons_of_mem _ (List.mem_append_right _ h)) (by decide +kernel))
set_option maxRecDepth 20000 in
theorem gX0_same_X0_checkWord : GoodIn wsX0_same (va_wsS RX0 47 yX0_checkWord wsX0_checkWord) := goodIn_app (goodIn_of _ (by decide +kernel)) ggX0_same_X0_checkWord
set_option maxRecDepth 20000 in
theorem ggX0_same_X0_deedOf : GoodIn wsX0_same wsX0_deedOf := goodIn_r _ [10, 11, 12, 13, 14, 3, 15, 16, 17, 18, 19, 20, 21, 22, 23, 24, 25, 26, 27, 28, 29, 30, 31, 32, 33, 34, 35, 36, 37, 38, 39, 40, 41, 42, 43, 44, 45, 46, 47, 48, 49, 50, 51, 52, 53] (by decide +kernel) (by decide +kernel)
set_option maxRecDepth 20000 in
theorem gX0_same_X0_deedOf : GoodIn wsX0_same (wsV RX0 119 RX0 yX0_deedOf wsX0_deedOf) := goodIn_app (goodIn_of _ (by decide +kernel)) ggX0_same_X0_deedOf
theorem dX0_same_0 : decode cX0_same 0 = .ok (.iload_n 1, 1) := by decide +kernel
theorem dX0_same_1 : decode cX0_same 1 = .ok (.invokestatic 47, 3) := by decide +kernel
theorem dX0_same_4 : decode cX0_same 4 = .ok (.iload_n 2, 1) := by decide +kernel
theorem dX0_same_5 : decode cX0_same 5 = .ok (.invokestatic 47, 3) := by decide +kernel
theorem dX0_same_8 : decode cX0_same 8 = .ok (.aload_n 0, 1) := by decide +kernel
theorem dX0_same_9 : decode cX0_same 9 = .ok (.iload_n 1, 1) := by decide +kernel
theorem dX0_same_10 : decode cX0_same 10 = .ok (.invokevirtual 119, 3) := by decide +kernel
theorem dX0_same_13 : decode cX0_same 13 = .ok (.aload_n 0, 1) := by decide +kernel
theorem dX0_same_14 : decode cX0_same 14 = .ok (.iload_n 2, 1) := by decide +kernel
theorem dX0_same_15 : decode cX0_same 15 = .ok (.invokevirtual 119, 3) := by decide +kernel
theorem dX0_same_18 : decode cX0_same 18 = .ok (.lcmp, 1) := by decide +kernel
theorem dX0_same_19 : decode cX0_same 19 = .ok (.ifCond .ne 7, 3) := by decide +kernel
theorem dX0_same_22 : decode cX0_same 22 = .ok (.iconst 1, 1) := by decide +kernel
theorem dX0_same_23 : decode cX0_same 23 = .ok (.goto 4, 3) := by decide +kernel
theorem dX0_same_26 : decode cX0_same 26 = .ok (.iconst 0, 1) := by decide +kernel
theorem dX0_same_27 : decode cX0_same 27 = .ok (.ireturn, 1) := by decide +kernel
set_option maxRecDepth 20000 in
theorem ggX0_mixed_X0_checkWord : GoodIn wsX0_mixed wsX0_checkWord := goodIn_ca (goodIn_r _ [4, 5, 6] (by decide +kernel) (by decide +kernel)) (goodIn_sub (fun _ h => List.mem_cons_of_mem _ (List.mem_append_right _ h)) (by decide +kernel))
set_option maxRecDepth 20000 in
theorem gX0_mixed_X0_checkWord : GoodIn wsX0_mixed (va_wsS RX0 47 yX0_checkWord wsX0_checkWord) := goodIn_app (goodIn_of _ (by decide +kernel)) ggX0_mixed_X0_checkWord
set_option maxRecDepth 20000 in
theorem ggX0_mixed_X0_deedOf : GoodIn wsX0_mixed wsX0_deedOf := goodIn_r _ [10, 11, 12, 13, 14, 3, 15, 16, 17, 18, 19, 20, 21, 22, 23, 24, 25, 26, 27, 28, 29, 30, 31, 32, 33, 34, 35, 36, 37, 38, 39, 40, 41, 42, 43, 44, 45, 46, 47, 48, 49, 69, 70, 71, 72] (by decide +kernel) (by decide +kernel)
set_option maxRecDepth 20000 in
theorem gX0_mixed_X0_deedOf : GoodIn wsX0_mixed (wsV RX0 119 RX0 yX0_deedOf wsX0_deedOf) := goodIn_app (goodIn_of _ (by decide +kernel)) ggX0_mixed_X0_deedOf
set_option maxRecDepth 20000 in
theorem ggX0_mixed_X0_behindWord : GoodIn wsX0_mixed wsX0_behindWord := goodIn_r _ [15, 16, 17, 18, 19, 3, 20, 21, 22, 23, 24, 25, 26, 27, 28, 29, 30, 31, 32, 33, 34, 35, 36, 37, 38, 39, 40, 41, 42, 43, 44, 45, 46, 47, 48, 49, 69, 70, 71, 72] (by decide +kernel) (by decide +kernel)
set_option maxRecDepth 20000 in
theorem gX0_mixed_X0_behindWord : GoodIn wsX0_mixed (wsV RX0 62 RX0 yX0_behindWord wsX0_behindWord) := goodIn_app (goodIn_of _ (by decide +kernel)) ggX0_mixed_X0_behindWord
set_option maxRecDepth 20000 in
theorem ggX0_mixed_X0_behindWordRound : GoodIn wsX0_mixed wsX0_behindWordRound := goodIn_r _ [53, 16, 17, 54, 55, 3, 56, 24, 25, 26, 21, 22, 23, 57, 58, 59, 18, 19, 20, 27, 28, 29, 30, 31, 32, 33, 34, 35, 36, 37, 38, 39, 40, 41, 42, 43, 44, 45, 46, 47, 48, 49, 69, 70, 71, 72] (by decide +kernel) (by decide +kernel)
set_option maxRecDepth 20000 in
theorem gX0_mixed_X0_behindWordRound : GoodIn wsX0_mixed (wsV RX0 125 RX0 yX0_behindWordRound wsX0_behindWordRound) := goodIn_app (goodIn_of _ (by decide +kernel)) ggX0_mixed_X0_behindWordRound
set_option maxRecDepth 20000 in
theorem ggX0_mixed_X0_wrongCorners : GoodIn wsX0_mixed wsX0_wrongCorners := goodIn_r _ [62, 63, 64, 3, 65, 66, 67, 68, 39, 40, 41, 42, 43, 44] (by decide +kernel) (by decide +kernel)
set_option maxRecDepth 20000 in
theorem gX0_mixed_X0_wrongCorners : GoodIn wsX0_mixed (va_wsS RX0 65 yX0_wrongCorners wsX0_wrongCorners) := goodIn_app (goodIn_of _ (by decide +kernel)) ggX0_mixed_X0_wrongCorners
theorem dX0_mixed_0 : decode cX0_mixed 0 = .ok (.iload_n 1, 1) := by decide +kernel
theorem dX0_mixed_1 : decode cX0_mixed 1 = .ok (.invokestatic 47, 3) := by decide +kernel
theorem dX0_mixed_4 : decode cX0_mixed 4 = .ok (.iload_n 2, 1) := by decide +kernel
theorem dX0_mixed_5 : decode cX0_mixed 5 = .ok (.invokestatic 47, 3) := by decide +kernel
theorem dX0_mixed_8 : decode cX0_mixed 8 = .ok (.aload_n 0, 1) := by decide +kernel
theorem dX0_mixed_9 : decode cX0_mixed 9 = .ok (.aload_n 0, 1) := by decide +kernel
theorem dX0_mixed_10 : decode cX0_mixed 10 = .ok (.iload_n 1, 1) := by decide +kernel
theorem dX0_mixed_11 : decode cX0_mixed 11 = .ok (.invokevirtual 119, 3) := by decide +kernel
theorem dX0_mixed_14 : decode cX0_mixed 14 = .ok (.iload_n 2, 1) := by decide +kernel
theorem dX0_mixed_15 : decode cX0_mixed 15 = .ok (.invokevirtual 62, 3) := by decide +kernel
theorem dX0_mixed_18 : decode cX0_mixed 18 = .ok (.lstore_n 3, 1) := by decide +kernel
theorem dX0_mixed_19 : decode cX0_mixed 19 = .ok (.aload_n 0, 1) := by decide +kernel
theorem dX0_mixed_20 : decode cX0_mixed 20 = .ok (.aload_n 0, 1) := by decide +kernel
theorem dX0_mixed_21 : decode cX0_mixed 21 = .ok (.lload_n 3, 1) := by decide +kernel
theorem dX0_mixed_22 : decode cX0_mixed 22 = .ok (.iload_n 1, 1) := by decide +kernel
theorem dX0_mixed_23 : decode cX0_mixed 23 = .ok (.invokevirtual 125, 3) := by decide +kernel
theorem dX0_mixed_26 : decode cX0_mixed 26 = .ok (.iload_n 2, 1) := by decide +kernel
theorem dX0_mixed_27 : decode cX0_mixed 27 = .ok (.invokevirtual 125, 3) := by decide +kernel
theorem dX0_mixed_30 : decode cX0_mixed 30 = .ok (.invokestatic 65, 3) := by decide +kernel
theorem dX0_mixed_33 : decode cX0_mixed 33 = .ok (.ireturn, 1) := by decide +kernel
set_option maxRecDepth 20000 in
theorem ggX0_would_X0_checkFace : GoodIn wsX0_would wsX0_checkFace := goodIn_ca (goodIn_r _ [5, 6, 7] (by decide +kernel) (by decide +kernel)) (goodIn_sub (fun _ h => List.mem_cons_of_mem _ (List.mem_append_left _ (List.mem_append_right _ h))) (by decide +kernel))
set_option maxRecDepth 20000 in
theorem gX0_would_X0_checkFace : GoodIn wsX0_would (va_wsS RX0 28 yX0_checkFace wsX0_checkFace) := goodIn_app (goodIn_of _ (by decide +kernel)) ggX0_would_X0_checkFace
set_option maxRecDepth 20000 in
theorem ggX0_would_X0_checkQuarters : GoodIn wsX0_would wsX0_checkQuarters := goodIn_ca (goodIn_r _ [10, 11, 12] (by decide +kernel) (by decide +kernel)) (goodIn_sub (fun _ h => List.mem_cons_of_mem _ (List.mem_append_right _ h)) (by decide +kernel))
set_option maxRecDepth 20000 in
theorem gX0_would_X0_checkQuarters : GoodIn wsX0_would (va_wsS RX0 32 yX0_checkQuarters wsX0_checkQuarters) := goodIn_app (goodIn_of _ (by decide +kernel)) ggX0_would_X0_checkQuarters
set_option maxRecDepth 20000 in
theorem ggX0_would_X0_turnNumber : GoodIn wsX0_would wsX0_turnNumber := goodIn_r _ [15] (by decide +kernel) (by decide +kernel)
set_option maxRecDepth 20000 in
theorem gX0_would_X0_turnNumber : GoodIn wsX0_would (va_wsS RX0 35 yX0_turnNumber wsX0_turnNumber) := goodIn_app (goodIn_of _ (by decide +kernel)) ggX0_would_X0_turnNumber
set_option maxRecDepth 20000 in
theorem ggX0_would_X0_turned : GoodIn wsX0_would wsX0_turned := goodIn_r _ [18, 19, 20, 4, 21, 22, 23, 24, 25, 26, 27, 28, 29, 30, 31, 32, 33, 34, 35, 36, 37, 38, 39, 40, 41, 42, 43, 44, 45, 46, 47] (by decide +kernel) (by decide +kernel)
set_option maxRecDepth 20000 in
theorem gX0_would_X0_turned : GoodIn wsX0_would (va_wsS RX0 39 yX0_turned wsX0_turned) := goodIn_app (goodIn_of _ (by decide +kernel)) ggX0_would_X0_turned
set_option maxRecDepth 20000 in
theorem ggX0_would_X0_rightCorners : GoodIn wsX0_would wsX0_rightCorners := goodIn_r _ [50, 51, 52, 4, 53, 37, 38, 39, 40, 41, 42] (by decide +kernel) (by decide +kernel)
set_option maxRecDepth 20000 in
theorem gX0_would_X0_rightCorners : GoodIn wsX0_would (va_wsS RX0 43 yX0_rightCorners wsX0_rightCorners) := goodIn_app (goodIn_of _ (by decide +kernel)) ggX0_would_X0_rightCorners
theorem dX0_would_0 : decode cX0_would 0 = .ok (.iload_n 1, 1) := by decide +kernel
theorem dX0_would_1 : decode cX0_would 1 = .ok (.invokestatic 28, 3) := by decide +kernel
theorem dX0_would_4 : decode cX0_would 4 = .ok (.iload_n 2, 1) := by decide +kernel
theorem dX0_would_5 : decode cX0_would 5 = .ok (.invokestatic 32, 3) := by decide +kernel
theorem dX0_would_8 : decode cX0_would 8 = .ok (.aload_n 0, 1) := by decide +kernel
theorem dX0_would_9 : decode cX0_would 9 = .ok (.getfield 11, 3) := by decide +kernel
theorem dX0_would_12 : decode cX0_would 12 = .ok (.iload_n 1, 1) := by decide +kernel
theorem dX0_would_13 : decode cX0_would 13 = .ok (.iload_n 2, 1) := by decide +kernel
theorem dX0_would_14 : decode cX0_would 14 = .ok (.invokestatic 35, 3) := by decide +kernel
theorem dX0_would_17 : decode cX0_would 17 = .ok (.invokestatic 39, 3) := by decide +kernel
theorem dX0_would_20 : decode cX0_would 20 = .ok (.invokestatic 43, 3) := by decide +kernel
theorem dX0_would_23 : decode cX0_would 23 = .ok (.ireturn, 1) := by decide +kernel
set_option maxRecDepth 20000 in
theorem ggX0_far_X0_checkMost : GoodIn wsX0_far wsX0_checkMost := goodIn_ca (goodIn_r _ [5, 6, 7] (by decide +kernel) (by decide +kernel)) (goodIn_sub (fun _ h => List.mem_cons_of_mem _ (List.mem_append_right _ h)) (by decide +kernel))
set_option maxRecDepth 20000 in
theorem gX0_far_X0_checkMost : GoodIn wsX0_far (va_wsS RX0 128 yX0_checkMost wsX0_checkMost) := goodIn_app (goodIn_of _ (by decide +kernel)) ggX0_far_X0_checkMost
set_option maxRecDepth 20000 in
theorem ggX0_far_X0_fewestTurns : GoodIn wsX0_far wsX0_fewestTurns := goodIn_r _ [10, 11, 12, 4, 13, 14, 15, 16, 17, 18, 19, 20, 21, 22, 23, 24, 25, 26, 27, 28, 29, 30, 31, 32, 33, 34, 35, 36, 37, 38, 39, 40, 41, 42, 43, 44, 45, 46, 47, 48, 49, 50, 51, 52] (by decide +kernel) (by decide +kernel)
set_option maxRecDepth 20000 in
theorem gX0_far_X0_fewestTurns : GoodIn wsX0_far (va_wsS RX0 131 yX0_fewestTurns wsX0_fewestTurns) := goodIn_app (goodIn_of _ (by decide +kernel)) ggX0_far_X0_fewestTurns
theorem dX0_far_0 : decode cX0_far 0 = .ok (.iload_n 1, 1) := by decide +kernel
theorem dX0_far_1 : decode cX0_far 1 = .ok (.invokestatic 128, 3) := by decide +kernel
theorem dX0_far_4 : decode cX0_far 4 = .ok (.aload_n 0, 1) := by decide +kernel
theorem dX0_far_5 : decode cX0_far 5 = .ok (.getfield 11, 3) := by decide +kernel
theorem dX0_far_8 : decode cX0_far 8 = .ok (.iload_n 1, 1) := by decide +kernel
theorem dX0_far_9 : decode cX0_far 9 = .ok (.invokestatic 131, 3) := by decide +kernel
theorem dX0_far_12 : decode cX0_far 12 = .ok (.ireturn, 1) := by decide +kernel
set_option maxRecDepth 20000 in
theorem ggX0_first_X0_checkMost : GoodIn wsX0_first wsX0_checkMost := goodIn_ca (goodIn_r _ [5, 6, 7] (by decide +kernel) (by decide +kernel)) (goodIn_sub (fun _ h => List.mem_cons_of_mem _ (List.mem_append_right _ h)) (by decide +kernel))
set_option maxRecDepth 20000 in
theorem gX0_first_X0_checkMost : GoodIn wsX0_first (va_wsS RX0 128 yX0_checkMost wsX0_checkMost) := goodIn_app (goodIn_of _ (by decide +kernel)) ggX0_first_X0_checkMost
set_option maxRecDepth 20000 in
theorem ggX0_first_X0_fewestTurns : GoodIn wsX0_first wsX0_fewestTurns := goodIn_r _ [10, 11, 12, 4, 13, 14, 15, 16, 17, 18, 19, 20, 21, 22, 23, 24, 25, 26, 27, 28, 29, 30, 31, 32, 33, 34, 35, 36, 37, 38, 39, 40, 41, 42, 43, 44, 45, 46, 47, 48, 49, 50, 51, 52] (by decide +kernel) (by decide +kernel)
set_option maxRecDepth 20000 in
theorem gX0_first_X0_fewestTurns : GoodIn wsX0_first (va_wsS RX0 131 yX0_fewestTurns wsX0_fewestTurns) := goodIn_app (goodIn_of _ (by decide +kernel)) ggX0_first_X0_fewestTurns
set_option maxRecDepth 20000 in
theorem ggX0_first_X0_turned : GoodIn wsX0_first wsX0_turned := goodIn_r _ [55, 56, 57, 4, 58, 59, 60, 61, 36, 37, 38, 39, 40, 41, 42, 43, 44, 45, 46, 47, 24, 25, 26, 27, 28, 29, 48, 49, 50, 51, 52] (by decide +kernel) (by decide +kernel)
set_option maxRecDepth 20000 in
theorem gX0_first_X0_turned : GoodIn wsX0_first (va_wsS RX0 39 yX0_turned wsX0_turned) := goodIn_app (goodIn_of _ (by decide +kernel)) ggX0_first_X0_turned
set_option maxRecDepth 20000 in
theorem ggX0_first_X0_faceOf : GoodIn wsX0_first wsX0_faceOf := goodIn_r _ [61] (by decide +kernel) (by decide +kernel)
set_option maxRecDepth 20000 in
theorem gX0_first_X0_faceOf : GoodIn wsX0_first (va_wsS RX0 134 yX0_faceOf wsX0_faceOf) := goodIn_app (goodIn_of _ (by decide +kernel)) ggX0_first_X0_faceOf
set_option maxRecDepth 20000 in
theorem ggX0_first_X0_isRightWithin : GoodIn wsX0_first wsX0_isRightWithin := goodIn_r _ [13, 14, 15, 16, 4, 17, 18, 19, 20, 21, 22, 23, 24, 25, 26, 27, 28, 29, 30, 31, 32, 33, 34, 35, 36, 37, 38, 39, 40, 41, 42, 43, 44, 45, 46, 47, 48, 49, 50, 51, 52, 11, 12] (by decide +kernel) (by decide +kernel)
set_option maxRecDepth 20000 in
theorem gX0_first_X0_isRightWithin : GoodIn wsX0_first (va_wsS RX0 137 yX0_isRightWithin wsX0_isRightWithin) := goodIn_app (goodIn_of _ (by decide +kernel)) ggX0_first_X0_isRightWithin
theorem dX0_first_0 : decode cX0_first 0 = .ok (.iload_n 1, 1) := by decide +kernel
theorem dX0_first_1 : decode cX0_first 1 = .ok (.invokestatic 128, 3) := by decide +kernel
theorem dX0_first_4 : decode cX0_first 4 = .ok (.aload_n 0, 1) := by decide +kernel
theorem dX0_first_5 : decode cX0_first 5 = .ok (.getfield 11, 3) := by decide +kernel
theorem dX0_first_8 : decode cX0_first 8 = .ok (.iload_n 1, 1) := by decide +kernel
theorem dX0_first_9 : decode cX0_first 9 = .ok (.invokestatic 131, 3) := by decide +kernel
theorem dX0_first_12 : decode cX0_first 12 = .ok (.istore_n 2, 1) := by decide +kernel
theorem dX0_first_13 : decode cX0_first 13 = .ok (.iconst 0, 1) := by decide +kernel
theorem dX0_first_14 : decode cX0_first 14 = .ok (.istore_n 3, 1) := by decide +kernel
theorem dX0_first_15 : decode cX0_first 15 = .ok (.iload_n 2, 1) := by decide +kernel
theorem dX0_first_16 : decode cX0_first 16 = .ok (.ifCond .le 38, 3) := by decide +kernel
theorem dX0_first_19 : decode cX0_first 19 = .ok (.iload_n 3, 1) := by decide +kernel
theorem dX0_first_20 : decode cX0_first 20 = .ok (.bipush 9, 2) := by decide +kernel
theorem dX0_first_22 : decode cX0_first 22 = .ok (.if_icmp .ge 32, 3) := by decide +kernel
theorem dX0_first_25 : decode cX0_first 25 = .ok (.aload_n 0, 1) := by decide +kernel
theorem dX0_first_26 : decode cX0_first 26 = .ok (.getfield 11, 3) := by decide +kernel
theorem dX0_first_29 : decode cX0_first 29 = .ok (.iload_n 3, 1) := by decide +kernel
theorem dX0_first_30 : decode cX0_first 30 = .ok (.invokestatic 39, 3) := by decide +kernel
theorem dX0_first_33 : decode cX0_first 33 = .ok (.iload_n 2, 1) := by decide +kernel
theorem dX0_first_34 : decode cX0_first 34 = .ok (.iconst 1, 1) := by decide +kernel
theorem dX0_first_35 : decode cX0_first 35 = .ok (.isub, 1) := by decide +kernel
theorem dX0_first_36 : decode cX0_first 36 = .ok (.iload_n 3, 1) := by decide +kernel
theorem dX0_first_37 : decode cX0_first 37 = .ok (.invokestatic 134, 3) := by decide +kernel
theorem dX0_first_40 : decode cX0_first 40 = .ok (.invokestatic 137, 3) := by decide +kernel
theorem dX0_first_43 : decode cX0_first 43 = .ok (.ifCond .eq 5, 3) := by decide +kernel
theorem dX0_first_46 : decode cX0_first 46 = .ok (.iload_n 3, 1) := by decide +kernel
theorem dX0_first_47 : decode cX0_first 47 = .ok (.ireturn, 1) := by decide +kernel
theorem dX0_first_48 : decode cX0_first 48 = .ok (.iinc 3 1, 3) := by decide +kernel
theorem dX0_first_51 : decode cX0_first 51 = .ok (.goto (-36), 3) := by decide +kernel
theorem dX0_first_54 : decode cX0_first 54 = .ok (.iconst (-1), 1) := by decide +kernel
theorem dX0_first_55 : decode cX0_first 55 = .ok (.ireturn, 1) := by decide +kernel
set_option maxRecDepth 20000 in
theorem ggX0_shortest_X0_checkWord : GoodIn wsX0_shortest wsX0_checkWord := goodIn_ca (goodIn_r _ [4, 5, 6] (by decide +kernel) (by decide +kernel)) (goodIn_sub (fun _ h => List.mem_cons_of_mem _ (List.mem_append_left _ (List.mem_append_right _ h))) (by decide +kernel))
set_option maxRecDepth 20000 in
theorem gX0_shortest_X0_checkWord : GoodIn wsX0_shortest (va_wsS RX0 47 yX0_checkWord wsX0_checkWord) := goodIn_app (goodIn_of _ (by decide +kernel)) ggX0_shortest_X0_checkWord
set_option maxRecDepth 20000 in
theorem ggX0_shortest_X0_checkMost : GoodIn wsX0_shortest wsX0_checkMost := goodIn_ca (goodIn_r _ [9, 10, 11] (by decide +kernel) (by decide +kernel)) (goodIn_sub (fun _ h => List.mem_cons_of_mem _ (List.mem_append_right _ h)) (by decide +kernel))
set_option maxRecDepth 20000 in
theorem gX0_shortest_X0_checkMost : GoodIn wsX0_shortest (va_wsS RX0 128 yX0_checkMost wsX0_checkMost) := goodIn_app (goodIn_of _ (by decide +kernel)) ggX0_shortest_X0_checkMost
set_option maxRecDepth 20000 in
theorem ggX0_shortest_X0_deedOf : GoodIn wsX0_shortest wsX0_deedOf := goodIn_r _ [15, 16, 17, 18, 19, 3, 20, 21, 22, 23, 24, 25, 26, 27, 28, 29, 30, 31, 32, 33, 34, 35, 36, 37, 38, 39, 40, 41, 42, 43, 44, 45, 46, 47, 48, 49, 50, 51, 52, 53, 54, 76, 77, 78, 79] (by decide +kernel) (by decide +kernel)
set_option maxRecDepth 20000 in
theorem gX0_shortest_X0_deedOf : GoodIn wsX0_shortest (wsV RX0 119 RX0 yX0_deedOf wsX0_deedOf) := goodIn_app (goodIn_of _ (by decide +kernel)) ggX0_shortest_X0_deedOf
set_option maxRecDepth 20000 in
theorem ggX0_shortest_X0_fewestTurns : GoodIn wsX0_shortest wsX0_fewestTurns := goodIn_r _ [57, 58, 59, 3, 60, 16, 61, 62, 63, 64, 65, 66, 67, 68, 69, 44, 45, 46, 47, 48, 49, 70, 71, 72, 73, 74, 75, 32, 33, 34, 35, 36, 37, 38, 39, 40, 41, 42, 43, 50, 51, 52, 53, 54] (by decide +kernel) (by decide +kernel)
set_option maxRecDepth 20000 in
theorem gX0_shortest_X0_fewestTurns : GoodIn wsX0_shortest (va_wsS RX0 131 yX0_fewestTurns wsX0_fewestTurns) := goodIn_app (goodIn_of _ (by decide +kernel)) ggX0_shortest_X0_fewestTurns
theorem dX0_shortest_0 : decode cX0_shortest 0 = .ok (.iload_n 1, 1) := by decide +kernel
theorem dX0_shortest_1 : decode cX0_shortest 1 = .ok (.invokestatic 47, 3) := by decide +kernel
theorem dX0_shortest_4 : decode cX0_shortest 4 = .ok (.iload_n 2, 1) := by decide +kernel
theorem dX0_shortest_5 : decode cX0_shortest 5 = .ok (.invokestatic 128, 3) := by decide +kernel
theorem dX0_shortest_8 : decode cX0_shortest 8 = .ok (.aload_n 0, 1) := by decide +kernel
theorem dX0_shortest_9 : decode cX0_shortest 9 = .ok (.iload_n 1, 1) := by decide +kernel
theorem dX0_shortest_10 : decode cX0_shortest 10 = .ok (.invokevirtual 119, 3) := by decide +kernel
theorem dX0_shortest_13 : decode cX0_shortest 13 = .ok (.iload_n 2, 1) := by decide +kernel
theorem dX0_shortest_14 : decode cX0_shortest 14 = .ok (.invokestatic 131, 3) := by decide +kernel
theorem dX0_shortest_17 : decode cX0_shortest 17 = .ok (.ireturn, 1) := by decide +kernel
set_option maxRecDepth 20000 in
theorem ggX0_advise_X0_turned : GoodIn wsX0_advise wsX0_turned := goodIn_r _ [5, 6, 7, 4, 8, 9, 10, 11, 12, 13, 14, 15, 16, 17, 18, 19, 20, 21, 22, 23, 24, 25, 26, 27, 28, 29, 30, 31, 32, 33, 34] (by decide +kernel) (by decide +kernel)
set_option maxRecDepth 20000 in
theorem gX0_advise_X0_turned : GoodIn wsX0_advise (va_wsS RX0 39 yX0_turned wsX0_turned) := goodIn_app (goodIn_of _ (by decide +kernel)) ggX0_advise_X0_turned
set_option maxRecDepth 20000 in
theorem ggX0_advise_X0_rightCorners : GoodIn wsX0_advise wsX0_rightCorners := goodIn_r _ [37, 38, 39, 4, 40, 24, 25, 26, 27, 28, 29] (by decide +kernel) (by decide +kernel)
set_option maxRecDepth 20000 in
theorem gX0_advise_X0_rightCorners : GoodIn wsX0_advise (va_wsS RX0 43 yX0_rightCorners wsX0_rightCorners) := goodIn_app (goodIn_of _ (by decide +kernel)) ggX0_advise_X0_rightCorners
theorem dX0_advise_0 : decode cX0_advise 0 = .ok (.iconst 0, 1) := by decide +kernel
theorem dX0_advise_1 : decode cX0_advise 1 = .ok (.istore_n 1, 1) := by decide +kernel
theorem dX0_advise_2 : decode cX0_advise 2 = .ok (.iconst (-1), 1) := by decide +kernel
theorem dX0_advise_3 : decode cX0_advise 3 = .ok (.istore_n 2, 1) := by decide +kernel
theorem dX0_advise_4 : decode cX0_advise 4 = .ok (.iconst 0, 1) := by decide +kernel
theorem dX0_advise_5 : decode cX0_advise 5 = .ok (.istore_n 3, 1) := by decide +kernel
theorem dX0_advise_6 : decode cX0_advise 6 = .ok (.iload_n 3, 1) := by decide +kernel
theorem dX0_advise_7 : decode cX0_advise 7 = .ok (.bipush 9, 2) := by decide +kernel
theorem dX0_advise_9 : decode cX0_advise 9 = .ok (.if_icmp .ge 33, 3) := by decide +kernel
theorem dX0_advise_12 : decode cX0_advise 12 = .ok (.aload_n 0, 1) := by decide +kernel
theorem dX0_advise_13 : decode cX0_advise 13 = .ok (.getfield 11, 3) := by decide +kernel
theorem dX0_advise_16 : decode cX0_advise 16 = .ok (.iload_n 3, 1) := by decide +kernel
theorem dX0_advise_17 : decode cX0_advise 17 = .ok (.invokestatic 39, 3) := by decide +kernel
theorem dX0_advise_20 : decode cX0_advise 20 = .ok (.invokestatic 43, 3) := by decide +kernel
theorem dX0_advise_23 : decode cX0_advise 23 = .ok (.istore 4, 2) := by decide +kernel
theorem dX0_advise_25 : decode cX0_advise 25 = .ok (.iload 4, 2) := by decide +kernel
theorem dX0_advise_27 : decode cX0_advise 27 = .ok (.iload_n 2, 1) := by decide +kernel
theorem dX0_advise_28 : decode cX0_advise 28 = .ok (.if_icmp .le 8, 3) := by decide +kernel
theorem dX0_advise_31 : decode cX0_advise 31 = .ok (.iload_n 3, 1) := by decide +kernel
theorem dX0_advise_32 : decode cX0_advise 32 = .ok (.istore_n 1, 1) := by decide +kernel
theorem dX0_advise_33 : decode cX0_advise 33 = .ok (.iload 4, 2) := by decide +kernel
theorem dX0_advise_35 : decode cX0_advise 35 = .ok (.istore_n 2, 1) := by decide +kernel
theorem dX0_advise_36 : decode cX0_advise 36 = .ok (.iinc 3 1, 3) := by decide +kernel
theorem dX0_advise_39 : decode cX0_advise 39 = .ok (.goto (-33), 3) := by decide +kernel
theorem dX0_advise_42 : decode cX0_advise 42 = .ok (.iload_n 1, 1) := by decide +kernel
theorem dX0_advise_43 : decode cX0_advise 43 = .ok (.ireturn, 1) := by decide +kernel
set_option maxRecDepth 20000 in
theorem ggX0_digest_X0_count : GoodIn wsX0_digest wsX0_count := goodIn_ca (goodIn_r _ [9, 10, 11, 12, 13, 8, 14, 15, 16, 17, 18, 19, 20, 21, 22, 23, 24, 25, 26, 27, 28, 29, 30, 31, 32, 33, 34, 35, 36, 37, 38, 39, 40, 41, 42, 43, 44, 45, 46, 47, 48, 49, 50, 51, 52, 53, 3, 100, 101, 102, 103] (by decide +kernel) (by decide +kernel)) (goodIn_sub (fun _ h => List.mem_cons_of_mem _ (List.mem_append_right _ h)) (by decide +kernel))
set_option maxRecDepth 20000 in
theorem gX0_digest_X0_count : GoodIn wsX0_digest (wsV RX0 147 RX0 yX0_count wsX0_count) := goodIn_app (goodIn_of _ (by decide +kernel)) ggX0_digest_X0_count
set_option maxRecDepth 20000 in
theorem ggX0_digest_X0_told : GoodIn wsX0_digest wsX0_told := goodIn_ca (goodIn_r _ [57, 11, 58, 59, 8, 60, 15, 16, 12, 13, 14, 23, 24, 25, 26, 27, 28, 20, 21, 22, 100, 101, 102, 103] (by decide +kernel) (by decide +kernel)) (goodIn_sub (fun _ h => List.mem_cons_of_mem _ (List.mem_append_right _ h)) (by decide +kernel))
set_option maxRecDepth 20000 in
theorem gX0_digest_X0_told : GoodIn wsX0_digest (wsV RX0 150 RX0 yX0_told wsX0_told) := goodIn_app (goodIn_of _ (by decide +kernel)) ggX0_digest_X0_told
set_option maxRecDepth 20000 in
theorem ggX0_digest_X0_word : GoodIn wsX0_digest wsX0_word := goodIn_ca (goodIn_r _ [64, 3, 65, 66, 8, 67, 15, 16, 12, 13, 14, 68, 69, 70, 71, 41, 72, 73, 74, 75, 4, 76, 77, 78, 79, 80, 81, 82, 83, 84, 85, 86, 87, 88, 89, 90, 91, 92, 93, 94, 95, 96, 23, 24, 25, 26, 27, 28, 45, 46, 47, 48, 49, 38, 39, 40, 42, 43, 44, 97, 98, 99, 17, 18, 19, 20, 21, 22, 29, 30, 31, 100, 101, 102, 103] (by decide +kernel) (by decide +kernel)) (goodIn_sub (fun _ h => List.mem_cons_of_mem _ (List.mem_append_right _ h)) (by decide +kernel))
set_option maxRecDepth 20000 in
theorem gX0_digest_X0_word : GoodIn wsX0_digest (wsV RX0 153 RX0 yX0_word wsX0_word) := goodIn_app (goodIn_of _ (by decide +kernel)) ggX0_digest_X0_word
theorem dX0_digest_0 : decode cX0_digest 0 = .ok (.ldc2_w 143, 3) := by decide +kernel
theorem dX0_digest_3 : decode cX0_digest 3 = .ok (.lstore_n 1, 1) := by decide +kernel
theorem dX0_digest_4 : decode cX0_digest 4 = .ok (.iconst 0, 1) := by decide +kernel
theorem dX0_digest_5 : decode cX0_digest 5 = .ok (.istore_n 3, 1) := by decide +kernel
theorem dX0_digest_6 : decode cX0_digest 6 = .ok (.iload_n 3, 1) := by decide +kernel
theorem dX0_digest_7 : decode cX0_digest 7 = .ok (.bipush 7, 2) := by decide +kernel
theorem dX0_digest_9 : decode cX0_digest 9 = .ok (.if_icmp .ge 22, 3) := by decide +kernel
theorem dX0_digest_12 : decode cX0_digest 12 = .ok (.lload_n 1, 1) := by decide +kernel
theorem dX0_digest_13 : decode cX0_digest 13 = .ok (.ldc2_w 145, 3) := by decide +kernel
theorem dX0_digest_16 : decode cX0_digest 16 = .ok (.lmul, 1) := by decide +kernel
theorem dX0_digest_17 : decode cX0_digest 17 = .ok (.aload_n 0, 1) := by decide +kernel
theorem dX0_digest_18 : decode cX0_digest 18 = .ok (.iload_n 3, 1) := by decide +kernel
theorem dX0_digest_19 : decode cX0_digest 19 = .ok (.invokevirtual 147, 3) := by decide +kernel
theorem dX0_digest_22 : decode cX0_digest 22 = .ok (.i2l, 1) := by decide +kernel
theorem dX0_digest_23 : decode cX0_digest 23 = .ok (.ladd, 1) := by decide +kernel
theorem dX0_digest_24 : decode cX0_digest 24 = .ok (.lstore_n 1, 1) := by decide +kernel
theorem dX0_digest_25 : decode cX0_digest 25 = .ok (.iinc 3 1, 3) := by decide +kernel
theorem dX0_digest_28 : decode cX0_digest 28 = .ok (.goto (-22), 3) := by decide +kernel
theorem dX0_digest_31 : decode cX0_digest 31 = .ok (.iconst 0, 1) := by decide +kernel
theorem dX0_digest_32 : decode cX0_digest 32 = .ok (.istore_n 3, 1) := by decide +kernel
theorem dX0_digest_33 : decode cX0_digest 33 = .ok (.iload_n 3, 1) := by decide +kernel
theorem dX0_digest_34 : decode cX0_digest 34 = .ok (.bipush 8, 2) := by decide +kernel
theorem dX0_digest_36 : decode cX0_digest 36 = .ok (.if_icmp .ge 39, 3) := by decide +kernel
theorem dX0_digest_39 : decode cX0_digest 39 = .ok (.iconst 0, 1) := by decide +kernel
theorem dX0_digest_40 : decode cX0_digest 40 = .ok (.istore 4, 2) := by decide +kernel
theorem dX0_digest_42 : decode cX0_digest 42 = .ok (.iload 4, 2) := by decide +kernel
theorem dX0_digest_44 : decode cX0_digest 44 = .ok (.iconst 3, 1) := by decide +kernel
theorem dX0_digest_45 : decode cX0_digest 45 = .ok (.if_icmp .ge 24, 3) := by decide +kernel
theorem dX0_digest_48 : decode cX0_digest 48 = .ok (.lload_n 1, 1) := by decide +kernel
theorem dX0_digest_49 : decode cX0_digest 49 = .ok (.ldc2_w 145, 3) := by decide +kernel
theorem dX0_digest_52 : decode cX0_digest 52 = .ok (.lmul, 1) := by decide +kernel
theorem dX0_digest_53 : decode cX0_digest 53 = .ok (.aload_n 0, 1) := by decide +kernel
theorem dX0_digest_54 : decode cX0_digest 54 = .ok (.iload_n 3, 1) := by decide +kernel
theorem dX0_digest_55 : decode cX0_digest 55 = .ok (.iload 4, 2) := by decide +kernel
theorem dX0_digest_57 : decode cX0_digest 57 = .ok (.invokevirtual 150, 3) := by decide +kernel
theorem dX0_digest_60 : decode cX0_digest 60 = .ok (.i2l, 1) := by decide +kernel
theorem dX0_digest_61 : decode cX0_digest 61 = .ok (.ladd, 1) := by decide +kernel
theorem dX0_digest_62 : decode cX0_digest 62 = .ok (.lstore_n 1, 1) := by decide +kernel
theorem dX0_digest_63 : decode cX0_digest 63 = .ok (.iinc 4 1, 3) := by decide +kernel
theorem dX0_digest_66 : decode cX0_digest 66 = .ok (.goto (-24), 3) := by decide +kernel
theorem dX0_digest_69 : decode cX0_digest 69 = .ok (.iinc 3 1, 3) := by decide +kernel
theorem dX0_digest_72 : decode cX0_digest 72 = .ok (.goto (-39), 3) := by decide +kernel
theorem dX0_digest_75 : decode cX0_digest 75 = .ok (.iconst 0, 1) := by decide +kernel
theorem dX0_digest_76 : decode cX0_digest 76 = .ok (.istore_n 3, 1) := by decide +kernel
theorem dX0_digest_77 : decode cX0_digest 77 = .ok (.iload_n 3, 1) := by decide +kernel
theorem dX0_digest_78 : decode cX0_digest 78 = .ok (.iconst 5, 1) := by decide +kernel
theorem dX0_digest_79 : decode cX0_digest 79 = .ok (.if_icmp .ge 76, 3) := by decide +kernel
theorem dX0_digest_82 : decode cX0_digest 82 = .ok (.iconst 0, 1) := by decide +kernel
theorem dX0_digest_83 : decode cX0_digest 83 = .ok (.istore 4, 2) := by decide +kernel
theorem dX0_digest_85 : decode cX0_digest 85 = .ok (.iload 4, 2) := by decide +kernel
theorem dX0_digest_87 : decode cX0_digest 87 = .ok (.iconst 4, 1) := by decide +kernel
theorem dX0_digest_88 : decode cX0_digest 88 = .ok (.if_icmp .ge 24, 3) := by decide +kernel
theorem dX0_digest_91 : decode cX0_digest 91 = .ok (.lload_n 1, 1) := by decide +kernel
theorem dX0_digest_92 : decode cX0_digest 92 = .ok (.ldc2_w 145, 3) := by decide +kernel
theorem dX0_digest_95 : decode cX0_digest 95 = .ok (.lmul, 1) := by decide +kernel
theorem dX0_digest_96 : decode cX0_digest 96 = .ok (.aload_n 0, 1) := by decide +kernel
theorem dX0_digest_97 : decode cX0_digest 97 = .ok (.iload_n 3, 1) := by decide +kernel
theorem dX0_digest_98 : decode cX0_digest 98 = .ok (.iload 4, 2) := by decide +kernel
theorem dX0_digest_100 : decode cX0_digest 100 = .ok (.invokevirtual 153, 3) := by decide +kernel
theorem dX0_digest_103 : decode cX0_digest 103 = .ok (.i2l, 1) := by decide +kernel
theorem dX0_digest_104 : decode cX0_digest 104 = .ok (.ladd, 1) := by decide +kernel
theorem dX0_digest_105 : decode cX0_digest 105 = .ok (.lstore_n 1, 1) := by decide +kernel
theorem dX0_digest_106 : decode cX0_digest 106 = .ok (.iinc 4 1, 3) := by decide +kernel
theorem dX0_digest_109 : decode cX0_digest 109 = .ok (.goto (-24), 3) := by decide +kernel
theorem dX0_digest_112 : decode cX0_digest 112 = .ok (.iconst 0, 1) := by decide +kernel
theorem dX0_digest_113 : decode cX0_digest 113 = .ok (.istore 4, 2) := by decide +kernel
theorem dX0_digest_115 : decode cX0_digest 115 = .ok (.iload 4, 2) := by decide +kernel
theorem dX0_digest_117 : decode cX0_digest 117 = .ok (.aload_n 0, 1) := by decide +kernel
theorem dX0_digest_118 : decode cX0_digest 118 = .ok (.getfield 24, 3) := by decide +kernel
theorem dX0_digest_121 : decode cX0_digest 121 = .ok (.iload_n 3, 1) := by decide +kernel
theorem dX0_digest_122 : decode cX0_digest 122 = .ok (.iaload, 1) := by decide +kernel
theorem dX0_digest_123 : decode cX0_digest 123 = .ok (.if_icmp .ge 26, 3) := by decide +kernel
theorem dX0_digest_126 : decode cX0_digest 126 = .ok (.lload_n 1, 1) := by decide +kernel
theorem dX0_digest_127 : decode cX0_digest 127 = .ok (.ldc2_w 145, 3) := by decide +kernel
theorem dX0_digest_130 : decode cX0_digest 130 = .ok (.lmul, 1) := by decide +kernel
theorem dX0_digest_131 : decode cX0_digest 131 = .ok (.aload_n 0, 1) := by decide +kernel
theorem dX0_digest_132 : decode cX0_digest 132 = .ok (.getfield 21, 3) := by decide +kernel
theorem dX0_digest_135 : decode cX0_digest 135 = .ok (.iload_n 3, 1) := by decide +kernel
theorem dX0_digest_136 : decode cX0_digest 136 = .ok (.aaload, 1) := by decide +kernel
theorem dX0_digest_137 : decode cX0_digest 137 = .ok (.iload 4, 2) := by decide +kernel
theorem dX0_digest_139 : decode cX0_digest 139 = .ok (.iaload, 1) := by decide +kernel
theorem dX0_digest_140 : decode cX0_digest 140 = .ok (.i2l, 1) := by decide +kernel
theorem dX0_digest_141 : decode cX0_digest 141 = .ok (.ladd, 1) := by decide +kernel
theorem dX0_digest_142 : decode cX0_digest 142 = .ok (.lstore_n 1, 1) := by decide +kernel
theorem dX0_digest_143 : decode cX0_digest 143 = .ok (.iinc 4 1, 3) := by decide +kernel
theorem dX0_digest_146 : decode cX0_digest 146 = .ok (.goto (-31), 3) := by decide +kernel
theorem dX0_digest_149 : decode cX0_digest 149 = .ok (.iinc 3 1, 3) := by decide +kernel
theorem dX0_digest_152 : decode cX0_digest 152 = .ok (.goto (-75), 3) := by decide +kernel
theorem dX0_digest_155 : decode cX0_digest 155 = .ok (.lload_n 1, 1) := by decide +kernel
theorem dX0_digest_156 : decode cX0_digest 156 = .ok (.lreturn, 1) := by decide +kernel
theorem dX0_checkFace_0 : decode cX0_checkFace 0 = .ok (.iload_n 0, 1) := by decide +kernel
theorem dX0_checkFace_1 : decode cX0_checkFace 1 = .ok (.ifCond .lt 8, 3) := by decide +kernel
theorem dX0_checkFace_4 : decode cX0_checkFace 4 = .ok (.iload_n 0, 1) := by decide +kernel
theorem dX0_checkFace_5 : decode cX0_checkFace 5 = .ok (.iconst 3, 1) := by decide +kernel
theorem dX0_checkFace_6 : decode cX0_checkFace 6 = .ok (.if_icmp .lt 13, 3) := by decide +kernel
theorem dX0_checkFace_9 : decode cX0_checkFace 9 = .ok (.new 98, 3) := by decide +kernel
theorem dX0_checkFace_12 : decode cX0_checkFace 12 = .ok (.dup, 1) := by decide +kernel
theorem dX0_checkFace_13 : decode cX0_checkFace 13 = .ok (.ldc 156, 2) := by decide +kernel
theorem dX0_checkFace_15 : decode cX0_checkFace 15 = .ok (.invokespecial 102, 3) := by decide +kernel
theorem dX0_checkFace_18 : decode cX0_checkFace 18 = .ok (.athrow, 1) := by decide +kernel
theorem dX0_checkFace_19 : decode cX0_checkFace 19 = .ok (.return_, 1) := by decide +kernel
theorem dX0_checkQuarters_0 : decode cX0_checkQuarters 0 = .ok (.iload_n 0, 1) := by decide +kernel
theorem dX0_checkQuarters_1 : decode cX0_checkQuarters 1 = .ok (.iconst 1, 1) := by decide +kernel
theorem dX0_checkQuarters_2 : decode cX0_checkQuarters 2 = .ok (.if_icmp .lt 8, 3) := by decide +kernel
theorem dX0_checkQuarters_5 : decode cX0_checkQuarters 5 = .ok (.iload_n 0, 1) := by decide +kernel
theorem dX0_checkQuarters_6 : decode cX0_checkQuarters 6 = .ok (.iconst 4, 1) := by decide +kernel
theorem dX0_checkQuarters_7 : decode cX0_checkQuarters 7 = .ok (.if_icmp .lt 13, 3) := by decide +kernel
theorem dX0_checkQuarters_10 : decode cX0_checkQuarters 10 = .ok (.new 50, 3) := by decide +kernel
theorem dX0_checkQuarters_13 : decode cX0_checkQuarters 13 = .ok (.dup, 1) := by decide +kernel
theorem dX0_checkQuarters_14 : decode cX0_checkQuarters 14 = .ok (.ldc 158, 2) := by decide +kernel
theorem dX0_checkQuarters_16 : decode cX0_checkQuarters 16 = .ok (.invokespecial 54, 3) := by decide +kernel
theorem dX0_checkQuarters_19 : decode cX0_checkQuarters 19 = .ok (.athrow, 1) := by decide +kernel
theorem dX0_checkQuarters_20 : decode cX0_checkQuarters 20 = .ok (.return_, 1) := by decide +kernel
theorem dX0_checkWord_0 : decode cX0_checkWord 0 = .ok (.iload_n 0, 1) := by decide +kernel
theorem dX0_checkWord_1 : decode cX0_checkWord 1 = .ok (.ifCond .lt 8, 3) := by decide +kernel
theorem dX0_checkWord_4 : decode cX0_checkWord 4 = .ok (.iload_n 0, 1) := by decide +kernel
theorem dX0_checkWord_5 : decode cX0_checkWord 5 = .ok (.iconst 5, 1) := by decide +kernel
theorem dX0_checkWord_6 : decode cX0_checkWord 6 = .ok (.if_icmp .lt 13, 3) := by decide +kernel
theorem dX0_checkWord_9 : decode cX0_checkWord 9 = .ok (.new 98, 3) := by decide +kernel
theorem dX0_checkWord_12 : decode cX0_checkWord 12 = .ok (.dup, 1) := by decide +kernel
theorem dX0_checkWord_13 : decode cX0_checkWord 13 = .ok (.ldc 160, 2) := by decide +kernel
theorem dX0_checkWord_15 : decode cX0_checkWord 15 = .ok (.invokespecial 102, 3) := by decide +kernel
theorem dX0_checkWord_18 : decode cX0_checkWord 18 = .ok (.athrow, 1) := by decide +kernel
theorem dX0_checkWord_19 : decode cX0_checkWord 19 = .ok (.return_, 1) := by decide +kernel
theorem dX0_checkPlace_0 : decode cX0_checkPlace 0 = .ok (.iload_n 0, 1) := by decide +kernel
theorem dX0_checkPlace_1 : decode cX0_checkPlace 1 = .ok (.ifCond .lt 9, 3) := by decide +kernel
theorem dX0_checkPlace_4 : decode cX0_checkPlace 4 = .ok (.iload_n 0, 1) := by decide +kernel
theorem dX0_checkPlace_5 : decode cX0_checkPlace 5 = .ok (.bipush 8, 2) := by decide +kernel
theorem dX0_checkPlace_7 : decode cX0_checkPlace 7 = .ok (.if_icmp .lt 13, 3) := by decide +kernel
theorem dX0_checkPlace_10 : decode cX0_checkPlace 10 = .ok (.new 98, 3) := by decide +kernel
theorem dX0_checkPlace_13 : decode cX0_checkPlace 13 = .ok (.dup, 1) := by decide +kernel
theorem dX0_checkPlace_14 : decode cX0_checkPlace 14 = .ok (.ldc 162, 2) := by decide +kernel
theorem dX0_checkPlace_16 : decode cX0_checkPlace 16 = .ok (.invokespecial 102, 3) := by decide +kernel
theorem dX0_checkPlace_19 : decode cX0_checkPlace 19 = .ok (.athrow, 1) := by decide +kernel
theorem dX0_checkPlace_20 : decode cX0_checkPlace 20 = .ok (.return_, 1) := by decide +kernel
theorem dX0_checkWhat_0 : decode cX0_checkWhat 0 = .ok (.iload_n 0, 1) := by decide +kernel
theorem dX0_checkWhat_1 : decode cX0_checkWhat 1 = .ok (.ifCond .lt 8, 3) := by decide +kernel
theorem dX0_checkWhat_4 : decode cX0_checkWhat 4 = .ok (.iload_n 0, 1) := by decide +kernel
theorem dX0_checkWhat_5 : decode cX0_checkWhat 5 = .ok (.iload_n 1, 1) := by decide +kernel
theorem dX0_checkWhat_6 : decode cX0_checkWhat 6 = .ok (.if_icmp .lt 13, 3) := by decide +kernel
theorem dX0_checkWhat_9 : decode cX0_checkWhat 9 = .ok (.new 98, 3) := by decide +kernel
theorem dX0_checkWhat_12 : decode cX0_checkWhat 12 = .ok (.dup, 1) := by decide +kernel
theorem dX0_checkWhat_13 : decode cX0_checkWhat 13 = .ok (.ldc 164, 2) := by decide +kernel
theorem dX0_checkWhat_15 : decode cX0_checkWhat 15 = .ok (.invokespecial 102, 3) := by decide +kernel
theorem dX0_checkWhat_18 : decode cX0_checkWhat 18 = .ok (.athrow, 1) := by decide +kernel
theorem dX0_checkWhat_19 : decode cX0_checkWhat 19 = .ok (.return_, 1) := by decide +kernel
theorem dX0_checkMost_0 : decode cX0_checkMost 0 = .ok (.iload_n 0, 1) := by decide +kernel
theorem dX0_checkMost_1 : decode cX0_checkMost 1 = .ok (.ifCond .lt 8, 3) := by decide +kernel
theorem dX0_checkMost_4 : decode cX0_checkMost 4 = .ok (.iload_n 0, 1) := by decide +kernel
theorem dX0_checkMost_5 : decode cX0_checkMost 5 = .ok (.iconst 5, 1) := by decide +kernel
theorem dX0_checkMost_6 : decode cX0_checkMost 6 = .ok (.if_icmp .le 13, 3) := by decide +kernel
theorem dX0_checkMost_9 : decode cX0_checkMost 9 = .ok (.new 50, 3) := by decide +kernel
theorem dX0_checkMost_12 : decode cX0_checkMost 12 = .ok (.dup, 1) := by decide +kernel
theorem dX0_checkMost_13 : decode cX0_checkMost 13 = .ok (.ldc 166, 2) := by decide +kernel
theorem dX0_checkMost_15 : decode cX0_checkMost 15 = .ok (.invokespecial 54, 3) := by decide +kernel
theorem dX0_checkMost_18 : decode cX0_checkMost 18 = .ok (.athrow, 1) := by decide +kernel
theorem dX0_checkMost_19 : decode cX0_checkMost 19 = .ok (.return_, 1) := by decide +kernel
theorem dX0_turnNumber_0 : decode cX0_turnNumber 0 = .ok (.iconst 3, 1) := by decide +kernel
theorem dX0_turnNumber_1 : decode cX0_turnNumber 1 = .ok (.iload_n 0, 1) := by decide +kernel
theorem dX0_turnNumber_2 : decode cX0_turnNumber 2 = .ok (.imul, 1) := by decide +kernel
theorem dX0_turnNumber_3 : decode cX0_turnNumber 3 = .ok (.iload_n 1, 1) := by decide +kernel
theorem dX0_turnNumber_4 : decode cX0_turnNumber 4 = .ok (.iadd, 1) := by decide +kernel
theorem dX0_turnNumber_5 : decode cX0_turnNumber 5 = .ok (.iconst 1, 1) := by decide +kernel
theorem dX0_turnNumber_6 : decode cX0_turnNumber 6 = .ok (.isub, 1) := by decide +kernel
theorem dX0_turnNumber_7 : decode cX0_turnNumber 7 = .ok (.ireturn, 1) := by decide +kernel
theorem dX0_faceOf_0 : decode cX0_faceOf 0 = .ok (.iload_n 0, 1) := by decide +kernel
theorem dX0_faceOf_1 : decode cX0_faceOf 1 = .ok (.iconst 3, 1) := by decide +kernel
theorem dX0_faceOf_2 : decode cX0_faceOf 2 = .ok (.idiv, 1) := by decide +kernel
theorem dX0_faceOf_3 : decode cX0_faceOf 3 = .ok (.ireturn, 1) := by decide +kernel
theorem dX0_quartersOf_0 : decode cX0_quartersOf 0 = .ok (.iload_n 0, 1) := by decide +kernel
theorem dX0_quartersOf_1 : decode cX0_quartersOf 1 = .ok (.iconst 3, 1) := by decide +kernel
theorem dX0_quartersOf_2 : decode cX0_quartersOf 2 = .ok (.irem, 1) := by decide +kernel
theorem dX0_quartersOf_3 : decode cX0_quartersOf 3 = .ok (.iconst 1, 1) := by decide +kernel
theorem dX0_quartersOf_4 : decode cX0_quartersOf 4 = .ok (.iadd, 1) := by decide +kernel
theorem dX0_quartersOf_5 : decode cX0_quartersOf 5 = .ok (.ireturn, 1) := by decide +kernel
set_option maxRecDepth 20000 in
theorem ggX0_turnedBack_X0_faceOf : GoodIn wsX0_turnedBack wsX0_faceOf := goodIn_r _ [4] (by decide +kernel) (by decide +kernel)
set_option maxRecDepth 20000 in
theorem gX0_turnedBack_X0_faceOf : GoodIn wsX0_turnedBack (va_wsS RX0 134 yX0_faceOf wsX0_faceOf) := goodIn_app (goodIn_of _ (by decide +kernel)) ggX0_turnedBack_X0_faceOf
set_option maxRecDepth 20000 in
theorem ggX0_turnedBack_X0_quartersOf : GoodIn wsX0_turnedBack wsX0_quartersOf := goodIn_r _ [7] (by decide +kernel) (by decide +kernel)
set_option maxRecDepth 20000 in
theorem gX0_turnedBack_X0_quartersOf : GoodIn wsX0_turnedBack (va_wsS RX0 168 yX0_quartersOf wsX0_quartersOf) := goodIn_app (goodIn_of _ (by decide +kernel)) ggX0_turnedBack_X0_quartersOf
set_option maxRecDepth 20000 in
theorem ggX0_turnedBack_X0_turnNumber : GoodIn wsX0_turnedBack wsX0_turnNumber := goodIn_r _ [10] (by decide +kernel) (by decide +kernel)
set_option maxRecDepth 20000 in
theorem gX0_turnedBack_X0_turnNumber : GoodIn wsX0_turnedBack (va_wsS RX0 35 yX0_turnNumber wsX0_turnNumber) := goodIn_app (goodIn_of _ (by decide +kernel)) ggX0_turnedBack_X0_turnNumber
theorem dX0_turnedBack_0 : decode cX0_turnedBack 0 = .ok (.iload_n 0, 1) := by decide +kernel
theorem dX0_turnedBack_1 : decode cX0_turnedBack 1 = .ok (.invokestatic 134, 3) := by decide +kernel
theorem dX0_turnedBack_4 : decode cX0_turnedBack 4 = .ok (.iconst 4, 1) := by decide +kernel
theorem dX0_turnedBack_5 : decode cX0_turnedBack 5 = .ok (.iload_n 0, 1) := by decide +kernel
theorem dX0_turnedBack_6 : decode cX0_turnedBack 6 = .ok (.invokestatic 168, 3) := by decide +kernel
theorem dX0_turnedBack_9 : decode cX0_turnedBack 9 = .ok (.isub, 1) := by decide +kernel
theorem dX0_turnedBack_10 : decode cX0_turnedBack 10 = .ok (.invokestatic 35, 3) := by decide +kernel
theorem dX0_turnedBack_13 : decode cX0_turnedBack 13 = .ok (.ireturn, 1) := by decide +kernel
set_option maxRecDepth 20000 in
theorem ggX0_keep_X0_faceOf : GoodIn wsX0_keep wsX0_faceOf := goodIn_r _ [4] (by decide +kernel) (by decide +kernel)
set_option maxRecDepth 20000 in
theorem gX0_keep_X0_faceOf : GoodIn wsX0_keep (va_wsS RX0 134 yX0_faceOf wsX0_faceOf) := goodIn_app (goodIn_of _ (by decide +kernel)) ggX0_keep_X0_faceOf
set_option maxRecDepth 20000 in
theorem ggX0_keep_X0_quartersOf : GoodIn wsX0_keep wsX0_quartersOf := goodIn_r _ [7] (by decide +kernel) (by decide +kernel)
set_option maxRecDepth 20000 in
theorem gX0_keep_X0_quartersOf : GoodIn wsX0_keep (va_wsS RX0 168 yX0_quartersOf wsX0_quartersOf) := goodIn_app (goodIn_of _ (by decide +kernel)) ggX0_keep_X0_quartersOf
set_option maxRecDepth 20000 in
theorem ggX0_keep_X0_turnNumber : GoodIn wsX0_keep wsX0_turnNumber := goodIn_r _ [10] (by decide +kernel) (by decide +kernel)
set_option maxRecDepth 20000 in
theorem gX0_keep_X0_turnNumber : GoodIn wsX0_keep (va_wsS RX0 35 yX0_turnNumber wsX0_turnNumber) := goodIn_app (goodIn_of _ (by decide +kernel)) ggX0_keep_X0_turnNumber
theorem dX0_keep_0 : decode cX0_keep 0 = .ok (.iload_n 1, 1) := by decide +kernel
theorem dX0_keep_1 : decode cX0_keep 1 = .ok (.ifCond .eq 18, 3) := by decide +kernel
theorem dX0_keep_4 : decode cX0_keep 4 = .ok (.aload_n 0, 1) := by decide +kernel
theorem dX0_keep_5 : decode cX0_keep 5 = .ok (.iload_n 1, 1) := by decide +kernel
theorem dX0_keep_6 : decode cX0_keep 6 = .ok (.iconst 1, 1) := by decide +kernel
theorem dX0_keep_7 : decode cX0_keep 7 = .ok (.isub, 1) := by decide +kernel
theorem dX0_keep_8 : decode cX0_keep 8 = .ok (.iaload, 1) := by decide +kernel
theorem dX0_keep_9 : decode cX0_keep 9 = .ok (.invokestatic 134, 3) := by decide +kernel
theorem dX0_keep_12 : decode cX0_keep 12 = .ok (.iload_n 2, 1) := by decide +kernel
theorem dX0_keep_13 : decode cX0_keep 13 = .ok (.invokestatic 134, 3) := by decide +kernel
theorem dX0_keep_16 : decode cX0_keep 16 = .ok (.if_icmp .eq 11, 3) := by decide +kernel
theorem dX0_keep_19 : decode cX0_keep 19 = .ok (.aload_n 0, 1) := by decide +kernel
theorem dX0_keep_20 : decode cX0_keep 20 = .ok (.iload_n 1, 1) := by decide +kernel
theorem dX0_keep_21 : decode cX0_keep 21 = .ok (.iload_n 2, 1) := by decide +kernel
theorem dX0_keep_22 : decode cX0_keep 22 = .ok (.iastore, 1) := by decide +kernel
theorem dX0_keep_23 : decode cX0_keep 23 = .ok (.iload_n 1, 1) := by decide +kernel
theorem dX0_keep_24 : decode cX0_keep 24 = .ok (.iconst 1, 1) := by decide +kernel
theorem dX0_keep_25 : decode cX0_keep 25 = .ok (.iadd, 1) := by decide +kernel
theorem dX0_keep_26 : decode cX0_keep 26 = .ok (.ireturn, 1) := by decide +kernel
theorem dX0_keep_27 : decode cX0_keep 27 = .ok (.aload_n 0, 1) := by decide +kernel
theorem dX0_keep_28 : decode cX0_keep 28 = .ok (.iload_n 1, 1) := by decide +kernel
theorem dX0_keep_29 : decode cX0_keep 29 = .ok (.iconst 1, 1) := by decide +kernel
theorem dX0_keep_30 : decode cX0_keep 30 = .ok (.isub, 1) := by decide +kernel
theorem dX0_keep_31 : decode cX0_keep 31 = .ok (.iaload, 1) := by decide +kernel
theorem dX0_keep_32 : decode cX0_keep 32 = .ok (.invokestatic 168, 3) := by decide +kernel
theorem dX0_keep_35 : decode cX0_keep 35 = .ok (.iload_n 2, 1) := by decide +kernel
theorem dX0_keep_36 : decode cX0_keep 36 = .ok (.invokestatic 168, 3) := by decide +kernel
theorem dX0_keep_39 : decode cX0_keep 39 = .ok (.iadd, 1) := by decide +kernel
theorem dX0_keep_40 : decode cX0_keep 40 = .ok (.iconst 4, 1) := by decide +kernel
theorem dX0_keep_41 : decode cX0_keep 41 = .ok (.irem, 1) := by decide +kernel
theorem dX0_keep_42 : decode cX0_keep 42 = .ok (.istore_n 3, 1) := by decide +kernel
theorem dX0_keep_43 : decode cX0_keep 43 = .ok (.iload_n 3, 1) := by decide +kernel
theorem dX0_keep_44 : decode cX0_keep 44 = .ok (.ifCond .ne 7, 3) := by decide +kernel
theorem dX0_keep_47 : decode cX0_keep 47 = .ok (.iload_n 1, 1) := by decide +kernel
theorem dX0_keep_48 : decode cX0_keep 48 = .ok (.iconst 1, 1) := by decide +kernel
theorem dX0_keep_49 : decode cX0_keep 49 = .ok (.isub, 1) := by decide +kernel
theorem dX0_keep_50 : decode cX0_keep 50 = .ok (.ireturn, 1) := by decide +kernel
theorem dX0_keep_51 : decode cX0_keep 51 = .ok (.aload_n 0, 1) := by decide +kernel
theorem dX0_keep_52 : decode cX0_keep 52 = .ok (.iload_n 1, 1) := by decide +kernel
theorem dX0_keep_53 : decode cX0_keep 53 = .ok (.iconst 1, 1) := by decide +kernel
theorem dX0_keep_54 : decode cX0_keep 54 = .ok (.isub, 1) := by decide +kernel
theorem dX0_keep_55 : decode cX0_keep 55 = .ok (.iload_n 2, 1) := by decide +kernel
theorem dX0_keep_56 : decode cX0_keep 56 = .ok (.invokestatic 134, 3) := by decide +kernel
theorem dX0_keep_59 : decode cX0_keep 59 = .ok (.iload_n 3, 1) := by decide +kernel
theorem dX0_keep_60 : decode cX0_keep 60 = .ok (.invokestatic 35, 3) := by decide +kernel
theorem dX0_keep_63 : decode cX0_keep 63 = .ok (.iastore, 1) := by decide +kernel
theorem dX0_keep_64 : decode cX0_keep 64 = .ok (.iload_n 1, 1) := by decide +kernel
theorem dX0_keep_65 : decode cX0_keep 65 = .ok (.ireturn, 1) := by decide +kernel
set_option maxRecDepth 20000 in
theorem ggX0_deedOf_X0_behindWord : GoodIn wsX0_deedOf wsX0_behindWord := goodIn_r _ [6, 7, 8, 9, 10, 5, 11, 12, 13, 14, 15, 16, 17, 18, 19, 20, 21, 22, 23, 24, 25, 26, 27, 28, 29, 30, 31, 32, 33, 34, 35, 36, 37, 38, 39, 40, 41, 42, 43, 44] (by decide +kernel) (by decide +kernel)
set_option maxRecDepth 20000 in
theorem gX0_deedOf_X0_behindWord : GoodIn wsX0_deedOf (wsV RX0 62 RX0 yX0_behindWord wsX0_behindWord) := goodIn_app (goodIn_of _ (by decide +kernel)) ggX0_deedOf_X0_behindWord
theorem dX0_deedOf_0 : decode cX0_deedOf 0 = .ok (.aload_n 0, 1) := by decide +kernel
theorem dX0_deedOf_1 : decode cX0_deedOf 1 = .ok (.ldc2_w 9, 3) := by decide +kernel
theorem dX0_deedOf_4 : decode cX0_deedOf 4 = .ok (.iload_n 1, 1) := by decide +kernel
theorem dX0_deedOf_5 : decode cX0_deedOf 5 = .ok (.invokevirtual 62, 3) := by decide +kernel
theorem dX0_deedOf_8 : decode cX0_deedOf 8 = .ok (.lreturn, 1) := by decide +kernel
set_option maxRecDepth 20000 in
theorem ggX0_behindWord_X0_turned : GoodIn wsX0_behindWord wsX0_turned := goodIn_r _ [6, 7, 8, 5, 9, 10, 11, 12, 13, 14, 15, 16, 17, 18, 19, 20, 21, 22, 23, 24, 25, 26, 27, 28, 29, 30, 31, 32, 33, 34, 35] (by decide +kernel) (by decide +kernel)
set_option maxRecDepth 20000 in
theorem gX0_behindWord_X0_turned : GoodIn wsX0_behindWord (va_wsS RX0 39 yX0_turned wsX0_turned) := goodIn_app (goodIn_of _ (by decide +kernel)) ggX0_behindWord_X0_turned
theorem dX0_behindWord_0 : decode cX0_behindWord 0 = .ok (.lload_n 1, 1) := by decide +kernel
theorem dX0_behindWord_1 : decode cX0_behindWord 1 = .ok (.lstore 4, 2) := by decide +kernel
theorem dX0_behindWord_3 : decode cX0_behindWord 3 = .ok (.iconst 0, 1) := by decide +kernel
theorem dX0_behindWord_4 : decode cX0_behindWord 4 = .ok (.istore 6, 2) := by decide +kernel
theorem dX0_behindWord_6 : decode cX0_behindWord 6 = .ok (.iload 6, 2) := by decide +kernel
theorem dX0_behindWord_8 : decode cX0_behindWord 8 = .ok (.aload_n 0, 1) := by decide +kernel
theorem dX0_behindWord_9 : decode cX0_behindWord 9 = .ok (.getfield 24, 3) := by decide +kernel
theorem dX0_behindWord_12 : decode cX0_behindWord 12 = .ok (.iload_n 3, 1) := by decide +kernel
theorem dX0_behindWord_13 : decode cX0_behindWord 13 = .ok (.iaload, 1) := by decide +kernel
theorem dX0_behindWord_14 : decode cX0_behindWord 14 = .ok (.if_icmp .ge 25, 3) := by decide +kernel
theorem dX0_behindWord_17 : decode cX0_behindWord 17 = .ok (.lload 4, 2) := by decide +kernel
theorem dX0_behindWord_19 : decode cX0_behindWord 19 = .ok (.aload_n 0, 1) := by decide +kernel
theorem dX0_behindWord_20 : decode cX0_behindWord 20 = .ok (.getfield 21, 3) := by decide +kernel
theorem dX0_behindWord_23 : decode cX0_behindWord 23 = .ok (.iload_n 3, 1) := by decide +kernel
theorem dX0_behindWord_24 : decode cX0_behindWord 24 = .ok (.aaload, 1) := by decide +kernel
theorem dX0_behindWord_25 : decode cX0_behindWord 25 = .ok (.iload 6, 2) := by decide +kernel
theorem dX0_behindWord_27 : decode cX0_behindWord 27 = .ok (.iaload, 1) := by decide +kernel
theorem dX0_behindWord_28 : decode cX0_behindWord 28 = .ok (.invokestatic 39, 3) := by decide +kernel
theorem dX0_behindWord_31 : decode cX0_behindWord 31 = .ok (.lstore 4, 2) := by decide +kernel
theorem dX0_behindWord_33 : decode cX0_behindWord 33 = .ok (.iinc 6 1, 3) := by decide +kernel
theorem dX0_behindWord_36 : decode cX0_behindWord 36 = .ok (.goto (-30), 3) := by decide +kernel
theorem dX0_behindWord_39 : decode cX0_behindWord 39 = .ok (.lload 4, 2) := by decide +kernel
theorem dX0_behindWord_41 : decode cX0_behindWord 41 = .ok (.lreturn, 1) := by decide +kernel
set_option maxRecDepth 20000 in
theorem ggX0_behindWordRound_X0_turnedBack : GoodIn wsX0_behindWordRound wsX0_turnedBack := goodIn_r _ [6, 7, 8, 5, 9, 10, 11, 12, 13, 14, 15] (by decide +kernel) (by decide +kernel)
set_option maxRecDepth 20000 in
theorem gX0_behindWordRound_X0_turnedBack : GoodIn wsX0_behindWordRound (va_wsS RX0 70 yX0_turnedBack wsX0_turnedBack) := goodIn_app (goodIn_of _ (by decide +kernel)) ggX0_behindWordRound_X0_turnedBack
set_option maxRecDepth 20000 in
theorem ggX0_behindWordRound_X0_turned : GoodIn wsX0_behindWordRound wsX0_turned := goodIn_r _ [18, 10, 11, 5, 12, 7, 8, 9, 19, 20, 21, 22, 23, 24, 25, 26, 27, 28, 29, 30, 31, 32, 33, 34, 35, 36, 37, 38, 39, 40, 41] (by decide +kernel) (by decide +kernel)
set_option maxRecDepth 20000 in
theorem gX0_behindWordRound_X0_turned : GoodIn wsX0_behindWordRound (va_wsS RX0 39 yX0_turned wsX0_turned) := goodIn_app (goodIn_of _ (by decide +kernel)) ggX0_behindWordRound_X0_turned
theorem dX0_behindWordRound_0 : decode cX0_behindWordRound 0 = .ok (.lload_n 1, 1) := by decide +kernel
theorem dX0_behindWordRound_1 : decode cX0_behindWordRound 1 = .ok (.lstore 4, 2) := by decide +kernel
theorem dX0_behindWordRound_3 : decode cX0_behindWordRound 3 = .ok (.aload_n 0, 1) := by decide +kernel
theorem dX0_behindWordRound_4 : decode cX0_behindWordRound 4 = .ok (.getfield 24, 3) := by decide +kernel
theorem dX0_behindWordRound_7 : decode cX0_behindWordRound 7 = .ok (.iload_n 3, 1) := by decide +kernel
theorem dX0_behindWordRound_8 : decode cX0_behindWordRound 8 = .ok (.iaload, 1) := by decide +kernel
theorem dX0_behindWordRound_9 : decode cX0_behindWordRound 9 = .ok (.iconst 1, 1) := by decide +kernel
theorem dX0_behindWordRound_10 : decode cX0_behindWordRound 10 = .ok (.isub, 1) := by decide +kernel
theorem dX0_behindWordRound_11 : decode cX0_behindWordRound 11 = .ok (.istore 6, 2) := by decide +kernel
theorem dX0_behindWordRound_13 : decode cX0_behindWordRound 13 = .ok (.iload 6, 2) := by decide +kernel
theorem dX0_behindWordRound_15 : decode cX0_behindWordRound 15 = .ok (.ifCond .lt 28, 3) := by decide +kernel
theorem dX0_behindWordRound_18 : decode cX0_behindWordRound 18 = .ok (.lload 4, 2) := by decide +kernel
theorem dX0_behindWordRound_20 : decode cX0_behindWordRound 20 = .ok (.aload_n 0, 1) := by decide +kernel
theorem dX0_behindWordRound_21 : decode cX0_behindWordRound 21 = .ok (.getfield 21, 3) := by decide +kernel
theorem dX0_behindWordRound_24 : decode cX0_behindWordRound 24 = .ok (.iload_n 3, 1) := by decide +kernel
theorem dX0_behindWordRound_25 : decode cX0_behindWordRound 25 = .ok (.aaload, 1) := by decide +kernel
theorem dX0_behindWordRound_26 : decode cX0_behindWordRound 26 = .ok (.iload 6, 2) := by decide +kernel
theorem dX0_behindWordRound_28 : decode cX0_behindWordRound 28 = .ok (.iaload, 1) := by decide +kernel
theorem dX0_behindWordRound_29 : decode cX0_behindWordRound 29 = .ok (.invokestatic 70, 3) := by decide +kernel
theorem dX0_behindWordRound_32 : decode cX0_behindWordRound 32 = .ok (.invokestatic 39, 3) := by decide +kernel
theorem dX0_behindWordRound_35 : decode cX0_behindWordRound 35 = .ok (.lstore 4, 2) := by decide +kernel
theorem dX0_behindWordRound_37 : decode cX0_behindWordRound 37 = .ok (.iinc 6 (-1), 3) := by decide +kernel
theorem dX0_behindWordRound_40 : decode cX0_behindWordRound 40 = .ok (.goto (-27), 3) := by decide +kernel
theorem dX0_behindWordRound_43 : decode cX0_behindWordRound 43 = .ok (.lload 4, 2) := by decide +kernel
theorem dX0_behindWordRound_45 : decode cX0_behindWordRound 45 = .ok (.lreturn, 1) := by decide +kernel
theorem dX0_turnsOfAllWords_0 : decode cX0_turnsOfAllWords 0 = .ok (.iconst 0, 1) := by decide +kernel
theorem dX0_turnsOfAllWords_1 : decode cX0_turnsOfAllWords 1 = .ok (.istore_n 1, 1) := by decide +kernel
theorem dX0_turnsOfAllWords_2 : decode cX0_turnsOfAllWords 2 = .ok (.iconst 0, 1) := by decide +kernel
theorem dX0_turnsOfAllWords_3 : decode cX0_turnsOfAllWords 3 = .ok (.istore_n 2, 1) := by decide +kernel
theorem dX0_turnsOfAllWords_4 : decode cX0_turnsOfAllWords 4 = .ok (.iload_n 2, 1) := by decide +kernel
theorem dX0_turnsOfAllWords_5 : decode cX0_turnsOfAllWords 5 = .ok (.iconst 5, 1) := by decide +kernel
theorem dX0_turnsOfAllWords_6 : decode cX0_turnsOfAllWords 6 = .ok (.if_icmp .ge 18, 3) := by decide +kernel
theorem dX0_turnsOfAllWords_9 : decode cX0_turnsOfAllWords 9 = .ok (.iload_n 1, 1) := by decide +kernel
theorem dX0_turnsOfAllWords_10 : decode cX0_turnsOfAllWords 10 = .ok (.aload_n 0, 1) := by decide +kernel
theorem dX0_turnsOfAllWords_11 : decode cX0_turnsOfAllWords 11 = .ok (.getfield 24, 3) := by decide +kernel
theorem dX0_turnsOfAllWords_14 : decode cX0_turnsOfAllWords 14 = .ok (.iload_n 2, 1) := by decide +kernel
theorem dX0_turnsOfAllWords_15 : decode cX0_turnsOfAllWords 15 = .ok (.iaload, 1) := by decide +kernel
theorem dX0_turnsOfAllWords_16 : decode cX0_turnsOfAllWords 16 = .ok (.iadd, 1) := by decide +kernel
theorem dX0_turnsOfAllWords_17 : decode cX0_turnsOfAllWords 17 = .ok (.istore_n 1, 1) := by decide +kernel
theorem dX0_turnsOfAllWords_18 : decode cX0_turnsOfAllWords 18 = .ok (.iinc 2 1, 3) := by decide +kernel
theorem dX0_turnsOfAllWords_21 : decode cX0_turnsOfAllWords 21 = .ok (.goto (-17), 3) := by decide +kernel
theorem dX0_turnsOfAllWords_24 : decode cX0_turnsOfAllWords 24 = .ok (.iload_n 1, 1) := by decide +kernel
theorem dX0_turnsOfAllWords_25 : decode cX0_turnsOfAllWords 25 = .ok (.ireturn, 1) := by decide +kernel
theorem dX0_cornerAt_0 : decode cX0_cornerAt 0 = .ok (.lload_n 0, 1) := by decide +kernel
theorem dX0_cornerAt_1 : decode cX0_cornerAt 1 = .ok (.bipush 8, 2) := by decide +kernel
theorem dX0_cornerAt_3 : decode cX0_cornerAt 3 = .ok (.iload_n 2, 1) := by decide +kernel
theorem dX0_cornerAt_4 : decode cX0_cornerAt 4 = .ok (.imul, 1) := by decide +kernel
theorem dX0_cornerAt_5 : decode cX0_cornerAt 5 = .ok (.lushr, 1) := by decide +kernel
theorem dX0_cornerAt_6 : decode cX0_cornerAt 6 = .ok (.l2i, 1) := by decide +kernel
theorem dX0_cornerAt_7 : decode cX0_cornerAt 7 = .ok (.bipush 7, 2) := by decide +kernel
theorem dX0_cornerAt_9 : decode cX0_cornerAt 9 = .ok (.iand, 1) := by decide +kernel
theorem dX0_cornerAt_10 : decode cX0_cornerAt 10 = .ok (.ireturn, 1) := by decide +kernel
theorem dX0_twistAt_0 : decode cX0_twistAt 0 = .ok (.lload_n 0, 1) := by decide +kernel
theorem dX0_twistAt_1 : decode cX0_twistAt 1 = .ok (.bipush 8, 2) := by decide +kernel
theorem dX0_twistAt_3 : decode cX0_twistAt 3 = .ok (.iload_n 2, 1) := by decide +kernel
theorem dX0_twistAt_4 : decode cX0_twistAt 4 = .ok (.imul, 1) := by decide +kernel
theorem dX0_twistAt_5 : decode cX0_twistAt 5 = .ok (.iconst 3, 1) := by decide +kernel
theorem dX0_twistAt_6 : decode cX0_twistAt 6 = .ok (.iadd, 1) := by decide +kernel
theorem dX0_twistAt_7 : decode cX0_twistAt 7 = .ok (.lushr, 1) := by decide +kernel
theorem dX0_twistAt_8 : decode cX0_twistAt 8 = .ok (.l2i, 1) := by decide +kernel
theorem dX0_twistAt_9 : decode cX0_twistAt 9 = .ok (.iconst 3, 1) := by decide +kernel
theorem dX0_twistAt_10 : decode cX0_twistAt 10 = .ok (.iand, 1) := by decide +kernel
theorem dX0_twistAt_11 : decode cX0_twistAt 11 = .ok (.ireturn, 1) := by decide +kernel
set_option maxRecDepth 20000 in
theorem ggX0_isRight_X0_cornerAt : GoodIn wsX0_isRight wsX0_cornerAt := goodIn_r _ [4] (by decide +kernel) (by decide +kernel)
set_option maxRecDepth 20000 in
theorem gX0_isRight_X0_cornerAt : GoodIn wsX0_isRight (va_wsS RX0 87 yX0_cornerAt wsX0_cornerAt) := goodIn_app (goodIn_of _ (by decide +kernel)) ggX0_isRight_X0_cornerAt
set_option maxRecDepth 20000 in
theorem ggX0_isRight_X0_twistAt : GoodIn wsX0_isRight wsX0_twistAt := goodIn_r _ [7] (by decide +kernel) (by decide +kernel)
set_option maxRecDepth 20000 in
theorem gX0_isRight_X0_twistAt : GoodIn wsX0_isRight (va_wsS RX0 91 yX0_twistAt wsX0_twistAt) := goodIn_app (goodIn_of _ (by decide +kernel)) ggX0_isRight_X0_twistAt
theorem dX0_isRight_0 : decode cX0_isRight 0 = .ok (.lload_n 0, 1) := by decide +kernel
theorem dX0_isRight_1 : decode cX0_isRight 1 = .ok (.iload_n 2, 1) := by decide +kernel
theorem dX0_isRight_2 : decode cX0_isRight 2 = .ok (.invokestatic 87, 3) := by decide +kernel
theorem dX0_isRight_5 : decode cX0_isRight 5 = .ok (.iload_n 2, 1) := by decide +kernel
theorem dX0_isRight_6 : decode cX0_isRight 6 = .ok (.if_icmp .ne 15, 3) := by decide +kernel
theorem dX0_isRight_9 : decode cX0_isRight 9 = .ok (.lload_n 0, 1) := by decide +kernel
theorem dX0_isRight_10 : decode cX0_isRight 10 = .ok (.iload_n 2, 1) := by decide +kernel
theorem dX0_isRight_11 : decode cX0_isRight 11 = .ok (.invokestatic 91, 3) := by decide +kernel
theorem dX0_isRight_14 : decode cX0_isRight 14 = .ok (.ifCond .ne 7, 3) := by decide +kernel
theorem dX0_isRight_17 : decode cX0_isRight 17 = .ok (.iconst 1, 1) := by decide +kernel
theorem dX0_isRight_18 : decode cX0_isRight 18 = .ok (.goto 4, 3) := by decide +kernel
theorem dX0_isRight_21 : decode cX0_isRight 21 = .ok (.iconst 0, 1) := by decide +kernel
theorem dX0_isRight_22 : decode cX0_isRight 22 = .ok (.ireturn, 1) := by decide +kernel
set_option maxRecDepth 20000 in
theorem ggX0_rightCorners_X0_isRight : GoodIn wsX0_rightCorners wsX0_isRight := goodIn_r _ [4, 5, 6, 3, 7, 8, 9, 10] (by decide +kernel) (by decide +kernel)
set_option maxRecDepth 20000 in
theorem gX0_rightCorners_X0_isRight : GoodIn wsX0_rightCorners (va_wsS RX0 94 yX0_isRight wsX0_isRight) := goodIn_app (goodIn_of _ (by decide +kernel)) ggX0_rightCorners_X0_isRight
theorem dX0_rightCorners_0 : decode cX0_rightCorners 0 = .ok (.iconst 0, 1) := by decide +kernel
theorem dX0_rightCorners_1 : decode cX0_rightCorners 1 = .ok (.istore_n 2, 1) := by decide +kernel
theorem dX0_rightCorners_2 : decode cX0_rightCorners 2 = .ok (.iconst 0, 1) := by decide +kernel
theorem dX0_rightCorners_3 : decode cX0_rightCorners 3 = .ok (.istore_n 3, 1) := by decide +kernel
theorem dX0_rightCorners_4 : decode cX0_rightCorners 4 = .ok (.iload_n 3, 1) := by decide +kernel
theorem dX0_rightCorners_5 : decode cX0_rightCorners 5 = .ok (.bipush 8, 2) := by decide +kernel
theorem dX0_rightCorners_7 : decode cX0_rightCorners 7 = .ok (.if_icmp .ge 20, 3) := by decide +kernel
theorem dX0_rightCorners_10 : decode cX0_rightCorners 10 = .ok (.lload_n 0, 1) := by decide +kernel
theorem dX0_rightCorners_11 : decode cX0_rightCorners 11 = .ok (.iload_n 3, 1) := by decide +kernel
theorem dX0_rightCorners_12 : decode cX0_rightCorners 12 = .ok (.invokestatic 94, 3) := by decide +kernel
theorem dX0_rightCorners_15 : decode cX0_rightCorners 15 = .ok (.ifCond .eq 6, 3) := by decide +kernel
theorem dX0_rightCorners_18 : decode cX0_rightCorners 18 = .ok (.iinc 2 1, 3) := by decide +kernel
theorem dX0_rightCorners_21 : decode cX0_rightCorners 21 = .ok (.iinc 3 1, 3) := by decide +kernel
theorem dX0_rightCorners_24 : decode cX0_rightCorners 24 = .ok (.goto (-20), 3) := by decide +kernel
theorem dX0_rightCorners_27 : decode cX0_rightCorners 27 = .ok (.iload_n 2, 1) := by decide +kernel
theorem dX0_rightCorners_28 : decode cX0_rightCorners 28 = .ok (.ireturn, 1) := by decide +kernel
set_option maxRecDepth 20000 in
theorem ggX0_wrongCorners_X0_rightCorners : GoodIn wsX0_wrongCorners wsX0_rightCorners := goodIn_r _ [4, 5, 6, 3, 7, 8, 9, 10, 11, 12, 13] (by decide +kernel) (by decide +kernel)
set_option maxRecDepth 20000 in
theorem gX0_wrongCorners_X0_rightCorners : GoodIn wsX0_wrongCorners (va_wsS RX0 43 yX0_rightCorners wsX0_rightCorners) := goodIn_app (goodIn_of _ (by decide +kernel)) ggX0_wrongCorners_X0_rightCorners
theorem dX0_wrongCorners_0 : decode cX0_wrongCorners 0 = .ok (.bipush 8, 2) := by decide +kernel
theorem dX0_wrongCorners_2 : decode cX0_wrongCorners 2 = .ok (.lload_n 0, 1) := by decide +kernel
theorem dX0_wrongCorners_3 : decode cX0_wrongCorners 3 = .ok (.invokestatic 43, 3) := by decide +kernel
theorem dX0_wrongCorners_6 : decode cX0_wrongCorners 6 = .ok (.isub, 1) := by decide +kernel
theorem dX0_wrongCorners_7 : decode cX0_wrongCorners 7 = .ok (.ireturn, 1) := by decide +kernel
set_option maxRecDepth 20000 in
theorem ggX0_placedCorners_X0_cornerAt : GoodIn wsX0_placedCorners wsX0_cornerAt := goodIn_r _ [4] (by decide +kernel) (by decide +kernel)
set_option maxRecDepth 20000 in
theorem gX0_placedCorners_X0_cornerAt : GoodIn wsX0_placedCorners (va_wsS RX0 87 yX0_cornerAt wsX0_cornerAt) := goodIn_app (goodIn_of _ (by decide +kernel)) ggX0_placedCorners_X0_cornerAt
theorem dX0_placedCorners_0 : decode cX0_placedCorners 0 = .ok (.iconst 0, 1) := by decide +kernel
theorem dX0_placedCorners_1 : decode cX0_placedCorners 1 = .ok (.istore_n 2, 1) := by decide +kernel
theorem dX0_placedCorners_2 : decode cX0_placedCorners 2 = .ok (.iconst 0, 1) := by decide +kernel
theorem dX0_placedCorners_3 : decode cX0_placedCorners 3 = .ok (.istore_n 3, 1) := by decide +kernel
theorem dX0_placedCorners_4 : decode cX0_placedCorners 4 = .ok (.iload_n 3, 1) := by decide +kernel
theorem dX0_placedCorners_5 : decode cX0_placedCorners 5 = .ok (.bipush 8, 2) := by decide +kernel
theorem dX0_placedCorners_7 : decode cX0_placedCorners 7 = .ok (.if_icmp .ge 21, 3) := by decide +kernel
theorem dX0_placedCorners_10 : decode cX0_placedCorners 10 = .ok (.lload_n 0, 1) := by decide +kernel
theorem dX0_placedCorners_11 : decode cX0_placedCorners 11 = .ok (.iload_n 3, 1) := by decide +kernel
theorem dX0_placedCorners_12 : decode cX0_placedCorners 12 = .ok (.invokestatic 87, 3) := by decide +kernel
theorem dX0_placedCorners_15 : decode cX0_placedCorners 15 = .ok (.iload_n 3, 1) := by decide +kernel
theorem dX0_placedCorners_16 : decode cX0_placedCorners 16 = .ok (.if_icmp .ne 6, 3) := by decide +kernel
theorem dX0_placedCorners_19 : decode cX0_placedCorners 19 = .ok (.iinc 2 1, 3) := by decide +kernel
theorem dX0_placedCorners_22 : decode cX0_placedCorners 22 = .ok (.iinc 3 1, 3) := by decide +kernel
theorem dX0_placedCorners_25 : decode cX0_placedCorners 25 = .ok (.goto (-21), 3) := by decide +kernel
theorem dX0_placedCorners_28 : decode cX0_placedCorners 28 = .ok (.iload_n 2, 1) := by decide +kernel
theorem dX0_placedCorners_29 : decode cX0_placedCorners 29 = .ok (.ireturn, 1) := by decide +kernel
set_option maxRecDepth 20000 in
theorem ggX0_untwistedCorners_X0_twistAt : GoodIn wsX0_untwistedCorners wsX0_twistAt := goodIn_r _ [4] (by decide +kernel) (by decide +kernel)
set_option maxRecDepth 20000 in
theorem gX0_untwistedCorners_X0_twistAt : GoodIn wsX0_untwistedCorners (va_wsS RX0 91 yX0_twistAt wsX0_twistAt) := goodIn_app (goodIn_of _ (by decide +kernel)) ggX0_untwistedCorners_X0_twistAt
theorem dX0_untwistedCorners_0 : decode cX0_untwistedCorners 0 = .ok (.iconst 0, 1) := by decide +kernel
theorem dX0_untwistedCorners_1 : decode cX0_untwistedCorners 1 = .ok (.istore_n 2, 1) := by decide +kernel
theorem dX0_untwistedCorners_2 : decode cX0_untwistedCorners 2 = .ok (.iconst 0, 1) := by decide +kernel
theorem dX0_untwistedCorners_3 : decode cX0_untwistedCorners 3 = .ok (.istore_n 3, 1) := by decide +kernel
theorem dX0_untwistedCorners_4 : decode cX0_untwistedCorners 4 = .ok (.iload_n 3, 1) := by decide +kernel
theorem dX0_untwistedCorners_5 : decode cX0_untwistedCorners 5 = .ok (.bipush 8, 2) := by decide +kernel
theorem dX0_untwistedCorners_7 : decode cX0_untwistedCorners 7 = .ok (.if_icmp .ge 20, 3) := by decide +kernel
theorem dX0_untwistedCorners_10 : decode cX0_untwistedCorners 10 = .ok (.lload_n 0, 1) := by decide +kernel
theorem dX0_untwistedCorners_11 : decode cX0_untwistedCorners 11 = .ok (.iload_n 3, 1) := by decide +kernel
theorem dX0_untwistedCorners_12 : decode cX0_untwistedCorners 12 = .ok (.invokestatic 91, 3) := by decide +kernel
theorem dX0_untwistedCorners_15 : decode cX0_untwistedCorners 15 = .ok (.ifCond .ne 6, 3) := by decide +kernel
theorem dX0_untwistedCorners_18 : decode cX0_untwistedCorners 18 = .ok (.iinc 2 1, 3) := by decide +kernel
theorem dX0_untwistedCorners_21 : decode cX0_untwistedCorners 21 = .ok (.iinc 3 1, 3) := by decide +kernel
theorem dX0_untwistedCorners_24 : decode cX0_untwistedCorners 24 = .ok (.goto (-20), 3) := by decide +kernel
theorem dX0_untwistedCorners_27 : decode cX0_untwistedCorners 27 = .ok (.iload_n 2, 1) := by decide +kernel
theorem dX0_untwistedCorners_28 : decode cX0_untwistedCorners 28 = .ok (.ireturn, 1) := by decide +kernel
set_option maxRecDepth 20000 in
theorem ggX0_pairsOutOfOrder_X0_cornerAt : GoodIn wsX0_pairsOutOfOrder wsX0_cornerAt := goodIn_r _ [4] (by decide +kernel) (by decide +kernel)
set_option maxRecDepth 20000 in
theorem gX0_pairsOutOfOrder_X0_cornerAt : GoodIn wsX0_pairsOutOfOrder (va_wsS RX0 87 yX0_cornerAt wsX0_cornerAt) := goodIn_app (goodIn_of _ (by decide +kernel)) ggX0_pairsOutOfOrder_X0_cornerAt
theorem dX0_pairsOutOfOrder_0 : decode cX0_pairsOutOfOrder 0 = .ok (.iconst 0, 1) := by decide +kernel
theorem dX0_pairsOutOfOrder_1 : decode cX0_pairsOutOfOrder 1 = .ok (.istore_n 2, 1) := by decide +kernel
theorem dX0_pairsOutOfOrder_2 : decode cX0_pairsOutOfOrder 2 = .ok (.iconst 0, 1) := by decide +kernel
theorem dX0_pairsOutOfOrder_3 : decode cX0_pairsOutOfOrder 3 = .ok (.istore_n 3, 1) := by decide +kernel
theorem dX0_pairsOutOfOrder_4 : decode cX0_pairsOutOfOrder 4 = .ok (.iload_n 3, 1) := by decide +kernel
theorem dX0_pairsOutOfOrder_5 : decode cX0_pairsOutOfOrder 5 = .ok (.bipush 8, 2) := by decide +kernel
theorem dX0_pairsOutOfOrder_7 : decode cX0_pairsOutOfOrder 7 = .ok (.if_icmp .ge 44, 3) := by decide +kernel
theorem dX0_pairsOutOfOrder_10 : decode cX0_pairsOutOfOrder 10 = .ok (.iload_n 3, 1) := by decide +kernel
theorem dX0_pairsOutOfOrder_11 : decode cX0_pairsOutOfOrder 11 = .ok (.iconst 1, 1) := by decide +kernel
theorem dX0_pairsOutOfOrder_12 : decode cX0_pairsOutOfOrder 12 = .ok (.iadd, 1) := by decide +kernel
theorem dX0_pairsOutOfOrder_13 : decode cX0_pairsOutOfOrder 13 = .ok (.istore 4, 2) := by decide +kernel
theorem dX0_pairsOutOfOrder_15 : decode cX0_pairsOutOfOrder 15 = .ok (.iload 4, 2) := by decide +kernel
theorem dX0_pairsOutOfOrder_17 : decode cX0_pairsOutOfOrder 17 = .ok (.bipush 8, 2) := by decide +kernel
theorem dX0_pairsOutOfOrder_19 : decode cX0_pairsOutOfOrder 19 = .ok (.if_icmp .ge 26, 3) := by decide +kernel
theorem dX0_pairsOutOfOrder_22 : decode cX0_pairsOutOfOrder 22 = .ok (.lload_n 0, 1) := by decide +kernel
theorem dX0_pairsOutOfOrder_23 : decode cX0_pairsOutOfOrder 23 = .ok (.iload_n 3, 1) := by decide +kernel
theorem dX0_pairsOutOfOrder_24 : decode cX0_pairsOutOfOrder 24 = .ok (.invokestatic 87, 3) := by decide +kernel
theorem dX0_pairsOutOfOrder_27 : decode cX0_pairsOutOfOrder 27 = .ok (.lload_n 0, 1) := by decide +kernel
theorem dX0_pairsOutOfOrder_28 : decode cX0_pairsOutOfOrder 28 = .ok (.iload 4, 2) := by decide +kernel
theorem dX0_pairsOutOfOrder_30 : decode cX0_pairsOutOfOrder 30 = .ok (.invokestatic 87, 3) := by decide +kernel
theorem dX0_pairsOutOfOrder_33 : decode cX0_pairsOutOfOrder 33 = .ok (.if_icmp .le 6, 3) := by decide +kernel
theorem dX0_pairsOutOfOrder_36 : decode cX0_pairsOutOfOrder 36 = .ok (.iinc 2 1, 3) := by decide +kernel
theorem dX0_pairsOutOfOrder_39 : decode cX0_pairsOutOfOrder 39 = .ok (.iinc 4 1, 3) := by decide +kernel
theorem dX0_pairsOutOfOrder_42 : decode cX0_pairsOutOfOrder 42 = .ok (.goto (-27), 3) := by decide +kernel
theorem dX0_pairsOutOfOrder_45 : decode cX0_pairsOutOfOrder 45 = .ok (.iinc 3 1, 3) := by decide +kernel
theorem dX0_pairsOutOfOrder_48 : decode cX0_pairsOutOfOrder 48 = .ok (.goto (-44), 3) := by decide +kernel
theorem dX0_pairsOutOfOrder_51 : decode cX0_pairsOutOfOrder 51 = .ok (.iload_n 2, 1) := by decide +kernel
theorem dX0_pairsOutOfOrder_52 : decode cX0_pairsOutOfOrder 52 = .ok (.ireturn, 1) := by decide +kernel
set_option maxRecDepth 20000 in
theorem ggX0_orderOf_X0_behindDeed : GoodIn wsX0_orderOf wsX0_behindDeed := goodIn_r _ [5, 6, 7, 4, 8, 9, 10, 11, 12, 13, 14, 15, 16] (by decide +kernel) (by decide +kernel)
set_option maxRecDepth 20000 in
theorem gX0_orderOf_X0_behindDeed : GoodIn wsX0_orderOf (va_wsS RX0 171 yX0_behindDeed wsX0_behindDeed) := goodIn_app (goodIn_of _ (by decide +kernel)) ggX0_orderOf_X0_behindDeed
theorem dX0_orderOf_0 : decode cX0_orderOf 0 = .ok (.iconst 1, 1) := by decide +kernel
theorem dX0_orderOf_1 : decode cX0_orderOf 1 = .ok (.istore_n 2, 1) := by decide +kernel
theorem dX0_orderOf_2 : decode cX0_orderOf 2 = .ok (.lload_n 0, 1) := by decide +kernel
theorem dX0_orderOf_3 : decode cX0_orderOf 3 = .ok (.lstore_n 3, 1) := by decide +kernel
theorem dX0_orderOf_4 : decode cX0_orderOf 4 = .ok (.lload_n 3, 1) := by decide +kernel
theorem dX0_orderOf_5 : decode cX0_orderOf 5 = .ok (.ldc2_w 9, 3) := by decide +kernel
theorem dX0_orderOf_8 : decode cX0_orderOf 8 = .ok (.lcmp, 1) := by decide +kernel
theorem dX0_orderOf_9 : decode cX0_orderOf 9 = .ok (.ifCond .eq 22, 3) := by decide +kernel
theorem dX0_orderOf_12 : decode cX0_orderOf 12 = .ok (.iload_n 2, 1) := by decide +kernel
theorem dX0_orderOf_13 : decode cX0_orderOf 13 = .ok (.sipush 1000, 3) := by decide +kernel
theorem dX0_orderOf_16 : decode cX0_orderOf 16 = .ok (.if_icmp .ge 15, 3) := by decide +kernel
theorem dX0_orderOf_19 : decode cX0_orderOf 19 = .ok (.lload_n 3, 1) := by decide +kernel
theorem dX0_orderOf_20 : decode cX0_orderOf 20 = .ok (.lload_n 0, 1) := by decide +kernel
theorem dX0_orderOf_21 : decode cX0_orderOf 21 = .ok (.invokestatic 171, 3) := by decide +kernel
theorem dX0_orderOf_24 : decode cX0_orderOf 24 = .ok (.lstore_n 3, 1) := by decide +kernel
theorem dX0_orderOf_25 : decode cX0_orderOf 25 = .ok (.iinc 2 1, 3) := by decide +kernel
theorem dX0_orderOf_28 : decode cX0_orderOf 28 = .ok (.goto (-24), 3) := by decide +kernel
theorem dX0_orderOf_31 : decode cX0_orderOf 31 = .ok (.iload_n 2, 1) := by decide +kernel
theorem dX0_orderOf_32 : decode cX0_orderOf 32 = .ok (.ireturn, 1) := by decide +kernel
theorem dX0_withCorner_0 : decode cX0_withCorner 0 = .ok (.lload_n 0, 1) := by decide +kernel
theorem dX0_withCorner_1 : decode cX0_withCorner 1 = .ok (.ldc2_w 175, 3) := by decide +kernel
theorem dX0_withCorner_4 : decode cX0_withCorner 4 = .ok (.bipush 8, 2) := by decide +kernel
theorem dX0_withCorner_6 : decode cX0_withCorner 6 = .ok (.iload_n 2, 1) := by decide +kernel
theorem dX0_withCorner_7 : decode cX0_withCorner 7 = .ok (.imul, 1) := by decide +kernel
theorem dX0_withCorner_8 : decode cX0_withCorner 8 = .ok (.lshl, 1) := by decide +kernel
theorem dX0_withCorner_9 : decode cX0_withCorner 9 = .ok (.ldc2_w 177, 3) := by decide +kernel
theorem dX0_withCorner_12 : decode cX0_withCorner 12 = .ok (.lxor, 1) := by decide +kernel
theorem dX0_withCorner_13 : decode cX0_withCorner 13 = .ok (.land, 1) := by decide +kernel
theorem dX0_withCorner_14 : decode cX0_withCorner 14 = .ok (.lstore 5, 2) := by decide +kernel
theorem dX0_withCorner_16 : decode cX0_withCorner 16 = .ok (.iload 4, 2) := by decide +kernel
theorem dX0_withCorner_18 : decode cX0_withCorner 18 = .ok (.iconst 3, 1) := by decide +kernel
theorem dX0_withCorner_19 : decode cX0_withCorner 19 = .ok (.irem, 1) := by decide +kernel
theorem dX0_withCorner_20 : decode cX0_withCorner 20 = .ok (.iconst 3, 1) := by decide +kernel
theorem dX0_withCorner_21 : decode cX0_withCorner 21 = .ok (.ishl, 1) := by decide +kernel
theorem dX0_withCorner_22 : decode cX0_withCorner 22 = .ok (.iload_n 3, 1) := by decide +kernel
theorem dX0_withCorner_23 : decode cX0_withCorner 23 = .ok (.ior, 1) := by decide +kernel
theorem dX0_withCorner_24 : decode cX0_withCorner 24 = .ok (.i2l, 1) := by decide +kernel
theorem dX0_withCorner_25 : decode cX0_withCorner 25 = .ok (.lstore 7, 2) := by decide +kernel
theorem dX0_withCorner_27 : decode cX0_withCorner 27 = .ok (.lload 5, 2) := by decide +kernel
theorem dX0_withCorner_29 : decode cX0_withCorner 29 = .ok (.lload 7, 2) := by decide +kernel
theorem dX0_withCorner_31 : decode cX0_withCorner 31 = .ok (.bipush 8, 2) := by decide +kernel
theorem dX0_withCorner_33 : decode cX0_withCorner 33 = .ok (.iload_n 2, 1) := by decide +kernel
theorem dX0_withCorner_34 : decode cX0_withCorner 34 = .ok (.imul, 1) := by decide +kernel
theorem dX0_withCorner_35 : decode cX0_withCorner 35 = .ok (.lshl, 1) := by decide +kernel
theorem dX0_withCorner_36 : decode cX0_withCorner 36 = .ok (.lor, 1) := by decide +kernel
theorem dX0_withCorner_37 : decode cX0_withCorner 37 = .ok (.lreturn, 1) := by decide +kernel
set_option maxRecDepth 20000 in
theorem ggX0_turned_X0_quartersOf : GoodIn wsX0_turned wsX0_quartersOf := goodIn_r _ [4] (by decide +kernel) (by decide +kernel)
set_option maxRecDepth 20000 in
theorem gX0_turned_X0_quartersOf : GoodIn wsX0_turned (va_wsS RX0 168 yX0_quartersOf wsX0_quartersOf) := goodIn_app (goodIn_of _ (by decide +kernel)) ggX0_turned_X0_quartersOf
set_option maxRecDepth 20000 in
theorem ggX0_turned_X0_faceOf : GoodIn wsX0_turned wsX0_faceOf := goodIn_r _ [7] (by decide +kernel) (by decide +kernel)
set_option maxRecDepth 20000 in
theorem gX0_turned_X0_faceOf : GoodIn wsX0_turned (va_wsS RX0 134 yX0_faceOf wsX0_faceOf) := goodIn_app (goodIn_of _ (by decide +kernel)) ggX0_turned_X0_faceOf
set_option maxRecDepth 20000 in
theorem ggX0_turned_X0_quarterTurned : GoodIn wsX0_turned wsX0_quarterTurned := goodIn_r _ [10, 11, 12, 3, 13, 14, 15, 16, 17, 18, 19, 20, 21, 22, 23, 24, 25, 26, 27, 28, 29, 30] (by decide +kernel) (by decide +kernel)
set_option maxRecDepth 20000 in
theorem gX0_turned_X0_quarterTurned : GoodIn wsX0_turned (va_wsS RX0 179 yX0_quarterTurned wsX0_quarterTurned) := goodIn_app (goodIn_of _ (by decide +kernel)) ggX0_turned_X0_quarterTurned
theorem dX0_turned_0 : decode cX0_turned 0 = .ok (.lload_n 0, 1) := by decide +kernel
theorem dX0_turned_1 : decode cX0_turned 1 = .ok (.lstore_n 3, 1) := by decide +kernel
theorem dX0_turned_2 : decode cX0_turned 2 = .ok (.iconst 0, 1) := by decide +kernel
theorem dX0_turned_3 : decode cX0_turned 3 = .ok (.istore 5, 2) := by decide +kernel
theorem dX0_turned_5 : decode cX0_turned 5 = .ok (.iload 5, 2) := by decide +kernel
theorem dX0_turned_7 : decode cX0_turned 7 = .ok (.iload_n 2, 1) := by decide +kernel
theorem dX0_turned_8 : decode cX0_turned 8 = .ok (.invokestatic 168, 3) := by decide +kernel
theorem dX0_turned_11 : decode cX0_turned 11 = .ok (.if_icmp .ge 18, 3) := by decide +kernel
theorem dX0_turned_14 : decode cX0_turned 14 = .ok (.lload_n 3, 1) := by decide +kernel
theorem dX0_turned_15 : decode cX0_turned 15 = .ok (.iload_n 2, 1) := by decide +kernel
theorem dX0_turned_16 : decode cX0_turned 16 = .ok (.invokestatic 134, 3) := by decide +kernel
theorem dX0_turned_19 : decode cX0_turned 19 = .ok (.invokestatic 179, 3) := by decide +kernel
theorem dX0_turned_22 : decode cX0_turned 22 = .ok (.lstore_n 3, 1) := by decide +kernel
theorem dX0_turned_23 : decode cX0_turned 23 = .ok (.iinc 5 1, 3) := by decide +kernel
theorem dX0_turned_26 : decode cX0_turned 26 = .ok (.goto (-21), 3) := by decide +kernel
theorem dX0_turned_29 : decode cX0_turned 29 = .ok (.lload_n 3, 1) := by decide +kernel
theorem dX0_turned_30 : decode cX0_turned 30 = .ok (.lreturn, 1) := by decide +kernel
set_option maxRecDepth 20000 in
theorem ggX0_quarterTurned_X0_ringOf : GoodIn wsX0_quarterTurned wsX0_ringOf := goodIn_r _ [4] (by decide +kernel) (by decide +kernel)
set_option maxRecDepth 20000 in
theorem gX0_quarterTurned_X0_ringOf : GoodIn wsX0_quarterTurned (va_wsS RX0 182 yX0_ringOf wsX0_ringOf) := goodIn_app (goodIn_of _ (by decide +kernel)) ggX0_quarterTurned_X0_ringOf
set_option maxRecDepth 20000 in
theorem ggX0_quarterTurned_X0_moreTwistOf : GoodIn wsX0_quarterTurned wsX0_moreTwistOf := goodIn_r _ [7] (by decide +kernel) (by decide +kernel)
set_option maxRecDepth 20000 in
theorem gX0_quarterTurned_X0_moreTwistOf : GoodIn wsX0_quarterTurned (va_wsS RX0 185 yX0_moreTwistOf wsX0_moreTwistOf) := goodIn_app (goodIn_of _ (by decide +kernel)) ggX0_quarterTurned_X0_moreTwistOf
set_option maxRecDepth 20000 in
theorem ggX0_quarterTurned_X0_hexDigit : GoodIn wsX0_quarterTurned wsX0_hexDigit := goodIn_r _ [10] (by decide +kernel) (by decide +kernel)
set_option maxRecDepth 20000 in
theorem gX0_quarterTurned_X0_hexDigit : GoodIn wsX0_quarterTurned (va_wsS RX0 188 yX0_hexDigit wsX0_hexDigit) := goodIn_app (goodIn_of _ (by decide +kernel)) ggX0_quarterTurned_X0_hexDigit
set_option maxRecDepth 20000 in
theorem ggX0_quarterTurned_X0_cornerAt : GoodIn wsX0_quarterTurned wsX0_cornerAt := goodIn_r _ [13] (by decide +kernel) (by decide +kernel)
set_option maxRecDepth 20000 in
theorem gX0_quarterTurned_X0_cornerAt : GoodIn wsX0_quarterTurned (va_wsS RX0 87 yX0_cornerAt wsX0_cornerAt) := goodIn_app (goodIn_of _ (by decide +kernel)) ggX0_quarterTurned_X0_cornerAt
set_option maxRecDepth 20000 in
theorem ggX0_quarterTurned_X0_twistAt : GoodIn wsX0_quarterTurned wsX0_twistAt := goodIn_r _ [16] (by decide +kernel) (by decide +kernel)
set_option maxRecDepth 20000 in
theorem gX0_quarterTurned_X0_twistAt : GoodIn wsX0_quarterTurned (va_wsS RX0 91 yX0_twistAt wsX0_twistAt) := goodIn_app (goodIn_of _ (by decide +kernel)) ggX0_quarterTurned_X0_twistAt
set_option maxRecDepth 20000 in
theorem ggX0_quarterTurned_X0_withCorner : GoodIn wsX0_quarterTurned wsX0_withCorner := goodIn_r _ [19, 20, 21] (by decide +kernel) (by decide +kernel)
set_option maxRecDepth 20000 in
theorem gX0_quarterTurned_X0_withCorner : GoodIn wsX0_quarterTurned (va_wsS RX0 191 yX0_withCorner wsX0_withCorner) := goodIn_app (goodIn_of _ (by decide +kernel)) ggX0_quarterTurned_X0_withCorner
theorem dX0_quarterTurned_0 : decode cX0_quarterTurned 0 = .ok (.iload_n 2, 1) := by decide +kernel
theorem dX0_quarterTurned_1 : decode cX0_quarterTurned 1 = .ok (.invokestatic 182, 3) := by decide +kernel
theorem dX0_quarterTurned_4 : decode cX0_quarterTurned 4 = .ok (.istore_n 3, 1) := by decide +kernel
theorem dX0_quarterTurned_5 : decode cX0_quarterTurned 5 = .ok (.iload_n 2, 1) := by decide +kernel
theorem dX0_quarterTurned_6 : decode cX0_quarterTurned 6 = .ok (.invokestatic 185, 3) := by decide +kernel
theorem dX0_quarterTurned_9 : decode cX0_quarterTurned 9 = .ok (.istore 4, 2) := by decide +kernel
theorem dX0_quarterTurned_11 : decode cX0_quarterTurned 11 = .ok (.lload_n 0, 1) := by decide +kernel
theorem dX0_quarterTurned_12 : decode cX0_quarterTurned 12 = .ok (.lstore 5, 2) := by decide +kernel
theorem dX0_quarterTurned_14 : decode cX0_quarterTurned 14 = .ok (.iconst 0, 1) := by decide +kernel
theorem dX0_quarterTurned_15 : decode cX0_quarterTurned 15 = .ok (.istore 7, 2) := by decide +kernel
theorem dX0_quarterTurned_17 : decode cX0_quarterTurned 17 = .ok (.iload 7, 2) := by decide +kernel
theorem dX0_quarterTurned_19 : decode cX0_quarterTurned 19 = .ok (.iconst 4, 1) := by decide +kernel
theorem dX0_quarterTurned_20 : decode cX0_quarterTurned 20 = .ok (.if_icmp .ge 58, 3) := by decide +kernel
theorem dX0_quarterTurned_23 : decode cX0_quarterTurned 23 = .ok (.iload_n 3, 1) := by decide +kernel
theorem dX0_quarterTurned_24 : decode cX0_quarterTurned 24 = .ok (.iload 7, 2) := by decide +kernel
theorem dX0_quarterTurned_26 : decode cX0_quarterTurned 26 = .ok (.invokestatic 188, 3) := by decide +kernel
theorem dX0_quarterTurned_29 : decode cX0_quarterTurned 29 = .ok (.istore 8, 2) := by decide +kernel
theorem dX0_quarterTurned_31 : decode cX0_quarterTurned 31 = .ok (.iload_n 3, 1) := by decide +kernel
theorem dX0_quarterTurned_32 : decode cX0_quarterTurned 32 = .ok (.iload 7, 2) := by decide +kernel
theorem dX0_quarterTurned_34 : decode cX0_quarterTurned 34 = .ok (.iconst 1, 1) := by decide +kernel
theorem dX0_quarterTurned_35 : decode cX0_quarterTurned 35 = .ok (.iadd, 1) := by decide +kernel
theorem dX0_quarterTurned_36 : decode cX0_quarterTurned 36 = .ok (.iconst 4, 1) := by decide +kernel
theorem dX0_quarterTurned_37 : decode cX0_quarterTurned 37 = .ok (.irem, 1) := by decide +kernel
theorem dX0_quarterTurned_38 : decode cX0_quarterTurned 38 = .ok (.invokestatic 188, 3) := by decide +kernel
theorem dX0_quarterTurned_41 : decode cX0_quarterTurned 41 = .ok (.istore 9, 2) := by decide +kernel
theorem dX0_quarterTurned_43 : decode cX0_quarterTurned 43 = .ok (.lload 5, 2) := by decide +kernel
theorem dX0_quarterTurned_45 : decode cX0_quarterTurned 45 = .ok (.iload 9, 2) := by decide +kernel
theorem dX0_quarterTurned_47 : decode cX0_quarterTurned 47 = .ok (.lload_n 0, 1) := by decide +kernel
theorem dX0_quarterTurned_48 : decode cX0_quarterTurned 48 = .ok (.iload 8, 2) := by decide +kernel
theorem dX0_quarterTurned_50 : decode cX0_quarterTurned 50 = .ok (.invokestatic 87, 3) := by decide +kernel
theorem dX0_quarterTurned_53 : decode cX0_quarterTurned 53 = .ok (.lload_n 0, 1) := by decide +kernel
theorem dX0_quarterTurned_54 : decode cX0_quarterTurned 54 = .ok (.iload 8, 2) := by decide +kernel
theorem dX0_quarterTurned_56 : decode cX0_quarterTurned 56 = .ok (.invokestatic 91, 3) := by decide +kernel
theorem dX0_quarterTurned_59 : decode cX0_quarterTurned 59 = .ok (.iload 4, 2) := by decide +kernel
theorem dX0_quarterTurned_61 : decode cX0_quarterTurned 61 = .ok (.iload 7, 2) := by decide +kernel
theorem dX0_quarterTurned_63 : decode cX0_quarterTurned 63 = .ok (.invokestatic 188, 3) := by decide +kernel
theorem dX0_quarterTurned_66 : decode cX0_quarterTurned 66 = .ok (.iadd, 1) := by decide +kernel
theorem dX0_quarterTurned_67 : decode cX0_quarterTurned 67 = .ok (.invokestatic 191, 3) := by decide +kernel
theorem dX0_quarterTurned_70 : decode cX0_quarterTurned 70 = .ok (.lstore 5, 2) := by decide +kernel
theorem dX0_quarterTurned_72 : decode cX0_quarterTurned 72 = .ok (.iinc 7 1, 3) := by decide +kernel
theorem dX0_quarterTurned_75 : decode cX0_quarterTurned 75 = .ok (.goto (-58), 3) := by decide +kernel
theorem dX0_quarterTurned_78 : decode cX0_quarterTurned 78 = .ok (.lload 5, 2) := by decide +kernel
theorem dX0_quarterTurned_80 : decode cX0_quarterTurned 80 = .ok (.lreturn, 1) := by decide +kernel
theorem dX0_ringOf_0 : decode cX0_ringOf 0 = .ok (.iload_n 0, 1) := by decide +kernel
theorem dX0_ringOf_1 : decode cX0_ringOf 1 = .ok (.lookupswitch 35 #[(0, 27), (1, 31)], 27) := by decide +kernel
theorem dX0_ringOf_28 : decode cX0_ringOf 28 = .ok (.sipush 291, 3) := by decide +kernel
theorem dX0_ringOf_31 : decode cX0_ringOf 31 = .ok (.ireturn, 1) := by decide +kernel
theorem dX0_ringOf_32 : decode cX0_ringOf 32 = .ok (.sipush 884, 3) := by decide +kernel
theorem dX0_ringOf_35 : decode cX0_ringOf 35 = .ok (.ireturn, 1) := by decide +kernel
theorem dX0_ringOf_36 : decode cX0_ringOf 36 = .ok (.sipush 1105, 3) := by decide +kernel
theorem dX0_ringOf_39 : decode cX0_ringOf 39 = .ok (.ireturn, 1) := by decide +kernel
theorem dX0_moreTwistOf_0 : decode cX0_moreTwistOf 0 = .ok (.iload_n 0, 1) := by decide +kernel
theorem dX0_moreTwistOf_1 : decode cX0_moreTwistOf 1 = .ok (.lookupswitch 33 #[(0, 27), (1, 29)], 27) := by decide +kernel
theorem dX0_moreTwistOf_28 : decode cX0_moreTwistOf 28 = .ok (.iconst 0, 1) := by decide +kernel
theorem dX0_moreTwistOf_29 : decode cX0_moreTwistOf 29 = .ok (.ireturn, 1) := by decide +kernel
theorem dX0_moreTwistOf_30 : decode cX0_moreTwistOf 30 = .ok (.sipush 4626, 3) := by decide +kernel
theorem dX0_moreTwistOf_33 : decode cX0_moreTwistOf 33 = .ok (.ireturn, 1) := by decide +kernel
theorem dX0_moreTwistOf_34 : decode cX0_moreTwistOf 34 = .ok (.sipush 8481, 3) := by decide +kernel
theorem dX0_moreTwistOf_37 : decode cX0_moreTwistOf 37 = .ok (.ireturn, 1) := by decide +kernel
theorem dX0_hexDigit_0 : decode cX0_hexDigit 0 = .ok (.iload_n 0, 1) := by decide +kernel
theorem dX0_hexDigit_1 : decode cX0_hexDigit 1 = .ok (.iconst 4, 1) := by decide +kernel
theorem dX0_hexDigit_2 : decode cX0_hexDigit 2 = .ok (.iconst 3, 1) := by decide +kernel
theorem dX0_hexDigit_3 : decode cX0_hexDigit 3 = .ok (.iload_n 1, 1) := by decide +kernel
theorem dX0_hexDigit_4 : decode cX0_hexDigit 4 = .ok (.isub, 1) := by decide +kernel
theorem dX0_hexDigit_5 : decode cX0_hexDigit 5 = .ok (.imul, 1) := by decide +kernel
theorem dX0_hexDigit_6 : decode cX0_hexDigit 6 = .ok (.ishr, 1) := by decide +kernel
theorem dX0_hexDigit_7 : decode cX0_hexDigit 7 = .ok (.bipush 15, 2) := by decide +kernel
theorem dX0_hexDigit_9 : decode cX0_hexDigit 9 = .ok (.iand, 1) := by decide +kernel
theorem dX0_hexDigit_10 : decode cX0_hexDigit 10 = .ok (.ireturn, 1) := by decide +kernel
set_option maxRecDepth 20000 in
theorem ggX0_behindDeed_X0_cornerAt : GoodIn wsX0_behindDeed wsX0_cornerAt := goodIn_r _ [4] (by decide +kernel) (by decide +kernel)
set_option maxRecDepth 20000 in
theorem gX0_behindDeed_X0_cornerAt : GoodIn wsX0_behindDeed (va_wsS RX0 87 yX0_cornerAt wsX0_cornerAt) := goodIn_app (goodIn_of _ (by decide +kernel)) ggX0_behindDeed_X0_cornerAt
set_option maxRecDepth 20000 in
theorem ggX0_behindDeed_X0_twistAt : GoodIn wsX0_behindDeed wsX0_twistAt := goodIn_r _ [7] (by decide +kernel) (by decide +kernel)
set_option maxRecDepth 20000 in
theorem gX0_behindDeed_X0_twistAt : GoodIn wsX0_behindDeed (va_wsS RX0 91 yX0_twistAt wsX0_twistAt) := goodIn_app (goodIn_of _ (by decide +kernel)) ggX0_behindDeed_X0_twistAt
set_option maxRecDepth 20000 in
theorem ggX0_behindDeed_X0_withCorner : GoodIn wsX0_behindDeed wsX0_withCorner := goodIn_r _ [10, 11, 12] (by decide +kernel) (by decide +kernel)
set_option maxRecDepth 20000 in
theorem gX0_behindDeed_X0_withCorner : GoodIn wsX0_behindDeed (va_wsS RX0 191 yX0_withCorner wsX0_withCorner) := goodIn_app (goodIn_of _ (by decide +kernel)) ggX0_behindDeed_X0_withCorner
theorem dX0_behindDeed_0 : decode cX0_behindDeed 0 = .ok (.lload_n 0, 1) := by decide +kernel
theorem dX0_behindDeed_1 : decode cX0_behindDeed 1 = .ok (.lstore 4, 2) := by decide +kernel
theorem dX0_behindDeed_3 : decode cX0_behindDeed 3 = .ok (.iconst 0, 1) := by decide +kernel
theorem dX0_behindDeed_4 : decode cX0_behindDeed 4 = .ok (.istore 6, 2) := by decide +kernel
theorem dX0_behindDeed_6 : decode cX0_behindDeed 6 = .ok (.iload 6, 2) := by decide +kernel
theorem dX0_behindDeed_8 : decode cX0_behindDeed 8 = .ok (.bipush 8, 2) := by decide +kernel
theorem dX0_behindDeed_10 : decode cX0_behindDeed 10 = .ok (.if_icmp .ge 45, 3) := by decide +kernel
theorem dX0_behindDeed_13 : decode cX0_behindDeed 13 = .ok (.lload_n 2, 1) := by decide +kernel
theorem dX0_behindDeed_14 : decode cX0_behindDeed 14 = .ok (.iload 6, 2) := by decide +kernel
theorem dX0_behindDeed_16 : decode cX0_behindDeed 16 = .ok (.invokestatic 87, 3) := by decide +kernel
theorem dX0_behindDeed_19 : decode cX0_behindDeed 19 = .ok (.istore 7, 2) := by decide +kernel
theorem dX0_behindDeed_21 : decode cX0_behindDeed 21 = .ok (.lload 4, 2) := by decide +kernel
theorem dX0_behindDeed_23 : decode cX0_behindDeed 23 = .ok (.iload 6, 2) := by decide +kernel
theorem dX0_behindDeed_25 : decode cX0_behindDeed 25 = .ok (.lload_n 0, 1) := by decide +kernel
theorem dX0_behindDeed_26 : decode cX0_behindDeed 26 = .ok (.iload 7, 2) := by decide +kernel
theorem dX0_behindDeed_28 : decode cX0_behindDeed 28 = .ok (.invokestatic 87, 3) := by decide +kernel
theorem dX0_behindDeed_31 : decode cX0_behindDeed 31 = .ok (.lload_n 0, 1) := by decide +kernel
theorem dX0_behindDeed_32 : decode cX0_behindDeed 32 = .ok (.iload 7, 2) := by decide +kernel
theorem dX0_behindDeed_34 : decode cX0_behindDeed 34 = .ok (.invokestatic 91, 3) := by decide +kernel
theorem dX0_behindDeed_37 : decode cX0_behindDeed 37 = .ok (.lload_n 2, 1) := by decide +kernel
theorem dX0_behindDeed_38 : decode cX0_behindDeed 38 = .ok (.iload 6, 2) := by decide +kernel
theorem dX0_behindDeed_40 : decode cX0_behindDeed 40 = .ok (.invokestatic 91, 3) := by decide +kernel
theorem dX0_behindDeed_43 : decode cX0_behindDeed 43 = .ok (.iadd, 1) := by decide +kernel
theorem dX0_behindDeed_44 : decode cX0_behindDeed 44 = .ok (.invokestatic 191, 3) := by decide +kernel
theorem dX0_behindDeed_47 : decode cX0_behindDeed 47 = .ok (.lstore 4, 2) := by decide +kernel
theorem dX0_behindDeed_49 : decode cX0_behindDeed 49 = .ok (.iinc 6 1, 3) := by decide +kernel
theorem dX0_behindDeed_52 : decode cX0_behindDeed 52 = .ok (.goto (-46), 3) := by decide +kernel
theorem dX0_behindDeed_55 : decode cX0_behindDeed 55 = .ok (.lload 4, 2) := by decide +kernel
theorem dX0_behindDeed_57 : decode cX0_behindDeed 57 = .ok (.lreturn, 1) := by decide +kernel
set_option maxRecDepth 20000 in
theorem ggX0_fewestTurns_X0_isRightWithin : GoodIn wsX0_fewestTurns wsX0_isRightWithin := goodIn_r _ [4, 5, 6, 7, 3, 8, 9, 10, 11, 12, 13, 14, 15, 16, 17, 18, 19, 20, 21, 22, 23, 24, 25, 26, 27, 28, 29, 30, 31, 32, 33, 34, 35, 36, 37, 38, 39, 40, 41, 42, 43, 1, 2] (by decide +kernel) (by decide +kernel)
set_option maxRecDepth 20000 in
theorem gX0_fewestTurns_X0_isRightWithin : GoodIn wsX0_fewestTurns (va_wsS RX0 137 yX0_isRightWithin wsX0_isRightWithin) := goodIn_app (goodIn_of _ (by decide +kernel)) ggX0_fewestTurns_X0_isRightWithin
theorem dX0_fewestTurns_0 : decode cX0_fewestTurns 0 = .ok (.iconst 0, 1) := by decide +kernel
theorem dX0_fewestTurns_1 : decode cX0_fewestTurns 1 = .ok (.istore_n 3, 1) := by decide +kernel
theorem dX0_fewestTurns_2 : decode cX0_fewestTurns 2 = .ok (.iload_n 3, 1) := by decide +kernel
theorem dX0_fewestTurns_3 : decode cX0_fewestTurns 3 = .ok (.iload_n 2, 1) := by decide +kernel
theorem dX0_fewestTurns_4 : decode cX0_fewestTurns 4 = .ok (.if_icmp .gt 20, 3) := by decide +kernel
theorem dX0_fewestTurns_7 : decode cX0_fewestTurns 7 = .ok (.lload_n 0, 1) := by decide +kernel
theorem dX0_fewestTurns_8 : decode cX0_fewestTurns 8 = .ok (.iload_n 3, 1) := by decide +kernel
theorem dX0_fewestTurns_9 : decode cX0_fewestTurns 9 = .ok (.iconst (-1), 1) := by decide +kernel
theorem dX0_fewestTurns_10 : decode cX0_fewestTurns 10 = .ok (.invokestatic 137, 3) := by decide +kernel
theorem dX0_fewestTurns_13 : decode cX0_fewestTurns 13 = .ok (.ifCond .eq 5, 3) := by decide +kernel
theorem dX0_fewestTurns_16 : decode cX0_fewestTurns 16 = .ok (.iload_n 3, 1) := by decide +kernel
theorem dX0_fewestTurns_17 : decode cX0_fewestTurns 17 = .ok (.ireturn, 1) := by decide +kernel
theorem dX0_fewestTurns_18 : decode cX0_fewestTurns 18 = .ok (.iinc 3 1, 3) := by decide +kernel
theorem dX0_fewestTurns_21 : decode cX0_fewestTurns 21 = .ok (.goto (-19), 3) := by decide +kernel
theorem dX0_fewestTurns_24 : decode cX0_fewestTurns 24 = .ok (.iconst (-1), 1) := by decide +kernel
theorem dX0_fewestTurns_25 : decode cX0_fewestTurns 25 = .ok (.ireturn, 1) := by decide +kernel
set_option maxRecDepth 20000 in
theorem ggX0_isRightWithin_X0_wrongCorners : GoodIn wsX0_isRightWithin wsX0_wrongCorners := goodIn_r _ [5, 6, 7, 4, 8, 9, 10, 11, 12, 13, 14, 15, 16, 17] (by decide +kernel) (by decide +kernel)
set_option maxRecDepth 20000 in
theorem gX0_isRightWithin_X0_wrongCorners : GoodIn wsX0_isRightWithin (va_wsS RX0 65 yX0_wrongCorners wsX0_wrongCorners) := goodIn_app (goodIn_of _ (by decide +kernel)) ggX0_isRightWithin_X0_wrongCorners
set_option maxRecDepth 20000 in
theorem ggX0_isRightWithin_X0_mostSetRight : GoodIn wsX0_isRightWithin wsX0_mostSetRight := goodIn_r _ [20] (by decide +kernel) (by decide +kernel)
set_option maxRecDepth 20000 in
theorem gX0_isRightWithin_X0_mostSetRight : GoodIn wsX0_isRightWithin (va_wsS RX0 195 yX0_mostSetRight wsX0_mostSetRight) := goodIn_app (goodIn_of _ (by decide +kernel)) ggX0_isRightWithin_X0_mostSetRight
set_option maxRecDepth 20000 in
theorem ggX0_isRightWithin_X0_isRightBeginning : GoodIn wsX0_isRightWithin wsX0_isRightBeginning := goodIn_r _ [23, 24, 25, 4, 26, 27, 28, 29, 30, 31, 32, 33, 34, 35, 12, 13, 14, 15, 16, 17, 36, 37, 38, 39, 40, 41, 42, 0, 1, 2, 3, 5, 6, 7, 8, 9, 10, 11, 18, 19, 20, 21, 22] (by decide +kernel) (by decide +kernel)
set_option maxRecDepth 20000 in
theorem gX0_isRightWithin_X0_isRightBeginning : GoodIn wsX0_isRightWithin (va_wsS RX0 198 yX0_isRightBeginning wsX0_isRightBeginning) := goodIn_app (goodIn_of _ (by decide +kernel)) ggX0_isRightWithin_X0_isRightBeginning
theorem dX0_isRightWithin_0 : decode cX0_isRightWithin 0 = .ok (.lload_n 0, 1) := by decide +kernel
theorem dX0_isRightWithin_1 : decode cX0_isRightWithin 1 = .ok (.ldc2_w 9, 3) := by decide +kernel
theorem dX0_isRightWithin_4 : decode cX0_isRightWithin 4 = .ok (.lcmp, 1) := by decide +kernel
theorem dX0_isRightWithin_5 : decode cX0_isRightWithin 5 = .ok (.ifCond .ne 5, 3) := by decide +kernel
theorem dX0_isRightWithin_8 : decode cX0_isRightWithin 8 = .ok (.iconst 1, 1) := by decide +kernel
theorem dX0_isRightWithin_9 : decode cX0_isRightWithin 9 = .ok (.ireturn, 1) := by decide +kernel
theorem dX0_isRightWithin_10 : decode cX0_isRightWithin 10 = .ok (.iload_n 2, 1) := by decide +kernel
theorem dX0_isRightWithin_11 : decode cX0_isRightWithin 11 = .ok (.ifCond .le 14, 3) := by decide +kernel
theorem dX0_isRightWithin_14 : decode cX0_isRightWithin 14 = .ok (.lload_n 0, 1) := by decide +kernel
theorem dX0_isRightWithin_15 : decode cX0_isRightWithin 15 = .ok (.invokestatic 65, 3) := by decide +kernel
theorem dX0_isRightWithin_18 : decode cX0_isRightWithin 18 = .ok (.iload_n 2, 1) := by decide +kernel
theorem dX0_isRightWithin_19 : decode cX0_isRightWithin 19 = .ok (.invokestatic 195, 3) := by decide +kernel
theorem dX0_isRightWithin_22 : decode cX0_isRightWithin 22 = .ok (.if_icmp .le 5, 3) := by decide +kernel
theorem dX0_isRightWithin_25 : decode cX0_isRightWithin 25 = .ok (.iconst 0, 1) := by decide +kernel
theorem dX0_isRightWithin_26 : decode cX0_isRightWithin 26 = .ok (.ireturn, 1) := by decide +kernel
theorem dX0_isRightWithin_27 : decode cX0_isRightWithin 27 = .ok (.iconst 0, 1) := by decide +kernel
theorem dX0_isRightWithin_28 : decode cX0_isRightWithin 28 = .ok (.istore 4, 2) := by decide +kernel
theorem dX0_isRightWithin_30 : decode cX0_isRightWithin 30 = .ok (.iload 4, 2) := by decide +kernel
theorem dX0_isRightWithin_32 : decode cX0_isRightWithin 32 = .ok (.iconst 3, 1) := by decide +kernel
theorem dX0_isRightWithin_33 : decode cX0_isRightWithin 33 = .ok (.if_icmp .ge 27, 3) := by decide +kernel
theorem dX0_isRightWithin_36 : decode cX0_isRightWithin 36 = .ok (.iload 4, 2) := by decide +kernel
theorem dX0_isRightWithin_38 : decode cX0_isRightWithin 38 = .ok (.iload_n 3, 1) := by decide +kernel
theorem dX0_isRightWithin_39 : decode cX0_isRightWithin 39 = .ok (.if_icmp .eq 15, 3) := by decide +kernel
theorem dX0_isRightWithin_42 : decode cX0_isRightWithin 42 = .ok (.lload_n 0, 1) := by decide +kernel
theorem dX0_isRightWithin_43 : decode cX0_isRightWithin 43 = .ok (.iload 4, 2) := by decide +kernel
theorem dX0_isRightWithin_45 : decode cX0_isRightWithin 45 = .ok (.iload_n 2, 1) := by decide +kernel
theorem dX0_isRightWithin_46 : decode cX0_isRightWithin 46 = .ok (.invokestatic 198, 3) := by decide +kernel
theorem dX0_isRightWithin_49 : decode cX0_isRightWithin 49 = .ok (.ifCond .eq 5, 3) := by decide +kernel
theorem dX0_isRightWithin_52 : decode cX0_isRightWithin 52 = .ok (.iconst 1, 1) := by decide +kernel
theorem dX0_isRightWithin_53 : decode cX0_isRightWithin 53 = .ok (.ireturn, 1) := by decide +kernel
theorem dX0_isRightWithin_54 : decode cX0_isRightWithin 54 = .ok (.iinc 4 1, 3) := by decide +kernel
theorem dX0_isRightWithin_57 : decode cX0_isRightWithin 57 = .ok (.goto (-27), 3) := by decide +kernel
theorem dX0_isRightWithin_60 : decode cX0_isRightWithin 60 = .ok (.iconst 0, 1) := by decide +kernel
theorem dX0_isRightWithin_61 : decode cX0_isRightWithin 61 = .ok (.ireturn, 1) := by decide +kernel
set_option maxRecDepth 20000 in
theorem ggX0_isRightBeginning_X0_quarterTurned : GoodIn wsX0_isRightBeginning wsX0_quarterTurned := goodIn_r _ [4, 5, 6, 3, 7, 8, 9, 10, 11, 12, 13, 14, 15, 16, 17, 18, 19, 20, 21, 22, 23, 24] (by decide +kernel) (by decide +kernel)
set_option maxRecDepth 20000 in
theorem gX0_isRightBeginning_X0_quarterTurned : GoodIn wsX0_isRightBeginning (va_wsS RX0 179 yX0_quarterTurned wsX0_quarterTurned) := goodIn_app (goodIn_of _ (by decide +kernel)) ggX0_isRightBeginning_X0_quarterTurned
set_option maxRecDepth 20000 in
theorem ggX0_isRightBeginning_X0_isRightWithin : GoodIn wsX0_isRightBeginning wsX0_isRightWithin := goodIn_r _ [27, 28, 29, 30, 3, 31, 32, 33, 34, 35, 36, 37, 14, 15, 16, 17, 18, 19, 38, 39, 40, 41, 42, 0, 1, 2, 4, 5, 6, 7, 8, 9, 10, 11, 12, 13, 20, 21, 22, 23, 24, 25, 26] (by decide +kernel) (by decide +kernel)
set_option maxRecDepth 20000 in
theorem gX0_isRightBeginning_X0_isRightWithin : GoodIn wsX0_isRightBeginning (va_wsS RX0 137 yX0_isRightWithin wsX0_isRightWithin) := goodIn_app (goodIn_of _ (by decide +kernel)) ggX0_isRightBeginning_X0_isRightWithin
theorem dX0_isRightBeginning_0 : decode cX0_isRightBeginning 0 = .ok (.lload_n 0, 1) := by decide +kernel
theorem dX0_isRightBeginning_1 : decode cX0_isRightBeginning 1 = .ok (.lstore 4, 2) := by decide +kernel
theorem dX0_isRightBeginning_3 : decode cX0_isRightBeginning 3 = .ok (.iconst 1, 1) := by decide +kernel
theorem dX0_isRightBeginning_4 : decode cX0_isRightBeginning 4 = .ok (.istore 6, 2) := by decide +kernel
theorem dX0_isRightBeginning_6 : decode cX0_isRightBeginning 6 = .ok (.iload 6, 2) := by decide +kernel
theorem dX0_isRightBeginning_8 : decode cX0_isRightBeginning 8 = .ok (.iconst 4, 1) := by decide +kernel
theorem dX0_isRightBeginning_9 : decode cX0_isRightBeginning 9 = .ok (.if_icmp .ge 31, 3) := by decide +kernel
theorem dX0_isRightBeginning_12 : decode cX0_isRightBeginning 12 = .ok (.lload 4, 2) := by decide +kernel
theorem dX0_isRightBeginning_14 : decode cX0_isRightBeginning 14 = .ok (.iload_n 2, 1) := by decide +kernel
theorem dX0_isRightBeginning_15 : decode cX0_isRightBeginning 15 = .ok (.invokestatic 179, 3) := by decide +kernel
theorem dX0_isRightBeginning_18 : decode cX0_isRightBeginning 18 = .ok (.lstore 4, 2) := by decide +kernel
theorem dX0_isRightBeginning_20 : decode cX0_isRightBeginning 20 = .ok (.lload 4, 2) := by decide +kernel
theorem dX0_isRightBeginning_22 : decode cX0_isRightBeginning 22 = .ok (.iload_n 3, 1) := by decide +kernel
theorem dX0_isRightBeginning_23 : decode cX0_isRightBeginning 23 = .ok (.iconst 1, 1) := by decide +kernel
theorem dX0_isRightBeginning_24 : decode cX0_isRightBeginning 24 = .ok (.isub, 1) := by decide +kernel
theorem dX0_isRightBeginning_25 : decode cX0_isRightBeginning 25 = .ok (.iload_n 2, 1) := by decide +kernel
theorem dX0_isRightBeginning_26 : decode cX0_isRightBeginning 26 = .ok (.invokestatic 137, 3) := by decide +kernel
theorem dX0_isRightBeginning_29 : decode cX0_isRightBeginning 29 = .ok (.ifCond .eq 5, 3) := by decide +kernel
theorem dX0_isRightBeginning_32 : decode cX0_isRightBeginning 32 = .ok (.iconst 1, 1) := by decide +kernel
theorem dX0_isRightBeginning_33 : decode cX0_isRightBeginning 33 = .ok (.ireturn, 1) := by decide +kernel
theorem dX0_isRightBeginning_34 : decode cX0_isRightBeginning 34 = .ok (.iinc 6 1, 3) := by decide +kernel
theorem dX0_isRightBeginning_37 : decode cX0_isRightBeginning 37 = .ok (.goto (-31), 3) := by decide +kernel
theorem dX0_isRightBeginning_40 : decode cX0_isRightBeginning 40 = .ok (.iconst 0, 1) := by decide +kernel
theorem dX0_isRightBeginning_41 : decode cX0_isRightBeginning 41 = .ok (.ireturn, 1) := by decide +kernel
theorem dX0_mostSetRight_0 : decode cX0_mostSetRight 0 = .ok (.iload_n 0, 1) := by decide +kernel
theorem dX0_mostSetRight_1 : decode cX0_mostSetRight 1 = .ok (.iconst 1, 1) := by decide +kernel
theorem dX0_mostSetRight_2 : decode cX0_mostSetRight 2 = .ok (.if_icmp .ne 5, 3) := by decide +kernel
theorem dX0_mostSetRight_5 : decode cX0_mostSetRight 5 = .ok (.iconst 4, 1) := by decide +kernel
theorem dX0_mostSetRight_6 : decode cX0_mostSetRight 6 = .ok (.ireturn, 1) := by decide +kernel
theorem dX0_mostSetRight_7 : decode cX0_mostSetRight 7 = .ok (.iload_n 0, 1) := by decide +kernel
theorem dX0_mostSetRight_8 : decode cX0_mostSetRight 8 = .ok (.iconst 2, 1) := by decide +kernel
theorem dX0_mostSetRight_9 : decode cX0_mostSetRight 9 = .ok (.if_icmp .ne 8, 3) := by decide +kernel
theorem dX0_mostSetRight_12 : decode cX0_mostSetRight 12 = .ok (.bipush 6, 2) := by decide +kernel
theorem dX0_mostSetRight_14 : decode cX0_mostSetRight 14 = .ok (.goto 5, 3) := by decide +kernel
theorem dX0_mostSetRight_17 : decode cX0_mostSetRight 17 = .ok (.bipush 8, 2) := by decide +kernel
theorem dX0_mostSetRight_19 : decode cX0_mostSetRight 19 = .ok (.ireturn, 1) := by decide +kernel
end
section
theorem dL_below_0 : decode cL_below 0 = .ok (.iload_n 0, 1) := by decide +kernel
theorem dL_below_1 : decode cL_below 1 = .ok (.ldc 7, 2) := by decide +kernel
theorem dL_below_3 : decode cL_below 3 = .ok (.iand, 1) := by decide +kernel
theorem dL_below_4 : decode cL_below 4 = .ok (.iload_n 1, 1) := by decide +kernel
theorem dL_below_5 : decode cL_below 5 = .ok (.irem, 1) := by decide +kernel
theorem dL_below_6 : decode cL_below 6 = .ok (.ireturn, 1) := by decide +kernel
theorem dL_cell_0 : decode cL_cell 0 = .ok (.iload_n 1, 1) := by decide +kernel
theorem dL_cell_1 : decode cL_cell 1 = .ok (.aload_n 0, 1) := by decide +kernel
theorem dL_cell_2 : decode cL_cell 2 = .ok (.arraylength, 1) := by decide +kernel
theorem dL_cell_3 : decode cL_cell 3 = .ok (.if_icmp .ge 9, 3) := by decide +kernel
theorem dL_cell_6 : decode cL_cell 6 = .ok (.aload_n 0, 1) := by decide +kernel
theorem dL_cell_7 : decode cL_cell 7 = .ok (.iload_n 1, 1) := by decide +kernel
theorem dL_cell_8 : decode cL_cell 8 = .ok (.iaload, 1) := by decide +kernel
theorem dL_cell_9 : decode cL_cell 9 = .ok (.goto 9, 3) := by decide +kernel
theorem dL_cell_12 : decode cL_cell 12 = .ok (.ldc 8, 2) := by decide +kernel
theorem dL_cell_14 : decode cL_cell 14 = .ok (.iload_n 1, 1) := by decide +kernel
theorem dL_cell_15 : decode cL_cell 15 = .ok (.iconst 3, 1) := by decide +kernel
theorem dL_cell_16 : decode cL_cell 16 = .ok (.iadd, 1) := by decide +kernel
theorem dL_cell_17 : decode cL_cell 17 = .ok (.imul, 1) := by decide +kernel
theorem dL_cell_18 : decode cL_cell 18 = .ok (.ireturn, 1) := by decide +kernel
set_option maxRecDepth 20000 in
theorem ggL_wordOf_L_cell : GoodIn wsL_wordOf wsL_cell := goodIn_r _ [5, 6] (by decide +kernel) (by decide +kernel)
set_option maxRecDepth 20000 in
theorem gL_wordOf_L_cell : GoodIn wsL_wordOf (va_wsS RL 9 yL_cell wsL_cell) := goodIn_app (goodIn_of _ (by decide +kernel)) ggL_wordOf_L_cell
set_option maxRecDepth 20000 in
theorem ggL_wordOf_L_below : GoodIn wsL_wordOf wsL_below := goodIn_r _ [9, 10] (by decide +kernel) (by decide +kernel)
set_option maxRecDepth 20000 in
theorem gL_wordOf_L_below : GoodIn wsL_wordOf (va_wsS RL 15 yL_below wsL_below) := goodIn_app (goodIn_of _ (by decide +kernel)) ggL_wordOf_L_below
theorem dL_wordOf_0 : decode cL_wordOf 0 = .ok (.aload_n 0, 1) := by decide +kernel
theorem dL_wordOf_1 : decode cL_wordOf 1 = .ok (.iload_n 1, 1) := by decide +kernel
theorem dL_wordOf_2 : decode cL_wordOf 2 = .ok (.invokestatic 9, 3) := by decide +kernel
theorem dL_wordOf_5 : decode cL_wordOf 5 = .ok (.bipush 13, 2) := by decide +kernel
theorem dL_wordOf_7 : decode cL_wordOf 7 = .ok (.invokestatic 15, 3) := by decide +kernel
theorem dL_wordOf_10 : decode cL_wordOf 10 = .ok (.newarray .int, 2) := by decide +kernel
theorem dL_wordOf_12 : decode cL_wordOf 12 = .ok (.astore_n 2, 1) := by decide +kernel
theorem dL_wordOf_13 : decode cL_wordOf 13 = .ok (.iconst 0, 1) := by decide +kernel
theorem dL_wordOf_14 : decode cL_wordOf 14 = .ok (.istore_n 3, 1) := by decide +kernel
theorem dL_wordOf_15 : decode cL_wordOf 15 = .ok (.iload_n 3, 1) := by decide +kernel
theorem dL_wordOf_16 : decode cL_wordOf 16 = .ok (.aload_n 2, 1) := by decide +kernel
theorem dL_wordOf_17 : decode cL_wordOf 17 = .ok (.arraylength, 1) := by decide +kernel
theorem dL_wordOf_18 : decode cL_wordOf 18 = .ok (.if_icmp .ge 31, 3) := by decide +kernel
theorem dL_wordOf_21 : decode cL_wordOf 21 = .ok (.aload_n 2, 1) := by decide +kernel
theorem dL_wordOf_22 : decode cL_wordOf 22 = .ok (.iload_n 3, 1) := by decide +kernel
theorem dL_wordOf_23 : decode cL_wordOf 23 = .ok (.aload_n 0, 1) := by decide +kernel
theorem dL_wordOf_24 : decode cL_wordOf 24 = .ok (.iconst 5, 1) := by decide +kernel
theorem dL_wordOf_25 : decode cL_wordOf 25 = .ok (.iload_n 1, 1) := by decide +kernel
theorem dL_wordOf_26 : decode cL_wordOf 26 = .ok (.iload_n 3, 1) := by decide +kernel
theorem dL_wordOf_27 : decode cL_wordOf 27 = .ok (.iadd, 1) := by decide +kernel
theorem dL_wordOf_28 : decode cL_wordOf 28 = .ok (.bipush 11, 2) := by decide +kernel
theorem dL_wordOf_30 : decode cL_wordOf 30 = .ok (.irem, 1) := by decide +kernel
theorem dL_wordOf_31 : decode cL_wordOf 31 = .ok (.iadd, 1) := by decide +kernel
theorem dL_wordOf_32 : decode cL_wordOf 32 = .ok (.invokestatic 9, 3) := by decide +kernel
theorem dL_wordOf_35 : decode cL_wordOf 35 = .ok (.iload_n 3, 1) := by decide +kernel
theorem dL_wordOf_36 : decode cL_wordOf 36 = .ok (.ishr, 1) := by decide +kernel
theorem dL_wordOf_37 : decode cL_wordOf 37 = .ok (.bipush 9, 2) := by decide +kernel
theorem dL_wordOf_39 : decode cL_wordOf 39 = .ok (.invokestatic 15, 3) := by decide +kernel
theorem dL_wordOf_42 : decode cL_wordOf 42 = .ok (.iastore, 1) := by decide +kernel
theorem dL_wordOf_43 : decode cL_wordOf 43 = .ok (.iinc 3 1, 3) := by decide +kernel
theorem dL_wordOf_46 : decode cL_wordOf 46 = .ok (.goto (-31), 3) := by decide +kernel
theorem dL_wordOf_49 : decode cL_wordOf 49 = .ok (.aload_n 2, 1) := by decide +kernel
theorem dL_wordOf_50 : decode cL_wordOf 50 = .ok (.areturn, 1) := by decide +kernel
set_option maxRecDepth 20000 in
theorem ggL_say_X0_say : GoodIn wsL_say wsX0_say := goodIn_ca (goodIn_ca (goodIn_ca (goodIn_r _ [5, 6, 7, 8, 9, 10, 11, 4, 12, 13, 14, 15, 16, 17, 18, 19, 20, 21, 22, 23, 24, 25, 26, 27, 28, 29] (by decide +kernel) (by decide +kernel)) (goodIn_sub (fun _ h => List.mem_cons_of_mem _ (List.mem_append_left _ (List.mem_append_left _ (List.mem_append_right _ h)))) (by decide +kernel))) (goodIn_sub (fun _ h => List.mem_cons_of_mem _ (List.mem_append_left _ (List.mem_append_right _ h))) (by decide +kernel))) (goodIn_sub (fun _ h => List.mem_cons_of_mem _ (List.mem_append_right _ h)) (by decide +kernel))
set_option maxRecDepth 20000 in
theorem gL_say_X0_say : GoodIn wsL_say (wsV RL 19 RX0 yX0_say wsX0_say) := goodIn_app (goodIn_of _ (by decide +kernel)) ggL_say_X0_say
theorem dL_say_0 : decode cL_say 0 = .ok (.iconst 0, 1) := by decide +kernel
theorem dL_say_1 : decode cL_say 1 = .ok (.istore_n 3, 1) := by decide +kernel
theorem dL_say_2 : decode cL_say 2 = .ok (.iload_n 3, 1) := by decide +kernel
theorem dL_say_3 : decode cL_say 3 = .ok (.aload_n 2, 1) := by decide +kernel
theorem dL_say_4 : decode cL_say 4 = .ok (.arraylength, 1) := by decide +kernel
theorem dL_say_5 : decode cL_say 5 = .ok (.if_icmp .ge 34, 3) := by decide +kernel
theorem dL_say_8 : decode cL_say 8 = .ok (.aload_n 0, 1) := by decide +kernel
theorem dL_say_9 : decode cL_say 9 = .ok (.iload_n 1, 1) := by decide +kernel
theorem dL_say_10 : decode cL_say 10 = .ok (.aload_n 2, 1) := by decide +kernel
theorem dL_say_11 : decode cL_say 11 = .ok (.iload_n 3, 1) := by decide +kernel
theorem dL_say_12 : decode cL_say 12 = .ok (.iaload, 1) := by decide +kernel
theorem dL_say_13 : decode cL_say 13 = .ok (.iconst 3, 1) := by decide +kernel
theorem dL_say_14 : decode cL_say 14 = .ok (.idiv, 1) := by decide +kernel
theorem dL_say_15 : decode cL_say 15 = .ok (.aload_n 2, 1) := by decide +kernel
theorem dL_say_16 : decode cL_say 16 = .ok (.iload_n 3, 1) := by decide +kernel
theorem dL_say_17 : decode cL_say 17 = .ok (.iaload, 1) := by decide +kernel
theorem dL_say_18 : decode cL_say 18 = .ok (.iconst 3, 1) := by decide +kernel
theorem dL_say_19 : decode cL_say 19 = .ok (.irem, 1) := by decide +kernel
theorem dL_say_20 : decode cL_say 20 = .ok (.iconst 1, 1) := by decide +kernel
theorem dL_say_21 : decode cL_say 21 = .ok (.iadd, 1) := by decide +kernel
theorem dL_say_22 : decode cL_say 22 = .ok (.invokevirtual 19, 3) := by decide +kernel
theorem dL_say_25 : decode cL_say 25 = .ok (.iload_n 3, 1) := by decide +kernel
theorem dL_say_26 : decode cL_say 26 = .ok (.iconst 1, 1) := by decide +kernel
theorem dL_say_27 : decode cL_say 27 = .ok (.iadd, 1) := by decide +kernel
theorem dL_say_28 : decode cL_say 28 = .ok (.if_icmp .eq 5, 3) := by decide +kernel
theorem dL_say_31 : decode cL_say 31 = .ok (.iconst 0, 1) := by decide +kernel
theorem dL_say_32 : decode cL_say 32 = .ok (.ireturn, 1) := by decide +kernel
theorem dL_say_33 : decode cL_say 33 = .ok (.iinc 3 1, 3) := by decide +kernel
theorem dL_say_36 : decode cL_say 36 = .ok (.goto (-34), 3) := by decide +kernel
theorem dL_say_39 : decode cL_say 39 = .ok (.iconst 1, 1) := by decide +kernel
theorem dL_say_40 : decode cL_say 40 = .ok (.ireturn, 1) := by decide +kernel
set_option maxRecDepth 20000 in
theorem ggL_law_X0_init : GoodIn wsL_law wsX0_init := goodIn_r _ [5, 6, 7, 8, 9, 10, 11, 12, 13, 14, 15, 225, 226, 227, 228] (by decide +kernel) (by decide +kernel)
set_option maxRecDepth 20000 in
theorem gL_law_X0_init : GoodIn wsL_law (wsX0_init) := ggL_law_X0_init
set_option maxRecDepth 20000 in
theorem ggL_law_L_wordOf : GoodIn wsL_law wsL_wordOf := goodIn_r _ [19, 13, 20, 21, 18, 22, 23, 24, 25, 26, 27] (by decide +kernel) (by decide +kernel)
set_option maxRecDepth 20000 in
theorem gL_law_L_wordOf : GoodIn wsL_law (va_wsS RL 26 yL_wordOf wsL_wordOf) := goodIn_app (goodIn_of _ (by decide +kernel)) ggL_law_L_wordOf
set_option maxRecDepth 20000 in
theorem ggL_law_L_say : GoodIn wsL_law wsL_say := goodIn_ca (goodIn_ca (goodIn_ca (goodIn_r _ [30, 31, 32, 33, 2, 34, 35, 36, 15, 14, 37, 38, 39, 40, 41, 42, 43, 44, 45, 46, 47, 48, 49, 50, 51, 52, 225, 226, 227, 228] (by decide +kernel) (by decide +kernel)) (goodIn_sub (fun _ h => List.mem_append_left _ (List.mem_append_left _ (List.mem_append_right _ h))) (by decide +kernel))) (goodIn_sub (fun _ h => List.mem_append_left _ (List.mem_append_right _ h)) (by decide +kernel))) (goodIn_sub (fun _ h => List.mem_append_right _ h) (by decide +kernel))
set_option maxRecDepth 20000 in
theorem gL_law_L_say : GoodIn wsL_law (va_wsS RL 30 yL_say wsL_say) := goodIn_app (goodIn_of _ (by decide +kernel)) ggL_law_L_say
set_option maxRecDepth 20000 in
theorem ggL_law_L_cell : GoodIn wsL_law wsL_cell := goodIn_r _ [22, 23] (by decide +kernel) (by decide +kernel)
set_option maxRecDepth 20000 in
theorem gL_law_L_cell : GoodIn wsL_law (va_wsS RL 9 yL_cell wsL_cell) := goodIn_app (goodIn_of _ (by decide +kernel)) ggL_law_L_cell
set_option maxRecDepth 20000 in
theorem ggL_law_L_below : GoodIn wsL_law wsL_below := goodIn_r _ [26, 27] (by decide +kernel) (by decide +kernel)
set_option maxRecDepth 20000 in
theorem gL_law_L_below : GoodIn wsL_law (va_wsS RL 15 yL_below wsL_below) := goodIn_app (goodIn_of _ (by decide +kernel)) ggL_law_L_below
set_option maxRecDepth 20000 in
theorem ggL_law_X0_digest : GoodIn wsL_law wsX0_digest := goodIn_ca (goodIn_r _ [56, 57, 58, 15, 14, 59, 60, 61, 2, 62, 11, 10, 63, 64, 65, 40, 41, 66, 67, 68, 69, 70, 71, 72, 73, 74, 75, 76, 77, 78, 79, 80, 81, 82, 83, 84, 85, 86, 87, 88, 89, 9, 90, 91, 92, 93, 94, 95, 96, 97, 98, 99, 100, 101, 102, 103, 104, 105, 106, 107, 108, 109, 110, 111, 112, 37, 38, 39, 113, 114, 115, 116, 117, 118, 119, 120, 121, 122, 123, 124, 125, 126, 127, 128, 129, 130, 131, 132, 133, 134, 135, 136, 137, 138, 139, 140, 141, 142, 143, 144, 225, 226, 227, 228] (by decide +kernel) (by decide +kernel)) (goodIn_sub (fun _ h => List.mem_append_left _ (List.mem_append_right _ h)) (by decide +kernel))
set_option maxRecDepth 20000 in
theorem gL_law_X0_digest : GoodIn wsL_law (wsV RL 33 RX0 yX0_digest wsX0_digest) := goodIn_app (goodIn_of _ (by decide +kernel)) ggL_law_X0_digest
set_option maxRecDepth 20000 in
theorem ggL_law_X0_would : GoodIn wsL_law wsX0_would := goodIn_ca (goodIn_ca (goodIn_r _ [148, 10, 42, 43, 2, 44, 40, 41, 45, 46, 47, 48, 49, 50, 51, 52, 121, 122, 123, 124, 125, 126, 127, 128, 129, 130, 131, 132, 133, 134, 135, 136, 137, 138, 139, 140, 141, 72, 73, 74, 75, 76, 77, 93, 94, 95, 96, 97, 66, 67, 68, 69, 70, 71, 225, 226, 227, 228] (by decide +kernel) (by decide +kernel)) (goodIn_sub (fun _ h => List.mem_append_left _ (List.mem_append_right _ h)) (by decide +kernel))) (goodIn_sub (fun _ h => List.mem_append_right _ h) (by decide +kernel))
set_option maxRecDepth 20000 in
theorem gL_law_X0_would : GoodIn wsL_law (wsV RL 37 RX0 yX0_would wsX0_would) := goodIn_app (goodIn_of _ (by decide +kernel)) ggL_law_X0_would
set_option maxRecDepth 20000 in
theorem ggL_law_X0_advise : GoodIn wsL_law wsX0_advise := goodIn_r _ [152, 10, 121, 122, 2, 123, 124, 125, 126, 127, 128, 129, 130, 131, 132, 133, 134, 135, 136, 137, 138, 139, 140, 141, 72, 73, 74, 75, 76, 77, 93, 94, 95, 96, 97, 66, 67, 68, 69, 70, 71, 225, 226, 227, 228] (by decide +kernel) (by decide +kernel)
set_option maxRecDepth 20000 in
theorem gL_law_X0_advise : GoodIn wsL_law (wsV RL 40 RX0 yX0_advise wsX0_advise) := goodIn_app (goodIn_of _ (by decide +kernel)) ggL_law_X0_advise
set_option maxRecDepth 20000 in
theorem ggL_law_X0_same : GoodIn wsL_law wsX0_same := goodIn_ca (goodIn_r _ [156, 37, 38, 2, 39, 40, 41, 113, 114, 115, 116, 9, 117, 118, 119, 120, 15, 14, 121, 122, 123, 124, 125, 126, 127, 128, 129, 130, 131, 132, 133, 134, 135, 136, 137, 138, 139, 140, 141, 72, 73, 74, 75, 76, 77, 93, 94, 95, 96, 97, 225, 226, 227, 228] (by decide +kernel) (by decide +kernel)) (goodIn_sub (fun _ h => List.mem_append_left _ (List.mem_append_right _ h)) (by decide +kernel))
set_option maxRecDepth 20000 in
theorem gL_law_X0_same : GoodIn wsL_law (wsV RL 44 RX0 yX0_same wsX0_same) := goodIn_app (goodIn_of _ (by decide +kernel)) ggL_law_X0_same
set_option maxRecDepth 20000 in
theorem ggL_law_X0_mixed : GoodIn wsL_law wsX0_mixed := goodIn_ca (goodIn_r _ [160, 37, 38, 2, 39, 40, 41, 113, 114, 115, 116, 9, 117, 118, 119, 120, 15, 14, 121, 122, 123, 124, 125, 126, 127, 128, 129, 130, 131, 132, 133, 134, 135, 136, 137, 138, 139, 140, 141, 72, 73, 74, 75, 76, 77, 93, 94, 95, 96, 97, 161, 162, 163, 164, 165, 166, 167, 50, 51, 52, 142, 143, 144, 66, 67, 68, 69, 70, 71, 225, 226, 227, 228] (by decide +kernel) (by decide +kernel)) (goodIn_sub (fun _ h => List.mem_append_left _ (List.mem_append_right _ h)) (by decide +kernel))
set_option maxRecDepth 20000 in
theorem gL_law_X0_mixed : GoodIn wsL_law (wsV RL 48 RX0 yX0_mixed wsX0_mixed) := goodIn_app (goodIn_of _ (by decide +kernel)) ggL_law_X0_mixed
set_option maxRecDepth 20000 in
theorem ggL_law_X0_word : GoodIn wsL_law wsX0_word := goodIn_ca (goodIn_r _ [112, 15, 37, 38, 2, 39, 40, 41, 63, 64, 65, 113, 114, 115, 116, 9, 117, 118, 119, 120, 14, 121, 122, 123, 124, 125, 126, 127, 128, 129, 130, 131, 132, 133, 134, 135, 136, 137, 138, 139, 140, 141, 72, 73, 74, 75, 76, 77, 93, 94, 95, 96, 97, 87, 88, 89, 90, 91, 92, 142, 143, 144, 66, 67, 68, 69, 70, 71, 78, 79, 80, 225, 226, 227, 228] (by decide +kernel) (by decide +kernel)) (goodIn_sub (fun _ h => List.mem_append_left _ (List.mem_append_right _ h)) (by decide +kernel))
set_option maxRecDepth 20000 in
theorem gL_law_X0_word : GoodIn wsL_law (wsV RL 51 RX0 yX0_word wsX0_word) := goodIn_app (goodIn_of _ (by decide +kernel)) ggL_law_X0_word
set_option maxRecDepth 20000 in
theorem ggL_law_X0_shortest : GoodIn wsL_law wsX0_shortest := goodIn_ca (goodIn_ca (goodIn_r _ [172, 37, 38, 2, 39, 40, 41, 173, 174, 175, 48, 49, 113, 114, 115, 116, 9, 117, 118, 119, 120, 15, 14, 121, 122, 123, 124, 125, 126, 127, 128, 129, 130, 131, 132, 133, 134, 135, 136, 137, 138, 139, 140, 141, 72, 73, 74, 75, 76, 77, 93, 94, 95, 96, 97, 176, 177, 178, 179, 180, 181, 142, 143, 144, 66, 67, 68, 69, 70, 71, 182, 183, 184, 185, 186, 187, 225, 226, 227, 228] (by decide +kernel) (by decide +kernel)) (goodIn_sub (fun _ h => List.mem_append_left _ (List.mem_append_right _ h)) (by decide +kernel))) (goodIn_sub (fun _ h => List.mem_append_right _ h) (by decide +kernel))
set_option maxRecDepth 20000 in
theorem gL_law_X0_shortest : GoodIn wsL_law (wsV RL 54 RX0 yX0_shortest wsX0_shortest) := goodIn_app (goodIn_of _ (by decide +kernel)) ggL_law_X0_shortest
set_option maxRecDepth 20000 in
theorem ggL_law_X0_play : GoodIn wsL_law wsX0_play := goodIn_ca (goodIn_ca (goodIn_ca (goodIn_r _ [191, 48, 49, 35, 36, 15, 10, 11, 37, 38, 2, 39, 40, 41, 117, 118, 119, 120, 14, 121, 122, 123, 124, 125, 126, 127, 128, 129, 130, 131, 132, 133, 134, 135, 136, 137, 138, 139, 140, 141, 72, 73, 74, 75, 76, 77, 93, 94, 95, 96, 97, 66, 67, 68, 69, 70, 71, 225, 226, 227, 228] (by decide +kernel) (by decide +kernel)) (goodIn_sub (fun _ h => List.mem_append_right _ h) (by decide +kernel))) (goodIn_sub (fun _ h => List.mem_append_left _ (List.mem_append_left _ (List.mem_append_right _ h))) (by decide +kernel))) (goodIn_sub (fun _ h => List.mem_append_left _ (List.mem_append_right _ h)) (by decide +kernel))
set_option maxRecDepth 20000 in
theorem gL_law_X0_play : GoodIn wsL_law (wsV RL 57 RX0 yX0_play wsX0_play) := goodIn_app (goodIn_of _ (by decide +kernel)) ggL_law_X0_play
set_option maxRecDepth 20000 in
theorem ggL_law_X0_count : GoodIn wsL_law wsX0_count := goodIn_ca (goodIn_r _ [62, 11, 10, 63, 64, 2, 65, 40, 41, 66, 67, 68, 69, 70, 71, 72, 73, 74, 75, 76, 77, 78, 79, 80, 81, 82, 83, 84, 85, 86, 87, 88, 89, 9, 90, 91, 92, 93, 94, 95, 96, 97, 98, 99, 100, 101, 15, 225, 226, 227, 228] (by decide +kernel) (by decide +kernel)) (goodIn_sub (fun _ h => List.mem_append_left _ (List.mem_append_right _ h)) (by decide +kernel))
set_option maxRecDepth 20000 in
theorem gL_law_X0_count : GoodIn wsL_law (wsV RL 60 RX0 yX0_count wsX0_count) := goodIn_app (goodIn_of _ (by decide +kernel)) ggL_law_X0_count
set_option maxRecDepth 20000 in
theorem ggL_law_X0_turn : GoodIn wsL_law wsX0_turn := goodIn_ca (goodIn_ca (goodIn_r _ [196, 10, 11, 42, 43, 2, 44, 40, 41, 45, 46, 47, 48, 49, 50, 51, 52, 121, 122, 123, 124, 125, 126, 127, 128, 129, 130, 131, 132, 133, 134, 135, 136, 137, 138, 139, 140, 141, 72, 73, 74, 75, 76, 77, 93, 94, 95, 96, 97, 66, 67, 68, 69, 70, 71, 225, 226, 227, 228] (by decide +kernel) (by decide +kernel)) (goodIn_sub (fun _ h => List.mem_append_left _ (List.mem_append_right _ h)) (by decide +kernel))) (goodIn_sub (fun _ h => List.mem_append_right _ h) (by decide +kernel))
set_option maxRecDepth 20000 in
theorem gL_law_X0_turn : GoodIn wsL_law (wsV RL 64 RX0 yX0_turn wsX0_turn) := goodIn_app (goodIn_of _ (by decide +kernel)) ggL_law_X0_turn
set_option maxRecDepth 20000 in
theorem ggL_law_X0_reset : GoodIn wsL_law wsX0_reset := goodIn_r _ [200, 10, 9, 142, 143, 2, 144, 66, 67, 68, 69, 70, 71, 72, 73, 74, 75, 76, 77, 225, 226, 227, 228] (by decide +kernel) (by decide +kernel)
set_option maxRecDepth 20000 in
theorem gL_law_X0_reset : GoodIn wsL_law (wsV RL 67 RX0 yX0_reset wsX0_reset) := goodIn_app (goodIn_of _ (by decide +kernel)) ggL_law_X0_reset
set_option maxRecDepth 20000 in
theorem ggL_law_X0_far : GoodIn wsL_law wsX0_far := goodIn_ca (goodIn_r _ [204, 10, 173, 174, 2, 175, 48, 49, 176, 177, 178, 179, 180, 181, 9, 142, 143, 144, 66, 67, 68, 69, 70, 71, 72, 73, 74, 75, 76, 77, 182, 183, 184, 185, 186, 187, 130, 131, 132, 133, 134, 135, 136, 137, 138, 139, 140, 141, 93, 94, 95, 96, 97, 225, 226, 227, 228] (by decide +kernel) (by decide +kernel)) (goodIn_sub (fun _ h => List.mem_append_right _ h) (by decide +kernel))
set_option maxRecDepth 20000 in
theorem gL_law_X0_far : GoodIn wsL_law (wsV RL 70 RX0 yX0_far wsX0_far) := goodIn_app (goodIn_of _ (by decide +kernel)) ggL_law_X0_far
set_option maxRecDepth 20000 in
theorem ggL_law_X0_first : GoodIn wsL_law wsX0_first := goodIn_ca (goodIn_r _ [208, 10, 173, 174, 2, 175, 48, 49, 176, 177, 178, 179, 180, 181, 9, 142, 143, 144, 66, 67, 68, 69, 70, 71, 72, 73, 74, 75, 76, 77, 182, 183, 184, 185, 186, 187, 130, 131, 132, 133, 134, 135, 136, 137, 138, 139, 140, 141, 93, 94, 95, 96, 97, 121, 122, 123, 124, 125, 126, 127, 128, 129, 225, 226, 227, 228] (by decide +kernel) (by decide +kernel)) (goodIn_sub (fun _ h => List.mem_append_right _ h) (by decide +kernel))
set_option maxRecDepth 20000 in
theorem gL_law_X0_first : GoodIn wsL_law (wsV RL 73 RX0 yX0_first wsX0_first) := goodIn_app (goodIn_of _ (by decide +kernel)) ggL_law_X0_first
set_option maxRecDepth 20000 in
theorem ggL_law_X0_round : GoodIn wsL_law wsX0_round := goodIn_ca (goodIn_r _ [212, 14, 15, 37, 38, 2, 39, 40, 41, 165, 166, 167, 127, 128, 129, 124, 125, 126, 50, 51, 52, 225, 226, 227, 228] (by decide +kernel) (by decide +kernel)) (goodIn_sub (fun _ h => List.mem_append_left _ (List.mem_append_right _ h)) (by decide +kernel))
set_option maxRecDepth 20000 in
theorem gL_law_X0_round : GoodIn wsL_law (wsV RL 76 RX0 yX0_round wsX0_round) := goodIn_app (goodIn_of _ (by decide +kernel)) ggL_law_X0_round
set_option maxRecDepth 20000 in
theorem ggL_law_X0_tidy : GoodIn wsL_law wsX0_tidy := goodIn_ca (goodIn_r _ [216, 15, 14, 37, 38, 2, 39, 40, 41, 217, 218, 219, 127, 128, 129, 124, 125, 126, 50, 51, 52, 225, 226, 227, 228] (by decide +kernel) (by decide +kernel)) (goodIn_sub (fun _ h => List.mem_append_left _ (List.mem_append_right _ h)) (by decide +kernel))
set_option maxRecDepth 20000 in
theorem gL_law_X0_tidy : GoodIn wsL_law (wsV RL 79 RX0 yX0_tidy wsX0_tidy) := goodIn_app (goodIn_of _ (by decide +kernel)) ggL_law_X0_tidy
set_option maxRecDepth 20000 in
theorem ggL_law_X0_told : GoodIn wsL_law wsX0_told := goodIn_ca (goodIn_r _ [105, 10, 106, 107, 2, 108, 40, 41, 63, 64, 65, 72, 73, 74, 75, 76, 77, 69, 70, 71, 225, 226, 227, 228] (by decide +kernel) (by decide +kernel)) (goodIn_sub (fun _ h => List.mem_append_left _ (List.mem_append_right _ h)) (by decide +kernel))
set_option maxRecDepth 20000 in
theorem gL_law_X0_told : GoodIn wsL_law (wsV RL 82 RX0 yX0_told wsX0_told) := goodIn_app (goodIn_of _ (by decide +kernel)) ggL_law_X0_told
set_option maxRecDepth 20000 in
theorem ggL_law_X0_where : GoodIn wsL_law wsX0_where := goodIn_ca (goodIn_r _ [224, 40, 41, 10, 72, 73, 2, 74, 225, 226, 227, 228] (by decide +kernel) (by decide +kernel)) (goodIn_sub (fun _ h => List.mem_append_left _ (List.mem_append_right _ h)) (by decide +kernel))
set_option maxRecDepth 20000 in
theorem gL_law_X0_where : GoodIn wsL_law (wsV RL 85 RX0 yX0_where wsX0_where) := goodIn_app (goodIn_of _ (by decide +kernel)) ggL_law_X0_where
end
section
theorem dL_law_0 : decode cL_law 0 = .ok (.new 20, 3) := by decide +kernel
theorem dL_law_3 : decode cL_law 3 = .ok (.dup, 1) := by decide +kernel
theorem dL_law_4 : decode cL_law 4 = .ok (.invokespecial 25, 3) := by decide +kernel
theorem dL_law_7 : decode cL_law 7 = .ok (.astore_n 1, 1) := by decide +kernel
theorem dL_law_8 : decode cL_law 8 = .ok (.iconst 0, 1) := by decide +kernel
theorem dL_law_9 : decode cL_law 9 = .ok (.istore_n 2, 1) := by decide +kernel
theorem dL_law_10 : decode cL_law 10 = .ok (.iload_n 2, 1) := by decide +kernel
theorem dL_law_11 : decode cL_law 11 = .ok (.iconst 5, 1) := by decide +kernel
theorem dL_law_12 : decode cL_law 12 = .ok (.if_icmp .ge 24, 3) := by decide +kernel
theorem dL_law_15 : decode cL_law 15 = .ok (.aload_n 1, 1) := by decide +kernel
theorem dL_law_16 : decode cL_law 16 = .ok (.iload_n 2, 1) := by decide +kernel
theorem dL_law_17 : decode cL_law 17 = .ok (.aload_n 0, 1) := by decide +kernel
theorem dL_law_18 : decode cL_law 18 = .ok (.iload_n 2, 1) := by decide +kernel
theorem dL_law_19 : decode cL_law 19 = .ok (.invokestatic 26, 3) := by decide +kernel
theorem dL_law_22 : decode cL_law 22 = .ok (.invokestatic 30, 3) := by decide +kernel
theorem dL_law_25 : decode cL_law 25 = .ok (.ifCond .ne 5, 3) := by decide +kernel
theorem dL_law_28 : decode cL_law 28 = .ok (.iconst 0, 1) := by decide +kernel
theorem dL_law_29 : decode cL_law 29 = .ok (.ireturn, 1) := by decide +kernel
theorem dL_law_30 : decode cL_law 30 = .ok (.iinc 2 1, 3) := by decide +kernel
theorem dL_law_33 : decode cL_law 33 = .ok (.goto (-23), 3) := by decide +kernel
theorem dL_law_36 : decode cL_law 36 = .ok (.iconst 0, 1) := by decide +kernel
theorem dL_law_37 : decode cL_law 37 = .ok (.istore_n 2, 1) := by decide +kernel
theorem dL_law_38 : decode cL_law 38 = .ok (.iload_n 2, 1) := by decide +kernel
theorem dL_law_39 : decode cL_law 39 = .ok (.bipush 12, 2) := by decide +kernel
theorem dL_law_41 : decode cL_law 41 = .ok (.if_icmp .ge 606, 3) := by decide +kernel
theorem dL_law_44 : decode cL_law 44 = .ok (.aload_n 0, 1) := by decide +kernel
theorem dL_law_45 : decode cL_law 45 = .ok (.iload_n 2, 1) := by decide +kernel
theorem dL_law_46 : decode cL_law 46 = .ok (.invokestatic 9, 3) := by decide +kernel
theorem dL_law_49 : decode cL_law 49 = .ok (.istore_n 3, 1) := by decide +kernel
theorem dL_law_50 : decode cL_law 50 = .ok (.iload_n 3, 1) := by decide +kernel
theorem dL_law_51 : decode cL_law 51 = .ok (.iconst 2, 1) := by decide +kernel
theorem dL_law_52 : decode cL_law 52 = .ok (.ishr, 1) := by decide +kernel
theorem dL_law_53 : decode cL_law 53 = .ok (.iconst 5, 1) := by decide +kernel
theorem dL_law_54 : decode cL_law 54 = .ok (.invokestatic 15, 3) := by decide +kernel
theorem dL_law_57 : decode cL_law 57 = .ok (.istore 4, 2) := by decide +kernel
theorem dL_law_59 : decode cL_law 59 = .ok (.iload_n 3, 1) := by decide +kernel
theorem dL_law_60 : decode cL_law 60 = .ok (.iconst 4, 1) := by decide +kernel
theorem dL_law_61 : decode cL_law 61 = .ok (.ishr, 1) := by decide +kernel
theorem dL_law_62 : decode cL_law 62 = .ok (.iconst 5, 1) := by decide +kernel
theorem dL_law_63 : decode cL_law 63 = .ok (.invokestatic 15, 3) := by decide +kernel
theorem dL_law_66 : decode cL_law 66 = .ok (.istore 5, 2) := by decide +kernel
theorem dL_law_68 : decode cL_law 68 = .ok (.aload_n 1, 1) := by decide +kernel
theorem dL_law_69 : decode cL_law 69 = .ok (.invokevirtual 33, 3) := by decide +kernel
theorem dL_law_72 : decode cL_law 72 = .ok (.lstore 6, 2) := by decide +kernel
theorem dL_law_74 : decode cL_law 74 = .ok (.aload_n 1, 1) := by decide +kernel
theorem dL_law_75 : decode cL_law 75 = .ok (.iload_n 3, 1) := by decide +kernel
theorem dL_law_76 : decode cL_law 76 = .ok (.iconst 3, 1) := by decide +kernel
theorem dL_law_77 : decode cL_law 77 = .ok (.invokestatic 15, 3) := by decide +kernel
theorem dL_law_80 : decode cL_law 80 = .ok (.iconst 1, 1) := by decide +kernel
theorem dL_law_81 : decode cL_law 81 = .ok (.iload_n 3, 1) := by decide +kernel
theorem dL_law_82 : decode cL_law 82 = .ok (.iconst 2, 1) := by decide +kernel
theorem dL_law_83 : decode cL_law 83 = .ok (.ishr, 1) := by decide +kernel
theorem dL_law_84 : decode cL_law 84 = .ok (.iconst 3, 1) := by decide +kernel
theorem dL_law_85 : decode cL_law 85 = .ok (.invokestatic 15, 3) := by decide +kernel
theorem dL_law_88 : decode cL_law 88 = .ok (.iadd, 1) := by decide +kernel
theorem dL_law_89 : decode cL_law 89 = .ok (.invokevirtual 37, 3) := by decide +kernel
theorem dL_law_92 : decode cL_law 92 = .ok (.istore 8, 2) := by decide +kernel
theorem dL_law_94 : decode cL_law 94 = .ok (.aload_n 1, 1) := by decide +kernel
theorem dL_law_95 : decode cL_law 95 = .ok (.invokevirtual 40, 3) := by decide +kernel
theorem dL_law_98 : decode cL_law 98 = .ok (.istore 9, 2) := by decide +kernel
theorem dL_law_100 : decode cL_law 100 = .ok (.aload_n 1, 1) := by decide +kernel
theorem dL_law_101 : decode cL_law 101 = .ok (.iload 4, 2) := by decide +kernel
theorem dL_law_103 : decode cL_law 103 = .ok (.iload 5, 2) := by decide +kernel
theorem dL_law_105 : decode cL_law 105 = .ok (.invokevirtual 44, 3) := by decide +kernel
theorem dL_law_108 : decode cL_law 108 = .ok (.istore 10, 2) := by decide +kernel
theorem dL_law_110 : decode cL_law 110 = .ok (.aload_n 1, 1) := by decide +kernel
theorem dL_law_111 : decode cL_law 111 = .ok (.iload 4, 2) := by decide +kernel
theorem dL_law_113 : decode cL_law 113 = .ok (.iload 5, 2) := by decide +kernel
theorem dL_law_115 : decode cL_law 115 = .ok (.invokevirtual 48, 3) := by decide +kernel
theorem dL_law_118 : decode cL_law 118 = .ok (.istore 11, 2) := by decide +kernel
theorem dL_law_120 : decode cL_law 120 = .ok (.aload_n 1, 1) := by decide +kernel
theorem dL_law_121 : decode cL_law 121 = .ok (.invokevirtual 33, 3) := by decide +kernel
theorem dL_law_124 : decode cL_law 124 = .ok (.lload 6, 2) := by decide +kernel
theorem dL_law_126 : decode cL_law 126 = .ok (.lcmp, 1) := by decide +kernel
theorem dL_law_127 : decode cL_law 127 = .ok (.ifCond .ne 60, 3) := by decide +kernel
theorem dL_law_130 : decode cL_law 130 = .ok (.iload 10, 2) := by decide +kernel
theorem dL_law_132 : decode cL_law 132 = .ok (.ifCond .eq 42, 3) := by decide +kernel
theorem dL_law_135 : decode cL_law 135 = .ok (.aload_n 1, 1) := by decide +kernel
theorem dL_law_136 : decode cL_law 136 = .ok (.iload 4, 2) := by decide +kernel
theorem dL_law_138 : decode cL_law 138 = .ok (.iconst 1, 1) := by decide +kernel
theorem dL_law_139 : decode cL_law 139 = .ok (.invokevirtual 51, 3) := by decide +kernel
theorem dL_law_142 : decode cL_law 142 = .ok (.aload_n 1, 1) := by decide +kernel
theorem dL_law_143 : decode cL_law 143 = .ok (.iload 5, 2) := by decide +kernel
theorem dL_law_145 : decode cL_law 145 = .ok (.iconst 1, 1) := by decide +kernel
theorem dL_law_146 : decode cL_law 146 = .ok (.invokevirtual 51, 3) := by decide +kernel
theorem dL_law_149 : decode cL_law 149 = .ok (.if_icmp .ne 38, 3) := by decide +kernel
theorem dL_law_152 : decode cL_law 152 = .ok (.iload 11, 2) := by decide +kernel
theorem dL_law_154 : decode cL_law 154 = .ok (.ifCond .ne 33, 3) := by decide +kernel
theorem dL_law_157 : decode cL_law 157 = .ok (.aload_n 1, 1) := by decide +kernel
theorem dL_law_158 : decode cL_law 158 = .ok (.iload 4, 2) := by decide +kernel
theorem dL_law_160 : decode cL_law 160 = .ok (.iconst 2, 1) := by decide +kernel
theorem dL_law_161 : decode cL_law 161 = .ok (.invokevirtual 54, 3) := by decide +kernel
theorem dL_law_164 : decode cL_law 164 = .ok (.aload_n 1, 1) := by decide +kernel
theorem dL_law_165 : decode cL_law 165 = .ok (.iload 5, 2) := by decide +kernel
theorem dL_law_167 : decode cL_law 167 = .ok (.iconst 2, 1) := by decide +kernel
theorem dL_law_168 : decode cL_law 168 = .ok (.invokevirtual 54, 3) := by decide +kernel
theorem dL_law_171 : decode cL_law 171 = .ok (.if_icmp .ne 16, 3) := by decide +kernel
theorem dL_law_174 : decode cL_law 174 = .ok (.aload_n 1, 1) := by decide +kernel
theorem dL_law_175 : decode cL_law 175 = .ok (.iload 5, 2) := by decide +kernel
theorem dL_law_177 : decode cL_law 177 = .ok (.iload 4, 2) := by decide +kernel
theorem dL_law_179 : decode cL_law 179 = .ok (.invokevirtual 48, 3) := by decide +kernel
theorem dL_law_182 : decode cL_law 182 = .ok (.iload 11, 2) := by decide +kernel
theorem dL_law_184 : decode cL_law 184 = .ok (.if_icmp .eq 5, 3) := by decide +kernel
theorem dL_law_187 : decode cL_law 187 = .ok (.iconst 0, 1) := by decide +kernel
theorem dL_law_188 : decode cL_law 188 = .ok (.ireturn, 1) := by decide +kernel
theorem dL_law_189 : decode cL_law 189 = .ok (.iload_n 3, 1) := by decide +kernel
theorem dL_law_190 : decode cL_law 190 = .ok (.bipush 7, 2) := by decide +kernel
theorem dL_law_192 : decode cL_law 192 = .ok (.ishr, 1) := by decide +kernel
theorem dL_law_193 : decode cL_law 193 = .ok (.iconst 4, 1) := by decide +kernel
theorem dL_law_194 : decode cL_law 194 = .ok (.invokestatic 15, 3) := by decide +kernel
theorem dL_law_197 : decode cL_law 197 = .ok (.tableswitch 253 0 2 #[27, 66, 87], 27) := by decide +kernel
theorem dL_law_224 : decode cL_law 224 = .ok (.aload_n 1, 1) := by decide +kernel
theorem dL_law_225 : decode cL_law 225 = .ok (.iload 4, 2) := by decide +kernel
theorem dL_law_227 : decode cL_law 227 = .ok (.iconst 0, 1) := by decide +kernel
theorem dL_law_228 : decode cL_law 228 = .ok (.invokevirtual 51, 3) := by decide +kernel
theorem dL_law_231 : decode cL_law 231 = .ok (.ifCond .ne 6, 3) := by decide +kernel
theorem dL_law_234 : decode cL_law 234 = .ok (.goto 250, 3) := by decide +kernel
theorem dL_law_237 : decode cL_law 237 = .ok (.aload_n 1, 1) := by decide +kernel
theorem dL_law_238 : decode cL_law 238 = .ok (.iload 4, 2) := by decide +kernel
theorem dL_law_240 : decode cL_law 240 = .ok (.iconst 1, 1) := by decide +kernel
theorem dL_law_241 : decode cL_law 241 = .ok (.iload_n 3, 1) := by decide +kernel
theorem dL_law_242 : decode cL_law 242 = .ok (.iconst 3, 1) := by decide +kernel
theorem dL_law_243 : decode cL_law 243 = .ok (.ishr, 1) := by decide +kernel
theorem dL_law_244 : decode cL_law 244 = .ok (.bipush 9, 2) := by decide +kernel
theorem dL_law_246 : decode cL_law 246 = .ok (.invokestatic 15, 3) := by decide +kernel
theorem dL_law_249 : decode cL_law 249 = .ok (.iadd, 1) := by decide +kernel
theorem dL_law_250 : decode cL_law 250 = .ok (.invokevirtual 57, 3) := by decide +kernel
theorem dL_law_253 : decode cL_law 253 = .ok (.aload_n 1, 1) := by decide +kernel
theorem dL_law_254 : decode cL_law 254 = .ok (.iconst 1, 1) := by decide +kernel
theorem dL_law_255 : decode cL_law 255 = .ok (.invokevirtual 60, 3) := by decide +kernel
theorem dL_law_258 : decode cL_law 258 = .ok (.if_icmp .eq 226, 3) := by decide +kernel
theorem dL_law_261 : decode cL_law 261 = .ok (.iconst 0, 1) := by decide +kernel
theorem dL_law_262 : decode cL_law 262 = .ok (.ireturn, 1) := by decide +kernel
theorem dL_law_263 : decode cL_law 263 = .ok (.aload_n 1, 1) := by decide +kernel
theorem dL_law_264 : decode cL_law 264 = .ok (.iload 9, 2) := by decide +kernel
theorem dL_law_266 : decode cL_law 266 = .ok (.iconst 3, 1) := by decide +kernel
theorem dL_law_267 : decode cL_law 267 = .ok (.idiv, 1) := by decide +kernel
theorem dL_law_268 : decode cL_law 268 = .ok (.iload 9, 2) := by decide +kernel
theorem dL_law_270 : decode cL_law 270 = .ok (.iconst 3, 1) := by decide +kernel
theorem dL_law_271 : decode cL_law 271 = .ok (.irem, 1) := by decide +kernel
theorem dL_law_272 : decode cL_law 272 = .ok (.iconst 1, 1) := by decide +kernel
theorem dL_law_273 : decode cL_law 273 = .ok (.iadd, 1) := by decide +kernel
theorem dL_law_274 : decode cL_law 274 = .ok (.invokevirtual 64, 3) := by decide +kernel
theorem dL_law_277 : decode cL_law 277 = .ok (.iload 8, 2) := by decide +kernel
theorem dL_law_279 : decode cL_law 279 = .ok (.if_icmp .ge 205, 3) := by decide +kernel
theorem dL_law_282 : decode cL_law 282 = .ok (.iconst 0, 1) := by decide +kernel
theorem dL_law_283 : decode cL_law 283 = .ok (.ireturn, 1) := by decide +kernel
theorem dL_law_284 : decode cL_law 284 = .ok (.aload_n 1, 1) := by decide +kernel
theorem dL_law_285 : decode cL_law 285 = .ok (.invokevirtual 67, 3) := by decide +kernel
theorem dL_law_288 : decode cL_law 288 = .ok (.pop, 1) := by decide +kernel
theorem dL_law_289 : decode cL_law 289 = .ok (.iload_n 3, 1) := by decide +kernel
theorem dL_law_290 : decode cL_law 290 = .ok (.iconst 3, 1) := by decide +kernel
theorem dL_law_291 : decode cL_law 291 = .ok (.ishr, 1) := by decide +kernel
theorem dL_law_292 : decode cL_law 292 = .ok (.iconst 4, 1) := by decide +kernel
theorem dL_law_293 : decode cL_law 293 = .ok (.invokestatic 15, 3) := by decide +kernel
theorem dL_law_296 : decode cL_law 296 = .ok (.istore 12, 2) := by decide +kernel
theorem dL_law_298 : decode cL_law 298 = .ok (.iconst 0, 1) := by decide +kernel
theorem dL_law_299 : decode cL_law 299 = .ok (.istore 13, 2) := by decide +kernel
theorem dL_law_301 : decode cL_law 301 = .ok (.iload 13, 2) := by decide +kernel
theorem dL_law_303 : decode cL_law 303 = .ok (.iload 12, 2) := by decide +kernel
theorem dL_law_305 : decode cL_law 305 = .ok (.if_icmp .ge 36, 3) := by decide +kernel
theorem dL_law_308 : decode cL_law 308 = .ok (.aload_n 1, 1) := by decide +kernel
theorem dL_law_309 : decode cL_law 309 = .ok (.iload_n 3, 1) := by decide +kernel
theorem dL_law_310 : decode cL_law 310 = .ok (.iconst 2, 1) := by decide +kernel
theorem dL_law_311 : decode cL_law 311 = .ok (.iload 13, 2) := by decide +kernel
theorem dL_law_313 : decode cL_law 313 = .ok (.imul, 1) := by decide +kernel
theorem dL_law_314 : decode cL_law 314 = .ok (.ishr, 1) := by decide +kernel
theorem dL_law_315 : decode cL_law 315 = .ok (.iconst 3, 1) := by decide +kernel
theorem dL_law_316 : decode cL_law 316 = .ok (.invokestatic 15, 3) := by decide +kernel
theorem dL_law_319 : decode cL_law 319 = .ok (.iconst 1, 1) := by decide +kernel
theorem dL_law_320 : decode cL_law 320 = .ok (.iload_n 3, 1) := by decide +kernel
theorem dL_law_321 : decode cL_law 321 = .ok (.iconst 3, 1) := by decide +kernel
theorem dL_law_322 : decode cL_law 322 = .ok (.iload 13, 2) := by decide +kernel
theorem dL_law_324 : decode cL_law 324 = .ok (.imul, 1) := by decide +kernel
theorem dL_law_325 : decode cL_law 325 = .ok (.ishr, 1) := by decide +kernel
theorem dL_law_326 : decode cL_law 326 = .ok (.iconst 3, 1) := by decide +kernel
theorem dL_law_327 : decode cL_law 327 = .ok (.invokestatic 15, 3) := by decide +kernel
theorem dL_law_330 : decode cL_law 330 = .ok (.iadd, 1) := by decide +kernel
theorem dL_law_331 : decode cL_law 331 = .ok (.invokevirtual 64, 3) := by decide +kernel
theorem dL_law_334 : decode cL_law 334 = .ok (.pop, 1) := by decide +kernel
theorem dL_law_335 : decode cL_law 335 = .ok (.iinc 13 1, 3) := by decide +kernel
theorem dL_law_338 : decode cL_law 338 = .ok (.goto (-37), 3) := by decide +kernel
theorem dL_law_341 : decode cL_law 341 = .ok (.aload_n 1, 1) := by decide +kernel
theorem dL_law_342 : decode cL_law 342 = .ok (.iconst 3, 1) := by decide +kernel
theorem dL_law_343 : decode cL_law 343 = .ok (.invokevirtual 70, 3) := by decide +kernel
theorem dL_law_346 : decode cL_law 346 = .ok (.istore 13, 2) := by decide +kernel
theorem dL_law_348 : decode cL_law 348 = .ok (.iload 13, 2) := by decide +kernel
theorem dL_law_350 : decode cL_law 350 = .ok (.ifCond .lt 10, 3) := by decide +kernel
theorem dL_law_353 : decode cL_law 353 = .ok (.iload 13, 2) := by decide +kernel
theorem dL_law_355 : decode cL_law 355 = .ok (.iload 12, 2) := by decide +kernel
theorem dL_law_357 : decode cL_law 357 = .ok (.if_icmp .le 5, 3) := by decide +kernel
theorem dL_law_360 : decode cL_law 360 = .ok (.iconst 0, 1) := by decide +kernel
theorem dL_law_361 : decode cL_law 361 = .ok (.ireturn, 1) := by decide +kernel
theorem dL_law_362 : decode cL_law 362 = .ok (.iload 13, 2) := by decide +kernel
theorem dL_law_364 : decode cL_law 364 = .ok (.istore 14, 2) := by decide +kernel
theorem dL_law_366 : decode cL_law 366 = .ok (.iload 14, 2) := by decide +kernel
theorem dL_law_368 : decode cL_law 368 = .ok (.ifCond .le 61, 3) := by decide +kernel
theorem dL_law_371 : decode cL_law 371 = .ok (.aload_n 1, 1) := by decide +kernel
theorem dL_law_372 : decode cL_law 372 = .ok (.iload 14, 2) := by decide +kernel
theorem dL_law_374 : decode cL_law 374 = .ok (.invokevirtual 73, 3) := by decide +kernel
theorem dL_law_377 : decode cL_law 377 = .ok (.istore 15, 2) := by decide +kernel
theorem dL_law_379 : decode cL_law 379 = .ok (.aload_n 1, 1) := by decide +kernel
theorem dL_law_380 : decode cL_law 380 = .ok (.iconst 3, 1) := by decide +kernel
theorem dL_law_381 : decode cL_law 381 = .ok (.invokevirtual 70, 3) := by decide +kernel
theorem dL_law_384 : decode cL_law 384 = .ok (.iload 14, 2) := by decide +kernel
theorem dL_law_386 : decode cL_law 386 = .ok (.if_icmp .ne 20, 3) := by decide +kernel
theorem dL_law_389 : decode cL_law 389 = .ok (.iload 15, 2) := by decide +kernel
theorem dL_law_391 : decode cL_law 391 = .ok (.ifCond .lt 15, 3) := by decide +kernel
theorem dL_law_394 : decode cL_law 394 = .ok (.aload_n 1, 1) := by decide +kernel
theorem dL_law_395 : decode cL_law 395 = .ok (.iload 14, 2) := by decide +kernel
theorem dL_law_397 : decode cL_law 397 = .ok (.iconst 1, 1) := by decide +kernel
theorem dL_law_398 : decode cL_law 398 = .ok (.isub, 1) := by decide +kernel
theorem dL_law_399 : decode cL_law 399 = .ok (.invokevirtual 73, 3) := by decide +kernel
theorem dL_law_402 : decode cL_law 402 = .ok (.iconst (-1), 1) := by decide +kernel
theorem dL_law_403 : decode cL_law 403 = .ok (.if_icmp .eq 5, 3) := by decide +kernel
theorem dL_law_406 : decode cL_law 406 = .ok (.iconst 0, 1) := by decide +kernel
theorem dL_law_407 : decode cL_law 407 = .ok (.ireturn, 1) := by decide +kernel
theorem dL_law_408 : decode cL_law 408 = .ok (.aload_n 1, 1) := by decide +kernel
theorem dL_law_409 : decode cL_law 409 = .ok (.iload 15, 2) := by decide +kernel
theorem dL_law_411 : decode cL_law 411 = .ok (.iconst 3, 1) := by decide +kernel
theorem dL_law_412 : decode cL_law 412 = .ok (.idiv, 1) := by decide +kernel
theorem dL_law_413 : decode cL_law 413 = .ok (.iload 15, 2) := by decide +kernel
theorem dL_law_415 : decode cL_law 415 = .ok (.iconst 3, 1) := by decide +kernel
theorem dL_law_416 : decode cL_law 416 = .ok (.irem, 1) := by decide +kernel
theorem dL_law_417 : decode cL_law 417 = .ok (.iconst 1, 1) := by decide +kernel
theorem dL_law_418 : decode cL_law 418 = .ok (.iadd, 1) := by decide +kernel
theorem dL_law_419 : decode cL_law 419 = .ok (.invokevirtual 64, 3) := by decide +kernel
theorem dL_law_422 : decode cL_law 422 = .ok (.pop, 1) := by decide +kernel
theorem dL_law_423 : decode cL_law 423 = .ok (.iinc 14 (-1), 3) := by decide +kernel
theorem dL_law_426 : decode cL_law 426 = .ok (.goto (-60), 3) := by decide +kernel
theorem dL_law_429 : decode cL_law 429 = .ok (.aload_n 1, 1) := by decide +kernel
theorem dL_law_430 : decode cL_law 430 = .ok (.iconst 1, 1) := by decide +kernel
theorem dL_law_431 : decode cL_law 431 = .ok (.invokevirtual 60, 3) := by decide +kernel
theorem dL_law_434 : decode cL_law 434 = .ok (.bipush 8, 2) := by decide +kernel
theorem dL_law_436 : decode cL_law 436 = .ok (.if_icmp .ne 12, 3) := by decide +kernel
theorem dL_law_439 : decode cL_law 439 = .ok (.aload_n 1, 1) := by decide +kernel
theorem dL_law_440 : decode cL_law 440 = .ok (.iconst 5, 1) := by decide +kernel
theorem dL_law_441 : decode cL_law 441 = .ok (.invokevirtual 60, 3) := by decide +kernel
theorem dL_law_444 : decode cL_law 444 = .ok (.iconst 1, 1) := by decide +kernel
theorem dL_law_445 : decode cL_law 445 = .ok (.if_icmp .eq 39, 3) := by decide +kernel
theorem dL_law_448 : decode cL_law 448 = .ok (.iconst 0, 1) := by decide +kernel
theorem dL_law_449 : decode cL_law 449 = .ok (.ireturn, 1) := by decide +kernel
theorem dL_law_450 : decode cL_law 450 = .ok (.aload_n 1, 1) := by decide +kernel
theorem dL_law_451 : decode cL_law 451 = .ok (.iload 4, 2) := by decide +kernel
theorem dL_law_453 : decode cL_law 453 = .ok (.invokevirtual 76, 3) := by decide +kernel
theorem dL_law_456 : decode cL_law 456 = .ok (.aload_n 1, 1) := by decide +kernel
theorem dL_law_457 : decode cL_law 457 = .ok (.iload 4, 2) := by decide +kernel
theorem dL_law_459 : decode cL_law 459 = .ok (.iconst 0, 1) := by decide +kernel
theorem dL_law_460 : decode cL_law 460 = .ok (.invokevirtual 51, 3) := by decide +kernel
theorem dL_law_463 : decode cL_law 463 = .ok (.if_icmp .ne 19, 3) := by decide +kernel
theorem dL_law_466 : decode cL_law 466 = .ok (.aload_n 1, 1) := by decide +kernel
theorem dL_law_467 : decode cL_law 467 = .ok (.iload 5, 2) := by decide +kernel
theorem dL_law_469 : decode cL_law 469 = .ok (.invokevirtual 79, 3) := by decide +kernel
theorem dL_law_472 : decode cL_law 472 = .ok (.aload_n 1, 1) := by decide +kernel
theorem dL_law_473 : decode cL_law 473 = .ok (.iload 5, 2) := by decide +kernel
theorem dL_law_475 : decode cL_law 475 = .ok (.iconst 0, 1) := by decide +kernel
theorem dL_law_476 : decode cL_law 476 = .ok (.invokevirtual 51, 3) := by decide +kernel
theorem dL_law_479 : decode cL_law 479 = .ok (.if_icmp .eq 5, 3) := by decide +kernel
theorem dL_law_482 : decode cL_law 482 = .ok (.iconst 0, 1) := by decide +kernel
theorem dL_law_483 : decode cL_law 483 = .ok (.ireturn, 1) := by decide +kernel
theorem dL_law_484 : decode cL_law 484 = .ok (.iconst 0, 1) := by decide +kernel
theorem dL_law_485 : decode cL_law 485 = .ok (.istore 12, 2) := by decide +kernel
theorem dL_law_487 : decode cL_law 487 = .ok (.iconst 0, 1) := by decide +kernel
theorem dL_law_488 : decode cL_law 488 = .ok (.istore 13, 2) := by decide +kernel
theorem dL_law_490 : decode cL_law 490 = .ok (.iconst 0, 1) := by decide +kernel
theorem dL_law_491 : decode cL_law 491 = .ok (.istore 14, 2) := by decide +kernel
theorem dL_law_493 : decode cL_law 493 = .ok (.iconst 0, 1) := by decide +kernel
theorem dL_law_494 : decode cL_law 494 = .ok (.istore 15, 2) := by decide +kernel
theorem dL_law_496 : decode cL_law 496 = .ok (.iload 15, 2) := by decide +kernel
theorem dL_law_498 : decode cL_law 498 = .ok (.bipush 8, 2) := by decide +kernel
theorem dL_law_500 : decode cL_law 500 = .ok (.if_icmp .ge 65, 3) := by decide +kernel
theorem dL_law_503 : decode cL_law 503 = .ok (.iload 12, 2) := by decide +kernel
theorem dL_law_505 : decode cL_law 505 = .ok (.iconst 1, 1) := by decide +kernel
theorem dL_law_506 : decode cL_law 506 = .ok (.aload_n 1, 1) := by decide +kernel
theorem dL_law_507 : decode cL_law 507 = .ok (.iload 15, 2) := by decide +kernel
theorem dL_law_509 : decode cL_law 509 = .ok (.iconst 0, 1) := by decide +kernel
theorem dL_law_510 : decode cL_law 510 = .ok (.invokevirtual 82, 3) := by decide +kernel
theorem dL_law_513 : decode cL_law 513 = .ok (.ishl, 1) := by decide +kernel
theorem dL_law_514 : decode cL_law 514 = .ok (.ior, 1) := by decide +kernel
theorem dL_law_515 : decode cL_law 515 = .ok (.istore 12, 2) := by decide +kernel
theorem dL_law_517 : decode cL_law 517 = .ok (.iload 13, 2) := by decide +kernel
theorem dL_law_519 : decode cL_law 519 = .ok (.aload_n 1, 1) := by decide +kernel
theorem dL_law_520 : decode cL_law 520 = .ok (.iload 15, 2) := by decide +kernel
theorem dL_law_522 : decode cL_law 522 = .ok (.iconst 1, 1) := by decide +kernel
theorem dL_law_523 : decode cL_law 523 = .ok (.invokevirtual 82, 3) := by decide +kernel
theorem dL_law_526 : decode cL_law 526 = .ok (.iadd, 1) := by decide +kernel
theorem dL_law_527 : decode cL_law 527 = .ok (.istore 13, 2) := by decide +kernel
theorem dL_law_529 : decode cL_law 529 = .ok (.iload 14, 2) := by decide +kernel
theorem dL_law_531 : decode cL_law 531 = .ok (.aload_n 1, 1) := by decide +kernel
theorem dL_law_532 : decode cL_law 532 = .ok (.iload 15, 2) := by decide +kernel
theorem dL_law_534 : decode cL_law 534 = .ok (.iconst 2, 1) := by decide +kernel
theorem dL_law_535 : decode cL_law 535 = .ok (.invokevirtual 82, 3) := by decide +kernel
theorem dL_law_538 : decode cL_law 538 = .ok (.iadd, 1) := by decide +kernel
theorem dL_law_539 : decode cL_law 539 = .ok (.istore 14, 2) := by decide +kernel
theorem dL_law_541 : decode cL_law 541 = .ok (.aload_n 1, 1) := by decide +kernel
theorem dL_law_542 : decode cL_law 542 = .ok (.aload_n 1, 1) := by decide +kernel
theorem dL_law_543 : decode cL_law 543 = .ok (.iload 15, 2) := by decide +kernel
theorem dL_law_545 : decode cL_law 545 = .ok (.iconst 0, 1) := by decide +kernel
theorem dL_law_546 : decode cL_law 546 = .ok (.invokevirtual 82, 3) := by decide +kernel
theorem dL_law_549 : decode cL_law 549 = .ok (.invokevirtual 85, 3) := by decide +kernel
theorem dL_law_552 : decode cL_law 552 = .ok (.iload 15, 2) := by decide +kernel
theorem dL_law_554 : decode cL_law 554 = .ok (.if_icmp .eq 5, 3) := by decide +kernel
theorem dL_law_557 : decode cL_law 557 = .ok (.iconst 0, 1) := by decide +kernel
theorem dL_law_558 : decode cL_law 558 = .ok (.ireturn, 1) := by decide +kernel
theorem dL_law_559 : decode cL_law 559 = .ok (.iinc 15 1, 3) := by decide +kernel
theorem dL_law_562 : decode cL_law 562 = .ok (.goto (-66), 3) := by decide +kernel
theorem dL_law_565 : decode cL_law 565 = .ok (.iload 12, 2) := by decide +kernel
theorem dL_law_567 : decode cL_law 567 = .ok (.sipush 255, 3) := by decide +kernel
theorem dL_law_570 : decode cL_law 570 = .ok (.if_icmp .ne 69, 3) := by decide +kernel
theorem dL_law_573 : decode cL_law 573 = .ok (.iload 13, 2) := by decide +kernel
theorem dL_law_575 : decode cL_law 575 = .ok (.iconst 3, 1) := by decide +kernel
theorem dL_law_576 : decode cL_law 576 = .ok (.irem, 1) := by decide +kernel
theorem dL_law_577 : decode cL_law 577 = .ok (.ifCond .ne 62, 3) := by decide +kernel
theorem dL_law_580 : decode cL_law 580 = .ok (.iload 14, 2) := by decide +kernel
theorem dL_law_582 : decode cL_law 582 = .ok (.aload_n 1, 1) := by decide +kernel
theorem dL_law_583 : decode cL_law 583 = .ok (.iconst 1, 1) := by decide +kernel
theorem dL_law_584 : decode cL_law 584 = .ok (.invokevirtual 60, 3) := by decide +kernel
theorem dL_law_587 : decode cL_law 587 = .ok (.if_icmp .ne 52, 3) := by decide +kernel
theorem dL_law_590 : decode cL_law 590 = .ok (.aload_n 1, 1) := by decide +kernel
theorem dL_law_591 : decode cL_law 591 = .ok (.iconst 2, 1) := by decide +kernel
theorem dL_law_592 : decode cL_law 592 = .ok (.invokevirtual 60, 3) := by decide +kernel
theorem dL_law_595 : decode cL_law 595 = .ok (.iload 14, 2) := by decide +kernel
theorem dL_law_597 : decode cL_law 597 = .ok (.if_icmp .lt 42, 3) := by decide +kernel
theorem dL_law_600 : decode cL_law 600 = .ok (.aload_n 1, 1) := by decide +kernel
theorem dL_law_601 : decode cL_law 601 = .ok (.iconst 3, 1) := by decide +kernel
theorem dL_law_602 : decode cL_law 602 = .ok (.invokevirtual 60, 3) := by decide +kernel
theorem dL_law_605 : decode cL_law 605 = .ok (.iload 14, 2) := by decide +kernel
theorem dL_law_607 : decode cL_law 607 = .ok (.if_icmp .lt 32, 3) := by decide +kernel
theorem dL_law_610 : decode cL_law 610 = .ok (.aload_n 1, 1) := by decide +kernel
theorem dL_law_611 : decode cL_law 611 = .ok (.iconst 5, 1) := by decide +kernel
theorem dL_law_612 : decode cL_law 612 = .ok (.invokevirtual 60, 3) := by decide +kernel
theorem dL_law_615 : decode cL_law 615 = .ok (.iconst 1, 1) := by decide +kernel
theorem dL_law_616 : decode cL_law 616 = .ok (.if_icmp .ne 7, 3) := by decide +kernel
theorem dL_law_619 : decode cL_law 619 = .ok (.iconst 1, 1) := by decide +kernel
theorem dL_law_620 : decode cL_law 620 = .ok (.goto 4, 3) := by decide +kernel
theorem dL_law_623 : decode cL_law 623 = .ok (.iconst 0, 1) := by decide +kernel
theorem dL_law_624 : decode cL_law 624 = .ok (.iload 14, 2) := by decide +kernel
theorem dL_law_626 : decode cL_law 626 = .ok (.bipush 8, 2) := by decide +kernel
theorem dL_law_628 : decode cL_law 628 = .ok (.if_icmp .ne 7, 3) := by decide +kernel
theorem dL_law_631 : decode cL_law 631 = .ok (.iconst 1, 1) := by decide +kernel
theorem dL_law_632 : decode cL_law 632 = .ok (.goto 4, 3) := by decide +kernel
theorem dL_law_635 : decode cL_law 635 = .ok (.iconst 0, 1) := by decide +kernel
theorem dL_law_636 : decode cL_law 636 = .ok (.if_icmp .eq 5, 3) := by decide +kernel
theorem dL_law_639 : decode cL_law 639 = .ok (.iconst 0, 1) := by decide +kernel
theorem dL_law_640 : decode cL_law 640 = .ok (.ireturn, 1) := by decide +kernel
theorem dL_law_641 : decode cL_law 641 = .ok (.iinc 2 1, 3) := by decide +kernel
theorem dL_law_644 : decode cL_law 644 = .ok (.goto (-606), 3) := by decide +kernel
theorem dL_law_647 : decode cL_law 647 = .ok (.iconst 1, 1) := by decide +kernel
theorem dL_law_648 : decode cL_law 648 = .ok (.ireturn, 1) := by decide +kernel
end
section
/-! MY ROWS 02: what a state is held in (one pool of cells, all behind z0), contracts, and the rows of calls and cells over the pool -/
abbrev rD (d mc ms : Nat) : Room := { frames := d, cells := mc, slots := ms, locals := 60 * d }
abbrev zA (z0 : Nat) : Nat → Prop := fun q => z0 ≤ q
abbrev zT (T : ClassId × ClassId × ClassId) : List (ClassId × FieldType) := [(T.1, .int), (T.1, .int), (T.2.2, .array .int)]
/-- rows of ints, of longs, of references in the pool; objects -/
abbrev eI (c : ClassId) (n : Nat) (g : Nat → Int32) : va_E := .inl (c, n, .inl g)
abbrev eJ (c : ClassId) (n : Nat) (g : Nat → Int64) : va_E := .inl (c, n, .inr (.inl g))
abbrev eQ (c : ClassId) (n : Nat) (g : Nat → Option Nat) : va_E := .inl (c, n, .inr (.inr (.inr (.inr g))))
abbrev eO (ci : Nat) (fs : List Value) : va_E := .inr (ci, fs)
def zPool (D : va_G) (z0 : Nat) (L : List Nat) (f : Nat → va_E) (H : Heap) : Prop := va_P D vwCl (va_pl L f) H ∧ va_D (zA z0) (va_pl L f)
/-- the four places that a face goes round, and what twist more each gives -/
def zRing : Nat → Nat → Nat
  | 0 => fun k => [0, 1, 2, 3].getD k 0
  | 1 => fun k => [0, 3, 7, 4].getD k 0
  | _ => fun k => [0, 4, 5, 1].getD k 0
def zMore : Nat → Nat → Nat
  | 0 => fun k => [0, 0, 0, 0].getD k 0
  | 1 => fun k => [1, 2, 1, 2].getD k 0
  | _ => fun k => [2, 1, 2, 1].getD k 0
/-- what stays as the start has it: nothing is wanted of it here -/
def SF (_ : Nat) (_ : State) (_ : Heap) : Prop := True
theorem SF.pass {z0 : Nat} {u U : State} {H H1 : Heap} (_ : u.WarmedH U.vm) (_ : ∀ a : Nat, a < H.size → ¬ zA z0 a → H1[a]? = H[a]?) (_ : SF z0 u H) : SF z0 U H1 := trivial
/-- what a method finds beside its cells -/
def zE (D : va_G) (T : ClassId × ClassId × ClassId) (z0 : Nat) (s : State) : Prop := z0 ≤ s.heap.size ∧ SF z0 s s.heap ∧ va_K D vwCl (zT T) s
def zPre (D : va_G) (T : ClassId × ClassId × ClassId) (z0 : Nat) (L : List Nat) (f : Nat → va_E) (U : State) : Prop := zE D T z0 U ∧ zPool D z0 L f U.heap
/-- a method that answers o, reads no more than B says, and leaves all cells -/
def RV (l : Launch) (y : MethodName) (ws : List Cond) (d : Nat) (B : State → Prop) (av : List Value) (o : Option Value) : Prop :=
  Met l y ws (rD d 0 0) (va_Pc av B) (fun _ st oc t => oc = .returned o ∧ t.heap = st.heap) 0 0 (fun _ => False)
abbrev zNo : State → Prop := fun _ => True
/-- a method that answers, and leaves another pool -/
def HV (l : Launch) (y : MethodName) (ws : List Cond) (d mc ms : Nat) (D : va_G) (z0 : Nat) (B : State → Prop) (av : List Value) (post : Option Value → List Nat → (Nat → va_E) → Prop) : Prop :=
  Met l y ws (rD d mc ms) (va_Pc av B) (fun _ st oc t => (∃ (o : Option Value) (L : List Nat) (f : Nat → va_E), oc = .returned o ∧ post o L f ∧ zPool D z0 L f t.heap) ∧ va_F (zA z0) st t) mc ms (zA z0)
theorem zPre.blind {D : va_G} {T : ClassId × ClassId × ClassId} {z0 : Nat} {L : List Nat} {f : Nat → va_E} {av : List Value} : FrameBlind (va_Pc av (zPre D T z0 L f)) := by
  intro a U g mk h
  obtain ⟨h1, ⟨h2, h3, h4⟩, h5⟩ := h
  exact ⟨h1, ⟨h2, h3.pass (u := U) (U := U.calling g mk a) (State.WarmedH.refl U) (fun _ _ _ => rfl), va_K.moved (u := U) (U := U.calling g mk a) (Vm.Alike.refl U.vm) h4⟩, h5⟩
theorem zNo.blind {av : List Value} : FrameBlind (va_Pc av zNo) := fun _ _ _ _ h => h
end
section
/-! MY ROWS 03: how a method begins and ends, and calls -/
section ZA
variable {p : Program} {l : Launch} {e : Env} {R : Room} {s : State} {m : MethodId} {args : Array Value} {below : List Frame} {meth : Method} {c : Code} {H : Heap} {locs : List Loc} {cells slots : Nat} {Q : State → Prop}
variable {Ts : List Cond} {own : String} {nL : Nat} {cc : ByteArray} {pc : Nat} {ls : Array Slot} {rest : List Value} {D : va_G} {T : ClassId × ClassId × ClassId} {z0 : Nat} {L : List Nat} {f : Nat → va_E}
abbrev RVQ (o : Option Value) : Array Value → State → Outcome → State → Prop := fun _ st oc t => oc = .returned o ∧ t.heap = st.heap
abbrev HVQ (D : va_G) (z0 : Nat) (post : Option Value → List Nat → (Nat → va_E) → Prop) : Array Value → State → Outcome → State → Prop := fun _ st oc t => (∃ (o : Option Value) (L : List Nat) (f : Nat → va_E), oc = .returned o ∧ post o L f ∧ zPool D z0 L f t.heap) ∧ va_F (zA z0) st t
theorem RV.of {y : MethodName} {ws ws' : List Cond} {d maxL : Nat} {B : State → Prop} {av : List Value} {o : Option Value} {ret : Option FieldType} (hy : plainName y.cls = true) (hw : ws = Cond.code y cc maxL ret :: ws') (hsz : (lg_sl av).length ≤ maxL)
    (body : ∀ (p : Program) (e : Env) (s : State) (m : MethodId) (args : Array Value) (below : List Frame) (meth : Method) (c : Code), CallFix p m c cc maxL s args ws y.cls → meth.sig.returnType = ret → meth.locks = false → B s → ∀ ls : Array Slot, lv_has ls maxL (lv_args 0 av) →
      W p l e (rD d 0 0) s m args below meth c s.heap [] 0 0 (MQ below (RVQ o) args s 0 0 (fun _ => False)) (F0 m 0 ls [])) : RV l y ws d B av o := by
  refine Met.ofW (cc := cc) (maxL := maxL) (ret := ret) hy hw ?_
  intro p e s m args below meth c s₁ Bd hml hv
  obtain ⟨rfl, hB⟩ := hv
  have h := body p e s m av.toArray below meth c ⟨Bd.exec, Bd.bytes, hml, findClass_of_methodNamed Bd.named, atoms_spec (ws := ws) Bd.pre⟩ Bd.returns Bd.notSynchronized hB _ (lv_entry av hsz)
  rw [lg_entry_eq]
  exact h
theorem HV.of {y : MethodName} {ws ws' : List Cond} {d maxL mc ms : Nat} {B : State → Prop} {av : List Value} {post : Option Value → List Nat → (Nat → va_E) → Prop} {ret : Option FieldType} (hy : plainName y.cls = true) (hw : ws = Cond.code y cc maxL ret :: ws') (hsz : (lg_sl av).length ≤ maxL)
    (body : ∀ (p : Program) (e : Env) (s : State) (m : MethodId) (args : Array Value) (below : List Frame) (meth : Method) (c : Code), CallFix p m c cc maxL s args ws y.cls → meth.sig.returnType = ret → meth.locks = false → (y.name = "<init>" → meth.name = "<init>") → B s → ∀ ls : Array Slot, lv_has ls maxL (lv_args 0 av) →
      W p l e (rD d mc ms) s m args below meth c s.heap [] 0 0 (MQ below (HVQ D z0 post) args s mc ms (zA z0)) (F0 m 0 ls [])) : HV l y ws d mc ms D z0 B av post := by
  refine Met.ofW (cc := cc) (maxL := maxL) (ret := ret) hy hw ?_
  intro p e s m args below meth c s₁ Bd hml hv
  obtain ⟨rfl, hB⟩ := hv
  have h := body p e s m av.toArray below meth c ⟨Bd.exec, Bd.bytes, hml, findClass_of_methodNamed Bd.named, atoms_spec (ws := ws) Bd.pre⟩ Bd.returns Bd.notSynchronized (fun hy => (name_of_methodNamed Bd.named Bd.method).1.trans hy) hB _ (lv_entry av hsz)
  rw [lg_entry_eq]
  exact h
/-! ends -/
theorem RV.iret {v x : Int32} (hC : CallFix p m c cc nL s args Ts own) (hr : meth.sig.returnType = some .int) (hlk : meth.locks = false) (hdg : decode cc pc = .ok (.ireturn, 1)) (hv : x = v) :
    W p l e R s m args below meth c s.heap [] 0 0 (MQ below (RVQ (some (.int v))) args s 0 0 (fun _ => False)) (F0 m pc ls [.int x]) := by
  subst hv
  exact W.iret hC.1 hC.2.1 hr (fun t ht _ => ⟨rfl, ht⟩) (fun q h => by cases h) hdg hlk
theorem RV.zret {v x : Int32} (hC : CallFix p m c cc nL s args Ts own) (hr : meth.sig.returnType = some .boolean) (hlk : meth.locks = false) (hdg : decode cc pc = .ok (.ireturn, 1)) (hv : x = v) (hn : x = 0 ∨ x = 1) :
    W p l e R s m args below meth c s.heap [] 0 0 (MQ below (RVQ (some (.int v))) args s 0 0 (fun _ => False)) (F0 m pc ls [.int x]) := by
  subst hv
  exact W.zret hC.1 hC.2.1 hr (by rcases hn with h | h <;> (subst h; decide)) (fun t ht _ => ⟨rfl, ht⟩) (fun q h => by cases h) hdg hlk
theorem RV.lret {v x : Int64} (hC : CallFix p m c cc nL s args Ts own) (hr : meth.sig.returnType = some .long) (hlk : meth.locks = false) (hdg : decode cc pc = .ok (.lreturn, 1)) (hv : x = v) :
    W p l e R s m args below meth c s.heap [] 0 0 (MQ below (RVQ (some (.long v))) args s 0 0 (fun _ => False)) (F0 m pc ls [.long x]) := by
  subst hv
  exact W.lret hC.1 hC.2.1 hr (fun t ht _ => ⟨rfl, ht⟩) (fun q h => by cases h) hdg hlk
theorem RV.vret (hC : CallFix p m c cc nL s args Ts own) (hr : meth.sig.returnType = none) (hlk : meth.locks = false) (hdg : decode cc pc = .ok (.return_, 1)) :
    W p l e R s m args below meth c s.heap [] 0 0 (MQ below (RVQ none) args s 0 0 (fun _ => False)) (F0 m pc ls []) :=
  W.vret hC.1 hC.2.1 hr (fun t ht _ => ⟨rfl, ht⟩) (fun q h => by cases h) hdg hlk
theorem HV.post {o : Option Value} {post : Option Value → List Nat → (Nat → va_E) → Prop} (hP : va_P D vwCl (va_pl L f) H) (hD : va_D (zA z0) (va_pl L f)) (hS : va_S (zA z0) s.heap H locs) (hp : post o L f) (t : State) (ht : t.heap = H) : HVQ D z0 post args s (.returned o) t := by
  refine ⟨⟨o, L, f, rfl, hp, by rw [ht]; exact hP, hD⟩, by rw [ht]; exact hS.1, fun q h1 h2 => by rw [ht]; exact hS.2.1 q h1 h2⟩
theorem HV.iret {x : Int32} {mc ms : Nat} {post : Option Value → List Nat → (Nat → va_E) → Prop} (hC : CallFix p m c cc nL s args Ts own) (hr : meth.sig.returnType = some .int) (hlk : meth.locks = false) (hP : va_P D vwCl (va_pl L f) H) (hD : va_D (zA z0) (va_pl L f)) (hS : va_S (zA z0) s.heap H locs) (hc : cells ≤ mc) (hs : slots ≤ ms) (hdg : decode cc pc = .ok (.ireturn, 1)) (hp : post (some (.int x)) L f) :
    W p l e R s m args below meth c H locs cells slots (MQ below (HVQ D z0 post) args s mc ms (zA z0)) (F0 m pc ls [.int x]) :=
  W.widen hc hs (W.iret hC.1 hC.2.1 hr (fun t ht _ => HV.post hP hD hS hp t ht) hS.2.2 hdg hlk)
theorem HV.zret {x : Int32} {mc ms : Nat} {post : Option Value → List Nat → (Nat → va_E) → Prop} (hC : CallFix p m c cc nL s args Ts own) (hr : meth.sig.returnType = some .boolean) (hlk : meth.locks = false) (hP : va_P D vwCl (va_pl L f) H) (hD : va_D (zA z0) (va_pl L f)) (hS : va_S (zA z0) s.heap H locs) (hc : cells ≤ mc) (hs : slots ≤ ms) (hdg : decode cc pc = .ok (.ireturn, 1)) (hn : x = 0 ∨ x = 1) (hp : post (some (.int x)) L f) :
    W p l e R s m args below meth c H locs cells slots (MQ below (HVQ D z0 post) args s mc ms (zA z0)) (F0 m pc ls [.int x]) :=
  W.widen hc hs (W.zret hC.1 hC.2.1 hr (by rcases hn with h | h <;> (subst h; decide)) (fun t ht _ => HV.post hP hD hS hp t ht) hS.2.2 hdg hlk)
theorem HV.lret {x : Int64} {mc ms : Nat} {post : Option Value → List Nat → (Nat → va_E) → Prop} (hC : CallFix p m c cc nL s args Ts own) (hr : meth.sig.returnType = some .long) (hlk : meth.locks = false) (hP : va_P D vwCl (va_pl L f) H) (hD : va_D (zA z0) (va_pl L f)) (hS : va_S (zA z0) s.heap H locs) (hc : cells ≤ mc) (hs : slots ≤ ms) (hdg : decode cc pc = .ok (.lreturn, 1)) (hp : post (some (.long x)) L f) :
    W p l e R s m args below meth c H locs cells slots (MQ below (HVQ D z0 post) args s mc ms (zA z0)) (F0 m pc ls [.long x]) :=
  W.widen hc hs (W.lret hC.1 hC.2.1 hr (fun t ht _ => HV.post hP hD hS hp t ht) hS.2.2 hdg hlk)
theorem HV.vret {mc ms : Nat} {post : Option Value → List Nat → (Nat → va_E) → Prop} (hC : CallFix p m c cc nL s args Ts own) (hr : meth.sig.returnType = none) (hlk : meth.locks = false) (hP : va_P D vwCl (va_pl L f) H) (hD : va_D (zA z0) (va_pl L f)) (hS : va_S (zA z0) s.heap H locs) (hc : cells ≤ mc) (hs : slots ≤ ms) (hdg : decode cc pc = .ok (.return_, 1)) (hp : post none L f) :
    W p l e R s m args below meth c H locs cells slots (MQ below (HVQ D z0 post) args s mc ms (zA z0)) (F0 m pc ls []) :=
  W.widen hc hs (W.vret hC.1 hC.2.1 hr (fun t ht _ => HV.post hP hD hS hp t ht) hS.2.2 hdg hlk)
theorem HV.aret {x : Nat} {mc ms : Nat} {post : Option Value → List Nat → (Nat → va_E) → Prop} (hC : CallFix p m c cc nL s args Ts own) (hr : meth.sig.returnType = some (.array .int)) (hlk : meth.locks = false) (hP : va_P D vwCl (va_pl L f) H) (hD : va_D (zA z0) (va_pl L f)) (hS : va_S (zA z0) s.heap H locs) (hc : cells ≤ mc) (hs : slots ≤ ms) (hdg : decode cc pc = .ok (.areturn, 1)) (hp : post (some (.ref x)) L f) :
    W p l e R s m args below meth c H locs cells slots (MQ below (HVQ D z0 post) args s mc ms (zA z0)) (F0 m pc ls [.ref x]) :=
  W.widen hc hs (W.aret hC.1 hC.2.1 hr (Or.inr ⟨_, rfl⟩) (Or.inr ⟨_, rfl⟩) (fun t ht _ => HV.post hP hD hS hp t ht) hS.2.2 hdg hlk)
/-! calls -/
theorem zPre.pass {av : List Value} (hE : zE D T z0 s) (hP : va_P D vwCl (va_pl L f) H) (hD : va_D (zA z0) (va_pl L f)) (hS : va_S (zA z0) s.heap H locs) (U : State) (hU : U.heap = H) (hW : s.WarmedH U.vm) : va_Pc av (zPre D T z0 L f) av.toArray U := by
  obtain ⟨h1, h2, h3⟩ := hE
  refine ⟨rfl, ⟨by rw [hU]; exact Nat.le_trans h1 hS.1, by rw [hU]; exact h2.pass hW (fun a ha hn => hS.2.1 a ha hn), va_K.moved hW.alike h3⟩, by rw [hU]; exact hP, hD⟩
theorem p_go {y : MethodName} {mc ms : Nat} {o : Option Value} {a : Array Value} {st0 : List Value} (hr : CallRun p l e R s m args below meth c H locs cells slots 0 0 (F0 m pc ls st0) rest (RVQ o a) (fun _ => False))
    (kk : W p l e R s m args below meth c H locs cells slots Q (F0 m (pc + 3) ls (o.toList ++ rest))) : W p l e R s m args below meth c H locs cells slots Q (F0 m pc ls st0) := by
  intro S hT X
  obtain ⟨v, st₀, t, T', L, h0, X', hL, e1, ⟨hv, hh⟩, st⟩ := hr S hT X
  cases hv
  obtain ⟨t2, a1, b1⟩ := kk T' (by rw [e1, hh, h0]) (Stand.forget X' (fun q h => (hL q h).elim))
  exact ⟨t2, st t2 a1, b1⟩
/-- a static call that reads: pure -/
theorem p_cs {y : MethodName} {n : Nat} {ws ws' : List Cond} {d maxL index : Nat} {av st : List Value} {o : Option Value} {ret : Option FieldType} {bytes : ByteArray} {Ts : List Cond} {own : String} {nL : Nat}
    (hM : RV l y ws d zNo av o) (hC : CallFix p m c cc nL s args Ts own) (hg : GoodIn Ts (va_wsS own index y ws)) (hw : ws = Cond.code y bytes maxL ret :: ws') (hd : y.cls ≠ "java/lang/invoke/MethodHandle" ∧ y.cls ≠ "java/lang/invoke/VarHandle" ∧ (parseMethodDescriptor y.desc).map (fun d => d.parameters.length) = some n) (hn : av.length = n)
    (hR : d + 1 ≤ R.frames ∧ 8 + (maxL + 11) + 60 * d ≤ R.locals) (hf : cells ≤ R.cells ∧ slots ≤ R.slots) (hsz : ls.size = nL) (hW : (rest.map fun v => v.category).sum ≤ 8) (hdg : decode cc pc = .ok (.invokestatic index, 3)) (hst : st = av.reverse ++ rest)
    (kk : W p l e R s m args below meth c H locs cells slots Q (F0 m (pc + 3) ls (o.toList ++ rest))) : W p l e R s m args below meth c H locs cells slots Q (F0 m pc ls st) := by
  subst hst
  exact p_go (y := y) (mc := 0) (ms := 0) (W.runS (As := av) (rest := rest) hC hM (va_cwS n hC.2.2.2.2 hg hw rfl rfl hd hR) ⟨zNo.blind, fun U _ _ => ⟨rfl, trivial⟩⟩ rfl hn hsz rfl (lv_room hW) hdg ⟨hf.1, hf.2⟩) kk
/-- a static call that reads, with the pool -/
theorem p_csB {y : MethodName} {n : Nat} {ws ws' : List Cond} {d maxL index : Nat} {av st : List Value} {o : Option Value} {ret : Option FieldType} {bytes : ByteArray} {Ts : List Cond} {own : String} {nL : Nat}
    (hM : RV l y ws d (zPre D T z0 L f) av o) (hC : CallFix p m c cc nL s args Ts own) (hE : zE D T z0 s) (hP : va_P D vwCl (va_pl L f) H) (hD : va_D (zA z0) (va_pl L f)) (hS : va_S (zA z0) s.heap H locs) (hg : GoodIn Ts (va_wsS own index y ws)) (hw : ws = Cond.code y bytes maxL ret :: ws') (hd : y.cls ≠ "java/lang/invoke/MethodHandle" ∧ y.cls ≠ "java/lang/invoke/VarHandle" ∧ (parseMethodDescriptor y.desc).map (fun d => d.parameters.length) = some n) (hn : av.length = n)
    (hR : d + 1 ≤ R.frames ∧ 8 + (maxL + 11) + 60 * d ≤ R.locals) (hf : cells ≤ R.cells ∧ slots ≤ R.slots) (hsz : ls.size = nL) (hW : (rest.map fun v => v.category).sum ≤ 8) (hdg : decode cc pc = .ok (.invokestatic index, 3)) (hst : st = av.reverse ++ rest)
    (kk : W p l e R s m args below meth c H locs cells slots Q (F0 m (pc + 3) ls (o.toList ++ rest))) : W p l e R s m args below meth c H locs cells slots Q (F0 m pc ls st) := by
  subst hst
  exact p_go (y := y) (mc := 0) (ms := 0) (W.runS (As := av) (rest := rest) hC hM (va_cwS n hC.2.2.2.2 hg hw rfl rfl hd hR) ⟨zPre.blind, fun U hU hW => zPre.pass hE hP hD hS U hU hW⟩ rfl hn hsz rfl (lv_room hW) hdg ⟨hf.1, hf.2⟩) kk
/-- a virtual call that reads, with the pool -/
theorem p_cvB {y : MethodName} {n : Nat} {ws ws' : List Cond} {d maxL index ci N : Nat} {C : String} {TT : u_T} {b : Nat} {fs : List Value} {av st : List Value} {o : Option Value} {ret : Option FieldType} {bytes : ByteArray} {Ts : List Cond} {own : String} {nL : Nat}
    (hM : RV l y ws d (zPre D T z0 L f) (.ref b :: av) o) (hC : CallFix p m c cc nL s args Ts own) (hE : zE D T z0 s) (hP : va_P D vwCl (va_pl L f) H) (hD : va_D (zA z0) (va_pl L f)) (hS : va_S (zA z0) s.heap H locs) (hm : b ∈ L) (he : f b = .inr (ci, fs)) (hc : vwCl[ci]? = some (C, TT, N)) (hg : GoodIn Ts (wsV own index C y ws)) (hw : ws = Cond.code y bytes maxL ret :: ws') (hd : y.cls = C ∧ y.cls ≠ "java/lang/invoke/MethodHandle" ∧ y.cls ≠ "java/lang/invoke/VarHandle" ∧ (parseMethodDescriptor y.desc).map (fun d => d.parameters.length) = some n) (hn : av.length = n)
    (hR : d + 1 ≤ R.frames ∧ 8 + (maxL + 11) + 60 * d ≤ R.locals) (hf : cells ≤ R.cells ∧ slots ≤ R.slots) (hsz : ls.size = nL) (hW : (rest.map fun v => v.category).sum ≤ 8) (hdg : decode cc pc = .ok (.invokevirtual index, 3)) (hst : st = av.reverse ++ .ref b :: rest)
    (kk : W p l e R s m args below meth c H locs cells slots Q (F0 m (pc + 3) ls (o.toList ++ rest))) : W p l e R s m args below meth c H locs cells slots Q (F0 m pc ls st) := by
  subst hst
  obtain ⟨k, hk⟩ := va_pl_get (X := []) (f := f) hm
  rw [List.nil_append, he] at hk
  exact p_go (y := y) (mc := 0) (ms := 0) (W.runV (As := av) (rest := rest) hC hM (cwV n hC.2.2.2.2 hg hw rfl rfl hd hR) ⟨zPre.blind, va_recv hE.2.2 hP hc hk, fun U hU hW => zPre.pass hE hP hD hS U hU hW⟩ rfl hn hsz rfl (lv_room hW) hdg ⟨hf.1, hf.2⟩) kk
theorem p_goH {mc ms : Nat} {post : Option Value → List Nat → (Nat → va_E) → Prop} {a : Array Value} {st0 : List Value} (hr : va_Run p l e R s m args below meth c H locs cells slots mc ms (F0 m pc ls st0) rest (HVQ D z0 post a) (zA z0)) (hS : va_S (zA z0) s.heap H locs)
    (kk : ∀ (o : Option Value) (L1 : List Nat) (f1 : Nat → va_E) (H1 : Heap) (locs1 : List Loc), post o L1 f1 → va_P D vwCl (va_pl L1 f1) H1 → va_D (zA z0) (va_pl L1 f1) → va_S (zA z0) s.heap H1 locs1 → W p l e R s m args below meth c H1 locs1 (cells + mc) (slots + ms) Q (F0 m (pc + 3) ls (o.toList ++ rest))) : W p l e R s m args below meth c H locs cells slots Q (F0 m pc ls st0) := by
  intro S hT X
  obtain ⟨v, st₀, t, T', Ls, h0, X', hL, e1, e2, ⟨⟨o, L1, f1, hv, hp, hb1, hb2⟩, hz, hk⟩, st⟩ := hr S hT X
  cases hv
  rw [h0] at hz hk
  obtain ⟨t2, a1, b1⟩ := kk v L1 f1 T'.heap (locs ++ Ls) hp (by rw [e1]; exact hb1) hb2
    ⟨Nat.le_trans hS.1 (by rw [e1]; exact hz), fun q h1 h2 => by rw [e1, hk q (Nat.lt_of_lt_of_le h1 hS.1) h2]; exact hS.2.1 q h1 h2, fun q hq => by
      rcases List.mem_append.mp hq with h | h
      · exact hS.2.2 q h
      · exact hL q h⟩ T' rfl X'
  exact ⟨t2, st t2 a1, b1⟩
/-- a static call that leaves another pool -/
theorem p_csH {y : MethodName} {n : Nat} {ws ws' : List Cond} {d maxL mc ms index : Nat} {av st : List Value} {post : Option Value → List Nat → (Nat → va_E) → Prop} {ret : Option FieldType} {bytes : ByteArray} {Ts : List Cond} {own : String} {nL : Nat}
    (hM : HV l y ws d mc ms D z0 (zPre D T z0 L f) av post) (hC : CallFix p m c cc nL s args Ts own) (hE : zE D T z0 s) (hP : va_P D vwCl (va_pl L f) H) (hD : va_D (zA z0) (va_pl L f)) (hS : va_S (zA z0) s.heap H locs) (hg : GoodIn Ts (va_wsS own index y ws)) (hw : ws = Cond.code y bytes maxL ret :: ws') (hd : y.cls ≠ "java/lang/invoke/MethodHandle" ∧ y.cls ≠ "java/lang/invoke/VarHandle" ∧ (parseMethodDescriptor y.desc).map (fun d => d.parameters.length) = some n) (hn : av.length = n)
    (hR : d + 1 ≤ R.frames ∧ 8 + (maxL + 11) + 60 * d ≤ R.locals) (hf : cells + mc ≤ R.cells ∧ slots + ms ≤ R.slots) (hsz : ls.size = nL) (hW : (rest.map fun v => v.category).sum ≤ 8) (hdg : decode cc pc = .ok (.invokestatic index, 3)) (hst : st = av.reverse ++ rest)
    (kk : ∀ (o : Option Value) (L1 : List Nat) (f1 : Nat → va_E) (H1 : Heap) (locs1 : List Loc), post o L1 f1 → va_P D vwCl (va_pl L1 f1) H1 → va_D (zA z0) (va_pl L1 f1) → va_S (zA z0) s.heap H1 locs1 → W p l e R s m args below meth c H1 locs1 (cells + mc) (slots + ms) Q (F0 m (pc + 3) ls (o.toList ++ rest))) : W p l e R s m args below meth c H locs cells slots Q (F0 m pc ls st) := by
  subst hst
  exact p_goH (va_runS (As := av) (rest := rest) hC hM (va_cwS n hC.2.2.2.2 hg hw rfl rfl hd hR) ⟨zPre.blind, fun U hU hW => zPre.pass hE hP hD hS U hU hW⟩ rfl hn hsz rfl (lv_room hW) hdg hf) hS kk
theorem p_cvH {y : MethodName} {n : Nat} {ws ws' : List Cond} {d maxL mc ms index ci N : Nat} {C : String} {TT : u_T} {b : Nat} {fs : List Value} {av st : List Value} {post : Option Value → List Nat → (Nat → va_E) → Prop} {ret : Option FieldType} {bytes : ByteArray} {Ts : List Cond} {own : String} {nL : Nat}
    (hM : HV l y ws d mc ms D z0 (zPre D T z0 L f) (.ref b :: av) post) (hC : CallFix p m c cc nL s args Ts own) (hE : zE D T z0 s) (hP : va_P D vwCl (va_pl L f) H) (hD : va_D (zA z0) (va_pl L f)) (hS : va_S (zA z0) s.heap H locs) (hm : b ∈ L) (he : f b = .inr (ci, fs)) (hc : vwCl[ci]? = some (C, TT, N)) (hg : GoodIn Ts (wsV own index C y ws)) (hw : ws = Cond.code y bytes maxL ret :: ws') (hd : y.cls = C ∧ y.cls ≠ "java/lang/invoke/MethodHandle" ∧ y.cls ≠ "java/lang/invoke/VarHandle" ∧ (parseMethodDescriptor y.desc).map (fun d => d.parameters.length) = some n) (hn : av.length = n)
    (hR : d + 1 ≤ R.frames ∧ 8 + (maxL + 11) + 60 * d ≤ R.locals) (hf : cells + mc ≤ R.cells ∧ slots + ms ≤ R.slots) (hsz : ls.size = nL) (hW : (rest.map fun v => v.category).sum ≤ 8) (hdg : decode cc pc = .ok (.invokevirtual index, 3)) (hst : st = av.reverse ++ .ref b :: rest)
    (kk : ∀ (o : Option Value) (L1 : List Nat) (f1 : Nat → va_E) (H1 : Heap) (locs1 : List Loc), post o L1 f1 → va_P D vwCl (va_pl L1 f1) H1 → va_D (zA z0) (va_pl L1 f1) → va_S (zA z0) s.heap H1 locs1 → W p l e R s m args below meth c H1 locs1 (cells + mc) (slots + ms) Q (F0 m (pc + 3) ls (o.toList ++ rest))) : W p l e R s m args below meth c H locs cells slots Q (F0 m pc ls st) := by
  subst hst
  obtain ⟨k, hk⟩ := va_pl_get (X := []) (f := f) hm
  rw [List.nil_append, he] at hk
  exact p_goH (va_runV (As := av) (rest := rest) hC hM (cwV n hC.2.2.2.2 hg hw rfl rfl hd hR) ⟨zPre.blind, va_recv hE.2.2 hP hc hk, fun U hU hW => zPre.pass hE hP hD hS U hU hW⟩ rfl hn hsz rfl (lv_room hW) hdg hf) hS kk
end ZA
end
section
/-! MY ROWS 04: instructions over numbers that are written nI of a natural number -/
section ZB
variable {p : Program} {l : Launch} {e : Env} {R : Room} {s : State} {m : MethodId} {args : Array Value} {below : List Frame} {meth : Method} {c : Code} {H : Heap} {locs : List Loc} {cells slots : Nat} {Q : State → Prop}
variable {cc : ByteArray} {pc nL : Nat} {ls : Array Slot} {rest : List Value} {Ts : List Cond} {own : String}
theorem z_inc (a : Nat) : nI a + Int32.ofInt 1 = nI (a + 1) := nI_1 a
theorem z_inc4 (a : Nat) : nI a + Int32.ofInt 4 = nI (a + 4) := nI_add a 4
theorem z_dec {a : Nat} (h : 0 < a) : nI a + Int32.ofInt (-1) = nI (a - 1) := by
  obtain ⟨b, rfl⟩ : ∃ b, a = b + 1 := ⟨a - 1, by omega⟩
  exact pk_m1 b
theorem q_i {x : Int32} (y : Int32) (h : x = y) (k : W p l e R s m args below meth c H locs cells slots Q (F0 m pc ls (.int y :: rest))) : W p l e R s m args below meth c H locs cells slots Q (F0 m pc ls (.int x :: rest)) := by subst h; exact k
theorem q_l {x : Int64} (y : Int64) (h : x = y) (k : W p l e R s m args below meth c H locs cells slots Q (F0 m pc ls (.long y :: rest))) : W p l e R s m args below meth c H locs cells slots Q (F0 m pc ls (.long x :: rest)) := by subst h; exact k
theorem z_iadd (hC : CallFix p m c cc nL s args Ts own) {a b : Nat} (hdg : decode cc pc = .ok (.iadd, 1)) (k : W p l e R s m args below meth c H locs cells slots Q (F0 m (pc + 1) ls (.int (nI (a + b)) :: rest))) : W p l e R s m args below meth c H locs cells slots Q (F0 m pc ls (.int (nI b) :: .int (nI a) :: rest)) :=
  lv_iadd hC.1 hC.2.1 hdg (q_i _ (nI_add a b) k)
theorem z_imul (hC : CallFix p m c cc nL s args Ts own) {a b : Nat} (hdg : decode cc pc = .ok (.imul, 1)) (k : W p l e R s m args below meth c H locs cells slots Q (F0 m (pc + 1) ls (.int (nI (a * b)) :: rest))) : W p l e R s m args below meth c H locs cells slots Q (F0 m pc ls (.int (nI b) :: .int (nI a) :: rest)) :=
  lv_imul hC.1 hC.2.1 hdg (q_i _ (pk_mul a b) k)
theorem z_isub (hC : CallFix p m c cc nL s args Ts own) {a b : Nat} (hdg : decode cc pc = .ok (.isub, 1)) (h : b ≤ a) (k : W p l e R s m args below meth c H locs cells slots Q (F0 m (pc + 1) ls (.int (nI (a - b)) :: rest))) : W p l e R s m args below meth c H locs cells slots Q (F0 m pc ls (.int (nI b) :: .int (nI a) :: rest)) :=
  lv_isub hC.1 hC.2.1 hdg (q_i _ (pk_sub h) k)
theorem z_ne0 {b : Nat} (h0 : 0 < b) (hb : b < 2 ^ 31) : ¬ nI b = 0 := nI_ne0 h0 hb
theorem z_idiv (hC : CallFix p m c cc nL s args Ts own) {a b : Nat} (hdg : decode cc pc = .ok (.idiv, 1)) (ha : a < 2 ^ 31) (h0 : 0 < b) (hb : b < 2 ^ 31) (k : W p l e R s m args below meth c H locs cells slots Q (F0 m (pc + 1) ls (.int (nI (a / b)) :: rest))) : W p l e R s m args below meth c H locs cells slots Q (F0 m pc ls (.int (nI b) :: .int (nI a) :: rest)) :=
  lv_idiv hC.1 hC.2.1 hdg (z_ne0 h0 hb) (q_i _ (pk_div ha h0 hb) k)
theorem z_irem (hC : CallFix p m c cc nL s args Ts own) {a b : Nat} (hdg : decode cc pc = .ok (.irem, 1)) (ha : a < 2 ^ 31) (h0 : 0 < b) (hb : b < 2 ^ 31) (k : W p l e R s m args below meth c H locs cells slots Q (F0 m (pc + 1) ls (.int (nI (a % b)) :: rest))) : W p l e R s m args below meth c H locs cells slots Q (F0 m pc ls (.int (nI b) :: .int (nI a) :: rest)) :=
  lv_irem hC.1 hC.2.1 hdg (z_ne0 h0 hb) (q_i _ (pk_rem ha h0 hb) k)
theorem z_icmp_ge (hC : CallFix p m c cc nL s args Ts own) {a b tgt : Nat} {off : Int} (hdg : decode cc pc = .ok (.if_icmp .ge off, 3)) (ht : (pc : Int) + off = (tgt : Int)) (ha : a < 2 ^ 31) (hb : b < 2 ^ 31) (kt : b ≤ a → W p l e R s m args below meth c H locs cells slots Q (F0 m tgt ls rest)) (kf : a < b → W p l e R s m args below meth c H locs cells slots Q (F0 m (pc + 3) ls rest)) : W p l e R s m args below meth c H locs cells slots Q (F0 m pc ls (.int (nI b) :: .int (nI a) :: rest)) :=
  lv_icmp_ge hC.1 hC.2.1 hdg ht (fun h => kt ((nI_leI hb ha).mp h)) (fun h => kf (Nat.lt_of_not_le fun q => h ((nI_leI hb ha).mpr q)))
theorem z_icmp_gt (hC : CallFix p m c cc nL s args Ts own) {a b tgt : Nat} {off : Int} (hdg : decode cc pc = .ok (.if_icmp .gt off, 3)) (ht : (pc : Int) + off = (tgt : Int)) (ha : a < 2 ^ 31) (hb : b < 2 ^ 31) (kt : b < a → W p l e R s m args below meth c H locs cells slots Q (F0 m tgt ls rest)) (kf : a ≤ b → W p l e R s m args below meth c H locs cells slots Q (F0 m (pc + 3) ls rest)) : W p l e R s m args below meth c H locs cells slots Q (F0 m pc ls (.int (nI b) :: .int (nI a) :: rest)) :=
  lv_icmp_gt hC.1 hC.2.1 hdg ht (fun h => kt ((nI_ltI hb ha).mp h)) (fun h => kf (Nat.le_of_not_lt fun q => h ((nI_ltI hb ha).mpr q)))
theorem z_icmp_le (hC : CallFix p m c cc nL s args Ts own) {a b tgt : Nat} {off : Int} (hdg : decode cc pc = .ok (.if_icmp .le off, 3)) (ht : (pc : Int) + off = (tgt : Int)) (ha : a < 2 ^ 31) (hb : b < 2 ^ 31) (kt : a ≤ b → W p l e R s m args below meth c H locs cells slots Q (F0 m tgt ls rest)) (kf : b < a → W p l e R s m args below meth c H locs cells slots Q (F0 m (pc + 3) ls rest)) : W p l e R s m args below meth c H locs cells slots Q (F0 m pc ls (.int (nI b) :: .int (nI a) :: rest)) :=
  lv_icmp_le hC.1 hC.2.1 hdg ht (fun h => kt ((nI_leI ha hb).mp h)) (fun h => kf (Nat.lt_of_not_le fun q => h ((nI_leI ha hb).mpr q)))
theorem z_icmp_lt (hC : CallFix p m c cc nL s args Ts own) {a b tgt : Nat} {off : Int} (hdg : decode cc pc = .ok (.if_icmp .lt off, 3)) (ht : (pc : Int) + off = (tgt : Int)) (ha : a < 2 ^ 31) (hb : b < 2 ^ 31) (kt : a < b → W p l e R s m args below meth c H locs cells slots Q (F0 m tgt ls rest)) (kf : b ≤ a → W p l e R s m args below meth c H locs cells slots Q (F0 m (pc + 3) ls rest)) : W p l e R s m args below meth c H locs cells slots Q (F0 m pc ls (.int (nI b) :: .int (nI a) :: rest)) :=
  lv_icmp_lt hC.1 hC.2.1 hdg ht (fun h => kt ((nI_ltI ha hb).mp h)) (fun h => kf (Nat.le_of_not_lt fun q => h ((nI_ltI ha hb).mpr q)))
theorem z_icmp_eq (hC : CallFix p m c cc nL s args Ts own) {a b tgt : Nat} {off : Int} (hdg : decode cc pc = .ok (.if_icmp .eq off, 3)) (ht : (pc : Int) + off = (tgt : Int)) (ha : a < 2 ^ 31) (hb : b < 2 ^ 31) (kt : a = b → W p l e R s m args below meth c H locs cells slots Q (F0 m tgt ls rest)) (kf : ¬ a = b → W p l e R s m args below meth c H locs cells slots Q (F0 m (pc + 3) ls rest)) : W p l e R s m args below meth c H locs cells slots Q (F0 m pc ls (.int (nI b) :: .int (nI a) :: rest)) :=
  lv_icmp_eq hC.1 hC.2.1 hdg ht (fun h => kt ((nI_eq ha hb).mp h)) (fun h => kf (fun q => h ((nI_eq ha hb).mpr q)))
theorem z_icmp_ne (hC : CallFix p m c cc nL s args Ts own) {a b tgt : Nat} {off : Int} (hdg : decode cc pc = .ok (.if_icmp .ne off, 3)) (ht : (pc : Int) + off = (tgt : Int)) (ha : a < 2 ^ 31) (hb : b < 2 ^ 31) (kt : ¬ a = b → W p l e R s m args below meth c H locs cells slots Q (F0 m tgt ls rest)) (kf : a = b → W p l e R s m args below meth c H locs cells slots Q (F0 m (pc + 3) ls rest)) : W p l e R s m args below meth c H locs cells slots Q (F0 m pc ls (.int (nI b) :: .int (nI a) :: rest)) :=
  lv_icmp_ne hC.1 hC.2.1 hdg ht (fun h => kt (fun q => h ((nI_eq ha hb).mpr q))) (fun h => kf ((nI_eq ha hb).mp h))
theorem z_if_eq (hC : CallFix p m c cc nL s args Ts own) {a tgt : Nat} {off : Int} (hdg : decode cc pc = .ok (.ifCond .eq off, 3)) (ht : (pc : Int) + off = (tgt : Int)) (ha : a < 2 ^ 31) (kt : a = 0 → W p l e R s m args below meth c H locs cells slots Q (F0 m tgt ls rest)) (kf : ¬ a = 0 → W p l e R s m args below meth c H locs cells slots Q (F0 m (pc + 3) ls rest)) : W p l e R s m args below meth c H locs cells slots Q (F0 m pc ls (.int (nI a) :: rest)) :=
  lv_if_eq hC.1 hC.2.1 hdg ht (fun h => kt ((nI_eq ha (by decide)).mp (h.trans nI_0.symm))) (fun h => kf (fun q => h (by rw [q]; exact nI_0)))
theorem z_if_ne (hC : CallFix p m c cc nL s args Ts own) {a tgt : Nat} {off : Int} (hdg : decode cc pc = .ok (.ifCond .ne off, 3)) (ht : (pc : Int) + off = (tgt : Int)) (ha : a < 2 ^ 31) (kt : ¬ a = 0 → W p l e R s m args below meth c H locs cells slots Q (F0 m tgt ls rest)) (kf : a = 0 → W p l e R s m args below meth c H locs cells slots Q (F0 m (pc + 3) ls rest)) : W p l e R s m args below meth c H locs cells slots Q (F0 m pc ls (.int (nI a) :: rest)) :=
  lv_if_ne hC.1 hC.2.1 hdg ht (fun h => kt (fun q => h (by rw [q]; exact nI_0))) (fun h => kf ((nI_eq ha (by decide)).mp (h.trans nI_0.symm)))
theorem z_if_lt (hC : CallFix p m c cc nL s args Ts own) {a tgt : Nat} {off : Int} (hdg : decode cc pc = .ok (.ifCond .lt off, 3)) (ht : (pc : Int) + off = (tgt : Int)) (ha : a < 2 ^ 31) (kf : W p l e R s m args below meth c H locs cells slots Q (F0 m (pc + 3) ls rest)) : W p l e R s m args below meth c H locs cells slots Q (F0 m pc ls (.int (nI a) :: rest)) :=
  lv_if_lt hC.1 hC.2.1 hdg ht (fun h => absurd h (nI_pos ha)) (fun _ => kf)
theorem z_if_le (hC : CallFix p m c cc nL s args Ts own) {a tgt : Nat} {off : Int} (hdg : decode cc pc = .ok (.ifCond .le off, 3)) (ht : (pc : Int) + off = (tgt : Int)) (ha : a < 2 ^ 31) (kt : a = 0 → W p l e R s m args below meth c H locs cells slots Q (F0 m tgt ls rest)) (kf : 0 < a → W p l e R s m args below meth c H locs cells slots Q (F0 m (pc + 3) ls rest)) : W p l e R s m args below meth c H locs cells slots Q (F0 m pc ls (.int (nI a) :: rest)) :=
  lv_if_le hC.1 hC.2.1 hdg ht (fun h => kt (Nat.eq_zero_of_not_pos fun q => nI_nle q ha h)) (fun h => kf (Nat.pos_of_ne_zero fun q => h (by rw [q]; decide)))
end ZB
end
section
/-! MY ROWS 05: eight bytes in one long -/
def encN (b : Nat → Nat) : Nat → Nat
  | 0 => 0
  | n + 1 => 2 ^ (8 * n) * b n + encN b n
theorem encN_lt {b : Nat → Nat} (h : ∀ i, i < 8 → b i < 256) : ∀ n, n ≤ 8 → encN b n < 2 ^ (8 * n)
  | 0, _ => by simp [encN]
  | n + 1, hn => by
    have ih := encN_lt h n (by omega)
    have hb := h n (by omega)
    show 2 ^ (8 * n) * b n + encN b n < 2 ^ (8 * (n + 1))
    have e : 2 ^ (8 * (n + 1)) = 2 ^ (8 * n) * 256 := by rw [Nat.mul_add, Nat.pow_add]
    rw [e]
    have h1 : 2 ^ (8 * n) * (b n + 1) ≤ 2 ^ (8 * n) * 256 := Nat.mul_le_mul_left _ (by omega)
    rw [Nat.mul_add, Nat.mul_one] at h1
    omega
theorem encN_bit {b : Nat → Nat} (h : ∀ i, i < 8 → b i < 256) : ∀ n, n ≤ 8 → ∀ i, (encN b n).testBit i = (decide (i < 8 * n) && (b (i / 8)).testBit (i % 8))
  | 0, _, i => by simp [encN]
  | n + 1, hn, i => by
    show (2 ^ (8 * n) * b n + encN b n).testBit i = _
    rw [Nat.testBit_two_pow_mul_add _ (encN_lt h n (by omega))]
    by_cases hi : i < 8 * n
    · rw [if_pos hi, encN_bit h n (by omega)]
      have h2 : i < 8 * (n + 1) := by omega
      simp [hi, h2]
    · rw [if_neg hi]
      by_cases h2 : i < 8 * (n + 1)
      · have e1 : i / 8 = n := by omega
        have e2 : i % 8 = i - 8 * n := by omega
        rw [e1, e2]
        simp [h2]
      · have h8 : (2 : Nat) ^ 8 ≤ 2 ^ (i - 8 * n) := Nat.pow_le_pow_right (by decide) (by omega)
        have h3 : (b n).testBit (i - 8 * n) = false := Nat.testBit_lt_two_pow (Nat.lt_of_lt_of_le (h n (by omega)) h8)
        simp [h2, h3]
theorem encN_congr {a b : Nat → Nat} (h : ∀ i, i < 8 → a i = b i) : ∀ n, n ≤ 8 → encN a n = encN b n
  | 0, _ => rfl
  | n + 1, hn => by
    show 2 ^ (8 * n) * a n + encN a n = 2 ^ (8 * n) * b n + encN b n
    rw [encN_congr h n (by omega), h n (by omega)]
def enc (b : Nat → Nat) : Int64 := Int64.ofBitVec (BitVec.ofNat 64 (encN b 8))
theorem enc_congr {a b : Nat → Nat} (h : ∀ i, i < 8 → a i = b i) : enc a = enc b := by
  unfold enc
  rw [encN_congr h 8 (Nat.le_refl 8)]
theorem enc_bit {b : Nat → Nat} (h : ∀ i, i < 8 → b i < 256) (i : Nat) : (enc b).toBitVec.getLsbD i = (decide (i < 64) && (b (i / 8)).testBit (i % 8)) := by
  show (BitVec.ofNat 64 (encN b 8)).getLsbD i = _
  rw [BitVec.getLsbD_ofNat, encN_bit h 8 (Nat.le_refl 8)]
  by_cases hi : i < 64
  · have h2 : i < 8 * 8 := hi
    simp [hi]
  · simp [hi]
theorem enc_inj {a b : Nat → Nat} (ha : ∀ i, i < 8 → a i < 256) (hb : ∀ i, i < 8 → b i < 256) (h : enc a = enc b) : ∀ i, i < 8 → a i = b i := by
  intro i hi
  apply Nat.eq_of_testBit_eq
  intro j
  by_cases hj : j < 8
  · have h1 := enc_bit ha (8 * i + j)
    have h2 := enc_bit hb (8 * i + j)
    rw [h, h2] at h1
    have e1 : (8 * i + j) / 8 = i := by omega
    have e2 : (8 * i + j) % 8 = j := by omega
    have e3 : 8 * i + j < 64 := by omega
    rw [e1, e2] at h1
    simpa [e3] using h1.symm
  · have h8 : (2 : Nat) ^ 8 ≤ 2 ^ j := Nat.pow_le_pow_right (by decide) (by omega)
    rw [Nat.testBit_lt_two_pow (Nat.lt_of_lt_of_le (ha i hi) h8), Nat.testBit_lt_two_pow (Nat.lt_of_lt_of_le (hb i hi) h8)]
theorem cnt_u : ∀ k, k < 64 → (((nI k).toInt64.toUInt64 &&& Int64.toUInt64 63).toBitVec % 64).toNat = k := by decide +kernel
theorem cnt_l : ∀ k, k < 64 → (((nI k).toInt64 &&& 63).toBitVec.smod 64).toNat = k := by decide +kernel
theorem sh_u (x : Int64) {k : Nat} (hk : k < 64) : (x.toUInt64 >>> ((nI k).toInt64.toUInt64 &&& Int64.toUInt64 63)).toInt64.toBitVec = x.toBitVec >>> k := by
  show x.toBitVec >>> (((nI k).toInt64.toUInt64 &&& Int64.toUInt64 63).toBitVec % 64).toNat = _
  rw [cnt_u k hk]
theorem sh_l (x : Int64) {k : Nat} (hk : k < 64) : (x <<< ((nI k).toInt64 &&& 63)).toBitVec = x.toBitVec <<< k := by
  show x.toBitVec <<< (((nI k).toInt64 &&& 63).toBitVec.smod 64).toNat = _
  rw [cnt_l k hk]
theorem bv_7 : ∀ j, j < 32 → (nI 7).toBitVec.getLsbD j = decide (j < 3) := by decide +kernel
theorem bv_3 : ∀ j, j < 32 → (nI 3).toBitVec.getLsbD j = decide (j < 2) := by decide +kernel
theorem i32_ext {x y : Int32} (h : ∀ j, j < 32 → x.toBitVec.getLsbD j = y.toBitVec.getLsbD j) : x = y := by
  apply Int32.toBitVec_inj.mp
  exact BitVec.eq_of_getLsbD_eq fun j hj => h j hj
theorem i64_ext {x y : Int64} (h : ∀ j, j < 64 → x.toBitVec.getLsbD j = y.toBitVec.getLsbD j) : x = y := by
  apply Int64.toBitVec_inj.mp
  exact BitVec.eq_of_getLsbD_eq fun j hj => h j hj
theorem nI_bit (n j : Nat) (hj : j < 32) : (nI n).toBitVec.getLsbD j = n.testBit j := by
  show (BitVec.ofNat 32 n).getLsbD j = _
  rw [BitVec.getLsbD_ofNat]
  simp [hj]
theorem lN_bit (n j : Nat) (hj : j < 64) : (lN n).toBitVec.getLsbD j = n.testBit j := by
  show (BitVec.ofNat 64 n).getLsbD j = _
  rw [BitVec.getLsbD_ofNat]
  simp [hj]
theorem l2i_bit (x : Int64) (j : Nat) (hj : j < 32) : x.toInt32.toBitVec.getLsbD j = x.toBitVec.getLsbD j := by
  rw [Int64.toBitVec_toInt32]
  rw [BitVec.getLsbD_signExtend]
  simp [hj, show j < 64 by omega]
theorem enc_corner {b : Nat → Nat} (h : ∀ i, i < 8 → b i < 256) {i : Nat} (hi : i < 8) : ((enc b).toUInt64 >>> ((nI (8 * i)).toInt64.toUInt64 &&& Int64.toUInt64 63)).toInt64.toInt32 &&& nI 7 = nI (b i % 8) := by
  apply i32_ext
  intro j hj
  rw [Int32.toBitVec_and, BitVec.getLsbD_and, l2i_bit _ _ hj, sh_u _ (by omega), BitVec.getLsbD_ushiftRight, enc_bit h, bv_7 j hj, nI_bit _ _ hj, show (8 : Nat) = 2 ^ 3 from rfl, Nat.testBit_mod_two_pow]
  by_cases h3 : j < 3
  · have e1 : (2 ^ 3 * i + j) / 2 ^ 3 = i := by omega
    have e2 : (2 ^ 3 * i + j) % 2 ^ 3 = j := by omega
    have e3 : 2 ^ 3 * i + j < 64 := by omega
    rw [e1, e2]
    simp [h3, e3]
  · simp [h3]
theorem enc_twist {b : Nat → Nat} (h : ∀ i, i < 8 → b i < 32) {i : Nat} (hi : i < 8) : ((enc b).toUInt64 >>> ((nI (8 * i + 3)).toInt64.toUInt64 &&& Int64.toUInt64 63)).toInt64.toInt32 &&& nI 3 = nI (b i / 8) := by
  apply i32_ext
  intro j hj
  rw [Int32.toBitVec_and, BitVec.getLsbD_and, l2i_bit _ _ hj, sh_u _ (by omega), BitVec.getLsbD_ushiftRight, enc_bit (fun i hi => Nat.lt_trans (h i hi) (by decide)), bv_3 j hj, nI_bit _ _ hj, show b i / 8 = b i / 2 ^ 3 from rfl, Nat.testBit_div_two_pow]
  by_cases h3 : j < 2
  · have e1 : (8 * i + 3 + j) / 8 = i := by omega
    have e2 : (8 * i + 3 + j) % 8 = j + 3 := by omega
    have e3 : 8 * i + 3 + j < 64 := by omega
    rw [e1, e2]
    simp [h3, e3]
  · have h8 : (2 : Nat) ^ 5 ≤ 2 ^ (j + 3) := Nat.pow_le_pow_right (by decide) (by omega)
    rw [Nat.testBit_lt_two_pow (Nat.lt_of_lt_of_le (h i hi) h8)]
    simp [h3]
theorem bv_255 : ∀ j, j < 64 → (255 : Int64).toBitVec.getLsbD j = decide (j < 8) := by decide +kernel
theorem bv_m1 : ∀ j, j < 64 → (-1 : Int64).toBitVec.getLsbD j = true := by decide +kernel
theorem enc_with {b : Nat → Nat} (h : ∀ i, i < 8 → b i < 256) {q v : Nat} (hq : q < 8) (hv : v < 256) :
    (enc b &&& (((255 : Int64) <<< ((nI (8 * q)).toInt64 &&& 63)) ^^^ (-1))) ||| (lN v <<< ((nI (8 * q)).toInt64 &&& 63)) = enc (fun i => if i = q then v else b i) := by
  have h' : ∀ i, i < 8 → (if i = q then v else b i) < 256 := by
    intro i hi
    split
    · exact hv
    · exact h i hi
  apply i64_ext
  intro j hj
  rw [Int64.toBitVec_or, BitVec.getLsbD_or, Int64.toBitVec_and, BitVec.getLsbD_and, Int64.toBitVec_xor, BitVec.getLsbD_xor, sh_l _ (by omega), sh_l _ (by omega), BitVec.getLsbD_shiftLeft, BitVec.getLsbD_shiftLeft, enc_bit h, enc_bit h', bv_m1 j hj]
  by_cases h1 : j < 8 * q
  · have e : ¬ j / 8 = q := by omega
    simp [h1, hj, e]
  · rw [bv_255 (j - 8 * q) (by omega), lN_bit v (j - 8 * q) (by omega)]
    by_cases h2 : j - 8 * q < 8
    · have e : j / 8 = q := by omega
      have e2 : j % 8 = j - 8 * q := by omega
      simp [h1, hj, h2, e, e2]
    · have e : ¬ j / 8 = q := by omega
      have h8 : (2 : Nat) ^ 8 ≤ 2 ^ (j - 8 * q) := Nat.pow_le_pow_right (by decide) (by omega)
      rw [Nat.testBit_lt_two_pow (Nat.lt_of_lt_of_le hv h8)]
      simp [h1, hj, h2, e]
theorem enc_one : (506097522914230528 : Int64) = enc (fun i => i) := by decide +kernel
end
section
/-! MY ROWS 06: the cube: byte i is the corner at place i, and 8 times its twist -/
def ct (q : Nat → Bool) : Nat → Nat
  | 0 => 0
  | n + 1 => ct q n + (if q n = true then 1 else 0)
theorem ct_t {q : Nat → Bool} {n : Nat} (h : q n = true) : ct q (n + 1) = ct q n + 1 := by simp [ct, h]
theorem ct_f {q : Nat → Bool} {n : Nat} (h : ¬ q n = true) : ct q (n + 1) = ct q n := by simp [ct, h]
theorem ct_le (q : Nat → Bool) : ∀ n, ct q n ≤ n
  | 0 => Nat.le_refl 0
  | n + 1 => by
    have := ct_le q n
    unfold ct
    split <;> omega
def Va (b : Nat → Nat) : Prop := ∀ i, i < 8 → b i < 24
theorem Va.b {b : Nat → Nat} (h : Va b) : ∀ i, i < 8 → b i < 256 := fun i hi => Nat.lt_trans (h i hi) (by decide)
theorem Va.t {b : Nat → Nat} (h : Va b) : ∀ i, i < 8 → b i < 32 := fun i hi => Nat.lt_trans (h i hi) (by decide)
def one : Nat → Nat := fun i => i
theorem one_Va : Va one := fun i hi => Nat.lt_trans hi (by decide)
/-- the deed d, done on the cube a -/
def comp (a d : Nat → Nat) : Nat → Nat := fun i => a (d i % 8) % 8 + 8 * ((a (d i % 8) / 8 + d i / 8) % 3)
theorem comp_Va (a d : Nat → Nat) : Va (comp a d) := fun i _ => by
  show a (d i % 8) % 8 + 8 * ((a (d i % 8) / 8 + d i / 8) % 3) < 24
  omega
def Qf : Nat → Nat → Nat
  | 0 => fun i => [3, 0, 1, 2, 4, 5, 6, 7].getD i 0
  | 1 => fun i => [20, 1, 2, 8, 15, 5, 6, 19].getD i 0
  | _ => fun i => [9, 21, 2, 3, 16, 12, 6, 7].getD i 0
theorem lt8 {P : Nat → Prop} (h0 : P 0) (h1 : P 1) (h2 : P 2) (h3 : P 3) (h4 : P 4) (h5 : P 5) (h6 : P 6) (h7 : P 7) : ∀ i, i < 8 → P i := by
  intro i hi
  rcases (by omega : i = 0 ∨ i = 1 ∨ i = 2 ∨ i = 3 ∨ i = 4 ∨ i = 5 ∨ i = 6 ∨ i = 7) with rfl | rfl | rfl | rfl | rfl | rfl | rfl | rfl <;> assumption
/-- so many quarters of a face -/
def itq (f : Nat) (b : Nat → Nat) : Nat → (Nat → Nat)
  | 0 => b
  | n + 1 => comp (itq f b n) (Qf f)
theorem itq_Va {f : Nat} {b : Nat → Nat} (h : Va b) : ∀ n, Va (itq f b n)
  | 0 => h
  | _ + 1 => comp_Va _ _
def turnC (b : Nat → Nat) (t : Nat) : Nat → Nat := itq (t / 3) b (t % 3 + 1)
theorem turnC_Va (b : Nat → Nat) (t : Nat) : Va (turnC b t) := comp_Va _ _
/-- four places done one behind the other: k of them -/
def gs (b : Nat → Nat) (R M : Nat → Nat) : Nat → (Nat → Nat)
  | 0 => b
  | k + 1 => fun i => if i = R ((k + 1) % 4) then b (R k) % 8 + 8 * ((b (R k) / 8 + M k) % 3) else gs b R M k i
theorem gs_Va {b : Nat → Nat} {R M : Nat → Nat} (h : Va b) : ∀ k, Va (gs b R M k)
  | 0 => h
  | k + 1 => fun i hi => by
    show (if i = R ((k + 1) % 4) then b (R k) % 8 + 8 * ((b (R k) / 8 + M k) % 3) else gs b R M k i) < 24
    split
    · omega
    · exact gs_Va h k i hi
theorem gs_face {b : Nat → Nat} (h : Va b) {f : Nat} (hf : f < 3) : enc (gs b (zRing f) (zMore f) 4) = enc (comp b (Qf f)) := by
  apply enc_congr
  have h0 := h 0 (by decide)
  have h1 := h 1 (by decide)
  have h2 := h 2 (by decide)
  have h3 := h 3 (by decide)
  have h4 := h 4 (by decide)
  have h5 := h 5 (by decide)
  have h6 := h 6 (by decide)
  have h7 := h 7 (by decide)
  rcases (by omega : f = 0 ∨ f = 1 ∨ f = 2) with rfl | rfl | rfl <;>
    (refine lt8 ?_ ?_ ?_ ?_ ?_ ?_ ?_ ?_ <;> simp [gs, comp, Qf, zRing, zMore] <;> omega)
def dig (n k : Nat) : Nat := n / 2 ^ (4 * (3 - k)) % 16
theorem sh_i : ∀ k, k < 32 → ((nI k &&& 31).toBitVec.smod 32).toNat = k := by decide +kernel
theorem dig_shr {n k : Nat} (hn : n < 2 ^ 31) (hk : k < 32) : nI n >>> (nI k &&& 31) = nI (n / 2 ^ k) := pk_shrN hn _ k (sh_i k hk)
theorem and_15 {n : Nat} (hn : n < 2 ^ 32) : nI n &&& nI 15 = nI (n % 16) := pk_andN hn 4 (by decide)
theorem tw_ish : ∀ t, t < 3 → ∀ c, c < 8 → (nI t <<< (nI 3 &&& 31) ||| nI c).toInt64 = lN (c + 8 * t) := by decide +kernel
def pairsTo (b : Nat → Nat) (i : Nat) : Nat → Nat := ct (fun k => decide (b (i + 1 + k) % 8 < b i % 8))
def invs (b : Nat → Nat) : Nat → Nat
  | 0 => 0
  | n + 1 => invs b n + pairsTo b n (7 - n)
end
section
/-! MY ROWS 07: the class's methods over one long (laid by a program of mine) -/
theorem zsub_add {a b : Nat} (h : b ≤ a) : nI a - nI b = nI (a - b) := pk_sub h
set_option maxHeartbeats 4000000 in
set_option maxRecDepth 100000 in
theorem k_turnNumber (l : Launch) {f q : Nat} (hf : f < 3) (hq1 : 1 ≤ q) (hq : q < 4) : RV l yX0_turnNumber wsX0_turnNumber (1) zNo [.int (nI f), .int (nI q)] (some (.int (nI (3 * f + q - 1)))) := by
  refine RV.of (cc := cX0_turnNumber) (maxL := 2) (ret := (some .int)) (by decide) rfl (Nat.le_of_ble_eq_true rfl) ?_
  intro p e s m args below meth c hC hr hlk hB ls hl
  have hl : lv_has ls 2 [(0, .int (nI f)), (1, .int (nI q))] := hl
  refine lv_iconst (v := (nI 3)) hC.1 hC.2.1 dX0_turnNumber_0 (by decide) ?_
  refine lv_iload_n hC.1 hC.2.1 dX0_turnNumber_1 rfl (lv_at hl 0 rfl) ?_
  refine z_imul hC dX0_turnNumber_2 ?_
  refine lv_iload_n hC.1 hC.2.1 dX0_turnNumber_3 rfl (lv_at hl 1 rfl) ?_
  refine z_iadd hC dX0_turnNumber_4 ?_
  refine lv_iconst (v := (nI 1)) hC.1 hC.2.1 dX0_turnNumber_5 (by decide) ?_
  refine z_isub hC dX0_turnNumber_6 (by omega) ?_
  exact RV.iret hC hr hlk dX0_turnNumber_7 (rfl)

set_option maxHeartbeats 4000000 in
set_option maxRecDepth 100000 in
theorem k_faceOf (l : Launch) {t : Nat} (ht : t < 9) : RV l yX0_faceOf wsX0_faceOf (1) zNo [.int (nI t)] (some (.int (nI (t / 3)))) := by
  refine RV.of (cc := cX0_faceOf) (maxL := 1) (ret := (some .int)) (by decide) rfl (Nat.le_of_ble_eq_true rfl) ?_
  intro p e s m args below meth c hC hr hlk hB ls hl
  have hl : lv_has ls 1 [(0, .int (nI t))] := hl
  refine lv_iload_n hC.1 hC.2.1 dX0_faceOf_0 rfl (lv_at hl 0 rfl) ?_
  refine lv_iconst (v := (nI 3)) hC.1 hC.2.1 dX0_faceOf_1 (by decide) ?_
  refine z_idiv hC dX0_faceOf_2 (by omega) (by decide) (by decide) ?_
  exact RV.iret hC hr hlk dX0_faceOf_3 (rfl)

set_option maxHeartbeats 4000000 in
set_option maxRecDepth 100000 in
theorem k_quartersOf (l : Launch) {t : Nat} (ht : t < 9) : RV l yX0_quartersOf wsX0_quartersOf (1) zNo [.int (nI t)] (some (.int (nI (t % 3 + 1)))) := by
  refine RV.of (cc := cX0_quartersOf) (maxL := 1) (ret := (some .int)) (by decide) rfl (Nat.le_of_ble_eq_true rfl) ?_
  intro p e s m args below meth c hC hr hlk hB ls hl
  have hl : lv_has ls 1 [(0, .int (nI t))] := hl
  refine lv_iload_n hC.1 hC.2.1 dX0_quartersOf_0 rfl (lv_at hl 0 rfl) ?_
  refine lv_iconst (v := (nI 3)) hC.1 hC.2.1 dX0_quartersOf_1 (by decide) ?_
  refine z_irem hC dX0_quartersOf_2 (by omega) (by decide) (by decide) ?_
  refine lv_iconst (v := (nI 1)) hC.1 hC.2.1 dX0_quartersOf_3 (by decide) ?_
  refine z_iadd hC dX0_quartersOf_4 ?_
  exact RV.iret hC hr hlk dX0_quartersOf_5 (rfl)

set_option maxHeartbeats 4000000 in
set_option maxRecDepth 100000 in
theorem k_turnedBack (l : Launch) {t : Nat} (ht : t < 9) : RV l yX0_turnedBack wsX0_turnedBack (2) zNo [.int (nI t)] (some (.int (nI (3 * (t / 3) + (4 - (t % 3 + 1)) - 1)))) := by
  refine RV.of (cc := cX0_turnedBack) (maxL := 1) (ret := (some .int)) (by decide) rfl (Nat.le_of_ble_eq_true rfl) ?_
  intro p e s m args below meth c hC hr hlk hB ls hl
  have hl : lv_has ls 1 [(0, .int (nI t))] := hl
  refine lv_iload_n hC.1 hC.2.1 dX0_turnedBack_0 rfl (lv_at hl 0 rfl) ?_
  refine p_cs (n := 1) (k_faceOf l ht) hC gX0_turnedBack_X0_faceOf rfl (by decide +kernel) rfl ⟨by decide, by decide⟩ ⟨Nat.zero_le _, Nat.zero_le _⟩ hl.1 (Nat.le_of_ble_eq_true rfl) dX0_turnedBack_1 rfl ?_
  refine lv_iconst (v := (nI 4)) hC.1 hC.2.1 dX0_turnedBack_4 (by decide) ?_
  refine lv_iload_n hC.1 hC.2.1 dX0_turnedBack_5 rfl (lv_at hl 0 rfl) ?_
  refine p_cs (n := 1) (k_quartersOf l ht) hC gX0_turnedBack_X0_quartersOf rfl (by decide +kernel) rfl ⟨by decide, by decide⟩ ⟨Nat.zero_le _, Nat.zero_le _⟩ hl.1 (Nat.le_of_ble_eq_true rfl) dX0_turnedBack_6 rfl ?_
  refine z_isub hC dX0_turnedBack_9 (by omega) ?_
  refine p_cs (n := 2) (k_turnNumber l (by omega) (by omega) (by omega)) hC gX0_turnedBack_X0_turnNumber rfl (by decide +kernel) rfl ⟨by decide, by decide⟩ ⟨Nat.zero_le _, Nat.zero_le _⟩ hl.1 (Nat.le_of_ble_eq_true rfl) dX0_turnedBack_10 rfl ?_
  exact RV.iret hC hr hlk dX0_turnedBack_13 (rfl)

set_option maxHeartbeats 4000000 in
set_option maxRecDepth 100000 in
theorem k_hexDigit (l : Launch) {n k : Nat} (hn : n < 2 ^ 31) (hk : k < 4) : RV l yX0_hexDigit wsX0_hexDigit (1) zNo [.int (nI n), .int (nI k)] (some (.int (nI (dig n k)))) := by
  refine RV.of (cc := cX0_hexDigit) (maxL := 2) (ret := (some .int)) (by decide) rfl (Nat.le_of_ble_eq_true rfl) ?_
  intro p e s m args below meth c hC hr hlk hB ls hl
  have hl : lv_has ls 2 [(0, .int (nI n)), (1, .int (nI k))] := hl
  refine lv_iload_n hC.1 hC.2.1 dX0_hexDigit_0 rfl (lv_at hl 0 rfl) ?_
  refine lv_iconst (v := (nI 4)) hC.1 hC.2.1 dX0_hexDigit_1 (by decide) ?_
  refine lv_iconst (v := (nI 3)) hC.1 hC.2.1 dX0_hexDigit_2 (by decide) ?_
  refine lv_iload_n hC.1 hC.2.1 dX0_hexDigit_3 rfl (lv_at hl 1 rfl) ?_
  refine z_isub hC dX0_hexDigit_4 (by omega) ?_
  refine z_imul hC dX0_hexDigit_5 ?_
  refine lv_ishr hC.1 hC.2.1 dX0_hexDigit_6 ?_
  refine q_i (nI (n / 2 ^ (4 * (3 - k)))) (dig_shr hn (by omega)) ?_
  refine lv_bipush (v := (nI 15)) hC.1 hC.2.1 dX0_hexDigit_7 (by decide) ?_
  refine lv_iand hC.1 hC.2.1 dX0_hexDigit_9 ?_
  refine q_i (nI (dig n k)) (and_15 (Nat.lt_of_le_of_lt (Nat.div_le_self _ _) (Nat.lt_trans hn (by decide)))) ?_
  exact RV.iret hC hr hlk dX0_hexDigit_10 (rfl)

set_option maxHeartbeats 4000000 in
set_option maxRecDepth 100000 in
theorem k_cornerAt (l : Launch) {b : Nat → Nat} (hv : Va b) {i : Nat} (hi : i < 8) : RV l yX0_cornerAt wsX0_cornerAt (1) zNo [.long (enc b), .int (nI i)] (some (.int (nI (b i % 8)))) := by
  refine RV.of (cc := cX0_cornerAt) (maxL := 3) (ret := (some .int)) (by decide) rfl (Nat.le_of_ble_eq_true rfl) ?_
  intro p e s m args below meth c hC hr hlk hB ls hl
  have hl : lv_has ls 3 [(0, .long (enc b)), (2, .int (nI i))] := hl
  refine lv_lload_n hC.1 hC.2.1 dX0_cornerAt_0 rfl (lv_at hl 0 rfl) ?_
  refine lv_bipush (v := (nI 8)) hC.1 hC.2.1 dX0_cornerAt_1 (by decide) ?_
  refine lv_iload_n hC.1 hC.2.1 dX0_cornerAt_3 rfl (lv_at hl 1 rfl) ?_
  refine z_imul hC dX0_cornerAt_4 ?_
  refine lv_lushr hC.1 hC.2.1 dX0_cornerAt_5 rfl ?_
  refine lv_l2i hC.1 hC.2.1 dX0_cornerAt_6 rfl ?_
  refine lv_bipush (v := (nI 7)) hC.1 hC.2.1 dX0_cornerAt_7 (by decide) ?_
  refine lv_iand hC.1 hC.2.1 dX0_cornerAt_9 ?_
  exact RV.iret hC hr hlk dX0_cornerAt_10 (enc_corner hv.b hi)

set_option maxHeartbeats 4000000 in
set_option maxRecDepth 100000 in
theorem k_twistAt (l : Launch) {b : Nat → Nat} (hv : Va b) {i : Nat} (hi : i < 8) : RV l yX0_twistAt wsX0_twistAt (1) zNo [.long (enc b), .int (nI i)] (some (.int (nI (b i / 8)))) := by
  refine RV.of (cc := cX0_twistAt) (maxL := 3) (ret := (some .int)) (by decide) rfl (Nat.le_of_ble_eq_true rfl) ?_
  intro p e s m args below meth c hC hr hlk hB ls hl
  have hl : lv_has ls 3 [(0, .long (enc b)), (2, .int (nI i))] := hl
  refine lv_lload_n hC.1 hC.2.1 dX0_twistAt_0 rfl (lv_at hl 0 rfl) ?_
  refine lv_bipush (v := (nI 8)) hC.1 hC.2.1 dX0_twistAt_1 (by decide) ?_
  refine lv_iload_n hC.1 hC.2.1 dX0_twistAt_3 rfl (lv_at hl 1 rfl) ?_
  refine z_imul hC dX0_twistAt_4 ?_
  refine lv_iconst (v := (nI 3)) hC.1 hC.2.1 dX0_twistAt_5 (by decide) ?_
  refine z_iadd hC dX0_twistAt_6 ?_
  refine lv_lushr hC.1 hC.2.1 dX0_twistAt_7 rfl ?_
  refine lv_l2i hC.1 hC.2.1 dX0_twistAt_8 rfl ?_
  refine lv_iconst (v := (nI 3)) hC.1 hC.2.1 dX0_twistAt_9 (by decide) ?_
  refine lv_iand hC.1 hC.2.1 dX0_twistAt_10 ?_
  exact RV.iret hC hr hlk dX0_twistAt_11 (enc_twist hv.t hi)

set_option maxHeartbeats 4000000 in
set_option maxRecDepth 100000 in
theorem k_withCorner (l : Launch) {b : Nat → Nat} (hv : Va b) {q v t : Nat} (hq : q < 8) (hc : v < 8) (ht : t < 2 ^ 31) : RV l yX0_withCorner wsX0_withCorner (1) zNo [.long (enc b), .int (nI q), .int (nI v), .int (nI t)] (some (.long (enc (fun i => if i = q then v + 8 * (t % 3) else b i)))) := by
  refine RV.of (cc := cX0_withCorner) (maxL := 9) (ret := (some .long)) (by decide) rfl (Nat.le_of_ble_eq_true rfl) ?_
  intro p e s m args below meth c hC hr hlk hB ls hl
  have hl : lv_has ls 9 [(0, .long (enc b)), (2, .int (nI q)), (3, .int (nI v)), (4, .int (nI t))] := hl
  refine lv_lload_n hC.1 hC.2.1 dX0_withCorner_0 rfl (lv_at hl 0 rfl) ?_
  refine lv_ldc2 (v := 255) hC.1 hC.2.1 hC.2.2.2.1 (hC.2.2.2.2 (.constantLong RX0 175 (255)) (by decide +kernel)) dX0_withCorner_1 ?_
  refine lv_bipush (v := (nI 8)) hC.1 hC.2.1 dX0_withCorner_4 (by decide) ?_
  refine lv_iload_n hC.1 hC.2.1 dX0_withCorner_6 rfl (lv_at hl 1 rfl) ?_
  refine z_imul hC dX0_withCorner_7 ?_
  refine lv_lshl hC.1 hC.2.1 dX0_withCorner_8 rfl ?_
  refine lv_ldc2 (v := (-1)) hC.1 hC.2.1 hC.2.2.2.1 (hC.2.2.2.2 (.constantLong RX0 177 (-1)) (by decide +kernel)) dX0_withCorner_9 ?_
  refine lv_lxor hC.1 hC.2.1 dX0_withCorner_12 ?_
  refine lv_land hC.1 hC.2.1 dX0_withCorner_13 ?_
  refine lv_topl (fun x1 ex1 => ?_)
  refine lv_lstore (lv' := [(5, .long x1), (0, .long (enc b)), (2, .int (nI q)), (3, .int (nI v)), (4, .int (nI t))]) hC.1 hC.2.1 dX0_withCorner_14 hl (by decide) rfl (fun ls hl => ?_)
  refine lv_iload hC.1 hC.2.1 dX0_withCorner_16 (lv_at hl 4 rfl) ?_
  refine lv_iconst (v := (nI 3)) hC.1 hC.2.1 dX0_withCorner_18 (by decide) ?_
  refine z_irem hC dX0_withCorner_19 (by omega) (by decide) (by decide) ?_
  refine lv_iconst (v := (nI 3)) hC.1 hC.2.1 dX0_withCorner_20 (by decide) ?_
  refine lv_ishl hC.1 hC.2.1 dX0_withCorner_21 ?_
  refine lv_iload_n hC.1 hC.2.1 dX0_withCorner_22 rfl (lv_at hl 3 rfl) ?_
  refine lv_ior hC.1 hC.2.1 dX0_withCorner_23 ?_
  refine lv_i2l hC.1 hC.2.1 dX0_withCorner_24 rfl ?_
  refine q_l (lN (v + 8 * (t % 3))) (tw_ish _ (Nat.mod_lt _ (by decide)) _ hc) ?_
  refine lv_lstore (lv' := [(7, .long (lN (v + 8 * (t % 3)))), (5, .long x1), (0, .long (enc b)), (2, .int (nI q)), (3, .int (nI v)), (4, .int (nI t))]) hC.1 hC.2.1 dX0_withCorner_25 hl (by decide) rfl (fun ls hl => ?_)
  refine lv_lload hC.1 hC.2.1 dX0_withCorner_27 (lv_at hl 1 rfl) ?_
  refine lv_lload hC.1 hC.2.1 dX0_withCorner_29 (lv_at hl 0 rfl) ?_
  refine lv_bipush (v := (nI 8)) hC.1 hC.2.1 dX0_withCorner_31 (by decide) ?_
  refine lv_iload_n hC.1 hC.2.1 dX0_withCorner_33 rfl (lv_at hl 3 rfl) ?_
  refine z_imul hC dX0_withCorner_34 ?_
  refine lv_lshl hC.1 hC.2.1 dX0_withCorner_35 rfl ?_
  refine lv_lor hC.1 hC.2.1 dX0_withCorner_36 ?_
  exact RV.lret hC hr hlk dX0_withCorner_37 (by rw [ex1]; exact enc_with hv.b hq (by omega))

theorem right_iff {b : Nat → Nat} (hv : Va b) {i : Nat} (hi : i < 8) : b i = i ↔ b i % 8 = i ∧ b i / 8 = 0 := by
  have := hv i hi
  omega
set_option maxHeartbeats 4000000 in
set_option maxRecDepth 100000 in
theorem k_isRight (l : Launch) {b : Nat → Nat} (hv : Va b) {i : Nat} (hi : i < 8) : RV l yX0_isRight wsX0_isRight (2) zNo [.long (enc b), .int (nI i)] (some (.int (nI (if b i = i then 1 else 0)))) := by
  refine RV.of (cc := cX0_isRight) (maxL := 3) (ret := (some .boolean)) (by decide) rfl (Nat.le_of_ble_eq_true rfl) ?_
  intro p e s m args below meth c hC hr hlk hB ls hl
  have hl : lv_has ls 3 [(0, .long (enc b)), (2, .int (nI i))] := hl
  refine lv_lload_n hC.1 hC.2.1 dX0_isRight_0 rfl (lv_at hl 0 rfl) ?_
  refine lv_iload_n hC.1 hC.2.1 dX0_isRight_1 rfl (lv_at hl 1 rfl) ?_
  refine p_cs (n := 2) (k_cornerAt l hv hi) hC gX0_isRight_X0_cornerAt rfl (by decide +kernel) rfl ⟨by decide, by decide⟩ ⟨Nat.zero_le _, Nat.zero_le _⟩ hl.1 (Nat.le_of_ble_eq_true rfl) dX0_isRight_2 rfl ?_
  refine lv_iload_n hC.1 hC.2.1 dX0_isRight_5 rfl (lv_at hl 1 rfl) ?_
  refine z_icmp_ne (tgt := 21) hC dX0_isRight_6 (by decide) (by omega) (by omega) (fun h_6 => ?_) (fun h_6 => ?_)
  · refine lv_iconst (v := (nI 0)) hC.1 hC.2.1 dX0_isRight_21 (by decide) ?_
    exact RV.zret hC hr hlk dX0_isRight_22 (by rw [if_neg]; rw [right_iff hv hi]; omega) (by decide)
  · refine lv_lload_n hC.1 hC.2.1 dX0_isRight_9 rfl (lv_at hl 0 rfl) ?_
    refine lv_iload_n hC.1 hC.2.1 dX0_isRight_10 rfl (lv_at hl 1 rfl) ?_
    refine p_cs (n := 2) (k_twistAt l hv hi) hC gX0_isRight_X0_twistAt rfl (by decide +kernel) rfl ⟨by decide, by decide⟩ ⟨Nat.zero_le _, Nat.zero_le _⟩ hl.1 (Nat.le_of_ble_eq_true rfl) dX0_isRight_11 rfl ?_
    refine z_if_ne (tgt := 21) hC dX0_isRight_14 (by decide) (by have := hv i hi; omega) (fun h_14 => ?_) (fun h_14 => ?_)
    · refine lv_iconst (v := (nI 0)) hC.1 hC.2.1 dX0_isRight_21 (by decide) ?_
      exact RV.zret hC hr hlk dX0_isRight_22 (by rw [if_neg]; rw [right_iff hv hi]; omega) (by decide)
    · refine lv_iconst (v := (nI 1)) hC.1 hC.2.1 dX0_isRight_17 (by decide) ?_
      refine lv_goto (tgt := 22) hC.1 hC.2.1 dX0_isRight_18 (by decide) ?_
      exact RV.zret hC hr hlk dX0_isRight_22 (by rw [if_pos]; rw [right_iff hv hi]; omega) (by decide)

theorem ite_bd {P : Prop} [Decidable P] : (if P then 1 else 0) < 2 ^ 31 := by split <;> decide
set_option maxHeartbeats 4000000 in
set_option maxRecDepth 100000 in
theorem k_rightCorners (l : Launch) {b : Nat → Nat} (hv : Va b) : RV l yX0_rightCorners wsX0_rightCorners 3 zNo [.long (enc b)] (some (.int (nI (ct (fun i => decide (b i = i)) 8)))) := by
  refine RV.of (cc := cX0_rightCorners) (maxL := 4) (ret := some .int) (by decide) rfl (Nat.le_of_ble_eq_true rfl) ?_
  intro p e s m args below meth c hC hr hlk hB ls hl
  have hl : lv_has ls 4 [(0, .long (enc b))] := hl
  have loop : ∀ (n i : Nat), i + n = 8 → ∀ ls : Array Slot, lv_has ls 4 [(0, .long (enc b)), (2, .int (nI (ct (fun i => decide (b i = i)) i))), (3, .int (nI i))] → W p l e (rD (3) 0 0) s m args below meth c s.heap [] 0 0 (MQ below (RVQ (some (.int (nI (ct (fun i => decide (b i = i)) 8))))) args s 0 0 (fun _ => False)) (F0 m 4 ls []) := by
    intro n
    induction n with
    | zero =>
      intro i hc0 ls hl
      obtain rfl : i = 8 := by omega
      refine lv_iload_n hC.1 hC.2.1 dX0_rightCorners_4 rfl (lv_at hl 2 rfl) ?_
      refine lv_bipush (v := (nI 8)) hC.1 hC.2.1 dX0_rightCorners_5 (by decide) ?_
      refine z_icmp_ge (tgt := 27) hC dX0_rightCorners_7 (by decide) (by omega) (by omega) (fun h_7 => ?_) (fun h_7 => by omega)
      refine lv_iload_n hC.1 hC.2.1 dX0_rightCorners_27 rfl (lv_at hl 1 rfl) ?_
      exact RV.iret hC hr hlk dX0_rightCorners_28 (rfl)
    | succ n ih =>
      intro i hc0 ls hl
      refine lv_iload_n hC.1 hC.2.1 dX0_rightCorners_4 rfl (lv_at hl 2 rfl) ?_
      refine lv_bipush (v := (nI 8)) hC.1 hC.2.1 dX0_rightCorners_5 (by decide) ?_
      refine z_icmp_ge (tgt := 27) hC dX0_rightCorners_7 (by decide) (by omega) (by omega) (fun h_7 => by omega) (fun h_7 => ?_)
      refine lv_lload_n hC.1 hC.2.1 dX0_rightCorners_10 rfl (lv_at hl 0 rfl) ?_
      refine lv_iload_n hC.1 hC.2.1 dX0_rightCorners_11 rfl (lv_at hl 2 rfl) ?_
      refine p_cs (n := 2) (k_isRight l hv (by omega)) hC gX0_rightCorners_X0_isRight rfl (by decide +kernel) rfl ⟨by decide, by decide⟩ ⟨Nat.zero_le _, Nat.zero_le _⟩ hl.1 (Nat.le_of_ble_eq_true rfl) dX0_rightCorners_12 rfl ?_
      refine z_if_eq (tgt := 21) hC dX0_rightCorners_15 (by decide) (ite_bd) (fun h_15 => ?_) (fun h_15 => ?_)
      · refine lv_iinc (v := nI (i + 1)) (lv' := [(3, .int (nI (i + 1))), (0, .long (enc b)), (2, .int (nI (ct (fun i => decide (b i = i)) i)))]) hC.1 hC.2.1 dX0_rightCorners_21 hl (k := 2) rfl (z_inc _) (by decide) rfl (fun ls hl => ?_)
        refine lv_goto (tgt := 4) hC.1 hC.2.1 dX0_rightCorners_24 (by decide) ?_
        exact ih (i + 1) (by omega) ls (by have e9 : ct (fun i => decide (b i = i)) (i + 1) = ct (fun i => decide (b i = i)) i := ct_f (by simp; by_cases hq : b i = i; rw [if_pos hq] at h_15; omega; exact hq); rw [e9]; exact (lv_sub hl [1, 2, 0] rfl))
      · refine lv_iinc (v := nI (ct (fun i => decide (b i = i)) i + 1)) (lv' := [(2, .int (nI (ct (fun i => decide (b i = i)) i + 1))), (0, .long (enc b)), (3, .int (nI i))]) hC.1 hC.2.1 dX0_rightCorners_18 hl (k := 1) rfl (z_inc _) (by decide) rfl (fun ls hl => ?_)
        refine lv_iinc (v := nI (i + 1)) (lv' := [(3, .int (nI (i + 1))), (2, .int (nI (ct (fun i => decide (b i = i)) i + 1))), (0, .long (enc b))]) hC.1 hC.2.1 dX0_rightCorners_21 hl (k := 2) rfl (z_inc _) (by decide) rfl (fun ls hl => ?_)
        refine lv_goto (tgt := 4) hC.1 hC.2.1 dX0_rightCorners_24 (by decide) ?_
        exact ih (i + 1) (by omega) ls (by have e9 : ct (fun i => decide (b i = i)) (i + 1) = ct (fun i => decide (b i = i)) i + 1 := ct_t (by simp; by_cases hq : b i = i; exact hq; rw [if_neg hq] at h_15; omega); rw [e9]; exact (lv_sub hl [2, 1, 0] rfl))
  refine lv_iconst (v := (nI 0)) hC.1 hC.2.1 dX0_rightCorners_0 (by decide) ?_
  refine lv_istore_n (lv' := [(2, .int (nI 0)), (0, .long (enc b))]) hC.1 hC.2.1 dX0_rightCorners_1 rfl hl (by decide) rfl (fun ls hl => ?_)
  refine lv_iconst (v := (nI 0)) hC.1 hC.2.1 dX0_rightCorners_2 (by decide) ?_
  refine lv_istore_n (lv' := [(3, .int (nI 0)), (2, .int (nI 0)), (0, .long (enc b))]) hC.1 hC.2.1 dX0_rightCorners_3 rfl hl (by decide) rfl (fun ls hl => ?_)
  exact loop 8 0 rfl ls (lv_sub hl [2, 1, 0] rfl)

set_option maxHeartbeats 4000000 in
set_option maxRecDepth 100000 in
theorem k_wrongCorners (l : Launch) {b : Nat → Nat} (hv : Va b) : RV l yX0_wrongCorners wsX0_wrongCorners (4) zNo [.long (enc b)] (some (.int (nI (8 - ct (fun i => decide (b i = i)) 8)))) := by
  refine RV.of (cc := cX0_wrongCorners) (maxL := 2) (ret := (some .int)) (by decide) rfl (Nat.le_of_ble_eq_true rfl) ?_
  intro p e s m args below meth c hC hr hlk hB ls hl
  have hl : lv_has ls 2 [(0, .long (enc b))] := hl
  refine lv_bipush (v := (nI 8)) hC.1 hC.2.1 dX0_wrongCorners_0 (by decide) ?_
  refine lv_lload_n hC.1 hC.2.1 dX0_wrongCorners_2 rfl (lv_at hl 0 rfl) ?_
  refine p_cs (n := 1) (k_rightCorners l hv) hC gX0_wrongCorners_X0_rightCorners rfl (by decide +kernel) rfl ⟨by decide, by decide⟩ ⟨Nat.zero_le _, Nat.zero_le _⟩ hl.1 (Nat.le_of_ble_eq_true rfl) dX0_wrongCorners_3 rfl ?_
  refine z_isub hC dX0_wrongCorners_6 (ct_le _ 8) ?_
  exact RV.iret hC hr hlk dX0_wrongCorners_7 (rfl)

set_option maxHeartbeats 4000000 in
set_option maxRecDepth 100000 in
theorem k_placedCorners (l : Launch) {b : Nat → Nat} (hv : Va b) : RV l yX0_placedCorners wsX0_placedCorners 2 zNo [.long (enc b)] (some (.int (nI (ct (fun i => decide (b i % 8 = i)) 8)))) := by
  refine RV.of (cc := cX0_placedCorners) (maxL := 4) (ret := some .int) (by decide) rfl (Nat.le_of_ble_eq_true rfl) ?_
  intro p e s m args below meth c hC hr hlk hB ls hl
  have hl : lv_has ls 4 [(0, .long (enc b))] := hl
  have loop : ∀ (n i : Nat), i + n = 8 → ∀ ls : Array Slot, lv_has ls 4 [(0, .long (enc b)), (2, .int (nI (ct (fun i => decide (b i % 8 = i)) i))), (3, .int (nI i))] → W p l e (rD (2) 0 0) s m args below meth c s.heap [] 0 0 (MQ below (RVQ (some (.int (nI (ct (fun i => decide (b i % 8 = i)) 8))))) args s 0 0 (fun _ => False)) (F0 m 4 ls []) := by
    intro n
    induction n with
    | zero =>
      intro i hc0 ls hl
      obtain rfl : i = 8 := by omega
      refine lv_iload_n hC.1 hC.2.1 dX0_placedCorners_4 rfl (lv_at hl 2 rfl) ?_
      refine lv_bipush (v := (nI 8)) hC.1 hC.2.1 dX0_placedCorners_5 (by decide) ?_
      refine z_icmp_ge (tgt := 28) hC dX0_placedCorners_7 (by decide) (by omega) (by omega) (fun h_7 => ?_) (fun h_7 => by omega)
      refine lv_iload_n hC.1 hC.2.1 dX0_placedCorners_28 rfl (lv_at hl 1 rfl) ?_
      exact RV.iret hC hr hlk dX0_placedCorners_29 (rfl)
    | succ n ih =>
      intro i hc0 ls hl
      refine lv_iload_n hC.1 hC.2.1 dX0_placedCorners_4 rfl (lv_at hl 2 rfl) ?_
      refine lv_bipush (v := (nI 8)) hC.1 hC.2.1 dX0_placedCorners_5 (by decide) ?_
      refine z_icmp_ge (tgt := 28) hC dX0_placedCorners_7 (by decide) (by omega) (by omega) (fun h_7 => by omega) (fun h_7 => ?_)
      refine lv_lload_n hC.1 hC.2.1 dX0_placedCorners_10 rfl (lv_at hl 0 rfl) ?_
      refine lv_iload_n hC.1 hC.2.1 dX0_placedCorners_11 rfl (lv_at hl 2 rfl) ?_
      refine p_cs (n := 2) (k_cornerAt l hv (by omega)) hC gX0_placedCorners_X0_cornerAt rfl (by decide +kernel) rfl ⟨by decide, by decide⟩ ⟨Nat.zero_le _, Nat.zero_le _⟩ hl.1 (Nat.le_of_ble_eq_true rfl) dX0_placedCorners_12 rfl ?_
      refine lv_iload_n hC.1 hC.2.1 dX0_placedCorners_15 rfl (lv_at hl 2 rfl) ?_
      refine z_icmp_ne (tgt := 22) hC dX0_placedCorners_16 (by decide) (by omega) (by omega) (fun h_16 => ?_) (fun h_16 => ?_)
      · refine lv_iinc (v := nI (i + 1)) (lv' := [(3, .int (nI (i + 1))), (0, .long (enc b)), (2, .int (nI (ct (fun i => decide (b i % 8 = i)) i)))]) hC.1 hC.2.1 dX0_placedCorners_22 hl (k := 2) rfl (z_inc _) (by decide) rfl (fun ls hl => ?_)
        refine lv_goto (tgt := 4) hC.1 hC.2.1 dX0_placedCorners_25 (by decide) ?_
        exact ih (i + 1) (by omega) ls (by have e9 : ct (fun i => decide (b i % 8 = i)) (i + 1) = ct (fun i => decide (b i % 8 = i)) i := ct_f (by simp; omega); rw [e9]; exact (lv_sub hl [1, 2, 0] rfl))
      · refine lv_iinc (v := nI (ct (fun i => decide (b i % 8 = i)) i + 1)) (lv' := [(2, .int (nI (ct (fun i => decide (b i % 8 = i)) i + 1))), (0, .long (enc b)), (3, .int (nI i))]) hC.1 hC.2.1 dX0_placedCorners_19 hl (k := 1) rfl (z_inc _) (by decide) rfl (fun ls hl => ?_)
        refine lv_iinc (v := nI (i + 1)) (lv' := [(3, .int (nI (i + 1))), (2, .int (nI (ct (fun i => decide (b i % 8 = i)) i + 1))), (0, .long (enc b))]) hC.1 hC.2.1 dX0_placedCorners_22 hl (k := 2) rfl (z_inc _) (by decide) rfl (fun ls hl => ?_)
        refine lv_goto (tgt := 4) hC.1 hC.2.1 dX0_placedCorners_25 (by decide) ?_
        exact ih (i + 1) (by omega) ls (by have e9 : ct (fun i => decide (b i % 8 = i)) (i + 1) = ct (fun i => decide (b i % 8 = i)) i + 1 := ct_t (by simp; omega); rw [e9]; exact (lv_sub hl [2, 1, 0] rfl))
  refine lv_iconst (v := (nI 0)) hC.1 hC.2.1 dX0_placedCorners_0 (by decide) ?_
  refine lv_istore_n (lv' := [(2, .int (nI 0)), (0, .long (enc b))]) hC.1 hC.2.1 dX0_placedCorners_1 rfl hl (by decide) rfl (fun ls hl => ?_)
  refine lv_iconst (v := (nI 0)) hC.1 hC.2.1 dX0_placedCorners_2 (by decide) ?_
  refine lv_istore_n (lv' := [(3, .int (nI 0)), (2, .int (nI 0)), (0, .long (enc b))]) hC.1 hC.2.1 dX0_placedCorners_3 rfl hl (by decide) rfl (fun ls hl => ?_)
  exact loop 8 0 rfl ls (lv_sub hl [2, 1, 0] rfl)

set_option maxHeartbeats 4000000 in
set_option maxRecDepth 100000 in
theorem k_untwistedCorners (l : Launch) {b : Nat → Nat} (hv : Va b) : RV l yX0_untwistedCorners wsX0_untwistedCorners 2 zNo [.long (enc b)] (some (.int (nI (ct (fun i => decide (b i / 8 = 0)) 8)))) := by
  refine RV.of (cc := cX0_untwistedCorners) (maxL := 4) (ret := some .int) (by decide) rfl (Nat.le_of_ble_eq_true rfl) ?_
  intro p e s m args below meth c hC hr hlk hB ls hl
  have hl : lv_has ls 4 [(0, .long (enc b))] := hl
  have loop : ∀ (n i : Nat), i + n = 8 → ∀ ls : Array Slot, lv_has ls 4 [(0, .long (enc b)), (2, .int (nI (ct (fun i => decide (b i / 8 = 0)) i))), (3, .int (nI i))] → W p l e (rD (2) 0 0) s m args below meth c s.heap [] 0 0 (MQ below (RVQ (some (.int (nI (ct (fun i => decide (b i / 8 = 0)) 8))))) args s 0 0 (fun _ => False)) (F0 m 4 ls []) := by
    intro n
    induction n with
    | zero =>
      intro i hc0 ls hl
      obtain rfl : i = 8 := by omega
      refine lv_iload_n hC.1 hC.2.1 dX0_untwistedCorners_4 rfl (lv_at hl 2 rfl) ?_
      refine lv_bipush (v := (nI 8)) hC.1 hC.2.1 dX0_untwistedCorners_5 (by decide) ?_
      refine z_icmp_ge (tgt := 27) hC dX0_untwistedCorners_7 (by decide) (by omega) (by omega) (fun h_7 => ?_) (fun h_7 => by omega)
      refine lv_iload_n hC.1 hC.2.1 dX0_untwistedCorners_27 rfl (lv_at hl 1 rfl) ?_
      exact RV.iret hC hr hlk dX0_untwistedCorners_28 (rfl)
    | succ n ih =>
      intro i hc0 ls hl
      refine lv_iload_n hC.1 hC.2.1 dX0_untwistedCorners_4 rfl (lv_at hl 2 rfl) ?_
      refine lv_bipush (v := (nI 8)) hC.1 hC.2.1 dX0_untwistedCorners_5 (by decide) ?_
      refine z_icmp_ge (tgt := 27) hC dX0_untwistedCorners_7 (by decide) (by omega) (by omega) (fun h_7 => by omega) (fun h_7 => ?_)
      refine lv_lload_n hC.1 hC.2.1 dX0_untwistedCorners_10 rfl (lv_at hl 0 rfl) ?_
      refine lv_iload_n hC.1 hC.2.1 dX0_untwistedCorners_11 rfl (lv_at hl 2 rfl) ?_
      refine p_cs (n := 2) (k_twistAt l hv (by omega)) hC gX0_untwistedCorners_X0_twistAt rfl (by decide +kernel) rfl ⟨by decide, by decide⟩ ⟨Nat.zero_le _, Nat.zero_le _⟩ hl.1 (Nat.le_of_ble_eq_true rfl) dX0_untwistedCorners_12 rfl ?_
      refine z_if_ne (tgt := 21) hC dX0_untwistedCorners_15 (by decide) (by have := hv i (by omega); omega) (fun h_15 => ?_) (fun h_15 => ?_)
      · refine lv_iinc (v := nI (i + 1)) (lv' := [(3, .int (nI (i + 1))), (0, .long (enc b)), (2, .int (nI (ct (fun i => decide (b i / 8 = 0)) i)))]) hC.1 hC.2.1 dX0_untwistedCorners_21 hl (k := 2) rfl (z_inc _) (by decide) rfl (fun ls hl => ?_)
        refine lv_goto (tgt := 4) hC.1 hC.2.1 dX0_untwistedCorners_24 (by decide) ?_
        exact ih (i + 1) (by omega) ls (by have e9 : ct (fun i => decide (b i / 8 = 0)) (i + 1) = ct (fun i => decide (b i / 8 = 0)) i := ct_f (by simp; omega); rw [e9]; exact (lv_sub hl [1, 2, 0] rfl))
      · refine lv_iinc (v := nI (ct (fun i => decide (b i / 8 = 0)) i + 1)) (lv' := [(2, .int (nI (ct (fun i => decide (b i / 8 = 0)) i + 1))), (0, .long (enc b)), (3, .int (nI i))]) hC.1 hC.2.1 dX0_untwistedCorners_18 hl (k := 1) rfl (z_inc _) (by decide) rfl (fun ls hl => ?_)
        refine lv_iinc (v := nI (i + 1)) (lv' := [(3, .int (nI (i + 1))), (2, .int (nI (ct (fun i => decide (b i / 8 = 0)) i + 1))), (0, .long (enc b))]) hC.1 hC.2.1 dX0_untwistedCorners_21 hl (k := 2) rfl (z_inc _) (by decide) rfl (fun ls hl => ?_)
        refine lv_goto (tgt := 4) hC.1 hC.2.1 dX0_untwistedCorners_24 (by decide) ?_
        exact ih (i + 1) (by omega) ls (by have e9 : ct (fun i => decide (b i / 8 = 0)) (i + 1) = ct (fun i => decide (b i / 8 = 0)) i + 1 := ct_t (by simp; omega); rw [e9]; exact (lv_sub hl [2, 1, 0] rfl))
  refine lv_iconst (v := (nI 0)) hC.1 hC.2.1 dX0_untwistedCorners_0 (by decide) ?_
  refine lv_istore_n (lv' := [(2, .int (nI 0)), (0, .long (enc b))]) hC.1 hC.2.1 dX0_untwistedCorners_1 rfl hl (by decide) rfl (fun ls hl => ?_)
  refine lv_iconst (v := (nI 0)) hC.1 hC.2.1 dX0_untwistedCorners_2 (by decide) ?_
  refine lv_istore_n (lv' := [(3, .int (nI 0)), (2, .int (nI 0)), (0, .long (enc b))]) hC.1 hC.2.1 dX0_untwistedCorners_3 rfl hl (by decide) rfl (fun ls hl => ?_)
  exact loop 8 0 rfl ls (lv_sub hl [2, 1, 0] rfl)

theorem k_hexD (l : Launch) {n k v : Nat} (hn : n < 2 ^ 31) (hk : k < 4) (h : dig n k = v) : RV l yX0_hexDigit wsX0_hexDigit 1 zNo [.int (nI n), .int (nI k)] (some (.int (nI v))) := by
  subst h
  exact k_hexDigit l hn hk
/-- a face's ring and its twists, as the class holds them: a hex digit a place -/
def ringN (f : Nat) : Nat := if f = 0 then 291 else if f = 1 then 884 else 1105
def moreN (f : Nat) : Nat := if f = 0 then 0 else if f = 1 then 4626 else 8481
theorem ringN_lt (f : Nat) : ringN f < 2 ^ 31 := by
  unfold ringN; split
  · decide
  · split <;> decide
theorem moreN_lt (f : Nat) : moreN f < 2 ^ 31 := by
  unfold moreN; split
  · decide
  · split <;> decide
theorem ringN_d {f : Nat} (hf : f < 3) : ∀ k, k < 4 → dig (ringN f) k = zRing f k ∧ zRing f k < 8 := by
  rcases (by omega : f = 0 ∨ f = 1 ∨ f = 2) with rfl | rfl | rfl <;> decide
theorem moreN_d {f : Nat} (hf : f < 3) : ∀ k, k < 4 → dig (moreN f) k = zMore f k ∧ zMore f k < 4 := by
  rcases (by omega : f = 0 ∨ f = 1 ∨ f = 2) with rfl | rfl | rfl <;> decide
set_option maxHeartbeats 4000000 in
set_option maxRecDepth 100000 in
theorem k_ringOf (l : Launch) {f : Nat} (hf : f < 3) : RV l yX0_ringOf wsX0_ringOf (1) zNo [.int (nI f)] (some (.int (nI (ringN f)))) := by
  refine RV.of (cc := cX0_ringOf) (maxL := 1) (ret := (some .int)) (by decide) rfl (Nat.le_of_ble_eq_true rfl) ?_
  intro p e s m args below meth c hC hr hlk hB ls hl
  have hl : lv_has ls 1 [(0, .int (nI f))] := hl
  rcases (by omega : f = 0 ∨ f = 1 ∨ f = 2) with rfl | rfl | rfl
  · refine lv_iload_n hC.1 hC.2.1 dX0_ringOf_0 rfl (lv_at hl 0 rfl) ?_
    refine lv_lookup (off := 27) (tgt := 28) hC.1 hC.2.1 dX0_ringOf_1 (by decide) (by decide) (by decide) ?_
    refine lv_sipush (v := (nI 291)) hC.1 hC.2.1 dX0_ringOf_28 (by decide) ?_
    exact RV.iret hC hr hlk dX0_ringOf_31 (rfl)
  · refine lv_iload_n hC.1 hC.2.1 dX0_ringOf_0 rfl (lv_at hl 0 rfl) ?_
    refine lv_lookup (off := 31) (tgt := 32) hC.1 hC.2.1 dX0_ringOf_1 (by decide) (by decide) (by decide) ?_
    refine lv_sipush (v := (nI 884)) hC.1 hC.2.1 dX0_ringOf_32 (by decide) ?_
    exact RV.iret hC hr hlk dX0_ringOf_35 (rfl)
  · refine lv_iload_n hC.1 hC.2.1 dX0_ringOf_0 rfl (lv_at hl 0 rfl) ?_
    refine lv_lookup (off := 35) (tgt := 36) hC.1 hC.2.1 dX0_ringOf_1 (by decide) (by decide) (by decide) ?_
    refine lv_sipush (v := (nI 1105)) hC.1 hC.2.1 dX0_ringOf_36 (by decide) ?_
    exact RV.iret hC hr hlk dX0_ringOf_39 (rfl)

set_option maxHeartbeats 4000000 in
set_option maxRecDepth 100000 in
theorem k_moreTwistOf (l : Launch) {f : Nat} (hf : f < 3) : RV l yX0_moreTwistOf wsX0_moreTwistOf (1) zNo [.int (nI f)] (some (.int (nI (moreN f)))) := by
  refine RV.of (cc := cX0_moreTwistOf) (maxL := 1) (ret := (some .int)) (by decide) rfl (Nat.le_of_ble_eq_true rfl) ?_
  intro p e s m args below meth c hC hr hlk hB ls hl
  have hl : lv_has ls 1 [(0, .int (nI f))] := hl
  rcases (by omega : f = 0 ∨ f = 1 ∨ f = 2) with rfl | rfl | rfl
  · refine lv_iload_n hC.1 hC.2.1 dX0_moreTwistOf_0 rfl (lv_at hl 0 rfl) ?_
    refine lv_lookup (off := 27) (tgt := 28) hC.1 hC.2.1 dX0_moreTwistOf_1 (by decide) (by decide) (by decide) ?_
    refine lv_iconst (v := (nI 0)) hC.1 hC.2.1 dX0_moreTwistOf_28 (by decide) ?_
    exact RV.iret hC hr hlk dX0_moreTwistOf_29 (rfl)
  · refine lv_iload_n hC.1 hC.2.1 dX0_moreTwistOf_0 rfl (lv_at hl 0 rfl) ?_
    refine lv_lookup (off := 29) (tgt := 30) hC.1 hC.2.1 dX0_moreTwistOf_1 (by decide) (by decide) (by decide) ?_
    refine lv_sipush (v := (nI 4626)) hC.1 hC.2.1 dX0_moreTwistOf_30 (by decide) ?_
    exact RV.iret hC hr hlk dX0_moreTwistOf_33 (rfl)
  · refine lv_iload_n hC.1 hC.2.1 dX0_moreTwistOf_0 rfl (lv_at hl 0 rfl) ?_
    refine lv_lookup (off := 33) (tgt := 34) hC.1 hC.2.1 dX0_moreTwistOf_1 (by decide) (by decide) (by decide) ?_
    refine lv_sipush (v := (nI 8481)) hC.1 hC.2.1 dX0_moreTwistOf_34 (by decide) ?_
    exact RV.iret hC hr hlk dX0_moreTwistOf_37 (rfl)

set_option maxHeartbeats 4000000 in
set_option maxRecDepth 100000 in
theorem k_quarterTurned (l : Launch) {b : Nat → Nat} (hv : Va b) {f : Nat} (hf : f < 3) : RV l yX0_quarterTurned wsX0_quarterTurned (3) zNo [.long (enc b), .int (nI f)] (some (.long (enc (comp b (Qf f))))) := by
  refine RV.of (cc := cX0_quarterTurned) (maxL := 10) (ret := (some .long)) (by decide) rfl (Nat.le_of_ble_eq_true rfl) ?_
  intro p e s m args below meth c hC hr hlk hB ls hl
  have hl : lv_has ls 10 [(0, .long (enc b)), (2, .int (nI f))] := hl
  have loop : ∀ (n i : Nat), i + n = 4 → ∀ ls : Array Slot, lv_has ls 10 [(0, .long (enc b)), (2, .int (nI f)), (3, .int (nI (ringN f))), (4, .int (nI (moreN f))), (5, .long (enc (gs b (zRing f) (zMore f) i))), (7, .int (nI i))] → W p l e (rD (3) 0 0) s m args below meth c s.heap [] 0 0 (MQ below (RVQ (some (.long (enc (comp b (Qf f)))))) args s 0 0 (fun _ => False)) (F0 m 17 ls []) := by
    intro n
    induction n with
    | zero =>
      intro i hc0 ls hl
      obtain rfl : i = 4 := by omega
      refine lv_iload hC.1 hC.2.1 dX0_quarterTurned_17 (lv_at hl 5 rfl) ?_
      refine lv_iconst (v := (nI 4)) hC.1 hC.2.1 dX0_quarterTurned_19 (by decide) ?_
      refine z_icmp_ge (tgt := 78) hC dX0_quarterTurned_20 (by decide) (by omega) (by omega) (fun h_20 => ?_) (fun h_20 => by omega)
      refine lv_lload hC.1 hC.2.1 dX0_quarterTurned_78 (lv_at hl 4 rfl) ?_
      exact RV.lret hC hr hlk dX0_quarterTurned_80 (gs_face hv hf)
    | succ n ih =>
      intro i hc0 ls hl
      have hR1 := ringN_d hf i (by omega)
      have hR2 := ringN_d hf ((i + 1) % 4) (Nat.mod_lt _ (by decide))
      have hM1 := moreN_d hf i (by omega)
      have hb1 := hv (zRing f i) hR1.2
      refine lv_iload hC.1 hC.2.1 dX0_quarterTurned_17 (lv_at hl 5 rfl) ?_
      refine lv_iconst (v := (nI 4)) hC.1 hC.2.1 dX0_quarterTurned_19 (by decide) ?_
      refine z_icmp_ge (tgt := 78) hC dX0_quarterTurned_20 (by decide) (by omega) (by omega) (fun h_20 => by omega) (fun h_20 => ?_)
      refine lv_iload_n hC.1 hC.2.1 dX0_quarterTurned_23 rfl (lv_at hl 2 rfl) ?_
      refine lv_iload hC.1 hC.2.1 dX0_quarterTurned_24 (lv_at hl 5 rfl) ?_
      refine p_cs (n := 2) (k_hexD l (ringN_lt f) (by omega) hR1.1) hC gX0_quarterTurned_X0_hexDigit rfl (by decide +kernel) rfl ⟨by decide, by decide⟩ ⟨Nat.zero_le _, Nat.zero_le _⟩ hl.1 (Nat.le_of_ble_eq_true rfl) dX0_quarterTurned_26 rfl ?_
      refine lv_istore (lv' := [(8, .int (nI (zRing f i))), (0, .long (enc b)), (2, .int (nI f)), (3, .int (nI (ringN f))), (4, .int (nI (moreN f))), (5, .long (enc (gs b (zRing f) (zMore f) i))), (7, .int (nI i))]) hC.1 hC.2.1 dX0_quarterTurned_29 hl (by decide) rfl (fun ls hl => ?_)
      refine lv_iload_n hC.1 hC.2.1 dX0_quarterTurned_31 rfl (lv_at hl 3 rfl) ?_
      refine lv_iload hC.1 hC.2.1 dX0_quarterTurned_32 (lv_at hl 6 rfl) ?_
      refine lv_iconst (v := (nI 1)) hC.1 hC.2.1 dX0_quarterTurned_34 (by decide) ?_
      refine z_iadd hC dX0_quarterTurned_35 ?_
      refine lv_iconst (v := (nI 4)) hC.1 hC.2.1 dX0_quarterTurned_36 (by decide) ?_
      refine z_irem hC dX0_quarterTurned_37 (by omega) (by decide) (by decide) ?_
      refine p_cs (n := 2) (k_hexD l (ringN_lt f) (Nat.mod_lt _ (by decide)) hR2.1) hC gX0_quarterTurned_X0_hexDigit rfl (by decide +kernel) rfl ⟨by decide, by decide⟩ ⟨Nat.zero_le _, Nat.zero_le _⟩ hl.1 (Nat.le_of_ble_eq_true rfl) dX0_quarterTurned_38 rfl ?_
      refine lv_istore (lv' := [(9, .int (nI (zRing f ((i + 1) % 4)))), (8, .int (nI (zRing f i))), (0, .long (enc b)), (2, .int (nI f)), (3, .int (nI (ringN f))), (4, .int (nI (moreN f))), (5, .long (enc (gs b (zRing f) (zMore f) i))), (7, .int (nI i))]) hC.1 hC.2.1 dX0_quarterTurned_41 hl (by decide) rfl (fun ls hl => ?_)
      refine lv_lload hC.1 hC.2.1 dX0_quarterTurned_43 (lv_at hl 6 rfl) ?_
      refine lv_iload hC.1 hC.2.1 dX0_quarterTurned_45 (lv_at hl 0 rfl) ?_
      refine lv_lload_n hC.1 hC.2.1 dX0_quarterTurned_47 rfl (lv_at hl 2 rfl) ?_
      refine lv_iload hC.1 hC.2.1 dX0_quarterTurned_48 (lv_at hl 1 rfl) ?_
      refine p_cs (n := 2) (k_cornerAt l hv hR1.2) hC gX0_quarterTurned_X0_cornerAt rfl (by decide +kernel) rfl ⟨by decide, by decide⟩ ⟨Nat.zero_le _, Nat.zero_le _⟩ hl.1 (Nat.le_of_ble_eq_true rfl) dX0_quarterTurned_50 rfl ?_
      refine lv_lload_n hC.1 hC.2.1 dX0_quarterTurned_53 rfl (lv_at hl 2 rfl) ?_
      refine lv_iload hC.1 hC.2.1 dX0_quarterTurned_54 (lv_at hl 1 rfl) ?_
      refine p_cs (n := 2) (k_twistAt l hv hR1.2) hC gX0_quarterTurned_X0_twistAt rfl (by decide +kernel) rfl ⟨by decide, by decide⟩ ⟨Nat.zero_le _, Nat.zero_le _⟩ hl.1 (Nat.le_of_ble_eq_true rfl) dX0_quarterTurned_56 rfl ?_
      refine lv_iload hC.1 hC.2.1 dX0_quarterTurned_59 (lv_at hl 5 rfl) ?_
      refine lv_iload hC.1 hC.2.1 dX0_quarterTurned_61 (lv_at hl 7 rfl) ?_
      refine p_cs (n := 2) (k_hexD l (moreN_lt f) (by omega) hM1.1) hC gX0_quarterTurned_X0_hexDigit rfl (by decide +kernel) rfl ⟨by decide, by decide⟩ ⟨Nat.zero_le _, Nat.zero_le _⟩ hl.1 (Nat.le_of_ble_eq_true rfl) dX0_quarterTurned_63 rfl ?_
      refine z_iadd hC dX0_quarterTurned_66 ?_
      refine p_cs (n := 4) (k_withCorner l (gs_Va hv i) hR2.2 (Nat.mod_lt _ (by decide)) (by omega)) hC gX0_quarterTurned_X0_withCorner rfl (by decide +kernel) rfl ⟨by decide, by decide⟩ ⟨Nat.zero_le _, Nat.zero_le _⟩ hl.1 (Nat.le_of_ble_eq_true rfl) dX0_quarterTurned_67 rfl ?_
      refine lv_lstore (lv' := [(5, .long (enc (gs b (zRing f) (zMore f) (i + 1)))), (9, .int (nI (zRing f ((i + 1) % 4)))), (8, .int (nI (zRing f i))), (0, .long (enc b)), (2, .int (nI f)), (3, .int (nI (ringN f))), (4, .int (nI (moreN f))), (7, .int (nI i))]) hC.1 hC.2.1 dX0_quarterTurned_70 hl (by decide) rfl (fun ls hl => ?_)
      refine lv_iinc (v := nI (i + 1)) (lv' := [(7, .int (nI (i + 1))), (5, .long (enc (gs b (zRing f) (zMore f) (i + 1)))), (9, .int (nI (zRing f ((i + 1) % 4)))), (8, .int (nI (zRing f i))), (0, .long (enc b)), (2, .int (nI f)), (3, .int (nI (ringN f))), (4, .int (nI (moreN f)))]) hC.1 hC.2.1 dX0_quarterTurned_72 hl (k := 7) rfl (z_inc _) (by decide) rfl (fun ls hl => ?_)
      refine lv_goto (tgt := 17) hC.1 hC.2.1 dX0_quarterTurned_75 (by decide) ?_
      exact ih (i + 1) (by omega) ls (lv_sub hl [4, 5, 6, 7, 1, 0] rfl)
  refine lv_iload_n hC.1 hC.2.1 dX0_quarterTurned_0 rfl (lv_at hl 1 rfl) ?_
  refine p_cs (n := 1) (k_ringOf l hf) hC gX0_quarterTurned_X0_ringOf rfl (by decide +kernel) rfl ⟨by decide, by decide⟩ ⟨Nat.zero_le _, Nat.zero_le _⟩ hl.1 (Nat.le_of_ble_eq_true rfl) dX0_quarterTurned_1 rfl ?_
  refine lv_istore_n (lv' := [(3, .int (nI (ringN f))), (0, .long (enc b)), (2, .int (nI f))]) hC.1 hC.2.1 dX0_quarterTurned_4 rfl hl (by decide) rfl (fun ls hl => ?_)
  refine lv_iload_n hC.1 hC.2.1 dX0_quarterTurned_5 rfl (lv_at hl 2 rfl) ?_
  refine p_cs (n := 1) (k_moreTwistOf l hf) hC gX0_quarterTurned_X0_moreTwistOf rfl (by decide +kernel) rfl ⟨by decide, by decide⟩ ⟨Nat.zero_le _, Nat.zero_le _⟩ hl.1 (Nat.le_of_ble_eq_true rfl) dX0_quarterTurned_6 rfl ?_
  refine lv_istore (lv' := [(4, .int (nI (moreN f))), (3, .int (nI (ringN f))), (0, .long (enc b)), (2, .int (nI f))]) hC.1 hC.2.1 dX0_quarterTurned_9 hl (by decide) rfl (fun ls hl => ?_)
  refine lv_lload_n hC.1 hC.2.1 dX0_quarterTurned_11 rfl (lv_at hl 2 rfl) ?_
  refine lv_lstore (lv' := [(5, .long (enc b)), (4, .int (nI (moreN f))), (3, .int (nI (ringN f))), (0, .long (enc b)), (2, .int (nI f))]) hC.1 hC.2.1 dX0_quarterTurned_12 hl (by decide) rfl (fun ls hl => ?_)
  refine lv_iconst (v := (nI 0)) hC.1 hC.2.1 dX0_quarterTurned_14 (by decide) ?_
  refine lv_istore (lv' := [(7, .int (nI 0)), (5, .long (enc b)), (4, .int (nI (moreN f))), (3, .int (nI (ringN f))), (0, .long (enc b)), (2, .int (nI f))]) hC.1 hC.2.1 dX0_quarterTurned_15 hl (by decide) rfl (fun ls hl => ?_)
  exact loop 4 0 rfl ls (lv_sub hl [4, 5, 3, 2, 1, 0] rfl)

set_option maxHeartbeats 4000000 in
set_option maxRecDepth 100000 in
theorem k_turned (l : Launch) {b : Nat → Nat} (hv : Va b) {t : Nat} (ht : t < 9) : RV l yX0_turned wsX0_turned (4) zNo [.long (enc b), .int (nI t)] (some (.long (enc (turnC b t)))) := by
  refine RV.of (cc := cX0_turned) (maxL := 6) (ret := (some .long)) (by decide) rfl (Nat.le_of_ble_eq_true rfl) ?_
  intro p e s m args below meth c hC hr hlk hB ls hl
  have hl : lv_has ls 6 [(0, .long (enc b)), (2, .int (nI t))] := hl
  have loop : ∀ (n i : Nat), i + n = t % 3 + 1 → ∀ ls : Array Slot, lv_has ls 6 [(0, .long (enc b)), (2, .int (nI t)), (3, .long (enc (itq (t / 3) b i))), (5, .int (nI i))] → W p l e (rD (4) 0 0) s m args below meth c s.heap [] 0 0 (MQ below (RVQ (some (.long (enc (turnC b t))))) args s 0 0 (fun _ => False)) (F0 m 5 ls []) := by
    intro n
    induction n with
    | zero =>
      intro i hc0 ls hl
      obtain rfl : i = t % 3 + 1 := by omega
      refine lv_iload hC.1 hC.2.1 dX0_turned_5 (lv_at hl 3 rfl) ?_
      refine lv_iload_n hC.1 hC.2.1 dX0_turned_7 rfl (lv_at hl 1 rfl) ?_
      refine p_cs (n := 1) (k_quartersOf l ht) hC gX0_turned_X0_quartersOf rfl (by decide +kernel) rfl ⟨by decide, by decide⟩ ⟨Nat.zero_le _, Nat.zero_le _⟩ hl.1 (Nat.le_of_ble_eq_true rfl) dX0_turned_8 rfl ?_
      refine z_icmp_ge (tgt := 29) hC dX0_turned_11 (by decide) (by omega) (by omega) (fun h_11 => ?_) (fun h_11 => by omega)
      refine lv_lload_n hC.1 hC.2.1 dX0_turned_29 rfl (lv_at hl 2 rfl) ?_
      exact RV.lret hC hr hlk dX0_turned_30 (rfl)
    | succ n ih =>
      intro i hc0 ls hl
      refine lv_iload hC.1 hC.2.1 dX0_turned_5 (lv_at hl 3 rfl) ?_
      refine lv_iload_n hC.1 hC.2.1 dX0_turned_7 rfl (lv_at hl 1 rfl) ?_
      refine p_cs (n := 1) (k_quartersOf l ht) hC gX0_turned_X0_quartersOf rfl (by decide +kernel) rfl ⟨by decide, by decide⟩ ⟨Nat.zero_le _, Nat.zero_le _⟩ hl.1 (Nat.le_of_ble_eq_true rfl) dX0_turned_8 rfl ?_
      refine z_icmp_ge (tgt := 29) hC dX0_turned_11 (by decide) (by omega) (by omega) (fun h_11 => by omega) (fun h_11 => ?_)
      refine lv_lload_n hC.1 hC.2.1 dX0_turned_14 rfl (lv_at hl 2 rfl) ?_
      refine lv_iload_n hC.1 hC.2.1 dX0_turned_15 rfl (lv_at hl 1 rfl) ?_
      refine p_cs (n := 1) (k_faceOf l ht) hC gX0_turned_X0_faceOf rfl (by decide +kernel) rfl ⟨by decide, by decide⟩ ⟨Nat.zero_le _, Nat.zero_le _⟩ hl.1 (Nat.le_of_ble_eq_true rfl) dX0_turned_16 rfl ?_
      refine p_cs (n := 2) (k_quarterTurned l (itq_Va hv i) (by omega)) hC gX0_turned_X0_quarterTurned rfl (by decide +kernel) rfl ⟨by decide, by decide⟩ ⟨Nat.zero_le _, Nat.zero_le _⟩ hl.1 (Nat.le_of_ble_eq_true rfl) dX0_turned_19 rfl ?_
      refine lv_lstore_n (lv' := [(3, .long (enc (itq (t / 3) b (i + 1)))), (0, .long (enc b)), (2, .int (nI t)), (5, .int (nI i))]) hC.1 hC.2.1 dX0_turned_22 rfl hl (by decide) rfl (fun ls hl => ?_)
      refine lv_iinc (v := nI (i + 1)) (lv' := [(5, .int (nI (i + 1))), (3, .long (enc (itq (t / 3) b (i + 1)))), (0, .long (enc b)), (2, .int (nI t))]) hC.1 hC.2.1 dX0_turned_23 hl (k := 3) rfl (z_inc _) (by decide) rfl (fun ls hl => ?_)
      refine lv_goto (tgt := 5) hC.1 hC.2.1 dX0_turned_26 (by decide) ?_
      exact ih (i + 1) (by omega) ls (lv_sub hl [2, 3, 1, 0] rfl)
  refine lv_lload_n hC.1 hC.2.1 dX0_turned_0 rfl (lv_at hl 0 rfl) ?_
  refine lv_lstore_n (lv' := [(3, .long (enc b)), (0, .long (enc b)), (2, .int (nI t))]) hC.1 hC.2.1 dX0_turned_1 rfl hl (by decide) rfl (fun ls hl => ?_)
  refine lv_iconst (v := (nI 0)) hC.1 hC.2.1 dX0_turned_2 (by decide) ?_
  refine lv_istore (lv' := [(5, .int (nI 0)), (3, .long (enc b)), (0, .long (enc b)), (2, .int (nI t))]) hC.1 hC.2.1 dX0_turned_3 hl (by decide) rfl (fun ls hl => ?_)
  exact loop (t % 3 + 1) 0 (by omega) ls (lv_sub hl [2, 3, 1, 0] rfl)

def bd (a d : Nat → Nat) (k : Nat) : Nat → Nat := fun i => if i < k then comp a d i else a i
theorem bd_Va {a d : Nat → Nat} (h : Va a) (k : Nat) : Va (bd a d k) := fun i hi => by
  show (if i < k then comp a d i else a i) < 24
  split
  · exact comp_Va a d i hi
  · exact h i hi
theorem bd_step (a d : Nat → Nat) (k : Nat) : enc (fun i => if i = k then a (d k % 8) % 8 + 8 * ((a (d k % 8) / 8 + d k / 8) % 3) else bd a d k i) = enc (bd a d (k + 1)) := by
  apply enc_congr
  intro i _
  show (if i = k then comp a d k else if i < k then comp a d i else a i) = if i < k + 1 then comp a d i else a i
  by_cases h : i = k
  · subst h; simp
  · by_cases h2 : i < k
    · rw [if_neg h, if_pos h2, if_pos (by omega)]
    · rw [if_neg h, if_neg h2, if_neg (by omega)]
theorem bd_8 (a d : Nat → Nat) : enc (bd a d 8) = enc (comp a d) := enc_congr fun i hi => if_pos hi
def pw (b : Nat → Nat) : Nat → (Nat → Nat)
  | 0 => b
  | n + 1 => comp (pw b n) b
theorem pw_Va {b : Nat → Nat} (h : Va b) : ∀ n, Va (pw b n)
  | 0 => h
  | _ + 1 => comp_Va _ _
theorem lg0 {x y : Int64} : lg_cmp x y = 0 ↔ x = y := by
  unfold lg_cmp
  by_cases h : x = y
  · subst h; simp
  · simp only [h, iff_false]
    split <;> first | decide | (split <;> first | decide | contradiction)
set_option maxHeartbeats 4000000 in
set_option maxRecDepth 100000 in
theorem k_behindDeed (l : Launch) {a d : Nat → Nat} (ha : Va a) (hd : Va d) : RV l yX0_behindDeed wsX0_behindDeed (2) zNo [.long (enc a), .long (enc d)] (some (.long (enc (comp a d)))) := by
  refine RV.of (cc := cX0_behindDeed) (maxL := 8) (ret := (some .long)) (by decide) rfl (Nat.le_of_ble_eq_true rfl) ?_
  intro p e s m args below meth c hC hr hlk hB ls hl
  have hl : lv_has ls 8 [(0, .long (enc a)), (2, .long (enc d))] := hl
  have loop : ∀ (n i : Nat), i + n = 8 → ∀ ls : Array Slot, lv_has ls 8 [(0, .long (enc a)), (2, .long (enc d)), (4, .long (enc (bd a d i))), (6, .int (nI i))] → W p l e (rD (2) 0 0) s m args below meth c s.heap [] 0 0 (MQ below (RVQ (some (.long (enc (comp a d))))) args s 0 0 (fun _ => False)) (F0 m 6 ls []) := by
    intro n
    induction n with
    | zero =>
      intro i hc0 ls hl
      obtain rfl : i = 8 := by omega
      refine lv_iload hC.1 hC.2.1 dX0_behindDeed_6 (lv_at hl 3 rfl) ?_
      refine lv_bipush (v := (nI 8)) hC.1 hC.2.1 dX0_behindDeed_8 (by decide) ?_
      refine z_icmp_ge (tgt := 55) hC dX0_behindDeed_10 (by decide) (by omega) (by omega) (fun h_10 => ?_) (fun h_10 => by omega)
      refine lv_lload hC.1 hC.2.1 dX0_behindDeed_55 (lv_at hl 2 rfl) ?_
      exact RV.lret hC hr hlk dX0_behindDeed_57 (bd_8 a d)
    | succ n ih =>
      intro i hc0 ls hl
      have hm : d i % 8 < 8 := Nat.mod_lt _ (by decide)
      have hb1 := ha (d i % 8) hm
      have hb2 := hd i (by omega)
      refine lv_iload hC.1 hC.2.1 dX0_behindDeed_6 (lv_at hl 3 rfl) ?_
      refine lv_bipush (v := (nI 8)) hC.1 hC.2.1 dX0_behindDeed_8 (by decide) ?_
      refine z_icmp_ge (tgt := 55) hC dX0_behindDeed_10 (by decide) (by omega) (by omega) (fun h_10 => by omega) (fun h_10 => ?_)
      refine lv_lload_n hC.1 hC.2.1 dX0_behindDeed_13 rfl (lv_at hl 1 rfl) ?_
      refine lv_iload hC.1 hC.2.1 dX0_behindDeed_14 (lv_at hl 3 rfl) ?_
      refine p_cs (n := 2) (k_cornerAt l hd (by omega)) hC gX0_behindDeed_X0_cornerAt rfl (by decide +kernel) rfl ⟨by decide, by decide⟩ ⟨Nat.zero_le _, Nat.zero_le _⟩ hl.1 (Nat.le_of_ble_eq_true rfl) dX0_behindDeed_16 rfl ?_
      refine lv_istore (lv' := [(7, .int (nI (d i % 8))), (0, .long (enc a)), (2, .long (enc d)), (4, .long (enc (bd a d i))), (6, .int (nI i))]) hC.1 hC.2.1 dX0_behindDeed_19 hl (by decide) rfl (fun ls hl => ?_)
      refine lv_lload hC.1 hC.2.1 dX0_behindDeed_21 (lv_at hl 3 rfl) ?_
      refine lv_iload hC.1 hC.2.1 dX0_behindDeed_23 (lv_at hl 4 rfl) ?_
      refine lv_lload_n hC.1 hC.2.1 dX0_behindDeed_25 rfl (lv_at hl 1 rfl) ?_
      refine lv_iload hC.1 hC.2.1 dX0_behindDeed_26 (lv_at hl 0 rfl) ?_
      refine p_cs (n := 2) (k_cornerAt l ha hm) hC gX0_behindDeed_X0_cornerAt rfl (by decide +kernel) rfl ⟨by decide, by decide⟩ ⟨Nat.zero_le _, Nat.zero_le _⟩ hl.1 (Nat.le_of_ble_eq_true rfl) dX0_behindDeed_28 rfl ?_
      refine lv_lload_n hC.1 hC.2.1 dX0_behindDeed_31 rfl (lv_at hl 1 rfl) ?_
      refine lv_iload hC.1 hC.2.1 dX0_behindDeed_32 (lv_at hl 0 rfl) ?_
      refine p_cs (n := 2) (k_twistAt l ha hm) hC gX0_behindDeed_X0_twistAt rfl (by decide +kernel) rfl ⟨by decide, by decide⟩ ⟨Nat.zero_le _, Nat.zero_le _⟩ hl.1 (Nat.le_of_ble_eq_true rfl) dX0_behindDeed_34 rfl ?_
      refine lv_lload_n hC.1 hC.2.1 dX0_behindDeed_37 rfl (lv_at hl 2 rfl) ?_
      refine lv_iload hC.1 hC.2.1 dX0_behindDeed_38 (lv_at hl 4 rfl) ?_
      refine p_cs (n := 2) (k_twistAt l hd (by omega)) hC gX0_behindDeed_X0_twistAt rfl (by decide +kernel) rfl ⟨by decide, by decide⟩ ⟨Nat.zero_le _, Nat.zero_le _⟩ hl.1 (Nat.le_of_ble_eq_true rfl) dX0_behindDeed_40 rfl ?_
      refine z_iadd hC dX0_behindDeed_43 ?_
      refine p_cs (n := 4) (k_withCorner l (bd_Va ha i) (by omega) (Nat.mod_lt _ (by decide)) (by omega)) hC gX0_behindDeed_X0_withCorner rfl (by decide +kernel) rfl ⟨by decide, by decide⟩ ⟨Nat.zero_le _, Nat.zero_le _⟩ hl.1 (Nat.le_of_ble_eq_true rfl) dX0_behindDeed_44 rfl ?_
      refine q_l (enc (bd a d (i + 1))) (bd_step a d i) ?_
      refine lv_lstore (lv' := [(4, .long (enc (bd a d (i + 1)))), (7, .int (nI (d i % 8))), (0, .long (enc a)), (2, .long (enc d)), (6, .int (nI i))]) hC.1 hC.2.1 dX0_behindDeed_47 hl (by decide) rfl (fun ls hl => ?_)
      refine lv_iinc (v := nI (i + 1)) (lv' := [(6, .int (nI (i + 1))), (4, .long (enc (bd a d (i + 1)))), (7, .int (nI (d i % 8))), (0, .long (enc a)), (2, .long (enc d))]) hC.1 hC.2.1 dX0_behindDeed_49 hl (k := 4) rfl (z_inc _) (by decide) rfl (fun ls hl => ?_)
      refine lv_goto (tgt := 6) hC.1 hC.2.1 dX0_behindDeed_52 (by decide) ?_
      exact ih (i + 1) (by omega) ls (lv_sub hl [3, 4, 1, 0] rfl)
  refine lv_lload_n hC.1 hC.2.1 dX0_behindDeed_0 rfl (lv_at hl 0 rfl) ?_
  refine lv_lstore (lv' := [(4, .long (enc a)), (0, .long (enc a)), (2, .long (enc d))]) hC.1 hC.2.1 dX0_behindDeed_1 hl (by decide) rfl (fun ls hl => ?_)
  refine lv_iconst (v := (nI 0)) hC.1 hC.2.1 dX0_behindDeed_3 (by decide) ?_
  refine lv_istore (lv' := [(6, .int (nI 0)), (4, .long (enc a)), (0, .long (enc a)), (2, .long (enc d))]) hC.1 hC.2.1 dX0_behindDeed_4 hl (by decide) rfl (fun ls hl => ?_)
  have e0 : bd a d 0 = a := by funext i; simp [bd]
  exact loop 8 0 rfl ls (by rw [e0]; exact (lv_sub hl [2, 3, 1, 0] rfl))

set_option maxHeartbeats 4000000 in
set_option maxRecDepth 100000 in
theorem k_orderOf (l : Launch) {b : Nat → Nat} (hv : Va b) {N : Nat} (hN : N < 1000) (h1 : ∀ k, k < N → ¬ enc (pw b k) = enc one) (h2 : enc (pw b N) = enc one) : RV l yX0_orderOf wsX0_orderOf (3) zNo [.long (enc b)] (some (.int (nI (N + 1)))) := by
  refine RV.of (cc := cX0_orderOf) (maxL := 5) (ret := (some .int)) (by decide) rfl (Nat.le_of_ble_eq_true rfl) ?_
  intro p e s m args below meth c hC hr hlk hB ls hl
  have hl : lv_has ls 5 [(0, .long (enc b))] := hl
  have loop : ∀ (n k : Nat), k + n = N → ∀ ls : Array Slot, lv_has ls 5 [(0, .long (enc b)), (2, .int (nI (k + 1))), (3, .long (enc (pw b k)))] → W p l e (rD (3) 0 0) s m args below meth c s.heap [] 0 0 (MQ below (RVQ (some (.int (nI (N + 1))))) args s 0 0 (fun _ => False)) (F0 m 4 ls []) := by
    intro n
    induction n with
    | zero =>
      intro k hc0 ls hl
      obtain rfl : k = N := by omega
      refine lv_lload_n hC.1 hC.2.1 dX0_orderOf_4 rfl (lv_at hl 2 rfl) ?_
      refine lv_ldc2 (v := 506097522914230528) hC.1 hC.2.1 hC.2.2.2.1 (hC.2.2.2.2 (.constantLong RX0 9 (506097522914230528)) (by decide +kernel)) dX0_orderOf_5 ?_
      refine q_l (enc one) (enc_one) ?_
      refine W.lcmp hC.1 hC.2.1 dX0_orderOf_8 ?_
      refine lv_if_eq (tgt := 31) hC.1 hC.2.1 dX0_orderOf_9 (by decide) (fun h_9 => ?_) (fun h_9 => absurd (lg0.mpr h2) h_9)
      refine lv_iload_n hC.1 hC.2.1 dX0_orderOf_31 rfl (lv_at hl 1 rfl) ?_
      exact RV.iret hC hr hlk dX0_orderOf_32 (rfl)
    | succ n ih =>
      intro k hc0 ls hl
      refine lv_lload_n hC.1 hC.2.1 dX0_orderOf_4 rfl (lv_at hl 2 rfl) ?_
      refine lv_ldc2 (v := 506097522914230528) hC.1 hC.2.1 hC.2.2.2.1 (hC.2.2.2.2 (.constantLong RX0 9 (506097522914230528)) (by decide +kernel)) dX0_orderOf_5 ?_
      refine q_l (enc one) (enc_one) ?_
      refine W.lcmp hC.1 hC.2.1 dX0_orderOf_8 ?_
      refine lv_if_eq (tgt := 31) hC.1 hC.2.1 dX0_orderOf_9 (by decide) (fun h_9 => absurd (lg0.mp h_9) (h1 k (by omega))) (fun h_9 => ?_)
      refine lv_iload_n hC.1 hC.2.1 dX0_orderOf_12 rfl (lv_at hl 1 rfl) ?_
      refine lv_sipush (v := (nI 1000)) hC.1 hC.2.1 dX0_orderOf_13 (by decide) ?_
      refine z_icmp_ge (tgt := 31) hC dX0_orderOf_16 (by decide) (by omega) (by omega) (fun h_16 => by omega) (fun h_16 => ?_)
      refine lv_lload_n hC.1 hC.2.1 dX0_orderOf_19 rfl (lv_at hl 2 rfl) ?_
      refine lv_lload_n hC.1 hC.2.1 dX0_orderOf_20 rfl (lv_at hl 0 rfl) ?_
      refine p_cs (n := 2) (k_behindDeed l (pw_Va hv k) hv) hC gX0_orderOf_X0_behindDeed rfl (by decide +kernel) rfl ⟨by decide, by decide⟩ ⟨Nat.zero_le _, Nat.zero_le _⟩ hl.1 (Nat.le_of_ble_eq_true rfl) dX0_orderOf_21 rfl ?_
      refine lv_lstore_n (lv' := [(3, .long (enc (pw b (k + 1)))), (0, .long (enc b)), (2, .int (nI (k + 1)))]) hC.1 hC.2.1 dX0_orderOf_24 rfl hl (by decide) rfl (fun ls hl => ?_)
      refine lv_iinc (v := nI (k + 1 + 1)) (lv' := [(2, .int (nI (k + 1 + 1))), (3, .long (enc (pw b (k + 1)))), (0, .long (enc b))]) hC.1 hC.2.1 dX0_orderOf_25 hl (k := 2) rfl (z_inc _) (by decide) rfl (fun ls hl => ?_)
      refine lv_goto (tgt := 4) hC.1 hC.2.1 dX0_orderOf_28 (by decide) ?_
      exact ih (k + 1) (by omega) ls (lv_sub hl [2, 0, 1] rfl)
  refine lv_iconst (v := (nI 1)) hC.1 hC.2.1 dX0_orderOf_0 (by decide) ?_
  refine lv_istore_n (lv' := [(2, .int (nI 1)), (0, .long (enc b))]) hC.1 hC.2.1 dX0_orderOf_1 rfl hl (by decide) rfl (fun ls hl => ?_)
  refine lv_lload_n hC.1 hC.2.1 dX0_orderOf_2 rfl (lv_at hl 1 rfl) ?_
  refine lv_lstore_n (lv' := [(3, .long (enc b)), (2, .int (nI 1)), (0, .long (enc b))]) hC.1 hC.2.1 dX0_orderOf_3 rfl hl (by decide) rfl (fun ls hl => ?_)
  exact loop N 0 (by omega) ls (lv_sub hl [2, 1, 0] rfl)

def msr (n : Nat) : Nat := if n = 1 then 4 else if n = 2 then 6 else 8
theorem msr_lt (n : Nat) : msr n < 2 ^ 31 := by
  unfold msr
  split
  · decide
  · split <;> decide
set_option maxHeartbeats 4000000 in
set_option maxRecDepth 100000 in
theorem k_mostSetRight (l : Launch) {n : Nat} (hn : n < 2 ^ 31) : RV l yX0_mostSetRight wsX0_mostSetRight (1) zNo [.int (nI n)] (some (.int (nI (msr n)))) := by
  refine RV.of (cc := cX0_mostSetRight) (maxL := 1) (ret := (some .int)) (by decide) rfl (Nat.le_of_ble_eq_true rfl) ?_
  intro p e s m args below meth c hC hr hlk hB ls hl
  have hl : lv_has ls 1 [(0, .int (nI n))] := hl
  refine lv_iload_n hC.1 hC.2.1 dX0_mostSetRight_0 rfl (lv_at hl 0 rfl) ?_
  refine lv_iconst (v := (nI 1)) hC.1 hC.2.1 dX0_mostSetRight_1 (by decide) ?_
  refine z_icmp_ne (tgt := 7) hC dX0_mostSetRight_2 (by decide) (by omega) (by omega) (fun h_2 => ?_) (fun h_2 => ?_)
  · refine lv_iload_n hC.1 hC.2.1 dX0_mostSetRight_7 rfl (lv_at hl 0 rfl) ?_
    refine lv_iconst (v := (nI 2)) hC.1 hC.2.1 dX0_mostSetRight_8 (by decide) ?_
    refine z_icmp_ne (tgt := 17) hC dX0_mostSetRight_9 (by decide) (by omega) (by omega) (fun h_9 => ?_) (fun h_9 => ?_)
    · refine lv_bipush (v := (nI 8)) hC.1 hC.2.1 dX0_mostSetRight_17 (by decide) ?_
      exact RV.iret hC hr hlk dX0_mostSetRight_19 (by simp [msr, h_2, h_9])
    · refine lv_bipush (v := (nI 6)) hC.1 hC.2.1 dX0_mostSetRight_12 (by decide) ?_
      refine lv_goto (tgt := 19) hC.1 hC.2.1 dX0_mostSetRight_14 (by decide) ?_
      exact RV.iret hC hr hlk dX0_mostSetRight_19 (by simp [msr, h_9])
  · refine lv_iconst (v := (nI 4)) hC.1 hC.2.1 dX0_mostSetRight_5 (by decide) ?_
    exact RV.iret hC hr hlk dX0_mostSetRight_6 (by simp [msr, h_2])

def anyN (q : Nat → Bool) : Nat → Bool
  | 0 => false
  | n + 1 => anyN q n || q n
theorem anyN_of {q : Nat → Bool} {i : Nat} (h : q i = true) : ∀ n, i < n → anyN q n = true
  | 0, hi => absurd hi (by omega)
  | n + 1, hi => by
    show (anyN q n || q n) = true
    by_cases e : i = n
    · subst e; simp [h]
    · rw [anyN_of h n (by omega)]; rfl
theorem anyN_ex {q : Nat → Bool} : ∀ n, anyN q n = true → ∃ i, i < n ∧ q i = true
  | 0, h => by simp [anyN] at h
  | n + 1, h => by
    have h : (anyN q n || q n) = true := h
    rcases Bool.or_eq_true_iff.mp h with h | h
    · obtain ⟨i, hi, hq⟩ := anyN_ex n h
      exact ⟨i, by omega, hq⟩
    · exact ⟨n, by omega, h⟩
theorem anyN_no {q : Nat → Bool} {n : Nat} (h : anyN q n = false) (h2 : q n = false) : anyN q (n + 1) = false := by
  show (anyN q n || q n) = false
  rw [h, h2]; rfl
def bI (x : Bool) : Nat := if x = true then 1 else 0
theorem bI_t : bI true = 1 := rfl
theorem bI_f : bI false = 0 := rfl
theorem bI_0 {x : Bool} : bI x = 0 ↔ x = false := by cases x <;> simp [bI]
theorem bI_n0 {x : Bool} : ¬ bI x = 0 ↔ x = true := by cases x <;> simp [bI]
theorem bI_lt (x : Bool) : bI x < 2 ^ 31 := by cases x <;> decide
def is1 (b : Nat → Nat) : Bool := decide (enc b = enc one)
/-- within n turns, the first not of the face lf (3: any) -/
def wi : Nat → (Nat → Nat) → Nat → Bool
  | 0 => fun b _ => is1 b
  | n + 1 => fun b lf => is1 b || (decide (8 - ct (fun i => decide (b i = i)) 8 ≤ msr (n + 1)) && anyN (fun f => !(decide (f = lf)) && anyN (fun j => wi n (itq f b (j + 1)) f) 3) 3)
def lastI (lf : Nat) : Int32 := if lf < 3 then nI lf else -1
theorem lastI_lt {lf : Nat} (h : lf < 3) : lastI lf = nI lf := if_pos h
theorem lastI_eq {f lf : Nat} (hf : f < 3) (hl : lf ≤ 3) : nI f = lastI lf ↔ f = lf := by
  rcases (by omega : f = 0 ∨ f = 1 ∨ f = 2) with rfl | rfl | rfl <;> rcases (by omega : lf = 0 ∨ lf = 1 ∨ lf = 2 ∨ lf = 3) with rfl | rfl | rfl | rfl <;> decide
set_option maxHeartbeats 4000000 in
set_option maxRecDepth 100000 in
theorem k_within (l : Launch) : ∀ (n : Nat) {b : Nat → Nat} (hv : Va b) {lf : Nat} (hlf : lf ≤ 3) (hn : n < 6), RV l yX0_isRightWithin wsX0_isRightWithin (6 + 2 * n) zNo [.long (enc b), .int (nI n), .int (lastI lf)] (some (.int (nI (bI (wi n b lf))))) := by
  intro n
  induction n with
  | zero =>
    intro b hv lf hlf hn
    refine RV.of (cc := cX0_isRightWithin) (maxL := 5) (ret := (some .boolean)) (by decide) rfl (Nat.le_of_ble_eq_true rfl) ?_
    intro p e s m args below meth c hC hr hlk hB ls hl
    have hl : lv_has ls 5 [(0, .long (enc b)), (2, .int (nI 0)), (3, .int (lastI lf))] := hl
    refine lv_lload_n hC.1 hC.2.1 dX0_isRightWithin_0 rfl (lv_at hl 0 rfl) ?_
    refine lv_ldc2 (v := 506097522914230528) hC.1 hC.2.1 hC.2.2.2.1 (hC.2.2.2.2 (.constantLong RX0 9 (506097522914230528)) (by decide +kernel)) dX0_isRightWithin_1 ?_
    refine q_l (enc one) (enc_one) ?_
    refine W.lcmp hC.1 hC.2.1 dX0_isRightWithin_4 ?_
    refine lv_if_ne (tgt := 10) hC.1 hC.2.1 dX0_isRightWithin_5 (by decide) (fun h_5 => ?_) (fun h_5 => ?_)
    · refine lv_iload_n hC.1 hC.2.1 dX0_isRightWithin_10 rfl (lv_at hl 1 rfl) ?_
      refine z_if_le (tgt := 25) hC dX0_isRightWithin_11 (by decide) (by omega) (fun h_11 => ?_) (fun h_11 => absurd h_11 (by omega))
      refine lv_iconst (v := (nI 0)) hC.1 hC.2.1 dX0_isRightWithin_25 (by decide) ?_
      exact RV.zret hC hr hlk dX0_isRightWithin_26 (by show nI 0 = nI (bI (is1 b)); rw [show is1 b = false from decide_eq_false (fun q => h_5 (lg0.mpr q))]; rfl) (by decide)
    · refine lv_iconst (v := (nI 1)) hC.1 hC.2.1 dX0_isRightWithin_8 (by decide) ?_
      exact RV.zret hC hr hlk dX0_isRightWithin_9 (by show nI 1 = nI (bI (is1 b)); rw [show is1 b = true from decide_eq_true (lg0.mp h_5)]; rfl) (by decide)
  | succ k ih =>
    intro b hv lf hlf hn
    have hBeg : ∀ {b : Nat → Nat} (hv : Va b) {f : Nat} (hf : f < 3), RV l yX0_isRightBeginning wsX0_isRightBeginning (7 + 2 * k) zNo [.long (enc b), .int (nI f), .int (nI (k + 1))] (some (.int (nI (bI (anyN (fun j => wi k (itq f b (j + 1)) f) 3))))) := by
      intro b hv f hf
      refine RV.of (cc := cX0_isRightBeginning) (maxL := 7) (ret := (some .boolean)) (by decide) rfl (Nat.le_of_ble_eq_true rfl) ?_
      intro p e s m args below meth c hC hr hlk hB ls hl
      have hl : lv_has ls 7 [(0, .long (enc b)), (2, .int (nI f)), (3, .int (nI (k + 1)))] := hl
      have loop : ∀ (n j : Nat), j + n = 3 → anyN (fun j => wi k (itq f b (j + 1)) f) j = false → ∀ ls : Array Slot, lv_has ls 7 [(0, .long (enc b)), (2, .int (nI f)), (3, .int (nI (k + 1))), (4, .long (enc (itq f b j))), (6, .int (nI (j + 1)))] → W p l e (rD (7 + 2 * k) 0 0) s m args below meth c s.heap [] 0 0 (MQ below (RVQ (some (.int (nI (bI (anyN (fun j => wi k (itq f b (j + 1)) f) 3)))))) args s 0 0 (fun _ => False)) (F0 m 6 ls []) := by
        intro n
        induction n with
        | zero =>
          intro j hc0 hc1 ls hl
          obtain rfl : j = 3 := by omega
          refine lv_iload hC.1 hC.2.1 dX0_isRightBeginning_6 (lv_at hl 4 rfl) ?_
          refine lv_iconst (v := (nI 4)) hC.1 hC.2.1 dX0_isRightBeginning_8 (by decide) ?_
          refine z_icmp_ge (tgt := 40) hC dX0_isRightBeginning_9 (by decide) (by omega) (by omega) (fun h_9 => ?_) (fun h_9 => by omega)
          refine lv_iconst (v := (nI 0)) hC.1 hC.2.1 dX0_isRightBeginning_40 (by decide) ?_
          exact RV.zret hC hr hlk dX0_isRightBeginning_41 (by rw [hc1]; rfl) (by decide)
        | succ n ih2 =>
          intro j hc0 hc1 ls hl
          refine lv_iload hC.1 hC.2.1 dX0_isRightBeginning_6 (lv_at hl 4 rfl) ?_
          refine lv_iconst (v := (nI 4)) hC.1 hC.2.1 dX0_isRightBeginning_8 (by decide) ?_
          refine z_icmp_ge (tgt := 40) hC dX0_isRightBeginning_9 (by decide) (by omega) (by omega) (fun h_9 => by omega) (fun h_9 => ?_)
          refine lv_lload hC.1 hC.2.1 dX0_isRightBeginning_12 (lv_at hl 3 rfl) ?_
          refine lv_iload_n hC.1 hC.2.1 dX0_isRightBeginning_14 rfl (lv_at hl 1 rfl) ?_
          refine p_cs (n := 2) (k_quarterTurned l (itq_Va hv j) hf) hC gX0_isRightBeginning_X0_quarterTurned rfl (by decide +kernel) rfl ⟨by simp only [rD]; omega, by simp only [rD]; omega⟩ ⟨Nat.zero_le _, Nat.zero_le _⟩ hl.1 (Nat.le_of_ble_eq_true rfl) dX0_isRightBeginning_15 rfl ?_
          refine lv_lstore (lv' := [(4, .long (enc (itq f b (j + 1)))), (0, .long (enc b)), (2, .int (nI f)), (3, .int (nI (k + 1))), (6, .int (nI (j + 1)))]) hC.1 hC.2.1 dX0_isRightBeginning_18 hl (by decide) rfl (fun ls hl => ?_)
          refine lv_lload hC.1 hC.2.1 dX0_isRightBeginning_20 (lv_at hl 0 rfl) ?_
          refine lv_iload_n hC.1 hC.2.1 dX0_isRightBeginning_22 rfl (lv_at hl 3 rfl) ?_
          refine lv_iconst (v := (nI 1)) hC.1 hC.2.1 dX0_isRightBeginning_23 (by decide) ?_
          refine z_isub hC dX0_isRightBeginning_24 (by omega) ?_
          refine q_i (nI k) (by rfl) ?_
          refine lv_iload_n hC.1 hC.2.1 dX0_isRightBeginning_25 rfl (lv_at hl 2 rfl) ?_
          refine q_i (lastI f) ((lastI_lt hf).symm) ?_
          refine p_cs (n := 3) (ih (itq_Va hv (j + 1)) (by omega : f ≤ 3) (by omega)) hC gX0_isRightBeginning_X0_isRightWithin rfl (by decide +kernel) rfl ⟨by simp only [rD]; omega, by simp only [rD]; omega⟩ ⟨Nat.zero_le _, Nat.zero_le _⟩ hl.1 (Nat.le_of_ble_eq_true rfl) dX0_isRightBeginning_26 rfl ?_
          refine z_if_eq (tgt := 34) hC dX0_isRightBeginning_29 (by decide) (bI_lt _) (fun h_29 => ?_) (fun h_29 => ?_)
          · refine lv_iinc (v := nI (j + 1 + 1)) (lv' := [(6, .int (nI (j + 1 + 1))), (4, .long (enc (itq f b (j + 1)))), (0, .long (enc b)), (2, .int (nI f)), (3, .int (nI (k + 1)))]) hC.1 hC.2.1 dX0_isRightBeginning_34 hl (k := 4) rfl (z_inc _) (by decide) rfl (fun ls hl => ?_)
            refine lv_goto (tgt := 6) hC.1 hC.2.1 dX0_isRightBeginning_37 (by decide) ?_
            exact ih2 (j + 1) (by omega) (anyN_no hc1 (bI_0.mp h_29)) ls (lv_sub hl [2, 3, 4, 1, 0] rfl)
          · refine lv_iconst (v := (nI 1)) hC.1 hC.2.1 dX0_isRightBeginning_32 (by decide) ?_
            exact RV.zret hC hr hlk dX0_isRightBeginning_33 (by rw [anyN_of (i := j) (q := (fun j => wi k (itq f b (j + 1)) f)) (bI_n0.mp h_29) 3 (by omega)]; rfl) (by decide)
      refine lv_lload_n hC.1 hC.2.1 dX0_isRightBeginning_0 rfl (lv_at hl 0 rfl) ?_
      refine lv_lstore (lv' := [(4, .long (enc b)), (0, .long (enc b)), (2, .int (nI f)), (3, .int (nI (k + 1)))]) hC.1 hC.2.1 dX0_isRightBeginning_1 hl (by decide) rfl (fun ls hl => ?_)
      refine lv_iconst (v := (nI 1)) hC.1 hC.2.1 dX0_isRightBeginning_3 (by decide) ?_
      refine lv_istore (lv' := [(6, .int (nI 1)), (4, .long (enc b)), (0, .long (enc b)), (2, .int (nI f)), (3, .int (nI (k + 1)))]) hC.1 hC.2.1 dX0_isRightBeginning_4 hl (by decide) rfl (fun ls hl => ?_)
      exact loop 3 0 (by omega) rfl ls (lv_sub hl [2, 3, 4, 1, 0] rfl)
    refine RV.of (cc := cX0_isRightWithin) (maxL := 5) (ret := (some .boolean)) (by decide) rfl (Nat.le_of_ble_eq_true rfl) ?_
    intro p e s m args below meth c hC hr hlk hB ls hl
    have hl : lv_has ls 5 [(0, .long (enc b)), (2, .int (nI (k + 1))), (3, .int (lastI lf))] := hl
    have loop : is1 b = false → 8 - ct (fun i => decide (b i = i)) 8 ≤ msr (k + 1) → ∀ (n f : Nat), f + n = 3 → anyN (fun f => !(decide (f = lf)) && anyN (fun j => wi k (itq f b (j + 1)) f) 3) f = false → ∀ ls : Array Slot, lv_has ls 5 [(0, .long (enc b)), (2, .int (nI (k + 1))), (3, .int (lastI lf)), (4, .int (nI f))] → W p l e (rD (6 + 2 * (k + 1)) 0 0) s m args below meth c s.heap [] 0 0 (MQ below (RVQ (some (.int (nI (bI (wi (k + 1) b lf)))))) args s 0 0 (fun _ => False)) (F0 m 30 ls []) := by
      intro hs hle n
      induction n with
      | zero =>
        intro f hc0 hc1 ls hl
        obtain rfl : f = 3 := by omega
        refine lv_iload hC.1 hC.2.1 dX0_isRightWithin_30 (lv_at hl 3 rfl) ?_
        refine lv_iconst (v := (nI 3)) hC.1 hC.2.1 dX0_isRightWithin_32 (by decide) ?_
        refine z_icmp_ge (tgt := 60) hC dX0_isRightWithin_33 (by decide) (by omega) (by omega) (fun h_33 => ?_) (fun h_33 => by omega)
        refine lv_iconst (v := (nI 0)) hC.1 hC.2.1 dX0_isRightWithin_60 (by decide) ?_
        exact RV.zret hC hr hlk dX0_isRightWithin_61 (by show _ = nI (bI (is1 b || (decide (8 - ct (fun i => decide (b i = i)) 8 ≤ msr (k + 1)) && anyN (fun f => !(decide (f = lf)) && anyN (fun j => wi k (itq f b (j + 1)) f) 3) 3))); rw [hs, hc1]; simp [bI]) (by decide)
      | succ n ih2 =>
        intro f hc0 hc1 ls hl
        refine lv_iload hC.1 hC.2.1 dX0_isRightWithin_30 (lv_at hl 3 rfl) ?_
        refine lv_iconst (v := (nI 3)) hC.1 hC.2.1 dX0_isRightWithin_32 (by decide) ?_
        refine z_icmp_ge (tgt := 60) hC dX0_isRightWithin_33 (by decide) (by omega) (by omega) (fun h_33 => by omega) (fun h_33 => ?_)
        refine lv_iload hC.1 hC.2.1 dX0_isRightWithin_36 (lv_at hl 3 rfl) ?_
        refine lv_iload_n hC.1 hC.2.1 dX0_isRightWithin_38 rfl (lv_at hl 2 rfl) ?_
        refine lv_icmp_eq (tgt := 54) hC.1 hC.2.1 dX0_isRightWithin_39 (by decide) (fun h_39 => ?_) (fun h_39 => ?_)
        · refine lv_iinc (v := nI (f + 1)) (lv' := [(4, .int (nI (f + 1))), (0, .long (enc b)), (2, .int (nI (k + 1))), (3, .int (lastI lf))]) hC.1 hC.2.1 dX0_isRightWithin_54 hl (k := 3) rfl (z_inc _) (by decide) rfl (fun ls hl => ?_)
          refine lv_goto (tgt := 30) hC.1 hC.2.1 dX0_isRightWithin_57 (by decide) ?_
          exact ih2 (f + 1) (by omega) (anyN_no hc1 (by have e1 := (lastI_eq (by omega) hlf).mp h_39; simp [e1])) ls (lv_sub hl [1, 2, 3, 0] rfl)
        · refine lv_lload_n hC.1 hC.2.1 dX0_isRightWithin_42 rfl (lv_at hl 0 rfl) ?_
          refine lv_iload hC.1 hC.2.1 dX0_isRightWithin_43 (lv_at hl 3 rfl) ?_
          refine lv_iload_n hC.1 hC.2.1 dX0_isRightWithin_45 rfl (lv_at hl 1 rfl) ?_
          refine p_cs (n := 3) (hBeg hv (by omega : f < 3)) hC gX0_isRightWithin_X0_isRightBeginning rfl (by decide +kernel) rfl ⟨by simp only [rD]; omega, by simp only [rD]; omega⟩ ⟨Nat.zero_le _, Nat.zero_le _⟩ hl.1 (Nat.le_of_ble_eq_true rfl) dX0_isRightWithin_46 rfl ?_
          refine z_if_eq (tgt := 54) hC dX0_isRightWithin_49 (by decide) (bI_lt _) (fun h_49 => ?_) (fun h_49 => ?_)
          · refine lv_iinc (v := nI (f + 1)) (lv' := [(4, .int (nI (f + 1))), (0, .long (enc b)), (2, .int (nI (k + 1))), (3, .int (lastI lf))]) hC.1 hC.2.1 dX0_isRightWithin_54 hl (k := 3) rfl (z_inc _) (by decide) rfl (fun ls hl => ?_)
            refine lv_goto (tgt := 30) hC.1 hC.2.1 dX0_isRightWithin_57 (by decide) ?_
            exact ih2 (f + 1) (by omega) (anyN_no hc1 (by have e1 := bI_0.mp h_49; simp [e1])) ls (lv_sub hl [1, 2, 3, 0] rfl)
          · refine lv_iconst (v := (nI 1)) hC.1 hC.2.1 dX0_isRightWithin_52 (by decide) ?_
            exact RV.zret hC hr hlk dX0_isRightWithin_53 (by show _ = nI (bI (is1 b || (decide (8 - ct (fun i => decide (b i = i)) 8 ≤ msr (k + 1)) && anyN (fun f => !(decide (f = lf)) && anyN (fun j => wi k (itq f b (j + 1)) f) 3) 3))); rw [hs, decide_eq_true hle, anyN_of (i := f) (q := (fun f => !(decide (f = lf)) && anyN (fun j => wi k (itq f b (j + 1)) f) 3)) (by have e1 := bI_n0.mp h_49; have e2 : ¬ f = lf := fun q => h_39 ((lastI_eq (by omega) hlf).mpr q); simp [e1, e2]) 3 (by omega)]; rfl) (by decide)
    refine lv_lload_n hC.1 hC.2.1 dX0_isRightWithin_0 rfl (lv_at hl 0 rfl) ?_
    refine lv_ldc2 (v := 506097522914230528) hC.1 hC.2.1 hC.2.2.2.1 (hC.2.2.2.2 (.constantLong RX0 9 (506097522914230528)) (by decide +kernel)) dX0_isRightWithin_1 ?_
    refine q_l (enc one) (enc_one) ?_
    refine W.lcmp hC.1 hC.2.1 dX0_isRightWithin_4 ?_
    refine lv_if_ne (tgt := 10) hC.1 hC.2.1 dX0_isRightWithin_5 (by decide) (fun h_5 => ?_) (fun h_5 => ?_)
    · have hs : is1 b = false := decide_eq_false (fun q => h_5 (lg0.mpr q))
      refine lv_iload_n hC.1 hC.2.1 dX0_isRightWithin_10 rfl (lv_at hl 1 rfl) ?_
      refine z_if_le (tgt := 25) hC dX0_isRightWithin_11 (by decide) (by omega) (fun h_11 => by omega) (fun h_11 => ?_)
      refine lv_lload_n hC.1 hC.2.1 dX0_isRightWithin_14 rfl (lv_at hl 0 rfl) ?_
      refine p_cs (n := 1) (k_wrongCorners l hv) hC gX0_isRightWithin_X0_wrongCorners rfl (by decide +kernel) rfl ⟨by simp only [rD]; omega, by simp only [rD]; omega⟩ ⟨Nat.zero_le _, Nat.zero_le _⟩ hl.1 (Nat.le_of_ble_eq_true rfl) dX0_isRightWithin_15 rfl ?_
      refine lv_iload_n hC.1 hC.2.1 dX0_isRightWithin_18 rfl (lv_at hl 1 rfl) ?_
      refine p_cs (n := 1) (k_mostSetRight l (by omega)) hC gX0_isRightWithin_X0_mostSetRight rfl (by decide +kernel) rfl ⟨by simp only [rD]; omega, by simp only [rD]; omega⟩ ⟨Nat.zero_le _, Nat.zero_le _⟩ hl.1 (Nat.le_of_ble_eq_true rfl) dX0_isRightWithin_19 rfl ?_
      refine z_icmp_le (tgt := 27) hC dX0_isRightWithin_22 (by decide) (by first | exact msr_lt _ | omega) (by first | exact msr_lt _ | omega) (fun h_22 => ?_) (fun h_22 => ?_)
      · refine lv_iconst (v := (nI 0)) hC.1 hC.2.1 dX0_isRightWithin_27 (by decide) ?_
        refine lv_istore (lv' := [(4, .int (nI 0)), (0, .long (enc b)), (2, .int (nI (k + 1))), (3, .int (lastI lf))]) hC.1 hC.2.1 dX0_isRightWithin_28 hl (by decide) rfl (fun ls hl => ?_)
        exact loop hs h_22 3 0 (by omega) rfl ls (lv_sub hl [1, 2, 3, 0] rfl)
      · refine lv_iconst (v := (nI 0)) hC.1 hC.2.1 dX0_isRightWithin_25 (by decide) ?_
        exact RV.zret hC hr hlk dX0_isRightWithin_26 (by show _ = nI (bI (is1 b || (decide (8 - ct (fun i => decide (b i = i)) 8 ≤ msr (k + 1)) && anyN (fun f => !(decide (f = lf)) && anyN (fun j => wi k (itq f b (j + 1)) f) 3) 3))); rw [hs, decide_eq_false (by omega : ¬ 8 - ct (fun i => decide (b i = i)) 8 ≤ msr (k + 1))]; rfl) (by decide)
    · refine lv_iconst (v := (nI 1)) hC.1 hC.2.1 dX0_isRightWithin_8 (by decide) ?_
      exact RV.zret hC hr hlk dX0_isRightWithin_9 (by show _ = nI (bI (is1 b || (decide (8 - ct (fun i => decide (b i = i)) 8 ≤ msr (k + 1)) && anyN (fun f => !(decide (f = lf)) && anyN (fun j => wi k (itq f b (j + 1)) f) 3) 3))); rw [show is1 b = true from decide_eq_true (lg0.mp h_5)]; rfl) (by decide)

set_option maxHeartbeats 4000000 in
set_option maxRecDepth 100000 in
theorem k_fewest (l : Launch) {b : Nat → Nat} (hv : Va b) {most : Nat} (hm : most ≤ 5) {N : Nat} (hN : N ≤ most) (h1 : ∀ k, k < N → wi k b 3 = false) (h2 : wi N b 3 = true) : RV l yX0_fewestTurns wsX0_fewestTurns (20) zNo [.long (enc b), .int (nI most)] (some (.int (nI N))) := by
  refine RV.of (cc := cX0_fewestTurns) (maxL := 4) (ret := (some .int)) (by decide) rfl (Nat.le_of_ble_eq_true rfl) ?_
  intro p e s m args below meth c hC hr hlk hB ls hl
  have hl : lv_has ls 4 [(0, .long (enc b)), (2, .int (nI most))] := hl
  have loop : ∀ (n k : Nat), k + n = N → ∀ ls : Array Slot, lv_has ls 4 [(0, .long (enc b)), (2, .int (nI most)), (3, .int (nI k))] → W p l e (rD (20) 0 0) s m args below meth c s.heap [] 0 0 (MQ below (RVQ (some (.int (nI N)))) args s 0 0 (fun _ => False)) (F0 m 2 ls []) := by
    intro n
    induction n with
    | zero =>
      intro k hc0 ls hl
      obtain rfl : k = N := by omega
      refine lv_iload_n hC.1 hC.2.1 dX0_fewestTurns_2 rfl (lv_at hl 2 rfl) ?_
      refine lv_iload_n hC.1 hC.2.1 dX0_fewestTurns_3 rfl (lv_at hl 1 rfl) ?_
      refine z_icmp_gt (tgt := 24) hC dX0_fewestTurns_4 (by decide) (by omega) (by omega) (fun h_4 => by omega) (fun h_4 => ?_)
      refine lv_lload_n hC.1 hC.2.1 dX0_fewestTurns_7 rfl (lv_at hl 0 rfl) ?_
      refine lv_iload_n hC.1 hC.2.1 dX0_fewestTurns_8 rfl (lv_at hl 2 rfl) ?_
      refine lv_iconst (v := (-1)) hC.1 hC.2.1 dX0_fewestTurns_9 (by decide) ?_
      refine q_i (lastI 3) (by decide) ?_
      refine p_cs (n := 3) (k_within l k hv (lf := 3) (by decide) (by omega)) hC gX0_fewestTurns_X0_isRightWithin rfl (by decide +kernel) rfl ⟨by simp only [rD]; omega, by simp only [rD]; omega⟩ ⟨Nat.zero_le _, Nat.zero_le _⟩ hl.1 (Nat.le_of_ble_eq_true rfl) dX0_fewestTurns_10 rfl ?_
      refine z_if_eq (tgt := 18) hC dX0_fewestTurns_13 (by decide) (bI_lt _) (fun h_13 => absurd (bI_0.mp h_13) (by simp [h2])) (fun h_13 => ?_)
      refine lv_iload_n hC.1 hC.2.1 dX0_fewestTurns_16 rfl (lv_at hl 2 rfl) ?_
      exact RV.iret hC hr hlk dX0_fewestTurns_17 (rfl)
    | succ n ih =>
      intro k hc0 ls hl
      refine lv_iload_n hC.1 hC.2.1 dX0_fewestTurns_2 rfl (lv_at hl 2 rfl) ?_
      refine lv_iload_n hC.1 hC.2.1 dX0_fewestTurns_3 rfl (lv_at hl 1 rfl) ?_
      refine z_icmp_gt (tgt := 24) hC dX0_fewestTurns_4 (by decide) (by omega) (by omega) (fun h_4 => by omega) (fun h_4 => ?_)
      refine lv_lload_n hC.1 hC.2.1 dX0_fewestTurns_7 rfl (lv_at hl 0 rfl) ?_
      refine lv_iload_n hC.1 hC.2.1 dX0_fewestTurns_8 rfl (lv_at hl 2 rfl) ?_
      refine lv_iconst (v := (-1)) hC.1 hC.2.1 dX0_fewestTurns_9 (by decide) ?_
      refine q_i (lastI 3) (by decide) ?_
      refine p_cs (n := 3) (k_within l k hv (lf := 3) (by decide) (by omega)) hC gX0_fewestTurns_X0_isRightWithin rfl (by decide +kernel) rfl ⟨by simp only [rD]; omega, by simp only [rD]; omega⟩ ⟨Nat.zero_le _, Nat.zero_le _⟩ hl.1 (Nat.le_of_ble_eq_true rfl) dX0_fewestTurns_10 rfl ?_
      refine z_if_eq (tgt := 18) hC dX0_fewestTurns_13 (by decide) (bI_lt _) (fun h_13 => ?_) (fun h_13 => absurd (bI_n0.mp h_13) (by simp [h1 k (by omega)]))
      refine lv_iinc (v := nI (k + 1)) (lv' := [(3, .int (nI (k + 1))), (0, .long (enc b)), (2, .int (nI most))]) hC.1 hC.2.1 dX0_fewestTurns_18 hl (k := 2) rfl (z_inc _) (by decide) rfl (fun ls hl => ?_)
      refine lv_goto (tgt := 2) hC.1 hC.2.1 dX0_fewestTurns_21 (by decide) ?_
      exact ih (k + 1) (by omega) ls (lv_sub hl [1, 2, 0] rfl)
  refine lv_iconst (v := (nI 0)) hC.1 hC.2.1 dX0_fewestTurns_0 (by decide) ?_
  refine lv_istore_n (lv' := [(3, .int (nI 0)), (0, .long (enc b)), (2, .int (nI most))]) hC.1 hC.2.1 dX0_fewestTurns_1 rfl hl (by decide) rfl (fun ls hl => ?_)
  exact loop N 0 (by omega) ls (lv_sub hl [1, 2, 0] rfl)

set_option maxHeartbeats 4000000 in
set_option maxRecDepth 100000 in
theorem k_fewestN (l : Launch) {b : Nat → Nat} (hv : Va b) {most : Nat} (hm : most ≤ 5) (h1 : ∀ k, k ≤ most → wi k b 3 = false) : RV l yX0_fewestTurns wsX0_fewestTurns (20) zNo [.long (enc b), .int (nI most)] (some (.int (-1))) := by
  refine RV.of (cc := cX0_fewestTurns) (maxL := 4) (ret := (some .int)) (by decide) rfl (Nat.le_of_ble_eq_true rfl) ?_
  intro p e s m args below meth c hC hr hlk hB ls hl
  have hl : lv_has ls 4 [(0, .long (enc b)), (2, .int (nI most))] := hl
  have loop : ∀ (n k : Nat), k + n = most + 1 → ∀ ls : Array Slot, lv_has ls 4 [(0, .long (enc b)), (2, .int (nI most)), (3, .int (nI k))] → W p l e (rD (20) 0 0) s m args below meth c s.heap [] 0 0 (MQ below (RVQ (some (.int (-1)))) args s 0 0 (fun _ => False)) (F0 m 2 ls []) := by
    intro n
    induction n with
    | zero =>
      intro k hc0 ls hl
      obtain rfl : k = most + 1 := by omega
      refine lv_iload_n hC.1 hC.2.1 dX0_fewestTurns_2 rfl (lv_at hl 2 rfl) ?_
      refine lv_iload_n hC.1 hC.2.1 dX0_fewestTurns_3 rfl (lv_at hl 1 rfl) ?_
      refine z_icmp_gt (tgt := 24) hC dX0_fewestTurns_4 (by decide) (by omega) (by omega) (fun h_4 => ?_) (fun h_4 => by omega)
      refine lv_iconst (v := (-1)) hC.1 hC.2.1 dX0_fewestTurns_24 (by decide) ?_
      exact RV.iret hC hr hlk dX0_fewestTurns_25 (rfl)
    | succ n ih =>
      intro k hc0 ls hl
      refine lv_iload_n hC.1 hC.2.1 dX0_fewestTurns_2 rfl (lv_at hl 2 rfl) ?_
      refine lv_iload_n hC.1 hC.2.1 dX0_fewestTurns_3 rfl (lv_at hl 1 rfl) ?_
      refine z_icmp_gt (tgt := 24) hC dX0_fewestTurns_4 (by decide) (by omega) (by omega) (fun h_4 => by omega) (fun h_4 => ?_)
      refine lv_lload_n hC.1 hC.2.1 dX0_fewestTurns_7 rfl (lv_at hl 0 rfl) ?_
      refine lv_iload_n hC.1 hC.2.1 dX0_fewestTurns_8 rfl (lv_at hl 2 rfl) ?_
      refine lv_iconst (v := (-1)) hC.1 hC.2.1 dX0_fewestTurns_9 (by decide) ?_
      refine q_i (lastI 3) (by decide) ?_
      refine p_cs (n := 3) (k_within l k hv (lf := 3) (by decide) (by omega)) hC gX0_fewestTurns_X0_isRightWithin rfl (by decide +kernel) rfl ⟨by simp only [rD]; omega, by simp only [rD]; omega⟩ ⟨Nat.zero_le _, Nat.zero_le _⟩ hl.1 (Nat.le_of_ble_eq_true rfl) dX0_fewestTurns_10 rfl ?_
      refine z_if_eq (tgt := 18) hC dX0_fewestTurns_13 (by decide) (bI_lt _) (fun h_13 => ?_) (fun h_13 => absurd (bI_n0.mp h_13) (by simp [h1 k (by omega)]))
      refine lv_iinc (v := nI (k + 1)) (lv' := [(3, .int (nI (k + 1))), (0, .long (enc b)), (2, .int (nI most))]) hC.1 hC.2.1 dX0_fewestTurns_18 hl (k := 2) rfl (z_inc _) (by decide) rfl (fun ls hl => ?_)
      refine lv_goto (tgt := 2) hC.1 hC.2.1 dX0_fewestTurns_21 (by decide) ?_
      exact ih (k + 1) (by omega) ls (lv_sub hl [1, 2, 0] rfl)
  refine lv_iconst (v := (nI 0)) hC.1 hC.2.1 dX0_fewestTurns_0 (by decide) ?_
  refine lv_istore_n (lv' := [(3, .int (nI 0)), (0, .long (enc b)), (2, .int (nI most))]) hC.1 hC.2.1 dX0_fewestTurns_1 rfl hl (by decide) rfl (fun ls hl => ?_)
  exact loop (most + 1) 0 (by omega) ls (lv_sub hl [1, 2, 0] rfl)

theorem invs_lt (b : Nat → Nat) : ∀ n, n ≤ 8 → invs b n ≤ 8 * n
  | 0, _ => by simp [invs]
  | n + 1, h => by
    have h1 := invs_lt b n (by omega)
    have h2 : pairsTo b n (7 - n) ≤ 7 - n := ct_le _ _
    show invs b n + pairsTo b n (7 - n) ≤ _
    omega
set_option maxHeartbeats 4000000 in
set_option maxRecDepth 100000 in
theorem k_pairs (l : Launch) {b : Nat → Nat} (hv : Va b) : RV l yX0_pairsOutOfOrder wsX0_pairsOutOfOrder (2) zNo [.long (enc b)] (some (.int (nI (invs b 8)))) := by
  refine RV.of (cc := cX0_pairsOutOfOrder) (maxL := 5) (ret := (some .int)) (by decide) rfl (Nat.le_of_ble_eq_true rfl) ?_
  intro p e s m args below meth c hC hr hlk hB ls hl
  have hl : lv_has ls 5 [(0, .long (enc b))] := hl
  have outer : ∀ (n i : Nat), i + n = 8 → ∀ ls : Array Slot, lv_has ls 5 [(0, .long (enc b)), (2, .int (nI (invs b i))), (3, .int (nI i))] → W p l e (rD (2) 0 0) s m args below meth c s.heap [] 0 0 (MQ below (RVQ (some (.int (nI (invs b 8))))) args s 0 0 (fun _ => False)) (F0 m 4 ls []) := by
    intro n
    induction n with
    | zero =>
      intro i hc0 ls hl
      obtain rfl : i = 8 := by omega
      refine lv_iload_n hC.1 hC.2.1 dX0_pairsOutOfOrder_4 rfl (lv_at hl 2 rfl) ?_
      refine lv_bipush (v := (nI 8)) hC.1 hC.2.1 dX0_pairsOutOfOrder_5 (by decide) ?_
      refine z_icmp_ge (tgt := 51) hC dX0_pairsOutOfOrder_7 (by decide) (by omega) (by omega) (fun h_7 => ?_) (fun h_7 => by omega)
      refine lv_iload_n hC.1 hC.2.1 dX0_pairsOutOfOrder_51 rfl (lv_at hl 1 rfl) ?_
      exact RV.iret hC hr hlk dX0_pairsOutOfOrder_52 (rfl)
    | succ n ih =>
      intro i hc0 ls hl
      have inner : ∀ (n2 k : Nat), k + n2 = 7 - i → ∀ ls : Array Slot, lv_has ls 5 [(0, .long (enc b)), (2, .int (nI (invs b i + pairsTo b i k))), (3, .int (nI i)), (4, .int (nI (i + 1 + k)))] → W p l e (rD (2) 0 0) s m args below meth c s.heap [] 0 0 (MQ below (RVQ (some (.int (nI (invs b 8))))) args s 0 0 (fun _ => False)) (F0 m 15 ls []) := by
        intro n2
        induction n2 with
        | zero =>
          intro k hk ls hl
          have hk7 : k = 7 - i := by omega
          refine lv_iload hC.1 hC.2.1 dX0_pairsOutOfOrder_15 (lv_at hl 3 rfl) ?_
          refine lv_bipush (v := (nI 8)) hC.1 hC.2.1 dX0_pairsOutOfOrder_17 (by decide) ?_
          refine z_icmp_ge (tgt := 45) hC dX0_pairsOutOfOrder_19 (by decide) (by omega) (by omega) (fun h_19 => ?_) (fun h_19 => by omega)
          refine lv_iinc (v := nI (i + 1)) (lv' := [(3, .int (nI (i + 1))), (0, .long (enc b)), (2, .int (nI (invs b i + pairsTo b i k))), (4, .int (nI (i + 1 + k)))]) hC.1 hC.2.1 dX0_pairsOutOfOrder_45 hl (k := 2) rfl (z_inc _) (by decide) rfl (fun ls hl => ?_)
          refine lv_goto (tgt := 4) hC.1 hC.2.1 dX0_pairsOutOfOrder_48 (by decide) ?_
          have e9 : invs b (i + 1) = invs b i + pairsTo b i k := by rw [hk7]; rfl
          exact ih (i + 1) (by omega) ls (by rw [e9]; exact (lv_sub hl [1, 2, 0] rfl))
        | succ n2 ih2 =>
          intro k hk ls hl
          refine lv_iload hC.1 hC.2.1 dX0_pairsOutOfOrder_15 (lv_at hl 3 rfl) ?_
          refine lv_bipush (v := (nI 8)) hC.1 hC.2.1 dX0_pairsOutOfOrder_17 (by decide) ?_
          refine z_icmp_ge (tgt := 45) hC dX0_pairsOutOfOrder_19 (by decide) (by omega) (by omega) (fun h_19 => by omega) (fun h_19 => ?_)
          refine lv_lload_n hC.1 hC.2.1 dX0_pairsOutOfOrder_22 rfl (lv_at hl 0 rfl) ?_
          refine lv_iload_n hC.1 hC.2.1 dX0_pairsOutOfOrder_23 rfl (lv_at hl 2 rfl) ?_
          refine p_cs (n := 2) (k_cornerAt l hv (by omega)) hC gX0_pairsOutOfOrder_X0_cornerAt rfl (by decide +kernel) rfl ⟨by decide, by decide⟩ ⟨Nat.zero_le _, Nat.zero_le _⟩ hl.1 (Nat.le_of_ble_eq_true rfl) dX0_pairsOutOfOrder_24 rfl ?_
          refine lv_lload_n hC.1 hC.2.1 dX0_pairsOutOfOrder_27 rfl (lv_at hl 0 rfl) ?_
          refine lv_iload hC.1 hC.2.1 dX0_pairsOutOfOrder_28 (lv_at hl 3 rfl) ?_
          refine p_cs (n := 2) (k_cornerAt l hv (by omega)) hC gX0_pairsOutOfOrder_X0_cornerAt rfl (by decide +kernel) rfl ⟨by decide, by decide⟩ ⟨Nat.zero_le _, Nat.zero_le _⟩ hl.1 (Nat.le_of_ble_eq_true rfl) dX0_pairsOutOfOrder_30 rfl ?_
          refine z_icmp_le (tgt := 39) hC dX0_pairsOutOfOrder_33 (by decide) (by omega) (by omega) (fun h_33 => ?_) (fun h_33 => ?_)
          · refine lv_iinc (v := nI (i + 1 + k + 1)) (lv' := [(4, .int (nI (i + 1 + k + 1))), (0, .long (enc b)), (2, .int (nI (invs b i + pairsTo b i k))), (3, .int (nI i))]) hC.1 hC.2.1 dX0_pairsOutOfOrder_39 hl (k := 3) rfl (z_inc _) (by decide) rfl (fun ls hl => ?_)
            refine lv_goto (tgt := 15) hC.1 hC.2.1 dX0_pairsOutOfOrder_42 (by decide) ?_
            exact ih2 (k + 1) (by omega) ls (by have e9 : pairsTo b i (k + 1) = pairsTo b i k := ct_f (by simp; omega); rw [e9]; exact (lv_sub hl [1, 2, 3, 0] rfl))
          · refine lv_iinc (v := nI (invs b i + pairsTo b i k + 1)) (lv' := [(2, .int (nI (invs b i + pairsTo b i k + 1))), (0, .long (enc b)), (3, .int (nI i)), (4, .int (nI (i + 1 + k)))]) hC.1 hC.2.1 dX0_pairsOutOfOrder_36 hl (k := 1) rfl (z_inc _) (by decide) rfl (fun ls hl => ?_)
            refine lv_iinc (v := nI (i + 1 + k + 1)) (lv' := [(4, .int (nI (i + 1 + k + 1))), (2, .int (nI (invs b i + pairsTo b i k + 1))), (0, .long (enc b)), (3, .int (nI i))]) hC.1 hC.2.1 dX0_pairsOutOfOrder_39 hl (k := 3) rfl (z_inc _) (by decide) rfl (fun ls hl => ?_)
            refine lv_goto (tgt := 15) hC.1 hC.2.1 dX0_pairsOutOfOrder_42 (by decide) ?_
            exact ih2 (k + 1) (by omega) ls (by have e9 : pairsTo b i (k + 1) = pairsTo b i k + 1 := ct_t (by simp; omega); rw [e9]; exact (lv_sub hl [2, 1, 3, 0] rfl))
      refine lv_iload_n hC.1 hC.2.1 dX0_pairsOutOfOrder_4 rfl (lv_at hl 2 rfl) ?_
      refine lv_bipush (v := (nI 8)) hC.1 hC.2.1 dX0_pairsOutOfOrder_5 (by decide) ?_
      refine z_icmp_ge (tgt := 51) hC dX0_pairsOutOfOrder_7 (by decide) (by omega) (by omega) (fun h_7 => by omega) (fun h_7 => ?_)
      refine lv_iload_n hC.1 hC.2.1 dX0_pairsOutOfOrder_10 rfl (lv_at hl 2 rfl) ?_
      refine lv_iconst (v := (nI 1)) hC.1 hC.2.1 dX0_pairsOutOfOrder_11 (by decide) ?_
      refine z_iadd hC dX0_pairsOutOfOrder_12 ?_
      refine lv_istore (lv' := [(4, .int (nI (i + 1))), (0, .long (enc b)), (2, .int (nI (invs b i))), (3, .int (nI i))]) hC.1 hC.2.1 dX0_pairsOutOfOrder_13 hl (by decide) rfl (fun ls hl => ?_)
      exact inner (7 - i) 0 (by omega) ls (lv_sub hl [1, 2, 3, 0] rfl)
  refine lv_iconst (v := (nI 0)) hC.1 hC.2.1 dX0_pairsOutOfOrder_0 (by decide) ?_
  refine lv_istore_n (lv' := [(2, .int (nI 0)), (0, .long (enc b))]) hC.1 hC.2.1 dX0_pairsOutOfOrder_1 rfl hl (by decide) rfl (fun ls hl => ?_)
  refine lv_iconst (v := (nI 0)) hC.1 hC.2.1 dX0_pairsOutOfOrder_2 (by decide) ?_
  refine lv_istore_n (lv' := [(3, .int (nI 0)), (2, .int (nI 0)), (0, .long (enc b))]) hC.1 hC.2.1 dX0_pairsOutOfOrder_3 rfl hl (by decide) rfl (fun ls hl => ?_)
  exact outer 8 0 (by omega) ls (lv_sub hl [2, 1, 0] rfl)

set_option maxHeartbeats 4000000 in
set_option maxRecDepth 100000 in
theorem k_checkFace (l : Launch) {f : Nat} (hf : f < 3) : RV l yX0_checkFace wsX0_checkFace (1) zNo [.int (nI f)] none := by
  refine RV.of (cc := cX0_checkFace) (maxL := 1) (ret := none) (by decide) rfl (Nat.le_of_ble_eq_true rfl) ?_
  intro p e s m args below meth c hC hr hlk hB ls hl
  have hl : lv_has ls 1 [(0, .int (nI f))] := hl
  refine lv_iload_n hC.1 hC.2.1 dX0_checkFace_0 rfl (lv_at hl 0 rfl) ?_
  refine z_if_lt (tgt := 9) hC dX0_checkFace_1 (by decide) (by omega) ?_
  refine lv_iload_n hC.1 hC.2.1 dX0_checkFace_4 rfl (lv_at hl 0 rfl) ?_
  refine lv_iconst (v := (nI 3)) hC.1 hC.2.1 dX0_checkFace_5 (by decide) ?_
  refine z_icmp_lt (tgt := 19) hC dX0_checkFace_6 (by decide) (by omega) (by omega) (fun h_6 => ?_) (fun h_6 => by omega)
  exact RV.vret hC hr hlk dX0_checkFace_19

set_option maxHeartbeats 4000000 in
set_option maxRecDepth 100000 in
theorem k_checkWord (l : Launch) {f : Nat} (hf : f < 5) : RV l yX0_checkWord wsX0_checkWord (1) zNo [.int (nI f)] none := by
  refine RV.of (cc := cX0_checkWord) (maxL := 1) (ret := none) (by decide) rfl (Nat.le_of_ble_eq_true rfl) ?_
  intro p e s m args below meth c hC hr hlk hB ls hl
  have hl : lv_has ls 1 [(0, .int (nI f))] := hl
  refine lv_iload_n hC.1 hC.2.1 dX0_checkWord_0 rfl (lv_at hl 0 rfl) ?_
  refine z_if_lt (tgt := 9) hC dX0_checkWord_1 (by decide) (by omega) ?_
  refine lv_iload_n hC.1 hC.2.1 dX0_checkWord_4 rfl (lv_at hl 0 rfl) ?_
  refine lv_iconst (v := (nI 5)) hC.1 hC.2.1 dX0_checkWord_5 (by decide) ?_
  refine z_icmp_lt (tgt := 19) hC dX0_checkWord_6 (by decide) (by omega) (by omega) (fun h_6 => ?_) (fun h_6 => by omega)
  exact RV.vret hC hr hlk dX0_checkWord_19

set_option maxHeartbeats 4000000 in
set_option maxRecDepth 100000 in
theorem k_checkPlace (l : Launch) {f : Nat} (hf : f < 8) : RV l yX0_checkPlace wsX0_checkPlace (1) zNo [.int (nI f)] none := by
  refine RV.of (cc := cX0_checkPlace) (maxL := 1) (ret := none) (by decide) rfl (Nat.le_of_ble_eq_true rfl) ?_
  intro p e s m args below meth c hC hr hlk hB ls hl
  have hl : lv_has ls 1 [(0, .int (nI f))] := hl
  refine lv_iload_n hC.1 hC.2.1 dX0_checkPlace_0 rfl (lv_at hl 0 rfl) ?_
  refine z_if_lt (tgt := 10) hC dX0_checkPlace_1 (by decide) (by omega) ?_
  refine lv_iload_n hC.1 hC.2.1 dX0_checkPlace_4 rfl (lv_at hl 0 rfl) ?_
  refine lv_bipush (v := (nI 8)) hC.1 hC.2.1 dX0_checkPlace_5 (by decide) ?_
  refine z_icmp_lt (tgt := 20) hC dX0_checkPlace_7 (by decide) (by omega) (by omega) (fun h_7 => ?_) (fun h_7 => by omega)
  exact RV.vret hC hr hlk dX0_checkPlace_20

set_option maxHeartbeats 4000000 in
set_option maxRecDepth 100000 in
theorem k_checkQuarters (l : Launch) {q : Nat} (h1 : 1 ≤ q) (hq : q < 4) : RV l yX0_checkQuarters wsX0_checkQuarters (1) zNo [.int (nI q)] none := by
  refine RV.of (cc := cX0_checkQuarters) (maxL := 1) (ret := none) (by decide) rfl (Nat.le_of_ble_eq_true rfl) ?_
  intro p e s m args below meth c hC hr hlk hB ls hl
  have hl : lv_has ls 1 [(0, .int (nI q))] := hl
  refine lv_iload_n hC.1 hC.2.1 dX0_checkQuarters_0 rfl (lv_at hl 0 rfl) ?_
  refine lv_iconst (v := (nI 1)) hC.1 hC.2.1 dX0_checkQuarters_1 (by decide) ?_
  refine z_icmp_lt (tgt := 10) hC dX0_checkQuarters_2 (by decide) (by omega) (by omega) (fun h_2 => by omega) (fun h_2 => ?_)
  refine lv_iload_n hC.1 hC.2.1 dX0_checkQuarters_5 rfl (lv_at hl 0 rfl) ?_
  refine lv_iconst (v := (nI 4)) hC.1 hC.2.1 dX0_checkQuarters_6 (by decide) ?_
  refine z_icmp_lt (tgt := 20) hC dX0_checkQuarters_7 (by decide) (by omega) (by omega) (fun h_7 => ?_) (fun h_7 => by omega)
  exact RV.vret hC hr hlk dX0_checkQuarters_20

set_option maxHeartbeats 4000000 in
set_option maxRecDepth 100000 in
theorem k_checkWhat (l : Launch) {f g : Nat} (hf : f < g) (hg : g < 2 ^ 31) : RV l yX0_checkWhat wsX0_checkWhat (1) zNo [.int (nI f), .int (nI g)] none := by
  refine RV.of (cc := cX0_checkWhat) (maxL := 2) (ret := none) (by decide) rfl (Nat.le_of_ble_eq_true rfl) ?_
  intro p e s m args below meth c hC hr hlk hB ls hl
  have hl : lv_has ls 2 [(0, .int (nI f)), (1, .int (nI g))] := hl
  refine lv_iload_n hC.1 hC.2.1 dX0_checkWhat_0 rfl (lv_at hl 0 rfl) ?_
  refine z_if_lt (tgt := 9) hC dX0_checkWhat_1 (by decide) (by omega) ?_
  refine lv_iload_n hC.1 hC.2.1 dX0_checkWhat_4 rfl (lv_at hl 0 rfl) ?_
  refine lv_iload_n hC.1 hC.2.1 dX0_checkWhat_5 rfl (lv_at hl 1 rfl) ?_
  refine z_icmp_lt (tgt := 19) hC dX0_checkWhat_6 (by decide) (by omega) (by omega) (fun h_6 => ?_) (fun h_6 => by omega)
  exact RV.vret hC hr hlk dX0_checkWhat_19

set_option maxHeartbeats 4000000 in
set_option maxRecDepth 100000 in
theorem k_checkMost (l : Launch) {f : Nat} (hf : f ≤ 5) : RV l yX0_checkMost wsX0_checkMost (1) zNo [.int (nI f)] none := by
  refine RV.of (cc := cX0_checkMost) (maxL := 1) (ret := none) (by decide) rfl (Nat.le_of_ble_eq_true rfl) ?_
  intro p e s m args below meth c hC hr hlk hB ls hl
  have hl : lv_has ls 1 [(0, .int (nI f))] := hl
  refine lv_iload_n hC.1 hC.2.1 dX0_checkMost_0 rfl (lv_at hl 0 rfl) ?_
  refine z_if_lt (tgt := 9) hC dX0_checkMost_1 (by decide) (by omega) ?_
  refine lv_iload_n hC.1 hC.2.1 dX0_checkMost_4 rfl (lv_at hl 0 rfl) ?_
  refine lv_iconst (v := (nI 5)) hC.1 hC.2.1 dX0_checkMost_5 (by decide) ?_
  refine z_icmp_le (tgt := 19) hC dX0_checkMost_6 (by decide) (by omega) (by omega) (fun h_6 => ?_) (fun h_6 => by omega)
  exact RV.vret hC hr hlk dX0_checkMost_19
end
section
/-! MY ROWS 08: cells of the pool, read, written, made -/
theorem pl_get {L : List Nat} {f : Nat → va_E} {a : Nat} (h : a ∈ L) : ∃ k : Nat, (va_pl L f)[k]? = some (a, f a) := by
  obtain ⟨k, hk⟩ := va_pl_get (X := []) (f := f) h
  rw [List.nil_append] at hk
  exact ⟨k, hk⟩
theorem pl_set {A : Nat → Prop} {L : List Nat} {f : Nat → va_E} {a k : Nat} {e : va_E} (hD : va_D A (va_pl L f)) (h : a ∈ L) (hk : (va_pl L f)[k]? = some (a, f a)) : (va_pl L f).set k (a, e) = va_pl L (va_up f a e) := by
  have h1 := va_pl_set (X := []) (e := e) (by rw [List.nil_append]; exact hD) h (by rw [List.nil_append]; exact hk)
  rw [List.nil_append, List.nil_append] at h1
  exact h1
theorem pl_new {A : Nat → Prop} {L : List Nat} {f : Nat → va_E} {q : Nat} {e : va_E} (hD : va_D A (va_pl L f ++ [(q, e)])) : q ∉ L := va_pl_fresh2 (X := []) (by rw [List.nil_append]; exact hD)
section ZC
variable {p : Program} {l : Launch} {e : Env} {R : Room} {s : State} {m : MethodId} {args : Array Value} {below : List Frame} {meth : Method} {c : Code} {H : Heap} {locs : List Loc} {cells slots : Nat} {Q : State → Prop}
variable {Ts : List Cond} {own : String} {nL : Nat} {cc : ByteArray} {pc : Nat} {ls : Array Slot} {rest : List Value} {D : va_G} {T : ClassId × ClassId × ClassId} {z0 : Nat} {L : List Nat} {f : Nat → va_E}
theorem zA_hA (hE : zE D T z0 s) : ∀ q, s.heap.size ≤ q → zA z0 q := fun q h => Nat.le_trans hE.1 h
theorem p_get {Cn ref : String} {TT : u_T} {N ci index a : Nat} {fs : List Value} (hC : CallFix p m c cc nL s args Ts Cn) (hE : zE D T z0 s) (hP : va_P D vwCl (va_pl L f) H) (hm : a ∈ L) (he : f a = .inr (ci, fs)) (hc : vwCl[ci]? = some (Cn, TT, N)) (hin : ∀ w ∈ u_ws Cn TT N, w ∈ Ts) (k : Nat) (hk : k < N) (hlink : Cond.fieldLink Cn index ref (TT k).2.1 (TT k).2.2.1 ∈ Ts) (hsame : ref = (TT k).1) {v : Value} (hv : fs[k]? = some v) (hdg : decode cc pc = .ok (.getfield index, 3))
    (kk : W p l e R s m args below meth c H locs cells slots Q (F0 m (pc + 3) ls (v :: rest))) : W p l e R s m args below meth c H locs cells slots Q (F0 m pc ls (.ref a :: rest)) := by
  obtain ⟨j, hj⟩ := pl_get (f := f) hm
  rw [he] at hj
  exact va_get hC.1 hC.2.1 hC.2.2.2.2 hin hC.2.2.2.1 hE.2.2 hP j hj hc k hk (hC.2.2.2.2 _ hlink) (fun x h => by rw [hsame]; exact h) hv hdg kk
theorem p_put {Cn ref : String} {TT : u_T} {N ci index a : Nat} {fs : List Value} {ty0 : Nat → FieldType} (hC : CallFix p m c cc nL s args Ts Cn) (hE : zE D T z0 s) (hP : va_P D vwCl (va_pl L f) H) (hD : va_D (zA z0) (va_pl L f)) (hS : va_S (zA z0) s.heap H locs) (hm : a ∈ L) (he : f a = .inr (ci, fs)) (hc : vwCl[ci]? = some (Cn, TT, N)) (hin : ∀ w ∈ u_ws Cn TT N, w ∈ Ts)
    (hty : ∀ k, k < N → parseFieldDescriptor (TT k).2.2.1 = some (ty0 k)) (hnm : ∀ a, a < N → ∀ b, b < N → a ≠ b → (TT a).2.1 ≠ (TT b).2.1) (k : Nat) (hk : k < N) (hlink : Cond.fieldLink Cn index ref (TT k).2.1 (TT k).2.2.1 ∈ Ts) (hsame : ref = (TT k).1) (hfin : (TT k).2.2.2 = false) {v : Value} (hn : narrow (ty0 k) v = v) (hfit : fits (ty0 k) v = true) (hl : k < fs.length) (hdg : decode cc pc = .ok (.putfield index, 3))
    (kk : ∀ (H1 : Heap) (locs1 : List Loc), va_P D vwCl (va_pl L (va_up f a (.inr (ci, fs.set k v)))) H1 → va_D (zA z0) (va_pl L (va_up f a (.inr (ci, fs.set k v)))) → va_S (zA z0) s.heap H1 locs1 → W p l e R s m args below meth c H1 locs1 cells slots Q (F0 m (pc + 3) ls rest)) : W p l e R s m args below meth c H locs cells slots Q (F0 m pc ls (v :: .ref a :: rest)) := by
  obtain ⟨j, hj⟩ := pl_get (f := f) hm
  have e := fun e => pl_set (e := e) hD hm hj
  rw [he] at hj
  refine va_put (ty := ty0 k) hC.1 hC.2.1 hC.2.2.2.2 hin ty0 hty hnm hC.2.2.2.1 hE.2.2 hP hD hS j hj hc k hk (hC.2.2.2.2 _ hlink) (fun x h => by rw [hsame]; exact h) hfin (hty k hk) hn hfit hl hdg (fun H1 locs1 hP1 hD1 hS1 => ?_)
  rw [e] at hP1 hD1
  exact kk H1 locs1 hP1 hD1 hS1
theorem p_putF {Cn ref : String} {TT : u_T} {N ci index a : Nat} {fs : List Value} {ty0 : Nat → FieldType} (hC : CallFix p m c cc nL s args Ts Cn) (hE : zE D T z0 s) (hP : va_P D vwCl (va_pl L f) H) (hD : va_D (zA z0) (va_pl L f)) (hS : va_S (zA z0) s.heap H locs) (hm : a ∈ L) (he : f a = .inr (ci, fs)) (hc : vwCl[ci]? = some (Cn, TT, N)) (hin : ∀ w ∈ u_ws Cn TT N, w ∈ Ts)
    (hty : ∀ k, k < N → parseFieldDescriptor (TT k).2.2.1 = some (ty0 k)) (hnm : ∀ a, a < N → ∀ b, b < N → a ≠ b → (TT a).2.1 ≠ (TT b).2.1) (k : Nat) (hk : k < N) (hlink : Cond.fieldLink Cn index ref (TT k).2.1 (TT k).2.2.1 ∈ Ts) (hsame : ref = (TT k).1) (hfin : (TT k).2.2.2 = true) (hi : meth.name = "<init>") (hdecl : (TT k).1 = Cn) {v : Value} (hn : narrow (ty0 k) v = v) (hfit : fits (ty0 k) v = true) (hl : k < fs.length) (hdg : decode cc pc = .ok (.putfield index, 3))
    (kk : ∀ (H1 : Heap) (locs1 : List Loc), va_P D vwCl (va_pl L (va_up f a (.inr (ci, fs.set k v)))) H1 → va_D (zA z0) (va_pl L (va_up f a (.inr (ci, fs.set k v)))) → va_S (zA z0) s.heap H1 locs1 → W p l e R s m args below meth c H1 locs1 cells slots Q (F0 m (pc + 3) ls rest)) : W p l e R s m args below meth c H locs cells slots Q (F0 m pc ls (v :: .ref a :: rest)) := by
  obtain ⟨j, hj⟩ := pl_get (f := f) hm
  have e := fun e => pl_set (e := e) hD hm hj
  rw [he] at hj
  refine va_putF (ty := ty0 k) hC.1 hC.2.1 hC.2.2.2.2 hin ty0 hty hnm hC.2.2.2.1 hE.2.2 hP hD hS j hj hc k hk (hC.2.2.2.2 _ hlink) (fun x h => by rw [hsame]; exact h) hfin hi hdecl (hty k hk) hn hfit hl hdg (fun H1 locs1 hP1 hD1 hS1 => ?_)
  rw [e] at hP1 hD1
  exact kk H1 locs1 hP1 hD1 hS1
theorem p_iald {a n j : Nat} {g : Nat → Int32} (hC : CallFix p m c cc nL s args Ts own) (hE : zE D T z0 s) (hP : va_P D vwCl (va_pl L f) H) (hm : a ∈ L) (he : f a = eI T.1 n g) (hj : j < n) (hn : n < 2 ^ 31) (hdg : decode cc pc = .ok (.iaload, 1))
    (kk : W p l e R s m args below meth c H locs cells slots Q (F0 m (pc + 1) ls (.int (g j) :: rest))) : W p l e R s m args below meth c H locs cells slots Q (F0 m pc ls (.int (nI j) :: .ref a :: rest)) := by
  obtain ⟨k, hk⟩ := pl_get (f := f) hm
  rw [he] at hk
  refine va_iald hC.1 hC.2.1 hE.2.2 hP k 0 hk rfl (vp_in_nI hj hn) hdg ?_
  rw [nI_clamp (Nat.lt_trans hj hn)]
  exact kk
theorem p_iast {a n j : Nat} {g : Nat → Int32} {x : Int32} (hC : CallFix p m c cc nL s args Ts own) (hE : zE D T z0 s) (hP : va_P D vwCl (va_pl L f) H) (hD : va_D (zA z0) (va_pl L f)) (hS : va_S (zA z0) s.heap H locs) (hm : a ∈ L) (he : f a = eI T.1 n g) (hj : j < n) (hn : n < 2 ^ 31) (hdg : decode cc pc = .ok (.iastore, 1))
    (kk : ∀ (H1 : Heap) (locs1 : List Loc), va_P D vwCl (va_pl L (va_up f a (eI T.1 n (upd g j x)))) H1 → va_D (zA z0) (va_pl L (va_up f a (eI T.1 n (upd g j x)))) → va_S (zA z0) s.heap H1 locs1 → W p l e R s m args below meth c H1 locs1 cells slots Q (F0 m (pc + 1) ls rest)) : W p l e R s m args below meth c H locs cells slots Q (F0 m pc ls (.int x :: .int (nI j) :: .ref a :: rest)) := by
  obtain ⟨k, hk⟩ := pl_get (f := f) hm
  have e := fun e => pl_set (e := e) hD hm hk
  rw [he] at hk
  refine va_iast hC.1 hC.2.1 hE.2.2 hP hD hS k 0 hk rfl (vp_in_nI hj hn) hdg (fun H1 locs1 hP1 hD1 hS1 => ?_)
  rw [nI_clamp (Nat.lt_trans hj hn), e] at hP1 hD1
  exact kk H1 locs1 hP1 hD1 hS1
theorem p_aald {a n j y : Nat} {g : Nat → Option Nat} (hC : CallFix p m c cc nL s args Ts own) (hE : zE D T z0 s) (hP : va_P D vwCl (va_pl L f) H) (hm : a ∈ L) (he : f a = eQ T.2.2 n g) (hj : j < n) (hn : n < 2 ^ 31) (hg : g j = some y) (hdg : decode cc pc = .ok (.aaload, 1))
    (kk : W p l e R s m args below meth c H locs cells slots Q (F0 m (pc + 1) ls (.ref y :: rest))) : W p l e R s m args below meth c H locs cells slots Q (F0 m pc ls (.int (nI j) :: .ref a :: rest)) := by
  obtain ⟨k, hk⟩ := pl_get (f := f) hm
  rw [he] at hk
  have hin := vp_in_nI hj hn
  have hcl := nI_clamp (Nat.lt_trans hj hn)
  exact W.aald (v := .ref y) (ty := .array .int) hC.1 hC.2.1 (hP k _ hk) ((hE.2.2.2 2 _ rfl).1 n (fun j => va_rf (g j))) rfl (fun q => by cases q) (by show ¬ (nI j < 0 ∨ (arrV _ _ _).slots.size ≤ _); rw [arrV_size]; exact hin) (by show (arrV _ _ _).slots[_]? = _; rw [hcl, arrV_read _ _ hj]; exact congrArg (fun x => some (va_rf x)) hg) rfl rfl hdg kk
theorem p_alen {a n : Nat} {g : Nat → Int32} (hC : CallFix p m c cc nL s args Ts own) (hE : zE D T z0 s) (hP : va_P D vwCl (va_pl L f) H) (hm : a ∈ L) (he : f a = eI T.1 n g) (hdg : decode cc pc = .ok (.arraylength, 1))
    (kk : W p l e R s m args below meth c H locs cells slots Q (F0 m (pc + 1) ls (.int (nI n) :: rest))) : W p l e R s m args below meth c H locs cells slots Q (F0 m pc ls (.ref a :: rest)) := by
  obtain ⟨k, hk⟩ := pl_get (f := f) hm
  rw [he] at hk
  exact va_alen hC.1 hC.2.1 hE.2.2 hP k 0 hk rfl rfl hdg kk
theorem p_newI {n : Nat} (hC : CallFix p m c cc nL s args Ts own) (hE : zE D T z0 s) (hP : va_P D vwCl (va_pl L f) H) (hD : va_D (zA z0) (va_pl L f)) (hS : va_S (zA z0) s.heap H locs) (harr : Cond.arrayClass .int ∈ Ts) (hn : n ≤ 1000) (hcells : cells + 1 ≤ R.cells) (hslots : slots + n ≤ R.slots) (hdg : decode cc pc = .ok (.newarray .int, 2))
    (kk : ∀ (q : Nat) (H1 : Heap), q ∉ L → va_P D vwCl (va_pl (L ++ [q]) (va_up f q (eI T.1 n (fun _ => 0)))) H1 → va_D (zA z0) (va_pl (L ++ [q]) (va_up f q (eI T.1 n (fun _ => 0)))) → va_S (zA z0) s.heap H1 locs → W p l e R s m args below meth c H1 locs (cells + 1) (slots + n) Q (F0 m (pc + 2) ls (.ref q :: rest))) : W p l e R s m args below meth c H locs cells slots Q (F0 m pc ls (.int (nI n) :: rest)) := by
  have h31 : n < 2 ^ 31 := Nat.lt_of_le_of_lt hn (by decide)
  refine va_newa (atype := .int) (ty := .int) (a0 := (n, .inl (fun _ => 0))) hC.1 hC.2.1 (hC.2.2.2.2 _ harr) rfl hE.2.2 hP hD hS (zA_hA hE) (fun _ => rfl) (nI_pos h31) (nI_clamp h31) (by show n * 4 ≤ 536870912; omega) hcells hslots hdg (fun q cA H1 hK1 hP1 hD1 hS1 => ?_)
  have h1 : s.vm.findClass "[I" = some T.1 := (hE.2.2.2 0 _ rfl).2
  have h2 : s.vm.findClass "[I" = some cA := (hK1.2 3 _ rfl).2
  have h3 : T.1 = cA := Option.some.inj (h1.symm.trans h2)
  subst h3
  have hq := pl_new hD1
  rw [va_pl_push hq] at hP1 hD1
  exact kk q H1 hq hP1 hD1 hS1
end ZC
end
section
/-! MY ROWS 09: the class as cells; its reading methods (laid by a program of mine) -/
def CX (T : ClassId × ClassId × ClassId) (L : List Nat) (f : Nat → va_E) (hx g ln : Nat) (rw : Nat → Nat) (b : Nat → Nat) (mk : Int32) (wd : Nat → List Nat) : Prop :=
  (hx ∈ L ∧ f hx = eO 0 [.long (enc b), .int mk, .ref g, .ref ln]) ∧ (g ∈ L ∧ ∃ G : Nat → Option Nat, f g = eQ T.2.2 5 G ∧ ∀ w, w < 5 → G w = some (rw w)) ∧
  (ln ∈ L ∧ ∃ N : Nat → Int32, f ln = eI T.1 5 N ∧ ∀ w, w < 5 → N w = nI (wd w).length) ∧
  (∀ w, w < 5 → rw w ∈ L ∧ ∃ h : Nat → Int32, f (rw w) = eI T.1 12 h ∧ ∀ k, k < (wd w).length → h k = nI ((wd w).getD k 0)) ∧
  (∀ i j, i < 5 → j < 5 → rw i = rw j → i = j) ∧ Va b ∧ (∀ w, w < 5 → (wd w).length ≤ 12 ∧ ∀ k, k < (wd w).length → (wd w).getD k 0 < 9)
/-- the turns of a list, the first i of them, behind c -/
def bhN (c : Nat → Nat) (l : List Nat) : Nat → (Nat → Nat)
  | 0 => c
  | i + 1 => turnC (bhN c l i) (l.getD i 0)
def behind (c : Nat → Nat) (l : List Nat) : Nat → Nat := bhN c l l.length
def deed (l : List Nat) : Nat → Nat := behind one l
theorem bhN_Va {c : Nat → Nat} (h : Va c) (l : List Nat) : ∀ i, Va (bhN c l i)
  | 0 => h
  | _ + 1 => turnC_Va _ _
theorem deed_Va (l : List Nat) : Va (deed l) := bhN_Va one_Va l _
def tb (t : Nat) : Nat := 3 * (t / 3) + (4 - (t % 3 + 1)) - 1
theorem tb_lt {t : Nat} (h : t < 9) : tb t < 9 := by unfold tb; omega
def brN (c : Nat → Nat) (l : List Nat) : Nat → (Nat → Nat)
  | 0 => c
  | k + 1 => turnC (brN c l k) (tb (l.getD (l.length - 1 - k) 0))
def behindR (c : Nat → Nat) (l : List Nat) : Nat → Nat := brN c l l.length
theorem brN_Va {c : Nat → Nat} (h : Va c) (l : List Nat) : ∀ i, Va (brN c l i)
  | 0 => h
  | _ + 1 => turnC_Va _ _
def tot (wd : Nat → List Nat) : Nat → Nat
  | 0 => 0
  | n + 1 => tot wd n + (wd n).length
theorem tot_le {wd : Nat → List Nat} (h : ∀ w, w < 5 → (wd w).length ≤ 12) : ∀ n, n ≤ 5 → tot wd n ≤ 12 * n
  | 0, _ => by simp [tot]
  | n + 1, hn => by
    have h1 := tot_le h n (by omega)
    have h2 := h n (by omega)
    show tot wd n + (wd n).length ≤ _
    omega
def ordS (c : Nat → Nat) : Nat → Nat → Nat
  | 0, k => k
  | u + 1, k => if enc (pw c k) = enc one then k else ordS c u (k + 1)
/-- the order, less 1 -/
def ordN (c : Nat → Nat) : Nat := ordS c 1000 0
theorem ordS_spec (c : Nat → Nat) : ∀ (u k : Nat), ordS c u k < k + u → (∀ j, k ≤ j → j < ordS c u k → ¬ enc (pw c j) = enc one) ∧ enc (pw c (ordS c u k)) = enc one
  | 0, k, h => absurd h (by simp [ordS])
  | u + 1, k, h => by
    unfold ordS at h ⊢
    split
    · rename_i he
      exact ⟨fun j h1 h2 => absurd h2 (by omega), he⟩
    · rename_i he
      rw [if_neg he] at h
      obtain ⟨h1, h2⟩ := ordS_spec c u (k + 1) (by omega)
      refine ⟨fun j h3 h4 => ?_, h2⟩
      by_cases e : j = k
      · subst e; exact he
      · exact h1 j (by omega) h4
theorem ordN_spec {c : Nat → Nat} (h : ordN c < 1000) : (∀ j, j < ordN c → ¬ enc (pw c j) = enc one) ∧ enc (pw c (ordN c)) = enc one := by
  obtain ⟨h1, h2⟩ := ordS_spec c 1000 0 (by rw [Nat.zero_add]; exact h)
  exact ⟨fun j hj => h1 j (Nat.zero_le _) hj, h2⟩
theorem k_order (l : Launch) {b : Nat → Nat} (hv : Va b) (h : ordN b < 1000) : RV l yX0_orderOf wsX0_orderOf 3 zNo [.long (enc b)] (some (.int (nI (ordN b + 1)))) := k_orderOf l hv h (ordN_spec h).1 (ordN_spec h).2
abbrev nRt (b : Nat → Nat) : Nat := ct (fun i => decide (b i = i)) 8
abbrev nPl (b : Nat → Nat) : Nat := ct (fun i => decide (b i % 8 = i)) 8
abbrev nUt (b : Nat → Nat) : Nat := ct (fun i => decide (b i / 8 = 0)) 8
def cV (b : Nat → Nat) (mk : Int32) (wd : Nat → List Nat) : Nat → Int32
  | 0 => mk
  | 1 => nI (nRt b)
  | 2 => nI (nPl b)
  | 3 => nI (nUt b)
  | 4 => nI (invs b 8 % 2)
  | 5 => nI (ordN b + 1)
  | _ => nI (tot wd 5)
def tV (b : Nat → Nat) (q : Nat) : Nat → Nat
  | 0 => b q % 8
  | 1 => b q / 8
  | _ => if b q = q then 1 else 0
def wV (l : List Nat) : Nat → Nat
  | 0 => l.length
  | 1 => ordN (deed l) + 1
  | 2 => 8 - nRt (deed l)
  | _ => 8 - nPl (deed l)

set_option maxHeartbeats 4000000 in
set_option maxRecDepth 100000 in
theorem k_behindWord (l : Launch) {D : va_G} {T : ClassId × ClassId × ClassId} {z0 : Nat} {L : List Nat} {f : Nat → va_E} {hx g ln : Nat} {rw : Nat → Nat} {b : Nat → Nat} {mk : Int32} {wd : Nat → List Nat} (hX : CX T L f hx g ln rw b mk wd) {c : Nat → Nat} (hc : Va c) {w : Nat} (hw : w < 5) : RV l yX0_behindWord wsX0_behindWord (5) (zPre D T z0 L f) [.ref hx, .long (enc c), .int (nI w)] (some (.long (enc (behind c (wd w))))) := by
  refine RV.of (cc := cX0_behindWord) (maxL := 7) (ret := (some .long)) (by decide) rfl (Nat.le_of_ble_eq_true rfl) ?_
  intro p e s m args below meth c0 hC hr hlk hB ls hl
  have hl : lv_has ls 7 [(0, .ref hx), (1, .long (enc c)), (3, .int (nI w))] := hl
  obtain ⟨hE, hP, hD⟩ := hB
  obtain ⟨⟨hmx, hex⟩, ⟨hmg, G, heg, hG⟩, ⟨hml, Nl, hel, hNl⟩, hrw, hinj, hvb, hwd⟩ := id hX
  have hS : va_S (zA z0) s.heap s.heap [] := va_S.rf
  obtain ⟨hrm, h, her, hh⟩ := hrw w hw
  have hl12 := (hwd w hw).1
  have hl9 := (hwd w hw).2
  have loop : ∀ (n i : Nat), i + n = (wd w).length → ∀ ls : Array Slot, lv_has ls 7 [(0, .ref hx), (1, .long (enc c)), (3, .int (nI w)), (4, .long (enc (bhN c (wd w) i))), (6, .int (nI i))] → W p l e (rD (5) 0 0) s m args below meth c0 s.heap [] 0 0 (MQ below (RVQ (some (.long (enc (behind c (wd w)))))) args s 0 0 (fun _ => False)) (F0 m 6 ls []) := by
    intro n
    induction n with
    | zero =>
      intro i hc0 ls hl
      obtain rfl : i = (wd w).length := by omega
      refine lv_iload hC.1 hC.2.1 dX0_behindWord_6 (lv_at hl 4 rfl) ?_
      refine lv_aload_n hC.1 hC.2.1 dX0_behindWord_8 rfl (lv_at hl 0 rfl) ?_
      refine p_get (ref := "CornerCube") hC hE hP hmx hex rfl (by decide +kernel) 3 (by decide) (by decide +kernel) rfl rfl dX0_behindWord_9 ?_
      refine lv_iload_n hC.1 hC.2.1 dX0_behindWord_12 rfl (lv_at hl 2 rfl) ?_
      refine p_iald hC hE hP hml hel (by omega) (by decide) dX0_behindWord_13 ?_
      refine q_i (nI (wd w).length) (hNl _ (by omega)) ?_
      refine z_icmp_ge (tgt := 39) hC dX0_behindWord_14 (by decide) (by omega) (by omega) (fun h_14 => ?_) (fun h_14 => by omega)
      refine lv_lload hC.1 hC.2.1 dX0_behindWord_39 (lv_at hl 3 rfl) ?_
      exact RV.lret hC hr hlk dX0_behindWord_41 (rfl)
    | succ n ih =>
      intro i hc0 ls hl
      refine lv_iload hC.1 hC.2.1 dX0_behindWord_6 (lv_at hl 4 rfl) ?_
      refine lv_aload_n hC.1 hC.2.1 dX0_behindWord_8 rfl (lv_at hl 0 rfl) ?_
      refine p_get (ref := "CornerCube") hC hE hP hmx hex rfl (by decide +kernel) 3 (by decide) (by decide +kernel) rfl rfl dX0_behindWord_9 ?_
      refine lv_iload_n hC.1 hC.2.1 dX0_behindWord_12 rfl (lv_at hl 2 rfl) ?_
      refine p_iald hC hE hP hml hel (by omega) (by decide) dX0_behindWord_13 ?_
      refine q_i (nI (wd w).length) (hNl _ (by omega)) ?_
      refine z_icmp_ge (tgt := 39) hC dX0_behindWord_14 (by decide) (by omega) (by omega) (fun h_14 => by omega) (fun h_14 => ?_)
      refine lv_lload hC.1 hC.2.1 dX0_behindWord_17 (lv_at hl 3 rfl) ?_
      refine lv_aload_n hC.1 hC.2.1 dX0_behindWord_19 rfl (lv_at hl 0 rfl) ?_
      refine p_get (ref := "CornerCube") hC hE hP hmx hex rfl (by decide +kernel) 2 (by decide) (by decide +kernel) rfl rfl dX0_behindWord_20 ?_
      refine lv_iload_n hC.1 hC.2.1 dX0_behindWord_23 rfl (lv_at hl 2 rfl) ?_
      refine p_aald hC hE hP hmg heg (by omega) (by decide) (hG _ (by omega)) dX0_behindWord_24 ?_
      refine lv_iload hC.1 hC.2.1 dX0_behindWord_25 (lv_at hl 4 rfl) ?_
      refine p_iald hC hE hP hrm her (by omega) (by decide) dX0_behindWord_27 ?_
      refine q_i (nI ((wd w).getD i 0)) (hh _ (by omega)) ?_
      refine p_cs (n := 2) (k_turned l (bhN_Va hc _ i) (hl9 i (by omega))) hC gX0_behindWord_X0_turned rfl (by decide +kernel) rfl ⟨by decide, by decide⟩ ⟨Nat.zero_le _, Nat.zero_le _⟩ hl.1 (Nat.le_of_ble_eq_true rfl) dX0_behindWord_28 rfl ?_
      refine lv_lstore (lv' := [(4, .long (enc (bhN c (wd w) (i + 1)))), (0, .ref hx), (1, .long (enc c)), (3, .int (nI w)), (6, .int (nI i))]) hC.1 hC.2.1 dX0_behindWord_31 hl (by decide) rfl (fun ls hl => ?_)
      refine lv_iinc (v := nI (i + 1)) (lv' := [(6, .int (nI (i + 1))), (4, .long (enc (bhN c (wd w) (i + 1)))), (0, .ref hx), (1, .long (enc c)), (3, .int (nI w))]) hC.1 hC.2.1 dX0_behindWord_33 hl (k := 4) rfl (z_inc _) (by decide) rfl (fun ls hl => ?_)
      refine lv_goto (tgt := 6) hC.1 hC.2.1 dX0_behindWord_36 (by decide) ?_
      exact ih (i + 1) (by omega) ls (lv_sub hl [2, 3, 4, 1, 0] rfl)
  refine lv_lload_n hC.1 hC.2.1 dX0_behindWord_0 rfl (lv_at hl 1 rfl) ?_
  refine lv_lstore (lv' := [(4, .long (enc c)), (0, .ref hx), (1, .long (enc c)), (3, .int (nI w))]) hC.1 hC.2.1 dX0_behindWord_1 hl (by decide) rfl (fun ls hl => ?_)
  refine lv_iconst (v := (nI 0)) hC.1 hC.2.1 dX0_behindWord_3 (by decide) ?_
  refine lv_istore (lv' := [(6, .int (nI 0)), (4, .long (enc c)), (0, .ref hx), (1, .long (enc c)), (3, .int (nI w))]) hC.1 hC.2.1 dX0_behindWord_4 hl (by decide) rfl (fun ls hl => ?_)
  exact loop _ 0 (Nat.zero_add _) ls (lv_sub hl [2, 3, 4, 1, 0] rfl)

set_option maxHeartbeats 4000000 in
set_option maxRecDepth 100000 in
theorem k_deedOf (l : Launch) {D : va_G} {T : ClassId × ClassId × ClassId} {z0 : Nat} {L : List Nat} {f : Nat → va_E} {hx g ln : Nat} {rw : Nat → Nat} {b : Nat → Nat} {mk : Int32} {wd : Nat → List Nat} (hX : CX T L f hx g ln rw b mk wd) {w : Nat} (hw : w < 5) : RV l yX0_deedOf wsX0_deedOf (6) (zPre D T z0 L f) [.ref hx, .int (nI w)] (some (.long (enc (deed (wd w))))) := by
  refine RV.of (cc := cX0_deedOf) (maxL := 2) (ret := (some .long)) (by decide) rfl (Nat.le_of_ble_eq_true rfl) ?_
  intro p e s m args below meth c hC hr hlk hB ls hl
  have hl : lv_has ls 2 [(0, .ref hx), (1, .int (nI w))] := hl
  obtain ⟨hE, hP, hD⟩ := hB
  obtain ⟨⟨hmx, hex⟩, ⟨hmg, G, heg, hG⟩, ⟨hml, Nl, hel, hNl⟩, hrw, hinj, hvb, hwd⟩ := id hX
  have hS : va_S (zA z0) s.heap s.heap [] := va_S.rf
  refine lv_aload_n hC.1 hC.2.1 dX0_deedOf_0 rfl (lv_at hl 0 rfl) ?_
  refine lv_ldc2 (v := 506097522914230528) hC.1 hC.2.1 hC.2.2.2.1 (hC.2.2.2.2 (.constantLong RX0 9 (506097522914230528)) (by decide +kernel)) dX0_deedOf_1 ?_
  refine q_l (enc one) (enc_one) ?_
  refine lv_iload_n hC.1 hC.2.1 dX0_deedOf_4 rfl (lv_at hl 1 rfl) ?_
  refine p_cvB (n := 2) (k_behindWord l hX one_Va hw) hC hE hP hD hS (hmx) (hex) rfl gX0_deedOf_X0_behindWord rfl (by decide +kernel) rfl ⟨by decide, by decide⟩ ⟨Nat.zero_le _, Nat.zero_le _⟩ hl.1 (Nat.le_of_ble_eq_true rfl) dX0_deedOf_5 rfl ?_
  exact RV.lret hC hr hlk dX0_deedOf_8 (rfl)

theorem z_ge0 {x : Nat} (h : 0 < x) (hx : x < 2 ^ 31) : nI x - nI 1 = nI (x - 1) := pk_sub h
theorem m1_lt0 : ((0 : Int32) - 1) < 0 := by decide
theorem z_m1 (x : Int32) : x + Int32.ofInt (-1) = x - 1 := (Int32.sub_eq_add_neg x 1).symm
set_option maxHeartbeats 4000000 in
set_option maxRecDepth 100000 in
theorem k_behindWordRound (l : Launch) {D : va_G} {T : ClassId × ClassId × ClassId} {z0 : Nat} {L : List Nat} {f : Nat → va_E} {hx g ln : Nat} {rw : Nat → Nat} {b : Nat → Nat} {mk : Int32} {wd : Nat → List Nat} (hX : CX T L f hx g ln rw b mk wd) {c : Nat → Nat} (hc : Va c) {w : Nat} (hw : w < 5) : RV l yX0_behindWordRound wsX0_behindWordRound (5) (zPre D T z0 L f) [.ref hx, .long (enc c), .int (nI w)] (some (.long (enc (behindR c (wd w))))) := by
  refine RV.of (cc := cX0_behindWordRound) (maxL := 7) (ret := (some .long)) (by decide) rfl (Nat.le_of_ble_eq_true rfl) ?_
  intro p e s m args below meth c0 hC hr hlk hB ls hl
  have hl : lv_has ls 7 [(0, .ref hx), (1, .long (enc c)), (3, .int (nI w))] := hl
  obtain ⟨hE, hP, hD⟩ := hB
  obtain ⟨⟨hmx, hex⟩, ⟨hmg, G, heg, hG⟩, ⟨hml, Nl, hel, hNl⟩, hrw, hinj, hvb, hwd⟩ := id hX
  have hS : va_S (zA z0) s.heap s.heap [] := va_S.rf
  obtain ⟨hrm, h, her, hh⟩ := hrw w hw
  have hl12 := (hwd w hw).1
  have hl9 := (hwd w hw).2
  have loop : ∀ (n k : Nat), k + n = (wd w).length → ∀ ls : Array Slot, lv_has ls 7 [(0, .ref hx), (1, .long (enc c)), (3, .int (nI w)), (4, .long (enc (brN c (wd w) k))), (6, .int (nI ((wd w).length - k) - 1))] → W p l e (rD (5) 0 0) s m args below meth c0 s.heap [] 0 0 (MQ below (RVQ (some (.long (enc (behindR c (wd w)))))) args s 0 0 (fun _ => False)) (F0 m 13 ls []) := by
    intro n
    induction n with
    | zero =>
      intro k hc0 ls hl
      obtain rfl : k = (wd w).length := by omega
      have hk0 : nI ((wd w).length - (wd w).length) - 1 < (0 : Int32) := by rw [Nat.sub_self]; decide
      refine lv_iload hC.1 hC.2.1 dX0_behindWordRound_13 (lv_at hl 4 rfl) ?_
      refine lv_if_lt (tgt := 43) hC.1 hC.2.1 dX0_behindWordRound_15 (by decide) (fun h_15 => ?_) (fun h_15 => absurd hk0 h_15)
      refine lv_lload hC.1 hC.2.1 dX0_behindWordRound_43 (lv_at hl 3 rfl) ?_
      exact RV.lret hC hr hlk dX0_behindWordRound_45 (rfl)
    | succ n ih =>
      intro k hc0 ls hl
      have hk1 : nI ((wd w).length - k) - 1 = nI ((wd w).length - 1 - k) := (pk_sub (by omega : 1 ≤ (wd w).length - k)).trans (by rw [show (wd w).length - k - 1 = (wd w).length - 1 - k from by omega])
      rw [hk1] at hl
      refine lv_iload hC.1 hC.2.1 dX0_behindWordRound_13 (lv_at hl 4 rfl) ?_
      refine z_if_lt (tgt := 43) hC dX0_behindWordRound_15 (by decide) (by omega) ?_
      refine lv_lload hC.1 hC.2.1 dX0_behindWordRound_18 (lv_at hl 3 rfl) ?_
      refine lv_aload_n hC.1 hC.2.1 dX0_behindWordRound_20 rfl (lv_at hl 0 rfl) ?_
      refine p_get (ref := "CornerCube") hC hE hP hmx hex rfl (by decide +kernel) 2 (by decide) (by decide +kernel) rfl rfl dX0_behindWordRound_21 ?_
      refine lv_iload_n hC.1 hC.2.1 dX0_behindWordRound_24 rfl (lv_at hl 2 rfl) ?_
      refine p_aald hC hE hP hmg heg (by omega) (by decide) (hG _ (by omega)) dX0_behindWordRound_25 ?_
      refine lv_iload hC.1 hC.2.1 dX0_behindWordRound_26 (lv_at hl 4 rfl) ?_
      refine p_iald hC hE hP hrm her (by omega) (by decide) dX0_behindWordRound_28 ?_
      refine q_i (nI ((wd w).getD ((wd w).length - 1 - k) 0)) (hh _ (by omega)) ?_
      refine p_cs (n := 1) (k_turnedBack l (hl9 _ (by omega))) hC gX0_behindWordRound_X0_turnedBack rfl (by decide +kernel) rfl ⟨by decide, by decide⟩ ⟨Nat.zero_le _, Nat.zero_le _⟩ hl.1 (Nat.le_of_ble_eq_true rfl) dX0_behindWordRound_29 rfl ?_
      refine p_cs (n := 2) (k_turned l (brN_Va hc _ k) (tb_lt (hl9 _ (by omega)))) hC gX0_behindWordRound_X0_turned rfl (by decide +kernel) rfl ⟨by decide, by decide⟩ ⟨Nat.zero_le _, Nat.zero_le _⟩ hl.1 (Nat.le_of_ble_eq_true rfl) dX0_behindWordRound_32 rfl ?_
      refine lv_lstore (lv' := [(4, .long (enc (brN c (wd w) (k + 1)))), (0, .ref hx), (1, .long (enc c)), (3, .int (nI w)), (6, .int (nI ((wd w).length - 1 - k)))]) hC.1 hC.2.1 dX0_behindWordRound_35 hl (by decide) rfl (fun ls hl => ?_)
      refine lv_iinc (v := nI ((wd w).length - (k + 1)) - 1) (lv' := [(6, .int (nI ((wd w).length - (k + 1)) - 1)), (4, .long (enc (brN c (wd w) (k + 1)))), (0, .ref hx), (1, .long (enc c)), (3, .int (nI w))]) hC.1 hC.2.1 dX0_behindWordRound_37 hl (k := 4) rfl (by rw [z_m1, show (wd w).length - (k + 1) = (wd w).length - 1 - k from by omega]) (by decide) rfl (fun ls hl => ?_)
      refine lv_goto (tgt := 13) hC.1 hC.2.1 dX0_behindWordRound_40 (by decide) ?_
      exact ih (k + 1) (by omega) ls (lv_sub hl [2, 3, 4, 1, 0] rfl)
  refine lv_lload_n hC.1 hC.2.1 dX0_behindWordRound_0 rfl (lv_at hl 1 rfl) ?_
  refine lv_lstore (lv' := [(4, .long (enc c)), (0, .ref hx), (1, .long (enc c)), (3, .int (nI w))]) hC.1 hC.2.1 dX0_behindWordRound_1 hl (by decide) rfl (fun ls hl => ?_)
  refine lv_aload_n hC.1 hC.2.1 dX0_behindWordRound_3 rfl (lv_at hl 1 rfl) ?_
  refine p_get (ref := "CornerCube") hC hE hP hmx hex rfl (by decide +kernel) 3 (by decide) (by decide +kernel) rfl rfl dX0_behindWordRound_4 ?_
  refine lv_iload_n hC.1 hC.2.1 dX0_behindWordRound_7 rfl (lv_at hl 3 rfl) ?_
  refine p_iald hC hE hP hml hel (by omega) (by decide) dX0_behindWordRound_8 ?_
  refine q_i (nI (wd w).length) (hNl _ (by omega)) ?_
  refine lv_iconst (v := (nI 1)) hC.1 hC.2.1 dX0_behindWordRound_9 (by decide) ?_
  refine lv_isub hC.1 hC.2.1 dX0_behindWordRound_10 ?_
  refine lv_istore (lv' := [(6, .int ((nI (wd w).length) - (nI 1))), (4, .long (enc c)), (0, .ref hx), (1, .long (enc c)), (3, .int (nI w))]) hC.1 hC.2.1 dX0_behindWordRound_11 hl (by decide) rfl (fun ls hl => ?_)
  exact loop _ 0 (Nat.zero_add _) ls (lv_sub hl [2, 3, 4, 1, 0] rfl)

set_option maxHeartbeats 4000000 in
set_option maxRecDepth 100000 in
theorem k_allTurns (l : Launch) {D : va_G} {T : ClassId × ClassId × ClassId} {z0 : Nat} {L : List Nat} {f : Nat → va_E} {hx g ln : Nat} {rw : Nat → Nat} {b : Nat → Nat} {mk : Int32} {wd : Nat → List Nat} (hX : CX T L f hx g ln rw b mk wd)  : RV l yX0_turnsOfAllWords wsX0_turnsOfAllWords (1) (zPre D T z0 L f) [.ref hx] (some (.int (nI (tot wd 5)))) := by
  refine RV.of (cc := cX0_turnsOfAllWords) (maxL := 3) (ret := (some .int)) (by decide) rfl (Nat.le_of_ble_eq_true rfl) ?_
  intro p e s m args below meth c hC hr hlk hB ls hl
  have hl : lv_has ls 3 [(0, .ref hx)] := hl
  obtain ⟨hE, hP, hD⟩ := hB
  obtain ⟨⟨hmx, hex⟩, ⟨hmg, G, heg, hG⟩, ⟨hml, Nl, hel, hNl⟩, hrw, hinj, hvb, hwd⟩ := id hX
  have hS : va_S (zA z0) s.heap s.heap [] := va_S.rf
  have loop : ∀ (n i : Nat), i + n = 5 → ∀ ls : Array Slot, lv_has ls 3 [(0, .ref hx), (1, .int (nI (tot wd i))), (2, .int (nI i))] → W p l e (rD (1) 0 0) s m args below meth c s.heap [] 0 0 (MQ below (RVQ (some (.int (nI (tot wd 5))))) args s 0 0 (fun _ => False)) (F0 m 4 ls []) := by
    intro n
    induction n with
    | zero =>
      intro i hc0 ls hl
      obtain rfl : i = 5 := by omega
      refine lv_iload_n hC.1 hC.2.1 dX0_turnsOfAllWords_4 rfl (lv_at hl 2 rfl) ?_
      refine lv_iconst (v := (nI 5)) hC.1 hC.2.1 dX0_turnsOfAllWords_5 (by decide) ?_
      refine z_icmp_ge (tgt := 24) hC dX0_turnsOfAllWords_6 (by decide) (by omega) (by omega) (fun h_6 => ?_) (fun h_6 => by omega)
      refine lv_iload_n hC.1 hC.2.1 dX0_turnsOfAllWords_24 rfl (lv_at hl 1 rfl) ?_
      exact RV.iret hC hr hlk dX0_turnsOfAllWords_25 (rfl)
    | succ n ih =>
      intro i hc0 ls hl
      refine lv_iload_n hC.1 hC.2.1 dX0_turnsOfAllWords_4 rfl (lv_at hl 2 rfl) ?_
      refine lv_iconst (v := (nI 5)) hC.1 hC.2.1 dX0_turnsOfAllWords_5 (by decide) ?_
      refine z_icmp_ge (tgt := 24) hC dX0_turnsOfAllWords_6 (by decide) (by omega) (by omega) (fun h_6 => by omega) (fun h_6 => ?_)
      refine lv_iload_n hC.1 hC.2.1 dX0_turnsOfAllWords_9 rfl (lv_at hl 1 rfl) ?_
      refine lv_aload_n hC.1 hC.2.1 dX0_turnsOfAllWords_10 rfl (lv_at hl 0 rfl) ?_
      refine p_get (ref := "CornerCube") hC hE hP hmx hex rfl (by decide +kernel) 3 (by decide) (by decide +kernel) rfl rfl dX0_turnsOfAllWords_11 ?_
      refine lv_iload_n hC.1 hC.2.1 dX0_turnsOfAllWords_14 rfl (lv_at hl 2 rfl) ?_
      refine p_iald hC hE hP hml hel (by omega) (by decide) dX0_turnsOfAllWords_15 ?_
      refine q_i (nI (wd i).length) (hNl _ (by omega)) ?_
      refine z_iadd hC dX0_turnsOfAllWords_16 ?_
      refine lv_istore_n (lv' := [(1, .int (nI ((tot wd i) + (wd i).length))), (0, .ref hx), (2, .int (nI i))]) hC.1 hC.2.1 dX0_turnsOfAllWords_17 rfl hl (by decide) rfl (fun ls hl => ?_)
      refine lv_iinc (v := nI (i + 1)) (lv' := [(2, .int (nI (i + 1))), (1, .int (nI ((tot wd i) + (wd i).length))), (0, .ref hx)]) hC.1 hC.2.1 dX0_turnsOfAllWords_18 hl (k := 2) rfl (z_inc _) (by decide) rfl (fun ls hl => ?_)
      refine lv_goto (tgt := 4) hC.1 hC.2.1 dX0_turnsOfAllWords_21 (by decide) ?_
      exact ih (i + 1) (by omega) ls (lv_sub hl [2, 1, 0] rfl)
  refine lv_iconst (v := (nI 0)) hC.1 hC.2.1 dX0_turnsOfAllWords_0 (by decide) ?_
  refine lv_istore_n (lv' := [(1, .int (nI 0)), (0, .ref hx)]) hC.1 hC.2.1 dX0_turnsOfAllWords_1 rfl hl (by decide) rfl (fun ls hl => ?_)
  refine lv_iconst (v := (nI 0)) hC.1 hC.2.1 dX0_turnsOfAllWords_2 (by decide) ?_
  refine lv_istore_n (lv' := [(2, .int (nI 0)), (1, .int (nI 0)), (0, .ref hx)]) hC.1 hC.2.1 dX0_turnsOfAllWords_3 rfl hl (by decide) rfl (fun ls hl => ?_)
  exact loop 5 0 rfl ls (lv_sub hl [2, 1, 0] rfl)

set_option maxHeartbeats 4000000 in
set_option maxRecDepth 100000 in
theorem k_told (l : Launch) {D : va_G} {T : ClassId × ClassId × ClassId} {z0 : Nat} {L : List Nat} {f : Nat → va_E} {hx g ln : Nat} {rw : Nat → Nat} {b : Nat → Nat} {mk : Int32} {wd : Nat → List Nat} (hX : CX T L f hx g ln rw b mk wd) {q what : Nat} (hq : q < 8) (hw : what < 3) : RV l yX0_told wsX0_told (5) (zPre D T z0 L f) [.ref hx, .int (nI q), .int (nI what)] (some (.int (nI (tV b q what)))) := by
  refine RV.of (cc := cX0_told) (maxL := 3) (ret := (some .int)) (by decide) rfl (Nat.le_of_ble_eq_true rfl) ?_
  intro p e s m args below meth c hC hr hlk hB ls hl
  have hl : lv_has ls 3 [(0, .ref hx), (1, .int (nI q)), (2, .int (nI what))] := hl
  obtain ⟨hE, hP, hD⟩ := hB
  obtain ⟨⟨hmx, hex⟩, ⟨hmg, G, heg, hG⟩, ⟨hml, Nl, hel, hNl⟩, hrw, hinj, hvb, hwd⟩ := id hX
  have hS : va_S (zA z0) s.heap s.heap [] := va_S.rf
  rcases (by omega : what = 0 ∨ what = 1 ∨ what = 2) with rfl | rfl | rfl
  · refine lv_iload_n hC.1 hC.2.1 dX0_told_0 rfl (lv_at hl 1 rfl) ?_
    refine p_cs (n := 1) (k_checkPlace l hq) hC gX0_told_X0_checkPlace rfl (by decide +kernel) rfl ⟨by decide, by decide⟩ ⟨Nat.zero_le _, Nat.zero_le _⟩ hl.1 (Nat.le_of_ble_eq_true rfl) dX0_told_1 rfl ?_
    refine lv_iload_n hC.1 hC.2.1 dX0_told_4 rfl (lv_at hl 2 rfl) ?_
    refine lv_iconst (v := (nI 3)) hC.1 hC.2.1 dX0_told_5 (by decide) ?_
    refine p_cs (n := 2) (k_checkWhat l (by decide) (by decide)) hC gX0_told_X0_checkWhat rfl (by decide +kernel) rfl ⟨by decide, by decide⟩ ⟨Nat.zero_le _, Nat.zero_le _⟩ hl.1 (Nat.le_of_ble_eq_true rfl) dX0_told_6 rfl ?_
    refine lv_iload_n hC.1 hC.2.1 dX0_told_9 rfl (lv_at hl 2 rfl) ?_
    refine z_if_ne (tgt := 22) hC dX0_told_10 (by decide) (by omega) (fun h_10 => by omega) (fun h_10 => ?_)
    refine lv_aload_n hC.1 hC.2.1 dX0_told_13 rfl (lv_at hl 0 rfl) ?_
    refine p_get (ref := "CornerCube") hC hE hP hmx hex rfl (by decide +kernel) 0 (by decide) (by decide +kernel) rfl rfl dX0_told_14 ?_
    refine lv_iload_n hC.1 hC.2.1 dX0_told_17 rfl (lv_at hl 1 rfl) ?_
    refine p_cs (n := 2) (k_cornerAt l hvb hq) hC gX0_told_X0_cornerAt rfl (by decide +kernel) rfl ⟨by decide, by decide⟩ ⟨Nat.zero_le _, Nat.zero_le _⟩ hl.1 (Nat.le_of_ble_eq_true rfl) dX0_told_18 rfl ?_
    exact RV.iret hC hr hlk dX0_told_21 (rfl)
  · refine lv_iload_n hC.1 hC.2.1 dX0_told_0 rfl (lv_at hl 1 rfl) ?_
    refine p_cs (n := 1) (k_checkPlace l hq) hC gX0_told_X0_checkPlace rfl (by decide +kernel) rfl ⟨by decide, by decide⟩ ⟨Nat.zero_le _, Nat.zero_le _⟩ hl.1 (Nat.le_of_ble_eq_true rfl) dX0_told_1 rfl ?_
    refine lv_iload_n hC.1 hC.2.1 dX0_told_4 rfl (lv_at hl 2 rfl) ?_
    refine lv_iconst (v := (nI 3)) hC.1 hC.2.1 dX0_told_5 (by decide) ?_
    refine p_cs (n := 2) (k_checkWhat l (by decide) (by decide)) hC gX0_told_X0_checkWhat rfl (by decide +kernel) rfl ⟨by decide, by decide⟩ ⟨Nat.zero_le _, Nat.zero_le _⟩ hl.1 (Nat.le_of_ble_eq_true rfl) dX0_told_6 rfl ?_
    refine lv_iload_n hC.1 hC.2.1 dX0_told_9 rfl (lv_at hl 2 rfl) ?_
    refine z_if_ne (tgt := 22) hC dX0_told_10 (by decide) (by omega) (fun h_10 => ?_) (fun h_10 => by omega)
    refine lv_iload_n hC.1 hC.2.1 dX0_told_22 rfl (lv_at hl 2 rfl) ?_
    refine lv_iconst (v := (nI 1)) hC.1 hC.2.1 dX0_told_23 (by decide) ?_
    refine z_icmp_ne (tgt := 36) hC dX0_told_24 (by decide) (by omega) (by omega) (fun h_24 => by omega) (fun h_24 => ?_)
    refine lv_aload_n hC.1 hC.2.1 dX0_told_27 rfl (lv_at hl 0 rfl) ?_
    refine p_get (ref := "CornerCube") hC hE hP hmx hex rfl (by decide +kernel) 0 (by decide) (by decide +kernel) rfl rfl dX0_told_28 ?_
    refine lv_iload_n hC.1 hC.2.1 dX0_told_31 rfl (lv_at hl 1 rfl) ?_
    refine p_cs (n := 2) (k_twistAt l hvb hq) hC gX0_told_X0_twistAt rfl (by decide +kernel) rfl ⟨by decide, by decide⟩ ⟨Nat.zero_le _, Nat.zero_le _⟩ hl.1 (Nat.le_of_ble_eq_true rfl) dX0_told_32 rfl ?_
    exact RV.iret hC hr hlk dX0_told_35 (rfl)
  · refine lv_iload_n hC.1 hC.2.1 dX0_told_0 rfl (lv_at hl 1 rfl) ?_
    refine p_cs (n := 1) (k_checkPlace l hq) hC gX0_told_X0_checkPlace rfl (by decide +kernel) rfl ⟨by decide, by decide⟩ ⟨Nat.zero_le _, Nat.zero_le _⟩ hl.1 (Nat.le_of_ble_eq_true rfl) dX0_told_1 rfl ?_
    refine lv_iload_n hC.1 hC.2.1 dX0_told_4 rfl (lv_at hl 2 rfl) ?_
    refine lv_iconst (v := (nI 3)) hC.1 hC.2.1 dX0_told_5 (by decide) ?_
    refine p_cs (n := 2) (k_checkWhat l (by decide) (by decide)) hC gX0_told_X0_checkWhat rfl (by decide +kernel) rfl ⟨by decide, by decide⟩ ⟨Nat.zero_le _, Nat.zero_le _⟩ hl.1 (Nat.le_of_ble_eq_true rfl) dX0_told_6 rfl ?_
    refine lv_iload_n hC.1 hC.2.1 dX0_told_9 rfl (lv_at hl 2 rfl) ?_
    refine z_if_ne (tgt := 22) hC dX0_told_10 (by decide) (by omega) (fun h_10 => ?_) (fun h_10 => by omega)
    refine lv_iload_n hC.1 hC.2.1 dX0_told_22 rfl (lv_at hl 2 rfl) ?_
    refine lv_iconst (v := (nI 1)) hC.1 hC.2.1 dX0_told_23 (by decide) ?_
    refine z_icmp_ne (tgt := 36) hC dX0_told_24 (by decide) (by omega) (by omega) (fun h_24 => ?_) (fun h_24 => by omega)
    refine lv_aload_n hC.1 hC.2.1 dX0_told_36 rfl (lv_at hl 0 rfl) ?_
    refine p_get (ref := "CornerCube") hC hE hP hmx hex rfl (by decide +kernel) 0 (by decide) (by decide +kernel) rfl rfl dX0_told_37 ?_
    refine lv_iload_n hC.1 hC.2.1 dX0_told_40 rfl (lv_at hl 1 rfl) ?_
    refine p_cs (n := 2) (k_isRight l hvb hq) hC gX0_told_X0_isRight rfl (by decide +kernel) rfl ⟨by decide, by decide⟩ ⟨Nat.zero_le _, Nat.zero_le _⟩ hl.1 (Nat.le_of_ble_eq_true rfl) dX0_told_41 rfl ?_
    refine z_if_eq (tgt := 51) hC dX0_told_44 (by decide) (ite_bd) (fun h_44 => ?_) (fun h_44 => ?_)
    · refine lv_iconst (v := (nI 0)) hC.1 hC.2.1 dX0_told_51 (by decide) ?_
      exact RV.iret hC hr hlk dX0_told_52 (by show nI 0 = nI (if b q = q then 1 else 0); rw [h_44])
    · refine lv_iconst (v := (nI 1)) hC.1 hC.2.1 dX0_told_47 (by decide) ?_
      refine lv_goto (tgt := 52) hC.1 hC.2.1 dX0_told_48 (by decide) ?_
      exact RV.iret hC hr hlk dX0_told_52 (by show nI 1 = nI (if b q = q then 1 else 0); rw [if_pos (Classical.byContradiction fun e => h_44 (if_neg e))])

set_option maxHeartbeats 4000000 in
set_option maxRecDepth 100000 in
theorem k_where (l : Launch) {D : va_G} {T : ClassId × ClassId × ClassId} {z0 : Nat} {L : List Nat} {f : Nat → va_E} {hx g ln : Nat} {rw : Nat → Nat} {b : Nat → Nat} {mk : Int32} {wd : Nat → List Nat} (hX : CX T L f hx g ln rw b mk wd) {v F : Nat} (hv8 : v < 8) (hF : F ≤ 7) (h1 : ∀ k, k < F → ¬ b k % 8 = v) (h2 : F = 7 ∨ b F % 8 = v) : RV l yX0_where wsX0_where (5) (zPre D T z0 L f) [.ref hx, .int (nI v)] (some (.int (nI F))) := by
  refine RV.of (cc := cX0_where) (maxL := 3) (ret := (some .int)) (by decide) rfl (Nat.le_of_ble_eq_true rfl) ?_
  intro p e s m args below meth c hC hr hlk hB ls hl
  have hl : lv_has ls 3 [(0, .ref hx), (1, .int (nI v))] := hl
  obtain ⟨hE, hP, hD⟩ := hB
  obtain ⟨⟨hmx, hex⟩, ⟨hmg, G, heg, hG⟩, ⟨hml, Nl, hel, hNl⟩, hrw, hinj, hvb, hwd⟩ := id hX
  have hS : va_S (zA z0) s.heap s.heap [] := va_S.rf
  have loop : ∀ (n k : Nat), k + n = F → ∀ ls : Array Slot, lv_has ls 3 [(0, .ref hx), (1, .int (nI v)), (2, .int (nI k))] → W p l e (rD (5) 0 0) s m args below meth c s.heap [] 0 0 (MQ below (RVQ (some (.int (nI F)))) args s 0 0 (fun _ => False)) (F0 m 22 ls []) := by
    intro n
    induction n with
    | zero =>
      intro k hc0 ls hl
      obtain rfl : k = F := by omega
      refine lv_iload_n hC.1 hC.2.1 dX0_where_22 rfl (lv_at hl 2 rfl) ?_
      refine lv_bipush (v := (nI 7)) hC.1 hC.2.1 dX0_where_23 (by decide) ?_
      refine z_icmp_ge (tgt := 46) hC dX0_where_25 (by decide) (by omega) (by omega) (fun h_25 => ?_) (fun h_25 => ?_)
      · refine lv_iload_n hC.1 hC.2.1 dX0_where_46 rfl (lv_at hl 2 rfl) ?_
        exact RV.iret hC hr hlk dX0_where_47 (rfl)
      · refine lv_aload_n hC.1 hC.2.1 dX0_where_28 rfl (lv_at hl 0 rfl) ?_
        refine p_get (ref := "CornerCube") hC hE hP hmx hex rfl (by decide +kernel) 0 (by decide) (by decide +kernel) rfl rfl dX0_where_29 ?_
        refine lv_iload_n hC.1 hC.2.1 dX0_where_32 rfl (lv_at hl 2 rfl) ?_
        refine p_cs (n := 2) (k_cornerAt l hvb (by omega)) hC gX0_where_X0_cornerAt rfl (by decide +kernel) rfl ⟨by decide, by decide⟩ ⟨Nat.zero_le _, Nat.zero_le _⟩ hl.1 (Nat.le_of_ble_eq_true rfl) dX0_where_33 rfl ?_
        refine lv_iload_n hC.1 hC.2.1 dX0_where_36 rfl (lv_at hl 1 rfl) ?_
        refine z_icmp_eq (tgt := 46) hC dX0_where_37 (by decide) (by omega) (by omega) (fun h_37 => ?_) (fun h_37 => by omega)
        refine lv_iload_n hC.1 hC.2.1 dX0_where_46 rfl (lv_at hl 2 rfl) ?_
        exact RV.iret hC hr hlk dX0_where_47 (rfl)
    | succ n ih =>
      intro k hc0 ls hl
      refine lv_iload_n hC.1 hC.2.1 dX0_where_22 rfl (lv_at hl 2 rfl) ?_
      refine lv_bipush (v := (nI 7)) hC.1 hC.2.1 dX0_where_23 (by decide) ?_
      refine z_icmp_ge (tgt := 46) hC dX0_where_25 (by decide) (by omega) (by omega) (fun h_25 => by omega) (fun h_25 => ?_)
      refine lv_aload_n hC.1 hC.2.1 dX0_where_28 rfl (lv_at hl 0 rfl) ?_
      refine p_get (ref := "CornerCube") hC hE hP hmx hex rfl (by decide +kernel) 0 (by decide) (by decide +kernel) rfl rfl dX0_where_29 ?_
      refine lv_iload_n hC.1 hC.2.1 dX0_where_32 rfl (lv_at hl 2 rfl) ?_
      refine p_cs (n := 2) (k_cornerAt l hvb (by omega)) hC gX0_where_X0_cornerAt rfl (by decide +kernel) rfl ⟨by decide, by decide⟩ ⟨Nat.zero_le _, Nat.zero_le _⟩ hl.1 (Nat.le_of_ble_eq_true rfl) dX0_where_33 rfl ?_
      refine lv_iload_n hC.1 hC.2.1 dX0_where_36 rfl (lv_at hl 1 rfl) ?_
      refine z_icmp_eq (tgt := 46) hC dX0_where_37 (by decide) (by omega) (by omega) (fun h_37 => absurd h_37 (h1 k (by omega))) (fun h_37 => ?_)
      refine lv_iinc (v := nI (k + 1)) (lv' := [(2, .int (nI (k + 1))), (0, .ref hx), (1, .int (nI v))]) hC.1 hC.2.1 dX0_where_40 hl (k := 2) rfl (z_inc _) (by decide) rfl (fun ls hl => ?_)
      refine lv_goto (tgt := 22) hC.1 hC.2.1 dX0_where_43 (by decide) ?_
      exact ih (k + 1) (by omega) ls (lv_sub hl [1, 2, 0] rfl)
  refine lv_iload_n hC.1 hC.2.1 dX0_where_0 rfl (lv_at hl 1 rfl) ?_
  refine z_if_lt (tgt := 10) hC dX0_where_1 (by decide) (by omega) ?_
  refine lv_iload_n hC.1 hC.2.1 dX0_where_4 rfl (lv_at hl 1 rfl) ?_
  refine lv_bipush (v := (nI 8)) hC.1 hC.2.1 dX0_where_5 (by decide) ?_
  refine z_icmp_lt (tgt := 20) hC dX0_where_7 (by decide) (by omega) (by omega) (fun h_7 => ?_) (fun h_7 => by omega)
  refine lv_iconst (v := (nI 0)) hC.1 hC.2.1 dX0_where_20 (by decide) ?_
  refine lv_istore_n (lv' := [(2, .int (nI 0)), (0, .ref hx), (1, .int (nI v))]) hC.1 hC.2.1 dX0_where_21 rfl hl (by decide) rfl (fun ls hl => ?_)
  exact loop F 0 (Nat.zero_add _) ls (lv_sub hl [1, 2, 0] rfl)

set_option maxHeartbeats 4000000 in
set_option maxRecDepth 100000 in
theorem k_count (l : Launch) {D : va_G} {T : ClassId × ClassId × ClassId} {z0 : Nat} {L : List Nat} {f : Nat → va_E} {hx g ln : Nat} {rw : Nat → Nat} {b : Nat → Nat} {mk : Int32} {wd : Nat → List Nat} (hX : CX T L f hx g ln rw b mk wd) (hOb : ordN b < 1000) {what : Nat} (hw : what < 7) : RV l yX0_count wsX0_count (5) (zPre D T z0 L f) [.ref hx, .int (nI what)] (some (.int (cV b mk wd what))) := by
  refine RV.of (cc := cX0_count) (maxL := 2) (ret := (some .int)) (by decide) rfl (Nat.le_of_ble_eq_true rfl) ?_
  intro p e s m args below meth c hC hr hlk hB ls hl
  have hl : lv_has ls 2 [(0, .ref hx), (1, .int (nI what))] := hl
  obtain ⟨hE, hP, hD⟩ := hB
  obtain ⟨⟨hmx, hex⟩, ⟨hmg, G, heg, hG⟩, ⟨hml, Nl, hel, hNl⟩, hrw, hinj, hvb, hwd⟩ := id hX
  have hS : va_S (zA z0) s.heap s.heap [] := va_S.rf
  rcases (by omega : what = 0 ∨ what = 1 ∨ what = 2 ∨ what = 3 ∨ what = 4 ∨ what = 5 ∨ what = 6) with rfl | rfl | rfl | rfl | rfl | rfl | rfl
  · refine lv_iload_n hC.1 hC.2.1 dX0_count_0 rfl (lv_at hl 1 rfl) ?_
    refine lv_bipush (v := (nI 7)) hC.1 hC.2.1 dX0_count_1 (by decide) ?_
    refine p_cs (n := 2) (k_checkWhat l (by decide) (by decide)) hC gX0_count_X0_checkWhat rfl (by decide +kernel) rfl ⟨by decide, by decide⟩ ⟨Nat.zero_le _, Nat.zero_le _⟩ hl.1 (Nat.le_of_ble_eq_true rfl) dX0_count_3 rfl ?_
    refine lv_iload_n hC.1 hC.2.1 dX0_count_6 rfl (lv_at hl 1 rfl) ?_
    refine lv_tableIn (off := 37) (tgt := 44) hC.1 hC.2.1 dX0_count_7 (by decide) (by decide) (by decide) (by decide) ?_
    refine lv_aload_n hC.1 hC.2.1 dX0_count_44 rfl (lv_at hl 0 rfl) ?_
    refine p_get (ref := "CornerCube") hC hE hP hmx hex rfl (by decide +kernel) 1 (by decide) (by decide +kernel) rfl rfl dX0_count_45 ?_
    exact RV.iret hC hr hlk dX0_count_48 (rfl)
  · refine lv_iload_n hC.1 hC.2.1 dX0_count_0 rfl (lv_at hl 1 rfl) ?_
    refine lv_bipush (v := (nI 7)) hC.1 hC.2.1 dX0_count_1 (by decide) ?_
    refine p_cs (n := 2) (k_checkWhat l (by decide) (by decide)) hC gX0_count_X0_checkWhat rfl (by decide +kernel) rfl ⟨by decide, by decide⟩ ⟨Nat.zero_le _, Nat.zero_le _⟩ hl.1 (Nat.le_of_ble_eq_true rfl) dX0_count_3 rfl ?_
    refine lv_iload_n hC.1 hC.2.1 dX0_count_6 rfl (lv_at hl 1 rfl) ?_
    refine lv_tableIn (off := 42) (tgt := 49) hC.1 hC.2.1 dX0_count_7 (by decide) (by decide) (by decide) (by decide) ?_
    refine lv_aload_n hC.1 hC.2.1 dX0_count_49 rfl (lv_at hl 0 rfl) ?_
    refine p_get (ref := "CornerCube") hC hE hP hmx hex rfl (by decide +kernel) 0 (by decide) (by decide +kernel) rfl rfl dX0_count_50 ?_
    refine p_cs (n := 1) (k_rightCorners l hvb) hC gX0_count_X0_rightCorners rfl (by decide +kernel) rfl ⟨by decide, by decide⟩ ⟨Nat.zero_le _, Nat.zero_le _⟩ hl.1 (Nat.le_of_ble_eq_true rfl) dX0_count_53 rfl ?_
    exact RV.iret hC hr hlk dX0_count_56 (rfl)
  · refine lv_iload_n hC.1 hC.2.1 dX0_count_0 rfl (lv_at hl 1 rfl) ?_
    refine lv_bipush (v := (nI 7)) hC.1 hC.2.1 dX0_count_1 (by decide) ?_
    refine p_cs (n := 2) (k_checkWhat l (by decide) (by decide)) hC gX0_count_X0_checkWhat rfl (by decide +kernel) rfl ⟨by decide, by decide⟩ ⟨Nat.zero_le _, Nat.zero_le _⟩ hl.1 (Nat.le_of_ble_eq_true rfl) dX0_count_3 rfl ?_
    refine lv_iload_n hC.1 hC.2.1 dX0_count_6 rfl (lv_at hl 1 rfl) ?_
    refine lv_tableIn (off := 50) (tgt := 57) hC.1 hC.2.1 dX0_count_7 (by decide) (by decide) (by decide) (by decide) ?_
    refine lv_aload_n hC.1 hC.2.1 dX0_count_57 rfl (lv_at hl 0 rfl) ?_
    refine p_get (ref := "CornerCube") hC hE hP hmx hex rfl (by decide +kernel) 0 (by decide) (by decide +kernel) rfl rfl dX0_count_58 ?_
    refine p_cs (n := 1) (k_placedCorners l hvb) hC gX0_count_X0_placedCorners rfl (by decide +kernel) rfl ⟨by decide, by decide⟩ ⟨Nat.zero_le _, Nat.zero_le _⟩ hl.1 (Nat.le_of_ble_eq_true rfl) dX0_count_61 rfl ?_
    exact RV.iret hC hr hlk dX0_count_64 (rfl)
  · refine lv_iload_n hC.1 hC.2.1 dX0_count_0 rfl (lv_at hl 1 rfl) ?_
    refine lv_bipush (v := (nI 7)) hC.1 hC.2.1 dX0_count_1 (by decide) ?_
    refine p_cs (n := 2) (k_checkWhat l (by decide) (by decide)) hC gX0_count_X0_checkWhat rfl (by decide +kernel) rfl ⟨by decide, by decide⟩ ⟨Nat.zero_le _, Nat.zero_le _⟩ hl.1 (Nat.le_of_ble_eq_true rfl) dX0_count_3 rfl ?_
    refine lv_iload_n hC.1 hC.2.1 dX0_count_6 rfl (lv_at hl 1 rfl) ?_
    refine lv_tableIn (off := 58) (tgt := 65) hC.1 hC.2.1 dX0_count_7 (by decide) (by decide) (by decide) (by decide) ?_
    refine lv_aload_n hC.1 hC.2.1 dX0_count_65 rfl (lv_at hl 0 rfl) ?_
    refine p_get (ref := "CornerCube") hC hE hP hmx hex rfl (by decide +kernel) 0 (by decide) (by decide +kernel) rfl rfl dX0_count_66 ?_
    refine p_cs (n := 1) (k_untwistedCorners l hvb) hC gX0_count_X0_untwistedCorners rfl (by decide +kernel) rfl ⟨by decide, by decide⟩ ⟨Nat.zero_le _, Nat.zero_le _⟩ hl.1 (Nat.le_of_ble_eq_true rfl) dX0_count_69 rfl ?_
    exact RV.iret hC hr hlk dX0_count_72 (rfl)
  · refine lv_iload_n hC.1 hC.2.1 dX0_count_0 rfl (lv_at hl 1 rfl) ?_
    refine lv_bipush (v := (nI 7)) hC.1 hC.2.1 dX0_count_1 (by decide) ?_
    refine p_cs (n := 2) (k_checkWhat l (by decide) (by decide)) hC gX0_count_X0_checkWhat rfl (by decide +kernel) rfl ⟨by decide, by decide⟩ ⟨Nat.zero_le _, Nat.zero_le _⟩ hl.1 (Nat.le_of_ble_eq_true rfl) dX0_count_3 rfl ?_
    refine lv_iload_n hC.1 hC.2.1 dX0_count_6 rfl (lv_at hl 1 rfl) ?_
    refine lv_tableIn (off := 66) (tgt := 73) hC.1 hC.2.1 dX0_count_7 (by decide) (by decide) (by decide) (by decide) ?_
    refine lv_aload_n hC.1 hC.2.1 dX0_count_73 rfl (lv_at hl 0 rfl) ?_
    refine p_get (ref := "CornerCube") hC hE hP hmx hex rfl (by decide +kernel) 0 (by decide) (by decide +kernel) rfl rfl dX0_count_74 ?_
    refine p_cs (n := 1) (k_pairs l hvb) hC gX0_count_X0_pairsOutOfOrder rfl (by decide +kernel) rfl ⟨by decide, by decide⟩ ⟨Nat.zero_le _, Nat.zero_le _⟩ hl.1 (Nat.le_of_ble_eq_true rfl) dX0_count_77 rfl ?_
    have hiv := invs_lt b 8 (Nat.le_refl 8)
    refine lv_iconst (v := (nI 2)) hC.1 hC.2.1 dX0_count_80 (by decide) ?_
    refine z_irem hC dX0_count_81 (by omega) (by decide) (by decide) ?_
    exact RV.iret hC hr hlk dX0_count_82 (rfl)
  · refine lv_iload_n hC.1 hC.2.1 dX0_count_0 rfl (lv_at hl 1 rfl) ?_
    refine lv_bipush (v := (nI 7)) hC.1 hC.2.1 dX0_count_1 (by decide) ?_
    refine p_cs (n := 2) (k_checkWhat l (by decide) (by decide)) hC gX0_count_X0_checkWhat rfl (by decide +kernel) rfl ⟨by decide, by decide⟩ ⟨Nat.zero_le _, Nat.zero_le _⟩ hl.1 (Nat.le_of_ble_eq_true rfl) dX0_count_3 rfl ?_
    refine lv_iload_n hC.1 hC.2.1 dX0_count_6 rfl (lv_at hl 1 rfl) ?_
    refine lv_tableIn (off := 76) (tgt := 83) hC.1 hC.2.1 dX0_count_7 (by decide) (by decide) (by decide) (by decide) ?_
    refine lv_aload_n hC.1 hC.2.1 dX0_count_83 rfl (lv_at hl 0 rfl) ?_
    refine p_get (ref := "CornerCube") hC hE hP hmx hex rfl (by decide +kernel) 0 (by decide) (by decide +kernel) rfl rfl dX0_count_84 ?_
    refine p_cs (n := 1) (k_order l hvb hOb) hC gX0_count_X0_orderOf rfl (by decide +kernel) rfl ⟨by decide, by decide⟩ ⟨Nat.zero_le _, Nat.zero_le _⟩ hl.1 (Nat.le_of_ble_eq_true rfl) dX0_count_87 rfl ?_
    exact RV.iret hC hr hlk dX0_count_90 (rfl)
  · refine lv_iload_n hC.1 hC.2.1 dX0_count_0 rfl (lv_at hl 1 rfl) ?_
    refine lv_bipush (v := (nI 7)) hC.1 hC.2.1 dX0_count_1 (by decide) ?_
    refine p_cs (n := 2) (k_checkWhat l (by decide) (by decide)) hC gX0_count_X0_checkWhat rfl (by decide +kernel) rfl ⟨by decide, by decide⟩ ⟨Nat.zero_le _, Nat.zero_le _⟩ hl.1 (Nat.le_of_ble_eq_true rfl) dX0_count_3 rfl ?_
    refine lv_iload_n hC.1 hC.2.1 dX0_count_6 rfl (lv_at hl 1 rfl) ?_
    refine lv_tableOut (tgt := 91) hC.1 hC.2.1 dX0_count_7 (by decide) (by decide) ?_
    refine lv_aload_n hC.1 hC.2.1 dX0_count_91 rfl (lv_at hl 0 rfl) ?_
    refine p_cvB (n := 0) (k_allTurns l hX) hC hE hP hD hS (hmx) (hex) rfl gX0_count_X0_turnsOfAllWords rfl (by decide +kernel) rfl ⟨by decide, by decide⟩ ⟨Nat.zero_le _, Nat.zero_le _⟩ hl.1 (Nat.le_of_ble_eq_true rfl) dX0_count_92 rfl ?_
    exact RV.iret hC hr hlk dX0_count_95 (rfl)

set_option maxHeartbeats 4000000 in
set_option maxRecDepth 100000 in
theorem k_word (l : Launch) {D : va_G} {T : ClassId × ClassId × ClassId} {z0 : Nat} {L : List Nat} {f : Nat → va_E} {hx g ln : Nat} {rw : Nat → Nat} {b : Nat → Nat} {mk : Int32} {wd : Nat → List Nat} (hX : CX T L f hx g ln rw b mk wd) {w : Nat} (hw : w < 5) (hO : ordN (deed (wd w)) < 1000) {what : Nat} (hw4 : what < 4) : RV l yX0_word wsX0_word (7) (zPre D T z0 L f) [.ref hx, .int (nI w), .int (nI what)] (some (.int (nI (wV (wd w) what)))) := by
  refine RV.of (cc := cX0_word) (maxL := 3) (ret := (some .int)) (by decide) rfl (Nat.le_of_ble_eq_true rfl) ?_
  intro p e s m args below meth c hC hr hlk hB ls hl
  have hl : lv_has ls 3 [(0, .ref hx), (1, .int (nI w)), (2, .int (nI what))] := hl
  obtain ⟨hE, hP, hD⟩ := hB
  obtain ⟨⟨hmx, hex⟩, ⟨hmg, G, heg, hG⟩, ⟨hml, Nl, hel, hNl⟩, hrw, hinj, hvb, hwd⟩ := id hX
  have hS : va_S (zA z0) s.heap s.heap [] := va_S.rf
  rcases (by omega : what = 0 ∨ what = 1 ∨ what = 2 ∨ what = 3) with rfl | rfl | rfl | rfl
  · refine lv_iload_n hC.1 hC.2.1 dX0_word_0 rfl (lv_at hl 1 rfl) ?_
    refine p_cs (n := 1) (k_checkWord l hw) hC gX0_word_X0_checkWord rfl (by decide +kernel) rfl ⟨by decide, by decide⟩ ⟨Nat.zero_le _, Nat.zero_le _⟩ hl.1 (Nat.le_of_ble_eq_true rfl) dX0_word_1 rfl ?_
    refine lv_iload_n hC.1 hC.2.1 dX0_word_4 rfl (lv_at hl 2 rfl) ?_
    refine lv_iconst (v := (nI 4)) hC.1 hC.2.1 dX0_word_5 (by decide) ?_
    refine p_cs (n := 2) (k_checkWhat l (by decide) (by decide)) hC gX0_word_X0_checkWhat rfl (by decide +kernel) rfl ⟨by decide, by decide⟩ ⟨Nat.zero_le _, Nat.zero_le _⟩ hl.1 (Nat.le_of_ble_eq_true rfl) dX0_word_6 rfl ?_
    refine lv_iload_n hC.1 hC.2.1 dX0_word_9 rfl (lv_at hl 2 rfl) ?_
    refine lv_tableIn (off := 26) (tgt := 36) hC.1 hC.2.1 dX0_word_10 (by decide) (by decide) (by decide) (by decide) ?_
    refine lv_aload_n hC.1 hC.2.1 dX0_word_36 rfl (lv_at hl 0 rfl) ?_
    refine p_get (ref := "CornerCube") hC hE hP hmx hex rfl (by decide +kernel) 3 (by decide) (by decide +kernel) rfl rfl dX0_word_37 ?_
    refine lv_iload_n hC.1 hC.2.1 dX0_word_40 rfl (lv_at hl 1 rfl) ?_
    refine p_iald hC hE hP hml hel (by omega) (by decide) dX0_word_41 ?_
    refine q_i (nI (wd w).length) (hNl _ (by omega)) ?_
    exact RV.iret hC hr hlk dX0_word_42 (rfl)
  · refine lv_iload_n hC.1 hC.2.1 dX0_word_0 rfl (lv_at hl 1 rfl) ?_
    refine p_cs (n := 1) (k_checkWord l hw) hC gX0_word_X0_checkWord rfl (by decide +kernel) rfl ⟨by decide, by decide⟩ ⟨Nat.zero_le _, Nat.zero_le _⟩ hl.1 (Nat.le_of_ble_eq_true rfl) dX0_word_1 rfl ?_
    refine lv_iload_n hC.1 hC.2.1 dX0_word_4 rfl (lv_at hl 2 rfl) ?_
    refine lv_iconst (v := (nI 4)) hC.1 hC.2.1 dX0_word_5 (by decide) ?_
    refine p_cs (n := 2) (k_checkWhat l (by decide) (by decide)) hC gX0_word_X0_checkWhat rfl (by decide +kernel) rfl ⟨by decide, by decide⟩ ⟨Nat.zero_le _, Nat.zero_le _⟩ hl.1 (Nat.le_of_ble_eq_true rfl) dX0_word_6 rfl ?_
    refine lv_iload_n hC.1 hC.2.1 dX0_word_9 rfl (lv_at hl 2 rfl) ?_
    refine lv_tableIn (off := 33) (tgt := 43) hC.1 hC.2.1 dX0_word_10 (by decide) (by decide) (by decide) (by decide) ?_
    refine lv_aload_n hC.1 hC.2.1 dX0_word_43 rfl (lv_at hl 0 rfl) ?_
    refine lv_iload_n hC.1 hC.2.1 dX0_word_44 rfl (lv_at hl 1 rfl) ?_
    refine p_cvB (n := 1) (k_deedOf l hX hw) hC hE hP hD hS (hmx) (hex) rfl gX0_word_X0_deedOf rfl (by decide +kernel) rfl ⟨by decide, by decide⟩ ⟨Nat.zero_le _, Nat.zero_le _⟩ hl.1 (Nat.le_of_ble_eq_true rfl) dX0_word_45 rfl ?_
    refine p_cs (n := 1) (k_order l (deed_Va _) hO) hC gX0_word_X0_orderOf rfl (by decide +kernel) rfl ⟨by decide, by decide⟩ ⟨Nat.zero_le _, Nat.zero_le _⟩ hl.1 (Nat.le_of_ble_eq_true rfl) dX0_word_48 rfl ?_
    exact RV.iret hC hr hlk dX0_word_51 (rfl)
  · refine lv_iload_n hC.1 hC.2.1 dX0_word_0 rfl (lv_at hl 1 rfl) ?_
    refine p_cs (n := 1) (k_checkWord l hw) hC gX0_word_X0_checkWord rfl (by decide +kernel) rfl ⟨by decide, by decide⟩ ⟨Nat.zero_le _, Nat.zero_le _⟩ hl.1 (Nat.le_of_ble_eq_true rfl) dX0_word_1 rfl ?_
    refine lv_iload_n hC.1 hC.2.1 dX0_word_4 rfl (lv_at hl 2 rfl) ?_
    refine lv_iconst (v := (nI 4)) hC.1 hC.2.1 dX0_word_5 (by decide) ?_
    refine p_cs (n := 2) (k_checkWhat l (by decide) (by decide)) hC gX0_word_X0_checkWhat rfl (by decide +kernel) rfl ⟨by decide, by decide⟩ ⟨Nat.zero_le _, Nat.zero_le _⟩ hl.1 (Nat.le_of_ble_eq_true rfl) dX0_word_6 rfl ?_
    refine lv_iload_n hC.1 hC.2.1 dX0_word_9 rfl (lv_at hl 2 rfl) ?_
    refine lv_tableIn (off := 42) (tgt := 52) hC.1 hC.2.1 dX0_word_10 (by decide) (by decide) (by decide) (by decide) ?_
    refine lv_aload_n hC.1 hC.2.1 dX0_word_52 rfl (lv_at hl 0 rfl) ?_
    refine lv_iload_n hC.1 hC.2.1 dX0_word_53 rfl (lv_at hl 1 rfl) ?_
    refine p_cvB (n := 1) (k_deedOf l hX hw) hC hE hP hD hS (hmx) (hex) rfl gX0_word_X0_deedOf rfl (by decide +kernel) rfl ⟨by decide, by decide⟩ ⟨Nat.zero_le _, Nat.zero_le _⟩ hl.1 (Nat.le_of_ble_eq_true rfl) dX0_word_54 rfl ?_
    refine p_cs (n := 1) (k_wrongCorners l (deed_Va _)) hC gX0_word_X0_wrongCorners rfl (by decide +kernel) rfl ⟨by decide, by decide⟩ ⟨Nat.zero_le _, Nat.zero_le _⟩ hl.1 (Nat.le_of_ble_eq_true rfl) dX0_word_57 rfl ?_
    exact RV.iret hC hr hlk dX0_word_60 (rfl)
  · refine lv_iload_n hC.1 hC.2.1 dX0_word_0 rfl (lv_at hl 1 rfl) ?_
    refine p_cs (n := 1) (k_checkWord l hw) hC gX0_word_X0_checkWord rfl (by decide +kernel) rfl ⟨by decide, by decide⟩ ⟨Nat.zero_le _, Nat.zero_le _⟩ hl.1 (Nat.le_of_ble_eq_true rfl) dX0_word_1 rfl ?_
    refine lv_iload_n hC.1 hC.2.1 dX0_word_4 rfl (lv_at hl 2 rfl) ?_
    refine lv_iconst (v := (nI 4)) hC.1 hC.2.1 dX0_word_5 (by decide) ?_
    refine p_cs (n := 2) (k_checkWhat l (by decide) (by decide)) hC gX0_word_X0_checkWhat rfl (by decide +kernel) rfl ⟨by decide, by decide⟩ ⟨Nat.zero_le _, Nat.zero_le _⟩ hl.1 (Nat.le_of_ble_eq_true rfl) dX0_word_6 rfl ?_
    refine lv_iload_n hC.1 hC.2.1 dX0_word_9 rfl (lv_at hl 2 rfl) ?_
    refine lv_tableOut (tgt := 61) hC.1 hC.2.1 dX0_word_10 (by decide) (by decide) ?_
    refine lv_bipush (v := (nI 8)) hC.1 hC.2.1 dX0_word_61 (by decide) ?_
    refine lv_aload_n hC.1 hC.2.1 dX0_word_63 rfl (lv_at hl 0 rfl) ?_
    refine lv_iload_n hC.1 hC.2.1 dX0_word_64 rfl (lv_at hl 1 rfl) ?_
    refine p_cvB (n := 1) (k_deedOf l hX hw) hC hE hP hD hS (hmx) (hex) rfl gX0_word_X0_deedOf rfl (by decide +kernel) rfl ⟨by decide, by decide⟩ ⟨Nat.zero_le _, Nat.zero_le _⟩ hl.1 (Nat.le_of_ble_eq_true rfl) dX0_word_65 rfl ?_
    refine p_cs (n := 1) (k_placedCorners l (deed_Va _)) hC gX0_word_X0_placedCorners rfl (by decide +kernel) rfl ⟨by decide, by decide⟩ ⟨Nat.zero_le _, Nat.zero_le _⟩ hl.1 (Nat.le_of_ble_eq_true rfl) dX0_word_68 rfl ?_
    refine z_isub hC dX0_word_71 (ct_le _ 8) ?_
    exact RV.iret hC hr hlk dX0_word_72 (rfl)

set_option maxHeartbeats 4000000 in
set_option maxRecDepth 100000 in
theorem k_same (l : Launch) {D : va_G} {T : ClassId × ClassId × ClassId} {z0 : Nat} {L : List Nat} {f : Nat → va_E} {hx g ln : Nat} {rw : Nat → Nat} {b : Nat → Nat} {mk : Int32} {wd : Nat → List Nat} (hX : CX T L f hx g ln rw b mk wd) {w v : Nat} (hw : w < 5) (hv5 : v < 5) : RV l yX0_same wsX0_same (7) (zPre D T z0 L f) [.ref hx, .int (nI w), .int (nI v)] (some (.int (nI (if enc (deed (wd w)) = enc (deed (wd v)) then 1 else 0)))) := by
  refine RV.of (cc := cX0_same) (maxL := 3) (ret := (some .boolean)) (by decide) rfl (Nat.le_of_ble_eq_true rfl) ?_
  intro p e s m args below meth c hC hr hlk hB ls hl
  have hl : lv_has ls 3 [(0, .ref hx), (1, .int (nI w)), (2, .int (nI v))] := hl
  obtain ⟨hE, hP, hD⟩ := hB
  obtain ⟨⟨hmx, hex⟩, ⟨hmg, G, heg, hG⟩, ⟨hml, Nl, hel, hNl⟩, hrw, hinj, hvb, hwd⟩ := id hX
  have hS : va_S (zA z0) s.heap s.heap [] := va_S.rf
  refine lv_iload_n hC.1 hC.2.1 dX0_same_0 rfl (lv_at hl 1 rfl) ?_
  refine p_cs (n := 1) (k_checkWord l hw) hC gX0_same_X0_checkWord rfl (by decide +kernel) rfl ⟨by decide, by decide⟩ ⟨Nat.zero_le _, Nat.zero_le _⟩ hl.1 (Nat.le_of_ble_eq_true rfl) dX0_same_1 rfl ?_
  refine lv_iload_n hC.1 hC.2.1 dX0_same_4 rfl (lv_at hl 2 rfl) ?_
  refine p_cs (n := 1) (k_checkWord l hv5) hC gX0_same_X0_checkWord rfl (by decide +kernel) rfl ⟨by decide, by decide⟩ ⟨Nat.zero_le _, Nat.zero_le _⟩ hl.1 (Nat.le_of_ble_eq_true rfl) dX0_same_5 rfl ?_
  refine lv_aload_n hC.1 hC.2.1 dX0_same_8 rfl (lv_at hl 0 rfl) ?_
  refine lv_iload_n hC.1 hC.2.1 dX0_same_9 rfl (lv_at hl 1 rfl) ?_
  refine p_cvB (n := 1) (k_deedOf l hX hw) hC hE hP hD hS (hmx) (hex) rfl gX0_same_X0_deedOf rfl (by decide +kernel) rfl ⟨by decide, by decide⟩ ⟨Nat.zero_le _, Nat.zero_le _⟩ hl.1 (Nat.le_of_ble_eq_true rfl) dX0_same_10 rfl ?_
  refine lv_aload_n hC.1 hC.2.1 dX0_same_13 rfl (lv_at hl 0 rfl) ?_
  refine lv_iload_n hC.1 hC.2.1 dX0_same_14 rfl (lv_at hl 2 rfl) ?_
  refine p_cvB (n := 1) (k_deedOf l hX hv5) hC hE hP hD hS (hmx) (hex) rfl gX0_same_X0_deedOf rfl (by decide +kernel) rfl ⟨by decide, by decide⟩ ⟨Nat.zero_le _, Nat.zero_le _⟩ hl.1 (Nat.le_of_ble_eq_true rfl) dX0_same_15 rfl ?_
  refine W.lcmp hC.1 hC.2.1 dX0_same_18 ?_
  refine lv_if_ne (tgt := 26) hC.1 hC.2.1 dX0_same_19 (by decide) (fun h_19 => ?_) (fun h_19 => ?_)
  · refine lv_iconst (v := (nI 0)) hC.1 hC.2.1 dX0_same_26 (by decide) ?_
    exact RV.zret hC hr hlk dX0_same_27 (by rw [if_neg (fun q => h_19 (lg0.mpr q))]) (by decide)
  · refine lv_iconst (v := (nI 1)) hC.1 hC.2.1 dX0_same_22 (by decide) ?_
    refine lv_goto (tgt := 27) hC.1 hC.2.1 dX0_same_23 (by decide) ?_
    exact RV.zret hC hr hlk dX0_same_27 (by rw [if_pos (lg0.mp h_19)]) (by decide)

set_option maxHeartbeats 4000000 in
set_option maxRecDepth 100000 in
theorem k_mixed (l : Launch) {D : va_G} {T : ClassId × ClassId × ClassId} {z0 : Nat} {L : List Nat} {f : Nat → va_E} {hx g ln : Nat} {rw : Nat → Nat} {b : Nat → Nat} {mk : Int32} {wd : Nat → List Nat} (hX : CX T L f hx g ln rw b mk wd) {w v : Nat} (hw : w < 5) (hv5 : v < 5) : RV l yX0_mixed wsX0_mixed (7) (zPre D T z0 L f) [.ref hx, .int (nI w), .int (nI v)] (some (.int (nI (8 - nRt (behindR (behindR (behind (deed (wd w)) (wd v)) (wd w)) (wd v)))))) := by
  refine RV.of (cc := cX0_mixed) (maxL := 5) (ret := (some .int)) (by decide) rfl (Nat.le_of_ble_eq_true rfl) ?_
  intro p e s m args below meth c hC hr hlk hB ls hl
  have hl : lv_has ls 5 [(0, .ref hx), (1, .int (nI w)), (2, .int (nI v))] := hl
  obtain ⟨hE, hP, hD⟩ := hB
  obtain ⟨⟨hmx, hex⟩, ⟨hmg, G, heg, hG⟩, ⟨hml, Nl, hel, hNl⟩, hrw, hinj, hvb, hwd⟩ := id hX
  have hS : va_S (zA z0) s.heap s.heap [] := va_S.rf
  refine lv_iload_n hC.1 hC.2.1 dX0_mixed_0 rfl (lv_at hl 1 rfl) ?_
  refine p_cs (n := 1) (k_checkWord l hw) hC gX0_mixed_X0_checkWord rfl (by decide +kernel) rfl ⟨by decide, by decide⟩ ⟨Nat.zero_le _, Nat.zero_le _⟩ hl.1 (Nat.le_of_ble_eq_true rfl) dX0_mixed_1 rfl ?_
  refine lv_iload_n hC.1 hC.2.1 dX0_mixed_4 rfl (lv_at hl 2 rfl) ?_
  refine p_cs (n := 1) (k_checkWord l hv5) hC gX0_mixed_X0_checkWord rfl (by decide +kernel) rfl ⟨by decide, by decide⟩ ⟨Nat.zero_le _, Nat.zero_le _⟩ hl.1 (Nat.le_of_ble_eq_true rfl) dX0_mixed_5 rfl ?_
  refine lv_aload_n hC.1 hC.2.1 dX0_mixed_8 rfl (lv_at hl 0 rfl) ?_
  refine lv_aload_n hC.1 hC.2.1 dX0_mixed_9 rfl (lv_at hl 0 rfl) ?_
  refine lv_iload_n hC.1 hC.2.1 dX0_mixed_10 rfl (lv_at hl 1 rfl) ?_
  refine p_cvB (n := 1) (k_deedOf l hX hw) hC hE hP hD hS (hmx) (hex) rfl gX0_mixed_X0_deedOf rfl (by decide +kernel) rfl ⟨by decide, by decide⟩ ⟨Nat.zero_le _, Nat.zero_le _⟩ hl.1 (Nat.le_of_ble_eq_true rfl) dX0_mixed_11 rfl ?_
  refine lv_iload_n hC.1 hC.2.1 dX0_mixed_14 rfl (lv_at hl 2 rfl) ?_
  refine p_cvB (n := 2) (k_behindWord l hX (deed_Va _) hv5) hC hE hP hD hS (hmx) (hex) rfl gX0_mixed_X0_behindWord rfl (by decide +kernel) rfl ⟨by decide, by decide⟩ ⟨Nat.zero_le _, Nat.zero_le _⟩ hl.1 (Nat.le_of_ble_eq_true rfl) dX0_mixed_15 rfl ?_
  refine lv_lstore_n (lv' := [(3, .long (enc (behind (deed (wd w)) (wd v)))), (0, .ref hx), (1, .int (nI w)), (2, .int (nI v))]) hC.1 hC.2.1 dX0_mixed_18 rfl hl (by decide) rfl (fun ls hl => ?_)
  refine lv_aload_n hC.1 hC.2.1 dX0_mixed_19 rfl (lv_at hl 1 rfl) ?_
  refine lv_aload_n hC.1 hC.2.1 dX0_mixed_20 rfl (lv_at hl 1 rfl) ?_
  refine lv_lload_n hC.1 hC.2.1 dX0_mixed_21 rfl (lv_at hl 0 rfl) ?_
  refine lv_iload_n hC.1 hC.2.1 dX0_mixed_22 rfl (lv_at hl 2 rfl) ?_
  refine p_cvB (n := 2) (k_behindWordRound l hX (bhN_Va (deed_Va _) _ _) hw) hC hE hP hD hS (hmx) (hex) rfl gX0_mixed_X0_behindWordRound rfl (by decide +kernel) rfl ⟨by decide, by decide⟩ ⟨Nat.zero_le _, Nat.zero_le _⟩ hl.1 (Nat.le_of_ble_eq_true rfl) dX0_mixed_23 rfl ?_
  refine lv_iload_n hC.1 hC.2.1 dX0_mixed_26 rfl (lv_at hl 3 rfl) ?_
  refine p_cvB (n := 2) (k_behindWordRound l hX (brN_Va (bhN_Va (deed_Va _) _ _) _ _) hv5) hC hE hP hD hS (hmx) (hex) rfl gX0_mixed_X0_behindWordRound rfl (by decide +kernel) rfl ⟨by decide, by decide⟩ ⟨Nat.zero_le _, Nat.zero_le _⟩ hl.1 (Nat.le_of_ble_eq_true rfl) dX0_mixed_27 rfl ?_
  refine p_cs (n := 1) (k_wrongCorners l (brN_Va (brN_Va (bhN_Va (deed_Va _) _ _) _ _) _ _)) hC gX0_mixed_X0_wrongCorners rfl (by decide +kernel) rfl ⟨by decide, by decide⟩ ⟨Nat.zero_le _, Nat.zero_le _⟩ hl.1 (Nat.le_of_ble_eq_true rfl) dX0_mixed_30 rfl ?_
  exact RV.iret hC hr hlk dX0_mixed_33 (rfl)

set_option maxHeartbeats 4000000 in
set_option maxRecDepth 100000 in
theorem k_would (l : Launch) {D : va_G} {T : ClassId × ClassId × ClassId} {z0 : Nat} {L : List Nat} {f : Nat → va_E} {hx g ln : Nat} {rw : Nat → Nat} {b : Nat → Nat} {mk : Int32} {wd : Nat → List Nat} (hX : CX T L f hx g ln rw b mk wd) {fc q : Nat} (hf : fc < 3) (h1 : 1 ≤ q) (hq : q < 4) : RV l yX0_would wsX0_would (6) (zPre D T z0 L f) [.ref hx, .int (nI fc), .int (nI q)] (some (.int (nI (nRt (turnC b (3 * fc + q - 1)))))) := by
  refine RV.of (cc := cX0_would) (maxL := 3) (ret := (some .int)) (by decide) rfl (Nat.le_of_ble_eq_true rfl) ?_
  intro p e s m args below meth c hC hr hlk hB ls hl
  have hl : lv_has ls 3 [(0, .ref hx), (1, .int (nI fc)), (2, .int (nI q))] := hl
  obtain ⟨hE, hP, hD⟩ := hB
  obtain ⟨⟨hmx, hex⟩, ⟨hmg, G, heg, hG⟩, ⟨hml, Nl, hel, hNl⟩, hrw, hinj, hvb, hwd⟩ := id hX
  have hS : va_S (zA z0) s.heap s.heap [] := va_S.rf
  refine lv_iload_n hC.1 hC.2.1 dX0_would_0 rfl (lv_at hl 1 rfl) ?_
  refine p_cs (n := 1) (k_checkFace l hf) hC gX0_would_X0_checkFace rfl (by decide +kernel) rfl ⟨by decide, by decide⟩ ⟨Nat.zero_le _, Nat.zero_le _⟩ hl.1 (Nat.le_of_ble_eq_true rfl) dX0_would_1 rfl ?_
  refine lv_iload_n hC.1 hC.2.1 dX0_would_4 rfl (lv_at hl 2 rfl) ?_
  refine p_cs (n := 1) (k_checkQuarters l h1 hq) hC gX0_would_X0_checkQuarters rfl (by decide +kernel) rfl ⟨by decide, by decide⟩ ⟨Nat.zero_le _, Nat.zero_le _⟩ hl.1 (Nat.le_of_ble_eq_true rfl) dX0_would_5 rfl ?_
  refine lv_aload_n hC.1 hC.2.1 dX0_would_8 rfl (lv_at hl 0 rfl) ?_
  refine p_get (ref := "CornerCube") hC hE hP hmx hex rfl (by decide +kernel) 0 (by decide) (by decide +kernel) rfl rfl dX0_would_9 ?_
  refine lv_iload_n hC.1 hC.2.1 dX0_would_12 rfl (lv_at hl 1 rfl) ?_
  refine lv_iload_n hC.1 hC.2.1 dX0_would_13 rfl (lv_at hl 2 rfl) ?_
  refine p_cs (n := 2) (k_turnNumber l hf h1 hq) hC gX0_would_X0_turnNumber rfl (by decide +kernel) rfl ⟨by decide, by decide⟩ ⟨Nat.zero_le _, Nat.zero_le _⟩ hl.1 (Nat.le_of_ble_eq_true rfl) dX0_would_14 rfl ?_
  refine p_cs (n := 2) (k_turned l hvb (by omega)) hC gX0_would_X0_turned rfl (by decide +kernel) rfl ⟨by decide, by decide⟩ ⟨Nat.zero_le _, Nat.zero_le _⟩ hl.1 (Nat.le_of_ble_eq_true rfl) dX0_would_17 rfl ?_
  refine p_cs (n := 1) (k_rightCorners l (turnC_Va _ _)) hC gX0_would_X0_rightCorners rfl (by decide +kernel) rfl ⟨by decide, by decide⟩ ⟨Nat.zero_le _, Nat.zero_le _⟩ hl.1 (Nat.le_of_ble_eq_true rfl) dX0_would_20 rfl ?_
  exact RV.iret hC hr hlk dX0_would_23 (rfl)

set_option maxHeartbeats 4000000 in
set_option maxRecDepth 100000 in
theorem k_far (l : Launch) {D : va_G} {T : ClassId × ClassId × ClassId} {z0 : Nat} {L : List Nat} {f : Nat → va_E} {hx g ln : Nat} {rw : Nat → Nat} {b : Nat → Nat} {mk : Int32} {wd : Nat → List Nat} (hX : CX T L f hx g ln rw b mk wd) {most : Nat} (hm : most ≤ 5) {N : Nat} (hN : N ≤ most) (h1 : ∀ k, k < N → wi k b 3 = false) (h2 : wi N b 3 = true) : RV l yX0_far wsX0_far (21) (zPre D T z0 L f) [.ref hx, .int (nI most)] (some (.int (nI N))) := by
  refine RV.of (cc := cX0_far) (maxL := 2) (ret := (some .int)) (by decide) rfl (Nat.le_of_ble_eq_true rfl) ?_
  intro p e s m args below meth c hC hr hlk hB ls hl
  have hl : lv_has ls 2 [(0, .ref hx), (1, .int (nI most))] := hl
  obtain ⟨hE, hP, hD⟩ := hB
  obtain ⟨⟨hmx, hex⟩, ⟨hmg, G, heg, hG⟩, ⟨hml, Nl, hel, hNl⟩, hrw, hinj, hvb, hwd⟩ := id hX
  have hS : va_S (zA z0) s.heap s.heap [] := va_S.rf
  refine lv_iload_n hC.1 hC.2.1 dX0_far_0 rfl (lv_at hl 1 rfl) ?_
  refine p_cs (n := 1) (k_checkMost l hm) hC gX0_far_X0_checkMost rfl (by decide +kernel) rfl ⟨by decide, by decide⟩ ⟨Nat.zero_le _, Nat.zero_le _⟩ hl.1 (Nat.le_of_ble_eq_true rfl) dX0_far_1 rfl ?_
  refine lv_aload_n hC.1 hC.2.1 dX0_far_4 rfl (lv_at hl 0 rfl) ?_
  refine p_get (ref := "CornerCube") hC hE hP hmx hex rfl (by decide +kernel) 0 (by decide) (by decide +kernel) rfl rfl dX0_far_5 ?_
  refine lv_iload_n hC.1 hC.2.1 dX0_far_8 rfl (lv_at hl 1 rfl) ?_
  refine p_cs (n := 2) (k_fewest l hvb hm hN h1 h2) hC gX0_far_X0_fewestTurns rfl (by decide +kernel) rfl ⟨by decide, by decide⟩ ⟨Nat.zero_le _, Nat.zero_le _⟩ hl.1 (Nat.le_of_ble_eq_true rfl) dX0_far_9 rfl ?_
  exact RV.iret hC hr hlk dX0_far_12 (rfl)

set_option maxHeartbeats 4000000 in
set_option maxRecDepth 100000 in
theorem k_shortest (l : Launch) {D : va_G} {T : ClassId × ClassId × ClassId} {z0 : Nat} {L : List Nat} {f : Nat → va_E} {hx g ln : Nat} {rw : Nat → Nat} {b : Nat → Nat} {mk : Int32} {wd : Nat → List Nat} (hX : CX T L f hx g ln rw b mk wd) {w : Nat} (hw : w < 5) {most : Nat} (hm : most ≤ 5) {N : Nat} (hN : N ≤ most) (h1 : ∀ k, k < N → wi k (deed (wd w)) 3 = false) (h2 : wi N (deed (wd w)) 3 = true) : RV l yX0_shortest wsX0_shortest (21) (zPre D T z0 L f) [.ref hx, .int (nI w), .int (nI most)] (some (.int (nI N))) := by
  refine RV.of (cc := cX0_shortest) (maxL := 3) (ret := (some .int)) (by decide) rfl (Nat.le_of_ble_eq_true rfl) ?_
  intro p e s m args below meth c hC hr hlk hB ls hl
  have hl : lv_has ls 3 [(0, .ref hx), (1, .int (nI w)), (2, .int (nI most))] := hl
  obtain ⟨hE, hP, hD⟩ := hB
  obtain ⟨⟨hmx, hex⟩, ⟨hmg, G, heg, hG⟩, ⟨hml, Nl, hel, hNl⟩, hrw, hinj, hvb, hwd⟩ := id hX
  have hS : va_S (zA z0) s.heap s.heap [] := va_S.rf
  refine lv_iload_n hC.1 hC.2.1 dX0_shortest_0 rfl (lv_at hl 1 rfl) ?_
  refine p_cs (n := 1) (k_checkWord l hw) hC gX0_shortest_X0_checkWord rfl (by decide +kernel) rfl ⟨by decide, by decide⟩ ⟨Nat.zero_le _, Nat.zero_le _⟩ hl.1 (Nat.le_of_ble_eq_true rfl) dX0_shortest_1 rfl ?_
  refine lv_iload_n hC.1 hC.2.1 dX0_shortest_4 rfl (lv_at hl 2 rfl) ?_
  refine p_cs (n := 1) (k_checkMost l hm) hC gX0_shortest_X0_checkMost rfl (by decide +kernel) rfl ⟨by decide, by decide⟩ ⟨Nat.zero_le _, Nat.zero_le _⟩ hl.1 (Nat.le_of_ble_eq_true rfl) dX0_shortest_5 rfl ?_
  refine lv_aload_n hC.1 hC.2.1 dX0_shortest_8 rfl (lv_at hl 0 rfl) ?_
  refine lv_iload_n hC.1 hC.2.1 dX0_shortest_9 rfl (lv_at hl 1 rfl) ?_
  refine p_cvB (n := 1) (k_deedOf l hX hw) hC hE hP hD hS (hmx) (hex) rfl gX0_shortest_X0_deedOf rfl (by decide +kernel) rfl ⟨by decide, by decide⟩ ⟨Nat.zero_le _, Nat.zero_le _⟩ hl.1 (Nat.le_of_ble_eq_true rfl) dX0_shortest_10 rfl ?_
  refine lv_iload_n hC.1 hC.2.1 dX0_shortest_13 rfl (lv_at hl 2 rfl) ?_
  refine p_cs (n := 2) (k_fewest l (deed_Va _) hm hN h1 h2) hC gX0_shortest_X0_fewestTurns rfl (by decide +kernel) rfl ⟨by decide, by decide⟩ ⟨Nat.zero_le _, Nat.zero_le _⟩ hl.1 (Nat.le_of_ble_eq_true rfl) dX0_shortest_14 rfl ?_
  exact RV.iret hC hr hlk dX0_shortest_17 (rfl)

set_option maxHeartbeats 4000000 in
set_option maxRecDepth 100000 in
theorem k_farN (l : Launch) {D : va_G} {T : ClassId × ClassId × ClassId} {z0 : Nat} {L : List Nat} {f : Nat → va_E} {hx g ln : Nat} {rw : Nat → Nat} {b : Nat → Nat} {mk : Int32} {wd : Nat → List Nat} (hX : CX T L f hx g ln rw b mk wd) {most : Nat} (hm : most ≤ 5) (h1 : ∀ k, k ≤ most → wi k b 3 = false) : RV l yX0_far wsX0_far (21) (zPre D T z0 L f) [.ref hx, .int (nI most)] (some (.int (-1))) := by
  refine RV.of (cc := cX0_far) (maxL := 2) (ret := (some .int)) (by decide) rfl (Nat.le_of_ble_eq_true rfl) ?_
  intro p e s m args below meth c hC hr hlk hB ls hl
  have hl : lv_has ls 2 [(0, .ref hx), (1, .int (nI most))] := hl
  obtain ⟨hE, hP, hD⟩ := hB
  obtain ⟨⟨hmx, hex⟩, ⟨hmg, G, heg, hG⟩, ⟨hml, Nl, hel, hNl⟩, hrw, hinj, hvb, hwd⟩ := id hX
  have hS : va_S (zA z0) s.heap s.heap [] := va_S.rf
  refine lv_iload_n hC.1 hC.2.1 dX0_far_0 rfl (lv_at hl 1 rfl) ?_
  refine p_cs (n := 1) (k_checkMost l hm) hC gX0_far_X0_checkMost rfl (by decide +kernel) rfl ⟨by decide, by decide⟩ ⟨Nat.zero_le _, Nat.zero_le _⟩ hl.1 (Nat.le_of_ble_eq_true rfl) dX0_far_1 rfl ?_
  refine lv_aload_n hC.1 hC.2.1 dX0_far_4 rfl (lv_at hl 0 rfl) ?_
  refine p_get (ref := "CornerCube") hC hE hP hmx hex rfl (by decide +kernel) 0 (by decide) (by decide +kernel) rfl rfl dX0_far_5 ?_
  refine lv_iload_n hC.1 hC.2.1 dX0_far_8 rfl (lv_at hl 1 rfl) ?_
  refine p_cs (n := 2) (k_fewestN l hvb hm h1) hC gX0_far_X0_fewestTurns rfl (by decide +kernel) rfl ⟨by decide, by decide⟩ ⟨Nat.zero_le _, Nat.zero_le _⟩ hl.1 (Nat.le_of_ble_eq_true rfl) dX0_far_9 rfl ?_
  exact RV.iret hC hr hlk dX0_far_12 (rfl)

set_option maxHeartbeats 4000000 in
set_option maxRecDepth 100000 in
theorem k_shortestN (l : Launch) {D : va_G} {T : ClassId × ClassId × ClassId} {z0 : Nat} {L : List Nat} {f : Nat → va_E} {hx g ln : Nat} {rw : Nat → Nat} {b : Nat → Nat} {mk : Int32} {wd : Nat → List Nat} (hX : CX T L f hx g ln rw b mk wd) {w : Nat} (hw : w < 5) {most : Nat} (hm : most ≤ 5) (h1 : ∀ k, k ≤ most → wi k (deed (wd w)) 3 = false) : RV l yX0_shortest wsX0_shortest (21) (zPre D T z0 L f) [.ref hx, .int (nI w), .int (nI most)] (some (.int (-1))) := by
  refine RV.of (cc := cX0_shortest) (maxL := 3) (ret := (some .int)) (by decide) rfl (Nat.le_of_ble_eq_true rfl) ?_
  intro p e s m args below meth c hC hr hlk hB ls hl
  have hl : lv_has ls 3 [(0, .ref hx), (1, .int (nI w)), (2, .int (nI most))] := hl
  obtain ⟨hE, hP, hD⟩ := hB
  obtain ⟨⟨hmx, hex⟩, ⟨hmg, G, heg, hG⟩, ⟨hml, Nl, hel, hNl⟩, hrw, hinj, hvb, hwd⟩ := id hX
  have hS : va_S (zA z0) s.heap s.heap [] := va_S.rf
  refine lv_iload_n hC.1 hC.2.1 dX0_shortest_0 rfl (lv_at hl 1 rfl) ?_
  refine p_cs (n := 1) (k_checkWord l hw) hC gX0_shortest_X0_checkWord rfl (by decide +kernel) rfl ⟨by decide, by decide⟩ ⟨Nat.zero_le _, Nat.zero_le _⟩ hl.1 (Nat.le_of_ble_eq_true rfl) dX0_shortest_1 rfl ?_
  refine lv_iload_n hC.1 hC.2.1 dX0_shortest_4 rfl (lv_at hl 2 rfl) ?_
  refine p_cs (n := 1) (k_checkMost l hm) hC gX0_shortest_X0_checkMost rfl (by decide +kernel) rfl ⟨by decide, by decide⟩ ⟨Nat.zero_le _, Nat.zero_le _⟩ hl.1 (Nat.le_of_ble_eq_true rfl) dX0_shortest_5 rfl ?_
  refine lv_aload_n hC.1 hC.2.1 dX0_shortest_8 rfl (lv_at hl 0 rfl) ?_
  refine lv_iload_n hC.1 hC.2.1 dX0_shortest_9 rfl (lv_at hl 1 rfl) ?_
  refine p_cvB (n := 1) (k_deedOf l hX hw) hC hE hP hD hS (hmx) (hex) rfl gX0_shortest_X0_deedOf rfl (by decide +kernel) rfl ⟨by decide, by decide⟩ ⟨Nat.zero_le _, Nat.zero_le _⟩ hl.1 (Nat.le_of_ble_eq_true rfl) dX0_shortest_10 rfl ?_
  refine lv_iload_n hC.1 hC.2.1 dX0_shortest_13 rfl (lv_at hl 2 rfl) ?_
  refine p_cs (n := 2) (k_fewestN l (deed_Va _) hm h1) hC gX0_shortest_X0_fewestTurns rfl (by decide +kernel) rfl ⟨by decide, by decide⟩ ⟨Nat.zero_le _, Nat.zero_le _⟩ hl.1 (Nat.le_of_ble_eq_true rfl) dX0_shortest_14 rfl ?_
  exact RV.iret hC hr hlk dX0_shortest_17 (rfl)

theorem m1_le0 : (-1 : Int32) ≤ 0 := by decide
theorem m1_nlt (n : Nat) (h : n < 2 ^ 31) : ¬ nI n ≤ (-1 : Int32) := by
  intro h1
  have h2 : (nI n).toInt ≤ (-1 : Int32).toInt := Int32.le_iff_toInt_le.mp h1
  rw [nI_toInt h] at h2
  have h3 : (-1 : Int32).toInt = -1 := by decide
  rw [h3] at h2
  omega
set_option maxHeartbeats 4000000 in
set_option maxRecDepth 100000 in
theorem k_firstN (l : Launch) {D : va_G} {T : ClassId × ClassId × ClassId} {z0 : Nat} {L : List Nat} {f : Nat → va_E} {hx g ln : Nat} {rw : Nat → Nat} {b : Nat → Nat} {mk : Int32} {wd : Nat → List Nat} (hX : CX T L f hx g ln rw b mk wd) {most : Nat} (hm : most ≤ 5) (h1 : ∀ k, k ≤ most → wi k b 3 = false) : RV l yX0_first wsX0_first (21) (zPre D T z0 L f) [.ref hx, .int (nI most)] (some (.int (-1))) := by
  refine RV.of (cc := cX0_first) (maxL := 4) (ret := (some .int)) (by decide) rfl (Nat.le_of_ble_eq_true rfl) ?_
  intro p e s m args below meth c hC hr hlk hB ls hl
  have hl : lv_has ls 4 [(0, .ref hx), (1, .int (nI most))] := hl
  obtain ⟨hE, hP, hD⟩ := hB
  obtain ⟨⟨hmx, hex⟩, ⟨hmg, G, heg, hG⟩, ⟨hml, Nl, hel, hNl⟩, hrw, hinj, hvb, hwd⟩ := id hX
  have hS : va_S (zA z0) s.heap s.heap [] := va_S.rf
  refine lv_iload_n hC.1 hC.2.1 dX0_first_0 rfl (lv_at hl 1 rfl) ?_
  refine p_cs (n := 1) (k_checkMost l hm) hC gX0_first_X0_checkMost rfl (by decide +kernel) rfl ⟨by decide, by decide⟩ ⟨Nat.zero_le _, Nat.zero_le _⟩ hl.1 (Nat.le_of_ble_eq_true rfl) dX0_first_1 rfl ?_
  refine lv_aload_n hC.1 hC.2.1 dX0_first_4 rfl (lv_at hl 0 rfl) ?_
  refine p_get (ref := "CornerCube") hC hE hP hmx hex rfl (by decide +kernel) 0 (by decide) (by decide +kernel) rfl rfl dX0_first_5 ?_
  refine lv_iload_n hC.1 hC.2.1 dX0_first_8 rfl (lv_at hl 1 rfl) ?_
  refine p_cs (n := 2) (k_fewestN l hvb hm h1) hC gX0_first_X0_fewestTurns rfl (by decide +kernel) rfl ⟨by decide, by decide⟩ ⟨Nat.zero_le _, Nat.zero_le _⟩ hl.1 (Nat.le_of_ble_eq_true rfl) dX0_first_9 rfl ?_
  refine lv_istore_n (lv' := [(2, .int (-1)), (0, .ref hx), (1, .int (nI most))]) hC.1 hC.2.1 dX0_first_12 rfl hl (by decide) rfl (fun ls hl => ?_)
  refine lv_iconst (v := (nI 0)) hC.1 hC.2.1 dX0_first_13 (by decide) ?_
  refine lv_istore_n (lv' := [(3, .int (nI 0)), (2, .int (-1)), (0, .ref hx), (1, .int (nI most))]) hC.1 hC.2.1 dX0_first_14 rfl hl (by decide) rfl (fun ls hl => ?_)
  refine lv_iload_n hC.1 hC.2.1 dX0_first_15 rfl (lv_at hl 1 rfl) ?_
  refine lv_if_le (tgt := 54) hC.1 hC.2.1 dX0_first_16 (by decide) (fun h_16 => ?_) (fun h_16 => absurd m1_le0 h_16)
  refine lv_iconst (v := (-1)) hC.1 hC.2.1 dX0_first_54 (by decide) ?_
  exact RV.iret hC hr hlk dX0_first_55 (rfl)

set_option maxHeartbeats 4000000 in
set_option maxRecDepth 100000 in
theorem k_first0 (l : Launch) {D : va_G} {T : ClassId × ClassId × ClassId} {z0 : Nat} {L : List Nat} {f : Nat → va_E} {hx g ln : Nat} {rw : Nat → Nat} {b : Nat → Nat} {mk : Int32} {wd : Nat → List Nat} (hX : CX T L f hx g ln rw b mk wd) {most : Nat} (hm : most ≤ 5) (h2 : wi 0 b 3 = true) : RV l yX0_first wsX0_first (21) (zPre D T z0 L f) [.ref hx, .int (nI most)] (some (.int (-1))) := by
  refine RV.of (cc := cX0_first) (maxL := 4) (ret := (some .int)) (by decide) rfl (Nat.le_of_ble_eq_true rfl) ?_
  intro p e s m args below meth c hC hr hlk hB ls hl
  have hl : lv_has ls 4 [(0, .ref hx), (1, .int (nI most))] := hl
  obtain ⟨hE, hP, hD⟩ := hB
  obtain ⟨⟨hmx, hex⟩, ⟨hmg, G, heg, hG⟩, ⟨hml, Nl, hel, hNl⟩, hrw, hinj, hvb, hwd⟩ := id hX
  have hS : va_S (zA z0) s.heap s.heap [] := va_S.rf
  refine lv_iload_n hC.1 hC.2.1 dX0_first_0 rfl (lv_at hl 1 rfl) ?_
  refine p_cs (n := 1) (k_checkMost l hm) hC gX0_first_X0_checkMost rfl (by decide +kernel) rfl ⟨by decide, by decide⟩ ⟨Nat.zero_le _, Nat.zero_le _⟩ hl.1 (Nat.le_of_ble_eq_true rfl) dX0_first_1 rfl ?_
  refine lv_aload_n hC.1 hC.2.1 dX0_first_4 rfl (lv_at hl 0 rfl) ?_
  refine p_get (ref := "CornerCube") hC hE hP hmx hex rfl (by decide +kernel) 0 (by decide) (by decide +kernel) rfl rfl dX0_first_5 ?_
  refine lv_iload_n hC.1 hC.2.1 dX0_first_8 rfl (lv_at hl 1 rfl) ?_
  refine p_cs (n := 2) (k_fewest l hvb hm (N := 0) (Nat.zero_le _) (fun k hk => absurd hk (by omega)) h2) hC gX0_first_X0_fewestTurns rfl (by decide +kernel) rfl ⟨by decide, by decide⟩ ⟨Nat.zero_le _, Nat.zero_le _⟩ hl.1 (Nat.le_of_ble_eq_true rfl) dX0_first_9 rfl ?_
  refine lv_istore_n (lv' := [(2, .int (nI 0)), (0, .ref hx), (1, .int (nI most))]) hC.1 hC.2.1 dX0_first_12 rfl hl (by decide) rfl (fun ls hl => ?_)
  refine lv_iconst (v := (nI 0)) hC.1 hC.2.1 dX0_first_13 (by decide) ?_
  refine lv_istore_n (lv' := [(3, .int (nI 0)), (2, .int (nI 0)), (0, .ref hx), (1, .int (nI most))]) hC.1 hC.2.1 dX0_first_14 rfl hl (by decide) rfl (fun ls hl => ?_)
  refine lv_iload_n hC.1 hC.2.1 dX0_first_15 rfl (lv_at hl 1 rfl) ?_
  refine z_if_le (tgt := 54) hC dX0_first_16 (by decide) (by omega) (fun h_16 => ?_) (fun h_16 => by omega)
  refine lv_iconst (v := (-1)) hC.1 hC.2.1 dX0_first_54 (by decide) ?_
  exact RV.iret hC hr hlk dX0_first_55 (rfl)

set_option maxHeartbeats 4000000 in
set_option maxRecDepth 100000 in
theorem k_first (l : Launch) {D : va_G} {T : ClassId × ClassId × ClassId} {z0 : Nat} {L : List Nat} {f : Nat → va_E} {hx g ln : Nat} {rw : Nat → Nat} {b : Nat → Nat} {mk : Int32} {wd : Nat → List Nat} (hX : CX T L f hx g ln rw b mk wd) {most N F : Nat} (hm : most ≤ 5) (hN : N ≤ most) (hN1 : 0 < N) (h1 : ∀ k, k < N → wi k b 3 = false) (h2 : wi N b 3 = true) (hF : F < 9) (h3 : ∀ t, t < F → wi (N - 1) (turnC b t) (t / 3) = false) (h4 : wi (N - 1) (turnC b F) (F / 3) = true) : RV l yX0_first wsX0_first (21) (zPre D T z0 L f) [.ref hx, .int (nI most)] (some (.int (nI F))) := by
  refine RV.of (cc := cX0_first) (maxL := 4) (ret := (some .int)) (by decide) rfl (Nat.le_of_ble_eq_true rfl) ?_
  intro p e s m args below meth c hC hr hlk hB ls hl
  have hl : lv_has ls 4 [(0, .ref hx), (1, .int (nI most))] := hl
  obtain ⟨hE, hP, hD⟩ := hB
  obtain ⟨⟨hmx, hex⟩, ⟨hmg, G, heg, hG⟩, ⟨hml, Nl, hel, hNl⟩, hrw, hinj, hvb, hwd⟩ := id hX
  have hS : va_S (zA z0) s.heap s.heap [] := va_S.rf
  have loop : ∀ (n t : Nat), t + n = F → ∀ ls : Array Slot, lv_has ls 4 [(0, .ref hx), (1, .int (nI most)), (2, .int (nI N)), (3, .int (nI t))] → W p l e (rD (21) 0 0) s m args below meth c s.heap [] 0 0 (MQ below (RVQ (some (.int (nI F)))) args s 0 0 (fun _ => False)) (F0 m 15 ls []) := by
    intro n
    induction n with
    | zero =>
      intro t hc0 ls hl
      obtain rfl : t = F := by omega
      refine lv_iload_n hC.1 hC.2.1 dX0_first_15 rfl (lv_at hl 2 rfl) ?_
      refine z_if_le (tgt := 54) hC dX0_first_16 (by decide) (by omega) (fun h_16 => by omega) (fun h_16 => ?_)
      refine lv_iload_n hC.1 hC.2.1 dX0_first_19 rfl (lv_at hl 3 rfl) ?_
      refine lv_bipush (v := (nI 9)) hC.1 hC.2.1 dX0_first_20 (by decide) ?_
      refine z_icmp_ge (tgt := 54) hC dX0_first_22 (by decide) (by omega) (by omega) (fun h_22 => by omega) (fun h_22 => ?_)
      refine lv_aload_n hC.1 hC.2.1 dX0_first_25 rfl (lv_at hl 0 rfl) ?_
      refine p_get (ref := "CornerCube") hC hE hP hmx hex rfl (by decide +kernel) 0 (by decide) (by decide +kernel) rfl rfl dX0_first_26 ?_
      refine lv_iload_n hC.1 hC.2.1 dX0_first_29 rfl (lv_at hl 3 rfl) ?_
      refine p_cs (n := 2) (k_turned l hvb (by omega)) hC gX0_first_X0_turned rfl (by decide +kernel) rfl ⟨by decide, by decide⟩ ⟨Nat.zero_le _, Nat.zero_le _⟩ hl.1 (Nat.le_of_ble_eq_true rfl) dX0_first_30 rfl ?_
      refine lv_iload_n hC.1 hC.2.1 dX0_first_33 rfl (lv_at hl 2 rfl) ?_
      refine lv_iconst (v := (nI 1)) hC.1 hC.2.1 dX0_first_34 (by decide) ?_
      refine z_isub hC dX0_first_35 (by omega) ?_
      refine lv_iload_n hC.1 hC.2.1 dX0_first_36 rfl (lv_at hl 3 rfl) ?_
      refine p_cs (n := 1) (k_faceOf l (by omega)) hC gX0_first_X0_faceOf rfl (by decide +kernel) rfl ⟨by decide, by decide⟩ ⟨Nat.zero_le _, Nat.zero_le _⟩ hl.1 (Nat.le_of_ble_eq_true rfl) dX0_first_37 rfl ?_
      refine q_i (lastI (t / 3)) ((lastI_lt (by omega)).symm) ?_
      refine p_cs (n := 3) (k_within l (N - 1) (turnC_Va b t) (lf := t / 3) (by omega) (by omega)) hC gX0_first_X0_isRightWithin rfl (by decide +kernel) rfl ⟨by simp only [rD]; omega, by simp only [rD]; omega⟩ ⟨Nat.zero_le _, Nat.zero_le _⟩ hl.1 (Nat.le_of_ble_eq_true rfl) dX0_first_40 rfl ?_
      refine z_if_eq (tgt := 48) hC dX0_first_43 (by decide) (bI_lt _) (fun h_43 => absurd (bI_0.mp h_43) (by simp [h4])) (fun h_43 => ?_)
      refine lv_iload_n hC.1 hC.2.1 dX0_first_46 rfl (lv_at hl 3 rfl) ?_
      exact RV.iret hC hr hlk dX0_first_47 (rfl)
    | succ n ih =>
      intro t hc0 ls hl
      refine lv_iload_n hC.1 hC.2.1 dX0_first_15 rfl (lv_at hl 2 rfl) ?_
      refine z_if_le (tgt := 54) hC dX0_first_16 (by decide) (by omega) (fun h_16 => by omega) (fun h_16 => ?_)
      refine lv_iload_n hC.1 hC.2.1 dX0_first_19 rfl (lv_at hl 3 rfl) ?_
      refine lv_bipush (v := (nI 9)) hC.1 hC.2.1 dX0_first_20 (by decide) ?_
      refine z_icmp_ge (tgt := 54) hC dX0_first_22 (by decide) (by omega) (by omega) (fun h_22 => by omega) (fun h_22 => ?_)
      refine lv_aload_n hC.1 hC.2.1 dX0_first_25 rfl (lv_at hl 0 rfl) ?_
      refine p_get (ref := "CornerCube") hC hE hP hmx hex rfl (by decide +kernel) 0 (by decide) (by decide +kernel) rfl rfl dX0_first_26 ?_
      refine lv_iload_n hC.1 hC.2.1 dX0_first_29 rfl (lv_at hl 3 rfl) ?_
      refine p_cs (n := 2) (k_turned l hvb (by omega)) hC gX0_first_X0_turned rfl (by decide +kernel) rfl ⟨by decide, by decide⟩ ⟨Nat.zero_le _, Nat.zero_le _⟩ hl.1 (Nat.le_of_ble_eq_true rfl) dX0_first_30 rfl ?_
      refine lv_iload_n hC.1 hC.2.1 dX0_first_33 rfl (lv_at hl 2 rfl) ?_
      refine lv_iconst (v := (nI 1)) hC.1 hC.2.1 dX0_first_34 (by decide) ?_
      refine z_isub hC dX0_first_35 (by omega) ?_
      refine lv_iload_n hC.1 hC.2.1 dX0_first_36 rfl (lv_at hl 3 rfl) ?_
      refine p_cs (n := 1) (k_faceOf l (by omega)) hC gX0_first_X0_faceOf rfl (by decide +kernel) rfl ⟨by decide, by decide⟩ ⟨Nat.zero_le _, Nat.zero_le _⟩ hl.1 (Nat.le_of_ble_eq_true rfl) dX0_first_37 rfl ?_
      refine q_i (lastI (t / 3)) ((lastI_lt (by omega)).symm) ?_
      refine p_cs (n := 3) (k_within l (N - 1) (turnC_Va b t) (lf := t / 3) (by omega) (by omega)) hC gX0_first_X0_isRightWithin rfl (by decide +kernel) rfl ⟨by simp only [rD]; omega, by simp only [rD]; omega⟩ ⟨Nat.zero_le _, Nat.zero_le _⟩ hl.1 (Nat.le_of_ble_eq_true rfl) dX0_first_40 rfl ?_
      refine z_if_eq (tgt := 48) hC dX0_first_43 (by decide) (bI_lt _) (fun h_43 => ?_) (fun h_43 => absurd (bI_n0.mp h_43) (by simp [h3 t (by omega)]))
      refine lv_iinc (v := nI (t + 1)) (lv' := [(3, .int (nI (t + 1))), (0, .ref hx), (1, .int (nI most)), (2, .int (nI N))]) hC.1 hC.2.1 dX0_first_48 hl (k := 3) rfl (z_inc _) (by decide) rfl (fun ls hl => ?_)
      refine lv_goto (tgt := 15) hC.1 hC.2.1 dX0_first_51 (by decide) ?_
      exact ih (t + 1) (by omega) ls (lv_sub hl [1, 2, 3, 0] rfl)
  refine lv_iload_n hC.1 hC.2.1 dX0_first_0 rfl (lv_at hl 1 rfl) ?_
  refine p_cs (n := 1) (k_checkMost l hm) hC gX0_first_X0_checkMost rfl (by decide +kernel) rfl ⟨by decide, by decide⟩ ⟨Nat.zero_le _, Nat.zero_le _⟩ hl.1 (Nat.le_of_ble_eq_true rfl) dX0_first_1 rfl ?_
  refine lv_aload_n hC.1 hC.2.1 dX0_first_4 rfl (lv_at hl 0 rfl) ?_
  refine p_get (ref := "CornerCube") hC hE hP hmx hex rfl (by decide +kernel) 0 (by decide) (by decide +kernel) rfl rfl dX0_first_5 ?_
  refine lv_iload_n hC.1 hC.2.1 dX0_first_8 rfl (lv_at hl 1 rfl) ?_
  refine p_cs (n := 2) (k_fewest l hvb hm hN h1 h2) hC gX0_first_X0_fewestTurns rfl (by decide +kernel) rfl ⟨by decide, by decide⟩ ⟨Nat.zero_le _, Nat.zero_le _⟩ hl.1 (Nat.le_of_ble_eq_true rfl) dX0_first_9 rfl ?_
  refine lv_istore_n (lv' := [(2, .int (nI N)), (0, .ref hx), (1, .int (nI most))]) hC.1 hC.2.1 dX0_first_12 rfl hl (by decide) rfl (fun ls hl => ?_)
  refine lv_iconst (v := (nI 0)) hC.1 hC.2.1 dX0_first_13 (by decide) ?_
  refine lv_istore_n (lv' := [(3, .int (nI 0)), (2, .int (nI N)), (0, .ref hx), (1, .int (nI most))]) hC.1 hC.2.1 dX0_first_14 rfl hl (by decide) rfl (fun ls hl => ?_)
  exact loop F 0 (Nat.zero_add _) ls (lv_sub hl [2, 3, 1, 0] rfl)

/-- the best of the first n turns, the first of several -/
def bst (b : Nat → Nat) : Nat → Nat
  | 0 => 0
  | n + 1 => if n = 0 then 0 else if nRt (turnC b (bst b n)) < nRt (turnC b n) then n else bst b n
theorem bst_lt (b : Nat → Nat) : ∀ n, n ≤ 9 → bst b n < 9
  | 0, _ => by show 0 < 9; decide
  | n + 1, h => by
    have := bst_lt b n (by omega)
    unfold bst
    split
    · decide
    · split <;> omega
theorem nRt_lt (b : Nat → Nat) : nRt b < 2 ^ 31 := Nat.lt_of_le_of_lt (ct_le _ 8) (by decide)
set_option maxHeartbeats 4000000 in
set_option maxRecDepth 100000 in
theorem k_advise (l : Launch) {D : va_G} {T : ClassId × ClassId × ClassId} {z0 : Nat} {L : List Nat} {f : Nat → va_E} {hx g ln : Nat} {rw : Nat → Nat} {b : Nat → Nat} {mk : Int32} {wd : Nat → List Nat} (hX : CX T L f hx g ln rw b mk wd)  : RV l yX0_advise wsX0_advise (6) (zPre D T z0 L f) [.ref hx] (some (.int (nI (bst b 9)))) := by
  refine RV.of (cc := cX0_advise) (maxL := 5) (ret := (some .int)) (by decide) rfl (Nat.le_of_ble_eq_true rfl) ?_
  intro p e s m args below meth c hC hr hlk hB ls hl
  have hl : lv_has ls 5 [(0, .ref hx)] := hl
  obtain ⟨hE, hP, hD⟩ := hB
  obtain ⟨⟨hmx, hex⟩, ⟨hmg, G, heg, hG⟩, ⟨hml, Nl, hel, hNl⟩, hrw, hinj, hvb, hwd⟩ := id hX
  have hS : va_S (zA z0) s.heap s.heap [] := va_S.rf
  have loop : ∀ (n k : Nat), k + n = 8 → ∀ ls : Array Slot, lv_has ls 5 [(0, .ref hx), (1, .int (nI (bst b (k + 1)))), (2, .int (nI (nRt (turnC b (bst b (k + 1)))))), (3, .int (nI (k + 1)))] → W p l e (rD (6) 0 0) s m args below meth c s.heap [] 0 0 (MQ below (RVQ (some (.int (nI (bst b 9))))) args s 0 0 (fun _ => False)) (F0 m 6 ls []) := by
    intro n
    induction n with
    | zero =>
      intro k hc0 ls hl
      obtain rfl : k = 8 := by omega
      refine lv_iload_n hC.1 hC.2.1 dX0_advise_6 rfl (lv_at hl 3 rfl) ?_
      refine lv_bipush (v := (nI 9)) hC.1 hC.2.1 dX0_advise_7 (by decide) ?_
      refine z_icmp_ge (tgt := 42) hC dX0_advise_9 (by decide) (by omega) (by omega) (fun h_9 => ?_) (fun h_9 => by omega)
      refine lv_iload_n hC.1 hC.2.1 dX0_advise_42 rfl (lv_at hl 1 rfl) ?_
      exact RV.iret hC hr hlk dX0_advise_43 (rfl)
    | succ n ih =>
      intro k hc0 ls hl
      refine lv_iload_n hC.1 hC.2.1 dX0_advise_6 rfl (lv_at hl 3 rfl) ?_
      refine lv_bipush (v := (nI 9)) hC.1 hC.2.1 dX0_advise_7 (by decide) ?_
      refine z_icmp_ge (tgt := 42) hC dX0_advise_9 (by decide) (by omega) (by omega) (fun h_9 => by omega) (fun h_9 => ?_)
      refine lv_aload_n hC.1 hC.2.1 dX0_advise_12 rfl (lv_at hl 0 rfl) ?_
      refine p_get (ref := "CornerCube") hC hE hP hmx hex rfl (by decide +kernel) 0 (by decide) (by decide +kernel) rfl rfl dX0_advise_13 ?_
      refine lv_iload_n hC.1 hC.2.1 dX0_advise_16 rfl (lv_at hl 3 rfl) ?_
      refine p_cs (n := 2) (k_turned l hvb (by omega)) hC gX0_advise_X0_turned rfl (by decide +kernel) rfl ⟨by decide, by decide⟩ ⟨Nat.zero_le _, Nat.zero_le _⟩ hl.1 (Nat.le_of_ble_eq_true rfl) dX0_advise_17 rfl ?_
      refine p_cs (n := 1) (k_rightCorners l (turnC_Va _ _)) hC gX0_advise_X0_rightCorners rfl (by decide +kernel) rfl ⟨by decide, by decide⟩ ⟨Nat.zero_le _, Nat.zero_le _⟩ hl.1 (Nat.le_of_ble_eq_true rfl) dX0_advise_20 rfl ?_
      refine lv_istore (lv' := [(4, .int (nI (nRt (turnC b (k + 1))))), (0, .ref hx), (1, .int (nI (bst b (k + 1)))), (2, .int (nI (nRt (turnC b (bst b (k + 1)))))), (3, .int (nI (k + 1)))]) hC.1 hC.2.1 dX0_advise_23 hl (by decide) rfl (fun ls hl => ?_)
      refine lv_iload hC.1 hC.2.1 dX0_advise_25 (lv_at hl 0 rfl) ?_
      refine lv_iload_n hC.1 hC.2.1 dX0_advise_27 rfl (lv_at hl 3 rfl) ?_
      refine z_icmp_le (tgt := 36) hC dX0_advise_28 (by decide) (nRt_lt _) (nRt_lt _) (fun h_28 => ?_) (fun h_28 => ?_)
      · refine lv_iinc (v := nI (k + 1 + 1)) (lv' := [(3, .int (nI (k + 1 + 1))), (4, .int (nI (nRt (turnC b (k + 1))))), (0, .ref hx), (1, .int (nI (bst b (k + 1)))), (2, .int (nI (nRt (turnC b (bst b (k + 1))))))]) hC.1 hC.2.1 dX0_advise_36 hl (k := 4) rfl (z_inc _) (by decide) rfl (fun ls hl => ?_)
        refine lv_goto (tgt := 6) hC.1 hC.2.1 dX0_advise_39 (by decide) ?_
        exact ih (k + 1) (by omega) ls (by have e9 : bst b (k + 1 + 1) = bst b (k + 1) := (if_neg (Nat.succ_ne_zero k)).trans (if_neg (by omega)); rw [e9]; exact (lv_sub hl [2, 3, 4, 0] rfl))
      · refine lv_iload_n hC.1 hC.2.1 dX0_advise_31 rfl (lv_at hl 4 rfl) ?_
        refine lv_istore_n (lv' := [(1, .int (nI (k + 1))), (4, .int (nI (nRt (turnC b (k + 1))))), (0, .ref hx), (2, .int (nI (nRt (turnC b (bst b (k + 1)))))), (3, .int (nI (k + 1)))]) hC.1 hC.2.1 dX0_advise_32 rfl hl (by decide) rfl (fun ls hl => ?_)
        refine lv_iload hC.1 hC.2.1 dX0_advise_33 (lv_at hl 1 rfl) ?_
        refine lv_istore_n (lv' := [(2, .int (nI (nRt (turnC b (k + 1))))), (1, .int (nI (k + 1))), (4, .int (nI (nRt (turnC b (k + 1))))), (0, .ref hx), (3, .int (nI (k + 1)))]) hC.1 hC.2.1 dX0_advise_35 rfl hl (by decide) rfl (fun ls hl => ?_)
        refine lv_iinc (v := nI (k + 1 + 1)) (lv' := [(3, .int (nI (k + 1 + 1))), (2, .int (nI (nRt (turnC b (k + 1))))), (1, .int (nI (k + 1))), (4, .int (nI (nRt (turnC b (k + 1))))), (0, .ref hx)]) hC.1 hC.2.1 dX0_advise_36 hl (k := 4) rfl (z_inc _) (by decide) rfl (fun ls hl => ?_)
        refine lv_goto (tgt := 6) hC.1 hC.2.1 dX0_advise_39 (by decide) ?_
        exact ih (k + 1) (by omega) ls (by have e9 : bst b (k + 1 + 1) = k + 1 := (if_neg (Nat.succ_ne_zero k)).trans (if_pos (by omega)); rw [e9]; exact (lv_sub hl [4, 2, 1, 0] rfl))
  refine lv_iconst (v := (nI 0)) hC.1 hC.2.1 dX0_advise_0 (by decide) ?_
  refine lv_istore_n (lv' := [(1, .int (nI 0)), (0, .ref hx)]) hC.1 hC.2.1 dX0_advise_1 rfl hl (by decide) rfl (fun ls hl => ?_)
  refine lv_iconst (v := (-1)) hC.1 hC.2.1 dX0_advise_2 (by decide) ?_
  refine lv_istore_n (lv' := [(2, .int (-1)), (1, .int (nI 0)), (0, .ref hx)]) hC.1 hC.2.1 dX0_advise_3 rfl hl (by decide) rfl (fun ls hl => ?_)
  refine lv_iconst (v := (nI 0)) hC.1 hC.2.1 dX0_advise_4 (by decide) ?_
  refine lv_istore_n (lv' := [(3, .int (nI 0)), (2, .int (-1)), (1, .int (nI 0)), (0, .ref hx)]) hC.1 hC.2.1 dX0_advise_5 rfl hl (by decide) rfl (fun ls hl => ?_)
  refine lv_iload_n hC.1 hC.2.1 dX0_advise_6 rfl (lv_at hl 0 rfl) ?_
  refine lv_bipush (v := (nI 9)) hC.1 hC.2.1 dX0_advise_7 (by decide) ?_
  refine z_icmp_ge (tgt := 42) hC dX0_advise_9 (by decide) (by omega) (by omega) (fun h_9 => by omega) (fun h_9 => ?_)
  refine lv_aload_n hC.1 hC.2.1 dX0_advise_12 rfl (lv_at hl 3 rfl) ?_
  refine p_get (ref := "CornerCube") hC hE hP hmx hex rfl (by decide +kernel) 0 (by decide) (by decide +kernel) rfl rfl dX0_advise_13 ?_
  refine lv_iload_n hC.1 hC.2.1 dX0_advise_16 rfl (lv_at hl 0 rfl) ?_
  refine p_cs (n := 2) (k_turned l hvb (by decide)) hC gX0_advise_X0_turned rfl (by decide +kernel) rfl ⟨by decide, by decide⟩ ⟨Nat.zero_le _, Nat.zero_le _⟩ hl.1 (Nat.le_of_ble_eq_true rfl) dX0_advise_17 rfl ?_
  refine p_cs (n := 1) (k_rightCorners l (turnC_Va _ _)) hC gX0_advise_X0_rightCorners rfl (by decide +kernel) rfl ⟨by decide, by decide⟩ ⟨Nat.zero_le _, Nat.zero_le _⟩ hl.1 (Nat.le_of_ble_eq_true rfl) dX0_advise_20 rfl ?_
  refine lv_istore (lv' := [(4, .int (nI (nRt (turnC b 0)))), (3, .int (nI 0)), (2, .int (-1)), (1, .int (nI 0)), (0, .ref hx)]) hC.1 hC.2.1 dX0_advise_23 hl (by decide) rfl (fun ls hl => ?_)
  refine lv_iload hC.1 hC.2.1 dX0_advise_25 (lv_at hl 0 rfl) ?_
  refine lv_iload_n hC.1 hC.2.1 dX0_advise_27 rfl (lv_at hl 2 rfl) ?_
  refine lv_icmp_le (tgt := 36) hC.1 hC.2.1 dX0_advise_28 (by decide) (fun h_28 => absurd h_28 (m1_nlt _ (nRt_lt _))) (fun h_28 => ?_)
  refine lv_iload_n hC.1 hC.2.1 dX0_advise_31 rfl (lv_at hl 1 rfl) ?_
  refine lv_istore_n (lv' := [(1, .int (nI 0)), (4, .int (nI (nRt (turnC b 0)))), (3, .int (nI 0)), (2, .int (-1)), (0, .ref hx)]) hC.1 hC.2.1 dX0_advise_32 rfl hl (by decide) rfl (fun ls hl => ?_)
  refine lv_iload hC.1 hC.2.1 dX0_advise_33 (lv_at hl 1 rfl) ?_
  refine lv_istore_n (lv' := [(2, .int (nI (nRt (turnC b 0)))), (1, .int (nI 0)), (4, .int (nI (nRt (turnC b 0)))), (3, .int (nI 0)), (0, .ref hx)]) hC.1 hC.2.1 dX0_advise_35 rfl hl (by decide) rfl (fun ls hl => ?_)
  refine lv_iinc (v := nI (0 + 1)) (lv' := [(3, .int (nI (0 + 1))), (2, .int (nI (nRt (turnC b 0)))), (1, .int (nI 0)), (4, .int (nI (nRt (turnC b 0)))), (0, .ref hx)]) hC.1 hC.2.1 dX0_advise_36 hl (k := 3) rfl (z_inc _) (by decide) rfl (fun ls hl => ?_)
  refine lv_goto (tgt := 6) hC.1 hC.2.1 dX0_advise_39 (by decide) ?_
  exact loop 8 0 rfl ls (lv_sub hl [4, 2, 1, 0] rfl)

def dgC (b : Nat → Nat) (mk : Int32) (wd : Nat → List Nat) : Nat → Int64
  | 0 => 1787
  | k + 1 => dgC b mk wd k * 31 + (cV b mk wd k).toInt64
def dgT (b : Nat → Nat) (q : Nat) (d : Int64) : Nat → Int64
  | 0 => d
  | k + 1 => dgT b q d k * 31 + (nI (tV b q k)).toInt64
def dgP (b : Nat → Nat) (d : Int64) : Nat → Int64
  | 0 => d
  | q + 1 => dgT b q (dgP b d q) 3
def dgV (l : List Nat) (d : Int64) : Nat → Int64
  | 0 => d
  | k + 1 => dgV l d k * 31 + (nI (wV l k)).toInt64
def dgL (l : List Nat) (d : Int64) : Nat → Int64
  | 0 => d
  | k + 1 => dgL l d k * 31 + (nI (l.getD k 0)).toInt64
def dgW (wd : Nat → List Nat) (d : Int64) : Nat → Int64
  | 0 => d
  | w + 1 => dgL (wd w) (dgV (wd w) (dgW wd d w) 4) (wd w).length
def dig9 (b : Nat → Nat) (mk : Int32) (wd : Nat → List Nat) : Int64 := dgW wd (dgP b (dgC b mk wd 7) 8) 5
set_option maxHeartbeats 4000000 in
set_option maxRecDepth 100000 in
theorem k_digest (l : Launch) {D : va_G} {T : ClassId × ClassId × ClassId} {z0 : Nat} {L : List Nat} {f : Nat → va_E} {hx g ln : Nat} {rw : Nat → Nat} {b : Nat → Nat} {mk : Int32} {wd : Nat → List Nat} (hX : CX T L f hx g ln rw b mk wd) (hOb : ordN b < 1000) (hO : ∀ w, w < 5 → ordN (deed (wd w)) < 1000) : RV l yX0_digest wsX0_digest (9) (zPre D T z0 L f) [.ref hx] (some (.long (dig9 b mk wd))) := by
  refine RV.of (cc := cX0_digest) (maxL := 5) (ret := (some .long)) (by decide) rfl (Nat.le_of_ble_eq_true rfl) ?_
  intro p e s m args below meth c hC hr hlk hB ls hl
  have hl : lv_has ls 5 [(0, .ref hx)] := hl
  obtain ⟨hE, hP, hD⟩ := hB
  obtain ⟨⟨hmx, hex⟩, ⟨hmg, G, heg, hG⟩, ⟨hml, Nl, hel, hNl⟩, hrw, hinj, hvb, hwd⟩ := id hX
  have hS : va_S (zA z0) s.heap s.heap [] := va_S.rf
  have loop3 : ∀ (n w : Nat), w + n = 5 → ∀ ls : Array Slot, lv_has ls 5 [(0, .ref hx), (1, .long (dgW wd (dgP b (dgC b mk wd 7) 8) w)), (3, .int (nI w))] → W p l e (rD (9) 0 0) s m args below meth c s.heap [] 0 0 (MQ below (RVQ (some (.long (dig9 b mk wd)))) args s 0 0 (fun _ => False)) (F0 m 77 ls []) := by
    intro n
    induction n with
    | zero =>
      intro w hc0 ls hl
      obtain rfl : w = 5 := by omega
      refine lv_iload_n hC.1 hC.2.1 dX0_digest_77 rfl (lv_at hl 2 rfl) ?_
      refine lv_iconst (v := (nI 5)) hC.1 hC.2.1 dX0_digest_78 (by decide) ?_
      refine z_icmp_ge (tgt := 155) hC dX0_digest_79 (by decide) (by omega) (by omega) (fun h_79 => ?_) (fun h_79 => by omega)
      refine lv_lload_n hC.1 hC.2.1 dX0_digest_155 rfl (lv_at hl 1 rfl) ?_
      exact RV.lret hC hr hlk dX0_digest_156 (rfl)
    | succ n ih =>
      intro w hc0 ls hl
      have hw9 : w < 5 := by omega
      obtain ⟨hrm, h, her, hh⟩ := hrw w hw9
      have hl12 := (hwd w hw9).1
      have hl9 := (hwd w hw9).2
      have in2 : ∀ (n k : Nat), k + n = (wd w).length → ∀ ls : Array Slot, lv_has ls 5 [(0, .ref hx), (1, .long (dgL (wd w) (dgV (wd w) (dgW wd (dgP b (dgC b mk wd 7) 8) w) 4) k)), (3, .int (nI w)), (4, .int (nI k))] → W p l e (rD (9) 0 0) s m args below meth c s.heap [] 0 0 (MQ below (RVQ (some (.long (dig9 b mk wd)))) args s 0 0 (fun _ => False)) (F0 m 115 ls []) := by
        intro n
        induction n with
        | zero =>
          intro k hc0 ls hl
          obtain rfl : k = (wd w).length := by omega
          refine lv_iload hC.1 hC.2.1 dX0_digest_115 (lv_at hl 3 rfl) ?_
          refine lv_aload_n hC.1 hC.2.1 dX0_digest_117 rfl (lv_at hl 0 rfl) ?_
          refine p_get (ref := "CornerCube") hC hE hP hmx hex rfl (by decide +kernel) 3 (by decide) (by decide +kernel) rfl rfl dX0_digest_118 ?_
          refine lv_iload_n hC.1 hC.2.1 dX0_digest_121 rfl (lv_at hl 2 rfl) ?_
          refine p_iald hC hE hP hml hel (by omega) (by decide) dX0_digest_122 ?_
          refine q_i (nI (wd w).length) (hNl _ (by omega)) ?_
          refine z_icmp_ge (tgt := 149) hC dX0_digest_123 (by decide) (by omega) (by omega) (fun h_123 => ?_) (fun h_123 => by omega)
          refine lv_iinc (v := nI (w + 1)) (lv' := [(3, .int (nI (w + 1))), (0, .ref hx), (1, .long (dgL (wd w) (dgV (wd w) (dgW wd (dgP b (dgC b mk wd 7) 8) w) 4) (wd w).length)), (4, .int (nI (wd w).length))]) hC.1 hC.2.1 dX0_digest_149 hl (k := 2) rfl (z_inc _) (by decide) rfl (fun ls hl => ?_)
          refine lv_goto (tgt := 77) hC.1 hC.2.1 dX0_digest_152 (by decide) ?_
          exact ih (w + 1) (by omega) ls (lv_sub hl [1, 2, 0] rfl)
        | succ n ih3 =>
          intro k hc0 ls hl
          refine lv_iload hC.1 hC.2.1 dX0_digest_115 (lv_at hl 3 rfl) ?_
          refine lv_aload_n hC.1 hC.2.1 dX0_digest_117 rfl (lv_at hl 0 rfl) ?_
          refine p_get (ref := "CornerCube") hC hE hP hmx hex rfl (by decide +kernel) 3 (by decide) (by decide +kernel) rfl rfl dX0_digest_118 ?_
          refine lv_iload_n hC.1 hC.2.1 dX0_digest_121 rfl (lv_at hl 2 rfl) ?_
          refine p_iald hC hE hP hml hel (by omega) (by decide) dX0_digest_122 ?_
          refine q_i (nI (wd w).length) (hNl _ (by omega)) ?_
          refine z_icmp_ge (tgt := 149) hC dX0_digest_123 (by decide) (by omega) (by omega) (fun h_123 => by omega) (fun h_123 => ?_)
          refine lv_lload_n hC.1 hC.2.1 dX0_digest_126 rfl (lv_at hl 1 rfl) ?_
          refine lv_ldc2 (v := 31) hC.1 hC.2.1 hC.2.2.2.1 (hC.2.2.2.2 (.constantLong RX0 145 (31)) (by decide +kernel)) dX0_digest_127 ?_
          refine lv_lmul hC.1 hC.2.1 dX0_digest_130 ?_
          refine lv_aload_n hC.1 hC.2.1 dX0_digest_131 rfl (lv_at hl 0 rfl) ?_
          refine p_get (ref := "CornerCube") hC hE hP hmx hex rfl (by decide +kernel) 2 (by decide) (by decide +kernel) rfl rfl dX0_digest_132 ?_
          refine lv_iload_n hC.1 hC.2.1 dX0_digest_135 rfl (lv_at hl 2 rfl) ?_
          refine p_aald hC hE hP hmg heg (by omega) (by decide) (hG _ (by omega)) dX0_digest_136 ?_
          refine lv_iload hC.1 hC.2.1 dX0_digest_137 (lv_at hl 3 rfl) ?_
          refine p_iald hC hE hP hrm her (by omega) (by decide) dX0_digest_139 ?_
          refine q_i (nI ((wd w).getD k 0)) (hh _ (by omega)) ?_
          refine lv_i2l hC.1 hC.2.1 dX0_digest_140 rfl ?_
          refine lv_ladd hC.1 hC.2.1 dX0_digest_141 ?_
          refine lv_lstore_n (lv' := [(1, .long (((dgL (wd w) (dgV (wd w) (dgW wd (dgP b (dgC b mk wd 7) 8) w) 4) k) * 31) + ((nI ((wd w).getD k 0))).toInt64)), (0, .ref hx), (3, .int (nI w)), (4, .int (nI k))]) hC.1 hC.2.1 dX0_digest_142 rfl hl (by decide) rfl (fun ls hl => ?_)
          refine lv_iinc (v := nI (k + 1)) (lv' := [(4, .int (nI (k + 1))), (1, .long (((dgL (wd w) (dgV (wd w) (dgW wd (dgP b (dgC b mk wd 7) 8) w) 4) k) * 31) + ((nI ((wd w).getD k 0))).toInt64)), (0, .ref hx), (3, .int (nI w))]) hC.1 hC.2.1 dX0_digest_143 hl (k := 3) rfl (z_inc _) (by decide) rfl (fun ls hl => ?_)
          refine lv_goto (tgt := 115) hC.1 hC.2.1 dX0_digest_146 (by decide) ?_
          exact ih3 (k + 1) (by omega) ls (lv_sub hl [2, 1, 3, 0] rfl)
      have in1 : ∀ (n k : Nat), k + n = 4 → ∀ ls : Array Slot, lv_has ls 5 [(0, .ref hx), (1, .long (dgV (wd w) (dgW wd (dgP b (dgC b mk wd 7) 8) w) k)), (3, .int (nI w)), (4, .int (nI k))] → W p l e (rD (9) 0 0) s m args below meth c s.heap [] 0 0 (MQ below (RVQ (some (.long (dig9 b mk wd)))) args s 0 0 (fun _ => False)) (F0 m 85 ls []) := by
        intro n
        induction n with
        | zero =>
          intro k hc0 ls hl
          obtain rfl : k = 4 := by omega
          refine lv_iload hC.1 hC.2.1 dX0_digest_85 (lv_at hl 3 rfl) ?_
          refine lv_iconst (v := (nI 4)) hC.1 hC.2.1 dX0_digest_87 (by decide) ?_
          refine z_icmp_ge (tgt := 112) hC dX0_digest_88 (by decide) (by omega) (by omega) (fun h_88 => ?_) (fun h_88 => by omega)
          refine lv_iconst (v := (nI 0)) hC.1 hC.2.1 dX0_digest_112 (by decide) ?_
          refine lv_istore (lv' := [(4, .int (nI 0)), (0, .ref hx), (1, .long (dgV (wd w) (dgW wd (dgP b (dgC b mk wd 7) 8) w) 4)), (3, .int (nI w))]) hC.1 hC.2.1 dX0_digest_113 hl (by decide) rfl (fun ls hl => ?_)
          exact in2 _ 0 (Nat.zero_add _) ls (lv_sub hl [1, 2, 3, 0] rfl)
        | succ n ih3 =>
          intro k hc0 ls hl
          refine lv_iload hC.1 hC.2.1 dX0_digest_85 (lv_at hl 3 rfl) ?_
          refine lv_iconst (v := (nI 4)) hC.1 hC.2.1 dX0_digest_87 (by decide) ?_
          refine z_icmp_ge (tgt := 112) hC dX0_digest_88 (by decide) (by omega) (by omega) (fun h_88 => by omega) (fun h_88 => ?_)
          refine lv_lload_n hC.1 hC.2.1 dX0_digest_91 rfl (lv_at hl 1 rfl) ?_
          refine lv_ldc2 (v := 31) hC.1 hC.2.1 hC.2.2.2.1 (hC.2.2.2.2 (.constantLong RX0 145 (31)) (by decide +kernel)) dX0_digest_92 ?_
          refine lv_lmul hC.1 hC.2.1 dX0_digest_95 ?_
          refine lv_aload_n hC.1 hC.2.1 dX0_digest_96 rfl (lv_at hl 0 rfl) ?_
          refine lv_iload_n hC.1 hC.2.1 dX0_digest_97 rfl (lv_at hl 2 rfl) ?_
          refine lv_iload hC.1 hC.2.1 dX0_digest_98 (lv_at hl 3 rfl) ?_
          refine p_cvB (n := 2) (k_word l hX hw9 (hO w hw9) (by omega)) hC hE hP hD hS (hmx) (hex) rfl gX0_digest_X0_word rfl (by decide +kernel) rfl ⟨by decide, by decide⟩ ⟨Nat.zero_le _, Nat.zero_le _⟩ hl.1 (Nat.le_of_ble_eq_true rfl) dX0_digest_100 rfl ?_
          refine lv_i2l hC.1 hC.2.1 dX0_digest_103 rfl ?_
          refine lv_ladd hC.1 hC.2.1 dX0_digest_104 ?_
          refine lv_lstore_n (lv' := [(1, .long (((dgV (wd w) (dgW wd (dgP b (dgC b mk wd 7) 8) w) k) * 31) + ((nI (wV (wd w) k))).toInt64)), (0, .ref hx), (3, .int (nI w)), (4, .int (nI k))]) hC.1 hC.2.1 dX0_digest_105 rfl hl (by decide) rfl (fun ls hl => ?_)
          refine lv_iinc (v := nI (k + 1)) (lv' := [(4, .int (nI (k + 1))), (1, .long (((dgV (wd w) (dgW wd (dgP b (dgC b mk wd 7) 8) w) k) * 31) + ((nI (wV (wd w) k))).toInt64)), (0, .ref hx), (3, .int (nI w))]) hC.1 hC.2.1 dX0_digest_106 hl (k := 3) rfl (z_inc _) (by decide) rfl (fun ls hl => ?_)
          refine lv_goto (tgt := 85) hC.1 hC.2.1 dX0_digest_109 (by decide) ?_
          exact ih3 (k + 1) (by omega) ls (lv_sub hl [2, 1, 3, 0] rfl)
      refine lv_iload_n hC.1 hC.2.1 dX0_digest_77 rfl (lv_at hl 2 rfl) ?_
      refine lv_iconst (v := (nI 5)) hC.1 hC.2.1 dX0_digest_78 (by decide) ?_
      refine z_icmp_ge (tgt := 155) hC dX0_digest_79 (by decide) (by omega) (by omega) (fun h_79 => by omega) (fun h_79 => ?_)
      refine lv_iconst (v := (nI 0)) hC.1 hC.2.1 dX0_digest_82 (by decide) ?_
      refine lv_istore (lv' := [(4, .int (nI 0)), (0, .ref hx), (1, .long (dgW wd (dgP b (dgC b mk wd 7) 8) w)), (3, .int (nI w))]) hC.1 hC.2.1 dX0_digest_83 hl (by decide) rfl (fun ls hl => ?_)
      exact in1 4 0 rfl ls (lv_sub hl [1, 2, 3, 0] rfl)
  have loop2 : ∀ (n q : Nat), q + n = 8 → ∀ ls : Array Slot, lv_has ls 5 [(0, .ref hx), (1, .long (dgP b (dgC b mk wd 7) q)), (3, .int (nI q))] → W p l e (rD (9) 0 0) s m args below meth c s.heap [] 0 0 (MQ below (RVQ (some (.long (dig9 b mk wd)))) args s 0 0 (fun _ => False)) (F0 m 33 ls []) := by
    intro n
    induction n with
    | zero =>
      intro q hc0 ls hl
      obtain rfl : q = 8 := by omega
      refine lv_iload_n hC.1 hC.2.1 dX0_digest_33 rfl (lv_at hl 2 rfl) ?_
      refine lv_bipush (v := (nI 8)) hC.1 hC.2.1 dX0_digest_34 (by decide) ?_
      refine z_icmp_ge (tgt := 75) hC dX0_digest_36 (by decide) (by omega) (by omega) (fun h_36 => ?_) (fun h_36 => by omega)
      refine lv_iconst (v := (nI 0)) hC.1 hC.2.1 dX0_digest_75 (by decide) ?_
      refine lv_istore_n (lv' := [(3, .int (nI 0)), (0, .ref hx), (1, .long (dgP b (dgC b mk wd 7) 8))]) hC.1 hC.2.1 dX0_digest_76 rfl hl (by decide) rfl (fun ls hl => ?_)
      exact loop3 5 0 rfl ls (lv_sub hl [1, 2, 0] rfl)
    | succ n ih =>
      intro q hc0 ls hl
      have inner : ∀ (n k : Nat), k + n = 3 → ∀ ls : Array Slot, lv_has ls 5 [(0, .ref hx), (1, .long (dgT b q (dgP b (dgC b mk wd 7) q) k)), (3, .int (nI q)), (4, .int (nI k))] → W p l e (rD (9) 0 0) s m args below meth c s.heap [] 0 0 (MQ below (RVQ (some (.long (dig9 b mk wd)))) args s 0 0 (fun _ => False)) (F0 m 42 ls []) := by
        intro n
        induction n with
        | zero =>
          intro k hc0 ls hl
          obtain rfl : k = 3 := by omega
          refine lv_iload hC.1 hC.2.1 dX0_digest_42 (lv_at hl 3 rfl) ?_
          refine lv_iconst (v := (nI 3)) hC.1 hC.2.1 dX0_digest_44 (by decide) ?_
          refine z_icmp_ge (tgt := 69) hC dX0_digest_45 (by decide) (by omega) (by omega) (fun h_45 => ?_) (fun h_45 => by omega)
          refine lv_iinc (v := nI (q + 1)) (lv' := [(3, .int (nI (q + 1))), (0, .ref hx), (1, .long (dgT b q (dgP b (dgC b mk wd 7) q) 3)), (4, .int (nI 3))]) hC.1 hC.2.1 dX0_digest_69 hl (k := 2) rfl (z_inc _) (by decide) rfl (fun ls hl => ?_)
          refine lv_goto (tgt := 33) hC.1 hC.2.1 dX0_digest_72 (by decide) ?_
          exact ih (q + 1) (by omega) ls (lv_sub hl [1, 2, 0] rfl)
        | succ n ih3 =>
          intro k hc0 ls hl
          refine lv_iload hC.1 hC.2.1 dX0_digest_42 (lv_at hl 3 rfl) ?_
          refine lv_iconst (v := (nI 3)) hC.1 hC.2.1 dX0_digest_44 (by decide) ?_
          refine z_icmp_ge (tgt := 69) hC dX0_digest_45 (by decide) (by omega) (by omega) (fun h_45 => by omega) (fun h_45 => ?_)
          refine lv_lload_n hC.1 hC.2.1 dX0_digest_48 rfl (lv_at hl 1 rfl) ?_
          refine lv_ldc2 (v := 31) hC.1 hC.2.1 hC.2.2.2.1 (hC.2.2.2.2 (.constantLong RX0 145 (31)) (by decide +kernel)) dX0_digest_49 ?_
          refine lv_lmul hC.1 hC.2.1 dX0_digest_52 ?_
          refine lv_aload_n hC.1 hC.2.1 dX0_digest_53 rfl (lv_at hl 0 rfl) ?_
          refine lv_iload_n hC.1 hC.2.1 dX0_digest_54 rfl (lv_at hl 2 rfl) ?_
          refine lv_iload hC.1 hC.2.1 dX0_digest_55 (lv_at hl 3 rfl) ?_
          refine p_cvB (n := 2) (k_told l hX (by omega : q < 8) (by omega)) hC hE hP hD hS (hmx) (hex) rfl gX0_digest_X0_told rfl (by decide +kernel) rfl ⟨by decide, by decide⟩ ⟨Nat.zero_le _, Nat.zero_le _⟩ hl.1 (Nat.le_of_ble_eq_true rfl) dX0_digest_57 rfl ?_
          refine lv_i2l hC.1 hC.2.1 dX0_digest_60 rfl ?_
          refine lv_ladd hC.1 hC.2.1 dX0_digest_61 ?_
          refine lv_lstore_n (lv' := [(1, .long (((dgT b q (dgP b (dgC b mk wd 7) q) k) * 31) + ((nI (tV b q k))).toInt64)), (0, .ref hx), (3, .int (nI q)), (4, .int (nI k))]) hC.1 hC.2.1 dX0_digest_62 rfl hl (by decide) rfl (fun ls hl => ?_)
          refine lv_iinc (v := nI (k + 1)) (lv' := [(4, .int (nI (k + 1))), (1, .long (((dgT b q (dgP b (dgC b mk wd 7) q) k) * 31) + ((nI (tV b q k))).toInt64)), (0, .ref hx), (3, .int (nI q))]) hC.1 hC.2.1 dX0_digest_63 hl (k := 3) rfl (z_inc _) (by decide) rfl (fun ls hl => ?_)
          refine lv_goto (tgt := 42) hC.1 hC.2.1 dX0_digest_66 (by decide) ?_
          exact ih3 (k + 1) (by omega) ls (lv_sub hl [2, 1, 3, 0] rfl)
      refine lv_iload_n hC.1 hC.2.1 dX0_digest_33 rfl (lv_at hl 2 rfl) ?_
      refine lv_bipush (v := (nI 8)) hC.1 hC.2.1 dX0_digest_34 (by decide) ?_
      refine z_icmp_ge (tgt := 75) hC dX0_digest_36 (by decide) (by omega) (by omega) (fun h_36 => by omega) (fun h_36 => ?_)
      refine lv_iconst (v := (nI 0)) hC.1 hC.2.1 dX0_digest_39 (by decide) ?_
      refine lv_istore (lv' := [(4, .int (nI 0)), (0, .ref hx), (1, .long (dgP b (dgC b mk wd 7) q)), (3, .int (nI q))]) hC.1 hC.2.1 dX0_digest_40 hl (by decide) rfl (fun ls hl => ?_)
      exact inner 3 0 rfl ls (lv_sub hl [1, 2, 3, 0] rfl)
  have loop1 : ∀ (n k : Nat), k + n = 7 → ∀ ls : Array Slot, lv_has ls 5 [(0, .ref hx), (1, .long (dgC b mk wd k)), (3, .int (nI k))] → W p l e (rD (9) 0 0) s m args below meth c s.heap [] 0 0 (MQ below (RVQ (some (.long (dig9 b mk wd)))) args s 0 0 (fun _ => False)) (F0 m 6 ls []) := by
    intro n
    induction n with
    | zero =>
      intro k hc0 ls hl
      obtain rfl : k = 7 := by omega
      refine lv_iload_n hC.1 hC.2.1 dX0_digest_6 rfl (lv_at hl 2 rfl) ?_
      refine lv_bipush (v := (nI 7)) hC.1 hC.2.1 dX0_digest_7 (by decide) ?_
      refine z_icmp_ge (tgt := 31) hC dX0_digest_9 (by decide) (by omega) (by omega) (fun h_9 => ?_) (fun h_9 => by omega)
      refine lv_iconst (v := (nI 0)) hC.1 hC.2.1 dX0_digest_31 (by decide) ?_
      refine lv_istore_n (lv' := [(3, .int (nI 0)), (0, .ref hx), (1, .long (dgC b mk wd 7))]) hC.1 hC.2.1 dX0_digest_32 rfl hl (by decide) rfl (fun ls hl => ?_)
      exact loop2 8 0 rfl ls (lv_sub hl [1, 2, 0] rfl)
    | succ n ih =>
      intro k hc0 ls hl
      refine lv_iload_n hC.1 hC.2.1 dX0_digest_6 rfl (lv_at hl 2 rfl) ?_
      refine lv_bipush (v := (nI 7)) hC.1 hC.2.1 dX0_digest_7 (by decide) ?_
      refine z_icmp_ge (tgt := 31) hC dX0_digest_9 (by decide) (by omega) (by omega) (fun h_9 => by omega) (fun h_9 => ?_)
      refine lv_lload_n hC.1 hC.2.1 dX0_digest_12 rfl (lv_at hl 1 rfl) ?_
      refine lv_ldc2 (v := 31) hC.1 hC.2.1 hC.2.2.2.1 (hC.2.2.2.2 (.constantLong RX0 145 (31)) (by decide +kernel)) dX0_digest_13 ?_
      refine lv_lmul hC.1 hC.2.1 dX0_digest_16 ?_
      refine lv_aload_n hC.1 hC.2.1 dX0_digest_17 rfl (lv_at hl 0 rfl) ?_
      refine lv_iload_n hC.1 hC.2.1 dX0_digest_18 rfl (lv_at hl 2 rfl) ?_
      refine p_cvB (n := 1) (k_count l hX hOb (by omega)) hC hE hP hD hS (hmx) (hex) rfl gX0_digest_X0_count rfl (by decide +kernel) rfl ⟨by decide, by decide⟩ ⟨Nat.zero_le _, Nat.zero_le _⟩ hl.1 (Nat.le_of_ble_eq_true rfl) dX0_digest_19 rfl ?_
      refine lv_i2l hC.1 hC.2.1 dX0_digest_22 rfl ?_
      refine lv_ladd hC.1 hC.2.1 dX0_digest_23 ?_
      refine lv_lstore_n (lv' := [(1, .long (((dgC b mk wd k) * 31) + ((cV b mk wd k)).toInt64)), (0, .ref hx), (3, .int (nI k))]) hC.1 hC.2.1 dX0_digest_24 rfl hl (by decide) rfl (fun ls hl => ?_)
      refine lv_iinc (v := nI (k + 1)) (lv' := [(3, .int (nI (k + 1))), (1, .long (((dgC b mk wd k) * 31) + ((cV b mk wd k)).toInt64)), (0, .ref hx)]) hC.1 hC.2.1 dX0_digest_25 hl (k := 2) rfl (z_inc _) (by decide) rfl (fun ls hl => ?_)
      refine lv_goto (tgt := 6) hC.1 hC.2.1 dX0_digest_28 (by decide) ?_
      exact ih (k + 1) (by omega) ls (lv_sub hl [2, 1, 0] rfl)
  refine lv_ldc2 (v := 1787) hC.1 hC.2.1 hC.2.2.2.1 (hC.2.2.2.2 (.constantLong RX0 143 (1787)) (by decide +kernel)) dX0_digest_0 ?_
  refine lv_lstore_n (lv' := [(1, .long 1787), (0, .ref hx)]) hC.1 hC.2.1 dX0_digest_3 rfl hl (by decide) rfl (fun ls hl => ?_)
  refine lv_iconst (v := (nI 0)) hC.1 hC.2.1 dX0_digest_4 (by decide) ?_
  refine lv_istore_n (lv' := [(3, .int (nI 0)), (1, .long 1787), (0, .ref hx)]) hC.1 hC.2.1 dX0_digest_5 rfl hl (by decide) rfl (fun ls hl => ?_)
  exact loop1 7 0 rfl ls (lv_sub hl [2, 1, 0] rfl)
end
section
/-! MY ROWS 10: the class's writing methods (laid by a program of mine) -/
def CY (T : ClassId × ClassId × ClassId) (L : List Nat) (f : Nat → va_E) (hx g ln : Nat) (rw : Nat → Nat) (b : Nat → Nat) (mk : Int32) (Nn : Nat → Int32) (Rr : Nat → Nat → Int32) : Prop :=
  (hx ∈ L ∧ f hx = eO 0 [.long (enc b), .int mk, .ref g, .ref ln]) ∧ (g ∈ L ∧ ∃ G : Nat → Option Nat, f g = eQ T.2.2 5 G ∧ ∀ w, w < 5 → G w = some (rw w)) ∧
  (ln ∈ L ∧ f ln = eI T.1 5 Nn) ∧ (∀ w, w < 5 → rw w ∈ L ∧ f (rw w) = eI T.1 12 (Rr w)) ∧ (∀ i j, i < 5 → j < 5 → rw i = rw j → i = j)
def WS (Nn : Nat → Int32) (Rr : Nat → Nat → Int32) (wd : Nat → List Nat) : Prop := ∀ w, w < 5 → Nn w = nI (wd w).length ∧ (wd w).length ≤ 12 ∧ ∀ k, k < (wd w).length → Rr w k = nI ((wd w).getD k 0) ∧ (wd w).getD k 0 < 9
section CYS
variable {T : ClassId × ClassId × ClassId} {L : List Nat} {f : Nat → va_E} {hx g ln : Nat} {rw : Nat → Nat} {b : Nat → Nat} {mk : Int32} {Nn : Nat → Int32} {Rr : Nat → Nat → Int32} {wd : Nat → List Nat}
theorem CX.raw (h : CX T L f hx g ln rw b mk wd) : ∃ (Nn : Nat → Int32) (Rr : Nat → Nat → Int32), CY T L f hx g ln rw b mk Nn Rr ∧ Va b ∧ WS Nn Rr wd := by
  obtain ⟨h1, h2, ⟨h3, N, h4, h5⟩, h6, h7, h8, h9⟩ := h
  have hh : ∃ Rr : Nat → Nat → Int32, ∀ w, w < 5 → f (rw w) = eI T.1 12 (Rr w) ∧ ∀ k, k < (wd w).length → Rr w k = nI ((wd w).getD k 0) :=
    ⟨fun w => if hw : w < 5 then (h6 w hw).2.choose else fun _ => 0, fun w hw => by simp only [dif_pos hw]; exact (h6 w hw).2.choose_spec⟩
  obtain ⟨Rr, hR⟩ := hh
  exact ⟨N, Rr, ⟨h1, h2, ⟨h3, h4⟩, fun w hw => ⟨(h6 w hw).1, (hR w hw).1⟩, h7⟩, h8, fun w hw => ⟨h5 w hw, (h9 w hw).1, fun k hk => ⟨(hR w hw).2 k hk, (h9 w hw).2 k hk⟩⟩⟩
theorem CY.up (h : CY T L f hx g ln rw b mk Nn Rr) (hv : Va b) (hw : WS Nn Rr wd) : CX T L f hx g ln rw b mk wd := by
  obtain ⟨h1, h2, ⟨h3, h4⟩, h6, h7⟩ := h
  exact ⟨h1, h2, ⟨h3, Nn, h4, fun w h => (hw w h).1⟩, fun w h => ⟨(h6 w h).1, Rr w, (h6 w h).2, fun k hk => ((hw w h).2.2 k hk).1⟩, h7, hv, fun w h => ⟨(hw w h).2.1, fun k hk => ((hw w h).2.2 k hk).2⟩⟩
theorem eI_ne {c : ClassId} {n n2 : Nat} {u v : Nat → Int32} (h : n ≠ n2) : eI c n u ≠ eI c n2 v := fun e => by
  injection e with e
  injection e with _ e
  injection e with e _
  exact h e
theorem eQ_eI {c c2 : ClassId} {n n2 : Nat} {u : Nat → Option Nat} {v : Nat → Int32} : eQ c n u ≠ eI c2 n2 v := fun e => by
  injection e with e
  injection e with _ e
  injection e with _ e
  cases e
theorem CY.put_hx (h : CY T L f hx g ln rw b mk Nn Rr) (b' : Nat → Nat) (mk' : Int32) : CY T L (va_up f hx (eO 0 [.long (enc b'), .int mk', .ref g, .ref ln])) hx g ln rw b' mk' Nn Rr := by
  obtain ⟨⟨h1, h1e⟩, ⟨h2, G, h2e, hG⟩, ⟨h3, h4⟩, h6, h7⟩ := h
  have n1 : g ≠ hx := fun e => by rw [e, h1e] at h2e; cases h2e
  have n2 : ln ≠ hx := fun e => by rw [e, h1e] at h4; cases h4
  have n3 : ∀ w, w < 5 → rw w ≠ hx := fun w hw e => by have := (h6 w hw).2; rw [e, h1e] at this; cases this
  exact ⟨⟨h1, va_up_self _ _ _⟩, ⟨h2, G, (va_up_ne _ _ n1).trans h2e, hG⟩, ⟨h3, (va_up_ne _ _ n2).trans h4⟩, fun w hw => ⟨(h6 w hw).1, (va_up_ne _ _ (n3 w hw)).trans (h6 w hw).2⟩, h7⟩
theorem CY.put_ln (h : CY T L f hx g ln rw b mk Nn Rr) (N' : Nat → Int32) : CY T L (va_up f ln (eI T.1 5 N')) hx g ln rw b mk N' Rr := by
  obtain ⟨⟨h1, h1e⟩, ⟨h2, G, h2e, hG⟩, ⟨h3, h4⟩, h6, h7⟩ := h
  have n1 : hx ≠ ln := fun e => by rw [← e, h1e] at h4; cases h4
  have n2 : g ≠ ln := fun e => by rw [← e, h2e] at h4; exact eQ_eI h4
  have n3 : ∀ w, w < 5 → rw w ≠ ln := fun w hw e => by have := (h6 w hw).2; rw [e, h4] at this; exact eI_ne (by decide) this
  exact ⟨⟨h1, (va_up_ne _ _ n1).trans h1e⟩, ⟨h2, G, (va_up_ne _ _ n2).trans h2e, hG⟩, ⟨h3, va_up_self _ _ _⟩, fun w hw => ⟨(h6 w hw).1, (va_up_ne _ _ (n3 w hw)).trans (h6 w hw).2⟩, h7⟩
theorem CY.put_rw {w : Nat} (h : CY T L f hx g ln rw b mk Nn Rr) (hw : w < 5) (r : Nat → Int32) : CY T L (va_up f (rw w) (eI T.1 12 r)) hx g ln rw b mk Nn (fun v => if v = w then r else Rr v) := by
  obtain ⟨⟨h1, h1e⟩, ⟨h2, G, h2e, hG⟩, ⟨h3, h4⟩, h6, h7⟩ := h
  have hr := (h6 w hw).2
  have n1 : hx ≠ rw w := fun e => by rw [← e, h1e] at hr; cases hr
  have n2 : g ≠ rw w := fun e => by rw [← e, h2e] at hr; exact eQ_eI hr
  have n3 : ln ≠ rw w := fun e => by rw [← e, h4] at hr; exact eI_ne (by decide) hr
  refine ⟨⟨h1, (va_up_ne _ _ n1).trans h1e⟩, ⟨h2, G, (va_up_ne _ _ n2).trans h2e, hG⟩, ⟨h3, (va_up_ne _ _ n3).trans h4⟩, fun v hv => ⟨(h6 v hv).1, ?_⟩, h7⟩
  by_cases e : v = w
  · have e2 : (fun v => if v = w then r else Rr v) v = r := if_pos e
    rw [e2, e]; exact va_up_self _ _ _
  · have e2 : (fun v => if v = w then r else Rr v) v = Rr v := if_neg e
    rw [e2]; exact (va_up_ne _ _ (fun q => e (h7 v w hv hw q))).trans (h6 v hv).2
/-- nothing else is changed -/
def FRX (hx ln : Nat) (rw : Nat → Nat) (f f' : Nat → va_E) : Prop := ∀ a, a ≠ hx → a ≠ ln → (∀ w, w < 5 → a ≠ rw w) → f' a = f a
theorem FRX.rf : FRX hx ln rw f f := fun _ _ _ _ => rfl
theorem FRX.put_hx {f1 : Nat → va_E} {e : va_E} (h : FRX hx ln rw f f1) : FRX hx ln rw f (va_up f1 hx e) := fun a h1 h2 h3 => (va_up_ne _ _ h1).trans (h a h1 h2 h3)
theorem FRX.put_ln {f1 : Nat → va_E} {e : va_E} (h : FRX hx ln rw f f1) : FRX hx ln rw f (va_up f1 ln e) := fun a h1 h2 h3 => (va_up_ne _ _ h2).trans (h a h1 h2 h3)
theorem FRX.put_rw {f1 : Nat → va_E} {e : va_E} {w : Nat} (h : FRX hx ln rw f f1) (hw : w < 5) : FRX hx ln rw f (va_up f1 (rw w) e) := fun a h1 h2 h3 => (va_up_ne _ _ (h3 w hw)).trans (h a h1 h2 h3)
end CYS
/-- what a writing method of the class leaves -/
def XP (T : ClassId × ClassId × ClassId) (L : List Nat) (f : Nat → va_E) (hx g ln : Nat) (rw : Nat → Nat) (r : Int32) (b' : Nat → Nat) (mk' : Int32) (wd' : Nat → List Nat) : Option Value → List Nat → (Nat → va_E) → Prop := fun o L' f' => o = some (.int r) ∧ L' = L ∧ CX T L f' hx g ln rw b' mk' wd' ∧ FRX hx ln rw f f'
def plN (b : Nat → Nat) (l : List Nat) : Nat → (Nat → Nat)
  | 0 => b
  | k + 1 => behind (plN b l k) l
theorem plN_Va {b : Nat → Nat} (h : Va b) (l : List Nat) : ∀ k, Va (plN b l k)
  | 0 => h
  | k + 1 => bhN_Va (plN_Va h l k) l _
def wset (wd : Nat → List Nat) (w : Nat) (l : List Nat) : Nat → List Nat := fun v => if v = w then l else wd v

set_option maxHeartbeats 4000000 in
set_option maxRecDepth 100000 in
theorem k_reset (l : Launch) {D : va_G} {T : ClassId × ClassId × ClassId} {z0 : Nat} {L : List Nat} {f : Nat → va_E} {hx g ln : Nat} {rw : Nat → Nat} {b : Nat → Nat} {mk : Int32} {wd : Nat → List Nat} (hX : CX T L f hx g ln rw b mk wd)  : HV l yX0_reset wsX0_reset (5) 0 0 D z0 (zPre D T z0 L f) [.ref hx] (XP T L f hx g ln rw (nI (8 - nRt b)) one mk wd) := by
  refine HV.of (cc := cX0_reset) (maxL := 2) (ret := (some .int)) (by decide) rfl (Nat.le_of_ble_eq_true rfl) ?_
  intro p e s m args below meth c hC hr hlk hin hB ls hl
  have hl : lv_has ls 2 [(0, .ref hx)] := hl
  obtain ⟨hE, hP, hD⟩ := hB
  obtain ⟨Nn, Rr, hY, hvb, hW⟩ := hX.raw
  obtain ⟨⟨hmx, hex⟩, ⟨hmg, G, heg, hG⟩, ⟨hml, hel⟩, hrw, hinj⟩ := id hY
  have hS : va_S (zA z0) s.heap s.heap [] := va_S.rf
  have hF : FRX hx ln rw f f := FRX.rf
  refine lv_aload_n hC.1 hC.2.1 dX0_reset_0 rfl (lv_at hl 0 rfl) ?_
  refine p_get (ref := "CornerCube") hC hE hP hmx hex rfl (by decide +kernel) 0 (by decide) (by decide +kernel) rfl rfl dX0_reset_1 ?_
  refine p_cs (n := 1) (k_wrongCorners l hvb) hC gX0_reset_X0_wrongCorners rfl (by decide +kernel) rfl ⟨by decide, by decide⟩ ⟨Nat.zero_le _, Nat.zero_le _⟩ hl.1 (Nat.le_of_ble_eq_true rfl) dX0_reset_4 rfl ?_
  refine lv_istore_n (lv' := [(1, .int (nI (8 - nRt b))), (0, .ref hx)]) hC.1 hC.2.1 dX0_reset_7 rfl hl (by decide) rfl (fun ls hl => ?_)
  refine lv_aload_n hC.1 hC.2.1 dX0_reset_8 rfl (lv_at hl 1 rfl) ?_
  refine lv_ldc2 (v := 506097522914230528) hC.1 hC.2.1 hC.2.2.2.1 (hC.2.2.2.2 (.constantLong RX0 9 (506097522914230528)) (by decide +kernel)) dX0_reset_9 ?_
  refine q_l (enc one) (enc_one) ?_
  refine p_put (ref := "CornerCube") (ty0 := tyX0) hC hE hP hD hS hmx hex rfl (by decide +kernel) tyX0_ok nmX0 0 (by decide) (by decide +kernel) rfl rfl rfl rfl (Nat.le_of_ble_eq_true rfl) dX0_reset_12 (fun H locs hP hD hS => ?_)
  have hF := hF.put_hx (e := eO 0 [.long (enc one), .int mk, .ref g, .ref ln])
  have hP : va_P D vwCl (va_pl L (va_up _ hx (eO 0 [.long (enc one), .int mk, .ref g, .ref ln]))) H := hP
  have hD : va_D (zA z0) (va_pl L (va_up _ hx (eO 0 [.long (enc one), .int mk, .ref g, .ref ln]))) := hD
  have hY := hY.put_hx one mk
  obtain ⟨⟨hmx, hex⟩, ⟨hmg, G, heg, hG⟩, ⟨hml, hel⟩, hrw, hinj⟩ := id hY
  refine lv_iload_n hC.1 hC.2.1 dX0_reset_15 rfl (lv_at hl 0 rfl) ?_
  exact HV.iret hC hr hlk hP hD hS (by omega) (by omega) dX0_reset_16 (⟨rfl, rfl, hY.up one_Va hW, hF⟩)

set_option maxHeartbeats 4000000 in
set_option maxRecDepth 100000 in
theorem k_turn (l : Launch) {D : va_G} {T : ClassId × ClassId × ClassId} {z0 : Nat} {L : List Nat} {f : Nat → va_E} {hx g ln : Nat} {rw : Nat → Nat} {b : Nat → Nat} {mk : Int32} {wd : Nat → List Nat} (hX : CX T L f hx g ln rw b mk wd) {fc q : Nat} (hf : fc < 3) (h1 : 1 ≤ q) (hq : q < 4) : HV l yX0_turn wsX0_turn (6) 0 0 D z0 (zPre D T z0 L f) [.ref hx, .int (nI fc), .int (nI q)] (XP T L f hx g ln rw (nI (nRt (turnC b (3 * fc + q - 1)))) (turnC b (3 * fc + q - 1)) (mk + nI 1) wd) := by
  refine HV.of (cc := cX0_turn) (maxL := 3) (ret := (some .int)) (by decide) rfl (Nat.le_of_ble_eq_true rfl) ?_
  intro p e s m args below meth c hC hr hlk hin hB ls hl
  have hl : lv_has ls 3 [(0, .ref hx), (1, .int (nI fc)), (2, .int (nI q))] := hl
  obtain ⟨hE, hP, hD⟩ := hB
  obtain ⟨Nn, Rr, hY, hvb, hW⟩ := hX.raw
  obtain ⟨⟨hmx, hex⟩, ⟨hmg, G, heg, hG⟩, ⟨hml, hel⟩, hrw, hinj⟩ := id hY
  have hS : va_S (zA z0) s.heap s.heap [] := va_S.rf
  have hF : FRX hx ln rw f f := FRX.rf
  refine lv_iload_n hC.1 hC.2.1 dX0_turn_0 rfl (lv_at hl 1 rfl) ?_
  refine p_cs (n := 1) (k_checkFace l hf) hC gX0_turn_X0_checkFace rfl (by decide +kernel) rfl ⟨by decide, by decide⟩ ⟨Nat.zero_le _, Nat.zero_le _⟩ hl.1 (Nat.le_of_ble_eq_true rfl) dX0_turn_1 rfl ?_
  refine lv_iload_n hC.1 hC.2.1 dX0_turn_4 rfl (lv_at hl 2 rfl) ?_
  refine p_cs (n := 1) (k_checkQuarters l h1 hq) hC gX0_turn_X0_checkQuarters rfl (by decide +kernel) rfl ⟨by decide, by decide⟩ ⟨Nat.zero_le _, Nat.zero_le _⟩ hl.1 (Nat.le_of_ble_eq_true rfl) dX0_turn_5 rfl ?_
  refine lv_aload_n hC.1 hC.2.1 dX0_turn_8 rfl (lv_at hl 0 rfl) ?_
  refine lv_aload_n hC.1 hC.2.1 dX0_turn_9 rfl (lv_at hl 0 rfl) ?_
  refine p_get (ref := "CornerCube") hC hE hP hmx hex rfl (by decide +kernel) 0 (by decide) (by decide +kernel) rfl rfl dX0_turn_10 ?_
  refine lv_iload_n hC.1 hC.2.1 dX0_turn_13 rfl (lv_at hl 1 rfl) ?_
  refine lv_iload_n hC.1 hC.2.1 dX0_turn_14 rfl (lv_at hl 2 rfl) ?_
  refine p_cs (n := 2) (k_turnNumber l hf h1 hq) hC gX0_turn_X0_turnNumber rfl (by decide +kernel) rfl ⟨by decide, by decide⟩ ⟨Nat.zero_le _, Nat.zero_le _⟩ hl.1 (Nat.le_of_ble_eq_true rfl) dX0_turn_15 rfl ?_
  refine p_cs (n := 2) (k_turned l hvb (by omega)) hC gX0_turn_X0_turned rfl (by decide +kernel) rfl ⟨by decide, by decide⟩ ⟨Nat.zero_le _, Nat.zero_le _⟩ hl.1 (Nat.le_of_ble_eq_true rfl) dX0_turn_18 rfl ?_
  refine p_put (ref := "CornerCube") (ty0 := tyX0) hC hE hP hD hS hmx hex rfl (by decide +kernel) tyX0_ok nmX0 0 (by decide) (by decide +kernel) rfl rfl rfl rfl (Nat.le_of_ble_eq_true rfl) dX0_turn_21 (fun H locs hP hD hS => ?_)
  have hF := hF.put_hx (e := eO 0 [.long (enc (turnC b (3 * fc + q - 1))), .int mk, .ref g, .ref ln])
  have hP : va_P D vwCl (va_pl L (va_up _ hx (eO 0 [.long (enc (turnC b (3 * fc + q - 1))), .int mk, .ref g, .ref ln]))) H := hP
  have hD : va_D (zA z0) (va_pl L (va_up _ hx (eO 0 [.long (enc (turnC b (3 * fc + q - 1))), .int mk, .ref g, .ref ln]))) := hD
  have hY := hY.put_hx (turnC b (3 * fc + q - 1)) mk
  obtain ⟨⟨hmx, hex⟩, ⟨hmg, G, heg, hG⟩, ⟨hml, hel⟩, hrw, hinj⟩ := id hY
  refine lv_aload_n hC.1 hC.2.1 dX0_turn_24 rfl (lv_at hl 0 rfl) ?_
  refine lv_dup hC.1 hC.2.1 dX0_turn_25 rfl ?_
  refine p_get (ref := "CornerCube") hC hE hP hmx hex rfl (by decide +kernel) 1 (by decide) (by decide +kernel) rfl rfl dX0_turn_26 ?_
  refine lv_iconst (v := (nI 1)) hC.1 hC.2.1 dX0_turn_29 (by decide) ?_
  refine lv_iadd hC.1 hC.2.1 dX0_turn_30 ?_
  refine p_put (ref := "CornerCube") (ty0 := tyX0) hC hE hP hD hS hmx hex rfl (by decide +kernel) tyX0_ok nmX0 1 (by decide) (by decide +kernel) rfl rfl rfl rfl (Nat.le_of_ble_eq_true rfl) dX0_turn_31 (fun H locs hP hD hS => ?_)
  have hF := hF.put_hx (e := eO 0 [.long (enc (turnC b (3 * fc + q - 1))), .int (mk + nI 1), .ref g, .ref ln])
  have hP : va_P D vwCl (va_pl L (va_up _ hx (eO 0 [.long (enc (turnC b (3 * fc + q - 1))), .int (mk + nI 1), .ref g, .ref ln]))) H := hP
  have hD : va_D (zA z0) (va_pl L (va_up _ hx (eO 0 [.long (enc (turnC b (3 * fc + q - 1))), .int (mk + nI 1), .ref g, .ref ln]))) := hD
  have hY := hY.put_hx (turnC b (3 * fc + q - 1)) (mk + nI 1)
  obtain ⟨⟨hmx, hex⟩, ⟨hmg, G, heg, hG⟩, ⟨hml, hel⟩, hrw, hinj⟩ := id hY
  refine lv_aload_n hC.1 hC.2.1 dX0_turn_34 rfl (lv_at hl 0 rfl) ?_
  refine p_get (ref := "CornerCube") hC hE hP hmx hex rfl (by decide +kernel) 0 (by decide) (by decide +kernel) rfl rfl dX0_turn_35 ?_
  refine p_cs (n := 1) (k_rightCorners l (turnC_Va _ _)) hC gX0_turn_X0_rightCorners rfl (by decide +kernel) rfl ⟨by decide, by decide⟩ ⟨Nat.zero_le _, Nat.zero_le _⟩ hl.1 (Nat.le_of_ble_eq_true rfl) dX0_turn_38 rfl ?_
  exact HV.iret hC hr hlk hP hD hS (by omega) (by omega) dX0_turn_41 (⟨rfl, rfl, hY.up (turnC_Va _ _) hW, hF⟩)

set_option maxHeartbeats 4000000 in
set_option maxRecDepth 100000 in
theorem k_play (l : Launch) {D : va_G} {T : ClassId × ClassId × ClassId} {z0 : Nat} {L : List Nat} {f : Nat → va_E} {hx g ln : Nat} {rw : Nat → Nat} {b : Nat → Nat} {mk : Int32} {wd : Nat → List Nat} (hX : CX T L f hx g ln rw b mk wd) {w ts : Nat} (hw : w < 5) (h1 : 1 ≤ ts) (h2 : ts ≤ 50) (h0 : 0 < (wd w).length) : HV l yX0_play wsX0_play (6) 0 0 D z0 (zPre D T z0 L f) [.ref hx, .int (nI w), .int (nI ts)] (XP T L f hx g ln rw (nI (nRt (plN b (wd w) ts))) (plN b (wd w) ts) (mk + nI (ts * (wd w).length)) wd) := by
  refine HV.of (cc := cX0_play) (maxL := 4) (ret := (some .int)) (by decide) rfl (Nat.le_of_ble_eq_true rfl) ?_
  intro p e s m args below meth c hC hr hlk hin hB ls hl
  have hl : lv_has ls 4 [(0, .ref hx), (1, .int (nI w)), (2, .int (nI ts))] := hl
  obtain ⟨hE, hP, hD⟩ := hB
  obtain ⟨Nn, Rr, hY, hvb, hW⟩ := hX.raw
  obtain ⟨⟨hmx, hex⟩, ⟨hmg, G, heg, hG⟩, ⟨hml, hel⟩, hrw, hinj⟩ := id hY
  have hS : va_S (zA z0) s.heap s.heap [] := va_S.rf
  have hF : FRX hx ln rw f f := FRX.rf
  have hl12 := (hW w hw).2.1
  have htl : ts * (wd w).length ≤ 50 * 12 := Nat.mul_le_mul h2 hl12
  have loop : ∀ (n k : Nat) (f1 : Nat → va_E) (H : Heap) (locs : List Loc), k + n = ts → CY T L f1 hx g ln rw (plN b (wd w) k) mk Nn Rr → FRX hx ln rw f f1 → va_P D vwCl (va_pl L f1) H → va_D (zA z0) (va_pl L f1) → va_S (zA z0) s.heap H locs → ∀ ls : Array Slot, lv_has ls 4 [(0, .ref hx), (1, .int (nI w)), (2, .int (nI ts)), (3, .int (nI k))] → W p l e (rD (6) 0 0) s m args below meth c H locs 0 0 (MQ below (HVQ D z0 (XP T L f hx g ln rw (nI (nRt (plN b (wd w) ts))) (plN b (wd w) ts) (mk + nI (ts * (wd w).length)) wd)) args s 0 0 (zA z0)) (F0 m 46 ls []) := by
    intro n
    induction n with
    | zero =>
      intro k f1 H locs hk hY hF hP hD hS ls hl
      obtain ⟨⟨hmx, hex⟩, ⟨hmg, G, heg, hG⟩, ⟨hml, hel⟩, hrw, hinj⟩ := id hY
      obtain rfl : k = ts := by omega
      refine lv_iload_n hC.1 hC.2.1 dX0_play_46 rfl (lv_at hl 3 rfl) ?_
      refine lv_iload_n hC.1 hC.2.1 dX0_play_47 rfl (lv_at hl 2 rfl) ?_
      refine z_icmp_ge (tgt := 70) hC dX0_play_48 (by decide) (by omega) (by omega) (fun h_48 => ?_) (fun h_48 => by omega)
      refine lv_aload_n hC.1 hC.2.1 dX0_play_70 rfl (lv_at hl 0 rfl) ?_
      refine lv_dup hC.1 hC.2.1 dX0_play_71 rfl ?_
      refine p_get (ref := "CornerCube") hC hE hP hmx hex rfl (by decide +kernel) 1 (by decide) (by decide +kernel) rfl rfl dX0_play_72 ?_
      refine lv_iload_n hC.1 hC.2.1 dX0_play_75 rfl (lv_at hl 2 rfl) ?_
      refine lv_aload_n hC.1 hC.2.1 dX0_play_76 rfl (lv_at hl 0 rfl) ?_
      refine p_get (ref := "CornerCube") hC hE hP hmx hex rfl (by decide +kernel) 3 (by decide) (by decide +kernel) rfl rfl dX0_play_77 ?_
      refine lv_iload_n hC.1 hC.2.1 dX0_play_80 rfl (lv_at hl 1 rfl) ?_
      refine p_iald hC hE hP hml hel (by omega) (by decide) dX0_play_81 ?_
      refine q_i (nI (wd w).length) ((hW _ (by omega)).1) ?_
      refine z_imul hC dX0_play_82 ?_
      refine lv_iadd hC.1 hC.2.1 dX0_play_83 ?_
      refine p_put (ref := "CornerCube") (ty0 := tyX0) hC hE hP hD hS hmx hex rfl (by decide +kernel) tyX0_ok nmX0 1 (by decide) (by decide +kernel) rfl rfl rfl rfl (Nat.le_of_ble_eq_true rfl) dX0_play_84 (fun H locs hP hD hS => ?_)
      have hF := hF.put_hx (e := eO 0 [.long (enc (plN b (wd w) k)), .int (mk + nI (k * (wd w).length)), .ref g, .ref ln])
      have hP : va_P D vwCl (va_pl L (va_up _ hx (eO 0 [.long (enc (plN b (wd w) k)), .int (mk + nI (k * (wd w).length)), .ref g, .ref ln]))) H := hP
      have hD : va_D (zA z0) (va_pl L (va_up _ hx (eO 0 [.long (enc (plN b (wd w) k)), .int (mk + nI (k * (wd w).length)), .ref g, .ref ln]))) := hD
      have hY := hY.put_hx (plN b (wd w) k) (mk + nI (k * (wd w).length))
      obtain ⟨⟨hmx, hex⟩, ⟨hmg, G, heg, hG⟩, ⟨hml, hel⟩, hrw, hinj⟩ := id hY
      refine lv_aload_n hC.1 hC.2.1 dX0_play_87 rfl (lv_at hl 0 rfl) ?_
      refine p_get (ref := "CornerCube") hC hE hP hmx hex rfl (by decide +kernel) 0 (by decide) (by decide +kernel) rfl rfl dX0_play_88 ?_
      refine p_cs (n := 1) (k_rightCorners l (plN_Va hvb _ _)) hC gX0_play_X0_rightCorners rfl (by decide +kernel) rfl ⟨by decide, by decide⟩ ⟨Nat.zero_le _, Nat.zero_le _⟩ hl.1 (Nat.le_of_ble_eq_true rfl) dX0_play_91 rfl ?_
      exact HV.iret hC hr hlk hP hD hS (by omega) (by omega) dX0_play_94 (⟨rfl, rfl, hY.up (plN_Va hvb _ _) hW, hF⟩)
    | succ n ih =>
      intro k f1 H locs hk hY hF hP hD hS ls hl
      obtain ⟨⟨hmx, hex⟩, ⟨hmg, G, heg, hG⟩, ⟨hml, hel⟩, hrw, hinj⟩ := id hY
      refine lv_iload_n hC.1 hC.2.1 dX0_play_46 rfl (lv_at hl 3 rfl) ?_
      refine lv_iload_n hC.1 hC.2.1 dX0_play_47 rfl (lv_at hl 2 rfl) ?_
      refine z_icmp_ge (tgt := 70) hC dX0_play_48 (by decide) (by omega) (by omega) (fun h_48 => by omega) (fun h_48 => ?_)
      refine lv_aload_n hC.1 hC.2.1 dX0_play_51 rfl (lv_at hl 0 rfl) ?_
      refine lv_aload_n hC.1 hC.2.1 dX0_play_52 rfl (lv_at hl 0 rfl) ?_
      refine lv_aload_n hC.1 hC.2.1 dX0_play_53 rfl (lv_at hl 0 rfl) ?_
      refine p_get (ref := "CornerCube") hC hE hP hmx hex rfl (by decide +kernel) 0 (by decide) (by decide +kernel) rfl rfl dX0_play_54 ?_
      refine lv_iload_n hC.1 hC.2.1 dX0_play_57 rfl (lv_at hl 1 rfl) ?_
      refine p_cvB (n := 2) (k_behindWord l (hY.up (plN_Va hvb _ _) hW) (plN_Va hvb _ _) hw) hC hE hP hD hS (hmx) (hex) rfl gX0_play_X0_behindWord rfl (by decide +kernel) rfl ⟨by decide, by decide⟩ ⟨Nat.zero_le _, Nat.zero_le _⟩ hl.1 (Nat.le_of_ble_eq_true rfl) dX0_play_58 rfl ?_
      refine p_put (ref := "CornerCube") (ty0 := tyX0) hC hE hP hD hS hmx hex rfl (by decide +kernel) tyX0_ok nmX0 0 (by decide) (by decide +kernel) rfl rfl rfl rfl (Nat.le_of_ble_eq_true rfl) dX0_play_61 (fun H locs hP hD hS => ?_)
      have hF := hF.put_hx (e := eO 0 [.long (enc (plN b (wd w) (k + 1))), .int mk, .ref g, .ref ln])
      have hP : va_P D vwCl (va_pl L (va_up _ hx (eO 0 [.long (enc (plN b (wd w) (k + 1))), .int mk, .ref g, .ref ln]))) H := hP
      have hD : va_D (zA z0) (va_pl L (va_up _ hx (eO 0 [.long (enc (plN b (wd w) (k + 1))), .int mk, .ref g, .ref ln]))) := hD
      have hY := hY.put_hx (plN b (wd w) (k + 1)) mk
      obtain ⟨⟨hmx, hex⟩, ⟨hmg, G, heg, hG⟩, ⟨hml, hel⟩, hrw, hinj⟩ := id hY
      refine lv_iinc (v := nI (k + 1)) (lv' := [(3, .int (nI (k + 1))), (0, .ref hx), (1, .int (nI w)), (2, .int (nI ts))]) hC.1 hC.2.1 dX0_play_64 hl (k := 3) rfl (z_inc _) (by decide) rfl (fun ls hl => ?_)
      refine lv_goto (tgt := 46) hC.1 hC.2.1 dX0_play_67 (by decide) ?_
      exact ih (k + 1) _ _ _ (by omega) hY hF hP hD hS ls (lv_sub hl [1, 2, 3, 0] rfl)
  refine lv_iload_n hC.1 hC.2.1 dX0_play_0 rfl (lv_at hl 1 rfl) ?_
  refine p_cs (n := 1) (k_checkWord l hw) hC gX0_play_X0_checkWord rfl (by decide +kernel) rfl ⟨by decide, by decide⟩ ⟨Nat.zero_le _, Nat.zero_le _⟩ hl.1 (Nat.le_of_ble_eq_true rfl) dX0_play_1 rfl ?_
  refine lv_iload_n hC.1 hC.2.1 dX0_play_4 rfl (lv_at hl 2 rfl) ?_
  refine lv_iconst (v := (nI 1)) hC.1 hC.2.1 dX0_play_5 (by decide) ?_
  refine z_icmp_lt (tgt := 15) hC dX0_play_6 (by decide) (by omega) (by omega) (fun h_6 => by omega) (fun h_6 => ?_)
  refine lv_iload_n hC.1 hC.2.1 dX0_play_9 rfl (lv_at hl 2 rfl) ?_
  refine lv_bipush (v := (nI 50)) hC.1 hC.2.1 dX0_play_10 (by decide) ?_
  refine z_icmp_le (tgt := 25) hC dX0_play_12 (by decide) (by omega) (by omega) (fun h_12 => ?_) (fun h_12 => by omega)
  refine lv_aload_n hC.1 hC.2.1 dX0_play_25 rfl (lv_at hl 0 rfl) ?_
  refine p_get (ref := "CornerCube") hC hE hP hmx hex rfl (by decide +kernel) 3 (by decide) (by decide +kernel) rfl rfl dX0_play_26 ?_
  refine lv_iload_n hC.1 hC.2.1 dX0_play_29 rfl (lv_at hl 1 rfl) ?_
  refine p_iald hC hE hP hml hel (by omega) (by decide) dX0_play_30 ?_
  refine q_i (nI (wd w).length) ((hW _ (by omega)).1) ?_
  refine z_if_ne (tgt := 44) hC dX0_play_31 (by decide) (by omega) (fun h_31 => ?_) (fun h_31 => by omega)
  refine lv_iconst (v := (nI 0)) hC.1 hC.2.1 dX0_play_44 (by decide) ?_
  refine lv_istore_n (lv' := [(3, .int (nI 0)), (0, .ref hx), (1, .int (nI w)), (2, .int (nI ts))]) hC.1 hC.2.1 dX0_play_45 rfl hl (by decide) rfl (fun ls hl => ?_)
  exact loop ts 0 _ _ _ (Nat.zero_add _) hY hF hP hD hS ls (lv_sub hl [1, 2, 3, 0] rfl)
end
section
/-! MY ROWS 11: the class's methods over its words (laid by a program of mine) -/
theorem gd_l {l m : List Nat} {k : Nat} (h : k < l.length) : (l ++ m).getD k 0 = l.getD k 0 := by
  simp only [List.getD_eq_getElem?_getD, List.getElem?_append_left h]
theorem gd_r {l m : List Nat} {k : Nat} : (l ++ m).getD (l.length + k) 0 = m.getD k 0 := by
  simp only [List.getD_eq_getElem?_getD]
  rw [List.getElem?_append_right (by omega), show l.length + k - l.length = k from by omega]
theorem gd_dl {l : List Nat} {k : Nat} (h : k < l.length - 1) : l.dropLast.getD k 0 = l.getD k 0 := by
  simp only [List.getD_eq_getElem?_getD, List.getElem?_dropLast]
  rw [if_pos h]
theorem gd_rev {l : List Nat} {k : Nat} (h : k < l.length) : (l.reverse.map tb).getD k 0 = tb (l.getD (l.length - 1 - k) 0) := by
  simp only [List.getD_eq_getElem?_getD, List.getElem?_map, List.getElem?_reverse h]
  rw [List.getElem?_eq_getElem (by omega)]
  rfl
theorem upd_s {f : Nat → Int32} {k : Nat} {x : Int32} : upd f k x k = x := pk_us
theorem upd_n {f : Nat → Int32} {k j : Nat} {x : Int32} (h : j ≠ k) : upd f k x j = f j := pk_un h
theorem WS.put {Nn : Nat → Int32} {Rr : Nat → Nat → Int32} {wd : Nat → List Nat} (hW : WS Nn Rr wd) (w : Nat) (l' : List Nat) {N' : Nat → Int32} {R' : Nat → Nat → Int32} (h1 : ∀ v, v ≠ w → N' v = Nn v) (h2 : ∀ v, v ≠ w → R' v = Rr v) (h3 : N' w = nI l'.length) (h4 : l'.length ≤ 12) (h5 : ∀ k, k < l'.length → R' w k = nI (l'.getD k 0) ∧ l'.getD k 0 < 9) : WS N' R' (wset wd w l') := by
  intro v hv
  by_cases e : v = w
  · have e2 : wset wd w l' v = l' := if_pos e
    rw [e2]
    subst e
    exact ⟨h3, h4, h5⟩
  · have e2 : wset wd w l' v = wd v := if_neg e
    rw [e2, h1 v e, h2 v e]
    exact hW v hv
/-- a word, tidied turn by turn -/
def keepL (acc : List Nat) (t : Nat) : List Nat :=
  if acc.length = 0 ∨ ¬ acc.getD (acc.length - 1) 0 / 3 = t / 3 then acc ++ [t]
  else if (acc.getD (acc.length - 1) 0 % 3 + 1 + (t % 3 + 1)) % 4 = 0 then acc.dropLast
  else acc.dropLast ++ [3 * (t / 3) + (acc.getD (acc.length - 1) 0 % 3 + 1 + (t % 3 + 1)) % 4 - 1]
def tdN (l : List Nat) : Nat → List Nat
  | 0 => []
  | i + 1 => keepL (tdN l i) (l.getD i 0)
theorem keepL_len (acc : List Nat) (t : Nat) : (keepL acc t).length ≤ acc.length + 1 := by
  unfold keepL
  split
  · simp
  · split <;> simp <;> omega
theorem tdN_len (l : List Nat) : ∀ i, (tdN l i).length ≤ i
  | 0 => Nat.le_refl 0
  | i + 1 => Nat.le_trans (keepL_len _ _) (Nat.succ_le_succ (tdN_len l i))
theorem keepL_9 {acc : List Nat} {t : Nat} (ht : t < 9) (h : ∀ k, k < acc.length → acc.getD k 0 < 9) : ∀ k, k < (keepL acc t).length → (keepL acc t).getD k 0 < 9 := by
  intro k hk
  unfold keepL at hk ⊢
  split
  · rename_i h1
    rw [if_pos h1] at hk
    by_cases e : k < acc.length
    · rw [gd_l e]; exact h k e
    · have e2 : k = acc.length + 0 := by simp at hk; omega
      rw [e2, gd_r]; exact ht
  · rename_i h1
    rw [if_neg h1] at hk
    split
    · rename_i h2
      rw [if_pos h2] at hk
      have e : k < acc.length - 1 := by simpa using hk
      rw [gd_dl e]; exact h k (by omega)
    · rename_i h2
      rw [if_neg h2] at hk
      by_cases e : k < acc.dropLast.length
      · rw [gd_l e, gd_dl (by simpa using e)]; exact h k (by simp at e; omega)
      · have e2 : k = acc.dropLast.length + 0 := by simp at hk e ⊢; omega
        rw [e2, gd_r]
        show 3 * (t / 3) + (acc.getD (acc.length - 1) 0 % 3 + 1 + (t % 3 + 1)) % 4 - 1 < 9
        omega
theorem tdN_9 {l : List Nat} (h : ∀ k, k < l.length → l.getD k 0 < 9) : ∀ i, i ≤ l.length → ∀ k, k < (tdN l i).length → (tdN l i).getD k 0 < 9
  | 0, _ => fun k hk => absurd hk (by simp [tdN])
  | i + 1, hi => keepL_9 (h i (by omega)) (tdN_9 h i (by omega))

set_option maxHeartbeats 4000000 in
set_option maxRecDepth 100000 in
theorem k_say (l : Launch) {D : va_G} {T : ClassId × ClassId × ClassId} {z0 : Nat} {L : List Nat} {f : Nat → va_E} {hx g ln : Nat} {rw : Nat → Nat} {b : Nat → Nat} {mk : Int32} {wd : Nat → List Nat} (hX : CX T L f hx g ln rw b mk wd) {w fc q : Nat} (hw : w < 5) (hf : fc < 3) (h1 : 1 ≤ q) (hq : q < 4) (h12 : (wd w).length < 12) : HV l yX0_say wsX0_say (6) 0 0 D z0 (zPre D T z0 L f) [.ref hx, .int (nI w), .int (nI fc), .int (nI q)] (XP T L f hx g ln rw (nI ((wd w).length + 1)) b mk (wset wd w (wd w ++ [3 * fc + q - 1]))) := by
  refine HV.of (cc := cX0_say) (maxL := 4) (ret := (some .int)) (by decide) rfl (Nat.le_of_ble_eq_true rfl) ?_
  intro p e s m args below meth c hC hr hlk hin hB ls hl
  have hl : lv_has ls 4 [(0, .ref hx), (1, .int (nI w)), (2, .int (nI fc)), (3, .int (nI q))] := hl
  obtain ⟨hE, hP, hD⟩ := hB
  obtain ⟨Nn, Rr, hY, hvb, hW⟩ := hX.raw
  obtain ⟨⟨hmx, hex⟩, ⟨hmg, G, heg, hG⟩, ⟨hml, hel⟩, hrw, hinj⟩ := id hY
  have hS : va_S (zA z0) s.heap s.heap [] := va_S.rf
  have hF : FRX hx ln rw f f := FRX.rf
  refine lv_iload_n hC.1 hC.2.1 dX0_say_0 rfl (lv_at hl 1 rfl) ?_
  refine p_cs (n := 1) (k_checkWord l hw) hC gX0_say_X0_checkWord rfl (by decide +kernel) rfl ⟨by decide, by decide⟩ ⟨Nat.zero_le _, Nat.zero_le _⟩ hl.1 (Nat.le_of_ble_eq_true rfl) dX0_say_1 rfl ?_
  refine lv_iload_n hC.1 hC.2.1 dX0_say_4 rfl (lv_at hl 2 rfl) ?_
  refine p_cs (n := 1) (k_checkFace l hf) hC gX0_say_X0_checkFace rfl (by decide +kernel) rfl ⟨by decide, by decide⟩ ⟨Nat.zero_le _, Nat.zero_le _⟩ hl.1 (Nat.le_of_ble_eq_true rfl) dX0_say_5 rfl ?_
  refine lv_iload_n hC.1 hC.2.1 dX0_say_8 rfl (lv_at hl 3 rfl) ?_
  refine p_cs (n := 1) (k_checkQuarters l h1 hq) hC gX0_say_X0_checkQuarters rfl (by decide +kernel) rfl ⟨by decide, by decide⟩ ⟨Nat.zero_le _, Nat.zero_le _⟩ hl.1 (Nat.le_of_ble_eq_true rfl) dX0_say_9 rfl ?_
  refine lv_aload_n hC.1 hC.2.1 dX0_say_12 rfl (lv_at hl 0 rfl) ?_
  refine p_get (ref := "CornerCube") hC hE hP hmx hex rfl (by decide +kernel) 3 (by decide) (by decide +kernel) rfl rfl dX0_say_13 ?_
  refine lv_iload_n hC.1 hC.2.1 dX0_say_16 rfl (lv_at hl 1 rfl) ?_
  refine p_iald hC hE hP hml hel (by omega) (by decide) dX0_say_17 ?_
  refine q_i (nI (wd w).length) ((hW _ (by omega)).1) ?_
  refine lv_bipush (v := (nI 12)) hC.1 hC.2.1 dX0_say_18 (by decide) ?_
  refine z_icmp_lt (tgt := 33) hC dX0_say_20 (by decide) (by omega) (by omega) (fun h_20 => ?_) (fun h_20 => by omega)
  refine lv_aload_n hC.1 hC.2.1 dX0_say_33 rfl (lv_at hl 0 rfl) ?_
  refine p_get (ref := "CornerCube") hC hE hP hmx hex rfl (by decide +kernel) 2 (by decide) (by decide +kernel) rfl rfl dX0_say_34 ?_
  refine lv_iload_n hC.1 hC.2.1 dX0_say_37 rfl (lv_at hl 1 rfl) ?_
  refine p_aald hC hE hP hmg heg (by omega) (by decide) (hG _ (by omega)) dX0_say_38 ?_
  refine lv_aload_n hC.1 hC.2.1 dX0_say_39 rfl (lv_at hl 0 rfl) ?_
  refine p_get (ref := "CornerCube") hC hE hP hmx hex rfl (by decide +kernel) 3 (by decide) (by decide +kernel) rfl rfl dX0_say_40 ?_
  refine lv_iload_n hC.1 hC.2.1 dX0_say_43 rfl (lv_at hl 1 rfl) ?_
  refine p_iald hC hE hP hml hel (by omega) (by decide) dX0_say_44 ?_
  refine q_i (nI (wd w).length) ((hW _ (by omega)).1) ?_
  refine lv_iload_n hC.1 hC.2.1 dX0_say_45 rfl (lv_at hl 2 rfl) ?_
  refine lv_iload_n hC.1 hC.2.1 dX0_say_46 rfl (lv_at hl 3 rfl) ?_
  refine p_cs (n := 2) (k_turnNumber l hf h1 hq) hC gX0_say_X0_turnNumber rfl (by decide +kernel) rfl ⟨by decide, by decide⟩ ⟨Nat.zero_le _, Nat.zero_le _⟩ hl.1 (Nat.le_of_ble_eq_true rfl) dX0_say_47 rfl ?_
  refine p_iast hC hE hP hD hS (hrw _ hw).1 (hrw _ hw).2 (by omega) (by decide) dX0_say_50 (fun H locs hP hD hS => ?_)
  have hF := hF.put_rw (e := eI T.1 12 (upd (Rr w) (wd w).length (nI (3 * fc + q - 1)))) hw
  have hY := hY.put_rw hw (upd (Rr w) (wd w).length (nI (3 * fc + q - 1)))
  obtain ⟨⟨hmx, hex⟩, ⟨hmg, G, heg, hG⟩, ⟨hml, hel⟩, hrw, hinj⟩ := id hY
  refine lv_aload_n hC.1 hC.2.1 dX0_say_51 rfl (lv_at hl 0 rfl) ?_
  refine p_get (ref := "CornerCube") hC hE hP hmx hex rfl (by decide +kernel) 3 (by decide) (by decide +kernel) rfl rfl dX0_say_52 ?_
  refine lv_iload_n hC.1 hC.2.1 dX0_say_55 rfl (lv_at hl 1 rfl) ?_
  refine lv_dup2_11 hC.1 hC.2.1 dX0_say_56 rfl rfl ?_
  refine p_iald hC hE hP hml hel (by omega) (by decide) dX0_say_57 ?_
  refine q_i (nI (wd w).length) ((hW _ (by omega)).1) ?_
  refine lv_iconst (v := (nI 1)) hC.1 hC.2.1 dX0_say_58 (by decide) ?_
  refine z_iadd hC dX0_say_59 ?_
  refine p_iast hC hE hP hD hS hml hel (by omega) (by decide) dX0_say_60 (fun H locs hP hD hS => ?_)
  have hF := hF.put_ln (e := eI T.1 5 (upd Nn w (nI ((wd w).length + 1))))
  have hY := hY.put_ln (upd Nn w (nI ((wd w).length + 1)))
  obtain ⟨⟨hmx, hex⟩, ⟨hmg, G, heg, hG⟩, ⟨hml, hel⟩, hrw, hinj⟩ := id hY
  refine lv_aload_n hC.1 hC.2.1 dX0_say_61 rfl (lv_at hl 0 rfl) ?_
  refine p_get (ref := "CornerCube") hC hE hP hmx hex rfl (by decide +kernel) 3 (by decide) (by decide +kernel) rfl rfl dX0_say_62 ?_
  refine lv_iload_n hC.1 hC.2.1 dX0_say_65 rfl (lv_at hl 1 rfl) ?_
  refine p_iald hC hE hP hml hel (by omega) (by decide) dX0_say_66 ?_
  refine q_i (nI ((wd w).length + 1)) (upd_s) ?_
  have hW2 := hW.put w (wd w ++ [3 * fc + q - 1]) (N' := upd Nn w (nI ((wd w).length + 1))) (R' := fun v => if v = w then upd (Rr w) (wd w).length (nI (3 * fc + q - 1)) else Rr v) (fun v h => upd_n h) (fun v h => if_neg h) (by rw [upd_s, List.length_append]; rfl) (by rw [List.length_append]; exact h12) (fun k hk => by
    rw [if_pos rfl]
    by_cases e : k < (wd w).length
    · rw [upd_n (by omega), gd_l e]; exact (hW w hw).2.2 k e
    · have e2 : k = (wd w).length + 0 := by rw [List.length_append] at hk; simp at hk; omega
      rw [e2, gd_r]; exact ⟨upd_s, by show 3 * fc + q - 1 < 9; omega⟩)
  exact HV.iret hC hr hlk hP hD hS (by omega) (by omega) dX0_say_67 (⟨rfl, rfl, hY.up hvb hW2, hF⟩)
end
section
/-! MY ROWS 12: round, keep, tidy (laid by a program of mine) -/
set_option maxHeartbeats 4000000 in
set_option maxRecDepth 100000 in
theorem k_round (l : Launch) {D : va_G} {T : ClassId × ClassId × ClassId} {z0 : Nat} {L : List Nat} {f : Nat → va_E} {hx g ln : Nat} {rw : Nat → Nat} {b : Nat → Nat} {mk : Int32} {wd : Nat → List Nat} (hX : CX T L f hx g ln rw b mk wd) {w : Nat} (hw : w < 5) : HV l yX0_round wsX0_round (6) 0 0 D z0 (zPre D T z0 L f) [.ref hx, .int (nI w)] (XP T L f hx g ln rw (nI (wd w).length) b mk (wset wd w ((wd w).reverse.map tb))) := by
  refine HV.of (cc := cX0_round) (maxL := 6) (ret := (some .int)) (by decide) rfl (Nat.le_of_ble_eq_true rfl) ?_
  intro p e s m args below meth c hC hr hlk hin hB ls hl
  have hl : lv_has ls 6 [(0, .ref hx), (1, .int (nI w))] := hl
  obtain ⟨hE, hP, hD⟩ := hB
  obtain ⟨Nn, Rr, hY, hvb, hW⟩ := hX.raw
  obtain ⟨⟨hmx, hex⟩, ⟨hmg, G, heg, hG⟩, ⟨hml, hel⟩, hrw, hinj⟩ := id hY
  have hS : va_S (zA z0) s.heap s.heap [] := va_S.rf
  have hF : FRX hx ln rw f f := FRX.rf
  have hl12 := (hW w hw).2.1
  have loop : ∀ (n k : Nat) (R1 : Nat → Nat → Int32) (f1 : Nat → va_E) (H : Heap) (locs : List Loc), k + n = ((wd w).length + 1) / 2 → (∀ x, x ≠ w → R1 x = Rr x) ∧ (∀ j, j < (wd w).length → R1 w j = nI (if j < k ∨ (wd w).length - 1 - k < j then tb ((wd w).getD ((wd w).length - 1 - j) 0) else (wd w).getD j 0)) → CY T L f1 hx g ln rw b mk Nn R1 → FRX hx ln rw f f1 → va_P D vwCl (va_pl L f1) H → va_D (zA z0) (va_pl L f1) → va_S (zA z0) s.heap H locs → ∀ ls : Array Slot, lv_has ls 6 [(0, .ref hx), (1, .int (nI w)), (2, .ref (rw w)), (3, .int (nI k)), (4, .int (nI ((wd w).length - k) - 1))] → W p l e (rD (6) 0 0) s m args below meth c H locs 0 0 (MQ below (HVQ D z0 (XP T L f hx g ln rw (nI (wd w).length) b mk (wset wd w ((wd w).reverse.map tb)))) args s 0 0 (zA z0)) (F0 m 23 ls []) := by
    intro n
    induction n with
    | zero =>
      intro k R1 f1 H locs hk hJ hY hF hP hD hS ls hl
      obtain ⟨⟨hmx, hex⟩, ⟨hmg, G, heg, hG⟩, ⟨hml, hel⟩, hrw, hinj⟩ := id hY
      obtain ⟨hJ1, hJ2⟩ := id hJ
      have hgt : nI ((wd w).length - k) - 1 < nI k := by
        by_cases e : (wd w).length - k = 0
        · rw [e]; exact Int32.not_le.mp (m1_nlt k (by omega))
        · have e1 : nI ((wd w).length - k) - 1 = nI ((wd w).length - k - 1) := pk_sub (by omega : 1 ≤ (wd w).length - k)
          rw [e1]; exact nI_lt (by omega) (by omega)
      refine lv_iload_n hC.1 hC.2.1 dX0_round_23 rfl (lv_at hl 3 rfl) ?_
      refine lv_iload hC.1 hC.2.1 dX0_round_24 (lv_at hl 4 rfl) ?_
      refine lv_icmp_gt (tgt := 62) hC.1 hC.2.1 dX0_round_26 (by decide) (fun h_26 => ?_) (fun h_26 => absurd hgt h_26)
      refine lv_aload_n hC.1 hC.2.1 dX0_round_62 rfl (lv_at hl 0 rfl) ?_
      refine p_get (ref := "CornerCube") hC hE hP hmx hex rfl (by decide +kernel) 3 (by decide) (by decide +kernel) rfl rfl dX0_round_63 ?_
      refine lv_iload_n hC.1 hC.2.1 dX0_round_66 rfl (lv_at hl 1 rfl) ?_
      refine p_iald hC hE hP hml hel (by omega) (by decide) dX0_round_67 ?_
      refine q_i (nI (wd w).length) ((hW _ (by omega)).1) ?_
      have hW2 := hW.put w ((wd w).reverse.map tb) (N' := Nn) (R' := R1) (fun _ _ => rfl) hJ1 (by rw [List.length_map, List.length_reverse]; exact (hW w hw).1) (by rw [List.length_map, List.length_reverse]; exact hl12) (fun j hj => by
        have hj : j < (wd w).length := by rw [List.length_map, List.length_reverse] at hj; exact hj
        rw [hJ2 j hj, if_pos (by omega), gd_rev hj]
        exact ⟨rfl, tb_lt ((hW w hw).2.2 _ (by omega)).2⟩)
      exact HV.iret hC hr hlk hP hD hS (by omega) (by omega) dX0_round_68 (⟨rfl, rfl, hY.up hvb hW2, hF⟩)
    | succ n ih =>
      intro k R1 f1 H locs hk hJ hY hF hP hD hS ls hl
      obtain ⟨⟨hmx, hex⟩, ⟨hmg, G, heg, hG⟩, ⟨hml, hel⟩, hrw, hinj⟩ := id hY
      obtain ⟨hJ1, hJ2⟩ := id hJ
      have hk1 : nI ((wd w).length - k) - 1 = nI ((wd w).length - 1 - k) := (pk_sub (by omega : 1 ≤ (wd w).length - k)).trans (by rw [show (wd w).length - k - 1 = (wd w).length - 1 - k from by omega])
      rw [hk1] at hl
      have ha : R1 w k = nI ((wd w).getD k 0) := by rw [hJ2 k (by omega), if_neg (by omega)]
      have hb2 : R1 w ((wd w).length - 1 - k) = nI ((wd w).getD ((wd w).length - 1 - k) 0) := by rw [hJ2 _ (by omega), if_neg (by omega)]
      refine lv_iload_n hC.1 hC.2.1 dX0_round_23 rfl (lv_at hl 3 rfl) ?_
      refine lv_iload hC.1 hC.2.1 dX0_round_24 (lv_at hl 4 rfl) ?_
      refine z_icmp_gt (tgt := 62) hC dX0_round_26 (by decide) (by omega) (by omega) (fun h_26 => by omega) (fun h_26 => ?_)
      refine lv_aload_n hC.1 hC.2.1 dX0_round_29 rfl (lv_at hl 2 rfl) ?_
      refine lv_iload_n hC.1 hC.2.1 dX0_round_30 rfl (lv_at hl 3 rfl) ?_
      refine p_iald hC hE hP (hrw _ hw).1 (hrw _ hw).2 (by omega) (by decide) dX0_round_31 ?_
      refine q_i (nI ((wd w).getD k 0)) (ha) ?_
      refine lv_istore (lv' := [(5, .int (nI ((wd w).getD k 0))), (0, .ref hx), (1, .int (nI w)), (2, .ref (rw w)), (3, .int (nI k)), (4, .int (nI ((wd w).length - 1 - k)))]) hC.1 hC.2.1 dX0_round_32 hl (by decide) rfl (fun ls hl => ?_)
      refine lv_aload_n hC.1 hC.2.1 dX0_round_34 rfl (lv_at hl 3 rfl) ?_
      refine lv_iload_n hC.1 hC.2.1 dX0_round_35 rfl (lv_at hl 4 rfl) ?_
      refine lv_aload_n hC.1 hC.2.1 dX0_round_36 rfl (lv_at hl 3 rfl) ?_
      refine lv_iload hC.1 hC.2.1 dX0_round_37 (lv_at hl 5 rfl) ?_
      refine p_iald hC hE hP (hrw _ hw).1 (hrw _ hw).2 (by omega) (by decide) dX0_round_39 ?_
      refine q_i (nI ((wd w).getD ((wd w).length - 1 - k) 0)) (hb2) ?_
      refine p_cs (n := 1) (k_turnedBack l ((hW w hw).2.2 _ (by omega)).2) hC gX0_round_X0_turnedBack rfl (by decide +kernel) rfl ⟨by decide, by decide⟩ ⟨Nat.zero_le _, Nat.zero_le _⟩ hl.1 (Nat.le_of_ble_eq_true rfl) dX0_round_40 rfl ?_
      refine p_iast hC hE hP hD hS (hrw _ hw).1 (hrw _ hw).2 (by omega) (by decide) dX0_round_43 (fun H locs hP hD hS => ?_)
      have hF := hF.put_rw (e := eI T.1 12 ((upd (R1 w) k (nI (tb ((wd w).getD ((wd w).length - 1 - k) 0)))))) hw
      have hY := hY.put_rw hw ((upd (R1 w) k (nI (tb ((wd w).getD ((wd w).length - 1 - k) 0)))))
      obtain ⟨⟨hmx, hex⟩, ⟨hmg, G, heg, hG⟩, ⟨hml, hel⟩, hrw, hinj⟩ := id hY
      refine lv_aload_n hC.1 hC.2.1 dX0_round_44 rfl (lv_at hl 3 rfl) ?_
      refine lv_iload hC.1 hC.2.1 dX0_round_45 (lv_at hl 5 rfl) ?_
      refine lv_iload hC.1 hC.2.1 dX0_round_47 (lv_at hl 0 rfl) ?_
      refine p_cs (n := 1) (k_turnedBack l ((hW w hw).2.2 _ (by omega)).2) hC gX0_round_X0_turnedBack rfl (by decide +kernel) rfl ⟨by decide, by decide⟩ ⟨Nat.zero_le _, Nat.zero_le _⟩ hl.1 (Nat.le_of_ble_eq_true rfl) dX0_round_49 rfl ?_
      refine p_iast hC hE hP hD hS (hrw _ hw).1 ((hrw _ hw).2.trans (congrArg (eI T.1 12) (if_pos rfl))) (by omega) (by decide) dX0_round_52 (fun H locs hP hD hS => ?_)
      have hF := hF.put_rw (e := eI T.1 12 ((upd (upd (R1 w) k (nI (tb ((wd w).getD ((wd w).length - 1 - k) 0)))) ((wd w).length - 1 - k) (nI (tb ((wd w).getD k 0)))))) hw
      have hY := hY.put_rw hw ((upd (upd (R1 w) k (nI (tb ((wd w).getD ((wd w).length - 1 - k) 0)))) ((wd w).length - 1 - k) (nI (tb ((wd w).getD k 0)))))
      obtain ⟨⟨hmx, hex⟩, ⟨hmg, G, heg, hG⟩, ⟨hml, hel⟩, hrw, hinj⟩ := id hY
      have hJ : (∀ x, x ≠ w → (fun v => if v = w then (upd (upd (R1 w) k (nI (tb ((wd w).getD ((wd w).length - 1 - k) 0)))) ((wd w).length - 1 - k) (nI (tb ((wd w).getD k 0)))) else (fun v => if v = w then (upd (R1 w) k (nI (tb ((wd w).getD ((wd w).length - 1 - k) 0)))) else R1 v) v) x = Rr x) ∧ (∀ j, j < (wd w).length → (fun v => if v = w then (upd (upd (R1 w) k (nI (tb ((wd w).getD ((wd w).length - 1 - k) 0)))) ((wd w).length - 1 - k) (nI (tb ((wd w).getD k 0)))) else (fun v => if v = w then (upd (R1 w) k (nI (tb ((wd w).getD ((wd w).length - 1 - k) 0)))) else R1 v) v) w j = nI (if j < k + 1 ∨ (wd w).length - 1 - (k + 1) < j then tb ((wd w).getD ((wd w).length - 1 - j) 0) else (wd w).getD j 0)) := by
        refine ⟨fun x h => (if_neg h).trans ((if_neg h).trans (hJ1 x h)), fun j h => ?_⟩
        show (if w = w then (upd (upd (R1 w) k (nI (tb ((wd w).getD ((wd w).length - 1 - k) 0)))) ((wd w).length - 1 - k) (nI (tb ((wd w).getD k 0)))) else _) j = _
        rw [if_pos rfl]
        by_cases e1 : j = ((wd w).length - 1 - k)
        · rw [e1, upd_s, if_pos (by omega), show (wd w).length - 1 - ((wd w).length - 1 - k) = k from by omega]
        · rw [upd_n e1]
          by_cases e2 : j = k
          · rw [e2, upd_s, if_pos (by omega)]
          · rw [upd_n e2, hJ2 j h]
            by_cases e3 : j < k ∨ (wd w).length - 1 - k < j
            · rw [if_pos e3, if_pos (by omega)]
            · rw [if_neg e3, if_neg (by omega)]
      refine lv_iinc (v := nI (k + 1)) (lv' := [(3, .int (nI (k + 1))), (5, .int (nI ((wd w).getD k 0))), (0, .ref hx), (1, .int (nI w)), (2, .ref (rw w)), (4, .int (nI ((wd w).length - 1 - k)))]) hC.1 hC.2.1 dX0_round_53 hl (k := 4) rfl (z_inc _) (by decide) rfl (fun ls hl => ?_)
      refine lv_iinc (v := nI ((wd w).length - (k + 1)) - 1) (lv' := [(4, .int (nI ((wd w).length - (k + 1)) - 1)), (3, .int (nI (k + 1))), (5, .int (nI ((wd w).getD k 0))), (0, .ref hx), (1, .int (nI w)), (2, .ref (rw w))]) hC.1 hC.2.1 dX0_round_56 hl (k := 5) rfl (by rw [z_m1, show (wd w).length - (k + 1) = (wd w).length - 1 - k from by omega]) (by decide) rfl (fun ls hl => ?_)
      refine lv_goto (tgt := 23) hC.1 hC.2.1 dX0_round_59 (by decide) ?_
      exact ih (k + 1) _ _ _ _ (by omega) hJ hY hF hP hD hS ls (lv_sub hl [3, 4, 5, 1, 0] rfl)
  refine lv_iload_n hC.1 hC.2.1 dX0_round_0 rfl (lv_at hl 1 rfl) ?_
  refine p_cs (n := 1) (k_checkWord l hw) hC gX0_round_X0_checkWord rfl (by decide +kernel) rfl ⟨by decide, by decide⟩ ⟨Nat.zero_le _, Nat.zero_le _⟩ hl.1 (Nat.le_of_ble_eq_true rfl) dX0_round_1 rfl ?_
  refine lv_aload_n hC.1 hC.2.1 dX0_round_4 rfl (lv_at hl 0 rfl) ?_
  refine p_get (ref := "CornerCube") hC hE hP hmx hex rfl (by decide +kernel) 2 (by decide) (by decide +kernel) rfl rfl dX0_round_5 ?_
  refine lv_iload_n hC.1 hC.2.1 dX0_round_8 rfl (lv_at hl 1 rfl) ?_
  refine p_aald hC hE hP hmg heg (by omega) (by decide) (hG _ (by omega)) dX0_round_9 ?_
  refine lv_astore_n (lv' := [(2, .ref (rw w)), (0, .ref hx), (1, .int (nI w))]) hC.1 hC.2.1 dX0_round_10 rfl hl (by decide) rfl (fun ls hl => ?_)
  refine lv_iconst (v := (nI 0)) hC.1 hC.2.1 dX0_round_11 (by decide) ?_
  refine lv_istore_n (lv' := [(3, .int (nI 0)), (2, .ref (rw w)), (0, .ref hx), (1, .int (nI w))]) hC.1 hC.2.1 dX0_round_12 rfl hl (by decide) rfl (fun ls hl => ?_)
  refine lv_aload_n hC.1 hC.2.1 dX0_round_13 rfl (lv_at hl 2 rfl) ?_
  refine p_get (ref := "CornerCube") hC hE hP hmx hex rfl (by decide +kernel) 3 (by decide) (by decide +kernel) rfl rfl dX0_round_14 ?_
  refine lv_iload_n hC.1 hC.2.1 dX0_round_17 rfl (lv_at hl 3 rfl) ?_
  refine p_iald hC hE hP hml hel (by omega) (by decide) dX0_round_18 ?_
  refine q_i (nI (wd w).length) ((hW _ (by omega)).1) ?_
  refine lv_iconst (v := (nI 1)) hC.1 hC.2.1 dX0_round_19 (by decide) ?_
  refine lv_isub hC.1 hC.2.1 dX0_round_20 ?_
  refine lv_istore (lv' := [(4, .int ((nI (wd w).length) - (nI 1))), (3, .int (nI 0)), (2, .ref (rw w)), (0, .ref hx), (1, .int (nI w))]) hC.1 hC.2.1 dX0_round_21 hl (by decide) rfl (fun ls hl => ?_)
  exact loop _ 0 Rr _ _ _ (Nat.zero_add _) ⟨fun _ _ => rfl, fun j h => by rw [if_neg (by omega)]; exact ((hW w hw).2.2 j h).1⟩ hY hF hP hD hS ls (lv_sub hl [3, 4, 2, 1, 0] rfl)

theorem va_up_id {f : Nat → va_E} {y : Nat} {e : va_E} (h : f y = e) : va_up f y e = f := by
  funext a
  unfold va_up
  split
  · rename_i h1; rw [h1, h]
  · rfl
/-- what keep leaves in the row -/
def KP (T : ClassId × ClassId × ClassId) (L : List Nat) (f : Nat → va_E) (y : Nat) (r : Nat → Int32) (acc : List Nat) (t : Nat) : Option Value → List Nat → (Nat → va_E) → Prop := fun o L' f' => o = some (.int (nI (keepL acc t).length)) ∧ L' = L ∧ ∃ r', f' = va_up f y (eI T.1 12 r') ∧ (∀ k, k < (keepL acc t).length → r' k = nI ((keepL acc t).getD k 0)) ∧ ∀ k, acc.length < k → r' k = r k
theorem KP.app {T : ClassId × ClassId × ClassId} {L : List Nat} {f : Nat → va_E} {y : Nat} {r : Nat → Int32} {acc : List Nat} {t : Nat} (hr : ∀ k, k < acc.length → r k = nI (acc.getD k 0)) (h : acc.length = 0 ∨ ¬ acc.getD (acc.length - 1) 0 / 3 = t / 3) : KP T L f y r acc t (some (.int (nI (acc.length + 1)))) L (va_up f y (eI T.1 12 (upd r acc.length (nI t)))) := by
  have e : keepL acc t = acc ++ [t] := if_pos h
  unfold KP
  rw [e]
  refine ⟨by rw [List.length_append]; rfl, rfl, _, rfl, fun k hk => ?_, fun k hk => upd_n (by omega)⟩
  by_cases e : k < acc.length
  · rw [upd_n (by omega), gd_l e]; exact hr k e
  · have e2 : k = acc.length + 0 := by rw [List.length_append] at hk; simp at hk; omega
    rw [e2, gd_r]; exact upd_s
theorem KP.drop {T : ClassId × ClassId × ClassId} {L : List Nat} {f : Nat → va_E} {y : Nat} {r : Nat → Int32} {acc : List Nat} {t : Nat} (hf : f y = eI T.1 12 r) (hr : ∀ k, k < acc.length → r k = nI (acc.getD k 0)) (h1 : ¬ acc.length = 0) (h2 : acc.getD (acc.length - 1) 0 / 3 = t / 3) (h3 : (acc.getD (acc.length - 1) 0 % 3 + 1 + (t % 3 + 1)) % 4 = 0) : KP T L f y r acc t (some (.int (nI (acc.length - 1)))) L f := by
  have e : keepL acc t = acc.dropLast := (if_neg (by rintro (h | h); exact h1 h; exact h h2)).trans (if_pos h3)
  unfold KP
  rw [e]
  refine ⟨by rw [List.length_dropLast], rfl, r, (va_up_id hf).symm, fun k hk => ?_, fun k hk => rfl⟩
  have hk : k < acc.length - 1 := by simpa using hk
  rw [gd_dl hk]; exact hr k (by omega)
theorem KP.last {T : ClassId × ClassId × ClassId} {L : List Nat} {f : Nat → va_E} {y : Nat} {r : Nat → Int32} {acc : List Nat} {t : Nat} (hr : ∀ k, k < acc.length → r k = nI (acc.getD k 0)) (h1 : ¬ acc.length = 0) (h2 : acc.getD (acc.length - 1) 0 / 3 = t / 3) (h3 : ¬ (acc.getD (acc.length - 1) 0 % 3 + 1 + (t % 3 + 1)) % 4 = 0) : KP T L f y r acc t (some (.int (nI acc.length))) L (va_up f y (eI T.1 12 (upd r (acc.length - 1) (nI (3 * (t / 3) + (acc.getD (acc.length - 1) 0 % 3 + 1 + (t % 3 + 1)) % 4 - 1))))) := by
  have e : keepL acc t = acc.dropLast ++ [3 * (t / 3) + (acc.getD (acc.length - 1) 0 % 3 + 1 + (t % 3 + 1)) % 4 - 1] := (if_neg (by rintro (h | h); exact h1 h; exact h h2)).trans (if_neg h3)
  unfold KP
  rw [e]
  refine ⟨by rw [List.length_append, List.length_dropLast, List.length_singleton, show acc.length - 1 + 1 = acc.length from by omega], rfl, _, rfl, fun k hk => ?_, fun k hk => upd_n (by omega)⟩
  rw [List.length_append, List.length_dropLast, List.length_singleton] at hk
  by_cases e : k < acc.length - 1
  · rw [upd_n (by omega), gd_l (by rw [List.length_dropLast]; exact e), gd_dl e]; exact hr k (by omega)
  · have e2 : k = acc.dropLast.length + 0 := by rw [List.length_dropLast]; omega
    rw [e2, gd_r, Nat.add_zero, List.length_dropLast]; exact upd_s

set_option maxHeartbeats 4000000 in
set_option maxRecDepth 100000 in
theorem k_keep (l : Launch) {D : va_G} {T : ClassId × ClassId × ClassId} {z0 : Nat} {L : List Nat} {f : Nat → va_E} {y : Nat} {r : Nat → Int32} (hm : y ∈ L) (hf : f y = eI T.1 12 r) {acc : List Nat} (h12 : acc.length < 12) (hr0 : ∀ k, k < acc.length → r k = nI (acc.getD k 0)) (h9 : ∀ k, k < acc.length → acc.getD k 0 < 9) {t : Nat} (ht : t < 9) : HV l yX0_keep wsX0_keep 2 0 0 D z0 (zPre D T z0 L f) [.ref y, .int (nI acc.length), .int (nI t)] (KP T L f y r acc t) := by
  refine HV.of (cc := cX0_keep) (maxL := 4) (ret := (some .int)) (by decide) rfl (Nat.le_of_ble_eq_true rfl) ?_
  intro p e s m args below meth c hC hr hlk hin hB ls hl
  have hl : lv_has ls 4 [(0, .ref y), (1, .int (nI acc.length)), (2, .int (nI t))] := hl
  obtain ⟨hE, hP, hD⟩ := hB
  have hS : va_S (zA z0) s.heap s.heap [] := va_S.rf
  refine lv_iload_n hC.1 hC.2.1 dX0_keep_0 rfl (lv_at hl 1 rfl) ?_
  refine z_if_eq (tgt := 19) hC dX0_keep_1 (by decide) (by omega) (fun h_1 => ?_) (fun h_1 => ?_)
  · refine lv_aload_n hC.1 hC.2.1 dX0_keep_19 rfl (lv_at hl 0 rfl) ?_
    refine lv_iload_n hC.1 hC.2.1 dX0_keep_20 rfl (lv_at hl 1 rfl) ?_
    refine lv_iload_n hC.1 hC.2.1 dX0_keep_21 rfl (lv_at hl 2 rfl) ?_
    refine p_iast hC hE hP hD hS hm hf (by omega) (by decide) dX0_keep_22 (fun H locs hP hD hS => ?_)
    refine lv_iload_n hC.1 hC.2.1 dX0_keep_23 rfl (lv_at hl 1 rfl) ?_
    refine lv_iconst (v := (nI 1)) hC.1 hC.2.1 dX0_keep_24 (by decide) ?_
    refine z_iadd hC dX0_keep_25 ?_
    exact HV.iret hC hr hlk hP hD hS (by omega) (by omega) dX0_keep_26 (KP.app hr0 (Or.inl h_1))
  · refine lv_aload_n hC.1 hC.2.1 dX0_keep_4 rfl (lv_at hl 0 rfl) ?_
    refine lv_iload_n hC.1 hC.2.1 dX0_keep_5 rfl (lv_at hl 1 rfl) ?_
    refine lv_iconst (v := (nI 1)) hC.1 hC.2.1 dX0_keep_6 (by decide) ?_
    refine z_isub hC dX0_keep_7 (by omega) ?_
    refine p_iald hC hE hP hm hf (by omega) (by decide) dX0_keep_8 ?_
    refine q_i (nI (acc.getD (acc.length - 1) 0)) (hr0 _ (by omega)) ?_
    have hq9 := h9 (acc.length - 1) (by omega)
    refine p_cs (n := 1) (k_faceOf l (h9 _ (by omega))) hC gX0_keep_X0_faceOf rfl (by decide +kernel) rfl ⟨by decide, by decide⟩ ⟨Nat.zero_le _, Nat.zero_le _⟩ hl.1 (Nat.le_of_ble_eq_true rfl) dX0_keep_9 rfl ?_
    refine lv_iload_n hC.1 hC.2.1 dX0_keep_12 rfl (lv_at hl 2 rfl) ?_
    refine p_cs (n := 1) (k_faceOf l ht) hC gX0_keep_X0_faceOf rfl (by decide +kernel) rfl ⟨by decide, by decide⟩ ⟨Nat.zero_le _, Nat.zero_le _⟩ hl.1 (Nat.le_of_ble_eq_true rfl) dX0_keep_13 rfl ?_
    refine z_icmp_eq (tgt := 27) hC dX0_keep_16 (by decide) (by omega) (by omega) (fun h_16 => ?_) (fun h_16 => ?_)
    · refine lv_aload_n hC.1 hC.2.1 dX0_keep_27 rfl (lv_at hl 0 rfl) ?_
      refine lv_iload_n hC.1 hC.2.1 dX0_keep_28 rfl (lv_at hl 1 rfl) ?_
      refine lv_iconst (v := (nI 1)) hC.1 hC.2.1 dX0_keep_29 (by decide) ?_
      refine z_isub hC dX0_keep_30 (by omega) ?_
      refine p_iald hC hE hP hm hf (by omega) (by decide) dX0_keep_31 ?_
      refine q_i (nI (acc.getD (acc.length - 1) 0)) (hr0 _ (by omega)) ?_
      refine p_cs (n := 1) (k_quartersOf l (h9 _ (by omega))) hC gX0_keep_X0_quartersOf rfl (by decide +kernel) rfl ⟨by decide, by decide⟩ ⟨Nat.zero_le _, Nat.zero_le _⟩ hl.1 (Nat.le_of_ble_eq_true rfl) dX0_keep_32 rfl ?_
      refine lv_iload_n hC.1 hC.2.1 dX0_keep_35 rfl (lv_at hl 2 rfl) ?_
      refine p_cs (n := 1) (k_quartersOf l ht) hC gX0_keep_X0_quartersOf rfl (by decide +kernel) rfl ⟨by decide, by decide⟩ ⟨Nat.zero_le _, Nat.zero_le _⟩ hl.1 (Nat.le_of_ble_eq_true rfl) dX0_keep_36 rfl ?_
      refine z_iadd hC dX0_keep_39 ?_
      refine lv_iconst (v := (nI 4)) hC.1 hC.2.1 dX0_keep_40 (by decide) ?_
      refine z_irem hC dX0_keep_41 (by omega) (by decide) (by decide) ?_
      refine lv_istore_n (lv' := [(3, .int (nI ((((acc.getD (acc.length - 1) 0) % 3 + 1) + (t % 3 + 1)) % 4))), (0, .ref y), (1, .int (nI acc.length)), (2, .int (nI t))]) hC.1 hC.2.1 dX0_keep_42 rfl hl (by decide) rfl (fun ls hl => ?_)
      refine lv_iload_n hC.1 hC.2.1 dX0_keep_43 rfl (lv_at hl 0 rfl) ?_
      refine z_if_ne (tgt := 51) hC dX0_keep_44 (by decide) (by omega) (fun h_44 => ?_) (fun h_44 => ?_)
      · refine lv_aload_n hC.1 hC.2.1 dX0_keep_51 rfl (lv_at hl 1 rfl) ?_
        refine lv_iload_n hC.1 hC.2.1 dX0_keep_52 rfl (lv_at hl 2 rfl) ?_
        refine lv_iconst (v := (nI 1)) hC.1 hC.2.1 dX0_keep_53 (by decide) ?_
        refine z_isub hC dX0_keep_54 (by omega) ?_
        refine lv_iload_n hC.1 hC.2.1 dX0_keep_55 rfl (lv_at hl 3 rfl) ?_
        refine p_cs (n := 1) (k_faceOf l ht) hC gX0_keep_X0_faceOf rfl (by decide +kernel) rfl ⟨by decide, by decide⟩ ⟨Nat.zero_le _, Nat.zero_le _⟩ hl.1 (Nat.le_of_ble_eq_true rfl) dX0_keep_56 rfl ?_
        refine lv_iload_n hC.1 hC.2.1 dX0_keep_59 rfl (lv_at hl 0 rfl) ?_
        refine p_cs (n := 2) (k_turnNumber l (by omega) (by omega) (by omega)) hC gX0_keep_X0_turnNumber rfl (by decide +kernel) rfl ⟨by decide, by decide⟩ ⟨Nat.zero_le _, Nat.zero_le _⟩ hl.1 (Nat.le_of_ble_eq_true rfl) dX0_keep_60 rfl ?_
        refine p_iast hC hE hP hD hS hm hf (by omega) (by decide) dX0_keep_63 (fun H locs hP hD hS => ?_)
        refine lv_iload_n hC.1 hC.2.1 dX0_keep_64 rfl (lv_at hl 2 rfl) ?_
        exact HV.iret hC hr hlk hP hD hS (by omega) (by omega) dX0_keep_65 (KP.last hr0 h_1 h_16 h_44)
      · refine lv_iload_n hC.1 hC.2.1 dX0_keep_47 rfl (lv_at hl 2 rfl) ?_
        refine lv_iconst (v := (nI 1)) hC.1 hC.2.1 dX0_keep_48 (by decide) ?_
        refine z_isub hC dX0_keep_49 (by omega) ?_
        exact HV.iret hC hr hlk hP hD hS (by omega) (by omega) dX0_keep_50 (KP.drop hf hr0 h_1 h_16 h_44)
    · refine lv_aload_n hC.1 hC.2.1 dX0_keep_19 rfl (lv_at hl 0 rfl) ?_
      refine lv_iload_n hC.1 hC.2.1 dX0_keep_20 rfl (lv_at hl 1 rfl) ?_
      refine lv_iload_n hC.1 hC.2.1 dX0_keep_21 rfl (lv_at hl 2 rfl) ?_
      refine p_iast hC hE hP hD hS hm hf (by omega) (by decide) dX0_keep_22 (fun H locs hP hD hS => ?_)
      refine lv_iload_n hC.1 hC.2.1 dX0_keep_23 rfl (lv_at hl 1 rfl) ?_
      refine lv_iconst (v := (nI 1)) hC.1 hC.2.1 dX0_keep_24 (by decide) ?_
      refine z_iadd hC dX0_keep_25 ?_
      exact HV.iret hC hr hlk hP hD hS (by omega) (by omega) dX0_keep_26 (KP.app hr0 (Or.inr h_16))

set_option maxHeartbeats 4000000 in
set_option maxRecDepth 100000 in
theorem k_tidy (l : Launch) {D : va_G} {T : ClassId × ClassId × ClassId} {z0 : Nat} {L : List Nat} {f : Nat → va_E} {hx g ln : Nat} {rw : Nat → Nat} {b : Nat → Nat} {mk : Int32} {wd : Nat → List Nat} (hX : CX T L f hx g ln rw b mk wd) {w : Nat} (hw : w < 5) : HV l yX0_tidy wsX0_tidy (6) 0 0 D z0 (zPre D T z0 L f) [.ref hx, .int (nI w)] (XP T L f hx g ln rw (nI (tdN (wd w) (wd w).length).length) b mk (wset wd w (tdN (wd w) (wd w).length))) := by
  refine HV.of (cc := cX0_tidy) (maxL := 4) (ret := (some .int)) (by decide) rfl (Nat.le_of_ble_eq_true rfl) ?_
  intro p e s m args below meth c hC hr hlk hin hB ls hl
  have hl : lv_has ls 4 [(0, .ref hx), (1, .int (nI w))] := hl
  obtain ⟨hE, hP, hD⟩ := hB
  obtain ⟨Nn, Rr, hY, hvb, hW⟩ := hX.raw
  obtain ⟨⟨hmx, hex⟩, ⟨hmg, G, heg, hG⟩, ⟨hml, hel⟩, hrw, hinj⟩ := id hY
  have hS : va_S (zA z0) s.heap s.heap [] := va_S.rf
  have hF : FRX hx ln rw f f := FRX.rf
  have hl12 := (hW w hw).2.1
  have hl9 := fun k hk => ((hW w hw).2.2 k hk).2
  have loop : ∀ (n k : Nat) (R1 : Nat → Nat → Int32) (f1 : Nat → va_E) (H : Heap) (locs : List Loc), k + n = (wd w).length → (∀ x, x ≠ w → R1 x = Rr x) ∧ (∀ j, j < (tdN (wd w) k).length → R1 w j = nI ((tdN (wd w) k).getD j 0)) ∧ (∀ j, k ≤ j → R1 w j = Rr w j) → CY T L f1 hx g ln rw b mk Nn R1 → FRX hx ln rw f f1 → va_P D vwCl (va_pl L f1) H → va_D (zA z0) (va_pl L f1) → va_S (zA z0) s.heap H locs → ∀ ls : Array Slot, lv_has ls 4 [(0, .ref hx), (1, .int (nI w)), (2, .int (nI (tdN (wd w) k).length)), (3, .int (nI k))] → W p l e (rD (6) 0 0) s m args below meth c H locs 0 0 (MQ below (HVQ D z0 (XP T L f hx g ln rw (nI (tdN (wd w) (wd w).length).length) b mk (wset wd w (tdN (wd w) (wd w).length)))) args s 0 0 (zA z0)) (F0 m 8 ls []) := by
    intro n
    induction n with
    | zero =>
      intro k R1 f1 H locs hk hJ hY hF hP hD hS ls hl
      obtain ⟨⟨hmx, hex⟩, ⟨hmg, G, heg, hG⟩, ⟨hml, hel⟩, hrw, hinj⟩ := id hY
      obtain ⟨hJ1, hJ2, hJ3⟩ := id hJ
      have htl := tdN_len (wd w) k
      have hk : k = (wd w).length := by omega
      refine lv_iload_n hC.1 hC.2.1 dX0_tidy_8 rfl (lv_at hl 3 rfl) ?_
      refine lv_aload_n hC.1 hC.2.1 dX0_tidy_9 rfl (lv_at hl 0 rfl) ?_
      refine p_get (ref := "CornerCube") hC hE hP hmx hex rfl (by decide +kernel) 3 (by decide) (by decide +kernel) rfl rfl dX0_tidy_10 ?_
      refine lv_iload_n hC.1 hC.2.1 dX0_tidy_13 rfl (lv_at hl 1 rfl) ?_
      refine p_iald hC hE hP hml hel (by omega) (by decide) dX0_tidy_14 ?_
      refine q_i (nI (wd w).length) ((hW _ (by omega)).1) ?_
      refine z_icmp_ge (tgt := 43) hC dX0_tidy_15 (by decide) (by omega) (by omega) (fun h_15 => ?_) (fun h_15 => by omega)
      refine lv_aload_n hC.1 hC.2.1 dX0_tidy_43 rfl (lv_at hl 0 rfl) ?_
      refine p_get (ref := "CornerCube") hC hE hP hmx hex rfl (by decide +kernel) 3 (by decide) (by decide +kernel) rfl rfl dX0_tidy_44 ?_
      refine lv_iload_n hC.1 hC.2.1 dX0_tidy_47 rfl (lv_at hl 1 rfl) ?_
      refine lv_iload_n hC.1 hC.2.1 dX0_tidy_48 rfl (lv_at hl 2 rfl) ?_
      refine p_iast hC hE hP hD hS hml hel (by omega) (by decide) dX0_tidy_49 (fun H locs hP hD hS => ?_)
      have hF := hF.put_ln (e := eI T.1 5 (upd Nn w (nI (tdN (wd w) k).length)))
      have hY := hY.put_ln (upd Nn w (nI (tdN (wd w) k).length))
      obtain ⟨⟨hmx, hex⟩, ⟨hmg, G, heg, hG⟩, ⟨hml, hel⟩, hrw, hinj⟩ := id hY
      refine lv_iload_n hC.1 hC.2.1 dX0_tidy_50 rfl (lv_at hl 2 rfl) ?_
      have hW2 := hW.put w (tdN (wd w) k) (N' := upd Nn w (nI (tdN (wd w) k).length)) (R' := R1) (fun x h => upd_n h) hJ1 upd_s (by omega) (fun j hj => ⟨hJ2 j hj, tdN_9 hl9 k (by omega) j hj⟩)
      exact HV.iret hC hr hlk hP hD hS (by omega) (by omega) dX0_tidy_51 (by subst hk; exact ⟨rfl, rfl, hY.up hvb hW2, hF⟩)
    | succ n ih =>
      intro k R1 f1 H locs hk hJ hY hF hP hD hS ls hl
      obtain ⟨⟨hmx, hex⟩, ⟨hmg, G, heg, hG⟩, ⟨hml, hel⟩, hrw, hinj⟩ := id hY
      obtain ⟨hJ1, hJ2, hJ3⟩ := id hJ
      have htl := tdN_len (wd w) k
      refine lv_iload_n hC.1 hC.2.1 dX0_tidy_8 rfl (lv_at hl 3 rfl) ?_
      refine lv_aload_n hC.1 hC.2.1 dX0_tidy_9 rfl (lv_at hl 0 rfl) ?_
      refine p_get (ref := "CornerCube") hC hE hP hmx hex rfl (by decide +kernel) 3 (by decide) (by decide +kernel) rfl rfl dX0_tidy_10 ?_
      refine lv_iload_n hC.1 hC.2.1 dX0_tidy_13 rfl (lv_at hl 1 rfl) ?_
      refine p_iald hC hE hP hml hel (by omega) (by decide) dX0_tidy_14 ?_
      refine q_i (nI (wd w).length) ((hW _ (by omega)).1) ?_
      refine z_icmp_ge (tgt := 43) hC dX0_tidy_15 (by decide) (by omega) (by omega) (fun h_15 => by omega) (fun h_15 => ?_)
      refine lv_aload_n hC.1 hC.2.1 dX0_tidy_18 rfl (lv_at hl 0 rfl) ?_
      refine p_get (ref := "CornerCube") hC hE hP hmx hex rfl (by decide +kernel) 2 (by decide) (by decide +kernel) rfl rfl dX0_tidy_19 ?_
      refine lv_iload_n hC.1 hC.2.1 dX0_tidy_22 rfl (lv_at hl 1 rfl) ?_
      refine p_aald hC hE hP hmg heg (by omega) (by decide) (hG _ (by omega)) dX0_tidy_23 ?_
      refine lv_iload_n hC.1 hC.2.1 dX0_tidy_24 rfl (lv_at hl 2 rfl) ?_
      refine lv_aload_n hC.1 hC.2.1 dX0_tidy_25 rfl (lv_at hl 0 rfl) ?_
      refine p_get (ref := "CornerCube") hC hE hP hmx hex rfl (by decide +kernel) 2 (by decide) (by decide +kernel) rfl rfl dX0_tidy_26 ?_
      refine lv_iload_n hC.1 hC.2.1 dX0_tidy_29 rfl (lv_at hl 1 rfl) ?_
      refine p_aald hC hE hP hmg heg (by omega) (by decide) (hG _ (by omega)) dX0_tidy_30 ?_
      refine lv_iload_n hC.1 hC.2.1 dX0_tidy_31 rfl (lv_at hl 3 rfl) ?_
      refine p_iald hC hE hP (hrw _ hw).1 (hrw _ hw).2 (by omega) (by decide) dX0_tidy_32 ?_
      refine q_i (nI ((wd w).getD k 0)) ((congrFun rfl k).trans ((hJ3 k (Nat.le_refl k)).trans ((hW w hw).2.2 k (by omega)).1)) ?_
      refine p_csH (n := 3) (k_keep l (hrw _ hw).1 (hrw _ hw).2 (acc := tdN (wd w) k) (by omega) hJ2 (tdN_9 hl9 k (by omega)) (hl9 k (by omega))) hC hE hP hD hS gX0_tidy_X0_keep rfl (by decide +kernel) rfl ⟨by decide, by decide⟩ ⟨Nat.zero_le _, Nat.zero_le _⟩ hl.1 (Nat.le_of_ble_eq_true rfl) dX0_tidy_33 rfl (fun o L1 f2 H locs hpost hP hD hS => ?_)
      obtain ⟨rfl, rfl, r2, rfl, hk1, hk2⟩ := hpost
      have hF := hF.put_rw (e := eI T.1 12 (r2)) hw
      have hY := hY.put_rw hw (r2)
      obtain ⟨⟨hmx, hex⟩, ⟨hmg, G, heg, hG⟩, ⟨hml, hel⟩, hrw, hinj⟩ := id hY
      have hJ : (∀ x, x ≠ w → (fun v => if v = w then r2 else R1 v) x = Rr x) ∧ (∀ j, j < (tdN (wd w) (k + 1)).length → (fun v => if v = w then r2 else R1 v) w j = nI ((tdN (wd w) (k + 1)).getD j 0)) ∧ (∀ j, k + 1 ≤ j → (fun v => if v = w then r2 else R1 v) w j = Rr w j) := by
        refine ⟨fun x h => (if_neg h).trans (hJ1 x h), fun j h => ?_, fun j h => ?_⟩
        · show (if w = w then r2 else R1 w) j = _
          rw [if_pos rfl]; exact hk1 j h
        · show (if w = w then r2 else R1 w) j = _
          rw [if_pos rfl, hk2 j (by omega)]; exact hJ3 j (by omega)
      refine lv_istore_n (lv' := [(2, .int (nI (tdN (wd w) (k + 1)).length)), (0, .ref hx), (1, .int (nI w)), (3, .int (nI k))]) hC.1 hC.2.1 dX0_tidy_36 rfl hl (by decide) rfl (fun ls hl => ?_)
      refine lv_iinc (v := nI (k + 1)) (lv' := [(3, .int (nI (k + 1))), (2, .int (nI (tdN (wd w) (k + 1)).length)), (0, .ref hx), (1, .int (nI w))]) hC.1 hC.2.1 dX0_tidy_37 hl (k := 3) rfl (z_inc _) (by decide) rfl (fun ls hl => ?_)
      refine lv_goto (tgt := 8) hC.1 hC.2.1 dX0_tidy_40 (by decide) ?_
      exact ih (k + 1) _ _ _ _ (by omega) hJ hY hF hP hD hS ls (lv_sub hl [2, 3, 1, 0] rfl)
  refine lv_iload_n hC.1 hC.2.1 dX0_tidy_0 rfl (lv_at hl 1 rfl) ?_
  refine p_cs (n := 1) (k_checkWord l hw) hC gX0_tidy_X0_checkWord rfl (by decide +kernel) rfl ⟨by decide, by decide⟩ ⟨Nat.zero_le _, Nat.zero_le _⟩ hl.1 (Nat.le_of_ble_eq_true rfl) dX0_tidy_1 rfl ?_
  refine lv_iconst (v := (nI 0)) hC.1 hC.2.1 dX0_tidy_4 (by decide) ?_
  refine lv_istore_n (lv' := [(2, .int (nI 0)), (0, .ref hx), (1, .int (nI w))]) hC.1 hC.2.1 dX0_tidy_5 rfl hl (by decide) rfl (fun ls hl => ?_)
  refine lv_iconst (v := (nI 0)) hC.1 hC.2.1 dX0_tidy_6 (by decide) ?_
  refine lv_istore_n (lv' := [(3, .int (nI 0)), (2, .int (nI 0)), (0, .ref hx), (1, .int (nI w))]) hC.1 hC.2.1 dX0_tidy_7 rfl hl (by decide) rfl (fun ls hl => ?_)
  exact loop _ 0 Rr _ _ _ (Nat.zero_add _) ⟨fun _ _ => rfl, fun j h => absurd h (by simp [tdN]), fun _ _ => rfl⟩ hY hF hP hD hS ls (lv_sub hl [2, 3, 1, 0] rfl)
end
section
/-! MY ROWS 13: what is made: rows of rows; the class's beginning; its mean -/
theorem AOA_spec {U : State} {t : FieldType} (h : va_AOA t U) :
    ∃ comp c k, U.vm.findClass (FieldType.array t).toString = some comp ∧ (U.vm.classes.findIdx? fun (x : Class) => match x.kind with | .array component _ => component == comp | _ => false) = some c ∧ U.vm.classes[c]? = some k ∧ k.kind = .array comp (.array t) ∧ U.vm.findClass ("[" ++ (FieldType.array t).toString) = some c := by
  unfold va_AOA Cond.before at h
  simp only [Cond.holds, Cond.value, beq_iff_eq] at h
  cases hc : U.vm.findClass (FieldType.array t).toString with
  | none => simp [hc] at h
  | some comp =>
    simp only [hc, Option.bind_some, Option.bind_eq_some_iff, Option.map_eq_some_iff] at h
    obtain ⟨c, hi, k, hk, hb⟩ := h
    obtain ⟨hlt, hp, -⟩ := Array.findIdx?_eq_some_iff_getElem.mp hi
    have hkk : U.vm.classes[c] = k := (Array.getElem?_eq_some_iff.mp hk).2
    rw [hkk] at hp
    cases hkind : k.kind with
    | array component ty =>
      rw [hkind] at hb hp
      simp at hb hp
      exact ⟨comp, c, k, rfl, hi, hk, by rw [hkind, hp, hb.1], hb.2⟩
    | _ => rw [hkind] at hb; simp at hb
theorem AOA_moved {t : FieldType} {u U : State} (hvm : u.vm.Alike U.vm) (h : va_AOA t u) : va_AOA t U := by
  obtain ⟨comp, c, k, h1, h2, h3, h4, h5⟩ := AOA_spec h
  obtain ⟨k', hk', he⟩ := hvm.2.2 _ _ h3
  have hi : (U.vm.classes.findIdx? fun (x : Class) => match x.kind with | .array component _ => component == comp | _ => false) = some c := by
    exact (hvm.findIdx?_eqK _ (fun _ => rfl)).trans h2
  have hkind : k'.kind = .array comp (.array t) := by rw [he]; exact h4
  have f1 : U.vm.findClass (FieldType.array t).toString = some comp := by rw [hvm.findClass]; exact h1
  have f2 : U.vm.findClass ("[" ++ (FieldType.array t).toString) = some c := by rw [hvm.findClass]; exact h5
  unfold va_AOA Cond.before Cond.holds
  simp only [Cond.value]
  rw [f1, Option.bind_some]
  refine (congrArg (fun o : Option Nat => (o.bind (fun c => (U.vm.classes[c]?).map fun (k : Class) => match k.kind with | .array _ ty => decide (ty = FieldType.array t) && decide (U.vm.findClass ("[" ++ (FieldType.array t).toString) = some c) | _ => false) == some true)) hi).trans ?_
  simp [hk', hkind, f2]
/-- what the two beginnings find -/
def zPre0 (D : va_G) (T : ClassId × ClassId × ClassId) (z0 : Nat) (L : List Nat) (f : Nat → va_E) (U : State) : Prop := zPre D T z0 L f U ∧ va_AOA .int U
theorem zPre0.blind {D : va_G} {T : ClassId × ClassId × ClassId} {z0 : Nat} {L : List Nat} {f : Nat → va_E} {av : List Value} : FrameBlind (va_Pc av (zPre0 D T z0 L f)) := by
  intro a U g mk h
  exact ⟨h.1, (zPre.blind (av := av) a U g mk ⟨h.1, h.2.1⟩).2, AOA_moved (u := U) (U := U.calling g mk a) (Vm.Alike.refl U.vm) h.2.2⟩
theorem vr_lo {r : Nat → Nat} {n i : Nat} (h : i < n) : r i ∈ (List.range n).map r := List.mem_map.mpr ⟨i, List.mem_range.mpr h, rfl⟩
section ZM
variable {p : Program} {l : Launch} {e : Env} {R : Room} {s : State} {m : MethodId} {args : Array Value} {below : List Frame} {meth : Method} {c : Code} {H : Heap} {locs : List Loc} {cells slots : Nat} {Q : State → Prop}
variable {Ts : List Cond} {own : String} {nL : Nat} {cc : ByteArray} {pc : Nat} {ls : Array Slot} {rest : List Value} {D : va_G} {T : ClassId × ClassId × ClassId} {z0 : Nat} {L : List Nat} {f : Nat → va_E}
/-- new int[n][k] -/
theorem p_mna {n k index : Nat} (hC : CallFix p m c cc nL s args Ts own) (hE : zE D T z0 s) (hAO : va_AOA .int s) (hP : va_P D vwCl (va_pl L f) H) (hD : va_D (zA z0) (va_pl L f)) (hS : va_S (zA z0) s.heap H locs) (hcl : Cond.classLink own index "[[I" ∈ Ts) (harr : Cond.arrayClass .int ∈ Ts) (hn : n ≤ 100) (hk : k ≤ 100) (hcells : cells + (1 + n) ≤ R.cells) (hslots : slots + (n + n * k) ≤ R.slots) (hdg : decode cc pc = .ok (.multianewarray index 2, 4))
    (kk : ∀ (q : Nat) (r : Nat → Nat) (L1 : List Nat) (f1 : Nat → va_E) (H1 : Heap), (∀ i j : Nat, i < n → j < n → r i = r j → i = j) → q ∉ L → (∀ i, i < n → r i ∉ L) → q ∈ L1 → (∀ i, i < n → r i ∈ L1) → (∀ a, a ∈ L → a ∈ L1) → (∀ a, a ∈ L → f1 a = f a) → (∃ G : Nat → Option Nat, f1 q = eQ T.2.2 n G ∧ ∀ i, i < n → G i = some (r i)) → (∀ i, i < n → f1 (r i) = eI T.1 k (fun _ => 0)) → va_P D vwCl (va_pl L1 f1) H1 → va_D (zA z0) (va_pl L1 f1) → va_S (zA z0) s.heap H1 locs → W p l e R s m args below meth c H1 locs (cells + 1 + n) (slots + n + n * k) Q (F0 m (pc + 4) ls (.ref q :: rest))) : W p l e R s m args below meth c H locs cells slots Q (F0 m pc ls (.int (nI k) :: .int (nI n) :: rest)) := by
  have hn31 : n < 2 ^ 31 := Nat.lt_of_le_of_lt hn (by decide)
  have hk31 : k < 2 ^ 31 := Nat.lt_of_le_of_lt hk (by decide)
  have hI : s.vm.findClass "[I" = some T.1 := (hE.2.2.2 0 _ rfl).2
  refine va_mna (X := []) (L := L) (f := f) (ty := .int) (cy := T.1) (N' := n) (K' := k) (z := (k, .inl (fun _ => 0))) hC.1 hC.2.1 hC.2.2.2.1 (hC.2.2.2.2 _ hcl) hAO (hC.2.2.2.2 _ harr) hI hE.2.2 (by rw [List.nil_append]; exact hP) (by rw [List.nil_append]; exact hD) hS (zA_hA hE) (nI_pos hn31) (nI_pos hk31) (nI_clamp hn31) (nI_clamp hk31) (by omega) (by show k * 4 ≤ 536870912; omega) (by omega) rfl rfl hcells hslots (fun c => by show ({ cls := c, slots := Array.replicate k (defaultValue .int), vm := .none } : Cell) = arrV c k (fun j => .int 0); exact arrV_new c k (.int 0)) hdg ?_
  intro q r cA H1 hr hrL hK1 hP1 hD1 hS1
  have h1 : s.vm.findClass "[[I" = some T.2.2 := (hE.2.2.2 2 _ rfl).2
  have h2 : s.vm.findClass "[[I" = some cA := (hK1.2 3 _ rfl).2
  have h3 : T.2.2 = cA := Option.some.inj (h1.symm.trans h2)
  subst h3
  generalize hL2 : L ++ (List.range n).map r = L2 at hP1 hD1
  generalize hf2 : vr_up f ((List.range n).map r) (.inl (T.1, (k, .inl (fun _ => 0)))) = f2 at hP1 hD1
  generalize hG : (fun i => if i < n then some (r i) else none) = G at hP1 hD1
  have hq2 : q ∉ L2 := fun hq => by
    obtain ⟨j, hj⟩ := pl_get (f := f2) hq
    have e0 : (([] ++ [(q, Sum.inl (T.2.2, n, Sum.inr (Sum.inr (Sum.inr (Sum.inr G)))))]) ++ va_pl L2 f2)[0]? = some (q, Sum.inl (T.2.2, n, Sum.inr (Sum.inr (Sum.inr (Sum.inr G))))) := rfl
    have e1 : (([] ++ [(q, Sum.inl (T.2.2, n, Sum.inr (Sum.inr (Sum.inr (Sum.inr G)))))]) ++ va_pl L2 f2)[j + 1]? = some (q, f2 q) := hj
    exact absurd (hD1.1 0 (j + 1) _ _ e0 e1 rfl) (by omega)
  have hw : (([] ++ [(q, Sum.inl (T.2.2, n, Sum.inr (Sum.inr (Sum.inr (Sum.inr G)))))]) ++ va_pl L2 f2) = va_pl (q :: L2) (va_up f2 q (eQ T.2.2 n G)) := by
    show (q, _) :: va_pl L2 f2 = (q, va_up f2 q _ q) :: va_pl L2 (va_up f2 q _)
    rw [va_up_self]
    congr 1
    unfold va_pl
    apply List.map_congr_left
    intro a ha
    rw [va_up_ne _ _ (fun e : a = q => hq2 (e ▸ ha))]
  rw [hw] at hP1 hD1
  have hqL : q ∉ L := fun h => hq2 (by rw [← hL2]; exact List.mem_append_left _ h)
  have hr2 : ∀ i, i < n → r i ∈ L2 := fun i hi => by rw [← hL2]; exact List.mem_append_right _ (vr_lo hi)
  have hrq : ∀ i, i < n → r i ≠ q := fun i hi h => hq2 (h ▸ hr2 i hi)
  refine kk q r (q :: L2) _ H1 hr hqL hrL List.mem_cons_self (fun i hi => List.mem_cons_of_mem _ (hr2 i hi)) (fun a ha => List.mem_cons_of_mem _ (by rw [← hL2]; exact List.mem_append_left _ ha)) (fun a ha => ?_) ⟨G, va_up_self _ _ _, fun i hi => by rw [← hG]; exact if_pos hi⟩ (fun i hi => ?_) hP1 hD1 hS1
  · rw [va_up_ne _ _ (fun e : a = q => hqL (e ▸ ha)), ← hf2]
    exact vr_up_ne (fun h => by
      obtain ⟨i, hi, rfl⟩ := List.mem_map.mp h
      exact hrL i (List.mem_range.mp hi) ha)
  · rw [va_up_ne _ _ (hrq i hi), ← hf2]
    exact vr_up_in (vr_lo hi)
theorem z_objInit {index : Nat} {Cn : String} {a : Nat} (hC : CallFix p m c cc nL s args Ts Cn) (hlink : Cond.methodLink Cn index objectInit ∈ Ts) (hinst : Cond.instanceMethod objectInit ∈ Ts) (hcode : Cond.code objectInit ⟨#[0xb1]⟩ 1 none ∈ Ts) (hsz : ls.size = nL) (hfr : 1 ≤ R.frames) (hlo : 12 ≤ R.locals) (hdg : decode cc pc = .ok (.invokespecial index, 3))
    (kk : W p l e R s m args below meth c H locs cells slots Q (F0 m (pc + 3) ls [])) : W p l e R s m args below meth c H locs cells slots Q (F0 m pc ls [.ref a]) :=
  W.objInit (a := a) (rest := []) hC.1 hC.2.1 hC.2.2.2.1 (hC.2.2.2.2 _ hlink) (hC.2.2.2.2 _ hinst) (hC.2.2.2.2 _ hcode) rfl (by rw [hC.2.2.1]; exact hsz) rfl hdg hfr (by simpa [JFrame.monitorRoom] using hlo) kk
theorem RV.dret {v x : UInt64} (hC : CallFix p m c cc nL s args Ts own) (hr : meth.sig.returnType = some .double) (hlk : meth.locks = false) (hdg : decode cc pc = .ok (.dreturn, 1)) (hv : x = v) :
    W p l e R s m args below meth c s.heap [] 0 0 (MQ below (RVQ (some (.double v))) args s 0 0 (fun _ => False)) (F0 m pc ls [.double x]) := by
  subst hv
  exact W.dret hC.1 hC.2.1 hr (fun t ht _ => ⟨rfl, ht⟩) (fun q h => by cases h) hdg hlk
theorem HV.dret {x : UInt64} {mc ms : Nat} {post : Option Value → List Nat → (Nat → va_E) → Prop} (hC : CallFix p m c cc nL s args Ts own) (hr : meth.sig.returnType = some .double) (hlk : meth.locks = false) (hP : va_P D vwCl (va_pl L f) H) (hD : va_D (zA z0) (va_pl L f)) (hS : va_S (zA z0) s.heap H locs) (hc : cells ≤ mc) (hs : slots ≤ ms) (hdg : decode cc pc = .ok (.dreturn, 1)) (hp : post (some (.double x)) L f) :
    W p l e R s m args below meth c H locs cells slots (MQ below (HVQ D z0 post) args s mc ms (zA z0)) (F0 m pc ls [.double x]) :=
  W.widen hc hs (W.dret hC.1 hC.2.1 hr (fun t ht _ => HV.post hP hD hS hp t ht) hS.2.2 hdg hlk)
end ZM
set_option maxHeartbeats 4000000 in
set_option maxRecDepth 100000 in
theorem k_X0init (l : Launch) {D : va_G} {T : ClassId × ClassId × ClassId} {z0 : Nat} {L : List Nat} {f : Nat → va_E} {hx : Nat} (hmx : hx ∈ L) (hex : f hx = eO 0 [.long 0, .int 0, .null, .null]) : HV l yX0_init wsX0_init 2 7 70 D z0 (zPre0 D T z0 L f) [.ref hx] (fun o L1 f1 => o = none ∧ ∃ (g ln : Nat) (rw : Nat → Nat), CX T L1 f1 hx g ln rw one (nI 0) (fun _ => []) ∧ (∀ a, a ∈ L → a ∈ L1) ∧ (∀ a, a ∈ L → a ≠ hx → f1 a = f a) ∧ g ∉ L ∧ ln ∉ L ∧ ∀ w, w < 5 → rw w ∉ L) := by
  refine HV.of (cc := cX0_init) (maxL := 1) (ret := none) (by decide) rfl (Nat.le_of_ble_eq_true rfl) ?_
  intro p e s m args below meth c hC hr hlk hin hB ls hl
  have hin := hin rfl
  have hl : lv_has ls 1 [(0, .ref hx)] := hl
  obtain ⟨⟨hE, hP, hD⟩, hAO⟩ := hB
  have hS : va_S (zA z0) s.heap s.heap [] := va_S.rf
  refine lv_aload_n hC.1 hC.2.1 dX0_init_0 rfl (lv_at hl 0 rfl) ?_
  refine z_objInit hC (by decide +kernel) (by decide +kernel) (by decide +kernel) hl.1 (by decide) (by decide) dX0_init_1 ?_
  refine lv_aload_n hC.1 hC.2.1 dX0_init_4 rfl (lv_at hl 0 rfl) ?_
  refine lv_ldc2 (v := 506097522914230528) hC.1 hC.2.1 hC.2.2.2.1 (hC.2.2.2.2 (.constantLong RX0 9 (506097522914230528)) (by decide +kernel)) dX0_init_5 ?_
  refine q_l (enc one) (enc_one) ?_
  refine p_put (ref := "CornerCube") (ty0 := tyX0) hC hE hP hD hS hmx hex rfl (by decide +kernel) tyX0_ok nmX0 0 (by decide) (by decide +kernel) rfl rfl rfl rfl (Nat.le_of_ble_eq_true rfl) dX0_init_8 (fun H locs hP hD hS => ?_)
  have hex := va_up_self f hx (eO 0 [.long (enc one), .int 0, .null, .null])
  refine lv_aload_n hC.1 hC.2.1 dX0_init_11 rfl (lv_at hl 0 rfl) ?_
  refine lv_iconst (v := (nI 0)) hC.1 hC.2.1 dX0_init_12 (by decide) ?_
  refine p_put (ref := "CornerCube") (ty0 := tyX0) hC hE hP hD hS hmx hex rfl (by decide +kernel) tyX0_ok nmX0 1 (by decide) (by decide +kernel) rfl rfl rfl rfl (Nat.le_of_ble_eq_true rfl) dX0_init_13 (fun H locs hP hD hS => ?_)
  have hf0 : ∀ a, a ≠ hx → va_up (va_up f hx (eO 0 [.long (enc one), .int 0, .null, .null])) hx (eO 0 [.long (enc one), .int (nI 0), .null, .null]) a = f a := fun a h => (va_up_ne _ _ h).trans (va_up_ne _ _ h)
  have hex := va_up_self (va_up f hx (eO 0 [.long (enc one), .int 0, .null, .null])) hx (eO 0 [.long (enc one), .int (nI 0), .null, .null])
  refine lv_aload_n hC.1 hC.2.1 dX0_init_16 rfl (lv_at hl 0 rfl) ?_
  refine lv_iconst (v := (nI 5)) hC.1 hC.2.1 dX0_init_17 (by decide) ?_
  refine lv_bipush (v := (nI 12)) hC.1 hC.2.1 dX0_init_18 (by decide) ?_
  refine p_mna hC hE hAO hP hD hS (by decide +kernel) (by decide +kernel) (by decide) (by decide) (by decide) (by decide) dX0_init_20 (fun q r L1 f1 H hri hq0 hr0 hq1 hr1 hL1 hf1 hfq hfr hP hD hS => ?_)
  have hex : f1 hx = eO 0 [.long (enc one), .int (nI 0), .null, .null] := (hf1 hx hmx).trans hex
  have hmx0 := hmx
  have hmx := hL1 hx hmx
  refine p_putF (ref := "CornerCube") (ty0 := tyX0) hC hE hP hD hS hmx hex rfl (by decide +kernel) tyX0_ok nmX0 2 (by decide) (by decide +kernel) rfl rfl hin rfl rfl rfl (Nat.le_of_ble_eq_true rfl) dX0_init_24 (fun H locs hP hD hS => ?_)
  refine lv_aload_n hC.1 hC.2.1 dX0_init_27 rfl (lv_at hl 0 rfl) ?_
  refine lv_iconst (v := (nI 5)) hC.1 hC.2.1 dX0_init_28 (by decide) ?_
  refine p_newI hC hE hP hD hS (by decide +kernel) (by decide) (by decide) (by decide) dX0_init_29 (fun y H hy hP hD hS => ?_)
  have hyx : hx ≠ y := fun e => hy (e ▸ hmx)
  have hex2 := (va_up_ne (va_up f1 hx (eO 0 [.long (enc one), .int (nI 0), .ref q, .null])) (eI T.1 5 (fun _ => 0)) hyx).trans (va_up_self f1 hx (eO 0 [.long (enc one), .int (nI 0), .ref q, .null]))
  have hmx2 : hx ∈ L1 ++ [y] := List.mem_append_left _ hmx
  refine p_putF (ref := "CornerCube") (ty0 := tyX0) hC hE hP hD hS hmx2 hex2 rfl (by decide +kernel) tyX0_ok nmX0 3 (by decide) (by decide +kernel) rfl rfl hin rfl rfl rfl (Nat.le_of_ble_eq_true rfl) dX0_init_31 (fun H locs hP hD hS => ?_)
  obtain ⟨G, hfq, hG⟩ := hfq
  have hqx : q ≠ hx := fun e => hq0 (e ▸ hmx0)
  have hqy : q ≠ y := fun e => hy (e ▸ hq1)
  have hrx : ∀ w, w < 5 → r w ≠ hx := fun w hw e => hr0 w hw (e ▸ hmx0)
  have hry : ∀ w, w < 5 → r w ≠ y := fun w hw e => hy (e ▸ hr1 w hw)
  have hup : ∀ a, a ≠ hx → a ≠ y → va_up (va_up (va_up f1 hx (eO 0 [.long (enc one), .int (nI 0), .ref q, .null])) y (eI T.1 5 (fun _ => 0))) hx (eO 0 [.long (enc one), .int (nI 0), .ref q, .ref y]) a = f1 a := fun a h1 h2 => (va_up_ne _ _ h1).trans ((va_up_ne _ _ h2).trans (va_up_ne _ _ h1))
  exact HV.vret hC hr hlk hP hD hS (by decide) (by decide) dX0_init_34 (⟨rfl, q, y, r, ⟨⟨hmx2, va_up_self _ _ _⟩, ⟨List.mem_append_left _ hq1, G, (hup q hqx hqy).trans hfq, hG⟩, ⟨List.mem_append_right _ (List.mem_singleton.mpr rfl), _, (va_up_ne _ _ hyx.symm).trans (va_up_self _ _ _), fun w hw => rfl⟩, fun w hw => ⟨List.mem_append_left _ (hr1 w hw), _, (hup _ (hrx w hw) (hry w hw)).trans (hfr w hw), fun k hk => absurd hk (by simp)⟩, hri, one_Va, fun w hw => ⟨Nat.zero_le _, fun k hk => absurd hk (by simp)⟩⟩, fun a ha => List.mem_append_left _ (hL1 a ha), fun a ha hax => (hup a hax (fun e => hy (e ▸ hL1 a ha))).trans ((hf1 a ha).trans (hf0 a hax)), hq0, fun h => hy (hL1 y h), hr0⟩)
end
section
/-! MY ROWS 19: what the mathematics speaks of -/
theorem comp_lo (a d : Nat → Nat) (i : Nat) : comp a d i % 8 = a (d i % 8) % 8 := by unfold comp; omega
theorem comp_hi (a d : Nat → Nat) (i : Nat) : comp a d i / 8 = (a (d i % 8) / 8 + d i / 8) % 3 := by unfold comp; omega
/-- what brings all back -/
def bkN (b : Nat → Nat) : Nat → (Nat → Nat)
  | 0 => fun _ => 0
  | k + 1 => fun i => if i = b k % 8 then k + 8 * ((3 - b k / 8) % 3) else bkN b k i
def iv (b : Nat → Nat) : Nat → Nat := bkN b 8
theorem zr_lt : ∀ f, f < 3 → ∀ k, k < 4 → zRing f k < 8 ∧ zMore f k < 3 := by decide
theorem gs_one : ∀ f, f < 3 → ∀ i, i < 8 → gs one (zRing f) (zMore f) 4 i = Qf f i := by decide
def tq (t : Nat) : Nat → Nat := itq (t / 3) (Qf (t / 3)) (t % 3)
theorem Qf_Va : ∀ f, Va (Qf f)
  | 0 => by unfold Va Qf; decide
  | 1 => by unfold Va Qf; decide
  | _ + 2 => fun i hi => (by decide : ∀ i, i < 8 → [9, 21, 2, 3, 16, 12, 6, 7].getD i 0 < 24) i hi
theorem tq_Va (t : Nat) : Va (tq t) := itq_Va (Qf_Va _) _

theorem ct_congr {q r : Nat → Bool} : ∀ n, (∀ i, i < n → q i = r i) → ct q n = ct r n
  | 0, _ => rfl
  | n + 1, h => by
    show ct q n + _ = ct r n + _
    rw [ct_congr n (fun i hi => h i (by omega)), h n (by omega)]
theorem many_1 {b : Nat → Nat} (hv : Va b) : ct (fun i => decide (((1 : Nat) = 3 ∨ b i % 8 = i) ∧ ((1 : Nat) = 2 ∨ b i / 8 = 0))) 8 = nRt b := ct_congr 8 fun i hi => decide_eq_decide.mpr (by rw [right_iff hv hi]; omega)
theorem many_2 {b : Nat → Nat} : ct (fun i => decide (((2 : Nat) = 3 ∨ b i % 8 = i) ∧ ((2 : Nat) = 2 ∨ b i / 8 = 0))) 8 = nPl b := ct_congr 8 fun i hi => decide_eq_decide.mpr (by omega)
theorem many_3 {b : Nat → Nat} : ct (fun i => decide (((3 : Nat) = 3 ∨ b i % 8 = i) ∧ ((3 : Nat) = 2 ∨ b i / 8 = 0))) 8 = nUt b := ct_congr 8 fun i hi => decide_eq_decide.mpr (by omega)
/-- the corner that one comes to from i by k steps, and the twists on the way, and the least place -/
def orb (b : Nat → Nat) (i : Nat) : Nat → Nat
  | 0 => i
  | k + 1 => b (orb b i k) % 8
def tws (b : Nat → Nat) (i : Nat) : Nat → Nat
  | 0 => 0
  | k + 1 => tws b i k + b (orb b i k) / 8
def lst (b : Nat → Nat) (i : Nat) : Nat → Nat
  | 0 => i
  | k + 1 => min (lst b i k) (orb b i k)
theorem orb_lt {b : Nat → Nat} {i : Nat} (hi : i < 8) : ∀ k, orb b i k < 8
  | 0 => hi
  | _ + 1 => Nat.mod_lt _ (by decide)
theorem tws_le {b : Nat → Nat} (hv : Va b) {i : Nat} (hi : i < 8) : ∀ k, tws b i k ≤ 3 * k
  | 0 => Nat.le_refl 0
  | k + 1 => by
    have h1 := tws_le hv hi k
    have h2 := hv _ (orb_lt (b := b) hi k)
    show tws b i k + b (orb b i k) / 8 ≤ 3 * (k + 1)
    omega
theorem lst_lt {b : Nat → Nat} {i : Nat} (hi : i < 8) : ∀ k, lst b i k < 8
  | 0 => hi
  | k + 1 => by
    have h1 := lst_lt (b := b) hi k
    show min (lst b i k) (orb b i k) < 8
    omega
/-- cl i is how many steps lead from i to i -/
def CLs (b : Nat → Nat) (cl : Nat → Nat) : Prop := ∀ i, i < 8 → 0 < cl i ∧ cl i ≤ 8 ∧ orb b i (cl i) = i ∧ ∀ k, 0 < k → k < cl i → ¬ orb b i k = i
def tm (b : Nat → Nat) (cl : Nat → Nat) (i : Nat) : Nat := if tws b i (cl i) % 3 = 0 then cl i else 3 * cl i
def orc (b : Nat → Nat) (cl : Nat → Nat) : Nat → Nat
  | 0 => 1
  | i + 1 => if lst b i (cl i) < i then orc b cl i else orc b cl i / Nat.gcd (orc b cl i) (tm b cl i) * tm b cl i
def odc (b : Nat → Nat) (cl : Nat → Nat) : Nat → Nat
  | 0 => 0
  | i + 1 => if lst b i (cl i) < i then odc b cl i else odc b cl i + (cl i - 1)
theorem dvd_84 : ∀ n, n < 9 → 0 < n → n ∣ 840 ∧ n ∣ 2520 ∧ 3 * n ∣ 2520 := by decide
theorem dvd_840 (n : Nat) (h1 : 0 < n) (h2 : n ≤ 8) : n ∣ 840 ∧ n ∣ 2520 ∧ 3 * n ∣ 2520 := dvd_84 n (by omega) h1
theorem lcm_eq (a t : Nat) : a / Nat.gcd a t * t = Nat.lcm a t := by
  unfold Nat.lcm
  rw [Nat.mul_comm a t, Nat.mul_comm (a / Nat.gcd a t) t]
  exact (Nat.mul_div_assoc t (Nat.gcd_dvd_left a t)).symm
theorem tm_dvd {b : Nat → Nat} {cl : Nat → Nat} (h : CLs b cl) {i : Nat} (hi : i < 8) : tm b cl i ∣ 2520 := by
  unfold tm
  have h1 := dvd_840 (cl i) (h i hi).1 (h i hi).2.1
  split
  · exact h1.2.1
  · exact h1.2.2
theorem tm_rng {b : Nat → Nat} {cl : Nat → Nat} (h : CLs b cl) {i : Nat} (hi : i < 8) : 0 < tm b cl i ∧ tm b cl i ≤ 24 := by
  unfold tm
  have h1 := h i hi
  split <;> omega
theorem orc_dvd {b : Nat → Nat} {cl : Nat → Nat} (h : CLs b cl) : ∀ i, i ≤ 8 → orc b cl i ∣ 2520
  | 0, _ => Nat.one_dvd 2520
  | i + 1, hi => by
    show (if lst b i (cl i) < i then orc b cl i else orc b cl i / Nat.gcd (orc b cl i) (tm b cl i) * tm b cl i) ∣ 2520
    split
    · exact orc_dvd h i (by omega)
    · rw [lcm_eq]; exact Nat.lcm_dvd (orc_dvd h i (by omega)) (tm_dvd h (by omega))
theorem orc_rng {b : Nat → Nat} {cl : Nat → Nat} (h : CLs b cl) {i : Nat} (hi : i ≤ 8) : 0 < orc b cl i ∧ orc b cl i ≤ 2520 := by
  have h1 := orc_dvd h i hi
  exact ⟨Nat.pos_of_dvd_of_pos h1 (by decide), Nat.le_of_dvd (by decide) h1⟩
theorem odc_le {b : Nat → Nat} {cl : Nat → Nat} (h : CLs b cl) : ∀ i, i ≤ 8 → odc b cl i ≤ 8 * i
  | 0, _ => Nat.le_refl 0
  | i + 1, hi => by
    have h1 := odc_le h i (by omega)
    have h2 := (h i (by omega)).2.1
    show (if lst b i (cl i) < i then odc b cl i else odc b cl i + (cl i - 1)) ≤ _
    split <;> omega
/-! MY ROWS 19: the reference as cells; its rows of words; its search (laid by a program of mine) -/
theorem comp_assoc (a b c : Nat → Nat) : comp (comp a b) c = comp a (comp b c) := by
  funext i
  unfold comp
  have e1 : ∀ x y : Nat, (x % 8 + 8 * y) % 8 = x % 8 := fun x y => by omega
  have e2 : ∀ x y : Nat, (x % 8 + 8 * y) / 8 = y := fun x y => by omega
  simp only [e1, e2]
  omega
theorem itq_comp (f : Nat) (c : Nat → Nat) : ∀ n, comp c (itq f (Qf f) n) = itq f c (n + 1)
  | 0 => rfl
  | n + 1 => by
    show comp c (comp (itq f (Qf f) n) (Qf f)) = comp (itq f c (n + 1)) (Qf f)
    rw [← comp_assoc, itq_comp f c n]
theorem comp_tq (c : Nat → Nat) (t : Nat) : comp c (tq t) = turnC c t := itq_comp (t / 3) c (t % 3)
/-- comes back in just n turns, the first not of the face lf (3: any) -/
def cm : Nat → (Nat → Nat) → Nat → Bool
  | 0 => fun b _ => decide (nRt b = 8)
  | n + 1 => fun b lf => anyN (fun t => !(decide (t / 3 = lf)) && cm n (turnC b t) (t / 3)) 9
/-! MY ROWS 20: the reference's private methods (laid by a program of mine) -/
def fdc (b : Nat → Nat) (i : Nat) : Nat → Nat → Nat
  | 0, k => k
  | u + 1, k => if orb b i k = i then k else fdc b i u (k + 1)
def clf (b : Nat → Nat) (i : Nat) : Nat := fdc b i 7 1
/-- a cube of which both sides count the same -/
def GB (b : Nat → Nat) : Prop := Va b ∧ CLs b (clf b) ∧ odc b (clf b) 8 % 2 = invs b 8 % 2 ∧ orc b (clf b) 8 = ordN b + 1 ∧ ordN b < 1000
theorem comp_c8 {a a2 : Nat → Nat} (d : Nat → Nat) (h : ∀ i, i < 8 → a i = a2 i) : comp a d = comp a2 d := by
  funext i
  unfold comp
  rw [h (d i % 8) (Nat.mod_lt _ (by decide))]
theorem comp_one {c : Nat → Nat} (hv : Va c) {i : Nat} (hi : i < 8) : comp c one i = c i := by
  have := hv i hi
  unfold comp one
  rw [Nat.mod_eq_of_lt hi, Nat.div_eq_of_lt hi]
  omega
theorem bhN_comp {c : Nat → Nat} (hv : Va c) (l : List Nat) : ∀ k, ∀ i, i < 8 → bhN c l k i = comp c (bhN one l k) i
  | 0 => fun i hi => (comp_one hv hi).symm
  | k + 1 => fun i hi => by
    show turnC (bhN c l k) (l.getD k 0) i = comp c (turnC (bhN one l k) (l.getD k 0)) i
    rw [← comp_tq, ← comp_tq, ← comp_assoc, comp_c8 (a := bhN c l k) _ (bhN_comp hv l k)]
theorem behind_comp {c : Nat → Nat} (hv : Va c) (l : List Nat) {i : Nat} (hi : i < 8) : comp c (deed l) i = behind c l i := (bhN_comp hv l l.length i hi).symm
/-! MY ROWS 24: the reference's public methods where they answer, the rest (laid by a program of mine) -/
theorem bk_lt (b : Nat → Nat) : ∀ k, k ≤ 8 → ∀ i, bkN b k i < 24
  | 0, _, i => by show 0 < 24; decide
  | k + 1, h, i => by
    show (if i = b k % 8 then k + 8 * ((3 - b k / 8) % 3) else bkN b k i) < 24
    split
    · omega
    · exact bk_lt b k (by omega) i
theorem iv_Va (b : Nat → Nat) : Va (iv b) := fun i _ => bk_lt b 8 (Nat.le_refl 8) i
end
section
/-! MY ROWS 26: cubes that stay cubes; what is done behind what; same and mixed -/
theorem inj_surj : ∀ (n : Nat) (g : Nat → Nat), (∀ i, i < n → g i < n) → (∀ i j, i < n → j < n → g i = g j → i = j) → ∀ v, v < n → ∃ i, i < n ∧ g i = v
  | 0, _, _, _, v, hv => absurd hv (Nat.not_lt_zero v)
  | n + 1, g, h1, h2, v, hv => by
    have hw := h1 n (by omega)
    have hne : ∀ i, i < n → g i ≠ g n := fun i hi e => by
      have := h2 i n (by omega) (by omega) e
      omega
    have ih := inj_surj n (fun i => if g i = n then g n else g i) (fun i hi => by
      show (if g i = n then g n else g i) < n
      have := h1 i (by omega)
      have h3 := hne i hi
      split <;> omega) (fun i j hi hj e => by
      have e : (if g i = n then g n else g i) = (if g j = n then g n else g j) := e
      have h3 := hne i hi
      have h4 := hne j hj
      by_cases a : g i = n <;> by_cases c : g j = n
      · exact h2 i j (by omega) (by omega) (a.trans c.symm)
      · rw [if_pos a, if_neg c] at e; exact absurd e.symm h4
      · rw [if_neg a, if_pos c] at e; exact absurd e h3
      · rw [if_neg a, if_neg c] at e; exact h2 i j (by omega) (by omega) e)
    by_cases e : v = g n
    · exact ⟨n, by omega, e.symm⟩
    · by_cases e2 : v = n
      · obtain ⟨i, hi, hg⟩ := ih (g n) (by omega)
        have hg : (if g i = n then g n else g i) = g n := hg
        by_cases a : g i = n
        · exact ⟨i, by omega, a.trans e2.symm⟩
        · rw [if_neg a] at hg; exact absurd hg (hne i hi)
      · obtain ⟨i, hi, hg⟩ := ih v (by omega)
        have hg : (if g i = n then g n else g i) = v := hg
        by_cases a : g i = n
        · rw [if_pos a] at hg; exact absurd hg.symm e
        · rw [if_neg a] at hg; exact ⟨i, by omega, hg⟩
/-- every corner is at one place, that of number 6 at its own -/
def PM (b : Nat → Nat) : Prop := Va b ∧ (∀ i j, i < 8 → j < 8 → b i % 8 = b j % 8 → i = j) ∧ b 6 = 6
theorem PM.one : PM one := ⟨one_Va, fun i j hi hj e => by
  have e : i % 8 = j % 8 := e
  omega, rfl⟩
theorem PM.comp {a d : Nat → Nat} (ha : PM a) (hd : PM d) : PM (comp a d) := by
  refine ⟨comp_Va _ _, fun i j hi hj e => ?_, ?_⟩
  · rw [comp_lo, comp_lo] at e
    exact hd.2.1 i j hi hj (ha.2.1 _ _ (Nat.mod_lt _ (by decide)) (Nat.mod_lt _ (by decide)) e)
  · show a (d 6 % 8) % 8 + 8 * ((a (d 6 % 8) / 8 + d 6 / 8) % 3) = 6
    rw [hd.2.2]
    show a 6 % 8 + 8 * ((a 6 / 8 + 6 / 8) % 3) = 6
    rw [ha.2.2]
theorem Qf_inj : ∀ f, f < 3 → ∀ i, i < 8 → ∀ j, j < 8 → Qf f i % 8 = Qf f j % 8 → i = j := by decide
theorem PM.Qf : ∀ f, PM (Qf f)
  | 0 => ⟨Qf_Va _, fun i j hi hj => Qf_inj 0 (by decide) i hi j hj, rfl⟩
  | 1 => ⟨Qf_Va _, fun i j hi hj => Qf_inj 1 (by decide) i hi j hj, rfl⟩
  | n + 2 => ⟨Qf_Va _, fun i j hi hj => Qf_inj 2 (by decide) i hi j hj, rfl⟩
theorem PM.itq {b : Nat → Nat} (f : Nat) (h : PM b) : ∀ n, PM (itq f b n)
  | 0 => h
  | n + 1 => (PM.itq f h n).comp (PM.Qf f)
theorem PM.turnC {b : Nat → Nat} (h : PM b) (t : Nat) : PM (turnC b t) := PM.itq _ h _
theorem PM.bhN {c : Nat → Nat} (h : PM c) (l : List Nat) : ∀ n, PM (bhN c l n)
  | 0 => h
  | n + 1 => (PM.bhN h l n).turnC _
theorem PM.behind {c : Nat → Nat} (h : PM c) (l : List Nat) : PM (behind c l) := PM.bhN h l _
theorem PM.deed (l : List Nat) : PM (deed l) := PM.one.behind l
theorem PM.plN {c : Nat → Nat} (h : PM c) (l : List Nat) : ∀ n, PM (plN c l n)
  | 0 => h
  | n + 1 => (PM.plN h l n).behind l
theorem PM.surj {b : Nat → Nat} (h : PM b) {v : Nat} (hv : v < 8) : ∃ i, i < 8 ∧ b i % 8 = v := inj_surj 8 (fun i => b i % 8) (fun i _ => Nat.mod_lt _ (by decide)) h.2.1 v hv
theorem bk_of {b : Nat → Nat} (h : PM b) : ∀ n, n ≤ 8 → ∀ k, k < n → bkN b n (b k % 8) = k + 8 * ((3 - b k / 8) % 3)
  | 0, _, k, hk => absurd hk (Nat.not_lt_zero k)
  | n + 1, hn, k, hk => by
    show (if b k % 8 = b n % 8 then n + 8 * ((3 - b n / 8) % 3) else bkN b n (b k % 8)) = _
    by_cases e : k = n
    · subst e; rw [if_pos rfl]
    · rw [if_neg (fun q => e (h.2.1 k n (by omega) (by omega) q))]
      exact bk_of h n (by omega) k (by omega)
theorem iv_of {b : Nat → Nat} (h : PM b) {k : Nat} (hk : k < 8) : iv b (b k % 8) = k + 8 * ((3 - b k / 8) % 3) := bk_of h 8 (Nat.le_refl 8) k hk
/-- where a corner is -/
theorem iv_spec {b : Nat → Nat} (h : PM b) {v : Nat} (hv : v < 8) : iv b v % 8 ≤ 7 ∧ (∀ k, k < iv b v % 8 → ¬ b k % 8 = v) ∧ (iv b v % 8 = 7 ∨ b (iv b v % 8) % 8 = v) := by
  obtain ⟨k, hk, rfl⟩ := h.surj hv
  have e : iv b (b k % 8) % 8 = k := by rw [iv_of h hk]; omega
  rw [e]
  exact ⟨by omega, fun j hj q => by have := h.2.1 j k (by omega) hk q; omega, Or.inr rfl⟩
theorem Va.lt3 {b : Nat → Nat} (h : Va b) {i : Nat} (hi : i < 8) : b i / 8 < 3 := by have := h i hi; omega
/-- behind an inverse nothing has moved just where both are the same -/
theorem iv_same {a b : Nat → Nat} (ha : Va a) (h : PM b) {k : Nat} (hk : k < 8) : comp a (iv b) (b k % 8) = b k % 8 ↔ a k = b k := by
  have e := iv_of h hk
  have h1 := ha k hk
  have h2 := h.1 k hk
  unfold comp
  rw [e]
  have e1 : (k + 8 * ((3 - b k / 8) % 3)) % 8 = k := by omega
  have e2 : (k + 8 * ((3 - b k / 8) % 3)) / 8 = (3 - b k / 8) % 3 := by omega
  rw [e1, e2]
  constructor
  · intro q
    omega
  · intro q
    rw [q]
    omega
theorem comp_iv {b : Nat → Nat} (h : PM b) {i : Nat} (hi : i < 8) : comp b (iv b) i = i := by
  obtain ⟨k, hk, rfl⟩ := h.surj hi
  exact (iv_same h.1 h hk).mpr rfl
theorem ct_8 {q : Nat → Bool} : ∀ n, ct q n = n ↔ ∀ i, i < n → q i = true
  | 0 => ⟨fun _ i hi => absurd hi (Nat.not_lt_zero i), fun _ => rfl⟩
  | n + 1 => by
    have h1 := ct_le q n
    have ih := ct_8 (q := q) n
    constructor
    · intro h
      by_cases e : q n = true
      · rw [ct_t e] at h
        intro i hi
        by_cases e2 : i = n
        · rw [e2]; exact e
        · exact ih.mp (by omega) i (by omega)
      · rw [ct_f e] at h; omega
    · intro h
      rw [ct_t (h n (by omega)), ih.mpr (fun i hi => h i (by omega))]
theorem nRt_8 {b : Nat → Nat} : nRt b = 8 ↔ ∀ i, i < 8 → b i = i := by
  rw [ct_8]
  exact ⟨fun h i hi => of_decide_eq_true (h i hi), fun h i hi => decide_eq_true (h i hi)⟩
theorem is1_iff {b : Nat → Nat} (h : Va b) : is1 b = true ↔ nRt b = 8 := by
  rw [nRt_8]
  unfold is1
  rw [decide_eq_true_iff]
  exact ⟨fun e => enc_inj h.b one_Va.b e, fun e => enc_congr e⟩
theorem same_iff {a b : Nat → Nat} (ha : Va a) (h : PM b) : nRt (comp a (iv b)) = 8 ↔ enc a = enc b := by
  rw [nRt_8]
  constructor
  · intro q
    exact enc_congr fun k hk => (iv_same ha h hk).mp (q _ (Nat.mod_lt _ (by decide)))
  · intro q i hi
    obtain ⟨k, hk, rfl⟩ := h.surj hi
    exact (iv_same ha h hk).mpr (enc_inj ha.b h.1.b q k hk)
theorem nRt_congr {a b : Nat → Nat} (h : ∀ i, i < 8 → a i = b i) : nRt a = nRt b := ct_congr 8 fun i hi => by show decide (a i = i) = decide (b i = i); rw [h i hi]
theorem comp_cg {a a2 d d2 : Nat → Nat} (h1 : ∀ i, i < 8 → a i = a2 i) (h2 : ∀ i, i < 8 → d i = d2 i) {i : Nat} (hi : i < 8) : comp a d i = comp a2 d2 i := by
  unfold comp
  rw [h2 i hi, h1 _ (Nat.mod_lt _ (by decide))]
theorem turnC_cg {a a2 : Nat → Nat} (h : ∀ i, i < 8 → a i = a2 i) (t : Nat) {i : Nat} (hi : i < 8) : turnC a t i = turnC a2 t i := by
  rw [← comp_tq, ← comp_tq]
  exact comp_cg h (fun _ _ => rfl) hi
theorem brN_cg {a a2 : Nat → Nat} (h : ∀ i, i < 8 → a i = a2 i) (l : List Nat) : ∀ n, ∀ i, i < 8 → brN a l n i = brN a2 l n i
  | 0 => h
  | n + 1 => fun _ hi => turnC_cg (brN_cg h l n) _ hi
theorem brN_comp {c : Nat → Nat} (hv : Va c) (l : List Nat) : ∀ k, ∀ i, i < 8 → brN c l k i = comp c (brN one l k) i
  | 0 => fun i hi => (comp_one hv hi).symm
  | k + 1 => fun i hi => by
    show turnC (brN c l k) _ i = comp c (turnC (brN one l k) _) i
    rw [← comp_tq, ← comp_tq, ← comp_assoc, comp_c8 (a := brN c l k) _ (brN_comp hv l k)]
theorem tq_tb : ∀ t, t < 9 → ∀ i, i < 8 → comp (tq t) (tq (tb t)) i = i := by decide +kernel
theorem turn_back {c : Nat → Nat} (hv : Va c) {t : Nat} (ht : t < 9) {i : Nat} (hi : i < 8) : turnC (turnC c t) (tb t) i = c i := by
  rw [← comp_tq, ← comp_tq, comp_assoc]
  exact (comp_cg (a := c) (fun _ _ => rfl) (fun i hi => (tq_tb t ht i hi).trans rfl) hi).trans (comp_one hv hi)
theorem br_bh {l : List Nat} (hl : ∀ k, k < l.length → l.getD k 0 < 9) : ∀ k, k ≤ l.length → ∀ i, i < 8 → brN (bhN one l l.length) l k i = bhN one l (l.length - k) i
  | 0, _ => fun _ _ => rfl
  | k + 1, hk => fun i hi => by
    show turnC (brN (bhN one l l.length) l k) (tb (l.getD (l.length - 1 - k) 0)) i = _
    have e : l.length - k = (l.length - (k + 1)) + 1 := by omega
    have e2 : l.length - 1 - k = l.length - (k + 1) := by omega
    have ih := br_bh hl k (by omega)
    rw [e] at ih
    rw [e2]
    exact (turnC_cg ih _ hi).trans (turn_back (bhN_Va one_Va l _) (hl _ (by omega)) hi)
theorem comp_left {a x y : Nat → Nat} (ha : PM a) (hx : Va x) (hy : Va y) (h : ∀ i, i < 8 → comp a x i = comp a y i) {i : Nat} (hi : i < 8) : x i = y i := by
  have h1 := h i hi
  have h2 : x i % 8 = y i % 8 := ha.2.1 _ _ (Nat.mod_lt _ (by decide)) (Nat.mod_lt _ (by decide)) (by rw [← comp_lo a x, ← comp_lo a y, h1])
  have h3 : (a (x i % 8) / 8 + x i / 8) % 3 = (a (y i % 8) / 8 + y i / 8) % 3 := by rw [← comp_hi a x, ← comp_hi a y, h1]
  rw [h2] at h3
  have := hx i hi
  have := hy i hi
  omega
theorem br_iv {l : List Nat} (hl : ∀ k, k < l.length → l.getD k 0 < 9) {i : Nat} (hi : i < 8) : behindR one l i = iv (deed l) i := by
  refine comp_left (PM.deed l) (brN_Va one_Va l _) (iv_Va _) (fun j hj => ?_) hi
  rw [comp_iv (PM.deed l) hj]
  exact (brN_comp (deed_Va l) l l.length j hj).symm.trans ((br_bh hl l.length (Nat.le_refl _) j hj).trans (by rw [Nat.sub_self]; rfl))
theorem behindR_comp {c : Nat → Nat} (hv : Va c) {l : List Nat} (hl : ∀ k, k < l.length → l.getD k 0 < 9) {i : Nat} (hi : i < 8) : behindR c l i = comp c (iv (deed l)) i := (brN_comp hv l l.length i hi).trans (comp_cg (fun _ _ => rfl) (fun j hj => br_iv hl hj) hi)
theorem mixed_eq {w v : List Nat} (hw : ∀ k, k < w.length → w.getD k 0 < 9) (hv : ∀ k, k < v.length → v.getD k 0 < 9) : nRt (behindR (behindR (behind (deed w) v) w) v) = nRt (comp (comp (deed w) (deed v)) (comp (iv (deed w)) (iv (deed v)))) := by
  apply nRt_congr
  intro i hi
  rw [← comp_assoc]
  refine (behindR_comp (brN_Va (bhN_Va (deed_Va w) v _) w _) hv hi).trans (comp_cg (fun j hj => ?_) (fun _ _ => rfl) hi)
  exact (behindR_comp (bhN_Va (deed_Va w) v _) hw hj).trans (comp_cg (fun k hk => (behind_comp (deed_Va w) v hk).symm) (fun _ _ => rfl) hj)
/-! the search: within n turns, or in just so many -/
theorem cm_0 {b : Nat → Nat} {lf : Nat} : cm 0 b lf = true ↔ nRt b = 8 := by unfold cm; exact decide_eq_true_iff
theorem cm_s {n : Nat} {b : Nat → Nat} {lf : Nat} : cm (n + 1) b lf = true ↔ ∃ t, t < 9 ∧ ¬ t / 3 = lf ∧ cm n (turnC b t) (t / 3) = true := by
  show anyN (fun t => !(decide (t / 3 = lf)) && cm n (turnC b t) (t / 3)) 9 = true ↔ _
  constructor
  · intro h
    obtain ⟨t, ht, hq⟩ := anyN_ex 9 h
    have hq : (!(decide (t / 3 = lf)) && cm n (turnC b t) (t / 3)) = true := hq
    rw [Bool.and_eq_true, Bool.not_eq_true', decide_eq_false_iff_not] at hq
    exact ⟨t, ht, hq.1, hq.2⟩
  · rintro ⟨t, ht, h1, h2⟩
    refine anyN_of (i := t) ?_ 9 ht
    show (!(decide (t / 3 = lf)) && cm n (turnC b t) (t / 3)) = true
    rw [h2, decide_eq_false h1]
    rfl
theorem tc3 (b : Nat → Nat) {f j : Nat} (hj : j < 3) : itq f b (j + 1) = turnC b (3 * f + j) := by
  unfold turnC
  rw [show (3 * f + j) / 3 = f from by omega, show (3 * f + j) % 3 = j from by omega]
theorem wi_s {n : Nat} {b : Nat → Nat} {lf : Nat} : wi (n + 1) b lf = true ↔ is1 b = true ∨ (8 - nRt b ≤ msr (n + 1) ∧ ∃ t, t < 9 ∧ ¬ t / 3 = lf ∧ wi n (turnC b t) (t / 3) = true) := by
  show (is1 b || (decide (8 - nRt b ≤ msr (n + 1)) && anyN (fun f => !(decide (f = lf)) && anyN (fun j => wi n (itq f b (j + 1)) f) 3) 3)) = true ↔ _
  rw [Bool.or_eq_true, Bool.and_eq_true, decide_eq_true_iff]
  refine or_congr Iff.rfl (and_congr Iff.rfl ⟨fun h => ?_, ?_⟩)
  · obtain ⟨f, hf, hq⟩ := anyN_ex 3 h
    have hq : (!(decide (f = lf)) && anyN (fun j => wi n (itq f b (j + 1)) f) 3) = true := hq
    rw [Bool.and_eq_true, Bool.not_eq_true', decide_eq_false_iff_not] at hq
    obtain ⟨j, hj, hw⟩ := anyN_ex 3 hq.2
    have hw : wi n (itq f b (j + 1)) f = true := hw
    have e : (3 * f + j) / 3 = f := by omega
    rw [tc3 b hj] at hw
    exact ⟨3 * f + j, by omega, by rw [e]; exact hq.1, by rw [e]; exact hw⟩
  · rintro ⟨t, ht, h1, h2⟩
    refine anyN_of (i := t / 3) ?_ 3 (by omega)
    show (!(decide (t / 3 = lf)) && anyN (fun j => wi n (itq (t / 3) b (j + 1)) (t / 3)) 3) = true
    have e : anyN (fun j => wi n (itq (t / 3) b (j + 1)) (t / 3)) 3 = true := by
      refine anyN_of (i := t % 3) ?_ 3 (by omega)
      exact h2
    rw [e, decide_eq_false h1]
    rfl
theorem turn_id {b : Nat → Nat} (hv : Va b) {t i : Nat} (hi : i < 8) (h : tq t i = i) : turnC b t i = b i := by
  have := hv i hi
  rw [← comp_tq]
  unfold comp
  rw [h, Nat.mod_eq_of_lt hi, Nat.div_eq_of_lt hi]
  omega
theorem ct_ge {q r : Nat → Bool} : ∀ n, (∀ i, i < n → r i = true → q i = true) → ct r n ≤ ct q n
  | 0, _ => Nat.le_refl 0
  | n + 1, h => by
    have ih := ct_ge (q := q) (r := r) n (fun i hi => h i (by omega))
    have h1 := h n (by omega)
    by_cases e : r n = true
    · rw [ct_t e, ct_t (h1 e)]; omega
    · rw [ct_f e]
      exact Nat.le_trans ih (by show ct q n ≤ ct q n + (if q n = true then 1 else 0); omega)
theorem stay_1 : ∀ t, t < 9 → ct (fun i => decide (tq t i = i)) 8 = 4 := by decide +kernel
theorem stay_2 : ∀ t, t < 9 → ∀ u, u < 9 → ¬ u / 3 = t / 3 → 2 ≤ ct (fun i => decide (tq t i = i ∧ tq u i = i)) 8 := by decide +kernel
theorem near_1 {b : Nat → Nat} (hv : Va b) {t : Nat} (ht : t < 9) (h : nRt (turnC b t) = 8) : 8 - nRt b ≤ 4 := by
  have h1 := nRt_8.mp h
  have h2 : 4 ≤ nRt b := by
    rw [← stay_1 t ht]
    refine ct_ge 8 fun i hi q => decide_eq_true ?_
    exact (turn_id hv hi (of_decide_eq_true q)).symm.trans (h1 i hi)
  omega
theorem near_2 {b : Nat → Nat} (hv : Va b) {t u : Nat} (ht : t < 9) (hu : u < 9) (hn : ¬ u / 3 = t / 3) (h : nRt (turnC (turnC b t) u) = 8) : 8 - nRt b ≤ 6 := by
  have h1 := nRt_8.mp h
  have h2 : 2 ≤ nRt b := by
    refine Nat.le_trans (stay_2 t ht u hu hn) (ct_ge 8 fun i hi q => decide_eq_true ?_)
    have q := of_decide_eq_true q
    exact (turn_id hv hi q.1).symm.trans ((turn_id (turnC_Va _ _) hi q.2).symm.trans (h1 i hi))
  omega
theorem wi_iff : ∀ (n : Nat) {b : Nat → Nat} (_ : Va b) {lf : Nat}, wi n b lf = true ↔ ∃ k, k ≤ n ∧ cm k b lf = true
  | 0, b, hv, lf => by
    show is1 b = true ↔ _
    rw [is1_iff hv]
    exact ⟨fun h => ⟨0, Nat.le_refl 0, cm_0.mpr h⟩, fun ⟨k, hk, h⟩ => by
      obtain rfl : k = 0 := by omega
      exact cm_0.mp h⟩
  | n + 1, b, hv, lf => by
    rw [wi_s, is1_iff hv]
    constructor
    · rintro (h | ⟨-, t, ht, h1, h2⟩)
      · exact ⟨0, Nat.zero_le _, cm_0.mpr h⟩
      · obtain ⟨k, hk, h3⟩ := (wi_iff n (turnC_Va b t)).mp h2
        exact ⟨k + 1, by omega, cm_s.mpr ⟨t, ht, h1, h3⟩⟩
    · rintro ⟨k, hk, h⟩
      cases k with
      | zero => exact Or.inl (cm_0.mp h)
      | succ k =>
        refine Or.inr ⟨?_, ?_⟩
        · obtain ⟨t, ht, h1, h2⟩ := cm_s.mp h
          have h8 := ct_le (fun i => decide (b i = i)) 8
          unfold msr
          by_cases e1 : n + 1 = 1
          · rw [if_pos e1]
            obtain rfl : k = 0 := by omega
            exact near_1 hv ht (cm_0.mp h2)
          · rw [if_neg e1]
            by_cases e2 : n + 1 = 2
            · rw [if_pos e2]
              rcases (by omega : k = 0 ∨ k = 1) with rfl | rfl
              · exact Nat.le_trans (near_1 hv ht (cm_0.mp h2)) (by decide)
              · obtain ⟨u, hu, h3, h4⟩ := cm_s.mp h2
                exact near_2 hv ht hu h3 (cm_0.mp h4)
            · rw [if_neg e2]; omega
        · obtain ⟨t, ht, h1, h2⟩ := cm_s.mp h
          exact ⟨t, ht, h1, (wi_iff n (turnC_Va b t)).mpr ⟨k, by omega, h2⟩⟩
theorem least {P : Nat → Prop} [DecidablePred P] : ∀ n, (∀ k, k ≤ n → ¬ P k) ∨ ∃ N, N ≤ n ∧ P N ∧ ∀ k, k < N → ¬ P k
  | 0 => by
    by_cases h : P 0
    · exact Or.inr ⟨0, Nat.le_refl 0, h, fun k hk => absurd hk (Nat.not_lt_zero k)⟩
    · exact Or.inl fun k hk => by
        obtain rfl : k = 0 := by omega
        exact h
  | n + 1 => by
    rcases least (P := P) n with h | ⟨N, h1, h2, h3⟩
    · by_cases h2 : P (n + 1)
      · exact Or.inr ⟨n + 1, Nat.le_refl _, h2, fun k hk => h k (by omega)⟩
      · refine Or.inl fun k hk => ?_
        by_cases e : k = n + 1
        · rw [e]; exact h2
        · exact h k (by omega)
    · exact Or.inr ⟨N, by omega, h2, h3⟩
theorem cm_far {b : Nat → Nat} (hv : Va b) (most : Nat) {lf : Nat} : ((∀ k, k ≤ most → cm k b lf = false) ∧ ∀ k, k ≤ most → wi k b lf = false) ∨ ∃ N, N ≤ most ∧ (cm N b lf = true ∧ ∀ k, k < N → cm k b lf = false) ∧ wi N b lf = true ∧ ∀ k, k < N → wi k b lf = false := by
  rcases least (P := fun k => cm k b lf = true) most with h | ⟨N, h1, h2, h3⟩
  · have h : ∀ k, k ≤ most → cm k b lf = false := fun k hk => by simpa using h k hk
    refine Or.inl ⟨h, fun k hk => ?_⟩
    cases e : wi k b lf with
    | false => rfl
    | true =>
      obtain ⟨j, hj, h9⟩ := (wi_iff k hv).mp e
      rw [h j (by omega)] at h9; cases h9
  · have h3 : ∀ k, k < N → cm k b lf = false := fun k hk => by simpa using h3 k hk
    refine Or.inr ⟨N, h1, ⟨h2, h3⟩, (wi_iff N hv).mpr ⟨N, Nat.le_refl N, h2⟩, fun k hk => ?_⟩
    cases e : wi k b lf with
    | false => rfl
    | true =>
      obtain ⟨j, hj, h9⟩ := (wi_iff k hv).mp e
      rw [h3 j (by omega)] at h9; cases h9
theorem cm_first {b : Nat → Nat} {N : Nat} (hN : 0 < N) (h1 : cm N b 3 = true) (h2 : ∀ k, k < N → cm k b 3 = false) : ∃ F, F < 9 ∧ (∀ t, t < F → cm (N - 1) (turnC b t) (t / 3) = false ∧ wi (N - 1) (turnC b t) (t / 3) = false) ∧ cm (N - 1) (turnC b F) (F / 3) = true ∧ wi (N - 1) (turnC b F) (F / 3) = true := by
  obtain ⟨n, rfl⟩ : ∃ n, N = n + 1 := ⟨N - 1, by omega⟩
  obtain ⟨t0, ht0, -, h3⟩ := cm_s.mp h1
  rw [Nat.add_sub_cancel]
  rcases least (P := fun t => cm n (turnC b t) (t / 3) = true) t0 with h | ⟨F, f1, f2, f3⟩
  · exact absurd h3 (h t0 (Nat.le_refl _))
  · refine ⟨F, by omega, fun t ht => ?_, f2, (wi_iff n (turnC_Va _ _)).mpr ⟨n, Nat.le_refl n, f2⟩⟩
    have h4 : cm n (turnC b t) (t / 3) = false := by simpa using f3 t ht
    refine ⟨h4, ?_⟩
    cases e : wi n (turnC b t) (t / 3) with
    | false => rfl
    | true =>
      obtain ⟨j, hj, h9⟩ := (wi_iff n (turnC_Va _ _)).mp e
      have h10 : cm (j + 1) b 3 = true := cm_s.mpr ⟨t, by omega, by omega, h9⟩
      by_cases e2 : j = n
      · rw [e2, h4] at h9; cases h9
      · rw [h2 (j + 1) (by omega)] at h10; cases h10
end
section
/-! MY ROWS 27: cycles and powers -/
theorem orb_add (b : Nat → Nat) (i m : Nat) : ∀ k, orb b i (m + k) = orb b (orb b i m) k
  | 0 => rfl
  | k + 1 => by
    show b (orb b i (m + k)) % 8 = b (orb b (orb b i m) k) % 8
    rw [orb_add b i m k]
theorem tws_add (b : Nat → Nat) (i m : Nat) : ∀ k, tws b i (m + k) = tws b i m + tws b (orb b i m) k
  | 0 => rfl
  | k + 1 => by
    show tws b i (m + k) + b (orb b i (m + k)) / 8 = tws b i m + (tws b (orb b i m) k + b (orb b (orb b i m) k) / 8)
    rw [tws_add b i m k, orb_add b i m k]
    omega
/-- done k times, the corner at i is right -/
def gd (b : Nat → Nat) (i k : Nat) : Prop := orb b i k = i ∧ tws b i k % 3 = 0
theorem pw_orb {b : Nat → Nat} (hv : Va b) : ∀ n, ∀ i, i < 8 → pw b n i = orb b i (n + 1) + 8 * (tws b i (n + 1) % 3)
  | 0 => fun i hi => by
    show b i = b i % 8 + 8 * ((0 + b i / 8) % 3)
    have := hv i hi
    omega
  | n + 1 => fun i hi => by
    have ih := pw_orb hv n (b i % 8) (Nat.mod_lt _ (by decide))
    have h1 : orb b i (1 + (n + 1)) = orb b (b i % 8) (n + 1) := orb_add b i 1 (n + 1)
    have h2 : tws b i (1 + (n + 1)) = (0 + b i / 8) + tws b (b i % 8) (n + 1) := tws_add b i 1 (n + 1)
    have h3 : orb b (b i % 8) (n + 1) < 8 := orb_lt (Nat.mod_lt _ (by decide)) _
    rw [show n + 1 + 1 = 1 + (n + 1) from by omega, h1, h2]
    show pw b n (b i % 8) % 8 + 8 * ((pw b n (b i % 8) / 8 + b i / 8) % 3) = _
    rw [ih]
    omega
theorem pw_one {b : Nat → Nat} (hv : Va b) (n : Nat) : enc (pw b n) = enc one ↔ ∀ i, i < 8 → gd b i (n + 1) := by
  have h0 : ∀ i, i < 8 → orb b i (n + 1) < 8 := fun i hi => orb_lt hi _
  constructor
  · intro h i hi
    have h1 := enc_inj (pw_Va hv n).b one_Va.b h i hi
    rw [pw_orb hv n i hi] at h1
    have h1 : orb b i (n + 1) + 8 * (tws b i (n + 1) % 3) = i := h1
    have := h0 i hi
    exact ⟨by omega, by omega⟩
  · intro h
    apply enc_congr
    intro i hi
    rw [pw_orb hv n i hi, (h i hi).1, (h i hi).2]
    rfl
section CY9
variable {b : Nat → Nat} {cl : Nat → Nat}
theorem orb_mul (h : CLs b cl) {i : Nat} (hi : i < 8) : ∀ q, orb b i (cl i * q) = i
  | 0 => rfl
  | q + 1 => by
    rw [Nat.mul_succ, orb_add, orb_mul h hi q]
    exact (h i hi).2.2.1
theorem tws_mul (h : CLs b cl) {i : Nat} (hi : i < 8) : ∀ q, tws b i (cl i * q) = q * tws b i (cl i)
  | 0 => by rw [Nat.zero_mul]; rfl
  | q + 1 => by
    rw [Nat.mul_succ, tws_add, orb_mul h hi q, tws_mul h hi q, Nat.succ_mul]
theorem orb_dvd (h : CLs b cl) {i : Nat} (hi : i < 8) (k : Nat) : orb b i k = i ↔ cl i ∣ k := by
  constructor
  · intro e
    have h1 : orb b i (cl i * (k / cl i) + k % cl i) = i := by rw [Nat.div_add_mod]; exact e
    rw [orb_add, orb_mul h hi] at h1
    apply Nat.dvd_of_mod_eq_zero
    by_cases e2 : k % cl i = 0
    · exact e2
    · exact absurd h1 ((h i hi).2.2.2 _ (by omega) (Nat.mod_lt _ (h i hi).1))
  · rintro ⟨q, rfl⟩
    exact orb_mul h hi q
theorem mul_3 {q t : Nat} (ht : ¬ t % 3 = 0) (h : q * t % 3 = 0) : q % 3 = 0 := by
  rw [Nat.mul_mod] at h
  rcases (by omega : q % 3 = 0 ∨ q % 3 = 1 ∨ q % 3 = 2) with a | a | a <;> rcases (by omega : t % 3 = 1 ∨ t % 3 = 2) with c | c <;> rw [a, c] at h <;> first | exact a | exact absurd h (by decide)
theorem gd_iff (h : CLs b cl) {i : Nat} (hi : i < 8) (k : Nat) : gd b i k ↔ tm b cl i ∣ k := by
  unfold tm
  constructor
  · rintro ⟨h1, h2⟩
    obtain ⟨q, rfl⟩ := (orb_dvd h hi k).mp h1
    by_cases e : tws b i (cl i) % 3 = 0
    · rw [if_pos e]; exact ⟨q, rfl⟩
    · rw [if_neg e]
      rw [tws_mul h hi] at h2
      have h3 := mul_3 e h2
      obtain ⟨r, hr⟩ : ∃ r, q = 3 * r := ⟨q / 3, by omega⟩
      exact ⟨r, by rw [hr, Nat.mul_comm 3 (cl i), Nat.mul_assoc]⟩
  · intro hd
    by_cases e : tws b i (cl i) % 3 = 0
    · rw [if_pos e] at hd
      obtain ⟨q, rfl⟩ := hd
      refine ⟨orb_mul h hi q, ?_⟩
      rw [tws_mul h hi, Nat.mul_mod, e, Nat.mul_zero]
    · rw [if_neg e] at hd
      obtain ⟨r, rfl⟩ := hd
      rw [show 3 * cl i * r = cl i * (3 * r) from by rw [Nat.mul_comm 3 (cl i), Nat.mul_assoc]]
      refine ⟨orb_mul h hi _, ?_⟩
      rw [tws_mul h hi, Nat.mul_assoc, Nat.mul_mod_right]
theorem lst_mem (b : Nat → Nat) (i : Nat) : ∀ k, ∃ m, lst b i k = orb b i m
  | 0 => ⟨0, rfl⟩
  | k + 1 => by
    obtain ⟨m, hm⟩ := lst_mem b i k
    show ∃ m, min (lst b i k) (orb b i k) = orb b i m
    by_cases e : lst b i k ≤ orb b i k
    · exact ⟨m, by rw [Nat.min_eq_left e, hm]⟩
    · exact ⟨k, by rw [Nat.min_eq_right (by omega)]⟩
theorem gd_move (h : CLs b cl) {i m k : Nat} (hi : i < 8) (hg : gd b (orb b i m) k) : gd b i k := by
  have hc := (h i hi).1
  have hle : m + 1 ≤ cl i * (m + 1) := Nat.le_mul_of_pos_left _ hc
  obtain ⟨m', hm'⟩ : ∃ m', m + m' = cl i * (m + 1) := ⟨cl i * (m + 1) - m, by omega⟩
  have e1 : orb b (orb b i m) m' = i := by rw [← orb_add, hm']; exact orb_mul h hi _
  obtain ⟨g1, g2⟩ := hg
  have a1 := orb_add b (orb b i m) m' k
  have a2 := orb_add b (orb b i m) k m'
  have a3 := tws_add b (orb b i m) m' k
  have a4 := tws_add b (orb b i m) k m'
  rw [e1] at a1 a3
  rw [g1] at a2 a4
  rw [e1] at a2
  rw [Nat.add_comm k m'] at a2 a4
  exact ⟨a1.symm.trans a2, by omega⟩
theorem orc_tm (cl : Nat → Nat) : ∀ n, ∀ i, i < n → ¬ lst b i (cl i) < i → tm b cl i ∣ orc b cl n
  | 0, i, hi, _ => absurd hi (Nat.not_lt_zero i)
  | n + 1, i, hi, hn => by
    show tm b cl i ∣ (if lst b n (cl n) < n then orc b cl n else orc b cl n / Nat.gcd (orc b cl n) (tm b cl n) * tm b cl n)
    by_cases e : i = n
    · subst e
      rw [if_neg hn, lcm_eq]
      exact Nat.dvd_lcm_right _ _
    · have ih := orc_tm cl n i (by omega) hn
      split
      · exact ih
      · rw [lcm_eq]; exact Nat.dvd_trans ih (Nat.dvd_lcm_left _ _)
theorem orc_least (cl : Nat → Nat) {k : Nat} : ∀ n, (∀ i, i < n → tm b cl i ∣ k) → orc b cl n ∣ k
  | 0, _ => Nat.one_dvd k
  | n + 1, hk => by
    have ih := orc_least cl n (fun i hi => hk i (by omega))
    show (if lst b n (cl n) < n then orc b cl n else orc b cl n / Nat.gcd (orc b cl n) (tm b cl n) * tm b cl n) ∣ k
    split
    · exact ih
    · rw [lcm_eq]; exact Nat.lcm_dvd ih (hk n (by omega))
theorem orc_gd (h : CLs b cl) (k : Nat) : (∀ i, i < 8 → gd b i k) ↔ orc b cl 8 ∣ k := by
  constructor
  · intro hg
    exact orc_least cl 8 fun i hi => (gd_iff h hi k).mp (hg i hi)
  · intro hd i hi
    induction i using Nat.strongRecOn with
    | ind i ih =>
      by_cases e : lst b i (cl i) < i
      · obtain ⟨m, hm⟩ := lst_mem b i (cl i)
        have h1 := ih _ e (by omega)
        rw [hm] at h1
        exact gd_move h hi h1
      · exact (gd_iff h hi k).mpr (Nat.dvd_trans (orc_tm cl 8 i hi e) hd)
end CY9
theorem ordS_eq {c : Nat → Nat} {N : Nat} (h2 : enc (pw c N) = enc one) (h1 : ∀ j, j < N → ¬ enc (pw c j) = enc one) : ∀ u k, k ≤ N → N ≤ k + u → ordS c u k = N
  | 0, k, h3, h4 => by show k = N; omega
  | u + 1, k, h3, h4 => by
    show (if enc (pw c k) = enc one then k else ordS c u (k + 1)) = N
    by_cases e : enc (pw c k) = enc one
    · rw [if_pos e]
      by_cases e2 : k = N
      · exact e2
      · exact absurd e (h1 k (by omega))
    · rw [if_neg e]
      refine ordS_eq h2 h1 u (k + 1) ?_ (by omega)
      by_cases e2 : k = N
      · rw [e2] at e; exact absurd h2 e
      · omega
theorem ord_orc {b : Nat → Nat} {cl : Nat → Nat} (hv : Va b) (h : CLs b cl) (hL : orc b cl 8 ≤ 1000) : orc b cl 8 = ordN b + 1 ∧ ordN b < 1000 := by
  have h0 := (orc_rng h (Nat.le_refl 8)).1
  have e : ordN b = orc b cl 8 - 1 := by
    refine ordS_eq ?_ (fun j hj q => ?_) 1000 0 (Nat.zero_le _) (by omega)
    · rw [pw_one hv, orc_gd h, Nat.sub_add_cancel h0]
      exact Nat.dvd_refl _
    · rw [pw_one hv, orc_gd h] at q
      have := Nat.le_of_dvd (by omega) q
      omega
  omega
theorem fdc_spec (b : Nat → Nat) (i : Nat) : ∀ u k, (∃ m, k ≤ m ∧ m ≤ k + u ∧ orb b i m = i) → k ≤ fdc b i u k ∧ fdc b i u k ≤ k + u ∧ orb b i (fdc b i u k) = i ∧ ∀ m, k ≤ m → m < fdc b i u k → ¬ orb b i m = i
  | 0, k, ⟨m, h1, h2, h3⟩ => by
    obtain rfl : m = k := by omega
    exact ⟨Nat.le_refl _, Nat.le_refl _, h3, fun j h4 h5 => absurd h5 (by show ¬ j < m; omega)⟩
  | u + 1, k, ⟨m, h1, h2, h3⟩ => by
    show k ≤ (if orb b i k = i then k else fdc b i u (k + 1)) ∧ (if orb b i k = i then k else fdc b i u (k + 1)) ≤ k + (u + 1) ∧ orb b i (if orb b i k = i then k else fdc b i u (k + 1)) = i ∧ ∀ m, k ≤ m → m < (if orb b i k = i then k else fdc b i u (k + 1)) → ¬ orb b i m = i
    by_cases e : orb b i k = i
    · rw [if_pos e]
      exact ⟨Nat.le_refl _, by omega, e, fun j h4 h5 => by omega⟩
    · rw [if_neg e]
      have hm : k + 1 ≤ m := by
        by_cases e2 : m = k
        · rw [e2] at h3; exact absurd h3 e
        · omega
      obtain ⟨g1, g2, g3, g4⟩ := fdc_spec b i u (k + 1) ⟨m, hm, by omega, h3⟩
      refine ⟨by omega, by omega, g3, fun j h4 h5 => ?_⟩
      by_cases e2 : j = k
      · rw [e2]; exact e
      · exact g4 j (by omega) h5
theorem orb_cancel {b : Nat → Nat} (h : PM b) {i : Nat} (hi : i < 8) (d : Nat) : ∀ j, orb b i j = orb b i (j + d) → i = orb b i d
  | 0, e => by rw [Nat.zero_add] at e; exact e
  | j + 1, e => by
    refine orb_cancel h hi d j ?_
    rw [show j + 1 + d = (j + d) + 1 from by omega] at e
    exact h.2.1 _ _ (orb_lt hi _) (orb_lt hi _) e
theorem orb_back {b : Nat → Nat} (h : PM b) {i : Nat} (hi : i < 8) : ∃ m, 1 ≤ m ∧ m ≤ 8 ∧ orb b i m = i := by
  rcases least (P := fun m => 1 ≤ m ∧ orb b i m = i) 8 with hn | ⟨m, h1, h2, -⟩
  · have hno : ∀ d, 1 ≤ d → d ≤ 8 → ¬ orb b i d = i := fun d h1 h2 e => hn d h2 ⟨h1, e⟩
    obtain ⟨k, hk, e⟩ := inj_surj 9 (orb b i) (fun k _ => Nat.lt_trans (orb_lt hi k) (by decide)) (fun j k hj hk e => by
      rcases Nat.lt_trichotomy j k with q | q | q
      · have := orb_cancel h hi (k - j) j (by rw [show j + (k - j) = k from by omega]; exact e)
        exact absurd this.symm (hno (k - j) (by omega) (by omega))
      · exact q
      · have := orb_cancel h hi (j - k) k (by rw [show k + (j - k) = j from by omega]; exact e.symm)
        exact absurd this.symm (hno (j - k) (by omega) (by omega))) 8 (by decide)
    exact absurd e (Nat.ne_of_lt (orb_lt hi k))
  · exact ⟨m, h2.1, h1, h2.2⟩
theorem clf_CLs {b : Nat → Nat} (h : PM b) : CLs b (clf b) := fun i hi => by
  obtain ⟨m, h1, h2, h3⟩ := orb_back h hi
  obtain ⟨g1, g2, g3, g4⟩ := fdc_spec b i 7 1 ⟨m, h1, by omega, h3⟩
  exact ⟨g1, by show fdc b i 7 1 ≤ 8; omega, g3, fun k hk hk2 => g4 k hk hk2⟩
/-- the least common count of the cycles alone -/
def orl (b : Nat → Nat) : Nat → Nat
  | 0 => 1
  | i + 1 => if lst b i (clf b i) < i then orl b i else Nat.lcm (orl b i) (clf b i)
theorem orc_3 (b : Nat → Nat) : ∀ n, orc b (clf b) n ∣ 3 * orl b n
  | 0 => Nat.one_dvd _
  | n + 1 => by
    have ih := orc_3 b n
    show (if lst b n (clf b n) < n then orc b (clf b) n else orc b (clf b) n / Nat.gcd (orc b (clf b) n) (tm b (clf b) n) * tm b (clf b) n) ∣ 3 * (if lst b n (clf b n) < n then orl b n else Nat.lcm (orl b n) (clf b n))
    split
    · exact ih
    · rw [lcm_eq]
      refine Nat.lcm_dvd (Nat.dvd_trans ih (Nat.mul_dvd_mul_left 3 (Nat.dvd_lcm_left _ _))) ?_
      unfold tm
      split
      · exact Nat.dvd_trans (Nat.dvd_lcm_right (orl b n) _) (Nat.dvd_mul_left _ _)
      · exact Nat.mul_dvd_mul_left 3 (Nat.dvd_lcm_right _ _)
/-! what looks at the corners alone -/
section CG9
variable {a b : Nat → Nat}
theorem orb_cg (h : ∀ i, i < 8 → a i % 8 = b i % 8) {i : Nat} (hi : i < 8) : ∀ k, orb a i k = orb b i k
  | 0 => rfl
  | k + 1 => by
    show a (orb a i k) % 8 = b (orb b i k) % 8
    rw [orb_cg h hi k]
    exact h _ (orb_lt hi k)
theorem lst_cg (h : ∀ i, i < 8 → a i % 8 = b i % 8) {i : Nat} (hi : i < 8) : ∀ k, lst a i k = lst b i k
  | 0 => rfl
  | k + 1 => by
    show min (lst a i k) (orb a i k) = min (lst b i k) (orb b i k)
    rw [lst_cg h hi k, orb_cg h hi k]
theorem fdc_cg (h : ∀ i, i < 8 → a i % 8 = b i % 8) {i : Nat} (hi : i < 8) : ∀ u k, fdc a i u k = fdc b i u k
  | 0, _ => rfl
  | u + 1, k => by
    show (if orb a i k = i then k else fdc a i u (k + 1)) = (if orb b i k = i then k else fdc b i u (k + 1))
    rw [orb_cg h hi k, fdc_cg h hi u (k + 1)]
theorem odc_cg (h : ∀ i, i < 8 → a i % 8 = b i % 8) : ∀ n, n ≤ 8 → odc a (clf a) n = odc b (clf b) n
  | 0, _ => rfl
  | n + 1, hn => by
    have e : clf a n = clf b n := fdc_cg h (by omega) 7 1
    show (if lst a n (clf a n) < n then odc a (clf a) n else odc a (clf a) n + (clf a n - 1)) = (if lst b n (clf b n) < n then odc b (clf b) n else odc b (clf b) n + (clf b n - 1))
    rw [e, lst_cg h (by omega), odc_cg h n (by omega)]
theorem orl_cg (h : ∀ i, i < 8 → a i % 8 = b i % 8) : ∀ n, n ≤ 8 → orl a n = orl b n
  | 0, _ => rfl
  | n + 1, hn => by
    have e : clf a n = clf b n := fdc_cg h (by omega) 7 1
    show (if lst a n (clf a n) < n then orl a n else Nat.lcm (orl a n) (clf a n)) = (if lst b n (clf b n) < n then orl b n else Nat.lcm (orl b n) (clf b n))
    rw [e, lst_cg h (by omega), orl_cg h n (by omega)]
theorem invs_cg (h : ∀ i, i < 8 → a i % 8 = b i % 8) : ∀ n, n ≤ 8 → invs a n = invs b n
  | 0, _ => rfl
  | n + 1, hn => by
    show invs a n + pairsTo a n (7 - n) = invs b n + pairsTo b n (7 - n)
    rw [invs_cg h n (by omega)]
    congr 1
    exact ct_congr _ fun k hk => by
      show decide (a (n + 1 + k) % 8 < a n % 8) = decide (b (n + 1 + k) % 8 < b n % 8)
      rw [h n (by omega), h (n + 1 + k) (by omega)]
end CG9
/-! all ways to put seven corners -/
def en (q : List Nat → Bool) : Nat → List Nat → Bool
  | 0, acc => q acc
  | n + 1, acc => [0, 1, 2, 3, 4, 5, 7].all (fun x => acc.contains x || en q n (acc ++ [x]))
theorem en_spec {q : List Nat → Bool} : ∀ (l acc : List Nat), en q l.length acc = true → (∀ x, x ∈ l → x ∈ [0, 1, 2, 3, 4, 5, 7]) → (acc ++ l).Nodup → q (acc ++ l) = true
  | [], acc, h, _, _ => by rw [List.append_nil]; exact h
  | x :: l, acc, h, h1, h2 => by
    have h3 := List.all_eq_true.mp h x (h1 x List.mem_cons_self)
    have e : acc ++ x :: l = (acc ++ [x]) ++ l := by rw [List.append_assoc]; rfl
    have h4 : x ∉ acc := fun hx => by
      have := List.nodup_append.mp h2
      exact this.2.2 x hx x List.mem_cons_self rfl
    have h5 : acc.contains x = false := by simpa using h4
    rw [h5, Bool.false_or] at h3
    rw [e] at h2 ⊢
    exact en_spec l (acc ++ [x]) h3 (fun y hy => h1 y (List.mem_cons_of_mem _ hy)) h2
/-- the corners at the places 0 to 5 and 7 -/
def pf (L : List Nat) : Nat → Nat := fun i => if i = 6 then 6 else if i = 7 then L.getD 6 0 else L.getD i 0
def chk (L : List Nat) : Bool := (odc (pf L) (clf (pf L)) 8 % 2 == invs (pf L) 8 % 2) && Nat.ble (orl (pf L) 8) 330
theorem chk_use {b : Nat → Nat} (h : PM b) (hc : en chk 7 [] = true) : odc b (clf b) 8 % 2 = invs b 8 % 2 ∧ orl b 8 ≤ 330 := by
  have hne : ∀ i, i < 8 → i ≠ 6 → b i % 8 ≠ 6 := fun i hi h6 e => h6 (h.2.1 i 6 hi (by decide) (by rw [e, h.2.2]))
  have hin : ∀ i, i < 8 → i ≠ 6 → b i % 8 ∈ [0, 1, 2, 3, 4, 5, 7] := fun i hi h6 => by
    have h1 := hne i hi h6
    have h2 : b i % 8 < 8 := Nat.mod_lt _ (by decide)
    generalize b i % 8 = v at h1 h2
    rcases (by omega : v = 0 ∨ v = 1 ∨ v = 2 ∨ v = 3 ∨ v = 4 ∨ v = 5 ∨ v = 7) with rfl | rfl | rfl | rfl | rfl | rfl | rfl <;> decide
  have hdd : ∀ i j, i < 8 → j < 8 → i ≠ j → b i % 8 ≠ b j % 8 := fun i j hi hj hn e => hn (h.2.1 i j hi hj e)
  have hq := en_spec [b 0 % 8, b 1 % 8, b 2 % 8, b 3 % 8, b 4 % 8, b 5 % 8, b 7 % 8] [] hc (by
    intro x hx
    simp only [List.mem_cons, List.not_mem_nil, or_false] at hx
    rcases hx with rfl | rfl | rfl | rfl | rfl | rfl | rfl <;> exact hin _ (by decide) (by decide)) (by
    rw [List.nil_append]
    simp only [List.nodup_cons, List.mem_cons, List.not_mem_nil, or_false, not_or, List.nodup_nil, and_true, not_false_eq_true]
    refine ⟨⟨?_, ?_, ?_, ?_, ?_, ?_⟩, ⟨?_, ?_, ?_, ?_, ?_⟩, ⟨?_, ?_, ?_, ?_⟩, ⟨?_, ?_, ?_⟩, ⟨?_, ?_⟩, ?_⟩ <;> exact hdd _ _ (by decide) (by decide) (by decide))
  rw [List.nil_append] at hq
  generalize hL : [b 0 % 8, b 1 % 8, b 2 % 8, b 3 % 8, b 4 % 8, b 5 % 8, b 7 % 8] = L at hq
  have hpf : ∀ i, i < 8 → pf L i % 8 = b i % 8 := by
    subst hL
    refine lt8 ?_ ?_ ?_ ?_ ?_ ?_ ?_ ?_
    · show b 0 % 8 % 8 = _; omega
    · show b 1 % 8 % 8 = _; omega
    · show b 2 % 8 % 8 = _; omega
    · show b 3 % 8 % 8 = _; omega
    · show b 4 % 8 % 8 = _; omega
    · show b 5 % 8 % 8 = _; omega
    · show 6 % 8 = _; rw [h.2.2]
    · show b 7 % 8 % 8 = _; omega
  unfold chk at hq
  rw [Bool.and_eq_true, beq_iff_eq] at hq
  rw [← odc_cg hpf 8 (Nat.le_refl 8), ← invs_cg hpf 8 (Nat.le_refl 8), ← orl_cg hpf 8 (Nat.le_refl 8)]
  exact ⟨hq.1, Nat.le_of_ble_eq_true hq.2⟩
theorem PM.gb {b : Nat → Nat} (h : PM b) (hc : en chk 7 [] = true) : GB b := by
  obtain ⟨h1, h2⟩ := chk_use h hc
  have hcl := clf_CLs h
  have h3 : orc b (clf b) 8 ≤ 1000 := by
    have := Nat.le_of_dvd (Nat.mul_pos (by decide) (Nat.pos_of_ne_zero fun e => by
      have := orc_3 b 8
      have h9 := (orc_rng hcl (Nat.le_refl 8)).1
      have hz : orl b 8 ≠ 0 := by
        have : ∀ n, n ≤ 8 → orl b n ≠ 0 := by
          intro n
          induction n with
          | zero => intro _; show (1 : Nat) ≠ 0; decide
          | succ n ih =>
            intro hn
            show (if lst b n (clf b n) < n then orl b n else Nat.lcm (orl b n) (clf b n)) ≠ 0
            split
            · exact ih (by omega)
            · exact Nat.lcm_ne_zero (ih (by omega)) (by have := (hcl n (by omega)).1; omega)
        exact this 8 (Nat.le_refl 8)
      exact hz e)) (orc_3 b 8)
    omega
  exact ⟨h.1, hcl, h1, (ord_orc h.1 hcl h3).1, (ord_orc h.1 hcl h3).2⟩
end
section
/-! MY ROWS 28: all ways to put seven corners, looked through -/
theorem en_0_1 : en chk 5 [0, 1] = true := by decide +kernel
theorem en_0_2 : en chk 5 [0, 2] = true := by decide +kernel
theorem en_0_3 : en chk 5 [0, 3] = true := by decide +kernel
theorem en_0_4 : en chk 5 [0, 4] = true := by decide +kernel
theorem en_0_5 : en chk 5 [0, 5] = true := by decide +kernel
theorem en_0_7 : en chk 5 [0, 7] = true := by decide +kernel
theorem en_1_0 : en chk 5 [1, 0] = true := by decide +kernel
theorem en_1_2 : en chk 5 [1, 2] = true := by decide +kernel
theorem en_1_3 : en chk 5 [1, 3] = true := by decide +kernel
theorem en_1_4 : en chk 5 [1, 4] = true := by decide +kernel
theorem en_1_5 : en chk 5 [1, 5] = true := by decide +kernel
theorem en_1_7 : en chk 5 [1, 7] = true := by decide +kernel
theorem en_2_0 : en chk 5 [2, 0] = true := by decide +kernel
theorem en_2_1 : en chk 5 [2, 1] = true := by decide +kernel
theorem en_2_3 : en chk 5 [2, 3] = true := by decide +kernel
theorem en_2_4 : en chk 5 [2, 4] = true := by decide +kernel
theorem en_2_5 : en chk 5 [2, 5] = true := by decide +kernel
theorem en_2_7 : en chk 5 [2, 7] = true := by decide +kernel
theorem en_3_0 : en chk 5 [3, 0] = true := by decide +kernel
theorem en_3_1 : en chk 5 [3, 1] = true := by decide +kernel
theorem en_3_2 : en chk 5 [3, 2] = true := by decide +kernel
theorem en_3_4 : en chk 5 [3, 4] = true := by decide +kernel
theorem en_3_5 : en chk 5 [3, 5] = true := by decide +kernel
theorem en_3_7 : en chk 5 [3, 7] = true := by decide +kernel
theorem en_4_0 : en chk 5 [4, 0] = true := by decide +kernel
theorem en_4_1 : en chk 5 [4, 1] = true := by decide +kernel
theorem en_4_2 : en chk 5 [4, 2] = true := by decide +kernel
theorem en_4_3 : en chk 5 [4, 3] = true := by decide +kernel
theorem en_4_5 : en chk 5 [4, 5] = true := by decide +kernel
theorem en_4_7 : en chk 5 [4, 7] = true := by decide +kernel
theorem en_5_0 : en chk 5 [5, 0] = true := by decide +kernel
theorem en_5_1 : en chk 5 [5, 1] = true := by decide +kernel
theorem en_5_2 : en chk 5 [5, 2] = true := by decide +kernel
theorem en_5_3 : en chk 5 [5, 3] = true := by decide +kernel
theorem en_5_4 : en chk 5 [5, 4] = true := by decide +kernel
theorem en_5_7 : en chk 5 [5, 7] = true := by decide +kernel
theorem en_7_0 : en chk 5 [7, 0] = true := by decide +kernel
theorem en_7_1 : en chk 5 [7, 1] = true := by decide +kernel
theorem en_7_2 : en chk 5 [7, 2] = true := by decide +kernel
theorem en_7_3 : en chk 5 [7, 3] = true := by decide +kernel
theorem en_7_4 : en chk 5 [7, 4] = true := by decide +kernel
theorem en_7_5 : en chk 5 [7, 5] = true := by decide +kernel
theorem en_0 : en chk 6 [0] = true := by
  show [0, 1, 2, 3, 4, 5, 7].all (fun x => [0].contains x || en chk 5 ([0] ++ [x])) = true
  rw [List.all_eq_true]
  intro x hx
  simp only [List.mem_cons, List.not_mem_nil, or_false] at hx
  rcases hx with rfl | rfl | rfl | rfl | rfl | rfl | rfl
  · rfl
  · exact Bool.or_eq_true_iff.mpr (Or.inr en_0_1)
  · exact Bool.or_eq_true_iff.mpr (Or.inr en_0_2)
  · exact Bool.or_eq_true_iff.mpr (Or.inr en_0_3)
  · exact Bool.or_eq_true_iff.mpr (Or.inr en_0_4)
  · exact Bool.or_eq_true_iff.mpr (Or.inr en_0_5)
  · exact Bool.or_eq_true_iff.mpr (Or.inr en_0_7)
theorem en_1 : en chk 6 [1] = true := by
  show [0, 1, 2, 3, 4, 5, 7].all (fun x => [1].contains x || en chk 5 ([1] ++ [x])) = true
  rw [List.all_eq_true]
  intro x hx
  simp only [List.mem_cons, List.not_mem_nil, or_false] at hx
  rcases hx with rfl | rfl | rfl | rfl | rfl | rfl | rfl
  · exact Bool.or_eq_true_iff.mpr (Or.inr en_1_0)
  · rfl
  · exact Bool.or_eq_true_iff.mpr (Or.inr en_1_2)
  · exact Bool.or_eq_true_iff.mpr (Or.inr en_1_3)
  · exact Bool.or_eq_true_iff.mpr (Or.inr en_1_4)
  · exact Bool.or_eq_true_iff.mpr (Or.inr en_1_5)
  · exact Bool.or_eq_true_iff.mpr (Or.inr en_1_7)
theorem en_2 : en chk 6 [2] = true := by
  show [0, 1, 2, 3, 4, 5, 7].all (fun x => [2].contains x || en chk 5 ([2] ++ [x])) = true
  rw [List.all_eq_true]
  intro x hx
  simp only [List.mem_cons, List.not_mem_nil, or_false] at hx
  rcases hx with rfl | rfl | rfl | rfl | rfl | rfl | rfl
  · exact Bool.or_eq_true_iff.mpr (Or.inr en_2_0)
  · exact Bool.or_eq_true_iff.mpr (Or.inr en_2_1)
  · rfl
  · exact Bool.or_eq_true_iff.mpr (Or.inr en_2_3)
  · exact Bool.or_eq_true_iff.mpr (Or.inr en_2_4)
  · exact Bool.or_eq_true_iff.mpr (Or.inr en_2_5)
  · exact Bool.or_eq_true_iff.mpr (Or.inr en_2_7)
theorem en_3 : en chk 6 [3] = true := by
  show [0, 1, 2, 3, 4, 5, 7].all (fun x => [3].contains x || en chk 5 ([3] ++ [x])) = true
  rw [List.all_eq_true]
  intro x hx
  simp only [List.mem_cons, List.not_mem_nil, or_false] at hx
  rcases hx with rfl | rfl | rfl | rfl | rfl | rfl | rfl
  · exact Bool.or_eq_true_iff.mpr (Or.inr en_3_0)
  · exact Bool.or_eq_true_iff.mpr (Or.inr en_3_1)
  · exact Bool.or_eq_true_iff.mpr (Or.inr en_3_2)
  · rfl
  · exact Bool.or_eq_true_iff.mpr (Or.inr en_3_4)
  · exact Bool.or_eq_true_iff.mpr (Or.inr en_3_5)
  · exact Bool.or_eq_true_iff.mpr (Or.inr en_3_7)
theorem en_4 : en chk 6 [4] = true := by
  show [0, 1, 2, 3, 4, 5, 7].all (fun x => [4].contains x || en chk 5 ([4] ++ [x])) = true
  rw [List.all_eq_true]
  intro x hx
  simp only [List.mem_cons, List.not_mem_nil, or_false] at hx
  rcases hx with rfl | rfl | rfl | rfl | rfl | rfl | rfl
  · exact Bool.or_eq_true_iff.mpr (Or.inr en_4_0)
  · exact Bool.or_eq_true_iff.mpr (Or.inr en_4_1)
  · exact Bool.or_eq_true_iff.mpr (Or.inr en_4_2)
  · exact Bool.or_eq_true_iff.mpr (Or.inr en_4_3)
  · rfl
  · exact Bool.or_eq_true_iff.mpr (Or.inr en_4_5)
  · exact Bool.or_eq_true_iff.mpr (Or.inr en_4_7)
theorem en_5 : en chk 6 [5] = true := by
  show [0, 1, 2, 3, 4, 5, 7].all (fun x => [5].contains x || en chk 5 ([5] ++ [x])) = true
  rw [List.all_eq_true]
  intro x hx
  simp only [List.mem_cons, List.not_mem_nil, or_false] at hx
  rcases hx with rfl | rfl | rfl | rfl | rfl | rfl | rfl
  · exact Bool.or_eq_true_iff.mpr (Or.inr en_5_0)
  · exact Bool.or_eq_true_iff.mpr (Or.inr en_5_1)
  · exact Bool.or_eq_true_iff.mpr (Or.inr en_5_2)
  · exact Bool.or_eq_true_iff.mpr (Or.inr en_5_3)
  · exact Bool.or_eq_true_iff.mpr (Or.inr en_5_4)
  · rfl
  · exact Bool.or_eq_true_iff.mpr (Or.inr en_5_7)
theorem en_7 : en chk 6 [7] = true := by
  show [0, 1, 2, 3, 4, 5, 7].all (fun x => [7].contains x || en chk 5 ([7] ++ [x])) = true
  rw [List.all_eq_true]
  intro x hx
  simp only [List.mem_cons, List.not_mem_nil, or_false] at hx
  rcases hx with rfl | rfl | rfl | rfl | rfl | rfl | rfl
  · exact Bool.or_eq_true_iff.mpr (Or.inr en_7_0)
  · exact Bool.or_eq_true_iff.mpr (Or.inr en_7_1)
  · exact Bool.or_eq_true_iff.mpr (Or.inr en_7_2)
  · exact Bool.or_eq_true_iff.mpr (Or.inr en_7_3)
  · exact Bool.or_eq_true_iff.mpr (Or.inr en_7_4)
  · exact Bool.or_eq_true_iff.mpr (Or.inr en_7_5)
  · rfl
theorem en_all : en chk 7 [] = true := by
  show [0, 1, 2, 3, 4, 5, 7].all (fun x => [].contains x || en chk 6 ([] ++ [x])) = true
  rw [List.all_eq_true]
  intro x hx
  simp only [List.mem_cons, List.not_mem_nil, or_false] at hx
  rcases hx with rfl | rfl | rfl | rfl | rfl | rfl | rfl
  · exact Bool.or_eq_true_iff.mpr (Or.inr en_0)
  · exact Bool.or_eq_true_iff.mpr (Or.inr en_1)
  · exact Bool.or_eq_true_iff.mpr (Or.inr en_2)
  · exact Bool.or_eq_true_iff.mpr (Or.inr en_3)
  · exact Bool.or_eq_true_iff.mpr (Or.inr en_4)
  · exact Bool.or_eq_true_iff.mpr (Or.inr en_5)
  · exact Bool.or_eq_true_iff.mpr (Or.inr en_7)
theorem PM.gb2 {b : Nat → Nat} (h : PM b) : GB b := h.gb en_all
end
section
/-! MY ROWS 29: what the property says of cubes -/
/-- twists together, of the first n places -/
def tsm (b : Nat → Nat) : Nat → Nat
  | 0 => 0
  | n + 1 => tsm b n + b n / 8
def TW (b : Nat → Nat) : Prop := tsm b 8 % 3 = 0
theorem TW.one : TW one := by unfold TW; decide
theorem tsm_lt {b : Nat → Nat} (h : Va b) : ∀ n, n ≤ 8 → tsm b n ≤ 3 * n
  | 0, _ => Nat.le_refl 0
  | n + 1, hn => by
    have h1 := tsm_lt h n (by omega)
    have h2 := h n (by omega)
    show tsm b n + b n / 8 ≤ 3 * (n + 1)
    omega
theorem TW.comp0 {b : Nat → Nat} (h : TW b) : TW (comp b (Qf 0)) := by
  unfold TW at h ⊢
  simp only [tsm, comp_hi] at h ⊢
  simp [Qf]
  omega
theorem TW.comp1 {b : Nat → Nat} (h : TW b) : TW (comp b (Qf 1)) := by
  unfold TW at h ⊢
  simp only [tsm, comp_hi] at h ⊢
  simp [Qf]
  omega
theorem TW.comp2 {b : Nat → Nat} (n : Nat) (h : TW b) : TW (comp b (Qf (n + 2))) := by
  unfold TW at h ⊢
  simp only [tsm, comp_hi] at h ⊢
  simp [Qf]
  omega
theorem TW.Qf {b : Nat → Nat} (h : TW b) : ∀ f, TW (comp b (Qf f))
  | 0 => h.comp0
  | 1 => h.comp1
  | n + 2 => h.comp2 n
theorem TW.itq {b : Nat → Nat} (f : Nat) (h : TW b) : ∀ n, TW (itq f b n)
  | 0 => h
  | n + 1 => (TW.itq f h n).Qf f
theorem TW.turnC {b : Nat → Nat} (h : TW b) (t : Nat) : TW (turnC b t) := TW.itq _ h _
theorem TW.bhN {c : Nat → Nat} (h : TW c) (l : List Nat) : ∀ n, TW (bhN c l n)
  | 0 => h
  | n + 1 => (TW.bhN h l n).turnC _
theorem TW.plN {c : Nat → Nat} (h : TW c) (l : List Nat) : ∀ n, TW (plN c l n)
  | 0 => h
  | n + 1 => TW.bhN (TW.plN h l n) l _
/-- corners that were seen at the first n places, a bit each -/
def orF (b : Nat → Nat) : Nat → Nat
  | 0 => 0
  | n + 1 => orF b n ||| 2 ^ (b n % 8)
theorem orF_lt (b : Nat → Nat) : ∀ n, orF b n < 2 ^ 8
  | 0 => by show 0 < 2 ^ 8; decide
  | n + 1 => Nat.or_lt_two_pow (orF_lt b n) (Nat.pow_lt_pow_right (by decide) (Nat.mod_lt _ (by decide)))
theorem orF_bit (b : Nat → Nat) (j : Nat) : ∀ n, (orF b n).testBit j = true ↔ ∃ i, i < n ∧ b i % 8 = j
  | 0 => by simp [orF]
  | n + 1 => by
    show (orF b n ||| 2 ^ (b n % 8)).testBit j = true ↔ _
    rw [Nat.testBit_or, Bool.or_eq_true, orF_bit b j n, Nat.testBit_two_pow, decide_eq_true_iff]
    constructor
    · rintro (⟨i, hi, h⟩ | h)
      · exact ⟨i, by omega, h⟩
      · exact ⟨n, by omega, h⟩
    · rintro ⟨i, hi, h⟩
      by_cases e : i = n
      · subst e; exact Or.inr h
      · exact Or.inl ⟨i, by omega, h⟩
theorem orF_8 {b : Nat → Nat} (h : PM b) : orF b 8 = 255 := by
  apply Nat.eq_of_testBit_eq
  intro j
  rw [show (255 : Nat) = 2 ^ 8 - 1 from rfl, Nat.testBit_two_pow_sub_one]
  apply Bool.eq_iff_iff.mpr
  rw [orF_bit, decide_eq_true_iff]
  constructor
  · rintro ⟨i, -, h⟩
    rw [← h]
    exact Nat.mod_lt _ (by decide)
  · intro hj
    exact h.surj hj
/-! the same cube: at the eight places -/
abbrev EQ8 (a b : Nat → Nat) : Prop := ∀ i, i < 8 → a i = b i
theorem id_r {x y : Nat → Nat} (hx : Va x) (h : EQ8 y one) : EQ8 (comp x y) x := fun i hi => by
  have h1 : y i = i := h i hi
  have h2 := hx i hi
  unfold comp
  rw [h1, Nat.mod_eq_of_lt hi, Nat.div_eq_of_lt hi]
  omega
theorem id_l {x y : Nat → Nat} (hx : Va x) (h : EQ8 y one) : EQ8 (comp y x) x := fun i hi => by
  have h2 := hx i hi
  have h1 : y (x i % 8) = x i % 8 := h _ (Nat.mod_lt _ (by decide))
  unfold comp
  rw [h1]
  omega
theorem ivL {b : Nat → Nat} (h : PM b) : EQ8 (comp (iv b) b) one := fun i hi => by
  have e := iv_of h hi
  have h2 := h.1 i hi
  show comp (iv b) b i = i
  unfold comp
  rw [e]
  omega
theorem ivR {b : Nat → Nat} (h : PM b) : EQ8 (comp b (iv b)) one := fun _ hi => comp_iv h hi
abbrev cmt (A B : Nat → Nat) : Nat → Nat := comp (comp A B) (comp (iv A) (iv B))
theorem cmt_cmt {A B : Nat → Nat} (hA : PM A) (hB : PM B) : EQ8 (comp (cmt A B) (cmt B A)) one := by
  have h1 : EQ8 (comp (iv B) (comp B (comp A (comp (iv B) (iv A))))) (comp A (comp (iv B) (iv A))) := by
    rw [← comp_assoc]
    exact id_l (comp_Va _ _) (ivL hB)
  have h2 : EQ8 (comp (iv A) (comp A (comp (iv B) (iv A)))) (comp (iv B) (iv A)) := by
    rw [← comp_assoc]
    exact id_l (comp_Va _ _) (ivL hA)
  have h3 : EQ8 (comp B (comp (iv B) (iv A))) (iv A) := by
    rw [← comp_assoc]
    exact id_l (iv_Va A) (ivR hB)
  intro i hi
  unfold cmt
  rw [comp_assoc (comp A B), comp_assoc (iv A), comp_assoc B A, comp_assoc A B]
  refine (comp_cg (fun _ _ => rfl) (fun j hj => ?_) hi).trans (ivR hA i hi)
  refine (comp_cg (fun _ _ => rfl) (fun k hk => ?_) hj).trans (h3 j hj)
  exact (comp_cg (fun _ _ => rfl) (fun q hq => h1 q hq) hk).trans (h2 k hk)
theorem fix_of {M N : Nat → Nat} (hM : Va M) (h : EQ8 (comp M N) one) {i : Nat} (hi : i < 8) (e : N i = i) : M i = i := by
  have h1 : comp M N i = i := h i hi
  have h2 := hM i hi
  unfold comp at h1
  rw [e, Nat.mod_eq_of_lt hi, Nat.div_eq_of_lt hi] at h1
  omega
theorem nRt_cmt {A B : Nat → Nat} (hA : PM A) (hB : PM B) : nRt (cmt A B) = nRt (cmt B A) := ct_congr 8 fun i hi => decide_eq_decide.mpr
  ⟨fun e => fix_of (comp_Va _ _) (cmt_cmt hB hA) hi e, fun e => fix_of (comp_Va _ _) (cmt_cmt hA hB) hi e⟩
theorem nRt_cmt_8 {A B : Nat → Nat} (hA : PM A) (hB : PM B) (h : EQ8 A B) : nRt (cmt A B) = 8 := by
  rw [nRt_8]
  intro i hi
  unfold cmt
  rw [comp_assoc]
  have h1 : EQ8 (comp B (comp (iv A) (iv B))) (iv B) := by
    rw [← comp_assoc]
    exact id_l (iv_Va B) fun j hj => (comp_cg (fun k hk => (h k hk).symm) (fun _ _ => rfl) hj).trans (ivR hA j hj)
  exact (comp_cg h h1 hi).trans (ivR hB i hi)
/-! the order of the same cubes -/
theorem pw_cg {a b : Nat → Nat} (h : EQ8 a b) : ∀ n, EQ8 (pw a n) (pw b n)
  | 0 => h
  | n + 1 => fun _ hi => comp_cg (pw_cg h n) h hi
theorem ordS_cg {a b : Nat → Nat} (h : EQ8 a b) : ∀ u k, ordS a u k = ordS b u k
  | 0, _ => rfl
  | u + 1, k => by
    unfold ordS
    rw [enc_congr (pw_cg h k), ordS_cg h u (k + 1)]
theorem ordN_cg {a b : Nat → Nat} (h : EQ8 a b) : ordN a = ordN b := ordS_cg h 1000 0
theorem ordS_ge (b : Nat → Nat) : ∀ u k, k ≤ ordS b u k
  | 0, k => Nat.le_refl k
  | u + 1, k => by
    unfold ordS
    split
    · exact Nat.le_refl k
    · exact Nat.le_trans (Nat.le_succ k) (ordS_ge b u (k + 1))
theorem ordN_0 {b : Nat → Nat} (h : Va b) : ordN b + 1 = 1 ↔ nRt b = 8 := by
  rw [← is1_iff h]
  unfold is1 ordN
  rw [decide_eq_true_iff]
  have e : ordS b 1000 0 = if enc (pw b 0) = enc one then 0 else ordS b 999 1 := rfl
  rw [e]
  show (if enc b = enc one then 0 else ordS b 999 1) + 1 = 1 ↔ _
  have h1 := ordS_ge b 999 1
  split
  · rename_i h2; exact ⟨fun _ => h2, fun _ => rfl⟩
  · rename_i h2; exact ⟨fun q => absurd q (by omega), fun q => absurd q h2⟩
/-! how far a cube is -/
theorem cm_cg : ∀ (n : Nat) {a b : Nat → Nat} (_ : EQ8 a b) {lf : Nat}, cm n a lf = true → cm n b lf = true
  | 0, a, b, h, lf, q => by rw [cm_0] at q ⊢; rw [← nRt_congr h]; exact q
  | n + 1, a, b, h, lf, q => by
    obtain ⟨t, ht, h1, h2⟩ := cm_s.mp q
    exact cm_s.mpr ⟨t, ht, h1, cm_cg n (fun i hi => turnC_cg h t hi) h2⟩
theorem cm_any {n : Nat} {b : Nat → Nat} {lf : Nat} (h : cm n b lf = true) : cm n b 3 = true := by
  cases n with
  | zero => exact cm_0.mpr (cm_0.mp h)
  | succ n =>
    obtain ⟨t, ht, -, h2⟩ := cm_s.mp h
    exact cm_s.mpr ⟨t, ht, by omega, h2⟩
def CM (n : Nat) (b : Nat → Nat) : Prop := ∃ k, k ≤ n ∧ cm k b 3 = true
theorem CM.cg {n : Nat} {a b : Nat → Nat} (h : EQ8 a b) (q : CM n a) : CM n b := by
  obtain ⟨k, hk, h2⟩ := q
  exact ⟨k, hk, cm_cg k h h2⟩
theorem two_f : ∀ t, t < 9 → ∀ u, u < 9 → u / 3 = t / 3 → (∀ i, i < 8 → comp (tq t) (tq u) i = i) ∨ ∃ v, v < 9 ∧ v / 3 = u / 3 ∧ ∀ i, i < 8 → comp (tq t) (tq u) i = tq v i := by decide +kernel
theorem CM.step {n : Nat} {b : Nat → Nat} (hv : Va b) {t : Nat} (ht : t < 9) (h : CM n (turnC b t)) : CM (n + 1) b := by
  obtain ⟨k, hk, h⟩ := h
  cases k with
  | zero => exact ⟨1, by omega, cm_s.mpr ⟨t, ht, by omega, cm_0.mpr (cm_0.mp h)⟩⟩
  | succ k =>
    obtain ⟨u, hu, -, h2⟩ := cm_s.mp h
    by_cases e : u / 3 = t / 3
    · have e2 : turnC (turnC b t) u = comp b (comp (tq t) (tq u)) := by rw [← comp_tq, ← comp_tq, comp_assoc]
      rw [e2] at h2
      rcases two_f t ht u hu e with h3 | ⟨v, hv9, h4, h5⟩
      · exact ⟨k, by omega, cm_any (cm_cg k (id_r hv h3) h2)⟩
      · have h6 : EQ8 (comp b (comp (tq t) (tq u))) (turnC b v) := by
          rw [← comp_tq b v]
          exact fun i hi => comp_cg (fun _ _ => rfl) h5 hi
        exact ⟨k + 1, by omega, cm_s.mpr ⟨v, hv9, by omega, by rw [h4]; exact cm_cg k h6 h2⟩⟩
    · exact ⟨k + 2, by omega, cm_s.mpr ⟨t, ht, by omega, cm_s.mpr ⟨u, hu, e, h2⟩⟩⟩
theorem CM.turn {n : Nat} {b : Nat → Nat} (hv : Va b) {t : Nat} (ht : t < 9) (h : CM n b) : CM (n + 1) (turnC b t) :=
  CM.step (turnC_Va b t) (tb_lt ht) (h.cg fun _ hi => (turn_back hv ht hi).symm)
theorem CM.one : CM 0 one := ⟨0, Nat.le_refl 0, cm_0.mpr (nRt_8.mpr fun _ _ => rfl)⟩
def DI (b : Nat → Nat) (n : Nat) : Prop := wi n b 3 = true ∧ ∀ k, k < n → wi k b 3 = false
theorem CM.di {n : Nat} {b : Nat → Nat} (hv : Va b) (h : CM n b) : ∃ N, N ≤ n ∧ DI b N := by
  rcases cm_far hv n (lf := 3) with ⟨h1, -⟩ | ⟨N, h1, -, h3, h4⟩
  · obtain ⟨k, hk, h2⟩ := h
    rw [h1 k hk] at h2; cases h2
  · exact ⟨N, h1, h3, h4⟩
theorem DI.cmo {b : Nat → Nat} (hv : Va b) {n : Nat} (h : DI b n) : cm n b 3 = true ∧ ∀ k, k < n → cm k b 3 = false := by
  have h2 : ∀ k, k < n → cm k b 3 = false := fun k hk => by
    cases e : cm k b 3 with
    | false => rfl
    | true =>
      have := (wi_iff k hv).mpr ⟨k, Nat.le_refl k, e⟩
      rw [h.2 k hk] at this; cases this
  obtain ⟨k, hk, h1⟩ := (wi_iff n hv).mp h.1
  by_cases e : k = n
  · rw [e] at h1; exact ⟨h1, h2⟩
  · rw [h2 k (by omega)] at h1; cases h1
theorem DI.next {b : Nat → Nat} (hv : Va b) {n : Nat} (h : DI b (n + 1)) : ∃ F, F < 9 ∧ (∀ t, t < F → wi n (turnC b t) (t / 3) = false) ∧ wi n (turnC b F) (F / 3) = true ∧ DI (turnC b F) n := by
  obtain ⟨h1, h2⟩ := h.cmo hv
  obtain ⟨F, hF, h3, h4, h5⟩ := cm_first (Nat.succ_pos n) h1 h2
  have h4 : cm n (turnC b F) (F / 3) = true := h4
  have h5 : wi n (turnC b F) (F / 3) = true := h5
  refine ⟨F, hF, fun t ht => ?_, h5, (wi_iff n (turnC_Va b F)).mpr ⟨n, Nat.le_refl n, cm_any h4⟩, fun k hk => ?_⟩
  · exact (h3 t ht).2
  · cases e : wi k (turnC b F) 3 with
    | false => rfl
    | true =>
      obtain ⟨j, hj, h6⟩ := CM.step hv hF ((wi_iff k (turnC_Va b F)).mp e)
      rw [h2 j (by omega)] at h6; cases h6
theorem DI.is {b : Nat → Nat} (hv : Va b) (h : DI b 0) : nRt b = 8 := (is1_iff hv).mp h.1
theorem wi_cg {a b : Nat → Nat} (ha : Va a) (hb : Va b) (h : EQ8 a b) (n : Nat) : wi n a 3 = wi n b 3 := Bool.eq_iff_iff.mpr (by
  rw [wi_iff n ha, wi_iff n hb]
  exact ⟨fun q => CM.cg h q, fun q => CM.cg (fun i hi => (h i hi).symm) q⟩)
/-- what a call answers that looks for the fewest turns, 2 at the most (any bound would do) -/
theorem far_of {b : Nat → Nat} (m : Nat) : (∀ k, k ≤ m → wi k b 3 = false) ∨ ∃ N, N ≤ m ∧ DI b N := by
  rcases least (P := fun k => wi k b 3 = true) m with h | ⟨N, h1, h2, h3⟩
  · exact Or.inl fun k hk => by simpa using h k hk
  · exact Or.inr ⟨N, h1, h2, fun k hk => by simpa using h3 k hk⟩
/-! the best turn; counts -/
theorem bst_max (b : Nat → Nat) : ∀ n, n ≤ 9 → ∀ t, t < n → nRt (turnC b t) ≤ nRt (turnC b (bst b n))
  | 0, _, t, ht => absurd ht (Nat.not_lt_zero t)
  | n + 1, hn, t, ht => by
    have ih := bst_max b n (by omega)
    show nRt (turnC b t) ≤ nRt (turnC b (if n = 0 then 0 else if nRt (turnC b (bst b n)) < nRt (turnC b n) then n else bst b n))
    by_cases h0 : n = 0
    · rw [if_pos h0]
      obtain rfl : t = 0 := by omega
      exact Nat.le_refl _
    · rw [if_neg h0]
      by_cases h1 : nRt (turnC b (bst b n)) < nRt (turnC b n)
      · rw [if_pos h1]
        by_cases e : t = n
        · rw [e]; exact Nat.le_refl _
        · have := ih t (by omega); omega
      · rw [if_neg h1]
        by_cases e : t = n
        · rw [e]; omega
        · exact ih t (by omega)
theorem nPl_ge (b : Nat → Nat) : nRt b ≤ nPl b := ct_ge 8 fun i hi h => decide_eq_true (by rw [of_decide_eq_true h]; exact Nat.mod_eq_of_lt hi)
theorem nUt_ge (b : Nat → Nat) : nRt b ≤ nUt b := ct_ge 8 fun i hi h => decide_eq_true (by rw [of_decide_eq_true h]; exact Nat.div_eq_of_lt hi)
theorem nRt_le (b : Nat → Nat) : nRt b ≤ 8 := ct_le _ 8
theorem ct_tV (b : Nat → Nat) (n : Nat) : ct (fun i => decide (b i = i)) n + tV b n 2 = ct (fun i => decide (b i = i)) (n + 1) := by
  show _ + (if b n = n then 1 else 0) = _ + (if decide (b n = n) = true then 1 else 0)
  by_cases h : b n = n
  · rw [if_pos h, if_pos (decide_eq_true h)]
  · rw [if_neg h, if_neg (by simpa using h)]
end
section
/-! MY ROWS 30: calls that find the law's script; the law's own little methods (laid by a program of mine) -/
section ZG
variable {p : Program} {l : Launch} {e : Env} {R : Room} {s : State} {m : MethodId} {args : Array Value} {below : List Frame} {meth : Method} {c : Code} {H : Heap} {locs : List Loc} {cells slots : Nat} {Q : State → Prop}
variable {Ts : List Cond} {own : String} {nL : Nat} {cc : ByteArray} {pc : Nat} {ls : Array Slot} {rest : List Value} {D : va_G} {T : ClassId × ClassId × ClassId} {z0 : Nat} {L : List Nat} {f : Nat → va_E}
/-- a static call that reads, whatever it wants of its start -/
theorem p_csG {y : MethodName} {n : Nat} {ws ws' : List Cond} {d maxL index : Nat} {av st : List Value} {o : Option Value} {ret : Option FieldType} {bytes : ByteArray} {B : State → Prop}
    (hM : RV l y ws d B av o) (hbl : FrameBlind (va_Pc av B)) (hB : ∀ U : State, U.heap = H → s.WarmedH U.vm → B U) (hC : CallFix p m c cc nL s args Ts own) (hg : GoodIn Ts (va_wsS own index y ws)) (hw : ws = Cond.code y bytes maxL ret :: ws') (hd : y.cls ≠ "java/lang/invoke/MethodHandle" ∧ y.cls ≠ "java/lang/invoke/VarHandle" ∧ (parseMethodDescriptor y.desc).map (fun d => d.parameters.length) = some n) (hn : av.length = n)
    (hR : d + 1 ≤ R.frames ∧ 8 + (maxL + 11) + 60 * d ≤ R.locals) (hf : cells ≤ R.cells ∧ slots ≤ R.slots) (hsz : ls.size = nL) (hW : (rest.map fun v => v.category).sum ≤ 8) (hdg : decode cc pc = .ok (.invokestatic index, 3)) (hst : st = av.reverse ++ rest)
    (kk : W p l e R s m args below meth c H locs cells slots Q (F0 m (pc + 3) ls (o.toList ++ rest))) : W p l e R s m args below meth c H locs cells slots Q (F0 m pc ls st) := by
  subst hst
  exact p_go (y := y) (mc := 0) (ms := 0) (W.runS (As := av) (rest := rest) hC hM (va_cwS n hC.2.2.2.2 hg hw rfl rfl hd hR) ⟨hbl, fun U hU hW => ⟨rfl, hB U hU hW⟩⟩ rfl hn hsz rfl (lv_room hW) hdg ⟨hf.1, hf.2⟩) kk
theorem p_csGH {y : MethodName} {n : Nat} {ws ws' : List Cond} {d maxL mc ms index : Nat} {av st : List Value} {post : Option Value → List Nat → (Nat → va_E) → Prop} {ret : Option FieldType} {bytes : ByteArray} {B : State → Prop}
    (hM : HV l y ws d mc ms D z0 B av post) (hbl : FrameBlind (va_Pc av B)) (hB : ∀ U : State, U.heap = H → s.WarmedH U.vm → B U) (hC : CallFix p m c cc nL s args Ts own) (hS : va_S (zA z0) s.heap H locs) (hg : GoodIn Ts (va_wsS own index y ws)) (hw : ws = Cond.code y bytes maxL ret :: ws') (hd : y.cls ≠ "java/lang/invoke/MethodHandle" ∧ y.cls ≠ "java/lang/invoke/VarHandle" ∧ (parseMethodDescriptor y.desc).map (fun d => d.parameters.length) = some n) (hn : av.length = n)
    (hR : d + 1 ≤ R.frames ∧ 8 + (maxL + 11) + 60 * d ≤ R.locals) (hf : cells + mc ≤ R.cells ∧ slots + ms ≤ R.slots) (hsz : ls.size = nL) (hW : (rest.map fun v => v.category).sum ≤ 8) (hdg : decode cc pc = .ok (.invokestatic index, 3)) (hst : st = av.reverse ++ rest)
    (kk : ∀ (o : Option Value) (L1 : List Nat) (f1 : Nat → va_E) (H1 : Heap) (locs1 : List Loc), post o L1 f1 → va_P D vwCl (va_pl L1 f1) H1 → va_D (zA z0) (va_pl L1 f1) → va_S (zA z0) s.heap H1 locs1 → W p l e R s m args below meth c H1 locs1 (cells + mc) (slots + ms) Q (F0 m (pc + 3) ls (o.toList ++ rest))) : W p l e R s m args below meth c H locs cells slots Q (F0 m pc ls st) := by
  subst hst
  exact p_goH (va_runS (As := av) (rest := rest) hC hM (va_cwS n hC.2.2.2.2 hg hw rfl rfl hd hR) ⟨hbl, fun U hU hW => ⟨rfl, hB U hU hW⟩⟩ rfl hn hsz rfl (lv_room hW) hdg hf) hS kk
/-- the script at sc -/
def sX (sc Ln : Nat) (xs : Nat → Int32) (U : State) : Prop := va_X sc Ln xs U U.heap
theorem sX.blind {sc Ln : Nat} {xs : Nat → Int32} {av : List Value} : FrameBlind (va_Pc av (sX sc Ln xs)) := by
  intro a U g mk h
  obtain ⟨h1, h2⟩ := h
  exact ⟨h1, va_X.moved (u := U) (U := U.calling g mk a) (Vm.Alike.refl U.vm) h2⟩
theorem sX.pass {sc Ln : Nat} {xs : Nat → Int32} (hxs : va_X sc Ln xs s s.heap) (hsz : ¬ zA z0 sc) (hS : va_S (zA z0) s.heap H locs) (U : State) (hU : U.heap = H) (hW : s.WarmedH U.vm) : sX sc Ln xs U := by
  have hsl : sc < s.heap.size := by
    obtain ⟨scr, h1, -⟩ := hxs
    exact (Array.getElem?_eq_some_iff.mp h1).1
  unfold sX
  rw [hU]
  exact (hxs.moved hW.alike).kept (hS.2.1 sc hsl hsz)
def zPreX (D : va_G) (T : ClassId × ClassId × ClassId) (z0 : Nat) (L : List Nat) (f : Nat → va_E) (sc Ln : Nat) (xs : Nat → Int32) (U : State) : Prop := zPre D T z0 L f U ∧ sX sc Ln xs U
theorem zPreX.blind {sc Ln : Nat} {xs : Nat → Int32} {av : List Value} : FrameBlind (va_Pc av (zPreX D T z0 L f sc Ln xs)) := by
  intro a U g mk h
  obtain ⟨h1, h2, h3⟩ := h
  exact ⟨h1, (zPre.blind (av := av) a U g mk ⟨h1, h2⟩).2, (sX.blind (av := av) a U g mk ⟨h1, h3⟩).2⟩
theorem zPreX.pass {sc Ln : Nat} {xs : Nat → Int32} (hE : zE D T z0 s) (hP : va_P D vwCl (va_pl L f) H) (hD : va_D (zA z0) (va_pl L f)) (hS : va_S (zA z0) s.heap H locs) (hxs : va_X sc Ln xs s s.heap) (hsz : ¬ zA z0 sc) (U : State) (hU : U.heap = H) (hW : s.WarmedH U.vm) : zPreX D T z0 L f sc Ln xs U :=
  ⟨(zPre.pass (av := []) hE hP hD hS U hU hW).2, sX.pass hxs hsz hS U hU hW⟩
end ZG
def cellv (xs : Nat → Int32) (Ln k : Nat) : Int32 := if k < Ln then xs k else 461243603 * nI (k + 3)
def blw (x : Int32) (n : Nat) : Nat := x.toBitVec.toNat % 2 ^ 31 % n
theorem blw_lt (x : Int32) {n : Nat} (h : 0 < n) : blw x n < n := Nat.mod_lt _ h
theorem and_max (x : Int32) : x &&& 2147483647 = nI (x.toBitVec.toNat % 2 ^ 31) := by
  apply Int32.toBitVec_inj.mp
  rw [Int32.toBitVec_and]
  apply BitVec.eq_of_toNat_eq
  have e1 : (2147483647 : Int32).toBitVec.toNat = 2 ^ 31 - 1 := by decide +kernel
  have h1 : x.toBitVec.toNat % 2 ^ 31 < 2 ^ 31 := Nat.mod_lt _ (by decide)
  have e2 : (nI (x.toBitVec.toNat % 2 ^ 31)).toBitVec.toNat = x.toBitVec.toNat % 2 ^ 31 := by
    show (BitVec.ofNat 32 (x.toBitVec.toNat % 2 ^ 31)).toNat = _
    rw [BitVec.toNat_ofNat]
    exact Nat.mod_eq_of_lt (Nat.lt_trans h1 (by decide))
  rw [BitVec.toNat_and, e1, e2]
  exact Nat.and_two_pow_sub_one_eq_mod _ 31
theorem wset_s (wd : Nat → List Nat) (w : Nat) (l : List Nat) : wset wd w l w = l := if_pos rfl
theorem wset_w (wd : Nat → List Nat) (w : Nat) (l l2 : List Nat) : wset (wset wd w l) w l2 = wset wd w l2 := by
  funext v
  unfold wset
  by_cases h : v = w
  · rw [if_pos h, if_pos h]
  · rw [if_neg h, if_neg h, if_neg h]
theorem wset_i {wd : Nat → List Nat} {w : Nat} {l : List Nat} (h : wd w = l) : wset wd w l = wd := by
  funext v
  unfold wset
  by_cases e : v = w
  · rw [if_pos e, e, h]
  · rw [if_neg e]
theorem take_s {l : List Nat} {k : Nat} (h : k < l.length) : l.take k ++ [l.getD k 0] = l.take (k + 1) := by
  rw [List.take_add_one, List.getElem?_eq_getElem h, List.getD_eq_getElem?_getD, List.getElem?_eq_getElem h]
  rfl

set_option maxHeartbeats 4000000 in
set_option maxRecDepth 100000 in
theorem k_below (l : Launch) (x : Int32) {n : Nat} (h0 : 0 < n) (hn : n < 2 ^ 31) : RV l yL_below wsL_below 1 zNo [.int x, .int (nI n)] (some (.int (nI (blw x n)))) := by
  refine RV.of (cc := cL_below) (maxL := 2) (ret := (some .int)) (by decide) rfl (Nat.le_of_ble_eq_true rfl) ?_
  intro p e s m args below meth c hC hr hlk hB ls hl
  have hl : lv_has ls 2 [(0, .int x), (1, .int (nI n))] := hl
  refine lv_iload_n hC.1 hC.2.1 dL_below_0 rfl (lv_at hl 0 rfl) ?_
  refine lv_ldc (v := 2147483647) hC.1 hC.2.1 hC.2.2.2.1 (hC.2.2.2.2 (.constant RL 7 (2147483647)) (by decide +kernel)) dL_below_1 ?_
  refine lv_iand hC.1 hC.2.1 dL_below_3 ?_
  refine q_i (nI (x.toBitVec.toNat % 2 ^ 31)) (and_max x) ?_
  refine lv_iload_n hC.1 hC.2.1 dL_below_4 rfl (lv_at hl 1 rfl) ?_
  refine z_irem hC dL_below_5 (Nat.mod_lt _ (by decide)) h0 hn ?_
  exact RV.iret hC hr hlk dL_below_6 (rfl)

theorem k_belowE (l : Launch) (x : Int32) {n : Nat} (h0 : 0 < n) (hn : n < 2 ^ 31) : ∃ a, a < n ∧ RV l yL_below wsL_below 1 zNo [.int x, .int (nI n)] (some (.int (nI a))) := ⟨_, blw_lt x h0, k_below l x h0 hn⟩
set_option maxHeartbeats 4000000 in
set_option maxRecDepth 100000 in
theorem k_cell (l : Launch) {sc Ln : Nat} {xs : Nat → Int32} (hLn : Ln ≤ 260) {k : Nat} (hk : k < 2 ^ 31) : RV l yL_cell wsL_cell 1 (sX sc Ln xs) [.ref sc, .int (nI k)] (some (.int (cellv xs Ln k))) := by
  refine RV.of (cc := cL_cell) (maxL := 2) (ret := (some .int)) (by decide) rfl (Nat.le_of_ble_eq_true rfl) ?_
  intro p e s m args below meth c hC hr hlk hB ls hl
  have hl : lv_has ls 2 [(0, .ref sc), (1, .int (nI k))] := hl
  have hxs : va_X sc Ln xs s s.heap := hB
  have hsl : sc < s.heap.size := by
    obtain ⟨scr, h1, -⟩ := id hxs
    exact (Array.getElem?_eq_some_iff.mp h1).1
  have hsz : ¬ (fun _ : Nat => False) sc := fun q => q
  have hS : va_S (fun _ => False) s.heap s.heap [] := va_S.rf
  refine lv_iload_n hC.1 hC.2.1 dL_cell_0 rfl (lv_at hl 1 rfl) ?_
  refine lv_aload_n hC.1 hC.2.1 dL_cell_1 rfl (lv_at hl 0 rfl) ?_
  refine va_slen hC.1 hC.2.1 hxs hsl hsz hS dL_cell_2 ?_
  refine z_icmp_ge (tgt := 12) hC dL_cell_3 (by decide) (by omega) (by omega) (fun h_3 => ?_) (fun h_3 => ?_)
  · refine lv_ldc (v := 461243603) hC.1 hC.2.1 hC.2.2.2.1 (hC.2.2.2.2 (.constant RL 8 (461243603)) (by decide +kernel)) dL_cell_12 ?_
    refine lv_iload_n hC.1 hC.2.1 dL_cell_14 rfl (lv_at hl 1 rfl) ?_
    refine lv_iconst (v := (nI 3)) hC.1 hC.2.1 dL_cell_15 (by decide) ?_
    refine z_iadd hC dL_cell_16 ?_
    refine lv_imul hC.1 hC.2.1 dL_cell_17 ?_
    exact RV.iret hC hr hlk dL_cell_18 ((if_neg (by omega)).symm)
  · refine lv_aload_n hC.1 hC.2.1 dL_cell_6 rfl (lv_at hl 0 rfl) ?_
    refine lv_iload_n hC.1 hC.2.1 dL_cell_7 rfl (lv_at hl 1 rfl) ?_
    refine va_sld hC.1 hC.2.1 hxs hsl hsz hS (vp_in_nI h_3 (by omega)) dL_cell_8 ?_
    rw [nI_clamp (by omega : k < 2 ^ 31)]
    refine lv_goto (tgt := 18) hC.1 hC.2.1 dL_cell_9 (by decide) ?_
    exact RV.iret hC hr hlk dL_cell_18 ((if_pos h_3).symm)

/-- what wordOf leaves: a new row that holds a word -/
def WP (T : ClassId × ClassId × ClassId) (L : List Nat) (f : Nat → va_E) : Option Value → List Nat → (Nat → va_E) → Prop := fun o L' f' => ∃ (q : Nat) (g : Nat → Int32) (lw : List Nat), o = some (.ref q) ∧ q ∉ L ∧ L' = L ++ [q] ∧ f' q = eI T.1 lw.length g ∧ (∀ a, a ∈ L → f' a = f a) ∧ lw.length ≤ 12 ∧ ∀ k, k < lw.length → g k = nI (lw.getD k 0) ∧ lw.getD k 0 < 9
theorem WP.of {T : ClassId × ClassId × ClassId} {L : List Nat} {f f1 : Nat → va_E} {q n : Nat} {g : Nat → Int32} (hq : q ∉ L) (hn : n ≤ 12) (h1 : f1 q = eI T.1 n g) (h2 : ∀ a, a ∈ L → f1 a = f a) (h3 : ∀ k, k < n → ∃ v, v < 9 ∧ g k = nI v) : WP T L f (some (.ref q)) (L ++ [q]) f1 := by
  have hex : ∃ V : Nat → Nat, ∀ k, k < n → V k < 9 ∧ g k = nI (V k) := ⟨fun k => if h : k < n then (h3 k h).choose else 0, fun k hk => by simp only [dif_pos hk]; exact (h3 k hk).choose_spec⟩
  obtain ⟨V, hV⟩ := hex
  have hlen : ((List.range n).map V).length = n := by rw [List.length_map, List.length_range]
  refine ⟨q, g, (List.range n).map V, rfl, hq, rfl, by rw [hlen]; exact h1, h2, by rw [hlen]; exact hn, fun k hk => ?_⟩
  rw [hlen] at hk
  have e : ((List.range n).map V).getD k 0 = V k := by
    rw [List.getD_eq_getElem?_getD, List.getElem?_map, List.getElem?_range hk]
    rfl
  rw [e]
  exact ⟨(hV k hk).2, (hV k hk).1⟩
set_option maxHeartbeats 4000000 in
set_option maxRecDepth 100000 in
theorem k_wordOf (l : Launch) {D : va_G} {T : ClassId × ClassId × ClassId} {z0 : Nat} {L : List Nat} {f : Nat → va_E} {sc Ln : Nat} {xs : Nat → Int32} (hLn : Ln ≤ 260) (hsz : ¬ zA z0 sc) {w : Nat} (hw : w < 5) : HV l yL_wordOf wsL_wordOf 2 1 12 D z0 (zPreX D T z0 L f sc Ln xs) [.ref sc, .int (nI w)] (WP T L f) := by
  refine HV.of (cc := cL_wordOf) (maxL := 4) (ret := (some (.array .int))) (by decide) rfl (Nat.le_of_ble_eq_true rfl) ?_
  intro p e s m args below meth c hC hr hlk hin hB ls hl
  have hl : lv_has ls 4 [(0, .ref sc), (1, .int (nI w))] := hl
  obtain ⟨⟨hE, hP, hD⟩, hxs⟩ := hB
  have hxs : va_X sc Ln xs s s.heap := hxs
  have hS : va_S (zA z0) s.heap s.heap [] := va_S.rf
  obtain ⟨n, hn, kn⟩ := k_belowE l (cellv xs Ln w) (n := 13) (by decide) (by decide)
  refine lv_aload_n hC.1 hC.2.1 dL_wordOf_0 rfl (lv_at hl 0 rfl) ?_
  refine lv_iload_n hC.1 hC.2.1 dL_wordOf_1 rfl (lv_at hl 1 rfl) ?_
  refine p_csG (n := 2) (k_cell l hLn (k := w) (by omega)) sX.blind (fun U hU hW => sX.pass hxs hsz hS U hU hW) hC gL_wordOf_L_cell rfl (by decide +kernel) rfl ⟨by simp only [rD]; omega, by simp only [rD]; omega⟩ ⟨by simp only [rD]; omega, by simp only [rD]; omega⟩ hl.1 (Nat.le_of_ble_eq_true rfl) dL_wordOf_2 rfl ?_
  refine lv_bipush (v := (nI 13)) hC.1 hC.2.1 dL_wordOf_5 (by decide) ?_
  refine p_cs (n := 2) (kn) hC gL_wordOf_L_below rfl (by decide +kernel) rfl ⟨by simp only [rD]; omega, by simp only [rD]; omega⟩ ⟨by simp only [rD]; omega, by simp only [rD]; omega⟩ hl.1 (Nat.le_of_ble_eq_true rfl) dL_wordOf_7 rfl ?_
  refine p_newI hC hE hP hD hS (by decide +kernel) (by omega) (by simp only [rD]; omega) (by simp only [rD]; omega) dL_wordOf_10 (fun q H hq hP hD hS => ?_)
  refine lv_astore_n (lv' := [(2, .ref q), (0, .ref sc), (1, .int (nI w))]) hC.1 hC.2.1 dL_wordOf_12 rfl hl (by decide) rfl (fun ls hl => ?_)
  refine lv_iconst (v := (nI 0)) hC.1 hC.2.1 dL_wordOf_13 (by decide) ?_
  refine lv_istore_n (lv' := [(3, .int (nI 0)), (2, .ref q), (0, .ref sc), (1, .int (nI w))]) hC.1 hC.2.1 dL_wordOf_14 rfl hl (by decide) rfl (fun ls hl => ?_)
  have loop : ∀ (r k : Nat) (gk : Nat → Int32) (f1 : Nat → va_E) (H : Heap) (locs : List Loc), k + r = n → f1 q = eI T.1 n gk → (∀ a, a ∈ L → f1 a = f a) → (∀ j, j < k → ∃ v, v < 9 ∧ gk j = nI v) → va_P D vwCl (va_pl (L ++ [q]) f1) H → va_D (zA z0) (va_pl (L ++ [q]) f1) → va_S (zA z0) s.heap H locs → ∀ ls : Array Slot, lv_has ls 4 [(0, .ref sc), (1, .int (nI w)), (2, .ref q), (3, .int (nI k))] → W p l e (rD 2 1 12) s m args below meth c H locs (0 + 1) (0 + n) (MQ below (HVQ D z0 (WP T L f)) args s 1 12 (zA z0)) (F0 m 15 ls []) := by
    intro r
    induction r with
    | zero =>
      intro k gk f1 H locs hk hq1 hq2 hq3 hP hD hS ls hl
      have hke : k = n := by omega
      refine lv_iload_n hC.1 hC.2.1 dL_wordOf_15 rfl (lv_at hl 3 rfl) ?_
      refine lv_aload_n hC.1 hC.2.1 dL_wordOf_16 rfl (lv_at hl 2 rfl) ?_
      refine p_alen hC hE hP (List.mem_append_right _ (List.mem_singleton.mpr rfl)) hq1 dL_wordOf_17 ?_
      refine z_icmp_ge (tgt := 49) hC dL_wordOf_18 (by decide) (by omega) (by omega) (fun h_18 => ?_) (fun h_18 => by omega)
      refine lv_aload_n hC.1 hC.2.1 dL_wordOf_49 rfl (lv_at hl 2 rfl) ?_
      exact HV.aret hC hr hlk hP hD hS (by omega) (by omega) dL_wordOf_50 (WP.of hq (by omega) hq1 hq2 (fun j hj => hq3 j (by omega)))
    | succ r ih =>
      intro k gk f1 H locs hk hq1 hq2 hq3 hP hD hS ls hl
      obtain ⟨v, hv, kv⟩ := k_belowE l (cellv xs Ln (5 + (w + k) % 11) >>> (nI k &&& 31)) (n := 9) (by decide) (by decide)
      refine lv_iload_n hC.1 hC.2.1 dL_wordOf_15 rfl (lv_at hl 3 rfl) ?_
      refine lv_aload_n hC.1 hC.2.1 dL_wordOf_16 rfl (lv_at hl 2 rfl) ?_
      refine p_alen hC hE hP (List.mem_append_right _ (List.mem_singleton.mpr rfl)) hq1 dL_wordOf_17 ?_
      refine z_icmp_ge (tgt := 49) hC dL_wordOf_18 (by decide) (by omega) (by omega) (fun h_18 => by omega) (fun h_18 => ?_)
      refine lv_aload_n hC.1 hC.2.1 dL_wordOf_21 rfl (lv_at hl 2 rfl) ?_
      refine lv_iload_n hC.1 hC.2.1 dL_wordOf_22 rfl (lv_at hl 3 rfl) ?_
      refine lv_aload_n hC.1 hC.2.1 dL_wordOf_23 rfl (lv_at hl 0 rfl) ?_
      refine lv_iconst (v := (nI 5)) hC.1 hC.2.1 dL_wordOf_24 (by decide) ?_
      refine lv_iload_n hC.1 hC.2.1 dL_wordOf_25 rfl (lv_at hl 1 rfl) ?_
      refine lv_iload_n hC.1 hC.2.1 dL_wordOf_26 rfl (lv_at hl 3 rfl) ?_
      refine z_iadd hC dL_wordOf_27 ?_
      refine lv_bipush (v := (nI 11)) hC.1 hC.2.1 dL_wordOf_28 (by decide) ?_
      refine z_irem hC dL_wordOf_30 (by omega) (by decide) (by decide) ?_
      refine z_iadd hC dL_wordOf_31 ?_
      refine p_csG (n := 2) (k_cell l hLn (k := 5 + (w + k) % 11) (by omega)) sX.blind (fun U hU hW => sX.pass hxs hsz hS U hU hW) hC gL_wordOf_L_cell rfl (by decide +kernel) rfl ⟨by simp only [rD]; omega, by simp only [rD]; omega⟩ ⟨by simp only [rD]; omega, by simp only [rD]; omega⟩ hl.1 (Nat.le_of_ble_eq_true rfl) dL_wordOf_32 rfl ?_
      refine lv_iload_n hC.1 hC.2.1 dL_wordOf_35 rfl (lv_at hl 3 rfl) ?_
      refine lv_ishr hC.1 hC.2.1 dL_wordOf_36 ?_
      refine lv_bipush (v := (nI 9)) hC.1 hC.2.1 dL_wordOf_37 (by decide) ?_
      refine p_cs (n := 2) (kv) hC gL_wordOf_L_below rfl (by decide +kernel) rfl ⟨by simp only [rD]; omega, by simp only [rD]; omega⟩ ⟨by simp only [rD]; omega, by simp only [rD]; omega⟩ hl.1 (Nat.le_of_ble_eq_true rfl) dL_wordOf_39 rfl ?_
      refine p_iast hC hE hP hD hS (List.mem_append_right _ (List.mem_singleton.mpr rfl)) hq1 (by omega) (by omega) dL_wordOf_42 (fun H locs hP hD hS => ?_)
      have hq1 : (va_up f1 q (eI T.1 n (upd gk k (nI v)))) q = eI T.1 n (upd gk k (nI v)) := va_up_self _ _ _
      have hq2 : ∀ a, a ∈ L → (va_up f1 q (eI T.1 n (upd gk k (nI v)))) a = f a := fun a ha => (va_up_ne _ _ (fun e : a = q => hq (e ▸ ha))).trans (hq2 a ha)
      have hq3 : ∀ j, j < k + 1 → ∃ y, y < 9 ∧ upd gk k (nI v) j = nI y := fun j hj => by
        by_cases e : j = k
        · subst e; exact ⟨v, hv, upd_s⟩
        · rw [upd_n e]; exact hq3 j (by omega)
      refine lv_iinc (v := nI (k + 1)) (lv' := [(3, .int (nI (k + 1))), (0, .ref sc), (1, .int (nI w)), (2, .ref q)]) hC.1 hC.2.1 dL_wordOf_43 hl (k := 3) rfl (z_inc _) (by decide) rfl (fun ls hl => ?_)
      refine lv_goto (tgt := 15) hC.1 hC.2.1 dL_wordOf_46 (by decide) ?_
      exact ih (k + 1) _ _ _ _ (by omega) hq1 hq2 hq3 hP hD hS ls (lv_sub hl [1, 2, 3, 0] rfl)
  exact loop n 0 _ _ _ _ (Nat.zero_add _) (va_up_self _ _ _) (fun a ha => va_up_ne _ _ (fun e : a = q => hq (e ▸ ha))) (fun j hj => absurd hj (Nat.not_lt_zero j)) hP hD hS ls (lv_sub hl [2, 3, 1, 0] rfl)

set_option maxHeartbeats 4000000 in
set_option maxRecDepth 100000 in
theorem k_sayW (l : Launch) {D : va_G} {T : ClassId × ClassId × ClassId} {z0 : Nat} {L : List Nat} {f : Nat → va_E} {hx g ln : Nat} {rw : Nat → Nat} {b : Nat → Nat} {mk : Int32} {wd : Nat → List Nat} (hX : CX T L f hx g ln rw b mk wd) {w q : Nat} (hw : w < 5) (hemp : wd w = []) {lw : List Nat} {gq : Nat → Int32} (hq : q ∈ L) (hfq : f q = eI T.1 lw.length gq) (hn1 : q ≠ hx) (hn2 : q ≠ ln) (hn3 : ∀ v, v < 5 → q ≠ rw v) (h12 : lw.length ≤ 12) (h9 : ∀ k, k < lw.length → gq k = nI (lw.getD k 0) ∧ lw.getD k 0 < 9) : HV l yL_say wsL_say 8 0 0 D z0 (zPre D T z0 L f) [.ref hx, .int (nI w), .ref q] (fun o L' f' => o = some (.int (nI 1)) ∧ L' = L ∧ CX T L f' hx g ln rw b mk (wset wd w lw)) := by
  refine HV.of (cc := cL_say) (maxL := 4) (ret := (some .boolean)) (by decide) rfl (Nat.le_of_ble_eq_true rfl) ?_
  intro p e s m args below meth c hC hr hlk hin hB ls hl
  have hl : lv_has ls 4 [(0, .ref hx), (1, .int (nI w)), (2, .ref q)] := hl
  obtain ⟨hE, hP, hD⟩ := hB
  have hS : va_S (zA z0) s.heap s.heap [] := va_S.rf
  refine lv_iconst (v := (nI 0)) hC.1 hC.2.1 dL_say_0 (by decide) ?_
  refine lv_istore_n (lv' := [(3, .int (nI 0)), (0, .ref hx), (1, .int (nI w)), (2, .ref q)]) hC.1 hC.2.1 dL_say_1 rfl hl (by decide) rfl (fun ls hl => ?_)
  have loop : ∀ (r k : Nat) (f1 : Nat → va_E) (H : Heap) (locs : List Loc), k + r = lw.length → CX T L f1 hx g ln rw b mk (wset wd w (lw.take k)) → f1 q = eI T.1 lw.length gq → va_P D vwCl (va_pl L f1) H → va_D (zA z0) (va_pl L f1) → va_S (zA z0) s.heap H locs → ∀ ls : Array Slot, lv_has ls 4 [(0, .ref hx), (1, .int (nI w)), (2, .ref q), (3, .int (nI k))] → W p l e (rD 8 0 0) s m args below meth c H locs 0 0 (MQ below (HVQ D z0 (fun o L' f' => o = some (.int (nI 1)) ∧ L' = L ∧ CX T L f' hx g ln rw b mk (wset wd w lw))) args s 0 0 (zA z0)) (F0 m 2 ls []) := by
    intro r
    induction r with
    | zero =>
      intro k f1 H locs hk hX1 hq1 hP hD hS ls hl
      have hke : k = lw.length := by omega
      refine lv_iload_n hC.1 hC.2.1 dL_say_2 rfl (lv_at hl 3 rfl) ?_
      refine lv_aload_n hC.1 hC.2.1 dL_say_3 rfl (lv_at hl 2 rfl) ?_
      refine p_alen hC hE hP hq hq1 dL_say_4 ?_
      refine z_icmp_ge (tgt := 39) hC dL_say_5 (by decide) (by omega) (by omega) (fun h_5 => ?_) (fun h_5 => by omega)
      refine lv_iconst (v := (nI 1)) hC.1 hC.2.1 dL_say_39 (by decide) ?_
      exact HV.zret hC hr hlk hP hD hS (by omega) (by omega) dL_say_40 (Or.inr rfl) (⟨rfl, rfl, by rw [hke, List.take_length] at hX1; exact hX1⟩)
    | succ r ih =>
      intro k f1 H locs hk hX1 hq1 hP hD hS ls hl
      have hkl : k < lw.length := by omega
      have ht := (h9 k hkl).2
      have hlen : (wset wd w (lw.take k) w).length = k := by rw [wset_s, List.length_take]; omega
      have hnx : wset (wset wd w (lw.take k)) w (wset wd w (lw.take k) w ++ [3 * (lw.getD k 0 / 3) + (lw.getD k 0 % 3 + 1) - 1]) = wset wd w (lw.take (k + 1)) := by rw [wset_w, wset_s, show 3 * (lw.getD k 0 / 3) + (lw.getD k 0 % 3 + 1) - 1 = lw.getD k 0 from by omega, take_s hkl]
      refine lv_iload_n hC.1 hC.2.1 dL_say_2 rfl (lv_at hl 3 rfl) ?_
      refine lv_aload_n hC.1 hC.2.1 dL_say_3 rfl (lv_at hl 2 rfl) ?_
      refine p_alen hC hE hP hq hq1 dL_say_4 ?_
      refine z_icmp_ge (tgt := 39) hC dL_say_5 (by decide) (by omega) (by omega) (fun h_5 => by omega) (fun h_5 => ?_)
      refine lv_aload_n hC.1 hC.2.1 dL_say_8 rfl (lv_at hl 0 rfl) ?_
      refine lv_iload_n hC.1 hC.2.1 dL_say_9 rfl (lv_at hl 1 rfl) ?_
      refine lv_aload_n hC.1 hC.2.1 dL_say_10 rfl (lv_at hl 2 rfl) ?_
      refine lv_iload_n hC.1 hC.2.1 dL_say_11 rfl (lv_at hl 3 rfl) ?_
      refine p_iald hC hE hP hq hq1 (by omega) (by omega) dL_say_12 ?_
      refine q_i (nI (lw.getD k 0)) ((h9 k (by omega)).1) ?_
      refine lv_iconst (v := (nI 3)) hC.1 hC.2.1 dL_say_13 (by decide) ?_
      refine z_idiv hC dL_say_14 (by omega) (by decide) (by decide) ?_
      refine lv_aload_n hC.1 hC.2.1 dL_say_15 rfl (lv_at hl 2 rfl) ?_
      refine lv_iload_n hC.1 hC.2.1 dL_say_16 rfl (lv_at hl 3 rfl) ?_
      refine p_iald hC hE hP hq hq1 (by omega) (by omega) dL_say_17 ?_
      refine q_i (nI (lw.getD k 0)) ((h9 k (by omega)).1) ?_
      refine lv_iconst (v := (nI 3)) hC.1 hC.2.1 dL_say_18 (by decide) ?_
      refine z_irem hC dL_say_19 (by omega) (by decide) (by decide) ?_
      refine lv_iconst (v := (nI 1)) hC.1 hC.2.1 dL_say_20 (by decide) ?_
      refine z_iadd hC dL_say_21 ?_
      refine p_cvH (n := 3) (k_say l hX1 (w := w) (fc := lw.getD k 0 / 3) (q := lw.getD k 0 % 3 + 1) hw (by omega) (by omega) (by omega) (by rw [hlen]; omega)) hC hE hP hD hS (hX1.1.1) (hX1.1.2) rfl gL_say_X0_say rfl (by decide +kernel) rfl ⟨by decide, by decide⟩ ⟨Nat.zero_le _, Nat.zero_le _⟩ hl.1 (Nat.le_of_ble_eq_true rfl) dL_say_22 rfl (fun o L2 f2 H locs hpost hP hD hS => ?_)
      obtain ⟨rfl, hLe, hX2, hFR⟩ := hpost
      rw [hLe] at hP hD
      rw [hnx] at hX2
      have hq1 := (hFR q hn1 hn2 hn3).trans hq1
      refine q_i (nI (k + 1)) (congrArg nI (congrArg (· + 1) hlen)) ?_
      refine lv_iload_n hC.1 hC.2.1 dL_say_25 rfl (lv_at hl 3 rfl) ?_
      refine lv_iconst (v := (nI 1)) hC.1 hC.2.1 dL_say_26 (by decide) ?_
      refine z_iadd hC dL_say_27 ?_
      refine z_icmp_eq (tgt := 33) hC dL_say_28 (by decide) (by omega) (by omega) (fun h_28 => ?_) (fun h_28 => by omega)
      refine lv_iinc (v := nI (k + 1)) (lv' := [(3, .int (nI (k + 1))), (0, .ref hx), (1, .int (nI w)), (2, .ref q)]) hC.1 hC.2.1 dL_say_33 hl (k := 3) rfl (z_inc _) (by decide) rfl (fun ls hl => ?_)
      refine lv_goto (tgt := 2) hC.1 hC.2.1 dL_say_36 (by decide) ?_
      exact ih (k + 1) _ _ _ (by omega) hX2 hq1 hP hD hS ls (lv_sub hl [1, 2, 3, 0] rfl)
  exact loop lw.length 0 _ _ _ (Nat.zero_add _) (by rw [List.take_zero, wset_i hemp]; exact hX) hfq hP hD hS ls (lv_sub hl [1, 2, 3, 0] rfl)
end
section
/-! MY ROWS 32: the law's cases, and what it holds after each (laid by a program of mine) -/
/-- the law goes on at pc, from any state of the class in which corners and twists are as they must be -/
def LGO (p : Program) (l : Launch) (e : Env) (s : State) (m : MethodId) (args : Array Value) (below : List Frame) (meth : Method) (c : Code) (Q : State → Prop) (D : va_G) (T : ClassId × ClassId × ClassId) (z0 : Nat) (hx g ln : Nat) (rw : Nat → Nat) (sc i pc : Nat) : Prop :=
  ∀ (L : List Nat) (f : Nat → va_E) (H : Heap) (locs : List Loc) (b : Nat → Nat) (mk : Int32) (wd : Nat → List Nat) (ls : Array Slot), CX T L f hx g ln rw b mk wd → PM b → TW b → va_P D vwCl (va_pl L f) H → va_D (zA z0) (va_pl L f) → va_S (zA z0) s.heap H locs → lv_has ls 16 [(0, .ref sc), (1, .ref hx), (2, .int (nI i))] → W p l e room_1 s m args below meth c H locs 13 134 Q (F0 m pc ls [])
theorem sh1 : ∀ c, c < 8 → nI 1 <<< (nI c &&& 31) = nI (2 ^ c) := by decide +kernel
theorem or_nI (a b : Nat) : nI a ||| nI b = nI (a ||| b) := by
  apply i32_ext
  intro j hj
  rw [Int32.toBitVec_or, BitVec.getLsbD_or, nI_bit _ _ hj, nI_bit _ _ hj, nI_bit _ _ hj, Nat.testBit_or]
theorem PM.ord {b : Nat → Nat} (h : PM b) : ordN b < 1000 := h.gb2.2.2.2.2
set_option maxHeartbeats 4000000 in
set_option maxRecDepth 100000 in
theorem t_tail {p : Program} {l : Launch} {e : Env} {s : State} {m : MethodId} {args : Array Value} {below : List Frame} {meth : Method} {c : Code} {Q : State → Prop} {D : va_G} {T : ClassId × ClassId × ClassId} {z0 : Nat} {hx g ln : Nat} {rw : Nat → Nat} {sc i : Nat} (hC : CallFix p m c cL_law 16 s args wsL_law RL) (hE : zE D T z0 s) (kk : LGO p l e s m args below meth c Q D T z0 hx g ln rw sc i 641) : LGO p l e s m args below meth c Q D T z0 hx g ln rw sc i 484 := by
  intro L f H locs b mk wd ls hX hPM hTW hP hD hS hl
  have hv := hPM.1
  have hOb := hPM.ord
  refine lv_iconst (v := (nI 0)) hC.1 hC.2.1 dL_law_484 (by decide) ?_
  refine lv_istore (lv' := [(12, .int (nI 0)), (0, .ref sc), (1, .ref hx), (2, .int (nI i))]) hC.1 hC.2.1 dL_law_485 hl (by decide) rfl (fun ls hl => ?_)
  refine lv_iconst (v := (nI 0)) hC.1 hC.2.1 dL_law_487 (by decide) ?_
  refine lv_istore (lv' := [(13, .int (nI 0)), (12, .int (nI 0)), (0, .ref sc), (1, .ref hx), (2, .int (nI i))]) hC.1 hC.2.1 dL_law_488 hl (by decide) rfl (fun ls hl => ?_)
  refine lv_iconst (v := (nI 0)) hC.1 hC.2.1 dL_law_490 (by decide) ?_
  refine lv_istore (lv' := [(14, .int (nI 0)), (13, .int (nI 0)), (12, .int (nI 0)), (0, .ref sc), (1, .ref hx), (2, .int (nI i))]) hC.1 hC.2.1 dL_law_491 hl (by decide) rfl (fun ls hl => ?_)
  refine lv_iconst (v := (nI 0)) hC.1 hC.2.1 dL_law_493 (by decide) ?_
  refine lv_istore (lv' := [(15, .int (nI 0)), (14, .int (nI 0)), (13, .int (nI 0)), (12, .int (nI 0)), (0, .ref sc), (1, .ref hx), (2, .int (nI i))]) hC.1 hC.2.1 dL_law_494 hl (by decide) rfl (fun ls hl => ?_)
  have loop : ∀ (r k : Nat), k + r = 8 → ∀ ls : Array Slot, lv_has ls 16 [(15, .int (nI k)), (14, .int (nI (ct (fun i => decide (b i = i)) k))), (13, .int (nI (tsm b k))), (12, .int (nI (orF b k))), (0, .ref sc), (1, .ref hx), (2, .int (nI i))] → W p l e room_1 s m args below meth c H locs 13 134 Q (F0 m 496 ls []) := by
    intro r
    induction r with
    | zero =>
      intro k hk ls hl
      obtain rfl : k = 8 := by omega
      have hl : lv_has ls 16 [(15, .int (nI 8)), (14, .int (nI (nRt b))), (13, .int (nI (tsm b 8))), (12, .int (nI (orF b 8))), (0, .ref sc), (1, .ref hx), (2, .int (nI i))] := hl
      have h24 := tsm_lt hv 8 (Nat.le_refl 8)
      have h8 := nRt_le b
      have h255 := orF_8 hPM
      refine lv_iload hC.1 hC.2.1 dL_law_496 (lv_at hl 0 rfl) ?_
      refine lv_bipush (v := (nI 8)) hC.1 hC.2.1 dL_law_498 (by decide) ?_
      refine z_icmp_ge (tgt := 565) hC dL_law_500 (by decide) (by omega) (by omega) (fun h_500 => ?_) (fun h_500 => by omega)
      refine lv_iload hC.1 hC.2.1 dL_law_565 (lv_at hl 3 rfl) ?_
      refine lv_sipush (v := (nI 255)) hC.1 hC.2.1 dL_law_567 (by decide) ?_
      refine z_icmp_ne (tgt := 639) hC dL_law_570 (by decide) (by omega) (by omega) (fun h_570 => absurd h255 h_570) (fun h_570 => ?_)
      refine lv_iload hC.1 hC.2.1 dL_law_573 (lv_at hl 2 rfl) ?_
      refine lv_iconst (v := (nI 3)) hC.1 hC.2.1 dL_law_575 (by decide) ?_
      refine z_irem hC dL_law_576 (by omega) (by decide) (by decide) ?_
      refine z_if_ne (tgt := 639) hC dL_law_577 (by decide) (by omega) (fun h_577 => absurd hTW h_577) (fun h_577 => ?_)
      refine lv_iload hC.1 hC.2.1 dL_law_580 (lv_at hl 1 rfl) ?_
      refine lv_aload_n hC.1 hC.2.1 dL_law_582 rfl (lv_at hl 5 rfl) ?_
      refine lv_iconst (v := (nI 1)) hC.1 hC.2.1 dL_law_583 (by decide) ?_
      refine p_cvB (n := 1) (k_count l hX hOb (what := 1) (by decide)) hC hE hP hD hS (hX.1.1) (hX.1.2) rfl gL_law_X0_count rfl (by decide +kernel) rfl ⟨by decide, by decide⟩ ⟨by show _ ≤ 600130; omega, by show _ ≤ 7301080; omega⟩ hl.1 (Nat.le_of_ble_eq_true rfl) dL_law_584 rfl ?_
      refine z_icmp_ne (tgt := 639) hC dL_law_587 (by decide) (Nat.lt_of_le_of_lt (ct_le _ 8) (by decide)) (Nat.lt_of_le_of_lt (ct_le _ 8) (by decide)) (fun h_587 => absurd rfl h_587) (fun h_587 => ?_)
      refine lv_aload_n hC.1 hC.2.1 dL_law_590 rfl (lv_at hl 5 rfl) ?_
      refine lv_iconst (v := (nI 2)) hC.1 hC.2.1 dL_law_591 (by decide) ?_
      refine p_cvB (n := 1) (k_count l hX hOb (what := 2) (by decide)) hC hE hP hD hS (hX.1.1) (hX.1.2) rfl gL_law_X0_count rfl (by decide +kernel) rfl ⟨by decide, by decide⟩ ⟨by show _ ≤ 600130; omega, by show _ ≤ 7301080; omega⟩ hl.1 (Nat.le_of_ble_eq_true rfl) dL_law_592 rfl ?_
      refine lv_iload hC.1 hC.2.1 dL_law_595 (lv_at hl 1 rfl) ?_
      refine z_icmp_lt (tgt := 639) hC dL_law_597 (by decide) (Nat.lt_of_le_of_lt (ct_le _ 8) (by decide)) (Nat.lt_of_le_of_lt (ct_le _ 8) (by decide)) (fun h_597 => absurd (nPl_ge b) (Nat.not_le.mpr h_597)) (fun h_597 => ?_)
      refine lv_aload_n hC.1 hC.2.1 dL_law_600 rfl (lv_at hl 5 rfl) ?_
      refine lv_iconst (v := (nI 3)) hC.1 hC.2.1 dL_law_601 (by decide) ?_
      refine p_cvB (n := 1) (k_count l hX hOb (what := 3) (by decide)) hC hE hP hD hS (hX.1.1) (hX.1.2) rfl gL_law_X0_count rfl (by decide +kernel) rfl ⟨by decide, by decide⟩ ⟨by show _ ≤ 600130; omega, by show _ ≤ 7301080; omega⟩ hl.1 (Nat.le_of_ble_eq_true rfl) dL_law_602 rfl ?_
      refine lv_iload hC.1 hC.2.1 dL_law_605 (lv_at hl 1 rfl) ?_
      refine z_icmp_lt (tgt := 639) hC dL_law_607 (by decide) (Nat.lt_of_le_of_lt (ct_le _ 8) (by decide)) (Nat.lt_of_le_of_lt (ct_le _ 8) (by decide)) (fun h_607 => absurd (nUt_ge b) (Nat.not_le.mpr h_607)) (fun h_607 => ?_)
      refine lv_aload_n hC.1 hC.2.1 dL_law_610 rfl (lv_at hl 5 rfl) ?_
      refine lv_iconst (v := (nI 5)) hC.1 hC.2.1 dL_law_611 (by decide) ?_
      refine p_cvB (n := 1) (k_count l hX hOb (what := 5) (by decide)) hC hE hP hD hS (hX.1.1) (hX.1.2) rfl gL_law_X0_count rfl (by decide +kernel) rfl ⟨by decide, by decide⟩ ⟨by show _ ≤ 600130; omega, by show _ ≤ 7301080; omega⟩ hl.1 (Nat.le_of_ble_eq_true rfl) dL_law_612 rfl ?_
      refine lv_iconst (v := (nI 1)) hC.1 hC.2.1 dL_law_615 (by decide) ?_
      refine z_icmp_ne (tgt := 623) hC dL_law_616 (by decide) (by omega) (by omega) (fun h_616 => ?_) (fun h_616 => ?_)
      · refine lv_iconst (v := (nI 0)) hC.1 hC.2.1 dL_law_623 (by decide) ?_
        refine lv_iload hC.1 hC.2.1 dL_law_624 (lv_at hl 1 rfl) ?_
        refine lv_bipush (v := (nI 8)) hC.1 hC.2.1 dL_law_626 (by decide) ?_
        refine z_icmp_ne (tgt := 635) hC dL_law_628 (by decide) (by omega) (by omega) (fun h_628 => ?_) (fun h_628 => absurd ((ordN_0 hv).mpr h_628) h_616)
        refine lv_iconst (v := (nI 0)) hC.1 hC.2.1 dL_law_635 (by decide) ?_
        refine z_icmp_eq (tgt := 641) hC dL_law_636 (by decide) (by decide) (by decide) (fun h_636 => ?_) (fun h_636 => absurd rfl h_636)
        exact kk _ _ _ _ _ _ _ _ hX hPM hTW hP hD hS (lv_sub hl [4, 5, 6] rfl)
      · refine lv_iconst (v := (nI 1)) hC.1 hC.2.1 dL_law_619 (by decide) ?_
        refine lv_goto (tgt := 624) hC.1 hC.2.1 dL_law_620 (by decide) ?_
        refine lv_iload hC.1 hC.2.1 dL_law_624 (lv_at hl 1 rfl) ?_
        refine lv_bipush (v := (nI 8)) hC.1 hC.2.1 dL_law_626 (by decide) ?_
        refine z_icmp_ne (tgt := 635) hC dL_law_628 (by decide) (by omega) (by omega) (fun h_628 => absurd ((ordN_0 hv).mp h_616) h_628) (fun h_628 => ?_)
        refine lv_iconst (v := (nI 1)) hC.1 hC.2.1 dL_law_631 (by decide) ?_
        refine lv_goto (tgt := 636) hC.1 hC.2.1 dL_law_632 (by decide) ?_
        refine z_icmp_eq (tgt := 641) hC dL_law_636 (by decide) (by decide) (by decide) (fun h_636 => ?_) (fun h_636 => absurd rfl h_636)
        exact kk _ _ _ _ _ _ _ _ hX hPM hTW hP hD hS (lv_sub hl [4, 5, 6] rfl)
    | succ r ih =>
      intro k hk ls hl
      have hk8 : k < 8 := by omega
      refine lv_iload hC.1 hC.2.1 dL_law_496 (lv_at hl 0 rfl) ?_
      refine lv_bipush (v := (nI 8)) hC.1 hC.2.1 dL_law_498 (by decide) ?_
      refine z_icmp_ge (tgt := 565) hC dL_law_500 (by decide) (by omega) (by omega) (fun h_500 => by omega) (fun h_500 => ?_)
      refine lv_iload hC.1 hC.2.1 dL_law_503 (lv_at hl 3 rfl) ?_
      refine lv_iconst (v := (nI 1)) hC.1 hC.2.1 dL_law_505 (by decide) ?_
      refine lv_aload_n hC.1 hC.2.1 dL_law_506 rfl (lv_at hl 5 rfl) ?_
      refine lv_iload hC.1 hC.2.1 dL_law_507 (lv_at hl 0 rfl) ?_
      refine lv_iconst (v := (nI 0)) hC.1 hC.2.1 dL_law_509 (by decide) ?_
      refine p_cvB (n := 2) (k_told l hX (q := k) (what := 0) hk8 (by decide)) hC hE hP hD hS (hX.1.1) (hX.1.2) rfl gL_law_X0_told rfl (by decide +kernel) rfl ⟨by decide, by decide⟩ ⟨by show _ ≤ 600130; omega, by show _ ≤ 7301080; omega⟩ hl.1 (Nat.le_of_ble_eq_true rfl) dL_law_510 rfl ?_
      refine q_i (nI (b k % 8)) (rfl) ?_
      refine lv_ishl hC.1 hC.2.1 dL_law_513 ?_
      refine q_i (nI (2 ^ (b k % 8))) (sh1 _ (Nat.mod_lt _ (by decide))) ?_
      refine lv_ior hC.1 hC.2.1 dL_law_514 ?_
      refine q_i (nI (orF b (k + 1))) (or_nI _ _) ?_
      refine lv_istore (lv' := [(12, .int (nI (orF b (k + 1)))), (15, .int (nI k)), (14, .int (nI (ct (fun i => decide (b i = i)) k))), (13, .int (nI (tsm b k))), (0, .ref sc), (1, .ref hx), (2, .int (nI i))]) hC.1 hC.2.1 dL_law_515 hl (by decide) rfl (fun ls hl => ?_)
      refine lv_iload hC.1 hC.2.1 dL_law_517 (lv_at hl 3 rfl) ?_
      refine lv_aload_n hC.1 hC.2.1 dL_law_519 rfl (lv_at hl 5 rfl) ?_
      refine lv_iload hC.1 hC.2.1 dL_law_520 (lv_at hl 1 rfl) ?_
      refine lv_iconst (v := (nI 1)) hC.1 hC.2.1 dL_law_522 (by decide) ?_
      refine p_cvB (n := 2) (k_told l hX (q := k) (what := 1) hk8 (by decide)) hC hE hP hD hS (hX.1.1) (hX.1.2) rfl gL_law_X0_told rfl (by decide +kernel) rfl ⟨by decide, by decide⟩ ⟨by show _ ≤ 600130; omega, by show _ ≤ 7301080; omega⟩ hl.1 (Nat.le_of_ble_eq_true rfl) dL_law_523 rfl ?_
      refine q_i (nI (b k / 8)) (rfl) ?_
      refine z_iadd hC dL_law_526 ?_
      refine q_i (nI (tsm b (k + 1))) (rfl) ?_
      refine lv_istore (lv' := [(13, .int (nI (tsm b (k + 1)))), (12, .int (nI (orF b (k + 1)))), (15, .int (nI k)), (14, .int (nI (ct (fun i => decide (b i = i)) k))), (0, .ref sc), (1, .ref hx), (2, .int (nI i))]) hC.1 hC.2.1 dL_law_527 hl (by decide) rfl (fun ls hl => ?_)
      refine lv_iload hC.1 hC.2.1 dL_law_529 (lv_at hl 3 rfl) ?_
      refine lv_aload_n hC.1 hC.2.1 dL_law_531 rfl (lv_at hl 5 rfl) ?_
      refine lv_iload hC.1 hC.2.1 dL_law_532 (lv_at hl 2 rfl) ?_
      refine lv_iconst (v := (nI 2)) hC.1 hC.2.1 dL_law_534 (by decide) ?_
      refine p_cvB (n := 2) (k_told l hX (q := k) (what := 2) hk8 (by decide)) hC hE hP hD hS (hX.1.1) (hX.1.2) rfl gL_law_X0_told rfl (by decide +kernel) rfl ⟨by decide, by decide⟩ ⟨by show _ ≤ 600130; omega, by show _ ≤ 7301080; omega⟩ hl.1 (Nat.le_of_ble_eq_true rfl) dL_law_535 rfl ?_
      refine z_iadd hC dL_law_538 ?_
      refine q_i (nI (ct (fun i => decide (b i = i)) (k + 1))) (congrArg nI (ct_tV b k)) ?_
      refine lv_istore (lv' := [(14, .int (nI (ct (fun i => decide (b i = i)) (k + 1)))), (13, .int (nI (tsm b (k + 1)))), (12, .int (nI (orF b (k + 1)))), (15, .int (nI k)), (0, .ref sc), (1, .ref hx), (2, .int (nI i))]) hC.1 hC.2.1 dL_law_539 hl (by decide) rfl (fun ls hl => ?_)
      refine lv_aload_n hC.1 hC.2.1 dL_law_541 rfl (lv_at hl 5 rfl) ?_
      refine lv_aload_n hC.1 hC.2.1 dL_law_542 rfl (lv_at hl 5 rfl) ?_
      refine lv_iload hC.1 hC.2.1 dL_law_543 (lv_at hl 3 rfl) ?_
      refine lv_iconst (v := (nI 0)) hC.1 hC.2.1 dL_law_545 (by decide) ?_
      refine p_cvB (n := 2) (k_told l hX (q := k) (what := 0) hk8 (by decide)) hC hE hP hD hS (hX.1.1) (hX.1.2) rfl gL_law_X0_told rfl (by decide +kernel) rfl ⟨by decide, by decide⟩ ⟨by show _ ≤ 600130; omega, by show _ ≤ 7301080; omega⟩ hl.1 (Nat.le_of_ble_eq_true rfl) dL_law_546 rfl ?_
      refine q_i (nI (b k % 8)) (rfl) ?_
      refine p_cvB (n := 1) (k_where l hX (v := b k % 8) (F := k) (Nat.mod_lt _ (by decide)) (by omega) (fun j hj q => absurd (hPM.2.1 j k (by omega) hk8 q) (by omega)) (Or.inr rfl)) hC hE hP hD hS (hX.1.1) (hX.1.2) rfl gL_law_X0_where rfl (by decide +kernel) rfl ⟨by decide, by decide⟩ ⟨by show _ ≤ 600130; omega, by show _ ≤ 7301080; omega⟩ hl.1 (Nat.le_of_ble_eq_true rfl) dL_law_549 rfl ?_
      refine lv_iload hC.1 hC.2.1 dL_law_552 (lv_at hl 3 rfl) ?_
      refine z_icmp_eq (tgt := 559) hC dL_law_554 (by decide) (by omega) (by omega) (fun h_554 => ?_) (fun h_554 => by omega)
      refine lv_iinc (v := nI (k + 1)) (lv' := [(15, .int (nI (k + 1))), (14, .int (nI (ct (fun i => decide (b i = i)) (k + 1)))), (13, .int (nI (tsm b (k + 1)))), (12, .int (nI (orF b (k + 1)))), (0, .ref sc), (1, .ref hx), (2, .int (nI i))]) hC.1 hC.2.1 dL_law_559 hl (k := 3) rfl (z_inc _) (by decide) rfl (fun ls hl => ?_)
      refine lv_goto (tgt := 496) hC.1 hC.2.1 dL_law_562 (by decide) ?_
      exact ih (k + 1) (by omega) ls (lv_sub hl [0, 1, 2, 3, 4, 5, 6] rfl)
  exact loop 8 0 (by decide) ls (lv_sub hl [0, 1, 2, 3, 4, 5, 6] rfl)

set_option maxHeartbeats 4000000 in
set_option maxRecDepth 100000 in
theorem c_play {p : Program} {l : Launch} {e : Env} {s : State} {m : MethodId} {args : Array Value} {below : List Frame} {meth : Method} {c : Code} {Q : State → Prop} {D : va_G} {T : ClassId × ClassId × ClassId} {z0 : Nat} {hx g ln : Nat} {rw : Nat → Nat} {sc i : Nat} (hC : CallFix p m c cL_law 16 s args wsL_law RL) (hE : zE D T z0 s) (kk : LGO p l e s m args below meth c Q D T z0 hx g ln rw sc i 484) {x : Int32} {a b2 wl av : Nat} (ha : a < 5) (hb : b2 < 5) {L : List Nat} {f : Nat → va_E} {H : Heap} {locs : List Loc} {b : Nat → Nat} {mk : Int32} {wd : Nat → List Nat} {ls : Array Slot} (hX : CX T L f hx g ln rw b mk wd) (hPM : PM b) (hTW : TW b) (hP : va_P D vwCl (va_pl L f) H) (hD : va_D (zA z0) (va_pl L f)) (hS : va_S (zA z0) s.heap H locs) (hl : lv_has ls 16 [(0, .ref sc), (1, .ref hx), (2, .int (nI i)), (3, .int x), (4, .int (nI a)), (5, .int (nI b2)), (8, .int (nI wl)), (9, .int (nI av))]) : W p l e room_1 s m args below meth c H locs 13 134 Q (F0 m 224 ls []) := by
  have h12 := (hX.2.2.2.2.2.2 a ha).1
  obtain ⟨ts, hts, kt⟩ := k_belowE l (x >>> (nI 3 &&& 31)) (n := 9) (by decide) (by decide)
  refine lv_aload_n hC.1 hC.2.1 dL_law_224 rfl (lv_at hl 1 rfl) ?_
  refine lv_iload hC.1 hC.2.1 dL_law_225 (lv_at hl 4 rfl) ?_
  refine lv_iconst (v := (nI 0)) hC.1 hC.2.1 dL_law_227 (by decide) ?_
  refine p_cvB (n := 2) (k_word l hX (what := 0) ha (PM.deed _).ord (by decide)) hC hE hP hD hS (hX.1.1) (hX.1.2) rfl gL_law_X0_word rfl (by decide +kernel) rfl ⟨by decide, by decide⟩ ⟨by show _ ≤ 600130; omega, by show _ ≤ 7301080; omega⟩ hl.1 (Nat.le_of_ble_eq_true rfl) dL_law_228 rfl ?_
  refine q_i (nI (wd a).length) (rfl) ?_
  refine z_if_ne (tgt := 237) hC dL_law_231 (by decide) (by omega) (fun h_231 => ?_) (fun h_231 => ?_)
  · refine lv_aload_n hC.1 hC.2.1 dL_law_237 rfl (lv_at hl 1 rfl) ?_
    refine lv_iload hC.1 hC.2.1 dL_law_238 (lv_at hl 4 rfl) ?_
    refine lv_iconst (v := (nI 1)) hC.1 hC.2.1 dL_law_240 (by decide) ?_
    refine lv_iload_n hC.1 hC.2.1 dL_law_241 rfl (lv_at hl 3 rfl) ?_
    refine lv_iconst (v := (nI 3)) hC.1 hC.2.1 dL_law_242 (by decide) ?_
    refine lv_ishr hC.1 hC.2.1 dL_law_243 ?_
    refine lv_bipush (v := (nI 9)) hC.1 hC.2.1 dL_law_244 (by decide) ?_
    refine p_cs (n := 2) (kt) hC gL_law_L_below rfl (by decide +kernel) rfl ⟨by decide, by decide⟩ ⟨by show _ ≤ 600130; omega, by show _ ≤ 7301080; omega⟩ hl.1 (Nat.le_of_ble_eq_true rfl) dL_law_246 rfl ?_
    refine z_iadd hC dL_law_249 ?_
    refine p_cvH (n := 2) (k_play l hX (w := a) (ts := 1 + ts) ha (by omega) (by omega) (by omega)) hC hE hP hD hS (hX.1.1) (hX.1.2) rfl gL_law_X0_play rfl (by decide +kernel) rfl ⟨by decide, by decide⟩ ⟨by show _ ≤ 600130; omega, by show _ ≤ 7301080; omega⟩ hl.1 (Nat.le_of_ble_eq_true rfl) dL_law_250 rfl (fun o2 L2 f2 H locs hpost hP hD hS => ?_)
    obtain ⟨rfl, hLe2, hX2, -⟩ := hpost
    rw [hLe2] at hP hD
    refine lv_aload_n hC.1 hC.2.1 dL_law_253 rfl (lv_at hl 1 rfl) ?_
    refine lv_iconst (v := (nI 1)) hC.1 hC.2.1 dL_law_254 (by decide) ?_
    refine p_cvB (n := 1) (k_count l hX2 (hPM.plN _ _).ord (what := 1) (by decide)) hC hE hP hD hS (hX2.1.1) (hX2.1.2) rfl gL_law_X0_count rfl (by decide +kernel) rfl ⟨by decide, by decide⟩ ⟨by show _ ≤ 600130; omega, by show _ ≤ 7301080; omega⟩ hl.1 (Nat.le_of_ble_eq_true rfl) dL_law_255 rfl ?_
    refine z_icmp_eq (tgt := 484) hC dL_law_258 (by decide) (nRt_lt _) (nRt_lt _) (fun h_258 => ?_) (fun h_258 => absurd rfl h_258)
    exact kk _ _ _ _ _ _ _ _ hX2 (hPM.plN _ _) (hTW.plN _ _) hP hD hS (lv_sub hl [0, 1, 2] rfl)
  · refine lv_goto (tgt := 484) hC.1 hC.2.1 dL_law_234 (by decide) ?_
    exact kk _ _ _ _ _ _ _ _ hX hPM hTW hP hD hS (lv_sub hl [0, 1, 2] rfl)

set_option maxHeartbeats 4000000 in
set_option maxRecDepth 100000 in
theorem c_turn {p : Program} {l : Launch} {e : Env} {s : State} {m : MethodId} {args : Array Value} {below : List Frame} {meth : Method} {c : Code} {Q : State → Prop} {D : va_G} {T : ClassId × ClassId × ClassId} {z0 : Nat} {hx g ln : Nat} {rw : Nat → Nat} {sc i : Nat} (hC : CallFix p m c cL_law 16 s args wsL_law RL) (hE : zE D T z0 s) (kk : LGO p l e s m args below meth c Q D T z0 hx g ln rw sc i 484) {x : Int32} {a b2 wl av : Nat} (ha : a < 5) (hb : b2 < 5) {L : List Nat} {f : Nat → va_E} {H : Heap} {locs : List Loc} {b : Nat → Nat} {mk : Int32} {wd : Nat → List Nat} {ls : Array Slot} (hX : CX T L f hx g ln rw b mk wd) (hPM : PM b) (hTW : TW b) (hP : va_P D vwCl (va_pl L f) H) (hD : va_D (zA z0) (va_pl L f)) (hS : va_S (zA z0) s.heap H locs) (hl : lv_has ls 16 [(0, .ref sc), (1, .ref hx), (2, .int (nI i)), (3, .int x), (4, .int (nI a)), (5, .int (nI b2)), (8, .int (nI wl)), (9, .int (nI av))]) (hav : av < 9) (hwl : wl ≤ nRt (turnC b av)) : W p l e room_1 s m args below meth c H locs 13 134 Q (F0 m 263 ls []) := by
  have h8 := nRt_le (turnC b av)
  have e9 : 3 * (av / 3) + (av % 3 + 1) - 1 = av := by omega
  refine lv_aload_n hC.1 hC.2.1 dL_law_263 rfl (lv_at hl 1 rfl) ?_
  refine lv_iload hC.1 hC.2.1 dL_law_264 (lv_at hl 7 rfl) ?_
  refine lv_iconst (v := (nI 3)) hC.1 hC.2.1 dL_law_266 (by decide) ?_
  refine z_idiv hC dL_law_267 (by omega) (by decide) (by decide) ?_
  refine lv_iload hC.1 hC.2.1 dL_law_268 (lv_at hl 7 rfl) ?_
  refine lv_iconst (v := (nI 3)) hC.1 hC.2.1 dL_law_270 (by decide) ?_
  refine z_irem hC dL_law_271 (by omega) (by decide) (by decide) ?_
  refine lv_iconst (v := (nI 1)) hC.1 hC.2.1 dL_law_272 (by decide) ?_
  refine z_iadd hC dL_law_273 ?_
  refine p_cvH (n := 2) (k_turn l hX (fc := av / 3) (q := av % 3 + 1) (by omega) (by omega) (by omega)) hC hE hP hD hS (hX.1.1) (hX.1.2) rfl gL_law_X0_turn rfl (by decide +kernel) rfl ⟨by decide, by decide⟩ ⟨by show _ ≤ 600130; omega, by show _ ≤ 7301080; omega⟩ hl.1 (Nat.le_of_ble_eq_true rfl) dL_law_274 rfl (fun o2 L2 f2 H locs hpost hP hD hS => ?_)
  obtain ⟨rfl, hLe2, hX2, -⟩ := hpost
  rw [hLe2] at hP hD
  rw [e9] at hX2
  refine q_i (nI (nRt (turnC b av))) (by rw [e9]) ?_
  refine lv_iload hC.1 hC.2.1 dL_law_277 (lv_at hl 6 rfl) ?_
  refine z_icmp_ge (tgt := 484) hC dL_law_279 (by decide) (by omega) (by omega) (fun h_279 => ?_) (fun h_279 => by omega)
  exact kk _ _ _ _ _ _ _ _ hX2 (hPM.turnC _) (hTW.turnC _) hP hD hS (lv_sub hl [0, 1, 2] rfl)

set_option maxHeartbeats 4000000 in
set_option maxRecDepth 100000 in
theorem c_round {p : Program} {l : Launch} {e : Env} {s : State} {m : MethodId} {args : Array Value} {below : List Frame} {meth : Method} {c : Code} {Q : State → Prop} {D : va_G} {T : ClassId × ClassId × ClassId} {z0 : Nat} {hx g ln : Nat} {rw : Nat → Nat} {sc i : Nat} (hC : CallFix p m c cL_law 16 s args wsL_law RL) (hE : zE D T z0 s) (kk : LGO p l e s m args below meth c Q D T z0 hx g ln rw sc i 484) {x : Int32} {a b2 wl av : Nat} (ha : a < 5) (hb : b2 < 5) {L : List Nat} {f : Nat → va_E} {H : Heap} {locs : List Loc} {b : Nat → Nat} {mk : Int32} {wd : Nat → List Nat} {ls : Array Slot} (hX : CX T L f hx g ln rw b mk wd) (hPM : PM b) (hTW : TW b) (hP : va_P D vwCl (va_pl L f) H) (hD : va_D (zA z0) (va_pl L f)) (hS : va_S (zA z0) s.heap H locs) (hl : lv_has ls 16 [(0, .ref sc), (1, .ref hx), (2, .int (nI i)), (3, .int x), (4, .int (nI a)), (5, .int (nI b2)), (8, .int (nI wl)), (9, .int (nI av))]) : W p l e room_1 s m args below meth c H locs 13 134 Q (F0 m 450 ls []) := by
  have h12 := (hX.2.2.2.2.2.2 a ha).1
  refine lv_aload_n hC.1 hC.2.1 dL_law_450 rfl (lv_at hl 1 rfl) ?_
  refine lv_iload hC.1 hC.2.1 dL_law_451 (lv_at hl 4 rfl) ?_
  refine p_cvH (n := 1) (k_round l hX (w := a) ha) hC hE hP hD hS (hX.1.1) (hX.1.2) rfl gL_law_X0_round rfl (by decide +kernel) rfl ⟨by decide, by decide⟩ ⟨by show _ ≤ 600130; omega, by show _ ≤ 7301080; omega⟩ hl.1 (Nat.le_of_ble_eq_true rfl) dL_law_453 rfl (fun o2 L2 f2 H locs hpost hP hD hS => ?_)
  obtain ⟨rfl, hLe2, hX2, -⟩ := hpost
  rw [hLe2] at hP hD
  have hla : (wset wd a ((wd a).reverse.map tb) a).length = (wd a).length := by rw [wset_s, List.length_map, List.length_reverse]
  generalize wset wd a ((wd a).reverse.map tb) = wd2 at hX2 hla
  have h122 := (hX2.2.2.2.2.2.2 b2 hb).1
  refine lv_aload_n hC.1 hC.2.1 dL_law_456 rfl (lv_at hl 1 rfl) ?_
  refine lv_iload hC.1 hC.2.1 dL_law_457 (lv_at hl 4 rfl) ?_
  refine lv_iconst (v := (nI 0)) hC.1 hC.2.1 dL_law_459 (by decide) ?_
  refine p_cvB (n := 2) (k_word l hX2 (w := a) (what := 0) ha (PM.deed _).ord (by decide)) hC hE hP hD hS (hX2.1.1) (hX2.1.2) rfl gL_law_X0_word rfl (by decide +kernel) rfl ⟨by decide, by decide⟩ ⟨by show _ ≤ 600130; omega, by show _ ≤ 7301080; omega⟩ hl.1 (Nat.le_of_ble_eq_true rfl) dL_law_460 rfl ?_
  refine q_i (nI (wd a).length) (congrArg nI hla) ?_
  refine z_icmp_ne (tgt := 482) hC dL_law_463 (by decide) (by omega) (by omega) (fun h_463 => absurd rfl h_463) (fun h_463 => ?_)
  refine lv_aload_n hC.1 hC.2.1 dL_law_466 rfl (lv_at hl 1 rfl) ?_
  refine lv_iload hC.1 hC.2.1 dL_law_467 (lv_at hl 5 rfl) ?_
  refine p_cvH (n := 1) (k_tidy l hX2 (w := b2) hb) hC hE hP hD hS (hX2.1.1) (hX2.1.2) rfl gL_law_X0_tidy rfl (by decide +kernel) rfl ⟨by decide, by decide⟩ ⟨by show _ ≤ 600130; omega, by show _ ≤ 7301080; omega⟩ hl.1 (Nat.le_of_ble_eq_true rfl) dL_law_469 rfl (fun o3 L3 f3 H locs hpost hP hD hS => ?_)
  obtain ⟨rfl, hLe3, hX3, -⟩ := hpost
  rw [hLe3] at hP hD
  have hlb : (wset wd2 b2 (tdN (wd2 b2) (wd2 b2).length) b2).length = (tdN (wd2 b2) (wd2 b2).length).length := by rw [wset_s]
  have htl := tdN_len (wd2 b2) (wd2 b2).length
  refine lv_aload_n hC.1 hC.2.1 dL_law_472 rfl (lv_at hl 1 rfl) ?_
  refine lv_iload hC.1 hC.2.1 dL_law_473 (lv_at hl 5 rfl) ?_
  refine lv_iconst (v := (nI 0)) hC.1 hC.2.1 dL_law_475 (by decide) ?_
  refine p_cvB (n := 2) (k_word l hX3 (w := b2) (what := 0) hb (PM.deed _).ord (by decide)) hC hE hP hD hS (hX3.1.1) (hX3.1.2) rfl gL_law_X0_word rfl (by decide +kernel) rfl ⟨by decide, by decide⟩ ⟨by show _ ≤ 600130; omega, by show _ ≤ 7301080; omega⟩ hl.1 (Nat.le_of_ble_eq_true rfl) dL_law_476 rfl ?_
  refine q_i (nI (tdN (wd2 b2) (wd2 b2).length).length) (congrArg nI hlb) ?_
  refine z_icmp_eq (tgt := 484) hC dL_law_479 (by decide) (by omega) (by omega) (fun h_479 => ?_) (fun h_479 => absurd rfl h_479)
  exact kk _ _ _ _ _ _ _ _ hX3 hPM hTW hP hD hS (lv_sub hl [0, 1, 2] rfl)

set_option maxHeartbeats 4000000 in
set_option maxRecDepth 100000 in
theorem l_back {p : Program} {l : Launch} {e : Env} {s : State} {m : MethodId} {args : Array Value} {below : List Frame} {meth : Method} {c : Code} {Q : State → Prop} {D : va_G} {T : ClassId × ClassId × ClassId} {z0 : Nat} {hx g ln : Nat} {rw : Nat → Nat} {sc i : Nat} (hC : CallFix p m c cL_law 16 s args wsL_law RL) (hE : zE D T z0 s) (kk : LGO p l e s m args below meth c Q D T z0 hx g ln rw sc i 484) : ∀ (r : Nat) {L : List Nat} {f : Nat → va_E} {H : Heap} {locs : List Loc} {b : Nat → Nat} {mk : Int32} {wd : Nat → List Nat} {ls : Array Slot} (hX : CX T L f hx g ln rw b mk wd) (hPM : PM b) (hTW : TW b) (hP : va_P D vwCl (va_pl L f) H) (hD : va_D (zA z0) (va_pl L f)) (hS : va_S (zA z0) s.heap H locs), DI b r → r ≤ 3 → lv_has ls 16 [(14, .int (nI r)), (0, .ref sc), (1, .ref hx), (2, .int (nI i))] → W p l e room_1 s m args below meth c H locs 13 134 Q (F0 m 366 ls []) := by
  intro r
  induction r with
  | zero =>
    intro L f H locs b mk wd ls hX hPM hTW hP hD hS hDI hr3 hl
    have hv := hPM.1
    have hOb := hPM.ord
    have h8 := nRt_le b
    refine lv_iload hC.1 hC.2.1 dL_law_366 (lv_at hl 0 rfl) ?_
    refine z_if_le (tgt := 429) hC dL_law_368 (by decide) (by omega) (fun h_368 => ?_) (fun h_368 => by omega)
    refine lv_aload_n hC.1 hC.2.1 dL_law_429 rfl (lv_at hl 2 rfl) ?_
    refine lv_iconst (v := (nI 1)) hC.1 hC.2.1 dL_law_430 (by decide) ?_
    refine p_cvB (n := 1) (k_count l hX hOb (what := 1) (by decide)) hC hE hP hD hS (hX.1.1) (hX.1.2) rfl gL_law_X0_count rfl (by decide +kernel) rfl ⟨by decide, by decide⟩ ⟨by show _ ≤ 600130; omega, by show _ ≤ 7301080; omega⟩ hl.1 (Nat.le_of_ble_eq_true rfl) dL_law_431 rfl ?_
    refine lv_bipush (v := (nI 8)) hC.1 hC.2.1 dL_law_434 (by decide) ?_
    refine z_icmp_ne (tgt := 448) hC dL_law_436 (by decide) (by omega) (by omega) (fun h_436 => absurd (hDI.is hv) h_436) (fun h_436 => ?_)
    refine lv_aload_n hC.1 hC.2.1 dL_law_439 rfl (lv_at hl 2 rfl) ?_
    refine lv_iconst (v := (nI 5)) hC.1 hC.2.1 dL_law_440 (by decide) ?_
    refine p_cvB (n := 1) (k_count l hX hOb (what := 5) (by decide)) hC hE hP hD hS (hX.1.1) (hX.1.2) rfl gL_law_X0_count rfl (by decide +kernel) rfl ⟨by decide, by decide⟩ ⟨by show _ ≤ 600130; omega, by show _ ≤ 7301080; omega⟩ hl.1 (Nat.le_of_ble_eq_true rfl) dL_law_441 rfl ?_
    refine lv_iconst (v := (nI 1)) hC.1 hC.2.1 dL_law_444 (by decide) ?_
    refine z_icmp_eq (tgt := 484) hC dL_law_445 (by decide) (by omega) (by omega) (fun h_445 => ?_) (fun h_445 => absurd ((ordN_0 hv).mpr (hDI.is hv)) h_445)
    exact kk _ _ _ _ _ _ _ _ hX hPM hTW hP hD hS (lv_sub hl [1, 2, 3] rfl)
  | succ r ih =>
    intro L f H locs b mk wd ls hX hPM hTW hP hD hS hDI hr3 hl
    have hv := hPM.1
    have hOb := hPM.ord
    have h8 := nRt_le b
    obtain ⟨F, hF, h3, h4, h5⟩ := DI.next hv hDI
    have e9 : 3 * (F / 3) + (F % 3 + 1) - 1 = F := by omega
    refine lv_iload hC.1 hC.2.1 dL_law_366 (lv_at hl 0 rfl) ?_
    refine z_if_le (tgt := 429) hC dL_law_368 (by decide) (by omega) (fun h_368 => by omega) (fun h_368 => ?_)
    refine lv_aload_n hC.1 hC.2.1 dL_law_371 rfl (lv_at hl 2 rfl) ?_
    refine lv_iload hC.1 hC.2.1 dL_law_372 (lv_at hl 0 rfl) ?_
    refine p_cvB (n := 1) (k_first l hX (most := r + 1) (N := r + 1) (F := F) (by omega) (Nat.le_refl _) (Nat.succ_pos _) hDI.2 hDI.1 hF h3 h4) hC hE hP hD hS (hX.1.1) (hX.1.2) rfl gL_law_X0_first rfl (by decide +kernel) rfl ⟨by decide, by decide⟩ ⟨by show _ ≤ 600130; omega, by show _ ≤ 7301080; omega⟩ hl.1 (Nat.le_of_ble_eq_true rfl) dL_law_374 rfl ?_
    refine lv_istore (lv' := [(15, .int (nI F)), (14, .int (nI (r + 1))), (0, .ref sc), (1, .ref hx), (2, .int (nI i))]) hC.1 hC.2.1 dL_law_377 hl (by decide) rfl (fun ls hl => ?_)
    refine lv_aload_n hC.1 hC.2.1 dL_law_379 rfl (lv_at hl 3 rfl) ?_
    refine lv_iconst (v := (nI 3)) hC.1 hC.2.1 dL_law_380 (by decide) ?_
    refine p_cvB (n := 1) (k_far l hX (most := 3) (N := r + 1) (by decide) (by omega) hDI.2 hDI.1) hC hE hP hD hS (hX.1.1) (hX.1.2) rfl gL_law_X0_far rfl (by decide +kernel) rfl ⟨by decide, by decide⟩ ⟨by show _ ≤ 600130; omega, by show _ ≤ 7301080; omega⟩ hl.1 (Nat.le_of_ble_eq_true rfl) dL_law_381 rfl ?_
    refine lv_iload hC.1 hC.2.1 dL_law_384 (lv_at hl 1 rfl) ?_
    refine z_icmp_ne (tgt := 406) hC dL_law_386 (by decide) (by omega) (by omega) (fun h_386 => absurd rfl h_386) (fun h_386 => ?_)
    refine lv_iload hC.1 hC.2.1 dL_law_389 (lv_at hl 0 rfl) ?_
    refine z_if_lt (tgt := 406) hC dL_law_391 (by decide) (by omega) ?_
    refine lv_aload_n hC.1 hC.2.1 dL_law_394 rfl (lv_at hl 3 rfl) ?_
    refine lv_iload hC.1 hC.2.1 dL_law_395 (lv_at hl 1 rfl) ?_
    refine lv_iconst (v := (nI 1)) hC.1 hC.2.1 dL_law_397 (by decide) ?_
    refine z_isub hC dL_law_398 (by omega) ?_
    refine q_i (nI r) (rfl) ?_
    refine p_cvB (n := 1) (k_firstN l hX (most := r) (by omega) (fun k hk => hDI.2 k (by omega))) hC hE hP hD hS (hX.1.1) (hX.1.2) rfl gL_law_X0_first rfl (by decide +kernel) rfl ⟨by decide, by decide⟩ ⟨by show _ ≤ 600130; omega, by show _ ≤ 7301080; omega⟩ hl.1 (Nat.le_of_ble_eq_true rfl) dL_law_399 rfl ?_
    refine lv_iconst (v := (-1)) hC.1 hC.2.1 dL_law_402 (by decide) ?_
    refine lv_icmp_eq (tgt := 408) hC.1 hC.2.1 dL_law_403 (by decide) (fun h_403 => ?_) (fun h_403 => absurd rfl h_403)
    refine lv_aload_n hC.1 hC.2.1 dL_law_408 rfl (lv_at hl 3 rfl) ?_
    refine lv_iload hC.1 hC.2.1 dL_law_409 (lv_at hl 0 rfl) ?_
    refine lv_iconst (v := (nI 3)) hC.1 hC.2.1 dL_law_411 (by decide) ?_
    refine z_idiv hC dL_law_412 (by omega) (by decide) (by decide) ?_
    refine lv_iload hC.1 hC.2.1 dL_law_413 (lv_at hl 0 rfl) ?_
    refine lv_iconst (v := (nI 3)) hC.1 hC.2.1 dL_law_415 (by decide) ?_
    refine z_irem hC dL_law_416 (by omega) (by decide) (by decide) ?_
    refine lv_iconst (v := (nI 1)) hC.1 hC.2.1 dL_law_417 (by decide) ?_
    refine z_iadd hC dL_law_418 ?_
    refine p_cvH (n := 2) (k_turn l hX (fc := F / 3) (q := F % 3 + 1) (by omega) (by omega) (by omega)) hC hE hP hD hS (hX.1.1) (hX.1.2) rfl gL_law_X0_turn rfl (by decide +kernel) rfl ⟨by decide, by decide⟩ ⟨by show _ ≤ 600130; omega, by show _ ≤ 7301080; omega⟩ hl.1 (Nat.le_of_ble_eq_true rfl) dL_law_419 rfl (fun o2 L2 f2 H locs hpost hP hD hS => ?_)
    obtain ⟨rfl, hLe2, hX2, -⟩ := hpost
    rw [hLe2] at hP hD
    rw [e9] at hX2
    refine lv_pop hC.1 hC.2.1 dL_law_422 rfl ?_
    refine lv_iinc (v := nI r) (lv' := [(14, .int (nI r)), (15, .int (nI F)), (0, .ref sc), (1, .ref hx), (2, .int (nI i))]) hC.1 hC.2.1 dL_law_423 hl (k := 1) rfl (z_dec (a := r + 1) (by omega)) (by decide) rfl (fun ls hl => ?_)
    refine lv_goto (tgt := 366) hC.1 hC.2.1 dL_law_426 (by decide) ?_
    exact ih hX2 (hPM.turnC F) (hTW.turnC F) hP hD hS h5 (by omega) (lv_sub hl [0, 2, 3, 4] rfl)

set_option maxHeartbeats 4000000 in
set_option maxRecDepth 100000 in
theorem l_turns {p : Program} {l : Launch} {e : Env} {s : State} {m : MethodId} {args : Array Value} {below : List Frame} {meth : Method} {c : Code} {Q : State → Prop} {D : va_G} {T : ClassId × ClassId × ClassId} {z0 : Nat} {hx g ln : Nat} {rw : Nat → Nat} {sc i : Nat} (hC : CallFix p m c cL_law 16 s args wsL_law RL) (hE : zE D T z0 s) {x : Int32} {n : Nat} (hn : n < 4) (k2 : ∀ {L : List Nat} {f : Nat → va_E} {H : Heap} {locs : List Loc} {b : Nat → Nat} {mk : Int32} {wd : Nat → List Nat} {ls : Array Slot} (hX : CX T L f hx g ln rw b mk wd) (hPM : PM b) (hTW : TW b) (hP : va_P D vwCl (va_pl L f) H) (hD : va_D (zA z0) (va_pl L f)) (hS : va_S (zA z0) s.heap H locs), CM n b → lv_has ls 16 [(12, .int (nI n)), (0, .ref sc), (1, .ref hx), (2, .int (nI i))] → W p l e room_1 s m args below meth c H locs 13 134 Q (F0 m 341 ls [])) : ∀ (r k : Nat) {L : List Nat} {f : Nat → va_E} {H : Heap} {locs : List Loc} {b : Nat → Nat} {mk : Int32} {wd : Nat → List Nat} {ls : Array Slot} (hX : CX T L f hx g ln rw b mk wd) (hPM : PM b) (hTW : TW b) (hP : va_P D vwCl (va_pl L f) H) (hD : va_D (zA z0) (va_pl L f)) (hS : va_S (zA z0) s.heap H locs), CM k b → k + r = n → lv_has ls 16 [(13, .int (nI k)), (12, .int (nI n)), (3, .int x), (0, .ref sc), (1, .ref hx), (2, .int (nI i))] → W p l e room_1 s m args below meth c H locs 13 134 Q (F0 m 301 ls []) := by
  intro r
  induction r with
  | zero =>
    intro k L f H locs b mk wd ls hX hPM hTW hP hD hS hM hk hl
    have hv := hPM.1
    have hke : k = n := by omega
    refine lv_iload hC.1 hC.2.1 dL_law_301 (lv_at hl 0 rfl) ?_
    refine lv_iload hC.1 hC.2.1 dL_law_303 (lv_at hl 1 rfl) ?_
    refine z_icmp_ge (tgt := 341) hC dL_law_305 (by decide) (by omega) (by omega) (fun h_305 => ?_) (fun h_305 => by omega)
    exact k2 hX hPM hTW hP hD hS (hke ▸ hM) (lv_sub hl [1, 3, 4, 5] rfl)
  | succ r ih =>
    intro k L f H locs b mk wd ls hX hPM hTW hP hD hS hM hk hl
    have hv := hPM.1
    obtain ⟨fc, hfc, kf⟩ := k_belowE l (x >>> (nI (2 * k) &&& 31)) (n := 3) (by decide) (by decide)
    obtain ⟨q, hq, kq⟩ := k_belowE l (x >>> (nI (3 * k) &&& 31)) (n := 3) (by decide) (by decide)
    refine lv_iload hC.1 hC.2.1 dL_law_301 (lv_at hl 0 rfl) ?_
    refine lv_iload hC.1 hC.2.1 dL_law_303 (lv_at hl 1 rfl) ?_
    refine z_icmp_ge (tgt := 341) hC dL_law_305 (by decide) (by omega) (by omega) (fun h_305 => by omega) (fun h_305 => ?_)
    refine lv_aload_n hC.1 hC.2.1 dL_law_308 rfl (lv_at hl 4 rfl) ?_
    refine lv_iload_n hC.1 hC.2.1 dL_law_309 rfl (lv_at hl 2 rfl) ?_
    refine lv_iconst (v := (nI 2)) hC.1 hC.2.1 dL_law_310 (by decide) ?_
    refine lv_iload hC.1 hC.2.1 dL_law_311 (lv_at hl 0 rfl) ?_
    refine z_imul hC dL_law_313 ?_
    refine lv_ishr hC.1 hC.2.1 dL_law_314 ?_
    refine lv_iconst (v := (nI 3)) hC.1 hC.2.1 dL_law_315 (by decide) ?_
    refine p_cs (n := 2) (kf) hC gL_law_L_below rfl (by decide +kernel) rfl ⟨by decide, by decide⟩ ⟨by show _ ≤ 600130; omega, by show _ ≤ 7301080; omega⟩ hl.1 (Nat.le_of_ble_eq_true rfl) dL_law_316 rfl ?_
    refine lv_iconst (v := (nI 1)) hC.1 hC.2.1 dL_law_319 (by decide) ?_
    refine lv_iload_n hC.1 hC.2.1 dL_law_320 rfl (lv_at hl 2 rfl) ?_
    refine lv_iconst (v := (nI 3)) hC.1 hC.2.1 dL_law_321 (by decide) ?_
    refine lv_iload hC.1 hC.2.1 dL_law_322 (lv_at hl 0 rfl) ?_
    refine z_imul hC dL_law_324 ?_
    refine lv_ishr hC.1 hC.2.1 dL_law_325 ?_
    refine lv_iconst (v := (nI 3)) hC.1 hC.2.1 dL_law_326 (by decide) ?_
    refine p_cs (n := 2) (kq) hC gL_law_L_below rfl (by decide +kernel) rfl ⟨by decide, by decide⟩ ⟨by show _ ≤ 600130; omega, by show _ ≤ 7301080; omega⟩ hl.1 (Nat.le_of_ble_eq_true rfl) dL_law_327 rfl ?_
    refine z_iadd hC dL_law_330 ?_
    refine p_cvH (n := 2) (k_turn l hX (fc := fc) (q := 1 + q) hfc (by omega) (by omega)) hC hE hP hD hS (hX.1.1) (hX.1.2) rfl gL_law_X0_turn rfl (by decide +kernel) rfl ⟨by decide, by decide⟩ ⟨by show _ ≤ 600130; omega, by show _ ≤ 7301080; omega⟩ hl.1 (Nat.le_of_ble_eq_true rfl) dL_law_331 rfl (fun o2 L2 f2 H locs hpost hP hD hS => ?_)
    obtain ⟨rfl, hLe2, hX2, -⟩ := hpost
    rw [hLe2] at hP hD
    refine lv_pop hC.1 hC.2.1 dL_law_334 rfl ?_
    refine lv_iinc (v := nI (k + 1)) (lv' := [(13, .int (nI (k + 1))), (12, .int (nI n)), (3, .int x), (0, .ref sc), (1, .ref hx), (2, .int (nI i))]) hC.1 hC.2.1 dL_law_335 hl (k := 0) rfl (z_inc _) (by decide) rfl (fun ls hl => ?_)
    refine lv_goto (tgt := 301) hC.1 hC.2.1 dL_law_338 (by decide) ?_
    exact ih (k + 1) hX2 (hPM.turnC _) (hTW.turnC _) hP hD hS (CM.turn hv (by omega) hM) (by omega) (lv_sub hl [0, 1, 2, 3, 4, 5] rfl)

set_option maxHeartbeats 4000000 in
set_option maxRecDepth 100000 in
theorem c_reset {p : Program} {l : Launch} {e : Env} {s : State} {m : MethodId} {args : Array Value} {below : List Frame} {meth : Method} {c : Code} {Q : State → Prop} {D : va_G} {T : ClassId × ClassId × ClassId} {z0 : Nat} {hx g ln : Nat} {rw : Nat → Nat} {sc i : Nat} (hC : CallFix p m c cL_law 16 s args wsL_law RL) (hE : zE D T z0 s) (kk : LGO p l e s m args below meth c Q D T z0 hx g ln rw sc i 484) {x : Int32} {a b2 wl av : Nat} (ha : a < 5) (hb : b2 < 5) {L : List Nat} {f : Nat → va_E} {H : Heap} {locs : List Loc} {b : Nat → Nat} {mk : Int32} {wd : Nat → List Nat} {ls : Array Slot} (hX : CX T L f hx g ln rw b mk wd) (hPM : PM b) (hTW : TW b) (hP : va_P D vwCl (va_pl L f) H) (hD : va_D (zA z0) (va_pl L f)) (hS : va_S (zA z0) s.heap H locs) (hl : lv_has ls 16 [(0, .ref sc), (1, .ref hx), (2, .int (nI i)), (3, .int x), (4, .int (nI a)), (5, .int (nI b2)), (8, .int (nI wl)), (9, .int (nI av))]) : W p l e room_1 s m args below meth c H locs 13 134 Q (F0 m 284 ls []) := by
  obtain ⟨n, hn, kn⟩ := k_belowE l (x >>> (nI 3 &&& 31)) (n := 4) (by decide) (by decide)
  have k2 : ∀ {L : List Nat} {f : Nat → va_E} {H : Heap} {locs : List Loc} {b : Nat → Nat} {mk : Int32} {wd : Nat → List Nat} {ls : Array Slot} (hX : CX T L f hx g ln rw b mk wd) (hPM : PM b) (hTW : TW b) (hP : va_P D vwCl (va_pl L f) H) (hD : va_D (zA z0) (va_pl L f)) (hS : va_S (zA z0) s.heap H locs), CM n b → lv_has ls 16 [(12, .int (nI n)), (0, .ref sc), (1, .ref hx), (2, .int (nI i))] → W p l e room_1 s m args below meth c H locs 13 134 Q (F0 m 341 ls []) := by
    intro L f H locs b mk wd ls hX hPM hTW hP hD hS hM hl
    obtain ⟨N, hN, hDI⟩ := CM.di hPM.1 hM
    refine lv_aload_n hC.1 hC.2.1 dL_law_341 rfl (lv_at hl 2 rfl) ?_
    refine lv_iconst (v := (nI 3)) hC.1 hC.2.1 dL_law_342 (by decide) ?_
    refine p_cvB (n := 1) (k_far l hX (most := 3) (N := N) (by decide) (by omega) hDI.2 hDI.1) hC hE hP hD hS (hX.1.1) (hX.1.2) rfl gL_law_X0_far rfl (by decide +kernel) rfl ⟨by decide, by decide⟩ ⟨by show _ ≤ 600130; omega, by show _ ≤ 7301080; omega⟩ hl.1 (Nat.le_of_ble_eq_true rfl) dL_law_343 rfl ?_
    refine lv_istore (lv' := [(13, .int (nI N)), (12, .int (nI n)), (0, .ref sc), (1, .ref hx), (2, .int (nI i))]) hC.1 hC.2.1 dL_law_346 hl (by decide) rfl (fun ls hl => ?_)
    refine lv_iload hC.1 hC.2.1 dL_law_348 (lv_at hl 0 rfl) ?_
    refine z_if_lt (tgt := 360) hC dL_law_350 (by decide) (by omega) ?_
    refine lv_iload hC.1 hC.2.1 dL_law_353 (lv_at hl 0 rfl) ?_
    refine lv_iload hC.1 hC.2.1 dL_law_355 (lv_at hl 1 rfl) ?_
    refine z_icmp_le (tgt := 362) hC dL_law_357 (by decide) (by omega) (by omega) (fun h_357 => ?_) (fun h_357 => by omega)
    refine lv_iload hC.1 hC.2.1 dL_law_362 (lv_at hl 0 rfl) ?_
    refine lv_istore (lv' := [(14, .int (nI N)), (13, .int (nI N)), (12, .int (nI n)), (0, .ref sc), (1, .ref hx), (2, .int (nI i))]) hC.1 hC.2.1 dL_law_364 hl (by decide) rfl (fun ls hl => ?_)
    exact l_back hC hE kk N hX hPM hTW hP hD hS hDI (by omega) (lv_sub hl [0, 3, 4, 5] rfl)
  refine lv_aload_n hC.1 hC.2.1 dL_law_284 rfl (lv_at hl 1 rfl) ?_
  refine p_cvH (n := 0) (k_reset l hX) hC hE hP hD hS (hX.1.1) (hX.1.2) rfl gL_law_X0_reset rfl (by decide +kernel) rfl ⟨by decide, by decide⟩ ⟨by show _ ≤ 600130; omega, by show _ ≤ 7301080; omega⟩ hl.1 (Nat.le_of_ble_eq_true rfl) dL_law_285 rfl (fun o2 L2 f2 H locs hpost hP hD hS => ?_)
  obtain ⟨rfl, hLe2, hX2, -⟩ := hpost
  rw [hLe2] at hP hD
  refine lv_pop hC.1 hC.2.1 dL_law_288 rfl ?_
  refine lv_iload_n hC.1 hC.2.1 dL_law_289 rfl (lv_at hl 3 rfl) ?_
  refine lv_iconst (v := (nI 3)) hC.1 hC.2.1 dL_law_290 (by decide) ?_
  refine lv_ishr hC.1 hC.2.1 dL_law_291 ?_
  refine lv_iconst (v := (nI 4)) hC.1 hC.2.1 dL_law_292 (by decide) ?_
  refine p_cs (n := 2) (kn) hC gL_law_L_below rfl (by decide +kernel) rfl ⟨by decide, by decide⟩ ⟨by show _ ≤ 600130; omega, by show _ ≤ 7301080; omega⟩ hl.1 (Nat.le_of_ble_eq_true rfl) dL_law_293 rfl ?_
  refine lv_istore (lv' := [(12, .int (nI n)), (0, .ref sc), (1, .ref hx), (2, .int (nI i)), (3, .int x), (4, .int (nI a)), (5, .int (nI b2)), (8, .int (nI wl)), (9, .int (nI av))]) hC.1 hC.2.1 dL_law_296 hl (by decide) rfl (fun ls hl => ?_)
  refine lv_iconst (v := (nI 0)) hC.1 hC.2.1 dL_law_298 (by decide) ?_
  refine lv_istore (lv' := [(13, .int (nI 0)), (12, .int (nI n)), (0, .ref sc), (1, .ref hx), (2, .int (nI i)), (3, .int x), (4, .int (nI a)), (5, .int (nI b2)), (8, .int (nI wl)), (9, .int (nI av))]) hC.1 hC.2.1 dL_law_299 hl (by decide) rfl (fun ls hl => ?_)
  exact l_turns hC hE hn k2 n 0 hX2 PM.one TW.one hP hD hS CM.one (Nat.zero_add n) (lv_sub hl [0, 1, 5, 2, 3, 4] rfl)
end
section
/-! MY ROWS 33: what the start gives -/
theorem CX.keep {T : ClassId × ClassId × ClassId} {L L' : List Nat} {f f' : Nat → va_E} {hx g ln : Nat} {rw : Nat → Nat} {b : Nat → Nat} {mk : Int32} {wd : Nat → List Nat} (h : CX T L f hx g ln rw b mk wd) (hk : ∀ a, a ∈ L → a ∈ L' ∧ f' a = f a) : CX T L' f' hx g ln rw b mk wd := by
  obtain ⟨⟨a1, a2⟩, ⟨c1, G, c2, c3⟩, ⟨k1, N, k2, k3⟩, i, r⟩ := h
  refine ⟨⟨(hk _ a1).1, (hk _ a1).2.trans a2⟩, ⟨(hk _ c1).1, G, (hk _ c1).2.trans c2, c3⟩, ⟨(hk _ k1).1, N, (hk _ k1).2.trans k2, k3⟩, fun w hw => ?_, r⟩
  obtain ⟨d1, g, d2, d3⟩ := i w hw
  exact ⟨(hk _ d1).1, g, (hk _ d1).2.trans d2, d3⟩
section ZS
variable {p : Program} {l : Launch} {e : Env} {R : Room} {s : State} {m : MethodId} {args : Array Value} {below : List Frame} {meth : Method} {c : Code} {H : Heap} {locs : List Loc} {cells slots : Nat} {Q : State → Prop}
variable {Ts : List Cond} {own : String} {nL : Nat} {cc : ByteArray} {pc : Nat} {ls : Array Slot} {rest : List Value} {D : va_G} {T : ClassId × ClassId × ClassId} {z0 : Nat} {L : List Nat} {f : Nat → va_E}
/-- a constructor's call -/
theorem p_ciH {y : MethodName} {n : Nat} {ws ws' : List Cond} {d maxL mc ms index : Nat} {b : Nat} {av st : List Value} {post : Option Value → List Nat → (Nat → va_E) → Prop} {bytes : ByteArray}
    (hM : HV l y ws d mc ms D z0 (zPre0 D T z0 L f) (.ref b :: av) post) (hC : CallFix p m c cc nL s args Ts own) (hE : zE D T z0 s) (hAO : va_AOA .int s) (hP : va_P D vwCl (va_pl L f) H) (hD : va_D (zA z0) (va_pl L f)) (hS : va_S (zA z0) s.heap H locs) (hg : GoodIn Ts ws) (hw : ws = Cond.code y bytes maxL none :: ws') (hini : Cond.initialized y.cls ∈ Ts) (hl : Cond.methodLink own index y ∈ Ts) (hin : Cond.instanceMethod y ∈ Ts) (hy1 : y.name = "<init>") (hd : y.cls ≠ "java/lang/invoke/MethodHandle" ∧ y.cls ≠ "java/lang/invoke/VarHandle" ∧ (parseMethodDescriptor y.desc).map (fun d => d.parameters.length) = some n) (hn : av.length = n)
    (hR : d + 1 ≤ R.frames ∧ 8 + (maxL + 11) + 60 * d ≤ R.locals) (hf : cells + mc ≤ R.cells ∧ slots + ms ≤ R.slots) (hsz : ls.size = nL) (hW : (rest.map fun v => v.category).sum ≤ 8) (hdg : decode cc pc = .ok (.invokespecial index, 3)) (hst : st = av.reverse ++ .ref b :: rest)
    (kk : ∀ (o : Option Value) (L1 : List Nat) (f1 : Nat → va_E) (H1 : Heap) (locs1 : List Loc), post o L1 f1 → va_P D vwCl (va_pl L1 f1) H1 → va_D (zA z0) (va_pl L1 f1) → va_S (zA z0) s.heap H1 locs1 → W p l e R s m args below meth c H1 locs1 (cells + mc) (slots + ms) Q (F0 m (pc + 3) ls (o.toList ++ rest))) : W p l e R s m args below meth c H locs cells slots Q (F0 m pc ls st) := by
  subst hst
  exact p_goH (va_runI (As := av) (rest := rest) hC hM (cwI n hC.2.2.2.2 hg hw rfl rfl (hC.2.2.2.2 _ hini) (hC.2.2.2.2 _ hl) (hC.2.2.2.2 _ hin) hy1 hd hR) ⟨zPre0.blind, fun U hU hW => ⟨rfl, (zPre.pass (av := .ref b :: av) hE hP hD hS U hU hW).2, AOA_moved hW.alike hAO⟩⟩ rfl hn hsz rfl (lv_room hW) hdg hf) hS kk
/-- a new object in the pool -/
theorem p_newO {Cn : String} {TT : u_T} {N ci index : Nat} {ty0 : Nat → FieldType} {fs : List Value} (hC : CallFix p m c cc nL s args Ts own) (hE : zE D T z0 s) (hP : va_P D vwCl (va_pl L f) H) (hD : va_D (zA z0) (va_pl L f)) (hS : va_S (zA z0) s.heap H locs) (hin : ∀ w ∈ u_ws Cn TT N, w ∈ Ts) (hty : ∀ k, k < N → parseFieldDescriptor (TT k).2.2.1 = some (ty0 k)) (hcl : Cond.classLink own index Cn ∈ Ts) (hinst : Cond.instantiable Cn N ∈ Ts) (hini : Cond.initialized Cn ∈ Ts) (hc : vwCl[ci]? = some (Cn, TT, N)) (hfs : ∀ j, j < N → defaultValue (ty0 j) = vp_V fs j) (hcells : cells + 1 ≤ R.cells) (hslots : slots + N ≤ R.slots) (hdg : decode cc pc = .ok (.new index, 3))
    (kk : ∀ (q : Nat) (H1 : Heap), q ∉ L → va_P D vwCl (va_pl (L ++ [q]) (va_up f q (eO ci fs))) H1 → va_D (zA z0) (va_pl (L ++ [q]) (va_up f q (eO ci fs))) → va_S (zA z0) s.heap H1 locs → W p l e R s m args below meth c H1 locs (cells + 1) (slots + N) Q (F0 m (pc + 3) ls (.ref q :: rest))) : W p l e R s m args below meth c H locs cells slots Q (F0 m pc ls rest) := by
  refine va_new (fs := fs) hC.1 hC.2.1 hC.2.2.2.2 hin ty0 hty hC.2.2.2.1 (hC.2.2.2.2 _ hcl) (hC.2.2.2.2 _ hinst) (hC.2.2.2.2 _ hini) hE.2.2 hP hD hS (zA_hA hE) hc hfs hcells hslots hdg (fun q H1 hP1 hD1 hS1 => ?_)
  have hq := pl_new hD1
  rw [va_pl_push hq] at hP1 hD1
  exact kk q H1 hq hP1 hD1 hS1
end ZS
end
section
/-! MY ROWS 34: the law's loop (laid by a program of mine) -/
/-- two words that do the same have the same fewest turns -/
theorem sh_both (l : Launch) {D : va_G} {T : ClassId × ClassId × ClassId} {z0 : Nat} {L : List Nat} {f : Nat → va_E} {hx g ln : Nat} {rw : Nat → Nat} {b : Nat → Nat} {mk : Int32} {wd : Nat → List Nat} (hX : CX T L f hx g ln rw b mk wd) {a b2 : Nat} (ha : a < 5) (hb : b2 < 5) (he : EQ8 (deed (wd a)) (deed (wd b2))) :
    ∃ v : Int32, RV l yX0_shortest wsX0_shortest 21 (zPre D T z0 L f) [.ref hx, .int (nI a), .int (nI 2)] (some (.int v)) ∧ RV l yX0_shortest wsX0_shortest 21 (zPre D T z0 L f) [.ref hx, .int (nI b2), .int (nI 2)] (some (.int v)) := by
  have hcg := fun k => wi_cg (deed_Va (wd a)) (deed_Va (wd b2)) he k
  rcases far_of (b := deed (wd a)) 2 with h | ⟨N, hN, h1, h2⟩
  · exact ⟨_, k_shortestN l hX ha (most := 2) (by decide) h, k_shortestN l hX hb (most := 2) (by decide) (fun k hk => (hcg k).symm.trans (h k hk))⟩
  · exact ⟨_, k_shortest l hX ha (most := 2) (by decide) hN h2 h1, k_shortest l hX hb (most := 2) (by decide) hN (fun k hk => (hcg k).symm.trans (h2 k hk)) ((hcg N).symm.trans h1)⟩
set_option maxHeartbeats 4000000 in
set_option maxRecDepth 100000 in
theorem law_body {p : Program} {l : Launch} {e : Env} {s : State} {m : MethodId} {args : Array Value} {below : List Frame} {meth : Method} {c : Code} {Q : State → Prop} {D : va_G} {T : ClassId × ClassId × ClassId} {z0 : Nat} {hx g ln : Nat} {rw : Nat → Nat} {sc i : Nat} (hC : CallFix p m c cL_law 16 s args wsL_law RL) (hE : zE D T z0 s) {Ln : Nat} {xs : Nat → Int32} (hLn : Ln ≤ 260) (hxs : va_X sc Ln xs s s.heap) (hsz : ¬ zA z0 sc) (hi : i < 12) (k641 : LGO p l e s m args below meth c Q D T z0 hx g ln rw sc i 641) : LGO p l e s m args below meth c Q D T z0 hx g ln rw sc i 38 := by
  have kk := t_tail hC hE k641
  intro L f H locs b mk wd ls hX hPM hTW hP hD hS hl
  have hv := hPM.1
  have hOb := hPM.ord
  have hOw : ∀ w, w < 5 → ordN (deed (wd w)) < 1000 := fun w _ => (PM.deed (wd w)).ord
  obtain ⟨x, hx9⟩ : ∃ x, x = cellv xs Ln i := ⟨_, rfl⟩
  obtain ⟨a, ha, ka⟩ := k_belowE l (x >>> (nI 2 &&& 31)) (n := 5) (by decide) (by decide)
  obtain ⟨b2, hb2, kb2⟩ := k_belowE l (x >>> (nI 4 &&& 31)) (n := 5) (by decide) (by decide)
  obtain ⟨fc, hfc, kfc⟩ := k_belowE l (x) (n := 3) (by decide) (by decide)
  obtain ⟨q, hq, kq⟩ := k_belowE l (x >>> (nI 2 &&& 31)) (n := 3) (by decide) (by decide)
  obtain ⟨sw, hsw, ksw⟩ := k_belowE l (x >>> (nI 7 &&& 31)) (n := 4) (by decide) (by decide)
  have hoa := hOw a ha
  have hob := hOw b2 hb2
  have hwa := (hX.2.2.2.2.2.2 a ha).2
  have hwb := (hX.2.2.2.2.2.2 b2 hb2).2
  have hmab := mixed_eq hwa hwb
  have hmba := (mixed_eq hwb hwa).trans (nRt_cmt (PM.deed (wd b2)) (PM.deed (wd a)))
  have hM8 := nRt_cmt_8 (PM.deed (wd a)) (PM.deed (wd b2))
  obtain ⟨M, hM⟩ : ∃ M, M = nRt (cmt (deed (wd a)) (deed (wd b2))) := ⟨_, rfl⟩
  have hMle : M ≤ 8 := hM ▸ nRt_le _
  have hadv : bst b 9 < 9 := bst_lt b 9 (Nat.le_refl 9)
  obtain ⟨av, hav⟩ : ∃ av, av = bst b 9 := ⟨_, rfl⟩
  obtain ⟨wl, hwl⟩ : ∃ wl, wl = nRt (turnC b (3 * fc + (1 + q) - 1)) := ⟨_, rfl⟩
  have hwa9 : wl ≤ nRt (turnC b av) := by rw [hwl, hav]; exact bst_max b 9 (Nat.le_refl 9) _ (by omega)
  have hw8 : wl ≤ 8 := hwl ▸ nRt_le _
  have ha9 : av < 9 := hav ▸ hadv
  have k174 : ∀ ls : Array Slot, lv_has ls 16 [(0, .ref sc), (1, .ref hx), (2, .int (nI i)), (3, .int x), (4, .int (nI a)), (5, .int (nI b2)), (8, .int (nI wl)), (9, .int (nI av)), (11, .int (nI (8 - M)))] → W p l e room_1 s m args below meth c H locs 13 134 Q (F0 m 174 ls []) := by
    intro ls hl
    refine lv_aload_n hC.1 hC.2.1 dL_law_174 rfl (lv_at hl 1 rfl) ?_
    refine lv_iload hC.1 hC.2.1 dL_law_175 (lv_at hl 5 rfl) ?_
    refine lv_iload hC.1 hC.2.1 dL_law_177 (lv_at hl 4 rfl) ?_
    refine p_cvB (n := 2) (k_mixed l hX (w := b2) (v := a) hb2 ha) hC hE hP hD hS (hX.1.1) (hX.1.2) rfl gL_law_X0_mixed rfl (by decide +kernel) rfl ⟨by decide, by decide⟩ ⟨by show _ ≤ 600130; omega, by show _ ≤ 7301080; omega⟩ hl.1 (Nat.le_of_ble_eq_true rfl) dL_law_179 rfl ?_
    refine q_i (nI (8 - M)) (congrArg (fun z => nI (8 - z)) (hmba.trans hM.symm)) ?_
    refine lv_iload hC.1 hC.2.1 dL_law_182 (lv_at hl 8 rfl) ?_
    refine z_icmp_eq (tgt := 189) hC dL_law_184 (by decide) (by omega) (by omega) (fun h_184 => ?_) (fun h_184 => absurd rfl h_184)
    refine lv_iload_n hC.1 hC.2.1 dL_law_189 rfl (lv_at hl 3 rfl) ?_
    refine lv_bipush (v := (nI 7)) hC.1 hC.2.1 dL_law_190 (by decide) ?_
    refine lv_ishr hC.1 hC.2.1 dL_law_192 ?_
    refine lv_iconst (v := (nI 4)) hC.1 hC.2.1 dL_law_193 (by decide) ?_
    refine p_cs (n := 2) (ksw) hC gL_law_L_below rfl (by decide +kernel) rfl ⟨by decide, by decide⟩ ⟨by show _ ≤ 600130; omega, by show _ ≤ 7301080; omega⟩ hl.1 (Nat.le_of_ble_eq_true rfl) dL_law_194 rfl ?_
    rcases (by omega : sw = 0 ∨ sw = 1 ∨ sw = 2 ∨ sw = 3) with rfl | rfl | rfl | rfl
    · refine lv_tableIn (off := 27) (tgt := 224) hC.1 hC.2.1 dL_law_197 (by decide) (by decide) (by decide) (by decide) ?_
      exact c_play hC hE kk ha hb2 hX hPM hTW hP hD hS (lv_sub hl [0, 1, 2, 3, 4, 5, 6, 7] rfl)
    · refine lv_tableIn (off := 66) (tgt := 263) hC.1 hC.2.1 dL_law_197 (by decide) (by decide) (by decide) (by decide) ?_
      exact c_turn hC hE kk ha hb2 hX hPM hTW hP hD hS (lv_sub hl [0, 1, 2, 3, 4, 5, 6, 7] rfl) ha9 hwa9
    · refine lv_tableIn (off := 87) (tgt := 284) hC.1 hC.2.1 dL_law_197 (by decide) (by decide) (by decide) (by decide) ?_
      exact c_reset hC hE kk ha hb2 hX hPM hTW hP hD hS (lv_sub hl [0, 1, 2, 3, 4, 5, 6, 7] rfl)
    · refine lv_tableOut (tgt := 450) hC.1 hC.2.1 dL_law_197 (by decide) (by decide) ?_
      exact c_round hC hE kk ha hb2 hX hPM hTW hP hD hS (lv_sub hl [0, 1, 2, 3, 4, 5, 6, 7] rfl)
  refine lv_iload_n hC.1 hC.2.1 dL_law_38 rfl (lv_at hl 2 rfl) ?_
  refine lv_bipush (v := (nI 12)) hC.1 hC.2.1 dL_law_39 (by decide) ?_
  refine z_icmp_ge (tgt := 647) hC dL_law_41 (by decide) (by omega) (by omega) (fun h_41 => by omega) (fun h_41 => ?_)
  refine lv_aload_n hC.1 hC.2.1 dL_law_44 rfl (lv_at hl 0 rfl) ?_
  refine lv_iload_n hC.1 hC.2.1 dL_law_45 rfl (lv_at hl 2 rfl) ?_
  refine p_csG (n := 2) (k_cell l hLn (k := i) (by omega)) sX.blind (fun U hU hW => sX.pass hxs hsz hS U hU hW) hC gL_law_L_cell rfl (by decide +kernel) rfl ⟨by decide, by decide⟩ ⟨by show _ ≤ 600130; omega, by show _ ≤ 7301080; omega⟩ hl.1 (Nat.le_of_ble_eq_true rfl) dL_law_46 rfl ?_
  refine q_i x hx9.symm ?_
  refine lv_istore_n (lv' := [(3, .int x), (0, .ref sc), (1, .ref hx), (2, .int (nI i))]) hC.1 hC.2.1 dL_law_49 rfl hl (by decide) rfl (fun ls hl => ?_)
  refine lv_iload_n hC.1 hC.2.1 dL_law_50 rfl (lv_at hl 0 rfl) ?_
  refine lv_iconst (v := (nI 2)) hC.1 hC.2.1 dL_law_51 (by decide) ?_
  refine lv_ishr hC.1 hC.2.1 dL_law_52 ?_
  refine lv_iconst (v := (nI 5)) hC.1 hC.2.1 dL_law_53 (by decide) ?_
  refine p_cs (n := 2) (ka) hC gL_law_L_below rfl (by decide +kernel) rfl ⟨by decide, by decide⟩ ⟨by show _ ≤ 600130; omega, by show _ ≤ 7301080; omega⟩ hl.1 (Nat.le_of_ble_eq_true rfl) dL_law_54 rfl ?_
  refine lv_istore (lv' := [(4, .int (nI a)), (3, .int x), (0, .ref sc), (1, .ref hx), (2, .int (nI i))]) hC.1 hC.2.1 dL_law_57 hl (by decide) rfl (fun ls hl => ?_)
  refine lv_iload_n hC.1 hC.2.1 dL_law_59 rfl (lv_at hl 1 rfl) ?_
  refine lv_iconst (v := (nI 4)) hC.1 hC.2.1 dL_law_60 (by decide) ?_
  refine lv_ishr hC.1 hC.2.1 dL_law_61 ?_
  refine lv_iconst (v := (nI 5)) hC.1 hC.2.1 dL_law_62 (by decide) ?_
  refine p_cs (n := 2) (kb2) hC gL_law_L_below rfl (by decide +kernel) rfl ⟨by decide, by decide⟩ ⟨by show _ ≤ 600130; omega, by show _ ≤ 7301080; omega⟩ hl.1 (Nat.le_of_ble_eq_true rfl) dL_law_63 rfl ?_
  refine lv_istore (lv' := [(5, .int (nI b2)), (4, .int (nI a)), (3, .int x), (0, .ref sc), (1, .ref hx), (2, .int (nI i))]) hC.1 hC.2.1 dL_law_66 hl (by decide) rfl (fun ls hl => ?_)
  refine lv_aload_n hC.1 hC.2.1 dL_law_68 rfl (lv_at hl 4 rfl) ?_
  refine p_cvB (n := 0) (k_digest l hX hOb hOw) hC hE hP hD hS (hX.1.1) (hX.1.2) rfl gL_law_X0_digest rfl (by decide +kernel) rfl ⟨by decide, by decide⟩ ⟨by show _ ≤ 600130; omega, by show _ ≤ 7301080; omega⟩ hl.1 (Nat.le_of_ble_eq_true rfl) dL_law_69 rfl ?_
  refine lv_lstore (lv' := [(6, .long (dig9 b mk wd)), (5, .int (nI b2)), (4, .int (nI a)), (3, .int x), (0, .ref sc), (1, .ref hx), (2, .int (nI i))]) hC.1 hC.2.1 dL_law_72 hl (by decide) rfl (fun ls hl => ?_)
  refine lv_aload_n hC.1 hC.2.1 dL_law_74 rfl (lv_at hl 5 rfl) ?_
  refine lv_iload_n hC.1 hC.2.1 dL_law_75 rfl (lv_at hl 3 rfl) ?_
  refine lv_iconst (v := (nI 3)) hC.1 hC.2.1 dL_law_76 (by decide) ?_
  refine p_cs (n := 2) (kfc) hC gL_law_L_below rfl (by decide +kernel) rfl ⟨by decide, by decide⟩ ⟨by show _ ≤ 600130; omega, by show _ ≤ 7301080; omega⟩ hl.1 (Nat.le_of_ble_eq_true rfl) dL_law_77 rfl ?_
  refine lv_iconst (v := (nI 1)) hC.1 hC.2.1 dL_law_80 (by decide) ?_
  refine lv_iload_n hC.1 hC.2.1 dL_law_81 rfl (lv_at hl 3 rfl) ?_
  refine lv_iconst (v := (nI 2)) hC.1 hC.2.1 dL_law_82 (by decide) ?_
  refine lv_ishr hC.1 hC.2.1 dL_law_83 ?_
  refine lv_iconst (v := (nI 3)) hC.1 hC.2.1 dL_law_84 (by decide) ?_
  refine p_cs (n := 2) (kq) hC gL_law_L_below rfl (by decide +kernel) rfl ⟨by decide, by decide⟩ ⟨by show _ ≤ 600130; omega, by show _ ≤ 7301080; omega⟩ hl.1 (Nat.le_of_ble_eq_true rfl) dL_law_85 rfl ?_
  refine z_iadd hC dL_law_88 ?_
  refine p_cvB (n := 2) (k_would l hX (fc := fc) (q := 1 + q) hfc (by omega) (by omega)) hC hE hP hD hS (hX.1.1) (hX.1.2) rfl gL_law_X0_would rfl (by decide +kernel) rfl ⟨by decide, by decide⟩ ⟨by show _ ≤ 600130; omega, by show _ ≤ 7301080; omega⟩ hl.1 (Nat.le_of_ble_eq_true rfl) dL_law_89 rfl ?_
  refine q_i (nI wl) (congrArg nI hwl.symm) ?_
  refine lv_istore (lv' := [(8, .int (nI wl)), (6, .long (dig9 b mk wd)), (5, .int (nI b2)), (4, .int (nI a)), (3, .int x), (0, .ref sc), (1, .ref hx), (2, .int (nI i))]) hC.1 hC.2.1 dL_law_92 hl (by decide) rfl (fun ls hl => ?_)
  refine lv_aload_n hC.1 hC.2.1 dL_law_94 rfl (lv_at hl 6 rfl) ?_
  refine p_cvB (n := 0) (k_advise l hX) hC hE hP hD hS (hX.1.1) (hX.1.2) rfl gL_law_X0_advise rfl (by decide +kernel) rfl ⟨by decide, by decide⟩ ⟨by show _ ≤ 600130; omega, by show _ ≤ 7301080; omega⟩ hl.1 (Nat.le_of_ble_eq_true rfl) dL_law_95 rfl ?_
  refine q_i (nI av) (congrArg nI hav.symm) ?_
  refine lv_istore (lv' := [(9, .int (nI av)), (8, .int (nI wl)), (6, .long (dig9 b mk wd)), (5, .int (nI b2)), (4, .int (nI a)), (3, .int x), (0, .ref sc), (1, .ref hx), (2, .int (nI i))]) hC.1 hC.2.1 dL_law_98 hl (by decide) rfl (fun ls hl => ?_)
  refine lv_aload_n hC.1 hC.2.1 dL_law_100 rfl (lv_at hl 7 rfl) ?_
  refine lv_iload hC.1 hC.2.1 dL_law_101 (lv_at hl 4 rfl) ?_
  refine lv_iload hC.1 hC.2.1 dL_law_103 (lv_at hl 3 rfl) ?_
  refine p_cvB (n := 2) (k_same l hX ha hb2) hC hE hP hD hS (hX.1.1) (hX.1.2) rfl gL_law_X0_same rfl (by decide +kernel) rfl ⟨by decide, by decide⟩ ⟨by show _ ≤ 600130; omega, by show _ ≤ 7301080; omega⟩ hl.1 (Nat.le_of_ble_eq_true rfl) dL_law_105 rfl ?_
  refine lv_istore (lv' := [(10, .int (nI (if enc (deed (wd a)) = enc (deed (wd b2)) then 1 else 0))), (9, .int (nI av)), (8, .int (nI wl)), (6, .long (dig9 b mk wd)), (5, .int (nI b2)), (4, .int (nI a)), (3, .int x), (0, .ref sc), (1, .ref hx), (2, .int (nI i))]) hC.1 hC.2.1 dL_law_108 hl (by decide) rfl (fun ls hl => ?_)
  refine lv_aload_n hC.1 hC.2.1 dL_law_110 rfl (lv_at hl 8 rfl) ?_
  refine lv_iload hC.1 hC.2.1 dL_law_111 (lv_at hl 5 rfl) ?_
  refine lv_iload hC.1 hC.2.1 dL_law_113 (lv_at hl 4 rfl) ?_
  refine p_cvB (n := 2) (k_mixed l hX (w := a) (v := b2) ha hb2) hC hE hP hD hS (hX.1.1) (hX.1.2) rfl gL_law_X0_mixed rfl (by decide +kernel) rfl ⟨by decide, by decide⟩ ⟨by show _ ≤ 600130; omega, by show _ ≤ 7301080; omega⟩ hl.1 (Nat.le_of_ble_eq_true rfl) dL_law_115 rfl ?_
  refine q_i (nI (8 - M)) (congrArg (fun z => nI (8 - z)) (hmab.trans hM.symm)) ?_
  refine lv_istore (lv' := [(11, .int (nI (8 - M))), (10, .int (nI (if enc (deed (wd a)) = enc (deed (wd b2)) then 1 else 0))), (9, .int (nI av)), (8, .int (nI wl)), (6, .long (dig9 b mk wd)), (5, .int (nI b2)), (4, .int (nI a)), (3, .int x), (0, .ref sc), (1, .ref hx), (2, .int (nI i))]) hC.1 hC.2.1 dL_law_118 hl (by decide) rfl (fun ls hl => ?_)
  refine lv_aload_n hC.1 hC.2.1 dL_law_120 rfl (lv_at hl 9 rfl) ?_
  refine p_cvB (n := 0) (k_digest l hX hOb hOw) hC hE hP hD hS (hX.1.1) (hX.1.2) rfl gL_law_X0_digest rfl (by decide +kernel) rfl ⟨by decide, by decide⟩ ⟨by show _ ≤ 600130; omega, by show _ ≤ 7301080; omega⟩ hl.1 (Nat.le_of_ble_eq_true rfl) dL_law_121 rfl ?_
  refine lv_lload hC.1 hC.2.1 dL_law_124 (lv_at hl 4 rfl) ?_
  refine W.lcmp hC.1 hC.2.1 dL_law_126 ?_
  refine lv_if_ne (tgt := 187) hC.1 hC.2.1 dL_law_127 (by decide) (fun h_127 => absurd (lg0.mpr rfl) h_127) (fun h_127 => ?_)
  refine lv_iload hC.1 hC.2.1 dL_law_130 (lv_at hl 1 rfl) ?_
  refine z_if_eq (tgt := 174) hC dL_law_132 (by decide) (ite_bd) (fun h_132 => ?_) (fun h_132 => ?_)
  · exact k174 _ (lv_sub hl [8, 9, 10, 7, 6, 5, 3, 2, 0] rfl)
  · have hq8 : EQ8 (deed (wd a)) (deed (wd b2)) := by
      refine enc_inj (deed_Va _).b (deed_Va _).b ?_
      by_cases h9 : enc (deed (wd a)) = enc (deed (wd b2))
      · exact h9
      · exact absurd (if_neg h9) h_132
    have hM9 : M = 8 := hM.trans (hM8 hq8)
    have hoq := ordN_cg hq8
    obtain ⟨v, kva, kvb⟩ := sh_both l (D := D) (z0 := z0) hX ha hb2 hq8
    refine lv_aload_n hC.1 hC.2.1 dL_law_135 rfl (lv_at hl 9 rfl) ?_
    refine lv_iload hC.1 hC.2.1 dL_law_136 (lv_at hl 6 rfl) ?_
    refine lv_iconst (v := (nI 1)) hC.1 hC.2.1 dL_law_138 (by decide) ?_
    refine p_cvB (n := 2) (k_word l hX (what := 1) ha hoa (by decide)) hC hE hP hD hS (hX.1.1) (hX.1.2) rfl gL_law_X0_word rfl (by decide +kernel) rfl ⟨by decide, by decide⟩ ⟨by show _ ≤ 600130; omega, by show _ ≤ 7301080; omega⟩ hl.1 (Nat.le_of_ble_eq_true rfl) dL_law_139 rfl ?_
    refine q_i (nI (ordN (deed (wd a)) + 1)) (rfl) ?_
    refine lv_aload_n hC.1 hC.2.1 dL_law_142 rfl (lv_at hl 9 rfl) ?_
    refine lv_iload hC.1 hC.2.1 dL_law_143 (lv_at hl 5 rfl) ?_
    refine lv_iconst (v := (nI 1)) hC.1 hC.2.1 dL_law_145 (by decide) ?_
    refine p_cvB (n := 2) (k_word l hX (what := 1) hb2 hob (by decide)) hC hE hP hD hS (hX.1.1) (hX.1.2) rfl gL_law_X0_word rfl (by decide +kernel) rfl ⟨by decide, by decide⟩ ⟨by show _ ≤ 600130; omega, by show _ ≤ 7301080; omega⟩ hl.1 (Nat.le_of_ble_eq_true rfl) dL_law_146 rfl ?_
    refine q_i (nI (ordN (deed (wd b2)) + 1)) (rfl) ?_
    refine z_icmp_ne (tgt := 187) hC dL_law_149 (by decide) (by omega) (by omega) (fun h_149 => by omega) (fun h_149 => ?_)
    refine lv_iload hC.1 hC.2.1 dL_law_152 (lv_at hl 0 rfl) ?_
    refine z_if_ne (tgt := 187) hC dL_law_154 (by decide) (by omega) (fun h_154 => by omega) (fun h_154 => ?_)
    refine lv_aload_n hC.1 hC.2.1 dL_law_157 rfl (lv_at hl 9 rfl) ?_
    refine lv_iload hC.1 hC.2.1 dL_law_158 (lv_at hl 6 rfl) ?_
    refine lv_iconst (v := (nI 2)) hC.1 hC.2.1 dL_law_160 (by decide) ?_
    refine p_cvB (n := 2) (kva) hC hE hP hD hS (hX.1.1) (hX.1.2) rfl gL_law_X0_shortest rfl (by decide +kernel) rfl ⟨by decide, by decide⟩ ⟨by show _ ≤ 600130; omega, by show _ ≤ 7301080; omega⟩ hl.1 (Nat.le_of_ble_eq_true rfl) dL_law_161 rfl ?_
    refine lv_aload_n hC.1 hC.2.1 dL_law_164 rfl (lv_at hl 9 rfl) ?_
    refine lv_iload hC.1 hC.2.1 dL_law_165 (lv_at hl 5 rfl) ?_
    refine lv_iconst (v := (nI 2)) hC.1 hC.2.1 dL_law_167 (by decide) ?_
    refine p_cvB (n := 2) (kvb) hC hE hP hD hS (hX.1.1) (hX.1.2) rfl gL_law_X0_shortest rfl (by decide +kernel) rfl ⟨by decide, by decide⟩ ⟨by show _ ≤ 600130; omega, by show _ ≤ 7301080; omega⟩ hl.1 (Nat.le_of_ble_eq_true rfl) dL_law_168 rfl ?_
    refine lv_icmp_ne (tgt := 187) hC.1 hC.2.1 dL_law_171 (by decide) (fun h_171 => absurd rfl h_171) (fun h_171 => ?_)
    exact k174 _ (lv_sub hl [8, 9, 10, 7, 6, 5, 3, 2, 0] rfl)

set_option maxHeartbeats 4000000 in
set_option maxRecDepth 100000 in
theorem law_loop {p : Program} {l : Launch} {e : Env} {s : State} {m : MethodId} {args : Array Value} {below : List Frame} {meth : Method} {c : Code} {Q : State → Prop} {D : va_G} {T : ClassId × ClassId × ClassId} {z0 : Nat} {hx g ln : Nat} {rw : Nat → Nat} {sc : Nat} (hC : CallFix p m c cL_law 16 s args wsL_law RL) (hE : zE D T z0 s) {Ln : Nat} {xs : Nat → Int32} (hLn : Ln ≤ 260) (hxs : va_X sc Ln xs s s.heap) (hsz : ¬ zA z0 sc) (kend : ∀ (H : Heap) (locs : List Loc) (ls : Array Slot), va_S (zA z0) s.heap H locs → W p l e room_1 s m args below meth c H locs 13 134 Q (F0 m 647 ls [])) : ∀ (n i : Nat), i + n = 12 → LGO p l e s m args below meth c Q D T z0 hx g ln rw sc i 38 := by
  intro n
  induction n with
  | zero =>
    intro i hi
    intro L f H locs b mk wd ls hX hPM hTW hP hD hS hl
    refine lv_iload_n hC.1 hC.2.1 dL_law_38 rfl (lv_at hl 2 rfl) ?_
    refine lv_bipush (v := (nI 12)) hC.1 hC.2.1 dL_law_39 (by decide) ?_
    refine z_icmp_ge (tgt := 647) hC dL_law_41 (by decide) (by omega) (by omega) (fun h_41 => ?_) (fun h_41 => by omega)
    exact kend _ _ _ hS
  | succ n ih =>
    intro i hi
    refine law_body hC hE hLn hxs hsz (by omega) ?_
    intro L f H locs b mk wd ls hX hPM hTW hP hD hS hl
    refine lv_iinc (v := nI (i + 1)) (lv' := [(2, .int (nI (i + 1))), (0, .ref sc), (1, .ref hx)]) hC.1 hC.2.1 dL_law_641 hl (k := 2) rfl (z_inc _) (by decide) rfl (fun ls hl => ?_)
    refine lv_goto (tgt := 38) hC.1 hC.2.1 dL_law_644 (by decide) ?_
    exact ih (i + 1) (by omega) _ _ _ _ _ _ _ _ hX hPM hTW hP hD hS (lv_sub hl [1, 2, 0] rfl)
end
section
/-! THE CLAIM OUT OF ONE WALK OF THE LAW'S BODY. Your part is whole_start (and what it stands on); all else here is the same for every law, but numbers. -/
def R_law : String := "CornerCubeLaw"
def lw_P (b : Addr) (xs : List Int32) (args : Array Value) (s : State) : Prop := args = #[.ref b] ∧ s.IntsAt b xs ∧ xs.length ≤ 260 ∧ (Jvm.Cond.and given_1 narrow_1).before args s = true
def lw_Q (_ : Array Value) (s : State) (o : Outcome) (t : State) : Prop := o = .returned (some (.int 1)) ∧ Framed s o t [] 600130 7301080
def lw_Z (below : List Frame) (a : Array Value) (s : State) : State → Prop := fun t => ∃ o, t.status = .running ∧ Ended t below o ∧ lw_Q a s o t
/-- the law's own end, with 1 on the stack, nothing written that was there before, its room as the claim has it -/
theorem lw_ret {p : Program} {l : Launch} {e : Env} {s : State} {m : MethodId} {below : List Frame} {meth : Method} {c : Code} {b : Nat} (hx : p.tables.exec = Jvm.exec) (hb : c.code = code) (hr : meth.sig.returnType = ret) (hlocks : meth.locks = false) {pc : Nat} {H : Heap} {ls : Array Slot} (hdg : decode code pc = .ok (.ireturn, 1)) : W p l e room_1 s m #[Value.ref b] below meth c H [] 600130 7301080 (lw_Z below #[Value.ref b] s) (F0 m pc ls [.int 1]) := by
  intro T hT X
  obtain ⟨fs, hret, hrun, hended, hW, hframe⟩ := X.leave (v := some (.int 1)) (hlocks := hlocks) (fun h => by rw [hr] at h; cases h)
  have hmeth' : T.vm.method? m = some meth := X.method'
  refine ⟨T.setFrames fs, ?_, .returned (some (.int 1)), hrun, hended, rfl, ⟨_, rfl⟩, hW, hframe⟩
  jvm_step X.here [X.here.top, hx, hb, hdg, hmeth', hr, ret, narrow_b1]
  (try refine ⟨rfl, ?_⟩); (try refine ⟨rfl, ?_⟩)
  first | (intro acts; rw [hret _ acts rfl rfl rfl]) | rw [hret _ _ rfl rfl rfl]
  exact Steps.refl _
/-- what holds at the law's entry: the machine, the code, the tables' words (any of lw_tbl by 'hts w (by decide +kernel)'), the script of L ints xs at the cell b, what the Statement gives of the start (any of its parts by flat_of_before) -/
def lw_At (p : Program) (s : State) (m : MethodId) (meth : Method) (c : Code) (b L : Nat) (xs : Nat → Int32) : Prop :=
  p.tables.exec = Jvm.exec ∧ c.code = code ∧ meth.sig.returnType = ret ∧ c.maxLocals = 16 ∧ s.vm.findClass R_law = some m.cls ∧ (∀ w ∈ lw_tbl, w.before #[Value.ref b] s = true) ∧ va_X b L xs s s.heap ∧ b < s.heap.size ∧ meth.locks = false ∧ (Jvm.Cond.and given_1 narrow_1).before #[Value.ref b] s = true
end
section
/-! MY ROWS 41: the law from its entry (laid by a program of mine) -/
set_option maxHeartbeats 4000000 in
set_option maxRecDepth 100000 in
theorem law_words {p : Program} {l : Launch} {e : Env} {s : State} {m : MethodId} {args : Array Value} {below : List Frame} {meth : Method} {c : Code} {Q : State → Prop} {D : va_G} {T : ClassId × ClassId × ClassId} {z0 : Nat} {hx g ln : Nat} {rw : Nat → Nat} {sc : Nat} (hC : CallFix p m c cL_law 16 s args wsL_law RL) (hE : zE D T z0 s) {Ln : Nat} {xs : Nat → Int32} (hLn : Ln ≤ 260) (hxs : va_X sc Ln xs s s.heap) (hsz : ¬ zA z0 sc) (k38 : LGO p l e s m args below meth c Q D T z0 hx g ln rw sc 0 38) : ∀ (n w : Nat) {L : List Nat} {f : Nat → va_E} {H : Heap} {locs : List Loc} {wd : Nat → List Nat} {ls : Array Slot}, w + n = 5 → CX T L f hx g ln rw one (nI 0) wd → (∀ v, w ≤ v → v < 5 → wd v = []) → va_P D vwCl (va_pl L f) H → va_D (zA z0) (va_pl L f) → va_S (zA z0) s.heap H locs → lv_has ls 16 [(2, .int (nI w)), (0, .ref sc), (1, .ref hx)] → W p l e room_1 s m args below meth c H locs (8 + w) (74 + 12 * w) Q (F0 m 10 ls []) := by
  intro n
  induction n with
  | zero =>
    intro w L f H locs wd ls hw hX hemp hP hD hS hl
    refine lv_iload_n hC.1 hC.2.1 dL_law_10 rfl (lv_at hl 0 rfl) ?_
    refine lv_iconst (v := (nI 5)) hC.1 hC.2.1 dL_law_11 (by decide) ?_
    refine z_icmp_ge (tgt := 36) hC dL_law_12 (by decide) (by omega) (by omega) (fun h_12 => ?_) (fun h_12 => by omega)
    refine lv_iconst (v := (nI 0)) hC.1 hC.2.1 dL_law_36 (by decide) ?_
    refine lv_istore_n (lv' := [(2, .int (nI 0)), (0, .ref sc), (1, .ref hx)]) hC.1 hC.2.1 dL_law_37 rfl hl (by decide) rfl (fun ls hl => ?_)
    exact W.widen (by omega) (by omega) (k38 _ _ _ _ _ _ _ _ hX PM.one TW.one hP hD hS (lv_sub hl [1, 2, 0] rfl))
  | succ n ih =>
    intro w L f H locs wd ls hw hX hemp hP hD hS hl
    refine lv_iload_n hC.1 hC.2.1 dL_law_10 rfl (lv_at hl 0 rfl) ?_
    refine lv_iconst (v := (nI 5)) hC.1 hC.2.1 dL_law_11 (by decide) ?_
    refine z_icmp_ge (tgt := 36) hC dL_law_12 (by decide) (by omega) (by omega) (fun h_12 => by omega) (fun h_12 => ?_)
    refine lv_aload_n hC.1 hC.2.1 dL_law_15 rfl (lv_at hl 2 rfl) ?_
    refine lv_iload_n hC.1 hC.2.1 dL_law_16 rfl (lv_at hl 0 rfl) ?_
    refine lv_aload_n hC.1 hC.2.1 dL_law_17 rfl (lv_at hl 1 rfl) ?_
    refine lv_iload_n hC.1 hC.2.1 dL_law_18 rfl (lv_at hl 0 rfl) ?_
    refine p_csGH (n := 2) (k_wordOf l (D := D) (T := T) (L := L) (f := f) hLn hsz (w := w) (by omega)) zPreX.blind (fun U hU hW => zPreX.pass hE hP hD hS hxs hsz U hU hW) hC hS gL_law_L_wordOf rfl (by decide +kernel) rfl ⟨by decide, by decide⟩ ⟨by show _ ≤ 600130; omega, by show _ ≤ 7301080; omega⟩ hl.1 (Nat.le_of_ble_eq_true rfl) dL_law_19 rfl (fun o1 L1 f1 H locs hpost hP hD hS => ?_)
    obtain ⟨q, gq, lw, rfl, hq, hLe, hfq, hkeep, h12, h9⟩ := hpost
    rw [hLe] at hP hD
    have hX1 := hX.keep (L' := L ++ [q]) (f' := f1) (fun a ha => ⟨List.mem_append_left _ ha, hkeep a ha⟩)
    refine p_csH (n := 3) (k_sayW l hX1 (w := w) (q := q) (by omega) (hemp w (Nat.le_refl _) (by omega)) (List.mem_append_right _ (List.mem_singleton.mpr rfl)) hfq (fun e : q = hx => hq (e ▸ hX.1.1)) (fun e : q = ln => hq (e ▸ hX.2.2.1.1)) (fun v hv (e : q = rw v) => hq (e ▸ (hX.2.2.2.1 v hv).1)) h12 h9) hC hE hP hD hS gL_law_L_say rfl (by decide +kernel) rfl ⟨by decide, by decide⟩ ⟨by show _ ≤ 600130; omega, by show _ ≤ 7301080; omega⟩ hl.1 (Nat.le_of_ble_eq_true rfl) dL_law_22 rfl (fun o2 L2 f2 H locs hpost hP hD hS => ?_)
    obtain ⟨rfl, hLe2, hX2⟩ := hpost
    rw [hLe2] at hP hD
    refine z_if_ne (tgt := 30) hC dL_law_25 (by decide) (by decide) (fun h_25 => ?_) (fun h_25 => by omega)
    refine lv_iinc (v := nI (w + 1)) (lv' := [(2, .int (nI (w + 1))), (0, .ref sc), (1, .ref hx)]) hC.1 hC.2.1 dL_law_30 hl (k := 0) rfl (z_inc _) (by decide) rfl (fun ls hl => ?_)
    refine lv_goto (tgt := 10) hC.1 hC.2.1 dL_law_33 (by decide) ?_
    exact W.widen (by omega) (by omega) (ih (w + 1) (by omega) hX2 (fun v h1 h2 => (if_neg (by omega)).trans (hemp v (by omega) h2)) hP hD hS (lv_sub hl [0, 1, 2] rfl))

-- ===== YOUR PART BEGINS =====
/-- YOUR PART: from the entry, for every script of at most 260 ints, the law comes to its end with true ('hflags': the launch's flags, for a law that throws: no stack traces) -/
theorem whole_start {p : Program} {e : Env} {s : State} {m : MethodId} {below : List Frame} {meth : Method} {c : Code} (l : Launch) (hflags : l.flags = flags0) {b L : Nat} {xs : Nat → Int32} (hL : L ≤ 260) (C0 : lw_At p s m meth c b L xs) : W p l e room_1 s m #[Value.ref b] below meth c s.heap [] 0 0 (lw_Z below #[Value.ref b] s) (entryFrame m ([Value.ref b] : List Value).toArray 16) := by
  obtain ⟨hx0, hb0, hr0, hml, hown, hts, hX, hbl, hlocks, hgv⟩ := id C0
  have hA : ∀ a : Nat, a < s.heap.size → ¬ zA s.heap.size a := fun a h => Nat.not_le.mpr h
  have hSF : SF s.heap.size s s.heap := trivial
  have hAO : va_AOA .int s := by
    have h9 := hts (.arrayOver (.array .int)) (by decide +kernel)
    exact h9
  obtain ⟨c0, iS0, hKn0⟩ := u_known (C := RX0) (T := TX0) (N := 4) (n := 4) hts (by decide +kernel) (hts (.instantiable RX0 4) (by decide +kernel))
  obtain ⟨D, hKc⟩ : ∃ D : va_G, ∀ (k : Nat) (q : vw_C), vwCl[k]? = some q → u_Kn s q.1 q.2.1 q.2.2 (D.1 k) (D.2 k) := by
    refine ⟨(fun _ => c0, fun _ => iS0), ?_⟩
    intro k q hq
    match k, hq with
    | 0, hq => cases hq; exact hKn0
    | k + 1, hq => simp [vwCl] at hq
  obtain ⟨cI, kI, coI, i1, i2, i3⟩ := Cond.arrayClass_spec (hts (.arrayClass .int) (by decide +kernel))
  obtain ⟨coA, cA, kA, -, -, a3, a4, a5⟩ := AOA_spec hAO
  have hK : va_K D vwCl (zT (cI, cI, cA)) s := by
    refine ⟨hKc, fun k q hq => ?_⟩
    match k, hq with
    | 0, hq => cases hq; exact ⟨fun n z => ⟨fun k h => (by cases h), kI, i2, coI, i3⟩, i1⟩
    | 1, hq => cases hq; exact ⟨fun n z => ⟨fun k h => (by cases h), kI, i2, coI, i3⟩, i1⟩
    | 2, hq => cases hq; exact ⟨fun n z => ⟨fun k h => (by cases h), kA, a3, coA, a4⟩, a5⟩
    | k + 3, hq => simp [zT] at hq
  have hE : zE D (cI, cI, cA) s.heap.size s := ⟨Nat.le_refl _, hSF, hK⟩
  generalize (cI, cI, cA) = T at hE
  have hS : va_S (zA s.heap.size) s.heap s.heap [] := va_S.rf
  have hC : CallFix p m c cL_law 16 s #[Value.ref b] wsL_law RL := ⟨hx0, hb0, hml, hown, fun w hw => hts w (wsL_law_in w hw)⟩
  have hl := lv_entry ([.ref b]) (n := 16) (Nat.le_of_ble_eq_true rfl)
  rw [lg_entry_eq]
  generalize (lg_sl ([.ref b]) ++ List.replicate (16 - (lg_sl ([.ref b])).length) Slot.unset).toArray = ls at hl ⊢
  have hl : lv_has ls 16 [(0, .ref b)] := hl
  show W p l e room_1 s m #[Value.ref b] below meth c s.heap [] 0 0 (lw_Z below #[Value.ref b] s) (F0 m 0 ls [])
  have hP : va_P D vwCl (va_pl [] (fun _ => eO 0 [])) s.heap := fun k q h => by simp [va_pl] at h
  have hD : va_D (zA s.heap.size) (va_pl [] (fun _ => eO 0 [])) := ⟨fun i j p q h => by simp [va_pl] at h, fun k q h => by simp [va_pl] at h⟩
  have kend : ∀ (H : Heap) (locs : List Loc) (ls : Array Slot), va_S (zA s.heap.size) s.heap H locs → W p l e room_1 s m #[Value.ref b] below meth c H locs 13 134 (lw_Z below #[Value.ref b] s) (F0 m 647 ls []) := by
    intro H locs ls hS
    refine lv_iconst (v := 1) hx0 hb0 dL_law_647 (by decide) ?_
    refine va_forget (fun q hq => hS.2.2 q hq) ?_
    exact W.widen (k := 600130) (n := 7301080) (by omega) (by omega) (lw_ret hx0 hb0 hr0 hlocks dL_law_648)
  refine p_newO (Cn := RX0) (TT := TX0) (N := 4) (ci := 0) (index := 20) (fs := [.long 0, .int 0, .null, .null]) hC hE hP hD hS (by decide +kernel) tyX0_ok (by decide +kernel) (by decide +kernel) (by decide +kernel) rfl (fun j hj => by rcases (by omega : j = 0 ∨ j = 1 ∨ j = 2 ∨ j = 3) with rfl | rfl | rfl | rfl <;> rfl) (by show _ ≤ 600130; omega) (by show _ ≤ 7301080; omega) dL_law_0 (fun hx H hhx hP hD hS => ?_)
  refine lv_dup hC.1 hC.2.1 dL_law_3 rfl ?_
  refine p_ciH (n := 0) (k_X0init l (hx := hx) (List.mem_append_right [] (List.mem_singleton.mpr rfl)) (va_up_self _ _ _)) hC hE hAO hP hD hS gL_law_X0_init rfl (by decide +kernel) (by decide +kernel) (by decide +kernel) rfl (by decide +kernel) rfl ⟨by decide, by decide⟩ ⟨by show _ ≤ 600130; omega, by show _ ≤ 7301080; omega⟩ hl.1 (Nat.le_of_ble_eq_true rfl) dL_law_4 rfl (fun o L1 f1 H locs hpost hP hD hS => ?_)
  obtain ⟨rfl, g, ln, rw, hX1, -⟩ := hpost
  refine lv_astore_n (lv' := [(1, .ref hx), (0, .ref b)]) hC.1 hC.2.1 dL_law_7 rfl hl (by decide) rfl (fun ls hl => ?_)
  refine lv_iconst (v := (nI 0)) hC.1 hC.2.1 dL_law_8 (by decide) ?_
  refine lv_istore_n (lv' := [(2, .int (nI 0)), (1, .ref hx), (0, .ref b)]) hC.1 hC.2.1 dL_law_9 rfl hl (by decide) rfl (fun ls hl => ?_)
  exact law_words hC hE hL hX (hA b hbl) (law_loop hC hE hL hX (hA b hbl) kend 12 0 (Nat.zero_add 12)) 5 0 (Nat.zero_add 5) hX1 (fun _ _ _ => rfl) hP hD hS (lv_sub hl [0, 2, 1] rfl)
end
section
-- ===== YOUR PART ENDS =====
set_option maxHeartbeats 4000000 in
theorem lw_walk (l : Launch) (hflags : l.flags = flags0) (b : Addr) (xs : List Int32) : MetFree l x (headSpec (Jvm.Cond.code x code maxLocals ret :: tables_1) room_1) (lw_P b xs) (fun _ _ _ _ _ => True) lw_Q := by
  refine MetFree.of_bodyS (code := code) (maxLocals := maxLocals) (ret := ret) (by decide) ?_ ?_
  · intro args s m h hn
    obtain ⟨meth, c, h1, h2, h3, h4, h5, h6, -, -⟩ := Cond.code_spec hn (atoms_spec (ws := Jvm.Cond.code x code maxLocals ret :: tables_1) h _ List.mem_cons_self)
    exact ⟨meth, c, h1, h2, h3, h4, h5, h6⟩
  · intro p e s m args below meth c s₁ B hml0 hP _
    obtain ⟨rfl, hx, hbd, hgv⟩ := hP
    obtain ⟨scr, harrAt, hlist, hof, hsmall⟩ := hx
    obtain ⟨hcb, hkn, -, -⟩ := State.arrayAt?_spec harrAt
    have hown : s.vm.findClass R_law = some m.cls := findClass_of_methodNamed B.named
    have hts0 : ∀ c ∈ (Jvm.Cond.code x code maxLocals ret :: tables_1), c.before #[Value.ref b] s = true := atoms_spec (ws := Jvm.Cond.code x code maxLocals ret :: tables_1) B.pre
    have hts : ∀ w ∈ lw_tbl, w.before #[Value.ref b] s = true := k2_hts_sels lw_privs (fun w hw => hts0 w (List.mem_cons_of_mem _ hw)) lw_privs_ok
    have hml : c.maxLocals = 16 := B.maxLocals_eq (hts0 _ List.mem_cons_self)
    have X₀ : Stand p l e room_1 s m #[Value.ref b] below meth c s₁ [] 0 0 := Stand.of_body B
    have hh0 : s₁.heap = s.heap := by rw [B.state]; rfl
    have hsz : scr.slots.size = xs.length := by rw [← Array.length_toList, hlist, List.length_map]
    have hval : ∀ j : Nat, j < xs.length → scr.slots[j]? = some (.int (xs.getD j 0)) := fun j hj => by
      rw [← Array.getElem?_toList, hlist]
      simp [hj]
    have hbl : b < s.heap.size := (Array.getElem?_eq_some_iff.mp hcb).1
    have hX : va_X b xs.length (fun j => xs.getD j 0) s s.heap := ⟨scr, hcb, hof, hkn, hsz, hval⟩
    have K : W p l e room_1 s m #[Value.ref b] below meth c s₁.heap [] 0 0 (lw_Z below #[Value.ref b] s) (entryFrame m ([Value.ref b] : List Value).toArray 16) := by
      rw [hh0]
      exact whole_start l hflags hbd ⟨B.exec, B.bytes, B.returns, hml, hown, hts, hX, hbl, B.notSynchronized, hgv⟩
    obtain ⟨t, a1, o, b1, b2, b3⟩ := K s₁ rfl X₀
    exact ⟨t, o, a1, b1, b2, b3⟩
theorem lw_pre_spec {args : Array Value} {s : State} (h : (Jvm.Cond.and given_1 narrow_1).before args s = true) (hr : rest_1_c.before args s = true) : ∃ (b : Addr) (xs : List Int32), lw_P b xs args s := by
  have hs := flat_of_before _ h
  have hq := flat_of_before _ hr
  have hc : (Cond.count 1).before args s = true := hs _ (by decide +kernel)
  have harr : (Cond.arrayOf (.arg 0) .int).before args s = true := hs _ (by decide +kernel)
  have hle : (Cond.le (.length (.arg 0)) (.int 260)).before args s = true := hs _ (by decide +kernel)
  have hlen : (Cond.isInt (.length (.arg 0))).before args s = true := hq _ (by decide +kernel)
  have hall : (Cond.all (.arg 0) (.isInt (.elem (.arg 0) (.index 0)))).before args s = true := hq _ (by decide +kernel)
  obtain ⟨b, xs, hb, hx⟩ := State.ints_of_pre rfl harr hlen hall
  have hsm : xs.length < 2 ^ 31 := hx.choose_spec.2.2.2
  have hev : (Term.length (.arg 0)).eval args s none [] s = some (.int xs.length.toInt32) := hx.length_eval hb
  have hv := Cond.le_ints hev (show (Term.int 260).eval args s none [] s = some (.int 260) from rfl)
  have hd : xs.length.toInt32 ≤ 260 := by
    simpa [Cond.before, Cond.holds, hv] using hle
  have hN : xs.length ≤ 260 := (Int32.ofNat_le_ofNat hsm (by decide)).mp (show Int32.ofNat xs.length ≤ Int32.ofNat 260 from hd)
  exact ⟨b, xs, Cond.one_arg hc (show args[0]? = some (.ref b) from hb), hx, hN, h⟩
theorem lw_comes (l : Launch) (hflags : l.flags = flags0) : Comes l x (Jvm.Cond.code x code maxLocals ret :: tables_1) room_1 (fun tb e args s => Calls_1 tb e args s ∧ rest_1 tb e args s ∧ Pre_1 tb e args s)
    (fun _ _ args s o t => lw_Q args s o t) := by
  intro p e ha hc hk s m args below hf hfit hheap happ hpre
  obtain ⟨b, xs, hP⟩ := lw_pre_spec hpre.2.2 hpre.2.1
  obtain ⟨k, o, h1, h2, h3, hQ⟩ := lw_walk l hflags b xs p e ha hc hk s m args below hf ((Spec.applies_iff_loose hf).mp happ).1 hP trivial
  exact ⟨k, o, h1, h2, h3, hQ⟩
theorem lw_frame {s t : State} {o : Outcome} {args : Array Value} (h : Framed s o t [] 600130 7301080) :
    Framed s o t (fieldLocs frame_1_writes args s ++ arrayLocs frame_1_arrays args s ++ staticLocs frame_1_statics s) 600130 7301080 := h
theorem lw_limb (L : Cond) (hL : ∀ (args : Array Value) (s t : State), L.after args s (.returned (some (.int 1))) t = true) :
    ArmFor flags0 classFile x code maxLocals ret World_1 tables_1 room_1 Calls_1 rest_1 Pre_1
      (fun tb e a s o t => postC L tb e a s o t ∧ Framed s o t (fieldLocs frame_1_writes a s ++ arrayLocs frame_1_arrays a s ++ staticLocs frame_1_statics s) 600130 7301080) := by
  intro l hflags _ _ p e ha hc hk s m args below hf hfit hheap happ hpre
  obtain ⟨k, o, h1, h2, h3, rfl, hF⟩ := lw_comes l hflags p e ha hc hk s m args below hf hfit hheap happ hpre
  exact ⟨k, _, h1, h2, h3, hL args s _, lw_frame hF⟩
theorem i_vc : Claimed_1_1 ∧ Claimed_1_2 := ⟨lw_limb limb_1_1 (fun args s t => by simp [limb_1_1, Cond.after, Cond.holds, Cond.value]), lw_limb limb_1_2 (fun args s t => Cond.after_iff.mpr (by
  first | (rw [show limb_1_2 = Cond.eq .result (.int 1) from rfl, Cond.eq_ints (x := 1) (y := 1) rfl rfl]; simp; done) | (simp [limb_1_2, Cond.value, Term.eval]; done)))⟩
end
