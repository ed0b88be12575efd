/-! MY ROWS 08: cells of the pool, read, written, made -/
theorem pl_get {L : List Nat} {f : Nat → va_E} {a : Nat} (h : a ∈ L) : ∃ k : Nat, (va_pl L f)[k]? = some (a, f a) := by
  obtain ⟨k, hk⟩ := va_pl_get (X := []) (f := f) h
  rw [List.nil_append] at hk
  exact ⟨k, hk⟩
theorem pl_set {A : Nat → Prop} {L : List Nat} {f : Nat → va_E} {a k : Nat} {e : va_E} (hD : va_D A (va_pl L f)) (h : a ∈ L) (hk : (va_pl L f)[k]? = some (a, f a)) : (va_pl L f).set k (a, e) = va_pl L (va_up f a e) := by
  have h1 := va_pl_set (X := []) (e := e) (by rw [List.nil_append]; exact hD) h (by rw [List.nil_append]; exact hk)
  rw [List.nil_append, List.nil_append] at h1
  exact h1
theorem pl_new {A : Nat → Prop} {L : List Nat} {f : Nat → va_E} {q : Nat} {e : va_E} (hD : va_D A (va_pl L f ++ [(q, e)])) : q ∉ L := va_pl_fresh2 (X := []) (by rw [List.nil_append]; exact hD)
section ZC
variable {p : Program} {l : Launch} {e : Env} {R : Room} {s : State} {m : MethodId} {args : Array Value} {below : List Frame} {meth : Method} {c : Code} {H : Heap} {locs : List Loc} {cells slots : Nat} {Q : State → Prop}
variable {Ts : List Cond} {own : String} {nL : Nat} {cc : ByteArray} {pc : Nat} {ls : Array Slot} {rest : List Value} {D : va_G} {T : ClassId × ClassId × ClassId} {z0 : Nat} {L : List Nat} {f : Nat → va_E}
theorem zA_hA (hE : zE D T z0 s) : ∀ q, s.heap.size ≤ q → zA z0 q := fun q h => Nat.le_trans hE.1 h
theorem p_get {Cn ref : String} {TT : u_T} {N ci index a : Nat} {fs : List Value} (hC : CallFix p m c cc nL s args Ts Cn) (hE : zE D T z0 s) (hP : va_P D vwCl (va_pl L f) H) (hm : a ∈ L) (he : f a = .inr (ci, fs)) (hc : vwCl[ci]? = some (Cn, TT, N)) (hin : ∀ w ∈ u_ws Cn TT N, w ∈ Ts) (k : Nat) (hk : k < N) (hlink : Cond.fieldLink Cn index ref (TT k).2.1 (TT k).2.2.1 ∈ Ts) (hsame : ref = (TT k).1) {v : Value} (hv : fs[k]? = some v) (hdg : decode cc pc = .ok (.getfield index, 3))
    (kk : W p l e R s m args below meth c H locs cells slots Q (F0 m (pc + 3) ls (v :: rest))) : W p l e R s m args below meth c H locs cells slots Q (F0 m pc ls (.ref a :: rest)) := by
  obtain ⟨j, hj⟩ := pl_get (f := f) hm
  rw [he] at hj
  exact va_get hC.1 hC.2.1 hC.2.2.2.2 hin hC.2.2.2.1 hE.2.2 hP j hj hc k hk (hC.2.2.2.2 _ hlink) (fun x h => by rw [hsame]; exact h) hv hdg kk
theorem p_put {Cn ref : String} {TT : u_T} {N ci index a : Nat} {fs : List Value} {ty0 : Nat → FieldType} (hC : CallFix p m c cc nL s args Ts Cn) (hE : zE D T z0 s) (hP : va_P D vwCl (va_pl L f) H) (hD : va_D (zA z0) (va_pl L f)) (hS : va_S (zA z0) s.heap H locs) (hm : a ∈ L) (he : f a = .inr (ci, fs)) (hc : vwCl[ci]? = some (Cn, TT, N)) (hin : ∀ w ∈ u_ws Cn TT N, w ∈ Ts)
    (hty : ∀ k, k < N → parseFieldDescriptor (TT k).2.2.1 = some (ty0 k)) (hnm : ∀ a, a < N → ∀ b, b < N → a ≠ b → (TT a).2.1 ≠ (TT b).2.1) (k : Nat) (hk : k < N) (hlink : Cond.fieldLink Cn index ref (TT k).2.1 (TT k).2.2.1 ∈ Ts) (hsame : ref = (TT k).1) (hfin : (TT k).2.2.2 = false) {v : Value} (hn : narrow (ty0 k) v = v) (hfit : fits (ty0 k) v = true) (hl : k < fs.length) (hdg : decode cc pc = .ok (.putfield index, 3))
    (kk : ∀ (H1 : Heap) (locs1 : List Loc), va_P D vwCl (va_pl L (va_up f a (.inr (ci, fs.set k v)))) H1 → va_D (zA z0) (va_pl L (va_up f a (.inr (ci, fs.set k v)))) → va_S (zA z0) s.heap H1 locs1 → W p l e R s m args below meth c H1 locs1 cells slots Q (F0 m (pc + 3) ls rest)) : W p l e R s m args below meth c H locs cells slots Q (F0 m pc ls (v :: .ref a :: rest)) := by
  obtain ⟨j, hj⟩ := pl_get (f := f) hm
  have e := fun e => pl_set (e := e) hD hm hj
  rw [he] at hj
  refine va_put (ty := ty0 k) hC.1 hC.2.1 hC.2.2.2.2 hin ty0 hty hnm hC.2.2.2.1 hE.2.2 hP hD hS j hj hc k hk (hC.2.2.2.2 _ hlink) (fun x h => by rw [hsame]; exact h) hfin (hty k hk) hn hfit hl hdg (fun H1 locs1 hP1 hD1 hS1 => ?_)
  rw [e] at hP1 hD1
  exact kk H1 locs1 hP1 hD1 hS1
theorem p_putF {Cn ref : String} {TT : u_T} {N ci index a : Nat} {fs : List Value} {ty0 : Nat → FieldType} (hC : CallFix p m c cc nL s args Ts Cn) (hE : zE D T z0 s) (hP : va_P D vwCl (va_pl L f) H) (hD : va_D (zA z0) (va_pl L f)) (hS : va_S (zA z0) s.heap H locs) (hm : a ∈ L) (he : f a = .inr (ci, fs)) (hc : vwCl[ci]? = some (Cn, TT, N)) (hin : ∀ w ∈ u_ws Cn TT N, w ∈ Ts)
    (hty : ∀ k, k < N → parseFieldDescriptor (TT k).2.2.1 = some (ty0 k)) (hnm : ∀ a, a < N → ∀ b, b < N → a ≠ b → (TT a).2.1 ≠ (TT b).2.1) (k : Nat) (hk : k < N) (hlink : Cond.fieldLink Cn index ref (TT k).2.1 (TT k).2.2.1 ∈ Ts) (hsame : ref = (TT k).1) (hfin : (TT k).2.2.2 = true) (hi : meth.name = "<init>") (hdecl : (TT k).1 = Cn) {v : Value} (hn : narrow (ty0 k) v = v) (hfit : fits (ty0 k) v = true) (hl : k < fs.length) (hdg : decode cc pc = .ok (.putfield index, 3))
    (kk : ∀ (H1 : Heap) (locs1 : List Loc), va_P D vwCl (va_pl L (va_up f a (.inr (ci, fs.set k v)))) H1 → va_D (zA z0) (va_pl L (va_up f a (.inr (ci, fs.set k v)))) → va_S (zA z0) s.heap H1 locs1 → W p l e R s m args below meth c H1 locs1 cells slots Q (F0 m (pc + 3) ls rest)) : W p l e R s m args below meth c H locs cells slots Q (F0 m pc ls (v :: .ref a :: rest)) := by
  obtain ⟨j, hj⟩ := pl_get (f := f) hm
  have e := fun e => pl_set (e := e) hD hm hj
  rw [he] at hj
  refine va_putF (ty := ty0 k) hC.1 hC.2.1 hC.2.2.2.2 hin ty0 hty hnm hC.2.2.2.1 hE.2.2 hP hD hS j hj hc k hk (hC.2.2.2.2 _ hlink) (fun x h => by rw [hsame]; exact h) hfin hi hdecl (hty k hk) hn hfit hl hdg (fun H1 locs1 hP1 hD1 hS1 => ?_)
  rw [e] at hP1 hD1
  exact kk H1 locs1 hP1 hD1 hS1
theorem p_iald {a n j : Nat} {g : Nat → Int32} (hC : CallFix p m c cc nL s args Ts own) (hE : zE D T z0 s) (hP : va_P D vwCl (va_pl L f) H) (hm : a ∈ L) (he : f a = eI T.1 n g) (hj : j < n) (hn : n < 2 ^ 31) (hdg : decode cc pc = .ok (.iaload, 1))
    (kk : W p l e R s m args below meth c H locs cells slots Q (F0 m (pc + 1) ls (.int (g j) :: rest))) : W p l e R s m args below meth c H locs cells slots Q (F0 m pc ls (.int (nI j) :: .ref a :: rest)) := by
  obtain ⟨k, hk⟩ := pl_get (f := f) hm
  rw [he] at hk
  refine va_iald hC.1 hC.2.1 hE.2.2 hP k 0 hk rfl (vp_in_nI hj hn) hdg ?_
  rw [nI_clamp (Nat.lt_trans hj hn)]
  exact kk
theorem p_iast {a n j : Nat} {g : Nat → Int32} {x : Int32} (hC : CallFix p m c cc nL s args Ts own) (hE : zE D T z0 s) (hP : va_P D vwCl (va_pl L f) H) (hD : va_D (zA z0) (va_pl L f)) (hS : va_S (zA z0) s.heap H locs) (hm : a ∈ L) (he : f a = eI T.1 n g) (hj : j < n) (hn : n < 2 ^ 31) (hdg : decode cc pc = .ok (.iastore, 1))
    (kk : ∀ (H1 : Heap) (locs1 : List Loc), va_P D vwCl (va_pl L (va_up f a (eI T.1 n (upd g j x)))) H1 → va_D (zA z0) (va_pl L (va_up f a (eI T.1 n (upd g j x)))) → va_S (zA z0) s.heap H1 locs1 → W p l e R s m args below meth c H1 locs1 cells slots Q (F0 m (pc + 1) ls rest)) : W p l e R s m args below meth c H locs cells slots Q (F0 m pc ls (.int x :: .int (nI j) :: .ref a :: rest)) := by
  obtain ⟨k, hk⟩ := pl_get (f := f) hm
  have e := fun e => pl_set (e := e) hD hm hk
  rw [he] at hk
  refine va_iast hC.1 hC.2.1 hE.2.2 hP hD hS k 0 hk rfl (vp_in_nI hj hn) hdg (fun H1 locs1 hP1 hD1 hS1 => ?_)
  rw [nI_clamp (Nat.lt_trans hj hn), e] at hP1 hD1
  exact kk H1 locs1 hP1 hD1 hS1
theorem p_aald {a n j y : Nat} {g : Nat → Option Nat} (hC : CallFix p m c cc nL s args Ts own) (hE : zE D T z0 s) (hP : va_P D vwCl (va_pl L f) H) (hm : a ∈ L) (he : f a = eQ T.2.2 n g) (hj : j < n) (hn : n < 2 ^ 31) (hg : g j = some y) (hdg : decode cc pc = .ok (.aaload, 1))
    (kk : W p l e R s m args below meth c H locs cells slots Q (F0 m (pc + 1) ls (.ref y :: rest))) : W p l e R s m args below meth c H locs cells slots Q (F0 m pc ls (.int (nI j) :: .ref a :: rest)) := by
  obtain ⟨k, hk⟩ := pl_get (f := f) hm
  rw [he] at hk
  have hin := vp_in_nI hj hn
  have hcl := nI_clamp (Nat.lt_trans hj hn)
  exact W.aald (v := .ref y) (ty := .array .int) hC.1 hC.2.1 (hP k _ hk) ((hE.2.2.2 2 _ rfl).1 n (fun j => va_rf (g j))) rfl (fun q => by cases q) (by show ¬ (nI j < 0 ∨ (arrV _ _ _).slots.size ≤ _); rw [arrV_size]; exact hin) (by show (arrV _ _ _).slots[_]? = _; rw [hcl, arrV_read _ _ hj]; exact congrArg (fun x => some (va_rf x)) hg) rfl rfl hdg kk
theorem p_alen {a n : Nat} {g : Nat → Int32} (hC : CallFix p m c cc nL s args Ts own) (hE : zE D T z0 s) (hP : va_P D vwCl (va_pl L f) H) (hm : a ∈ L) (he : f a = eI T.1 n g) (hdg : decode cc pc = .ok (.arraylength, 1))
    (kk : W p l e R s m args below meth c H locs cells slots Q (F0 m (pc + 1) ls (.int (nI n) :: rest))) : W p l e R s m args below meth c H locs cells slots Q (F0 m pc ls (.ref a :: rest)) := by
  obtain ⟨k, hk⟩ := pl_get (f := f) hm
  rw [he] at hk
  exact va_alen hC.1 hC.2.1 hE.2.2 hP k 0 hk rfl rfl hdg kk
theorem p_newI {n : Nat} (hC : CallFix p m c cc nL s args Ts own) (hE : zE D T z0 s) (hP : va_P D vwCl (va_pl L f) H) (hD : va_D (zA z0) (va_pl L f)) (hS : va_S (zA z0) s.heap H locs) (harr : Cond.arrayClass .int ∈ Ts) (hn : n ≤ 1000) (hcells : cells + 1 ≤ R.cells) (hslots : slots + n ≤ R.slots) (hdg : decode cc pc = .ok (.newarray .int, 2))
    (kk : ∀ (q : Nat) (H1 : Heap), q ∉ L → va_P D vwCl (va_pl (L ++ [q]) (va_up f q (eI T.1 n (fun _ => 0)))) H1 → va_D (zA z0) (va_pl (L ++ [q]) (va_up f q (eI T.1 n (fun _ => 0)))) → va_S (zA z0) s.heap H1 locs → W p l e R s m args below meth c H1 locs (cells + 1) (slots + n) Q (F0 m (pc + 2) ls (.ref q :: rest))) : W p l e R s m args below meth c H locs cells slots Q (F0 m pc ls (.int (nI n) :: rest)) := by
  have h31 : n < 2 ^ 31 := Nat.lt_of_le_of_lt hn (by decide)
  refine va_newa (atype := .int) (ty := .int) (a0 := (n, .inl (fun _ => 0))) hC.1 hC.2.1 (hC.2.2.2.2 _ harr) rfl hE.2.2 hP hD hS (zA_hA hE) (fun _ => rfl) (nI_pos h31) (nI_clamp h31) (by show n * 4 ≤ 536870912; omega) hcells hslots hdg (fun q cA H1 hK1 hP1 hD1 hS1 => ?_)
  have h1 : s.vm.findClass "[I" = some T.1 := (hE.2.2.2 0 _ rfl).2
  have h2 : s.vm.findClass "[I" = some cA := (hK1.2 3 _ rfl).2
  have h3 : T.1 = cA := Option.some.inj (h1.symm.trans h2)
  subst h3
  have hq := pl_new hD1
  rw [va_pl_push hq] at hP1 hD1
  exact kk q H1 hq hP1 hD1 hS1
end ZC
