/-! MY ROWS 02: what a state is held in (one pool of cells, all behind z0), contracts, and the rows of calls and cells over the pool -/
abbrev rD (d mc ms : Nat) : Room := { frames := d, cells := mc, slots := ms, locals := 60 * d }
abbrev zA (z0 : Nat) : Nat → Prop := fun q => z0 ≤ q
abbrev zT (T : ClassId × ClassId × ClassId) : List (ClassId × FieldType) := [(T.1, .int), (T.1, .int), (T.2.2, .array .int)]
/-- rows of ints, of longs, of references in the pool; objects -/
abbrev eI (c : ClassId) (n : Nat) (g : Nat → Int32) : va_E := .inl (c, n, .inl g)
abbrev eJ (c : ClassId) (n : Nat) (g : Nat → Int64) : va_E := .inl (c, n, .inr (.inl g))
abbrev eQ (c : ClassId) (n : Nat) (g : Nat → Option Nat) : va_E := .inl (c, n, .inr (.inr (.inr (.inr g))))
abbrev eO (ci : Nat) (fs : List Value) : va_E := .inr (ci, fs)
def zPool (D : va_G) (z0 : Nat) (L : List Nat) (f : Nat → va_E) (H : Heap) : Prop := va_P D vwCl (va_pl L f) H ∧ va_D (zA z0) (va_pl L f)
/-- the four places that a face goes round, and what twist more each gives -/
def zRing : Nat → Nat → Nat
  | 0 => fun k => [0, 1, 2, 3].getD k 0
  | 1 => fun k => [0, 3, 7, 4].getD k 0
  | _ => fun k => [0, 4, 5, 1].getD k 0
def zMore : Nat → Nat → Nat
  | 0 => fun k => [0, 0, 0, 0].getD k 0
  | 1 => fun k => [1, 2, 1, 2].getD k 0
  | _ => fun k => [2, 1, 2, 1].getD k 0
/-- what stays as the start has it: nothing is wanted of it here -/
def SF (_ : Nat) (_ : State) (_ : Heap) : Prop := True
theorem SF.pass {z0 : Nat} {u U : State} {H H1 : Heap} (_ : u.WarmedH U.vm) (_ : ∀ a : Nat, a < H.size → ¬ zA z0 a → H1[a]? = H[a]?) (_ : SF z0 u H) : SF z0 U H1 := trivial
/-- what a method finds beside its cells -/
def zE (D : va_G) (T : ClassId × ClassId × ClassId) (z0 : Nat) (s : State) : Prop := z0 ≤ s.heap.size ∧ SF z0 s s.heap ∧ va_K D vwCl (zT T) s
def zPre (D : va_G) (T : ClassId × ClassId × ClassId) (z0 : Nat) (L : List Nat) (f : Nat → va_E) (U : State) : Prop := zE D T z0 U ∧ zPool D z0 L f U.heap
/-- a method that answers o, reads no more than B says, and leaves all cells -/
def RV (l : Launch) (y : MethodName) (ws : List Cond) (d : Nat) (B : State → Prop) (av : List Value) (o : Option Value) : Prop :=
  Met l y ws (rD d 0 0) (va_Pc av B) (fun _ st oc t => oc = .returned o ∧ t.heap = st.heap) 0 0 (fun _ => False)
abbrev zNo : State → Prop := fun _ => True
/-- a method that answers, and leaves another pool -/
def HV (l : Launch) (y : MethodName) (ws : List Cond) (d mc ms : Nat) (D : va_G) (z0 : Nat) (B : State → Prop) (av : List Value) (post : Option Value → List Nat → (Nat → va_E) → Prop) : Prop :=
  Met l y ws (rD d mc ms) (va_Pc av B) (fun _ st oc t => (∃ (o : Option Value) (L : List Nat) (f : Nat → va_E), oc = .returned o ∧ post o L f ∧ zPool D z0 L f t.heap) ∧ va_F (zA z0) st t) mc ms (zA z0)
theorem zPre.blind {D : va_G} {T : ClassId × ClassId × ClassId} {z0 : Nat} {L : List Nat} {f : Nat → va_E} {av : List Value} : FrameBlind (va_Pc av (zPre D T z0 L f)) := by
  intro a U g mk h
  obtain ⟨h1, ⟨h2, h3, h4⟩, h5⟩ := h
  exact ⟨h1, ⟨h2, h3.pass (u := U) (U := U.calling g mk a) (State.WarmedH.refl U) (fun _ _ _ => rfl), va_K.moved (u := U) (U := U.calling g mk a) (Vm.Alike.refl U.vm) h4⟩, h5⟩
theorem zNo.blind {av : List Value} : FrameBlind (va_Pc av zNo) := fun _ _ _ _ h => h
