/-! MY ROWS 02: what a state is held in (one pool of cells, all behind z0), contracts, and the rows of calls and cells over the pool -/
abbrev rD (d mc ms : Nat) : Room := { frames := d, cells := mc, slots := ms, locals := 60 * d }
abbrev zA (z0 : Nat) : Nat → Prop := fun q => z0 ≤ q
abbrev zT (T : ClassId × ClassId × ClassId) : List (ClassId × FieldType) := [(T.1, .int), (T.2.1, .long), (T.2.2, .array .int)]
/-- rows of ints, of longs, of references in the pool; objects -/
abbrev eI (c : ClassId) (n : Nat) (g : Nat → Int32) : va_E := .inl (c, n, .inl g)
abbrev eJ (c : ClassId) (n : Nat) (g : Nat → Int64) : va_E := .inl (c, n, .inr (.inl g))
abbrev eQ (c : ClassId) (n : Nat) (g : Nat → Option Nat) : va_E := .inl (c, n, .inr (.inr (.inr (.inr g))))
abbrev eO (ci : Nat) (fs : List Value) : va_E := .inr (ci, fs)
def zPool (D : va_G) (z0 : Nat) (L : List Nat) (f : Nat → va_E) (H : Heap) : Prop := va_P D vwCl (va_pl L f) H ∧ va_D (zA z0) (va_pl L f)
/-- the texts of the class's exceptions, by their place in its file -/
def zStr : List (Nat × String) := [(52, "times is not 1 to 50"), (59, "the word has no turns"), (68, "the word has 12 turns"), (74, "these would be more than 12 turns"), (100, "corner is not 0 to 7"), (123, "the word has no such place"), (156, "face is not 0 to 2"), (158, "quarters is not 1 to 3"), (160, "word is not 0 to 4"), (162, "place is not 0 to 7"), (164, "there is no such what"), (166, "most is not 0 to 5")]
/-- the four places that a face goes round, and what twist more each gives -/
def zRing : Nat → Nat → Nat
  | 0 => fun k => [0, 1, 2, 3].getD k 0
  | 1 => fun k => [0, 3, 7, 4].getD k 0
  | _ => fun k => [0, 4, 5, 1].getD k 0
def zMore : Nat → Nat → Nat
  | 0 => fun k => [0, 0, 0, 0].getD k 0
  | 1 => fun k => [1, 2, 1, 2].getD k 0
  | _ => fun k => [2, 1, 2, 1].getD k 0
/-- a static row of rows of ints -/
def zSt (n : String) (V : Nat → Nat → Nat) (z0 : Nat) (U : State) (H : Heap) : Prop := ∃ (t : Nat) (r : Nat → Nat), va_Z RX1 n "[[I" (.ref t) (zA z0) U H ∧ va_T (.array .int) t 3 (fun i => .ref (r i)) (zA z0) U H ∧ ∀ i, i < 3 → va_T .int (r i) 4 (fun k => .int (nI (V i k))) (zA z0) U H
/-- what stays as the start has it: Throwable's two statics, the texts, the reference's two tables -/
def SF (z0 : Nat) (U : State) (H : Heap) : Prop := vx_Zq Bundle.tN "UNASSIGNED_STACK" Bundle.steD (zA z0) U H ∧ vx_Zq Bundle.tN "SUPPRESSED_SENTINEL" Bundle.listD (zA z0) U H ∧ (∀ q ∈ zStr, ∃ a, vk_R RX0 q.1 q.2 a U) ∧ zSt "ROUND" zRing z0 U H ∧ zSt "MORE" zMore z0 U H
theorem zSt.pass {n : String} {V : Nat → Nat → Nat} {z0 : Nat} {u U : State} {H H1 : Heap} (hvm : u.vm.Alike U.vm) (hq : ∀ a : Nat, a < H.size → ¬ zA z0 a → H1[a]? = H[a]?) (h : zSt n V z0 u H) : zSt n V z0 U H1 := by
  obtain ⟨t, r, h1, h2, h3⟩ := h
  exact ⟨t, r, (h1.moved hvm).kept hq, (h2.moved hvm).kept hq, fun i hi => ((h3 i hi).moved hvm).kept hq⟩
theorem SF.pass {z0 : Nat} {u U : State} {H H1 : Heap} (hW : u.WarmedH U.vm) (hq : ∀ a : Nat, a < H.size → ¬ zA z0 a → H1[a]? = H[a]?) (h : SF z0 u H) : SF z0 U H1 := by
  obtain ⟨h1, h2, h3, h4, h5⟩ := h
  have hvm := hW.alike
  refine ⟨(h1.moved hvm).kept hq, (h2.moved hvm).kept hq, fun q hq => ?_, h4.pass hvm hq, h5.pass hvm hq⟩
  obtain ⟨a, ha⟩ := h3 q hq
  exact ⟨a, ha.warm hW⟩
/-- what a method finds beside its cells -/
def zE (D : va_G) (T : ClassId × ClassId × ClassId) (z0 : Nat) (s : State) : Prop := z0 ≤ s.heap.size ∧ SF z0 s s.heap ∧ va_K D vwCl (zT T) s
def zPre (D : va_G) (T : ClassId × ClassId × ClassId) (z0 : Nat) (L : List Nat) (f : Nat → va_E) (U : State) : Prop := zE D T z0 U ∧ zPool D z0 L f U.heap
/-- a method that answers o, reads no more than B says, and leaves all cells -/
def RV (l : Launch) (y : MethodName) (ws : List Cond) (d : Nat) (B : State → Prop) (av : List Value) (o : Option Value) : Prop :=
  Met l y ws (rD d 0 0) (va_Pc av B) (fun _ st oc t => oc = .returned o ∧ t.heap = st.heap) 0 0 (fun _ => False)
abbrev zNo : State → Prop := fun _ => True
/-- a method that answers, and leaves another pool -/
def HV (l : Launch) (y : MethodName) (ws : List Cond) (d mc ms : Nat) (D : va_G) (z0 : Nat) (B : State → Prop) (av : List Value) (post : Option Value → List Nat → (Nat → va_E) → Prop) : Prop :=
  Met l y ws (rD d mc ms) (va_Pc av B) (fun _ st oc t => (∃ (o : Option Value) (L : List Nat) (f : Nat → va_E), oc = .returned o ∧ post o L f ∧ zPool D z0 L f t.heap) ∧ va_F (zA z0) st t) mc ms (zA z0)
/-- a method that throws an E, and leaves the pool -/
def MX (l : Launch) (y : MethodName) (ws : List Cond) (d : Nat) (D : va_G) (z0 : Nat) (B : State → Prop) (L : List Nat) (f : Nat → va_E) (av : List Value) (E : String) : Prop :=
  vx_Met l y ws (rD d 1 6) (va_Pc av B) (fun _ _ _ _ => False) (vx_X (fun _ : Unit => True) (fun E1 _ t => E1 = E ∧ zPool D z0 L f t.heap) (zA z0)) 1 6 (zA z0)
theorem zPre.blind {D : va_G} {T : ClassId × ClassId × ClassId} {z0 : Nat} {L : List Nat} {f : Nat → va_E} {av : List Value} : FrameBlind (va_Pc av (zPre D T z0 L f)) := by
  intro a U g mk h
  obtain ⟨h1, ⟨h2, h3, h4⟩, h5⟩ := h
  exact ⟨h1, ⟨h2, h3.pass (u := U) (U := U.calling g mk a) (State.WarmedH.refl U) (fun _ _ _ => rfl), va_K.moved (u := U) (U := U.calling g mk a) (Vm.Alike.refl U.vm) h4⟩, h5⟩
theorem zNo.blind {av : List Value} : FrameBlind (va_Pc av zNo) := fun _ _ _ _ h => h
