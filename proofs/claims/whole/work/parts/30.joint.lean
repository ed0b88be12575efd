/-! MY ROWS 30: both sides side by side -/
theorem HV.mono {l : Launch} {y : MethodName} {ws : List Cond} {d mc ms : Nat} {D : va_G} {z0 : Nat} {B : State → Prop} {av : List Value} {post post2 : Option Value → List Nat → (Nat → va_E) → Prop} (h : HV l y ws d mc ms D z0 B av post) (hp : ∀ o L f, post o L f → post2 o L f) : HV l y ws d mc ms D z0 B av post2 := by
  have h : MetFree l y (headSpec ws (rD d mc ms)) (va_Pc av B) (fun _ _ _ _ _ => True) (fun a st o t => HVQ D z0 post a st o t ∧ ∃ L, FrameEnd st o t L mc ms ∧ ∀ q ∈ L, zA z0 q.base) := h
  show MetFree l y (headSpec ws (rD d mc ms)) (va_Pc av B) (fun _ _ _ _ _ => True) (fun a st o t => HVQ D z0 post2 a st o t ∧ ∃ L, FrameEnd st o t L mc ms ∧ ∀ q ∈ L, zA z0 q.base)
  exact Jvm.Free.MetFree.mono h (fun _ _ h => h) (fun _ _ _ _ _ h => h) (fun _ _ _ _ _ ⟨⟨⟨o1, L1, f1, e1, e2, e3⟩, hF⟩, r⟩ => ⟨⟨⟨o1, L1, f1, e1, hp _ _ _ e2, e3⟩, hF⟩, r⟩)
theorem eO_1 {fs gs : List Value} : eO 0 fs ≠ eO 1 gs := fun e => by injection e with e; injection e with e _; exact absurd e (by decide)
theorem eQ_nO {c : ClassId} {n ci : Nat} {u : Nat → Option Nat} {fs : List Value} : eQ c n u ≠ eO ci fs := fun e => by injection e
theorem eI_nO {c : ClassId} {n ci : Nat} {u : Nat → Int32} {fs : List Value} : eI c n u ≠ eO ci fs := fun e => by injection e
section JO
variable {T : ClassId × ClassId × ClassId} {L L' : List Nat} {f f' : Nat → va_E} {hx g ln : Nat} {rw : Nat → Nat} {b1 : Nat → Nat} {mk1 : Int32} {wd1 : Nat → List Nat} {hm rs td sz wo : Nat} {rr tr : Nat → Nat} {cu o9 : Nat} {th mk : Int32} {b : Nat → Nat} {wd : Nat → List Nat} {gO : Nat → Int64}
/-- what holds of the reference's cells stays, where only cells of other kinds are written -/
theorem MZ.kinds (h : MZ T L f hm rs td sz wo rr tr cu th mk b wd) (kL : ∀ a, a ∈ L → a ∈ L') (kO : ∀ a fs, f a = eO 1 fs → f' a = f a) (kQ : ∀ a n u, n ≠ 5 → f a = eQ T.2.2 n u → f' a = f a) (kI : ∀ a n u, n ≠ 5 → n ≠ 12 → f a = eI T.1 n u → f' a = f a) (kS : ∀ u, f sz = eI T.1 5 u → f' sz = f sz) : MZ T L' f' hm rs td sz wo rr tr cu th mk b wd := by
  obtain ⟨Nn, V, ⟨⟨a1, a2⟩, ⟨b1, g, b2, b3⟩, ⟨c1, G, c2, c3⟩, d, ⟨e1, G2, e2, e3⟩, i, j, ⟨k1, k2⟩, ⟨l1, l2⟩⟩, hv, hM⟩ := h
  refine ⟨Nn, V, ⟨⟨kL _ a1, (kO _ _ a2).trans a2⟩, ⟨kL _ b1, g, (kI _ _ _ (by decide) (by decide) b2).trans b2, b3⟩, ⟨kL _ c1, G, (kQ _ _ _ (by decide) c2).trans c2, c3⟩, fun t ht => ?_, ⟨kL _ e1, G2, (kQ _ _ _ (by decide) e2).trans e2, e3⟩, fun t ht => ?_, j, ⟨kL _ k1, (kS _ k2).trans k2⟩, ⟨kL _ l1, (kI _ _ _ (by decide) (by decide) l2).trans l2⟩⟩, hv, hM⟩
  · obtain ⟨d1, g, d2, d3⟩ := d t ht
    exact ⟨kL _ d1, g, (kI _ _ _ (by decide) (by decide) d2).trans d2, d3⟩
  · obtain ⟨d1, g, d2⟩ := i t ht
    exact ⟨kL _ d1, g, (kI _ _ _ (by decide) (by decide) d2).trans d2⟩
theorem CX.kinds (h : CX T L f hx g ln rw b1 mk1 wd1) (kL : ∀ a, a ∈ L → a ∈ L') (kO : ∀ a fs, f a = eO 0 fs → f' a = f a) (kQ : ∀ a u, f a = eQ T.2.2 5 u → f' a = f a) (kI : ∀ a u, f a = eI T.1 12 u → f' a = f a) (kS : ∀ u, f ln = eI T.1 5 u → f' ln = f ln) : CX T L' f' hx g ln rw b1 mk1 wd1 := by
  obtain ⟨⟨a1, a2⟩, ⟨c1, G, c2, c3⟩, ⟨k1, N, k2, k3⟩, i, r⟩ := h
  refine ⟨⟨kL _ a1, (kO _ _ a2).trans a2⟩, ⟨kL _ c1, G, (kQ _ _ c2).trans c2, c3⟩, ⟨kL _ k1, N, (kS _ k2).trans k2, k3⟩, fun w hw => ?_, r⟩
  obtain ⟨d1, g, d2, d3⟩ := i w hw
  exact ⟨kL _ d1, g, (kI _ _ d2).trans d2, d3⟩
/-- both sides, the row for answers, and that their rows of lengths are two -/
def JL (T : ClassId × ClassId × ClassId) (L : List Nat) (f : Nat → va_E) (hx g ln : Nat) (rw : Nat → Nat) (hm rs td sz wo : Nat) (rr tr : Nat → Nat) (cu o9 : Nat) (th : Int32) (b1 : Nat → Nat) (mk1 : Int32) (wd1 : Nat → List Nat) (b : Nat → Nat) (mk : Int32) (wd : Nat → List Nat) (gO : Nat → Int64) : Prop :=
  CX T L f hx g ln rw b1 mk1 wd1 ∧ MZ T L f hm rs td sz wo rr tr cu th mk b wd ∧ (o9 ∈ L ∧ f o9 = eJ T.2.1 1 gO) ∧ sz ≠ ln
theorem JL.out (h : JL T L f hx g ln rw hm rs td sz wo rr tr cu o9 th b1 mk1 wd1 b mk wd gO) (gP : Nat → Int64) : JL T L (va_up f o9 (eJ T.2.1 1 gP)) hx g ln rw hm rs td sz wo rr tr cu o9 th b1 mk1 wd1 b mk wd gP := by
  obtain ⟨hX, hZ, ⟨h1, h2⟩, h3⟩ := h
  refine ⟨hX.kinds (fun _ h => h) (fun a fs e => va_up_ne _ _ fun q => ?_) (fun a u e => va_up_ne _ _ fun q => ?_) (fun a u e => va_up_ne _ _ fun q => ?_) (fun u e => va_up_ne _ _ fun q => ?_), hZ.kinds (fun _ h => h) (fun a fs e => va_up_ne _ _ fun q => ?_) (fun a n u _ e => va_up_ne _ _ fun q => ?_) (fun a n u _ _ e => va_up_ne _ _ fun q => ?_) (fun u e => va_up_ne _ _ fun q => ?_), ⟨h1, va_up_self _ _ _⟩, h3⟩ <;> rw [q] at e <;> first | exact eJ_nO (h2.symm.trans e) | exact eJ_nQ (h2.symm.trans e) | exact eJ_ne (h2.symm.trans e)
/-- the class has written -/
theorem JL.frx (h : JL T L f hx g ln rw hm rs td sz wo rr tr cu o9 th b1 mk1 wd1 b mk wd gO) {b2 : Nat → Nat} {mk2 : Int32} {wd2 : Nat → List Nat} (hX2 : CX T L f' hx g ln rw b2 mk2 wd2) (hF : FRX hx ln rw f f') : JL T L f' hx g ln rw hm rs td sz wo rr tr cu o9 th b2 mk2 wd2 b mk wd gO := by
  obtain ⟨hX, hZ, ⟨h1, h2⟩, h3⟩ := h
  obtain ⟨n1, n2, n3, -⟩ := hX.nout h2
  obtain ⟨⟨-, x1⟩, -, ⟨-, N, x3, -⟩, x4, -⟩ := hX
  refine ⟨hX2, hZ.kinds (fun _ h => h) (fun a fs e => hF a (fun q => ?_) (fun q => ?_) (fun w hw q => ?_)) (fun a n u _ e => hF a (fun q => ?_) (fun q => ?_) (fun w hw q => ?_)) (fun a n u z1 z2 e => hF a (fun q => ?_) (fun q => ?_) (fun w hw q => ?_)) (fun u e => hF sz (fun q => ?_) h3 (fun w hw q => ?_)), ⟨h1, (hF o9 n1 n2 n3).trans h2⟩, h3⟩
  · rw [q] at e; exact eO_1 (x1.symm.trans e)
  · rw [q] at e; exact eI_nO (x3.symm.trans e)
  · rw [q] at e; obtain ⟨-, u, hu, -⟩ := x4 w hw; exact eI_nO (hu.symm.trans e)
  · rw [q] at e; exact eQ_nO (e.symm.trans x1)
  · rw [q] at e; exact eQ_eI (e.symm.trans x3)
  · rw [q] at e; obtain ⟨-, u, hu, -⟩ := x4 w hw; exact eQ_eI (e.symm.trans hu)
  · rw [q] at e; exact eI_nO (e.symm.trans x1)
  · rw [q] at e; exact eI_ne z1 (e.symm.trans x3)
  · rw [q] at e; obtain ⟨-, u, hu, -⟩ := x4 w hw; exact eI_ne z2 (e.symm.trans hu)
  · rw [q] at e; exact eI_nO (e.symm.trans x1)
  · rw [q] at e; obtain ⟨-, u2, hu, -⟩ := x4 w hw; exact eI_ne (by decide) (e.symm.trans hu)
/-- the reference has written -/
theorem JL.frm {cu2 : Nat} {th2 mk2 : Int32} {b2 : Nat → Nat} {wd2 : Nat → List Nat} (h : JL T L f hx g ln rw hm rs td sz wo rr tr cu o9 th b1 mk1 wd1 b mk wd gO) (hZ2 : MZ T L' f' hm rs td sz wo rr tr cu2 th2 mk2 b2 wd2) (hF : FRM hm sz wo tr L f L' f') : JL T L' f' hx g ln rw hm rs td sz wo rr tr cu2 o9 th2 b1 mk1 wd1 b2 mk2 wd2 gO := by
  obtain ⟨hX, hZ, ⟨h1, h2⟩, h3⟩ := h
  obtain ⟨Nn, V, ⟨⟨-, a2⟩, -, -, -, -, i, -, ⟨-, k2⟩, ⟨-, l2⟩⟩, -⟩ := hZ
  have go : ∀ a, a ∈ L → (∀ fs, f a ≠ eO 1 fs) → a ≠ sz → (∀ u, f a ≠ eI T.1 60 u) → (∀ u, f a ≠ eI T.1 16 u) → f' a = f a := fun a ha q1 q2 q3 q4 => (hF a ha).2 (fun e => q1 _ (e ▸ a2)) q2 (fun e => q3 _ (e ▸ l2)) (fun k hk e => by obtain ⟨-, u, hu⟩ := i k hk; exact q4 _ (e ▸ hu))
  obtain ⟨⟨x1, x2⟩, ⟨y1, G, y2, y3⟩, ⟨z1, N, z2, z3⟩, r1, r2⟩ := hX
  refine ⟨⟨⟨(hF _ x1).1, (go _ x1 (fun fs e => eO_1 (x2.symm.trans e)) (fun e => eI_nO ((k2.symm.trans (e ▸ x2)))) (fun u e => eI_nO (e.symm.trans x2)) (fun u e => eI_nO (e.symm.trans x2))).trans x2⟩, ⟨(hF _ y1).1, G, (go _ y1 (fun fs e => eQ_nO (y2.symm.trans e)) (fun e => eQ_eI ((e ▸ y2).symm.trans k2)) (fun u e => eQ_eI (y2.symm.trans e)) (fun u e => eQ_eI (y2.symm.trans e))).trans y2, y3⟩, ⟨(hF _ z1).1, N, (go _ z1 (fun fs e => eI_nO (z2.symm.trans e)) h3.symm (fun u e => eI_ne (by decide) (z2.symm.trans e)) (fun u e => eI_ne (by decide) (z2.symm.trans e))).trans z2, z3⟩, fun w hw => ?_, r2⟩, hZ2, ⟨(hF _ h1).1, (go _ h1 (fun fs e => eJ_nO (h2.symm.trans e)) (fun e => eJ_ne ((e ▸ h2).symm.trans k2)) (fun u e => eJ_ne (h2.symm.trans e)) (fun u e => eJ_ne (h2.symm.trans e))).trans h2⟩, h3⟩
  obtain ⟨d1, u, d2, d3⟩ := r1 w hw
  exact ⟨(hF _ d1).1, u, (go _ d1 (fun fs e => eI_nO (d2.symm.trans e)) (fun e => eI_ne (by decide) ((e ▸ d2).symm.trans k2)) (fun v e => eI_ne (by decide) (d2.symm.trans e)) (fun v e => eI_ne (by decide) (d2.symm.trans e))).trans d2, d3⟩
/-- what a call of the class leaves, answered or refused; and of the reference -/
def LJ (T : ClassId × ClassId × ClassId) (hx g ln : Nat) (rw : Nat → Nat) (hm rs td sz wo : Nat) (rr tr : Nat → Nat) (o9 : Nat) (b1 : Nat → Nat) (mk1 : Int32) (wd1 : Nat → List Nat) (b : Nat → Nat) (mk : Int32) (wd : Nat → List Nat) (k : Nat) (v : Int64) : Option Value → List Nat → (Nat → va_E) → Prop :=
  fun o L' f' => o = some (.int (nI k)) ∧ ∃ (cu : Nat) (th : Int32) (gO : Nat → Int64), JL T L' f' hx g ln rw hm rs td sz wo rr tr cu o9 th b1 mk1 wd1 b mk wd gO ∧ (k = 0 → gO 0 = v)
def MJ (T : ClassId × ClassId × ClassId) (hx g ln : Nat) (rw : Nat → Nat) (hm rs td sz wo : Nat) (rr tr : Nat → Nat) (o9 : Nat) (b1 : Nat → Nat) (mk1 : Int32) (wd1 : Nat → List Nat) (gO : Nat → Int64) (k : Nat) (v : Value) : Option Value → List Nat → (Nat → va_E) → Prop :=
  fun o L' f' => o = some v ∧ ∃ cu : Nat, JL T L' f' hx g ln rw hm rs td sz wo rr tr cu o9 (nI k) b1 mk1 wd1 b1 mk1 wd1 gO
theorem LJ.ok {v : Int64} {b2 : Nat → Nat} {mk2 : Int32} {wd2 : Nat → List Nat} (h : JL T L f hx g ln rw hm rs td sz wo rr tr cu o9 th b1 mk1 wd1 b mk wd gO) : ∀ o L' f', LPo T L f hx g ln rw o9 v b2 mk2 wd2 o L' f' → LJ T hx g ln rw hm rs td sz wo rr tr o9 b2 mk2 wd2 b mk wd 0 v o L' f' := by
  rintro o L' f' ⟨rfl, rfl, f1, gP, h1, h2, h3, rfl⟩
  exact ⟨rfl, cu, th, _, (h.frx h1 h2).out _, fun _ => if_pos rfl⟩
theorem LJ.bad {k : Nat} {v : Int64} (h : JL T L f hx g ln rw hm rs td sz wo rr tr cu o9 th b1 mk1 wd1 b mk wd gO) (hk : k ≠ 0) : ∀ o L' f', LX L f k o L' f' → LJ T hx g ln rw hm rs td sz wo rr tr o9 b1 mk1 wd1 b mk wd k v o L' f' := by
  rintro o L' f' ⟨rfl, rfl, rfl⟩
  exact ⟨rfl, cu, th, gO, h, fun e => absurd e hk⟩
theorem MJ.of {k : Nat} {v : Value} (h : JL T L f hx g ln rw hm rs td sz wo rr tr cu o9 th b1 mk1 wd1 b mk wd gO) : ∀ o L' f', MPo T L f hm rs td sz wo rr tr cu v (nI k) mk1 b1 wd1 o L' f' → MJ T hx g ln rw hm rs td sz wo rr tr o9 b1 mk1 wd1 gO k v o L' f' := by
  rintro o L' f' ⟨rfl, cu2, -, hZ, hF⟩
  exact ⟨rfl, cu2, h.frm hZ hF⟩
/-- one call on both sides -/
def PAIR (l : Launch) (D : va_G) (z0 : Nat) (T : ClassId × ClassId × ClassId) (L : List Nat) (f : Nat → va_E) (hx g ln : Nat) (rw : Nat → Nat) (hm rs td sz wo : Nat) (rr tr : Nat → Nat) (o9 : Nat) (b : Nat → Nat) (mk : Int32) (wd : Nat → List Nat) (yL : MethodName) (wsL : List Cond) (yM : MethodName) (wsM : List Cond) (av : List Value) (ok : Int32 → Int64 → Prop) : Prop :=
  ∃ (k : Nat) (v : Int64) (r : Int32) (b2 : Nat → Nat) (mk2 : Int32) (wd2 : Nat → List Nat) (mc ms : Nat), k < 4 ∧ mc ≤ 700 ∧ ms ≤ 11200 ∧ PM b2 ∧ ok r v ∧
    HV l yL wsL 24 1 6 D z0 (zPreY D T z0 L f) (.ref hx :: av ++ [.ref o9]) (LJ T hx g ln rw hm rs td sz wo rr tr o9 b2 mk2 wd2 b mk wd k v) ∧
    ∀ (cu : Nat) (th : Int32) (L' : List Nat) (f' : Nat → va_E) (gO : Nat → Int64), JL T L' f' hx g ln rw hm rs td sz wo rr tr cu o9 th b2 mk2 wd2 b mk wd gO → HV l yM wsM 40 mc ms D z0 (zPre D T z0 L' f') (.ref hm :: av) (MJ T hx g ln rw hm rs td sz wo rr tr o9 b2 mk2 wd2 gO k (.int r))
def okI (r : Int32) (v : Int64) : Prop := v = r.toInt64
def okZ (r : Int32) (v : Int64) : Prop := ∃ n : Nat, n < 2 ∧ r = nI n ∧ v = if n = 0 then 0 else 1
theorem okI.z : okI (nI 0) 0 := rfl
theorem okZ.z : okZ (nI 0) 0 := ⟨0, by decide, rfl, rfl⟩
theorem okI.r (r : Int32) : okI r r.toInt64 := rfl
end JO
/-! the argument's range -/
theorem nI_ex (x : Int32) (h : ¬ x < 0) : ∃ k, k < 2 ^ 31 ∧ x = nI k := by
  have h1 : (0 : Int32) ≤ x := Int32.not_lt.mp h
  have h2 := Int32.le_iff_toInt_le.mp h1
  have h0 : (0 : Int32).toInt = 0 := rfl
  rw [h0] at h2
  have h3 := Int32.toInt_lt x
  refine ⟨x.toInt.toNat, by omega, ?_⟩
  apply Int32.toInt_inj.mp
  rw [nI_toInt (by omega)]
  omega
theorem rgx (x : Int32) (lo hi : Nat) (h : hi < 2 ^ 30) (hl : lo ≤ hi) : (x < nI lo ∨ nI hi < x) ∨ ∃ k, lo ≤ k ∧ k ≤ hi ∧ x = nI k := by
  by_cases h1 : x < nI lo
  · exact Or.inl (Or.inl h1)
  · by_cases h2 : nI hi < x
    · exact Or.inl (Or.inr h2)
    · refine Or.inr ?_
      have h3 : ¬ x < 0 := fun q => by
        have a1 := Int32.lt_iff_toInt_lt.mp q
        have a2 := Int32.le_iff_toInt_le.mp (Int32.not_lt.mp h1)
        rw [nI_toInt (by omega)] at a2
        have h0 : (0 : Int32).toInt = 0 := rfl
        omega
      obtain ⟨k, hk, rfl⟩ := nI_ex x h3
      have a2 := Int32.le_iff_toInt_le.mp (Int32.not_lt.mp h1)
      have a3 := Int32.le_iff_toInt_le.mp (Int32.not_lt.mp h2)
      rw [nI_toInt (by omega), nI_toInt hk] at a2
      rw [nI_toInt hk, nI_toInt (by omega)] at a3
      exact ⟨k, by omega, by omega, rfl⟩
theorem rg_up {x : Int32} {lo hi : Nat} (h : hi < 2 ^ 30) (hx : x < nI lo ∨ nI hi < x) : x < nI lo ∨ nI (hi + 1) ≤ x := by
  rcases hx with q | q
  · exact Or.inl q
  · refine Or.inr (Int32.le_iff_toInt_le.mpr ?_)
    have a1 := Int32.lt_iff_toInt_lt.mp q
    rw [nI_toInt (by omega)] at a1 ⊢
    omega
theorem rg_at (x : Int32) {n : Nat} (hn : n < 2 ^ 30) : ((x < 0 ∨ nI n ≤ x) ∧ (x < nI 0 ∨ nI n - nI 1 < x)) ∨ ∃ k, k < n ∧ x = nI k := by
  by_cases h1 : x < 0
  · exact Or.inl ⟨Or.inl h1, Or.inl h1⟩
  · obtain ⟨k, hk, rfl⟩ := nI_ex x h1
    by_cases h2 : k < n
    · exact Or.inr ⟨k, h2, rfl⟩
    · have h3 : nI n ≤ nI k := (nI_leI (by omega) hk).mpr (by omega)
      exact Or.inl ⟨Or.inr h3, Or.inr (m1_lt_of hn h3)⟩
