/-! MY ROWS 19: the reference as cells; its rows of words; its search (laid by a program of mine) -/
theorem comp_assoc (a b c : Nat → Nat) : comp (comp a b) c = comp a (comp b c) := by
  funext i
  unfold comp
  have e1 : ∀ x y : Nat, (x % 8 + 8 * y) % 8 = x % 8 := fun x y => by omega
  have e2 : ∀ x y : Nat, (x % 8 + 8 * y) / 8 = y := fun x y => by omega
  simp only [e1, e2]
  omega
theorem itq_comp (f : Nat) (c : Nat → Nat) : ∀ n, comp c (itq f (Qf f) n) = itq f c (n + 1)
  | 0 => rfl
  | n + 1 => by
    show comp c (comp (itq f (Qf f) n) (Qf f)) = comp (itq f c (n + 1)) (Qf f)
    rw [← comp_assoc, itq_comp f c n]
theorem comp_tq (c : Nat → Nat) (t : Nat) : comp c (tq t) = turnC c t := itq_comp (t / 3) c (t % 3)
def MY (T : ClassId × ClassId × ClassId) (L : List Nat) (f : Nat → va_E) (hm rs td sz wo : Nat) (rr tr : Nat → Nat) (cu : Nat) (th mk : Int32) (b : Nat → Nat) (Nn V : Nat → Int32) : Prop :=
  (hm ∈ L ∧ f hm = eO 1 [.int th, .int mk, .ref cu, .ref rs, .ref td, .ref sz, .ref wo]) ∧ (cu ∈ L ∧ ∃ g, f cu = eI T.1 16 g ∧ Rp g b) ∧
  (rs ∈ L ∧ ∃ G : Nat → Option Nat, f rs = eQ T.2.2 9 G ∧ ∀ t, t < 9 → G t = some (rr t)) ∧ (∀ t, t < 9 → rr t ∈ L ∧ ∃ g, f (rr t) = eI T.1 16 g ∧ Rp g (tq t)) ∧
  (td ∈ L ∧ ∃ G : Nat → Option Nat, f td = eQ T.2.2 6 G ∧ ∀ k, k < 6 → G k = some (tr k)) ∧ (∀ k, k < 6 → tr k ∈ L ∧ ∃ g, f (tr k) = eI T.1 16 g) ∧
  (∀ k, k < 6 → tr k ≠ cu ∧ (∀ t, t < 9 → tr k ≠ rr t) ∧ ∀ j, j < 6 → tr k = tr j → k = j) ∧ (sz ∈ L ∧ f sz = eI T.1 5 Nn) ∧ (wo ∈ L ∧ f wo = eI T.1 60 V)
def MS (Nn V : Nat → Int32) (wd : Nat → List Nat) : Prop := ∀ w, w < 5 → Nn w = nI (wd w).length ∧ (wd w).length ≤ 12 ∧ ∀ k, k < (wd w).length → V (12 * w + k) = nI ((wd w).getD k 0) ∧ (wd w).getD k 0 < 9
def FRM (hm sz wo : Nat) (tr : Nat → Nat) (L : List Nat) (f : Nat → va_E) (L' : List Nat) (f' : Nat → va_E) : Prop := ∀ a, a ∈ L → a ∈ L' ∧ (a ≠ hm → a ≠ sz → a ≠ wo → (∀ k, k < 6 → a ≠ tr k) → f' a = f a)
section MYS
variable {T : ClassId × ClassId × ClassId} {L L' : List Nat} {f f' : Nat → va_E} {hm rs td sz wo : Nat} {rr tr : Nat → Nat} {cu : Nat} {th mk : Int32} {b : Nat → Nat} {Nn V : Nat → Int32}
theorem MY.keep (h : MY T L f hm rs td sz wo rr tr cu th mk b Nn V) (hk : ∀ a, a ∈ L → a ∈ L' ∧ f' a = f a) : MY T L' f' hm rs td sz wo rr tr cu th mk b Nn V := by
  obtain ⟨⟨a1, a2⟩, ⟨b1, g, b2, b3⟩, ⟨c1, G, c2, c3⟩, d, ⟨e1, G2, e2, e3⟩, i, j, ⟨k1, k2⟩, ⟨l1, l2⟩⟩ := h
  refine ⟨⟨(hk _ a1).1, (hk _ a1).2.trans a2⟩, ⟨(hk _ b1).1, g, (hk _ b1).2.trans b2, b3⟩, ⟨(hk _ c1).1, G, (hk _ c1).2.trans c2, c3⟩, fun t ht => ?_, ⟨(hk _ e1).1, G2, (hk _ e1).2.trans e2, e3⟩, fun t ht => ?_, j, ⟨(hk _ k1).1, (hk _ k1).2.trans k2⟩, ⟨(hk _ l1).1, (hk _ l1).2.trans l2⟩⟩
  · obtain ⟨d1, g, d2, d3⟩ := d t ht
    exact ⟨(hk _ d1).1, g, (hk _ d1).2.trans d2, d3⟩
  · obtain ⟨d1, g, d2⟩ := i t ht
    exact ⟨(hk _ d1).1, g, (hk _ d1).2.trans d2⟩
theorem eO_eI {ci n : Nat} {fs : List Value} {c : ClassId} {g : Nat → Int32} : eO ci fs ≠ eI c n g := fun e => by injection e
theorem eO_eQ {ci n : Nat} {fs : List Value} {c : ClassId} {g : Nat → Option Nat} : eO ci fs ≠ eQ c n g := fun e => by injection e
theorem MY.put_hm (h : MY T L f hm rs td sz wo rr tr cu th mk b Nn V) (th' mk' : Int32) {cu' : Nat} {b' : Nat → Nat} {g' : Nat → Int32} (hc : cu' ∈ L) (hg : f cu' = eI T.1 16 g') (hR : Rp g' b') (hn : ∀ k, k < 6 → tr k ≠ cu') : MY T L (va_up f hm (eO 1 [.int th', .int mk', .ref cu', .ref rs, .ref td, .ref sz, .ref wo])) hm rs td sz wo rr tr cu' th' mk' b' Nn V := by
  obtain ⟨⟨a1, a2⟩, ⟨b1, g, b2, b3⟩, ⟨c1, G, c2, c3⟩, d, ⟨e1, G2, e2, e3⟩, i, j, ⟨k1, k2⟩, ⟨l1, l2⟩⟩ := h
  have ni : ∀ {x n : Nat} {u : Nat → Int32}, f x = eI T.1 n u → x ≠ hm := fun hx e => eO_eI (a2.symm.trans (e ▸ hx))
  have nq : ∀ {x n : Nat} {u : Nat → Option Nat}, f x = eQ T.2.2 n u → x ≠ hm := fun hx e => eO_eQ (a2.symm.trans (e ▸ hx))
  refine ⟨⟨a1, va_up_self _ _ _⟩, ⟨hc, g', (va_up_ne _ _ (ni hg)).trans hg, hR⟩, ⟨c1, G, (va_up_ne _ _ (nq c2)).trans c2, c3⟩, fun t ht => ?_, ⟨e1, G2, (va_up_ne _ _ (nq e2)).trans e2, e3⟩, fun t ht => ?_, fun k hk => ⟨hn k hk, (j k hk).2⟩, ⟨k1, (va_up_ne _ _ (ni k2)).trans k2⟩, ⟨l1, (va_up_ne _ _ (ni l2)).trans l2⟩⟩
  · obtain ⟨d1, g, d2, d3⟩ := d t ht
    exact ⟨d1, g, (va_up_ne _ _ (ni d2)).trans d2, d3⟩
  · obtain ⟨d1, g, d2⟩ := i t ht
    exact ⟨d1, g, (va_up_ne _ _ (ni d2)).trans d2⟩
theorem MY.put_th (h : MY T L f hm rs td sz wo rr tr cu th mk b Nn V) (th' mk' : Int32) : MY T L (va_up f hm (eO 1 [.int th', .int mk', .ref cu, .ref rs, .ref td, .ref sz, .ref wo])) hm rs td sz wo rr tr cu th' mk' b Nn V := by
  obtain ⟨g, hg, hR⟩ := h.2.1.2
  exact h.put_hm th' mk' h.2.1.1 hg hR (fun k hk => (h.2.2.2.2.2.2.1 k hk).1)
theorem MY.put_sz (h : MY T L f hm rs td sz wo rr tr cu th mk b Nn V) (N' : Nat → Int32) : MY T L (va_up f sz (eI T.1 5 N')) hm rs td sz wo rr tr cu th mk b N' V := by
  obtain ⟨⟨a1, a2⟩, ⟨b1, g, b2, b3⟩, ⟨c1, G, c2, c3⟩, d, ⟨e1, G2, e2, e3⟩, i, j, ⟨k1, k2⟩, ⟨l1, l2⟩⟩ := h
  have no : hm ≠ sz := fun e => eO_eI (a2.symm.trans (e ▸ k2))
  have ni : ∀ {x n : Nat} {u : Nat → Int32}, n ≠ 5 → f x = eI T.1 n u → x ≠ sz := fun h5 hx e => eI_ne h5 ((e ▸ hx).symm.trans k2)
  have nq : ∀ {x n : Nat} {u : Nat → Option Nat}, f x = eQ T.2.2 n u → x ≠ sz := fun hx e => eQ_eI ((e ▸ hx).symm.trans k2)
  refine ⟨⟨a1, (va_up_ne _ _ no).trans a2⟩, ⟨b1, g, (va_up_ne _ _ (ni (by decide) b2)).trans b2, b3⟩, ⟨c1, G, (va_up_ne _ _ (nq c2)).trans c2, c3⟩, fun t ht => ?_, ⟨e1, G2, (va_up_ne _ _ (nq e2)).trans e2, e3⟩, fun t ht => ?_, j, ⟨k1, va_up_self _ _ _⟩, ⟨l1, (va_up_ne _ _ (ni (by decide) l2)).trans l2⟩⟩
  · obtain ⟨d1, g, d2, d3⟩ := d t ht
    exact ⟨d1, g, (va_up_ne _ _ (ni (by decide) d2)).trans d2, d3⟩
  · obtain ⟨d1, g, d2⟩ := i t ht
    exact ⟨d1, g, (va_up_ne _ _ (ni (by decide) d2)).trans d2⟩
theorem MY.put_wo (h : MY T L f hm rs td sz wo rr tr cu th mk b Nn V) (V' : Nat → Int32) : MY T L (va_up f wo (eI T.1 60 V')) hm rs td sz wo rr tr cu th mk b Nn V' := by
  obtain ⟨⟨a1, a2⟩, ⟨b1, g, b2, b3⟩, ⟨c1, G, c2, c3⟩, d, ⟨e1, G2, e2, e3⟩, i, j, ⟨k1, k2⟩, ⟨l1, l2⟩⟩ := h
  have no : hm ≠ wo := fun e => eO_eI (a2.symm.trans (e ▸ l2))
  have ni : ∀ {x n : Nat} {u : Nat → Int32}, n ≠ 60 → f x = eI T.1 n u → x ≠ wo := fun h5 hx e => eI_ne h5 ((e ▸ hx).symm.trans l2)
  have nq : ∀ {x n : Nat} {u : Nat → Option Nat}, f x = eQ T.2.2 n u → x ≠ wo := fun hx e => eQ_eI ((e ▸ hx).symm.trans l2)
  refine ⟨⟨a1, (va_up_ne _ _ no).trans a2⟩, ⟨b1, g, (va_up_ne _ _ (ni (by decide) b2)).trans b2, b3⟩, ⟨c1, G, (va_up_ne _ _ (nq c2)).trans c2, c3⟩, fun t ht => ?_, ⟨e1, G2, (va_up_ne _ _ (nq e2)).trans e2, e3⟩, fun t ht => ?_, j, ⟨k1, (va_up_ne _ _ (ni (by decide) k2)).trans k2⟩, ⟨l1, va_up_self _ _ _⟩⟩
  · obtain ⟨d1, g, d2, d3⟩ := d t ht
    exact ⟨d1, g, (va_up_ne _ _ (ni (by decide) d2)).trans d2, d3⟩
  · obtain ⟨d1, g, d2⟩ := i t ht
    exact ⟨d1, g, (va_up_ne _ _ (ni (by decide) d2)).trans d2⟩
/-- only rows of the search are others, those up to n -/
def TRU (T : ClassId × ClassId × ClassId) (tr : Nat → Nat) (f f' : Nat → va_E) (n : Nat) : Prop := (∀ a, (∀ k, k < 6 → k ≤ n → a ≠ tr k) → f' a = f a) ∧ ∀ k, k < 6 → ∃ g, f' (tr k) = eI T.1 16 g
theorem MY.tru {n : Nat} (h : MY T L f hm rs td sz wo rr tr cu th mk b Nn V) (ht : TRU T tr f f' n) : MY T L f' hm rs td sz wo rr tr cu th mk b Nn V := by
  obtain ⟨⟨a1, a2⟩, ⟨b1, g, b2, b3⟩, ⟨c1, G, c2, c3⟩, d, ⟨e1, G2, e2, e3⟩, i, j, ⟨k1, k2⟩, ⟨l1, l2⟩⟩ := h
  have no : hm ≠ tr 0 ∧ ∀ k, k < 6 → hm ≠ tr k := ⟨fun e => by obtain ⟨-, g, hg⟩ := i 0 (by decide); exact eO_eI (a2.symm.trans (e ▸ hg)), fun k hk e => by obtain ⟨-, g, hg⟩ := i k hk; exact eO_eI (a2.symm.trans (e ▸ hg))⟩
  have ni : ∀ {x n : Nat} {u : Nat → Int32}, n ≠ 16 → f x = eI T.1 n u → ∀ k, k < 6 → x ≠ tr k := fun h5 hx k hk e => by obtain ⟨-, g, hg⟩ := i k hk; exact eI_ne h5 ((e ▸ hx).symm.trans hg)
  have nq : ∀ {x n : Nat} {u : Nat → Option Nat}, f x = eQ T.2.2 n u → ∀ k, k < 6 → x ≠ tr k := fun hx k hk e => by obtain ⟨-, g, hg⟩ := i k hk; exact eQ_eI ((e ▸ hx).symm.trans hg)
  refine ⟨⟨a1, (ht.1 _ fun k hk _ => no.2 k hk).trans a2⟩, ⟨b1, g, (ht.1 _ fun k hk _ => (j k hk).1.symm).trans b2, b3⟩, ⟨c1, G, (ht.1 _ fun k hk _ => nq c2 k hk).trans c2, c3⟩, fun t h9 => ?_, ⟨e1, G2, (ht.1 _ fun k hk _ => nq e2 k hk).trans e2, e3⟩, fun k hk => ⟨(i k hk).1, ht.2 k hk⟩, j, ⟨k1, (ht.1 _ fun k hk _ => ni (by decide) k2 k hk).trans k2⟩, ⟨l1, (ht.1 _ fun k hk _ => ni (by decide) l2 k hk).trans l2⟩⟩
  obtain ⟨d1, g, d2, d3⟩ := d t h9
  exact ⟨d1, g, (ht.1 _ fun k hk _ => ((j k hk).2.1 t h9).symm).trans d2, d3⟩
theorem TRU.rf {n : Nat} (h : MY T L f hm rs td sz wo rr tr cu th mk b Nn V) : TRU T tr f f n := ⟨fun _ _ => rfl, fun k hk => (h.2.2.2.2.2.1 k hk).2⟩
theorem TRU.up {f1 f2 : Nat → va_E} {n m : Nat} (h1 : TRU T tr f f1 n) (h2 : TRU T tr f1 f2 m) (hm : m ≤ n) : TRU T tr f f2 n := ⟨fun a ha => (h2.1 a fun k hk hkm => ha k hk (by omega)).trans (h1.1 a ha), h2.2⟩
theorem TRU.upd {f1 : Nat → va_E} {n : Nat} {g : Nat → Int32} (h : MY T L f hm rs td sz wo rr tr cu th mk b Nn V) (hn : n < 6) (hU : UPD T f f1 (tr n) g) : TRU T tr f f1 n := ⟨fun a ha => hU.2 a (ha n hn (Nat.le_refl n)), fun k hk => by
  by_cases e : tr k = tr n
  · rw [e]; exact ⟨g, hU.1⟩
  · obtain ⟨-, g2, hg2⟩ := h.2.2.2.2.2.1 k hk
    exact ⟨g2, (hU.2 _ e).trans hg2⟩⟩
theorem FRM.rf : FRM hm sz wo tr L f L f := fun a ha => ⟨ha, fun _ _ _ _ => rfl⟩
theorem FRM.keep {L1 L2 : List Nat} {f1 f2 : Nat → va_E} (h : FRM hm sz wo tr L f L1 f1) (hk : ∀ a, a ∈ L1 → a ∈ L2 ∧ f2 a = f1 a) : FRM hm sz wo tr L f L2 f2 := fun a ha => ⟨(hk a (h a ha).1).1, fun h1 h2 h3 h4 => (hk a (h a ha).1).2.trans ((h a ha).2 h1 h2 h3 h4)⟩
theorem FRM.put_hm {L1 : List Nat} {f1 : Nat → va_E} {e : va_E} (h : FRM hm sz wo tr L f L1 f1) : FRM hm sz wo tr L f L1 (va_up f1 hm e) := fun a ha => ⟨(h a ha).1, fun h1 h2 h3 h4 => (va_up_ne _ _ h1).trans ((h a ha).2 h1 h2 h3 h4)⟩
theorem FRM.put_sz {L1 : List Nat} {f1 : Nat → va_E} {e : va_E} (h : FRM hm sz wo tr L f L1 f1) : FRM hm sz wo tr L f L1 (va_up f1 sz e) := fun a ha => ⟨(h a ha).1, fun h1 h2 h3 h4 => (va_up_ne _ _ h2).trans ((h a ha).2 h1 h2 h3 h4)⟩
theorem FRM.put_wo {L1 : List Nat} {f1 : Nat → va_E} {e : va_E} (h : FRM hm sz wo tr L f L1 f1) : FRM hm sz wo tr L f L1 (va_up f1 wo e) := fun a ha => ⟨(h a ha).1, fun h1 h2 h3 h4 => (va_up_ne _ _ h3).trans ((h a ha).2 h1 h2 h3 h4)⟩
theorem FRM.tru {L1 : List Nat} {f1 f2 : Nat → va_E} {n : Nat} (h : FRM hm sz wo tr L f L1 f1) (ht : TRU T tr f1 f2 n) : FRM hm sz wo tr L f L1 f2 := fun a ha => ⟨(h a ha).1, fun h1 h2 h3 h4 => (ht.1 a fun k hk _ => h4 k hk).trans ((h a ha).2 h1 h2 h3 h4)⟩
end MYS
/-- comes back in just n turns, the first not of the face lf (3: any) -/
def cm : Nat → (Nat → Nat) → Nat → Bool
  | 0 => fun b _ => decide (nRt b = 8)
  | n + 1 => fun b lf => anyN (fun t => !(decide (t / 3 = lf)) && cm n (turnC b t) (t / 3)) 9

set_option maxHeartbeats 4000000 in
set_option maxRecDepth 100000 in
theorem m_turned (l : Launch) {D : va_G} {T : ClassId × ClassId × ClassId} {z0 : Nat} {L : List Nat} {f : Nat → va_E} {hm rs td sz wo : Nat} {rr tr : Nat → Nat} {cu : Nat} {th mk : Int32} {b : Nat → Nat} {Nn V : Nat → Int32} (hY : MY T L f hm rs td sz wo rr tr cu th mk b Nn V) {x1 : Nat} {a : Nat → Nat} {g1 : Nat → Int32} (hm1 : x1 ∈ L) (he1 : f x1 = eI T.1 16 g1) (hr1 : Rp g1 a) (ha : Va a) {t : Nat} (ht : t < 9) : HV l yX1_turned wsX1_turned (3) 1 16 D z0 (zPre D T z0 L f) [.ref hm, .ref x1, .int (nI t)] (AP T L f (turnC a t)) := by
  refine HV.of (cc := cX1_turned) (maxL := 3) (ret := (some (.array .int))) (by decide) rfl (Nat.le_of_ble_eq_true rfl) ?_
  intro p e s m args below meth c hC hr hlk hin hB ls hl
  have hl : lv_has ls 3 [(0, .ref hm), (1, .ref x1), (2, .int (nI t))] := hl
  obtain ⟨hE, hP, hD⟩ := hB
  have hS : va_S (zA z0) s.heap s.heap [] := va_S.rf
  obtain ⟨⟨hmm, hem⟩, ⟨hmc, gc, hec, hRc⟩, ⟨hmr, Gr, her, hGr⟩, hrr, ⟨hmt, Gt, het, hGt⟩, htr, hnt, ⟨hms, hes⟩, ⟨hmw, hew⟩⟩ := id hY
  obtain ⟨hm2, g2, he2, hr2⟩ := hrr t ht
  refine lv_aload_n hC.1 hC.2.1 dX1_turned_0 rfl (lv_at hl 1 rfl) ?_
  refine lv_aload_n hC.1 hC.2.1 dX1_turned_1 rfl (lv_at hl 0 rfl) ?_
  refine p_get (ref := "CornerCubeModel") hC hE hP hmm hem rfl (by decide +kernel) 3 (by decide) (by decide +kernel) rfl rfl dX1_turned_2 ?_
  refine lv_iload_n hC.1 hC.2.1 dX1_turned_5 rfl (lv_at hl 2 rfl) ?_
  refine p_aald hC hE hP hmr her (by omega) (by decide) (hGr _ (by omega)) dX1_turned_6 ?_
  refine p_csH (n := 2) (m_then l hm1 hm2 he1 he2 hr1 hr2 ha (tq_Va t)) hC hE hP hD hS gX1_turned_X1_then rfl (by decide +kernel) rfl ⟨by decide, by decide⟩ ⟨by simp only [rD]; omega, by simp only [rD]; omega⟩ hl.1 (Nat.le_of_ble_eq_true rfl) dX1_turned_7 rfl (fun o L2 f2 H locs hpost hP hD hS => ?_)
  obtain ⟨y, rfl, hq⟩ := hpost.get
  rw [comp_tq] at hq
  exact HV.aret hC hr hlk hP hD hS (by omega) (by omega) dX1_turned_10 (⟨y, rfl, hq⟩)

set_option maxHeartbeats 4000000 in
set_option maxRecDepth 100000 in
theorem m_rowOf (l : Launch) {D : va_G} {T : ClassId × ClassId × ClassId} {z0 : Nat} {L : List Nat} {f : Nat → va_E} {hm rs td sz wo : Nat} {rr tr : Nat → Nat} {cu : Nat} {th mk : Int32} {b : Nat → Nat} {Nn V : Nat → Int32} (hY : MY T L f hm rs td sz wo rr tr cu th mk b Nn V) {wd : Nat → List Nat} (hMS : MS Nn V wd) {w : Nat} (hw : w < 5) : HV l yX1_rowOf wsX1_rowOf (4) 13 208 D z0 (zPre D T z0 L f) [.ref hm, .int (nI w)] (AP T L f (deed (wd w))) := by
  refine HV.of (cc := cX1_rowOf) (maxL := 4) (ret := (some (.array .int))) (by decide) rfl (Nat.le_of_ble_eq_true rfl) ?_
  intro p e s m args below meth c hC hr hlk hin hB ls hl
  have hl : lv_has ls 4 [(0, .ref hm), (1, .int (nI w))] := hl
  obtain ⟨hE, hP, hD⟩ := hB
  have hS : va_S (zA z0) s.heap s.heap [] := va_S.rf
  obtain ⟨⟨hmm, hem⟩, ⟨hmc, gc, hec, hRc⟩, ⟨hmr, Gr, her, hGr⟩, hrr, ⟨hmt, Gt, het, hGt⟩, htr, hnt, ⟨hms, hes⟩, ⟨hmw, hew⟩⟩ := id hY
  obtain ⟨hw1, hw2, hw3⟩ := hMS w hw
  refine p_csH (n := 0) (m_right l) hC hE hP hD hS gX1_rowOf_X1_right rfl (by decide +kernel) rfl ⟨by decide, by decide⟩ ⟨by simp only [rD]; omega, by simp only [rD]; omega⟩ hl.1 (Nat.le_of_ble_eq_true rfl) dX1_rowOf_0 rfl (fun o L1 f1 H locs hpost hP hD hS => ?_)
  obtain ⟨y, rfl, hq⟩ := hpost.get
  refine lv_astore_n (lv' := [(2, .ref y), (0, .ref hm), (1, .int (nI w))]) hC.1 hC.2.1 dX1_rowOf_3 rfl hl (by decide) rfl (fun ls hl => ?_)
  have loop : ∀ (n : Nat) (k y : Nat) (L1 : List Nat) (f1 : Nat → va_E) (H : Heap) (locs : List Loc), k + n = (wd w).length → AQ T L f (bhN one (wd w) k) y L1 f1 → va_P D vwCl (va_pl L1 f1) H → va_D (zA z0) (va_pl L1 f1) → va_S (zA z0) s.heap H locs → ∀ ls : Array Slot, lv_has ls 4 [(0, .ref hm), (1, .int (nI w)), (2, .ref y), (3, .int (nI k))] → W p l e (rD (4) 13 208) s m args below meth c H locs (1 + k) (16 + 16 * k) (MQ below (HVQ D z0 (AP T L f (deed (wd w)))) args s 13 208 (zA z0)) (F0 m 6 ls []) := by
    intro n
    induction n with
    | zero =>
      intro k y L1 f1 H locs hk hq hP hD hS ls hl
      have hY := hY.keep hq.2.2.1
      obtain ⟨⟨hmm, hem⟩, ⟨hmc, gc, hec, hRc⟩, ⟨hmr, Gr, her, hGr⟩, hrr, ⟨hmt, Gt, het, hGt⟩, htr, hnt, ⟨hms, hes⟩, ⟨hmw, hew⟩⟩ := id hY
      have hk3 : k = (wd w).length := by omega
      refine lv_iload_n hC.1 hC.2.1 dX1_rowOf_6 rfl (lv_at hl 3 rfl) ?_
      refine lv_aload_n hC.1 hC.2.1 dX1_rowOf_7 rfl (lv_at hl 0 rfl) ?_
      refine p_get (ref := "CornerCubeModel") hC hE hP hmm hem rfl (by decide +kernel) 5 (by decide) (by decide +kernel) rfl rfl dX1_rowOf_8 ?_
      refine lv_iload_n hC.1 hC.2.1 dX1_rowOf_11 rfl (lv_at hl 1 rfl) ?_
      refine p_iald hC hE hP hms hes (by omega) (by decide) dX1_rowOf_12 ?_
      refine q_i (nI (wd w).length) (hw1) ?_
      refine z_icmp_ge (tgt := 39) hC dX1_rowOf_13 (by decide) (by omega) (by omega) (fun h_13 => ?_) (fun h_13 => by omega)
      refine lv_aload_n hC.1 hC.2.1 dX1_rowOf_39 rfl (lv_at hl 2 rfl) ?_
      exact HV.aret hC hr hlk hP hD hS (by omega) (by omega) dX1_rowOf_40 (⟨y, rfl, by subst hk3; exact hq⟩)
    | succ n ih =>
      intro k y L1 f1 H locs hk hq hP hD hS ls hl
      have hY := hY.keep hq.2.2.1
      obtain ⟨⟨hmm, hem⟩, ⟨hmc, gc, hec, hRc⟩, ⟨hmr, Gr, her, hGr⟩, hrr, ⟨hmt, Gt, het, hGt⟩, htr, hnt, ⟨hms, hes⟩, ⟨hmw, hew⟩⟩ := id hY
      obtain ⟨g1, hg1, hR1⟩ := hq.2.2.2
      refine lv_iload_n hC.1 hC.2.1 dX1_rowOf_6 rfl (lv_at hl 3 rfl) ?_
      refine lv_aload_n hC.1 hC.2.1 dX1_rowOf_7 rfl (lv_at hl 0 rfl) ?_
      refine p_get (ref := "CornerCubeModel") hC hE hP hmm hem rfl (by decide +kernel) 5 (by decide) (by decide +kernel) rfl rfl dX1_rowOf_8 ?_
      refine lv_iload_n hC.1 hC.2.1 dX1_rowOf_11 rfl (lv_at hl 1 rfl) ?_
      refine p_iald hC hE hP hms hes (by omega) (by decide) dX1_rowOf_12 ?_
      refine q_i (nI (wd w).length) (hw1) ?_
      refine z_icmp_ge (tgt := 39) hC dX1_rowOf_13 (by decide) (by omega) (by omega) (fun h_13 => by omega) (fun h_13 => ?_)
      refine lv_aload_n hC.1 hC.2.1 dX1_rowOf_16 rfl (lv_at hl 0 rfl) ?_
      refine lv_aload_n hC.1 hC.2.1 dX1_rowOf_17 rfl (lv_at hl 2 rfl) ?_
      refine lv_aload_n hC.1 hC.2.1 dX1_rowOf_18 rfl (lv_at hl 0 rfl) ?_
      refine p_get (ref := "CornerCubeModel") hC hE hP hmm hem rfl (by decide +kernel) 6 (by decide) (by decide +kernel) rfl rfl dX1_rowOf_19 ?_
      refine lv_bipush (v := (nI 12)) hC.1 hC.2.1 dX1_rowOf_22 (by decide) ?_
      refine lv_iload_n hC.1 hC.2.1 dX1_rowOf_24 rfl (lv_at hl 1 rfl) ?_
      refine z_imul hC dX1_rowOf_25 ?_
      refine lv_iload_n hC.1 hC.2.1 dX1_rowOf_26 rfl (lv_at hl 3 rfl) ?_
      refine z_iadd hC dX1_rowOf_27 ?_
      refine p_iald hC hE hP hmw hew (by omega) (by decide) dX1_rowOf_28 ?_
      refine q_i (nI ((wd w).getD k 0)) ((hw3 k (by omega)).1) ?_
      refine p_cvH (n := 2) (m_turned l hY hq.2.1 hg1 hR1 (bhN_Va one_Va _ k) (hw3 k (by omega)).2) hC hE hP hD hS (hmm) (hem) rfl gX1_rowOf_X1_turned rfl (by decide +kernel) rfl ⟨by decide, by decide⟩ ⟨by simp only [rD]; omega, by simp only [rD]; omega⟩ hl.1 (Nat.le_of_ble_eq_true rfl) dX1_rowOf_29 rfl (fun o L2 f2 H locs hpost hP hD hS => ?_)
      obtain ⟨y2, rfl, hq2⟩ := hpost.get
      refine lv_astore_n (lv' := [(2, .ref y2), (0, .ref hm), (1, .int (nI w)), (3, .int (nI k))]) hC.1 hC.2.1 dX1_rowOf_32 rfl hl (by decide) rfl (fun ls hl => ?_)
      refine lv_iinc (v := nI (k + 1)) (lv' := [(3, .int (nI (k + 1))), (2, .ref y2), (0, .ref hm), (1, .int (nI w))]) hC.1 hC.2.1 dX1_rowOf_33 hl (k := 3) rfl (z_inc _) (by decide) rfl (fun ls hl => ?_)
      refine lv_goto (tgt := 6) hC.1 hC.2.1 dX1_rowOf_36 (by decide) ?_
      refine W.widen (k := 1 + (k + 1)) (n := 16 + 16 * (k + 1)) (by omega) (by omega) ?_
      exact ih (k + 1) _ _ _ _ _ (by omega) (hq.on hq2) hP hD hS ls (lv_sub hl [2, 3, 1, 0] rfl)
  refine lv_iconst (v := (nI 0)) hC.1 hC.2.1 dX1_rowOf_4 (by decide) ?_
  refine lv_istore_n (lv' := [(3, .int (nI 0)), (2, .ref y), (0, .ref hm), (1, .int (nI w))]) hC.1 hC.2.1 dX1_rowOf_5 rfl hl (by decide) rfl (fun ls hl => ?_)
  refine W.widen (k := 1 + 0) (n := 16 + 16 * 0) (by omega) (by omega) ?_
  exact loop (wd w).length 0 _ _ _ _ _ (Nat.zero_add _) hq hP hD hS ls (lv_sub hl [2, 3, 1, 0] rfl)

set_option maxHeartbeats 4000000 in
set_option maxRecDepth 100000 in
theorem m_comes (l : Launch) {D : va_G} {T : ClassId × ClassId × ClassId} {z0 : Nat} {L : List Nat} {hm rs td sz wo : Nat} {rr tr : Nat → Nat} {cu : Nat} {th mk : Int32} {b : Nat → Nat} {Nn V : Nat → Int32} : ∀ (n : Nat), n < 6 → ∀ {f : Nat → va_E} (hY : MY T L f hm rs td sz wo rr tr cu th mk b Nn V) {x1 : Nat} {a : Nat → Nat} {g1 : Nat → Int32} (hm1 : x1 ∈ L) (he1 : f x1 = eI T.1 16 g1) (hr1 : Rp g1 a) (ha : Va a) (hx : ∀ k, k < 6 → k ≤ n → x1 ≠ tr k) {lf : Nat} (hlf : lf ≤ 3),
    HV l yX1_comes wsX1_comes (3 + n) 0 0 D z0 (zPre D T z0 L f) [.ref hm, .ref x1, .int (nI n), .int (lastI lf)] (fun o L' f' => o = some (.int (nI (bI (cm n a lf)))) ∧ L' = L ∧ TRU T tr f f' n) := by
  intro n
  induction n with
  | zero =>
    intro hn6 f hY x1 a g1 hm1 he1 hr1 ha hx lf hlf
    refine HV.of (cc := cX1_comes) (maxL := 5) (ret := (some .boolean)) (by decide) rfl (Nat.le_of_ble_eq_true rfl) ?_
    intro p e s m args below meth c hC hr hlk hin hB ls hl
    have hl : lv_has ls 5 [(0, .ref hm), (1, .ref x1), (2, .int (nI 0)), (3, .int (lastI lf))] := hl
    obtain ⟨hE, hP, hD⟩ := hB
    have hS : va_S (zA z0) s.heap s.heap [] := va_S.rf
    obtain ⟨⟨hmm, hem⟩, ⟨hmc, gc, hec, hRc⟩, ⟨hmr, Gr, her, hGr⟩, hrr, ⟨hmt, Gt, het, hGt⟩, htr, hnt, ⟨hms, hes⟩, ⟨hmw, hew⟩⟩ := id hY
    refine lv_iload_n hC.1 hC.2.1 dX1_comes_0 rfl (lv_at hl 2 rfl) ?_
    refine z_if_ne (tgt := 20) hC dX1_comes_1 (by decide) (by omega) (fun h_1 => by omega) (fun h_1 => ?_)
    refine lv_aload_n hC.1 hC.2.1 dX1_comes_4 rfl (lv_at hl 1 rfl) ?_
    refine lv_iconst (v := (nI 1)) hC.1 hC.2.1 dX1_comes_5 (by decide) ?_
    refine p_csB (n := 2) (m_many l hm1 he1 hr1 ha (what := 1) (by decide) (by decide)) hC hE hP hD hS gX1_comes_X1_many rfl (by decide +kernel) rfl ⟨by simp only [rD]; omega, by simp only [rD]; omega⟩ ⟨by simp only [rD]; omega, by simp only [rD]; omega⟩ hl.1 (Nat.le_of_ble_eq_true rfl) dX1_comes_6 rfl ?_
    refine q_i (nI (nRt a)) (by rw [many_1 ha]) ?_
    refine lv_bipush (v := (nI 8)) hC.1 hC.2.1 dX1_comes_9 (by decide) ?_
    refine z_icmp_ne (tgt := 18) hC dX1_comes_11 (by decide) (by first | exact nRt_lt _ | decide) (by first | exact nRt_lt _ | decide) (fun h_11 => ?_) (fun h_11 => ?_)
    · refine lv_iconst (v := (nI 0)) hC.1 hC.2.1 dX1_comes_18 (by decide) ?_
      exact HV.zret hC hr hlk hP hD hS (by omega) (by omega) dX1_comes_19 (by decide) (⟨by show some (Value.int (nI 0)) = some (.int (nI (bI (decide (nRt a = 8))))); rw [decide_eq_false h_11]; rfl, rfl, TRU.rf hY⟩)
    · refine lv_iconst (v := (nI 1)) hC.1 hC.2.1 dX1_comes_14 (by decide) ?_
      refine lv_goto (tgt := 19) hC.1 hC.2.1 dX1_comes_15 (by decide) ?_
      exact HV.zret hC hr hlk hP hD hS (by omega) (by omega) dX1_comes_19 (by decide) (⟨by show some (Value.int (nI 1)) = some (.int (nI (bI (decide (nRt a = 8))))); rw [decide_eq_true h_11]; rfl, rfl, TRU.rf hY⟩)
  | succ n ihn =>
    intro hn6 f hY x1 a g1 hm1 he1 hr1 ha hx lf hlf
    refine HV.of (cc := cX1_comes) (maxL := 5) (ret := (some .boolean)) (by decide) rfl (Nat.le_of_ble_eq_true rfl) ?_
    intro p e s m args below meth c hC hr hlk hin hB ls hl
    have hl : lv_has ls 5 [(0, .ref hm), (1, .ref x1), (2, .int (nI (n + 1))), (3, .int (lastI lf))] := hl
    obtain ⟨hE, hP, hD⟩ := hB
    have hS : va_S (zA z0) s.heap s.heap [] := va_S.rf
    obtain ⟨⟨hmm, hem⟩, ⟨hmc, gc, hec, hRc⟩, ⟨hmr, Gr, her, hGr⟩, hrr, ⟨hmt, Gt, het, hGt⟩, htr, hnt, ⟨hms, hes⟩, ⟨hmw, hew⟩⟩ := id hY
    have loop : ∀ (n2 : Nat) (t : Nat) (f1 : Nat → va_E) (H : Heap) (locs : List Loc), t + n2 = 9 → anyN (fun t => !(decide (t / 3 = lf)) && cm n (turnC a t) (t / 3)) t = false → TRU T tr f f1 (n + 1) → va_P D vwCl (va_pl L f1) H → va_D (zA z0) (va_pl L f1) → va_S (zA z0) s.heap H locs → ∀ ls : Array Slot, lv_has ls 5 [(0, .ref hm), (1, .ref x1), (2, .int (nI (n + 1))), (3, .int (lastI lf)), (4, .int (nI t))] → W p l e (rD (3 + (n + 1)) 0 0) s m args below meth c H locs 0 0 (MQ below (HVQ D z0 (fun o L' f' => o = some (.int (nI (bI (cm (n + 1) a lf)))) ∧ L' = L ∧ TRU T tr f f' (n + 1))) args s 0 0 (zA z0)) (F0 m 23 ls []) := by
      intro n2
      induction n2 with
      | zero =>
        intro t f1 H locs hk hfa hT hP hD hS ls hl
        have ht9 : t = 9 := by omega
        refine lv_iload hC.1 hC.2.1 dX1_comes_23 (lv_at hl 4 rfl) ?_
        refine lv_bipush (v := (nI 9)) hC.1 hC.2.1 dX1_comes_25 (by decide) ?_
        refine z_icmp_ge (tgt := 77) hC dX1_comes_27 (by decide) (by omega) (by omega) (fun h_27 => ?_) (fun h_27 => by omega)
        refine lv_iconst (v := (nI 0)) hC.1 hC.2.1 dX1_comes_77 (by decide) ?_
        exact HV.zret hC hr hlk hP hD hS (by omega) (by omega) dX1_comes_78 (by decide) (⟨by show some (Value.int _) = some (.int (nI (bI (anyN (fun t => !(decide (t / 3 = lf)) && cm n (turnC a t) (t / 3)) 9)))); subst ht9; rw [hfa]; rfl, rfl, hT⟩)
      | succ n2 ih =>
        intro t f1 H locs hk hfa hT hP hD hS ls hl
        have hY := hY.tru hT
        obtain ⟨⟨hmm, hem⟩, ⟨hmc, gc, hec, hRc⟩, ⟨hmr, Gr, her, hGr⟩, hrr, ⟨hmt, Gt, het, hGt⟩, htr, hnt, ⟨hms, hes⟩, ⟨hmw, hew⟩⟩ := id hY
        have he1 := (hT.1 x1 hx).trans he1
        obtain ⟨hm2, g2, he2, hr2⟩ := hrr t (by omega)
        obtain ⟨hm3, g3, he3⟩ := htr (n + 1) hn6
        have hn1 := (hx (n + 1) hn6 (Nat.le_refl _)).symm
        have hn2 := (hnt (n + 1) hn6).2.1 t (by omega)
        refine lv_iload hC.1 hC.2.1 dX1_comes_23 (lv_at hl 4 rfl) ?_
        refine lv_bipush (v := (nI 9)) hC.1 hC.2.1 dX1_comes_25 (by decide) ?_
        refine z_icmp_ge (tgt := 77) hC dX1_comes_27 (by decide) (by omega) (by omega) (fun h_27 => by omega) (fun h_27 => ?_)
        refine lv_iload hC.1 hC.2.1 dX1_comes_30 (lv_at hl 4 rfl) ?_
        refine lv_iconst (v := (nI 3)) hC.1 hC.2.1 dX1_comes_32 (by decide) ?_
        refine z_idiv hC dX1_comes_33 (by omega) (by decide) (by decide) ?_
        refine lv_iload_n hC.1 hC.2.1 dX1_comes_34 rfl (lv_at hl 3 rfl) ?_
        refine lv_icmp_eq (tgt := 71) hC.1 hC.2.1 dX1_comes_35 (by decide) (fun h_35 => ?_) (fun h_35 => ?_)
        · refine lv_iinc (v := nI (t + 1)) (lv' := [(4, .int (nI (t + 1))), (0, .ref hm), (1, .ref x1), (2, .int (nI (n + 1))), (3, .int (lastI lf))]) hC.1 hC.2.1 dX1_comes_71 hl (k := 4) rfl (z_inc _) (by decide) rfl (fun ls hl => ?_)
          refine lv_goto (tgt := 23) hC.1 hC.2.1 dX1_comes_74 (by decide) ?_
          exact ih (t + 1) _ _ _ (by omega) (anyN_no hfa (by have e1 := (lastI_eq (by omega) hlf).mp h_35; simp [e1])) hT hP hD hS ls (lv_sub hl [1, 2, 3, 4, 0] rfl)
        · refine lv_aload_n hC.1 hC.2.1 dX1_comes_38 rfl (lv_at hl 0 rfl) ?_
          refine lv_aload_n hC.1 hC.2.1 dX1_comes_39 rfl (lv_at hl 1 rfl) ?_
          refine lv_aload_n hC.1 hC.2.1 dX1_comes_40 rfl (lv_at hl 0 rfl) ?_
          refine p_get (ref := "CornerCubeModel") hC hE hP hmm hem rfl (by decide +kernel) 3 (by decide) (by decide +kernel) rfl rfl dX1_comes_41 ?_
          refine lv_iload hC.1 hC.2.1 dX1_comes_44 (lv_at hl 4 rfl) ?_
          refine p_aald hC hE hP hmr her (by omega) (by decide) (hGr _ (by omega)) dX1_comes_46 ?_
          refine lv_aload_n hC.1 hC.2.1 dX1_comes_47 rfl (lv_at hl 0 rfl) ?_
          refine p_get (ref := "CornerCubeModel") hC hE hP hmm hem rfl (by decide +kernel) 4 (by decide) (by decide +kernel) rfl rfl dX1_comes_48 ?_
          refine lv_iload_n hC.1 hC.2.1 dX1_comes_51 rfl (lv_at hl 2 rfl) ?_
          refine p_aald hC hE hP hmt het (by omega) (by decide) (hGt _ (by omega)) dX1_comes_52 ?_
          refine p_csH (n := 3) (m_into l hm1 hm2 hm3 he1 he2 he3 hr1 hr2 hn1 hn2 ha (tq_Va t)) hC hE hP hD hS gX1_comes_X1_into rfl (by decide +kernel) rfl ⟨by simp only [rD]; omega, by simp only [rD]; omega⟩ ⟨by simp only [rD]; omega, by simp only [rD]; omega⟩ hl.1 (Nat.le_of_ble_eq_true rfl) dX1_comes_53 rfl (fun o L2 f2 H locs hpost hP hD hS => ?_)
          obtain ⟨rfl, hLe, g4, hU, hR4⟩ := hpost
          rw [hLe] at hP hD
          rw [comp_tq] at hR4
          have hT2 := TRU.upd hY hn6 hU
          have hY2 := hY.tru hT2
          refine lv_iload_n hC.1 hC.2.1 dX1_comes_56 rfl (lv_at hl 2 rfl) ?_
          refine lv_iconst (v := (nI 1)) hC.1 hC.2.1 dX1_comes_57 (by decide) ?_
          refine z_isub hC dX1_comes_58 (by omega) ?_
          refine q_i (nI n) (by rfl) ?_
          refine lv_iload hC.1 hC.2.1 dX1_comes_59 (lv_at hl 4 rfl) ?_
          refine lv_iconst (v := (nI 3)) hC.1 hC.2.1 dX1_comes_61 (by decide) ?_
          refine z_idiv hC dX1_comes_62 (by omega) (by decide) (by decide) ?_
          refine q_i (lastI (t / 3)) ((lastI_lt (by omega)).symm) ?_
          refine p_cvH (n := 3) (ihn (by omega) hY2 hm3 hU.1 hR4 (turnC_Va _ _) (fun k hk hkn e => by have := (hnt (n + 1) hn6).2.2 k hk e; omega) (lf := t / 3) (by omega)) hC hE hP hD hS (hY2.1.1) (hY2.1.2) rfl gX1_comes_X1_comes rfl (by decide +kernel) rfl ⟨by simp only [rD]; omega, by simp only [rD]; omega⟩ ⟨by simp only [rD]; omega, by simp only [rD]; omega⟩ hl.1 (Nat.le_of_ble_eq_true rfl) dX1_comes_63 rfl (fun o L3 f3 H locs hpost hP hD hS => ?_)
          obtain ⟨rfl, hLe, hT3⟩ := hpost
          rw [hLe] at hP hD
          have hT := (hT.up hT2 (Nat.le_refl _)).up hT3 (by omega)
          refine z_if_eq (tgt := 71) hC dX1_comes_66 (by decide) (bI_lt _) (fun h_66 => ?_) (fun h_66 => ?_)
          · refine lv_iinc (v := nI (t + 1)) (lv' := [(4, .int (nI (t + 1))), (0, .ref hm), (1, .ref x1), (2, .int (nI (n + 1))), (3, .int (lastI lf))]) hC.1 hC.2.1 dX1_comes_71 hl (k := 4) rfl (z_inc _) (by decide) rfl (fun ls hl => ?_)
            refine lv_goto (tgt := 23) hC.1 hC.2.1 dX1_comes_74 (by decide) ?_
            exact ih (t + 1) _ _ _ (by omega) (anyN_no hfa (by have e1 := bI_0.mp h_66; simp [e1])) hT hP hD hS ls (lv_sub hl [1, 2, 3, 4, 0] rfl)
          · refine lv_iconst (v := (nI 1)) hC.1 hC.2.1 dX1_comes_69 (by decide) ?_
            exact HV.zret hC hr hlk hP hD hS (by omega) (by omega) dX1_comes_70 (by decide) (⟨by show some (Value.int _) = some (.int (nI (bI (anyN (fun t => !(decide (t / 3 = lf)) && cm n (turnC a t) (t / 3)) 9)))); rw [anyN_of (i := t) (q := (fun t => !(decide (t / 3 = lf)) && cm n (turnC a t) (t / 3))) (by have e1 := bI_n0.mp h_66; have e2 : ¬ t / 3 = lf := fun q => h_35 ((lastI_eq (by omega) hlf).mpr q); simp [e1, e2]) 9 (by omega)]; rfl, rfl, hT⟩)
    refine lv_iload_n hC.1 hC.2.1 dX1_comes_0 rfl (lv_at hl 2 rfl) ?_
    refine z_if_ne (tgt := 20) hC dX1_comes_1 (by decide) (by omega) (fun h_1 => ?_) (fun h_1 => by omega)
    refine lv_iconst (v := (nI 0)) hC.1 hC.2.1 dX1_comes_20 (by decide) ?_
    refine lv_istore (lv' := [(4, .int (nI 0)), (0, .ref hm), (1, .ref x1), (2, .int (nI (n + 1))), (3, .int (lastI lf))]) hC.1 hC.2.1 dX1_comes_21 hl (by decide) rfl (fun ls hl => ?_)
    exact loop 9 0 _ _ _ rfl rfl (TRU.rf hY) hP hD hS ls (lv_sub hl [1, 2, 3, 4, 0] rfl)

set_option maxHeartbeats 4000000 in
set_option maxRecDepth 100000 in
theorem m_farOf (l : Launch) {D : va_G} {T : ClassId × ClassId × ClassId} {z0 : Nat} {L : List Nat} {f : Nat → va_E} {hm rs td sz wo : Nat} {rr tr : Nat → Nat} {cu : Nat} {th mk : Int32} {b : Nat → Nat} {Nn V : Nat → Int32} (hY : MY T L f hm rs td sz wo rr tr cu th mk b Nn V) {x1 : Nat} {a : Nat → Nat} {g1 : Nat → Int32} (hm1 : x1 ∈ L) (he1 : f x1 = eI T.1 16 g1) (hr1 : Rp g1 a) (ha : Va a) (hx : ∀ k, k < 6 → x1 ≠ tr k) {most : Nat} (hmost : most ≤ 5) {N : Nat} (hN : N ≤ most) (h1 : ∀ k, k < N → cm k a 3 = false) (h2 : cm N a 3 = true) : HV l yX1_farOf wsX1_farOf (10) 0 0 D z0 (zPre D T z0 L f) [.ref hm, .ref x1, .int (nI most)] (fun o L' f' => o = some (.int (nI N)) ∧ L' = L ∧ TRU T tr f f' 5) := by
  refine HV.of (cc := cX1_farOf) (maxL := 4) (ret := (some .int)) (by decide) rfl (Nat.le_of_ble_eq_true rfl) ?_
  intro p e s m args below meth c hC hr hlk hin hB ls hl
  have hl : lv_has ls 4 [(0, .ref hm), (1, .ref x1), (2, .int (nI most))] := hl
  obtain ⟨hE, hP, hD⟩ := hB
  have hS : va_S (zA z0) s.heap s.heap [] := va_S.rf
  obtain ⟨⟨hmm, hem⟩, ⟨hmc, gc, hec, hRc⟩, ⟨hmr, Gr, her, hGr⟩, hrr, ⟨hmt, Gt, het, hGt⟩, htr, hnt, ⟨hms, hes⟩, ⟨hmw, hew⟩⟩ := id hY
  have loop : ∀ (n : Nat) (k : Nat) (f1 : Nat → va_E) (H : Heap) (locs : List Loc), k + n = N → TRU T tr f f1 5 → va_P D vwCl (va_pl L f1) H → va_D (zA z0) (va_pl L f1) → va_S (zA z0) s.heap H locs → ∀ ls : Array Slot, lv_has ls 4 [(0, .ref hm), (1, .ref x1), (2, .int (nI most)), (3, .int (nI k))] → W p l e (rD (10) 0 0) s m args below meth c H locs (0) (0) (MQ below (HVQ D z0 (fun o L' f' => o = some (.int (nI N)) ∧ L' = L ∧ TRU T tr f f' 5)) args s 0 0 (zA z0)) (F0 m 2 ls []) := by
    intro n
    induction n with
    | zero =>
      intro k f1 H locs hk hT hP hD hS ls hl
      obtain rfl : k = N := by omega
      have hY := hY.tru hT
      obtain ⟨⟨hmm, hem⟩, ⟨hmc, gc, hec, hRc⟩, ⟨hmr, Gr, her, hGr⟩, hrr, ⟨hmt, Gt, het, hGt⟩, htr, hnt, ⟨hms, hes⟩, ⟨hmw, hew⟩⟩ := id hY
      have he1 := (hT.1 x1 (fun k hk _ => hx k hk)).trans he1
      refine lv_iload_n hC.1 hC.2.1 dX1_farOf_2 rfl (lv_at hl 3 rfl) ?_
      refine lv_iload_n hC.1 hC.2.1 dX1_farOf_3 rfl (lv_at hl 2 rfl) ?_
      refine z_icmp_gt (tgt := 25) hC dX1_farOf_4 (by decide) (by omega) (by omega) (fun h_4 => by omega) (fun h_4 => ?_)
      refine lv_aload_n hC.1 hC.2.1 dX1_farOf_7 rfl (lv_at hl 0 rfl) ?_
      refine lv_aload_n hC.1 hC.2.1 dX1_farOf_8 rfl (lv_at hl 1 rfl) ?_
      refine lv_iload_n hC.1 hC.2.1 dX1_farOf_9 rfl (lv_at hl 3 rfl) ?_
      refine lv_iconst (v := (-1)) hC.1 hC.2.1 dX1_farOf_10 (by decide) ?_
      refine q_i (lastI 3) (by decide) ?_
      refine p_cvH (n := 3) (m_comes l k (by omega) hY hm1 he1 hr1 ha (fun k hk _ => hx k hk) (lf := 3) (by decide)) hC hE hP hD hS (hmm) (hem) rfl gX1_farOf_X1_comes rfl (by decide +kernel) rfl ⟨by simp only [rD]; omega, by simp only [rD]; omega⟩ ⟨by simp only [rD]; omega, by simp only [rD]; omega⟩ hl.1 (Nat.le_of_ble_eq_true rfl) dX1_farOf_11 rfl (fun o L3 f3 H locs hpost hP hD hS => ?_)
      obtain ⟨rfl, hLe, hT3⟩ := hpost
      rw [hLe] at hP hD
      have hT := hT.up hT3 (by omega)
      refine z_if_eq (tgt := 19) hC dX1_farOf_14 (by decide) (bI_lt _) (fun h_14 => absurd (bI_0.mp h_14) (by simp [h2])) (fun h_14 => ?_)
      refine lv_iload_n hC.1 hC.2.1 dX1_farOf_17 rfl (lv_at hl 3 rfl) ?_
      exact HV.iret hC hr hlk hP hD hS (by omega) (by omega) dX1_farOf_18 (⟨rfl, rfl, hT⟩)
    | succ n ih =>
      intro k f1 H locs hk hT hP hD hS ls hl
      have hY := hY.tru hT
      obtain ⟨⟨hmm, hem⟩, ⟨hmc, gc, hec, hRc⟩, ⟨hmr, Gr, her, hGr⟩, hrr, ⟨hmt, Gt, het, hGt⟩, htr, hnt, ⟨hms, hes⟩, ⟨hmw, hew⟩⟩ := id hY
      have he1 := (hT.1 x1 (fun k hk _ => hx k hk)).trans he1
      refine lv_iload_n hC.1 hC.2.1 dX1_farOf_2 rfl (lv_at hl 3 rfl) ?_
      refine lv_iload_n hC.1 hC.2.1 dX1_farOf_3 rfl (lv_at hl 2 rfl) ?_
      refine z_icmp_gt (tgt := 25) hC dX1_farOf_4 (by decide) (by omega) (by omega) (fun h_4 => by omega) (fun h_4 => ?_)
      refine lv_aload_n hC.1 hC.2.1 dX1_farOf_7 rfl (lv_at hl 0 rfl) ?_
      refine lv_aload_n hC.1 hC.2.1 dX1_farOf_8 rfl (lv_at hl 1 rfl) ?_
      refine lv_iload_n hC.1 hC.2.1 dX1_farOf_9 rfl (lv_at hl 3 rfl) ?_
      refine lv_iconst (v := (-1)) hC.1 hC.2.1 dX1_farOf_10 (by decide) ?_
      refine q_i (lastI 3) (by decide) ?_
      refine p_cvH (n := 3) (m_comes l k (by omega) hY hm1 he1 hr1 ha (fun k hk _ => hx k hk) (lf := 3) (by decide)) hC hE hP hD hS (hmm) (hem) rfl gX1_farOf_X1_comes rfl (by decide +kernel) rfl ⟨by simp only [rD]; omega, by simp only [rD]; omega⟩ ⟨by simp only [rD]; omega, by simp only [rD]; omega⟩ hl.1 (Nat.le_of_ble_eq_true rfl) dX1_farOf_11 rfl (fun o L3 f3 H locs hpost hP hD hS => ?_)
      obtain ⟨rfl, hLe, hT3⟩ := hpost
      rw [hLe] at hP hD
      have hT := hT.up hT3 (by omega)
      refine z_if_eq (tgt := 19) hC dX1_farOf_14 (by decide) (bI_lt _) (fun h_14 => ?_) (fun h_14 => absurd (bI_n0.mp h_14) (by simp [h1 k (by omega)]))
      refine lv_iinc (v := nI (k + 1)) (lv' := [(3, .int (nI (k + 1))), (0, .ref hm), (1, .ref x1), (2, .int (nI most))]) hC.1 hC.2.1 dX1_farOf_19 hl (k := 3) rfl (z_inc _) (by decide) rfl (fun ls hl => ?_)
      refine lv_goto (tgt := 2) hC.1 hC.2.1 dX1_farOf_22 (by decide) ?_
      exact ih (k + 1) _ _ _ (by omega) hT hP hD hS ls (lv_sub hl [1, 2, 3, 0] rfl)
  refine lv_iconst (v := (nI 0)) hC.1 hC.2.1 dX1_farOf_0 (by decide) ?_
  refine lv_istore_n (lv' := [(3, .int (nI 0)), (0, .ref hm), (1, .ref x1), (2, .int (nI most))]) hC.1 hC.2.1 dX1_farOf_1 rfl hl (by decide) rfl (fun ls hl => ?_)
  exact loop N 0 _ _ _ (Nat.zero_add _) (TRU.rf hY) hP hD hS ls (lv_sub hl [1, 2, 3, 0] rfl)

set_option maxHeartbeats 4000000 in
set_option maxRecDepth 100000 in
theorem m_farOfN (l : Launch) {D : va_G} {T : ClassId × ClassId × ClassId} {z0 : Nat} {L : List Nat} {f : Nat → va_E} {hm rs td sz wo : Nat} {rr tr : Nat → Nat} {cu : Nat} {th mk : Int32} {b : Nat → Nat} {Nn V : Nat → Int32} (hY : MY T L f hm rs td sz wo rr tr cu th mk b Nn V) {x1 : Nat} {a : Nat → Nat} {g1 : Nat → Int32} (hm1 : x1 ∈ L) (he1 : f x1 = eI T.1 16 g1) (hr1 : Rp g1 a) (ha : Va a) (hx : ∀ k, k < 6 → x1 ≠ tr k) {most : Nat} (hmost : most ≤ 5) (h1 : ∀ k, k ≤ most → cm k a 3 = false) : HV l yX1_farOf wsX1_farOf (10) 0 0 D z0 (zPre D T z0 L f) [.ref hm, .ref x1, .int (nI most)] (fun o L' f' => o = some (.int (-1)) ∧ L' = L ∧ TRU T tr f f' 5) := by
  refine HV.of (cc := cX1_farOf) (maxL := 4) (ret := (some .int)) (by decide) rfl (Nat.le_of_ble_eq_true rfl) ?_
  intro p e s m args below meth c hC hr hlk hin hB ls hl
  have hl : lv_has ls 4 [(0, .ref hm), (1, .ref x1), (2, .int (nI most))] := hl
  obtain ⟨hE, hP, hD⟩ := hB
  have hS : va_S (zA z0) s.heap s.heap [] := va_S.rf
  obtain ⟨⟨hmm, hem⟩, ⟨hmc, gc, hec, hRc⟩, ⟨hmr, Gr, her, hGr⟩, hrr, ⟨hmt, Gt, het, hGt⟩, htr, hnt, ⟨hms, hes⟩, ⟨hmw, hew⟩⟩ := id hY
  have loop : ∀ (n : Nat) (k : Nat) (f1 : Nat → va_E) (H : Heap) (locs : List Loc), k + n = most + 1 → TRU T tr f f1 5 → va_P D vwCl (va_pl L f1) H → va_D (zA z0) (va_pl L f1) → va_S (zA z0) s.heap H locs → ∀ ls : Array Slot, lv_has ls 4 [(0, .ref hm), (1, .ref x1), (2, .int (nI most)), (3, .int (nI k))] → W p l e (rD (10) 0 0) s m args below meth c H locs (0) (0) (MQ below (HVQ D z0 (fun o L' f' => o = some (.int (-1)) ∧ L' = L ∧ TRU T tr f f' 5)) args s 0 0 (zA z0)) (F0 m 2 ls []) := by
    intro n
    induction n with
    | zero =>
      intro k f1 H locs hk hT hP hD hS ls hl
      obtain rfl : k = most + 1 := by omega
      have hY := hY.tru hT
      obtain ⟨⟨hmm, hem⟩, ⟨hmc, gc, hec, hRc⟩, ⟨hmr, Gr, her, hGr⟩, hrr, ⟨hmt, Gt, het, hGt⟩, htr, hnt, ⟨hms, hes⟩, ⟨hmw, hew⟩⟩ := id hY
      have he1 := (hT.1 x1 (fun k hk _ => hx k hk)).trans he1
      refine lv_iload_n hC.1 hC.2.1 dX1_farOf_2 rfl (lv_at hl 3 rfl) ?_
      refine lv_iload_n hC.1 hC.2.1 dX1_farOf_3 rfl (lv_at hl 2 rfl) ?_
      refine z_icmp_gt (tgt := 25) hC dX1_farOf_4 (by decide) (by omega) (by omega) (fun h_4 => ?_) (fun h_4 => by omega)
      refine lv_iconst (v := (-1)) hC.1 hC.2.1 dX1_farOf_25 (by decide) ?_
      exact HV.iret hC hr hlk hP hD hS (by omega) (by omega) dX1_farOf_26 (⟨rfl, rfl, hT⟩)
    | succ n ih =>
      intro k f1 H locs hk hT hP hD hS ls hl
      have hY := hY.tru hT
      obtain ⟨⟨hmm, hem⟩, ⟨hmc, gc, hec, hRc⟩, ⟨hmr, Gr, her, hGr⟩, hrr, ⟨hmt, Gt, het, hGt⟩, htr, hnt, ⟨hms, hes⟩, ⟨hmw, hew⟩⟩ := id hY
      have he1 := (hT.1 x1 (fun k hk _ => hx k hk)).trans he1
      refine lv_iload_n hC.1 hC.2.1 dX1_farOf_2 rfl (lv_at hl 3 rfl) ?_
      refine lv_iload_n hC.1 hC.2.1 dX1_farOf_3 rfl (lv_at hl 2 rfl) ?_
      refine z_icmp_gt (tgt := 25) hC dX1_farOf_4 (by decide) (by omega) (by omega) (fun h_4 => by omega) (fun h_4 => ?_)
      refine lv_aload_n hC.1 hC.2.1 dX1_farOf_7 rfl (lv_at hl 0 rfl) ?_
      refine lv_aload_n hC.1 hC.2.1 dX1_farOf_8 rfl (lv_at hl 1 rfl) ?_
      refine lv_iload_n hC.1 hC.2.1 dX1_farOf_9 rfl (lv_at hl 3 rfl) ?_
      refine lv_iconst (v := (-1)) hC.1 hC.2.1 dX1_farOf_10 (by decide) ?_
      refine q_i (lastI 3) (by decide) ?_
      refine p_cvH (n := 3) (m_comes l k (by omega) hY hm1 he1 hr1 ha (fun k hk _ => hx k hk) (lf := 3) (by decide)) hC hE hP hD hS (hmm) (hem) rfl gX1_farOf_X1_comes rfl (by decide +kernel) rfl ⟨by simp only [rD]; omega, by simp only [rD]; omega⟩ ⟨by simp only [rD]; omega, by simp only [rD]; omega⟩ hl.1 (Nat.le_of_ble_eq_true rfl) dX1_farOf_11 rfl (fun o L3 f3 H locs hpost hP hD hS => ?_)
      obtain ⟨rfl, hLe, hT3⟩ := hpost
      rw [hLe] at hP hD
      have hT := hT.up hT3 (by omega)
      refine z_if_eq (tgt := 19) hC dX1_farOf_14 (by decide) (bI_lt _) (fun h_14 => ?_) (fun h_14 => absurd (bI_n0.mp h_14) (by simp [h1 k (by omega)]))
      refine lv_iinc (v := nI (k + 1)) (lv' := [(3, .int (nI (k + 1))), (0, .ref hm), (1, .ref x1), (2, .int (nI most))]) hC.1 hC.2.1 dX1_farOf_19 hl (k := 3) rfl (z_inc _) (by decide) rfl (fun ls hl => ?_)
      refine lv_goto (tgt := 2) hC.1 hC.2.1 dX1_farOf_22 (by decide) ?_
      exact ih (k + 1) _ _ _ (by omega) hT hP hD hS ls (lv_sub hl [1, 2, 3, 0] rfl)
  refine lv_iconst (v := (nI 0)) hC.1 hC.2.1 dX1_farOf_0 (by decide) ?_
  refine lv_istore_n (lv' := [(3, .int (nI 0)), (0, .ref hm), (1, .ref x1), (2, .int (nI most))]) hC.1 hC.2.1 dX1_farOf_1 rfl hl (by decide) rfl (fun ls hl => ?_)
  exact loop (most + 1) 0 _ _ _ (Nat.zero_add _) (TRU.rf hY) hP hD hS ls (lv_sub hl [1, 2, 3, 0] rfl)
