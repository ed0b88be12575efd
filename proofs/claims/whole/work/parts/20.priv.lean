/-! MY ROWS 20: the reference's private methods (laid by a program of mine) -/
def fdc (b : Nat → Nat) (i : Nat) : Nat → Nat → Nat
  | 0, k => k
  | u + 1, k => if orb b i k = i then k else fdc b i u (k + 1)
def clf (b : Nat → Nat) (i : Nat) : Nat := fdc b i 7 1
/-- a cube of which both sides count the same -/
def GB (b : Nat → Nat) : Prop := Va b ∧ CLs b (clf b) ∧ odc b (clf b) 8 % 2 = invs b 8 % 2 ∧ orc b (clf b) 8 = ordN b + 1 ∧ ordN b < 1000
/-- what a method leaves that only makes rows -/
def KPo (v : Value) (L : List Nat) (f : Nat → va_E) : Option Value → List Nat → (Nat → va_E) → Prop := fun o L' f' => o = some v ∧ ∀ a, a ∈ L → a ∈ L' ∧ f' a = f a
def MZ (T : ClassId × ClassId × ClassId) (L : List Nat) (f : Nat → va_E) (hm rs td sz wo : Nat) (rr tr : Nat → Nat) (cu : Nat) (th mk : Int32) (b : Nat → Nat) (wd : Nat → List Nat) : Prop := ∃ Nn V, MY T L f hm rs td sz wo rr tr cu th mk b Nn V ∧ Va b ∧ MS Nn V wd
theorem MS.put {Nn V : Nat → Int32} {wd : Nat → List Nat} (hW : MS Nn V wd) (w : Nat) (l' : List Nat) {N' V' : Nat → Int32} (h1 : ∀ v, v ≠ w → N' v = Nn v) (h2 : ∀ v k, v < 5 → v ≠ w → k < (wd v).length → V' (12 * v + k) = V (12 * v + k)) (h3 : N' w = nI l'.length) (h4 : l'.length ≤ 12) (h5 : ∀ k, k < l'.length → V' (12 * w + k) = nI (l'.getD k 0) ∧ l'.getD k 0 < 9) : MS N' V' (wset wd w l') := by
  intro v hv
  by_cases e : v = w
  · have e2 : wset wd w l' v = l' := if_pos e
    rw [e2]
    subst e
    exact ⟨h3, h4, h5⟩
  · have e2 : wset wd w l' v = wd v := if_neg e
    rw [e2, h1 v e]
    obtain ⟨a1, a2, a3⟩ := hW v hv
    exact ⟨a1, a2, fun k hk => ⟨(h2 v k hv e hk).trans (a3 k hk).1, (a3 k hk).2⟩⟩
theorem wset_same (wd : Nat → List Nat) (w : Nat) (l : List Nat) : wset wd w l w = l := if_pos rfl
theorem wset_wset (wd : Nat → List Nat) (w : Nat) (l m : List Nat) : wset (wset wd w l) w m = wset wd w m := by
  funext v
  unfold wset
  split <;> rfl

set_option maxHeartbeats 4000000 in
set_option maxRecDepth 100000 in
theorem m_no (l : Launch) {D : va_G} {T : ClassId × ClassId × ClassId} {z0 : Nat} {L : List Nat} {f : Nat → va_E} {hm rs td sz wo : Nat} {rr tr : Nat → Nat} {cu : Nat} {th mk : Int32} {b : Nat → Nat} {Nn V : Nat → Int32} (hY : MY T L f hm rs td sz wo rr tr cu th mk b Nn V) {k : Nat} : HV l yX1_no wsX1_no (1) 0 0 D z0 (zPre D T z0 L f) [.ref hm, .int (nI k)] (fun o L' f' => o = some (.int (nI 0)) ∧ L' = L ∧ MY T L f' hm rs td sz wo rr tr cu (nI k) mk b Nn V ∧ FRM hm sz wo tr L f L f') := by
  refine HV.of (cc := cX1_no) (maxL := 2) (ret := (some .int)) (by decide) rfl (Nat.le_of_ble_eq_true rfl) ?_
  intro p e s m args below meth c hC hr hlk hin hB ls hl
  have hl : lv_has ls 2 [(0, .ref hm), (1, .int (nI k))] := hl
  obtain ⟨hE, hP, hD⟩ := hB
  have hS : va_S (zA z0) s.heap s.heap [] := va_S.rf
  obtain ⟨⟨hmm, hem⟩, ⟨hmc, gc, hec, hRc⟩, ⟨hmr, Gr, her, hGr⟩, hrr, ⟨hmt, Gt, het, hGt⟩, htr, hnt, ⟨hms, hes⟩, ⟨hmw, hew⟩⟩ := id hY
  refine lv_aload_n hC.1 hC.2.1 dX1_no_0 rfl (lv_at hl 0 rfl) ?_
  refine lv_iload_n hC.1 hC.2.1 dX1_no_1 rfl (lv_at hl 1 rfl) ?_
  refine p_put (ref := "CornerCubeModel") (ty0 := tyX1) hC hE hP hD hS hmm hem rfl (by decide +kernel) tyX1_ok nmX1 0 (by decide) (by decide +kernel) rfl rfl rfl rfl (Nat.le_of_ble_eq_true rfl) dX1_no_2 (fun H locs hP hD hS => ?_)
  have hP : va_P D vwCl (va_pl _ (va_up _ hm (eO 1 [.int (nI k), .int mk, .ref cu, .ref rs, .ref td, .ref sz, .ref wo]))) H := hP
  have hD : va_D (zA z0) (va_pl _ (va_up _ hm (eO 1 [.int (nI k), .int mk, .ref cu, .ref rs, .ref td, .ref sz, .ref wo]))) := hD
  have hY := hY.put_th (nI k) mk
  have hF := (FRM.rf (hm := hm) (sz := sz) (wo := wo) (tr := tr) (L := L) (f := f)).put_hm (e := eO 1 [.int (nI k), .int mk, .ref cu, .ref rs, .ref td, .ref sz, .ref wo])
  refine lv_iconst (v := (nI 0)) hC.1 hC.2.1 dX1_no_5 (by decide) ?_
  exact HV.iret hC hr hlk hP hD hS (by omega) (by omega) dX1_no_6 (⟨rfl, rfl, hY, hF⟩)

set_option maxHeartbeats 4000000 in
set_option maxRecDepth 100000 in
theorem m_thrown (l : Launch) {D : va_G} {T : ClassId × ClassId × ClassId} {z0 : Nat} {L : List Nat} {f : Nat → va_E} {hm rs td sz wo : Nat} {rr tr : Nat → Nat} {cu : Nat} {th mk : Int32} {b : Nat → Nat} {Nn V : Nat → Int32} (hY : MY T L f hm rs td sz wo rr tr cu th mk b Nn V)  : RV l yX1_thrown wsX1_thrown (1) (zPre D T z0 L f) [.ref hm] (some (.int th)) := by
  refine RV.of (cc := cX1_thrown) (maxL := 1) (ret := (some .int)) (by decide) rfl (Nat.le_of_ble_eq_true rfl) ?_
  intro p e s m args below meth c hC hr hlk hB ls hl
  have hl : lv_has ls 1 [(0, .ref hm)] := hl
  obtain ⟨hE, hP, hD⟩ := hB
  have hS : va_S (zA z0) s.heap s.heap [] := va_S.rf
  obtain ⟨⟨hmm, hem⟩, ⟨hmc, gc, hec, hRc⟩, ⟨hmr, Gr, her, hGr⟩, hrr, ⟨hmt, Gt, het, hGt⟩, htr, hnt, ⟨hms, hes⟩, ⟨hmw, hew⟩⟩ := id hY
  refine lv_aload_n hC.1 hC.2.1 dX1_thrown_0 rfl (lv_at hl 0 rfl) ?_
  refine p_get (ref := "CornerCubeModel") hC hE hP hmm hem rfl (by decide +kernel) 0 (by decide) (by decide +kernel) rfl rfl dX1_thrown_1 ?_
  exact RV.iret hC hr hlk dX1_thrown_4 (rfl)

set_option maxHeartbeats 4000000 in
set_option maxRecDepth 100000 in
theorem m_placeTold (l : Launch) {D : va_G} {T : ClassId × ClassId × ClassId} {z0 : Nat} {L : List Nat} {f : Nat → va_E} {hm rs td sz wo : Nat} {rr tr : Nat → Nat} {cu : Nat} {th mk : Int32} {b : Nat → Nat} {Nn V : Nat → Int32} (hY : MY T L f hm rs td sz wo rr tr cu th mk b Nn V) (hvb : Va b) {q what : Nat} (hq : q < 8) (hw : what < 3) : RV l yX1_placeTold wsX1_placeTold (2) (zPre D T z0 L f) [.ref hm, .int (nI q), .int (nI what)] (some (.int (nI (tV b q what)))) := by
  refine RV.of (cc := cX1_placeTold) (maxL := 3) (ret := (some .int)) (by decide) rfl (Nat.le_of_ble_eq_true rfl) ?_
  intro p e s m args below meth c hC hr hlk hB ls hl
  have hl : lv_has ls 3 [(0, .ref hm), (1, .int (nI q)), (2, .int (nI what))] := hl
  obtain ⟨hE, hP, hD⟩ := hB
  have hS : va_S (zA z0) s.heap s.heap [] := va_S.rf
  obtain ⟨⟨hmm, hem⟩, ⟨hmc, gc, hec, hRc⟩, ⟨hmr, Gr, her, hGr⟩, hrr, ⟨hmt, Gt, het, hGt⟩, htr, hnt, ⟨hms, hes⟩, ⟨hmw, hew⟩⟩ := id hY
  rcases (by omega : what = 0 ∨ what = 1 ∨ what = 2) with rfl | rfl | rfl
  · refine lv_iload_n hC.1 hC.2.1 dX1_placeTold_0 rfl (lv_at hl 2 rfl) ?_
    refine z_if_ne (tgt := 13) hC dX1_placeTold_1 (by decide) (by omega) (fun h_1 => by omega) (fun h_1 => ?_)
    refine lv_aload_n hC.1 hC.2.1 dX1_placeTold_4 rfl (lv_at hl 0 rfl) ?_
    refine p_get (ref := "CornerCubeModel") hC hE hP hmm hem rfl (by decide +kernel) 2 (by decide) (by decide +kernel) rfl rfl dX1_placeTold_5 ?_
    refine lv_iload_n hC.1 hC.2.1 dX1_placeTold_8 rfl (lv_at hl 1 rfl) ?_
    refine p_iald hC hE hP hmc hec (by omega) (by decide) dX1_placeTold_9 ?_
    refine q_i (nI (b q % 8)) ((hRc _ (by omega)).1) ?_
    refine lv_goto (tgt := 46) hC.1 hC.2.1 dX1_placeTold_10 (by decide) ?_
    exact RV.iret hC hr hlk dX1_placeTold_46 (rfl)
  · refine lv_iload_n hC.1 hC.2.1 dX1_placeTold_0 rfl (lv_at hl 2 rfl) ?_
    refine z_if_ne (tgt := 13) hC dX1_placeTold_1 (by decide) (by omega) (fun h_1 => ?_) (fun h_1 => by omega)
    refine lv_iload_n hC.1 hC.2.1 dX1_placeTold_13 rfl (lv_at hl 2 rfl) ?_
    refine lv_iconst (v := (nI 1)) hC.1 hC.2.1 dX1_placeTold_14 (by decide) ?_
    refine z_icmp_ne (tgt := 30) hC dX1_placeTold_15 (by decide) (by omega) (by omega) (fun h_15 => by omega) (fun h_15 => ?_)
    refine lv_aload_n hC.1 hC.2.1 dX1_placeTold_18 rfl (lv_at hl 0 rfl) ?_
    refine p_get (ref := "CornerCubeModel") hC hE hP hmm hem rfl (by decide +kernel) 2 (by decide) (by decide +kernel) rfl rfl dX1_placeTold_19 ?_
    refine lv_bipush (v := (nI 8)) hC.1 hC.2.1 dX1_placeTold_22 (by decide) ?_
    refine lv_iload_n hC.1 hC.2.1 dX1_placeTold_24 rfl (lv_at hl 1 rfl) ?_
    refine z_iadd hC dX1_placeTold_25 ?_
    refine p_iald hC hE hP hmc hec (by omega) (by decide) dX1_placeTold_26 ?_
    refine q_i (nI (b q / 8)) ((hRc _ (by omega)).2) ?_
    refine lv_goto (tgt := 46) hC.1 hC.2.1 dX1_placeTold_27 (by decide) ?_
    exact RV.iret hC hr hlk dX1_placeTold_46 (rfl)
  · refine lv_iload_n hC.1 hC.2.1 dX1_placeTold_0 rfl (lv_at hl 2 rfl) ?_
    refine z_if_ne (tgt := 13) hC dX1_placeTold_1 (by decide) (by omega) (fun h_1 => ?_) (fun h_1 => by omega)
    refine lv_iload_n hC.1 hC.2.1 dX1_placeTold_13 rfl (lv_at hl 2 rfl) ?_
    refine lv_iconst (v := (nI 1)) hC.1 hC.2.1 dX1_placeTold_14 (by decide) ?_
    refine z_icmp_ne (tgt := 30) hC dX1_placeTold_15 (by decide) (by omega) (by omega) (fun h_15 => ?_) (fun h_15 => by omega)
    refine lv_aload_n hC.1 hC.2.1 dX1_placeTold_30 rfl (lv_at hl 0 rfl) ?_
    refine p_get (ref := "CornerCubeModel") hC hE hP hmm hem rfl (by decide +kernel) 2 (by decide) (by decide +kernel) rfl rfl dX1_placeTold_31 ?_
    refine lv_iload_n hC.1 hC.2.1 dX1_placeTold_34 rfl (lv_at hl 1 rfl) ?_
    refine p_csB (n := 2) (m_isRight l hmc hec hRc hvb hq) hC hE hP hD hS gX1_placeTold_X1_isRight rfl (by decide +kernel) rfl ⟨by decide, by decide⟩ ⟨Nat.zero_le _, Nat.zero_le _⟩ hl.1 (Nat.le_of_ble_eq_true rfl) dX1_placeTold_35 rfl ?_
    refine z_if_eq (tgt := 45) hC dX1_placeTold_38 (by decide) (ite_bd) (fun h_38 => ?_) (fun h_38 => ?_)
    · refine lv_iconst (v := (nI 0)) hC.1 hC.2.1 dX1_placeTold_45 (by decide) ?_
      exact RV.iret hC hr hlk dX1_placeTold_46 (by show nI 0 = nI (if b q = q then 1 else 0); rw [h_38])
    · refine lv_iconst (v := (nI 1)) hC.1 hC.2.1 dX1_placeTold_41 (by decide) ?_
      refine lv_goto (tgt := 46) hC.1 hC.2.1 dX1_placeTold_42 (by decide) ?_
      exact RV.iret hC hr hlk dX1_placeTold_46 (by show nI 1 = nI (if b q = q then 1 else 0); rw [if_pos (Classical.byContradiction fun e => h_38 (if_neg e))])

set_option maxHeartbeats 4000000 in
set_option maxRecDepth 100000 in
theorem m_allTurns (l : Launch) {D : va_G} {T : ClassId × ClassId × ClassId} {z0 : Nat} {L : List Nat} {f : Nat → va_E} {hm rs td sz wo : Nat} {rr tr : Nat → Nat} {cu : Nat} {th mk : Int32} {b : Nat → Nat} {Nn V : Nat → Int32} (hY : MY T L f hm rs td sz wo rr tr cu th mk b Nn V) {wd : Nat → List Nat} (hMS : MS Nn V wd) : RV l yX1_allTurns wsX1_allTurns (1) (zPre D T z0 L f) [.ref hm] (some (.int (nI (tot wd 5)))) := by
  refine RV.of (cc := cX1_allTurns) (maxL := 6) (ret := (some .int)) (by decide) rfl (Nat.le_of_ble_eq_true rfl) ?_
  intro p e s m args below meth c hC hr hlk hB ls hl
  have hl : lv_has ls 6 [(0, .ref hm)] := hl
  obtain ⟨hE, hP, hD⟩ := hB
  have hS : va_S (zA z0) s.heap s.heap [] := va_S.rf
  obtain ⟨⟨hmm, hem⟩, ⟨hmc, gc, hec, hRc⟩, ⟨hmr, Gr, her, hGr⟩, hrr, ⟨hmt, Gt, het, hGt⟩, htr, hnt, ⟨hms, hes⟩, ⟨hmw, hew⟩⟩ := id hY
  have loop : ∀ (n i : Nat), i + n = 5 → ∀ ls : Array Slot, lv_has ls 6 [(0, .ref hm), (1, .int (nI (tot wd i))), (2, .ref sz), (3, .int (nI 5)), (4, .int (nI i))] → W p l e (rD (1) 0 0) s m args below meth c s.heap [] 0 0 (MQ below (RVQ (some (.int (nI (tot wd 5))))) args s 0 0 (fun _ => False)) (F0 m 13 ls []) := by
    intro n
    induction n with
    | zero =>
      intro i hc0 ls hl
      obtain rfl : i = 5 := by omega
      refine lv_iload hC.1 hC.2.1 dX1_allTurns_13 (lv_at hl 4 rfl) ?_
      refine lv_iload_n hC.1 hC.2.1 dX1_allTurns_15 rfl (lv_at hl 3 rfl) ?_
      refine z_icmp_ge (tgt := 36) hC dX1_allTurns_16 (by decide) (by omega) (by omega) (fun h_16 => ?_) (fun h_16 => by omega)
      refine lv_iload_n hC.1 hC.2.1 dX1_allTurns_36 rfl (lv_at hl 1 rfl) ?_
      exact RV.iret hC hr hlk dX1_allTurns_37 (rfl)
    | succ n ih =>
      intro i hc0 ls hl
      refine lv_iload hC.1 hC.2.1 dX1_allTurns_13 (lv_at hl 4 rfl) ?_
      refine lv_iload_n hC.1 hC.2.1 dX1_allTurns_15 rfl (lv_at hl 3 rfl) ?_
      refine z_icmp_ge (tgt := 36) hC dX1_allTurns_16 (by decide) (by omega) (by omega) (fun h_16 => by omega) (fun h_16 => ?_)
      refine lv_aload_n hC.1 hC.2.1 dX1_allTurns_19 rfl (lv_at hl 2 rfl) ?_
      refine lv_iload hC.1 hC.2.1 dX1_allTurns_20 (lv_at hl 4 rfl) ?_
      refine p_iald hC hE hP hms hes (by omega) (by decide) dX1_allTurns_22 ?_
      refine q_i (nI (wd i).length) ((hMS _ (by omega)).1) ?_
      refine lv_istore (lv' := [(5, .int (nI (wd i).length)), (0, .ref hm), (1, .int (nI (tot wd i))), (2, .ref sz), (3, .int (nI 5)), (4, .int (nI i))]) hC.1 hC.2.1 dX1_allTurns_23 hl (by decide) rfl (fun ls hl => ?_)
      refine lv_iload_n hC.1 hC.2.1 dX1_allTurns_25 rfl (lv_at hl 2 rfl) ?_
      refine lv_iload hC.1 hC.2.1 dX1_allTurns_26 (lv_at hl 0 rfl) ?_
      refine z_iadd hC dX1_allTurns_28 ?_
      refine lv_istore_n (lv' := [(1, .int (nI ((tot wd i) + (wd i).length))), (5, .int (nI (wd i).length)), (0, .ref hm), (2, .ref sz), (3, .int (nI 5)), (4, .int (nI i))]) hC.1 hC.2.1 dX1_allTurns_29 rfl hl (by decide) rfl (fun ls hl => ?_)
      refine lv_iinc (v := nI (i + 1)) (lv' := [(4, .int (nI (i + 1))), (1, .int (nI ((tot wd i) + (wd i).length))), (5, .int (nI (wd i).length)), (0, .ref hm), (2, .ref sz), (3, .int (nI 5))]) hC.1 hC.2.1 dX1_allTurns_30 hl (k := 5) rfl (z_inc _) (by decide) rfl (fun ls hl => ?_)
      refine lv_goto (tgt := 13) hC.1 hC.2.1 dX1_allTurns_33 (by decide) ?_
      exact ih (i + 1) (by omega) ls (lv_sub hl [3, 1, 4, 5, 0] rfl)
  refine lv_iconst (v := (nI 0)) hC.1 hC.2.1 dX1_allTurns_0 (by decide) ?_
  refine lv_istore_n (lv' := [(1, .int (nI 0)), (0, .ref hm)]) hC.1 hC.2.1 dX1_allTurns_1 rfl hl (by decide) rfl (fun ls hl => ?_)
  refine lv_aload_n hC.1 hC.2.1 dX1_allTurns_2 rfl (lv_at hl 1 rfl) ?_
  refine p_get (ref := "CornerCubeModel") hC hE hP hmm hem rfl (by decide +kernel) 5 (by decide) (by decide +kernel) rfl rfl dX1_allTurns_3 ?_
  refine lv_astore_n (lv' := [(2, .ref sz), (1, .int (nI 0)), (0, .ref hm)]) hC.1 hC.2.1 dX1_allTurns_6 rfl hl (by decide) rfl (fun ls hl => ?_)
  refine lv_aload_n hC.1 hC.2.1 dX1_allTurns_7 rfl (lv_at hl 0 rfl) ?_
  refine p_alen hC hE hP hms hes dX1_allTurns_8 ?_
  refine lv_istore_n (lv' := [(3, .int (nI 5)), (2, .ref sz), (1, .int (nI 0)), (0, .ref hm)]) hC.1 hC.2.1 dX1_allTurns_9 rfl hl (by decide) rfl (fun ls hl => ?_)
  refine lv_iconst (v := (nI 0)) hC.1 hC.2.1 dX1_allTurns_10 (by decide) ?_
  refine lv_istore (lv' := [(4, .int (nI 0)), (3, .int (nI 5)), (2, .ref sz), (1, .int (nI 0)), (0, .ref hm)]) hC.1 hC.2.1 dX1_allTurns_11 hl (by decide) rfl (fun ls hl => ?_)
  exact loop 5 0 rfl ls (lv_sub hl [4, 3, 2, 1, 0] rfl)

set_option maxHeartbeats 4000000 in
set_option maxRecDepth 100000 in
theorem m_counted (l : Launch) {D : va_G} {T : ClassId × ClassId × ClassId} {z0 : Nat} {L : List Nat} {f : Nat → va_E} {hm rs td sz wo : Nat} {rr tr : Nat → Nat} {cu : Nat} {th mk : Int32} {b : Nat → Nat} {Nn V : Nat → Int32} (hY : MY T L f hm rs td sz wo rr tr cu th mk b Nn V) {wd : Nat → List Nat} (hMS : MS Nn V wd) (hG : GB b) {what : Nat} (hw : what < 7) : RV l yX1_counted wsX1_counted (31) (zPre D T z0 L f) [.ref hm, .int (nI what)] (some (.int (cV b mk wd what))) := by
  refine RV.of (cc := cX1_counted) (maxL := 2) (ret := (some .int)) (by decide) rfl (Nat.le_of_ble_eq_true rfl) ?_
  intro p e s m args below meth c hC hr hlk hB ls hl
  have hl : lv_has ls 2 [(0, .ref hm), (1, .int (nI what))] := hl
  obtain ⟨hE, hP, hD⟩ := hB
  have hS : va_S (zA z0) s.heap s.heap [] := va_S.rf
  obtain ⟨⟨hmm, hem⟩, ⟨hmc, gc, hec, hRc⟩, ⟨hmr, Gr, her, hGr⟩, hrr, ⟨hmt, Gt, het, hGt⟩, htr, hnt, ⟨hms, hes⟩, ⟨hmw, hew⟩⟩ := id hY
  obtain ⟨hvb, hcl, hg1, hg2, hg3⟩ := hG
  rcases (by omega : what = 0 ∨ what = 1 ∨ what = 2 ∨ what = 3 ∨ what = 4 ∨ what = 5 ∨ what = 6) with rfl | rfl | rfl | rfl | rfl | rfl | rfl
  · refine lv_iload_n hC.1 hC.2.1 dX1_counted_0 rfl (lv_at hl 1 rfl) ?_
    refine lv_tableIn (off := 39) (tgt := 40) hC.1 hC.2.1 dX1_counted_1 (by decide) (by decide) (by decide) (by decide) ?_
    refine lv_aload_n hC.1 hC.2.1 dX1_counted_40 rfl (lv_at hl 0 rfl) ?_
    refine p_get (ref := "CornerCubeModel") hC hE hP hmm hem rfl (by decide +kernel) 1 (by decide) (by decide +kernel) rfl rfl dX1_counted_41 ?_
    exact RV.iret hC hr hlk dX1_counted_44 (rfl)
  · refine lv_iload_n hC.1 hC.2.1 dX1_counted_0 rfl (lv_at hl 1 rfl) ?_
    refine lv_tableIn (off := 44) (tgt := 45) hC.1 hC.2.1 dX1_counted_1 (by decide) (by decide) (by decide) (by decide) ?_
    refine lv_aload_n hC.1 hC.2.1 dX1_counted_45 rfl (lv_at hl 0 rfl) ?_
    refine p_get (ref := "CornerCubeModel") hC hE hP hmm hem rfl (by decide +kernel) 2 (by decide) (by decide +kernel) rfl rfl dX1_counted_46 ?_
    refine lv_iload_n hC.1 hC.2.1 dX1_counted_49 rfl (lv_at hl 1 rfl) ?_
    refine p_csB (n := 2) (m_many l hmc hec hRc hvb (what := 1) (by decide) (by decide)) hC hE hP hD hS gX1_counted_X1_many rfl (by decide +kernel) rfl ⟨by decide, by decide⟩ ⟨Nat.zero_le _, Nat.zero_le _⟩ hl.1 (Nat.le_of_ble_eq_true rfl) dX1_counted_50 rfl ?_
    exact RV.iret hC hr hlk dX1_counted_53 (by rw [many_1 hvb]; rfl)
  · refine lv_iload_n hC.1 hC.2.1 dX1_counted_0 rfl (lv_at hl 1 rfl) ?_
    refine lv_tableIn (off := 44) (tgt := 45) hC.1 hC.2.1 dX1_counted_1 (by decide) (by decide) (by decide) (by decide) ?_
    refine lv_aload_n hC.1 hC.2.1 dX1_counted_45 rfl (lv_at hl 0 rfl) ?_
    refine p_get (ref := "CornerCubeModel") hC hE hP hmm hem rfl (by decide +kernel) 2 (by decide) (by decide +kernel) rfl rfl dX1_counted_46 ?_
    refine lv_iload_n hC.1 hC.2.1 dX1_counted_49 rfl (lv_at hl 1 rfl) ?_
    refine p_csB (n := 2) (m_many l hmc hec hRc hvb (what := 2) (by decide) (by decide)) hC hE hP hD hS gX1_counted_X1_many rfl (by decide +kernel) rfl ⟨by decide, by decide⟩ ⟨Nat.zero_le _, Nat.zero_le _⟩ hl.1 (Nat.le_of_ble_eq_true rfl) dX1_counted_50 rfl ?_
    exact RV.iret hC hr hlk dX1_counted_53 (by rw [many_2]; rfl)
  · refine lv_iload_n hC.1 hC.2.1 dX1_counted_0 rfl (lv_at hl 1 rfl) ?_
    refine lv_tableIn (off := 44) (tgt := 45) hC.1 hC.2.1 dX1_counted_1 (by decide) (by decide) (by decide) (by decide) ?_
    refine lv_aload_n hC.1 hC.2.1 dX1_counted_45 rfl (lv_at hl 0 rfl) ?_
    refine p_get (ref := "CornerCubeModel") hC hE hP hmm hem rfl (by decide +kernel) 2 (by decide) (by decide +kernel) rfl rfl dX1_counted_46 ?_
    refine lv_iload_n hC.1 hC.2.1 dX1_counted_49 rfl (lv_at hl 1 rfl) ?_
    refine p_csB (n := 2) (m_many l hmc hec hRc hvb (what := 3) (by decide) (by decide)) hC hE hP hD hS gX1_counted_X1_many rfl (by decide +kernel) rfl ⟨by decide, by decide⟩ ⟨Nat.zero_le _, Nat.zero_le _⟩ hl.1 (Nat.le_of_ble_eq_true rfl) dX1_counted_50 rfl ?_
    exact RV.iret hC hr hlk dX1_counted_53 (by rw [many_3]; rfl)
  · refine lv_iload_n hC.1 hC.2.1 dX1_counted_0 rfl (lv_at hl 1 rfl) ?_
    refine lv_tableIn (off := 53) (tgt := 54) hC.1 hC.2.1 dX1_counted_1 (by decide) (by decide) (by decide) (by decide) ?_
    refine lv_aload_n hC.1 hC.2.1 dX1_counted_54 rfl (lv_at hl 0 rfl) ?_
    refine p_get (ref := "CornerCubeModel") hC hE hP hmm hem rfl (by decide +kernel) 2 (by decide) (by decide +kernel) rfl rfl dX1_counted_55 ?_
    refine lv_iconst (v := (nI 1)) hC.1 hC.2.1 dX1_counted_58 (by decide) ?_
    refine p_csB (n := 2) (m_byCycles l hmc hec hRc hvb hcl (fl := 1) (by decide)) hC hE hP hD hS gX1_counted_X1_byCycles rfl (by decide +kernel) rfl ⟨by decide, by decide⟩ ⟨Nat.zero_le _, Nat.zero_le _⟩ hl.1 (Nat.le_of_ble_eq_true rfl) dX1_counted_59 rfl ?_
    exact RV.iret hC hr hlk dX1_counted_62 (by rw [if_pos rfl, hg1]; rfl)
  · refine lv_iload_n hC.1 hC.2.1 dX1_counted_0 rfl (lv_at hl 1 rfl) ?_
    refine lv_tableIn (off := 62) (tgt := 63) hC.1 hC.2.1 dX1_counted_1 (by decide) (by decide) (by decide) (by decide) ?_
    refine lv_aload_n hC.1 hC.2.1 dX1_counted_63 rfl (lv_at hl 0 rfl) ?_
    refine p_get (ref := "CornerCubeModel") hC hE hP hmm hem rfl (by decide +kernel) 2 (by decide) (by decide +kernel) rfl rfl dX1_counted_64 ?_
    refine lv_iconst (v := (nI 0)) hC.1 hC.2.1 dX1_counted_67 (by decide) ?_
    refine p_csB (n := 2) (m_byCycles l hmc hec hRc hvb hcl (fl := 0) (by decide)) hC hE hP hD hS gX1_counted_X1_byCycles rfl (by decide +kernel) rfl ⟨by decide, by decide⟩ ⟨Nat.zero_le _, Nat.zero_le _⟩ hl.1 (Nat.le_of_ble_eq_true rfl) dX1_counted_68 rfl ?_
    exact RV.iret hC hr hlk dX1_counted_71 (by rw [if_neg (by decide), hg2]; rfl)
  · refine lv_iload_n hC.1 hC.2.1 dX1_counted_0 rfl (lv_at hl 1 rfl) ?_
    refine lv_tableOut (tgt := 72) hC.1 hC.2.1 dX1_counted_1 (by decide) (by decide) ?_
    refine lv_aload_n hC.1 hC.2.1 dX1_counted_72 rfl (lv_at hl 0 rfl) ?_
    refine p_cvB (n := 0) (m_allTurns l hY hMS) hC hE hP hD hS (hmm) (hem) rfl gX1_counted_X1_allTurns rfl (by decide +kernel) rfl ⟨by decide, by decide⟩ ⟨Nat.zero_le _, Nat.zero_le _⟩ hl.1 (Nat.le_of_ble_eq_true rfl) dX1_counted_73 rfl ?_
    exact RV.iret hC hr hlk dX1_counted_76 (rfl)

set_option maxHeartbeats 4000000 in
set_option maxRecDepth 100000 in
theorem m_wordTold (l : Launch) {D : va_G} {T : ClassId × ClassId × ClassId} {z0 : Nat} {L : List Nat} {f : Nat → va_E} {hm rs td sz wo : Nat} {rr tr : Nat → Nat} {cu : Nat} {th mk : Int32} {b : Nat → Nat} {Nn V : Nat → Int32} (hY : MY T L f hm rs td sz wo rr tr cu th mk b Nn V) {wd : Nat → List Nat} (hMS : MS Nn V wd) {w : Nat} (hw : w < 5) (hG : GB (deed (wd w))) {what : Nat} (hw4 : what < 4) : HV l yX1_wordTold wsX1_wordTold (31) 13 208 D z0 (zPre D T z0 L f) [.ref hm, .int (nI w), .int (nI what)] (KPo (.int (nI (wV (wd w) what))) L f) := by
  refine HV.of (cc := cX1_wordTold) (maxL := 4) (ret := (some .int)) (by decide) rfl (Nat.le_of_ble_eq_true rfl) ?_
  intro p e s m args below meth c hC hr hlk hin hB ls hl
  have hl : lv_has ls 4 [(0, .ref hm), (1, .int (nI w)), (2, .int (nI what))] := hl
  obtain ⟨hE, hP, hD⟩ := hB
  have hS : va_S (zA z0) s.heap s.heap [] := va_S.rf
  obtain ⟨⟨hmm, hem⟩, ⟨hmc, gc, hec, hRc⟩, ⟨hmr, Gr, her, hGr⟩, hrr, ⟨hmt, Gt, het, hGt⟩, htr, hnt, ⟨hms, hes⟩, ⟨hmw, hew⟩⟩ := id hY
  obtain ⟨hvb, hcl, hg1, hg2, hg3⟩ := hG
  rcases (by omega : what = 0 ∨ what = 1 ∨ what = 2 ∨ what = 3) with rfl | rfl | rfl | rfl
  · refine lv_aload_n hC.1 hC.2.1 dX1_wordTold_0 rfl (lv_at hl 0 rfl) ?_
    refine lv_iload_n hC.1 hC.2.1 dX1_wordTold_1 rfl (lv_at hl 1 rfl) ?_
    refine p_cvH (n := 1) (m_rowOf l hY hMS hw) hC hE hP hD hS (hmm) (hem) rfl gX1_wordTold_X1_rowOf rfl (by decide +kernel) rfl ⟨by decide, by decide⟩ ⟨by simp only [rD]; omega, by simp only [rD]; omega⟩ hl.1 (Nat.le_of_ble_eq_true rfl) dX1_wordTold_2 rfl (fun o L2 f2 H locs hpost hP hD hS => ?_)
    obtain ⟨y, rfl, hq⟩ := hpost.get
    have hY := hY.keep hq.2.2.1
    obtain ⟨⟨hmm, hem⟩, ⟨hmc, gc, hec, hRc⟩, ⟨hmr, Gr, her, hGr⟩, hrr, ⟨hmt, Gt, het, hGt⟩, htr, hnt, ⟨hms, hes⟩, ⟨hmw, hew⟩⟩ := id hY
    obtain ⟨g9, hg9, hR9⟩ := hq.2.2.2
    refine lv_astore_n (lv' := [(3, .ref y), (0, .ref hm), (1, .int (nI w)), (2, .int (nI 0))]) hC.1 hC.2.1 dX1_wordTold_5 rfl hl (by decide) rfl (fun ls hl => ?_)
    refine lv_iload_n hC.1 hC.2.1 dX1_wordTold_6 rfl (lv_at hl 3 rfl) ?_
    refine lv_lookup (off := 25) (tgt := 32) hC.1 hC.2.1 dX1_wordTold_7 (by decide) (by decide) (by decide) ?_
    refine lv_aload_n hC.1 hC.2.1 dX1_wordTold_32 rfl (lv_at hl 1 rfl) ?_
    refine p_get (ref := "CornerCubeModel") hC hE hP hmm hem rfl (by decide +kernel) 5 (by decide) (by decide +kernel) rfl rfl dX1_wordTold_33 ?_
    refine lv_iload_n hC.1 hC.2.1 dX1_wordTold_36 rfl (lv_at hl 2 rfl) ?_
    refine p_iald hC hE hP hms hes (by omega) (by decide) dX1_wordTold_37 ?_
    refine q_i (nI (wd w).length) ((hMS _ (by omega)).1) ?_
    exact HV.iret hC hr hlk hP hD hS (by omega) (by omega) dX1_wordTold_38 (⟨rfl, hq.2.2.1⟩)
  · refine lv_aload_n hC.1 hC.2.1 dX1_wordTold_0 rfl (lv_at hl 0 rfl) ?_
    refine lv_iload_n hC.1 hC.2.1 dX1_wordTold_1 rfl (lv_at hl 1 rfl) ?_
    refine p_cvH (n := 1) (m_rowOf l hY hMS hw) hC hE hP hD hS (hmm) (hem) rfl gX1_wordTold_X1_rowOf rfl (by decide +kernel) rfl ⟨by decide, by decide⟩ ⟨by simp only [rD]; omega, by simp only [rD]; omega⟩ hl.1 (Nat.le_of_ble_eq_true rfl) dX1_wordTold_2 rfl (fun o L2 f2 H locs hpost hP hD hS => ?_)
    obtain ⟨y, rfl, hq⟩ := hpost.get
    have hY := hY.keep hq.2.2.1
    obtain ⟨⟨hmm, hem⟩, ⟨hmc, gc, hec, hRc⟩, ⟨hmr, Gr, her, hGr⟩, hrr, ⟨hmt, Gt, het, hGt⟩, htr, hnt, ⟨hms, hes⟩, ⟨hmw, hew⟩⟩ := id hY
    obtain ⟨g9, hg9, hR9⟩ := hq.2.2.2
    refine lv_astore_n (lv' := [(3, .ref y), (0, .ref hm), (1, .int (nI w)), (2, .int (nI 1))]) hC.1 hC.2.1 dX1_wordTold_5 rfl hl (by decide) rfl (fun ls hl => ?_)
    refine lv_iload_n hC.1 hC.2.1 dX1_wordTold_6 rfl (lv_at hl 3 rfl) ?_
    refine lv_lookup (off := 32) (tgt := 39) hC.1 hC.2.1 dX1_wordTold_7 (by decide) (by decide) (by decide) ?_
    refine lv_aload_n hC.1 hC.2.1 dX1_wordTold_39 rfl (lv_at hl 0 rfl) ?_
    refine lv_iconst (v := (nI 0)) hC.1 hC.2.1 dX1_wordTold_40 (by decide) ?_
    refine p_csB (n := 2) (m_byCycles l hq.2.1 hg9 hR9 hvb hcl (fl := 0) (by decide)) hC hE hP hD hS gX1_wordTold_X1_byCycles rfl (by decide +kernel) rfl ⟨by decide, by decide⟩ ⟨by simp only [rD]; omega, by simp only [rD]; omega⟩ hl.1 (Nat.le_of_ble_eq_true rfl) dX1_wordTold_41 rfl ?_
    exact HV.iret hC hr hlk hP hD hS (by omega) (by omega) dX1_wordTold_44 (⟨by rw [if_neg (by decide), hg2]; rfl, hq.2.2.1⟩)
  · refine lv_aload_n hC.1 hC.2.1 dX1_wordTold_0 rfl (lv_at hl 0 rfl) ?_
    refine lv_iload_n hC.1 hC.2.1 dX1_wordTold_1 rfl (lv_at hl 1 rfl) ?_
    refine p_cvH (n := 1) (m_rowOf l hY hMS hw) hC hE hP hD hS (hmm) (hem) rfl gX1_wordTold_X1_rowOf rfl (by decide +kernel) rfl ⟨by decide, by decide⟩ ⟨by simp only [rD]; omega, by simp only [rD]; omega⟩ hl.1 (Nat.le_of_ble_eq_true rfl) dX1_wordTold_2 rfl (fun o L2 f2 H locs hpost hP hD hS => ?_)
    obtain ⟨y, rfl, hq⟩ := hpost.get
    have hY := hY.keep hq.2.2.1
    obtain ⟨⟨hmm, hem⟩, ⟨hmc, gc, hec, hRc⟩, ⟨hmr, Gr, her, hGr⟩, hrr, ⟨hmt, Gt, het, hGt⟩, htr, hnt, ⟨hms, hes⟩, ⟨hmw, hew⟩⟩ := id hY
    obtain ⟨g9, hg9, hR9⟩ := hq.2.2.2
    refine lv_astore_n (lv' := [(3, .ref y), (0, .ref hm), (1, .int (nI w)), (2, .int (nI 2))]) hC.1 hC.2.1 dX1_wordTold_5 rfl hl (by decide) rfl (fun ls hl => ?_)
    refine lv_iload_n hC.1 hC.2.1 dX1_wordTold_6 rfl (lv_at hl 3 rfl) ?_
    refine lv_lookup (off := 38) (tgt := 45) hC.1 hC.2.1 dX1_wordTold_7 (by decide) (by decide) (by decide) ?_
    refine lv_bipush (v := (nI 8)) hC.1 hC.2.1 dX1_wordTold_45 (by decide) ?_
    refine lv_aload_n hC.1 hC.2.1 dX1_wordTold_47 rfl (lv_at hl 0 rfl) ?_
    refine lv_iload_n hC.1 hC.2.1 dX1_wordTold_48 rfl (lv_at hl 3 rfl) ?_
    refine lv_iconst (v := (nI 1)) hC.1 hC.2.1 dX1_wordTold_49 (by decide) ?_
    refine z_isub hC dX1_wordTold_50 (by omega) ?_
    refine q_i (nI 1) (by rfl) ?_
    refine p_csB (n := 2) (m_many l hq.2.1 hg9 hR9 hvb (what := 1) (by decide) (by decide)) hC hE hP hD hS gX1_wordTold_X1_many rfl (by decide +kernel) rfl ⟨by decide, by decide⟩ ⟨by simp only [rD]; omega, by simp only [rD]; omega⟩ hl.1 (Nat.le_of_ble_eq_true rfl) dX1_wordTold_51 rfl ?_
    refine q_i (nI (nRt (deed (wd w)))) (by rw [many_1 hvb]) ?_
    refine z_isub hC dX1_wordTold_54 (ct_le _ 8) ?_
    exact HV.iret hC hr hlk hP hD hS (by omega) (by omega) dX1_wordTold_55 (⟨rfl, hq.2.2.1⟩)
  · refine lv_aload_n hC.1 hC.2.1 dX1_wordTold_0 rfl (lv_at hl 0 rfl) ?_
    refine lv_iload_n hC.1 hC.2.1 dX1_wordTold_1 rfl (lv_at hl 1 rfl) ?_
    refine p_cvH (n := 1) (m_rowOf l hY hMS hw) hC hE hP hD hS (hmm) (hem) rfl gX1_wordTold_X1_rowOf rfl (by decide +kernel) rfl ⟨by decide, by decide⟩ ⟨by simp only [rD]; omega, by simp only [rD]; omega⟩ hl.1 (Nat.le_of_ble_eq_true rfl) dX1_wordTold_2 rfl (fun o L2 f2 H locs hpost hP hD hS => ?_)
    obtain ⟨y, rfl, hq⟩ := hpost.get
    have hY := hY.keep hq.2.2.1
    obtain ⟨⟨hmm, hem⟩, ⟨hmc, gc, hec, hRc⟩, ⟨hmr, Gr, her, hGr⟩, hrr, ⟨hmt, Gt, het, hGt⟩, htr, hnt, ⟨hms, hes⟩, ⟨hmw, hew⟩⟩ := id hY
    obtain ⟨g9, hg9, hR9⟩ := hq.2.2.2
    refine lv_astore_n (lv' := [(3, .ref y), (0, .ref hm), (1, .int (nI w)), (2, .int (nI 3))]) hC.1 hC.2.1 dX1_wordTold_5 rfl hl (by decide) rfl (fun ls hl => ?_)
    refine lv_iload_n hC.1 hC.2.1 dX1_wordTold_6 rfl (lv_at hl 3 rfl) ?_
    refine lv_lookup (off := 38) (tgt := 45) hC.1 hC.2.1 dX1_wordTold_7 (by decide) (by decide) (by decide) ?_
    refine lv_bipush (v := (nI 8)) hC.1 hC.2.1 dX1_wordTold_45 (by decide) ?_
    refine lv_aload_n hC.1 hC.2.1 dX1_wordTold_47 rfl (lv_at hl 0 rfl) ?_
    refine lv_iload_n hC.1 hC.2.1 dX1_wordTold_48 rfl (lv_at hl 3 rfl) ?_
    refine lv_iconst (v := (nI 1)) hC.1 hC.2.1 dX1_wordTold_49 (by decide) ?_
    refine z_isub hC dX1_wordTold_50 (by omega) ?_
    refine q_i (nI 2) (by rfl) ?_
    refine p_csB (n := 2) (m_many l hq.2.1 hg9 hR9 hvb (what := 2) (by decide) (by decide)) hC hE hP hD hS gX1_wordTold_X1_many rfl (by decide +kernel) rfl ⟨by decide, by decide⟩ ⟨by simp only [rD]; omega, by simp only [rD]; omega⟩ hl.1 (Nat.le_of_ble_eq_true rfl) dX1_wordTold_51 rfl ?_
    refine q_i (nI (nPl (deed (wd w)))) (by rw [many_2]) ?_
    refine z_isub hC dX1_wordTold_54 (ct_le _ 8) ?_
    exact HV.iret hC hr hlk hP hD hS (by omega) (by omega) dX1_wordTold_55 (⟨rfl, hq.2.2.1⟩)

set_option maxHeartbeats 4000000 in
set_option maxRecDepth 100000 in
theorem m_put (l : Launch) {D : va_G} {T : ClassId × ClassId × ClassId} {z0 : Nat} {L : List Nat} {f : Nat → va_E} {hm rs td sz wo : Nat} {rr tr : Nat → Nat} {cu : Nat} {th mk : Int32} {b : Nat → Nat} {Nn V : Nat → Int32} (hY : MY T L f hm rs td sz wo rr tr cu th mk b Nn V) {wd : Nat → List Nat} (hMS : MS Nn V wd) {w : Nat} (hw : w < 5) (h12 : (wd w).length < 12) {t : Nat} (ht : t < 9) : HV l yX1_put wsX1_put (1) 0 0 D z0 (zPre D T z0 L f) [.ref hm, .int (nI w), .int (nI t)] (fun o L' f' => o = none ∧ L' = L ∧ (∃ N' V', MY T L f' hm rs td sz wo rr tr cu th mk b N' V' ∧ MS N' V' (wset wd w (wd w ++ [t]))) ∧ FRM hm sz wo tr L f L f') := by
  refine HV.of (cc := cX1_put) (maxL := 3) (ret := none) (by decide) rfl (Nat.le_of_ble_eq_true rfl) ?_
  intro p e s m args below meth c hC hr hlk hin hB ls hl
  have hl : lv_has ls 3 [(0, .ref hm), (1, .int (nI w)), (2, .int (nI t))] := hl
  obtain ⟨hE, hP, hD⟩ := hB
  have hS : va_S (zA z0) s.heap s.heap [] := va_S.rf
  obtain ⟨⟨hmm, hem⟩, ⟨hmc, gc, hec, hRc⟩, ⟨hmr, Gr, her, hGr⟩, hrr, ⟨hmt, Gt, het, hGt⟩, htr, hnt, ⟨hms, hes⟩, ⟨hmw, hew⟩⟩ := id hY
  obtain ⟨hw1, hw2, hw3⟩ := hMS w hw
  have hF := FRM.rf (hm := hm) (sz := sz) (wo := wo) (tr := tr) (L := L) (f := f)
  refine lv_aload_n hC.1 hC.2.1 dX1_put_0 rfl (lv_at hl 0 rfl) ?_
  refine p_get (ref := "CornerCubeModel") hC hE hP hmm hem rfl (by decide +kernel) 6 (by decide) (by decide +kernel) rfl rfl dX1_put_1 ?_
  refine lv_bipush (v := (nI 12)) hC.1 hC.2.1 dX1_put_4 (by decide) ?_
  refine lv_iload_n hC.1 hC.2.1 dX1_put_6 rfl (lv_at hl 1 rfl) ?_
  refine z_imul hC dX1_put_7 ?_
  refine lv_aload_n hC.1 hC.2.1 dX1_put_8 rfl (lv_at hl 0 rfl) ?_
  refine p_get (ref := "CornerCubeModel") hC hE hP hmm hem rfl (by decide +kernel) 5 (by decide) (by decide +kernel) rfl rfl dX1_put_9 ?_
  refine lv_iload_n hC.1 hC.2.1 dX1_put_12 rfl (lv_at hl 1 rfl) ?_
  refine p_iald hC hE hP hms hes (by omega) (by decide) dX1_put_13 ?_
  refine q_i (nI (wd w).length) ((hMS _ (by omega)).1) ?_
  refine z_iadd hC dX1_put_14 ?_
  refine lv_iload_n hC.1 hC.2.1 dX1_put_15 rfl (lv_at hl 2 rfl) ?_
  refine p_iast hC hE hP hD hS hmw hew (by omega) (by decide) dX1_put_16 (fun H locs hP hD hS => ?_)
  have hY := hY.put_wo (upd V (12 * w + (wd w).length) (nI t))
  have hF := hF.put_wo (e := eI T.1 60 (upd V (12 * w + (wd w).length) (nI t)))
  obtain ⟨⟨hmm, hem⟩, ⟨hmc, gc, hec, hRc⟩, ⟨hmr, Gr, her, hGr⟩, hrr, ⟨hmt, Gt, het, hGt⟩, htr, hnt, ⟨hms, hes⟩, ⟨hmw, hew⟩⟩ := id hY
  refine lv_aload_n hC.1 hC.2.1 dX1_put_17 rfl (lv_at hl 0 rfl) ?_
  refine p_get (ref := "CornerCubeModel") hC hE hP hmm hem rfl (by decide +kernel) 5 (by decide) (by decide +kernel) rfl rfl dX1_put_18 ?_
  refine lv_iload_n hC.1 hC.2.1 dX1_put_21 rfl (lv_at hl 1 rfl) ?_
  refine lv_dup2_11 hC.1 hC.2.1 dX1_put_22 rfl rfl ?_
  refine p_iald hC hE hP hms hes (by omega) (by decide) dX1_put_23 ?_
  refine q_i (nI (wd w).length) ((hMS _ (by omega)).1) ?_
  refine lv_iconst (v := (nI 1)) hC.1 hC.2.1 dX1_put_24 (by decide) ?_
  refine z_iadd hC dX1_put_25 ?_
  refine p_iast hC hE hP hD hS hms hes (by omega) (by decide) dX1_put_26 (fun H locs hP hD hS => ?_)
  have hY := hY.put_sz (upd Nn w (nI ((wd w).length + 1)))
  have hF := hF.put_sz (e := eI T.1 5 (upd Nn w (nI ((wd w).length + 1))))
  have hMS2 := hMS.put w (wd w ++ [t]) (N' := upd Nn w (nI ((wd w).length + 1))) (V' := upd V (12 * w + (wd w).length) (nI t)) (fun v h => upd_n h) (fun v k hv h hk => upd_n (by have := (hMS v hv).2.1; omega)) (by rw [upd_s, List.length_append]; rfl) (by rw [List.length_append]; exact h12) (fun k hk => by
    by_cases e : k < (wd w).length
    · rw [upd_n (by omega), gd_l e]; exact hw3 k e
    · have e2 : k = (wd w).length + 0 := by rw [List.length_append] at hk; simp at hk; omega
      rw [e2, gd_r]; exact ⟨upd_s, ht⟩)
  exact HV.vret hC hr hlk hP hD hS (by omega) (by omega) dX1_put_27 (⟨rfl, rfl, ⟨_, _, hY, hMS2⟩, hF⟩)

section ZY
variable {p : Program} {l : Launch} {e : Env} {R : Room} {s : State} {m : MethodId} {args : Array Value} {below : List Frame} {meth : Method} {c : Code} {H : Heap} {locs : List Loc} {cells slots : Nat} {Q : State → Prop}
variable {Ts : List Cond} {own : String} {nL : Nat} {cc : ByteArray} {pc : Nat} {ls : Array Slot} {rest : List Value} {D : va_G} {T : ClassId × ClassId × ClassId} {z0 : Nat} {L : List Nat} {f : Nat → va_E}
theorem p_copy {index a0 a sp dp k n0 n1 : Nat} {g0 g1 : Nat → Int32} (hC : CallFix p m c cc nL s args Ts own) (hE : zE D T z0 s) (hP : va_P D vwCl (va_pl L f) H) (hD : va_D (zA z0) (va_pl L f)) (hS : va_S (zA z0) s.heap H locs) (hl : Cond.methodLink own index arraycopyName ∈ Ts) (hna : Cond.native arraycopyName ∈ Ts) (hst : Cond.static arraycopyName ∈ Ts) (hini : Cond.initialized "java/lang/System" ∈ Ts) (hm0 : a0 ∈ L) (he0 : f a0 = eI T.1 n0 g0) (hm1 : a ∈ L) (he1 : f a = eI T.1 n1 g1) (hsp : sp < 2 ^ 31) (hdp : dp < 2 ^ 31) (hk : k < 2 ^ 31) (h4 : sp + k ≤ n0) (h5 : dp + k ≤ n1) (hsz : ls.size = nL) (hfr : 1 ≤ R.frames) (hlo : 60 ≤ R.locals) (hdg : decode cc pc = .ok (.invokestatic index, 3))
    (kk : ∀ (H1 : Heap) (locs1 : List Loc), va_P D vwCl (va_pl L (va_up f a (eI T.1 n1 (va_cpy g0 g1 sp dp k)))) H1 → va_D (zA z0) (va_pl L (va_up f a (eI T.1 n1 (va_cpy g0 g1 sp dp k)))) → va_S (zA z0) s.heap H1 locs1 → W p l e R s m args below meth c H1 locs1 cells slots Q (F0 m (pc + 3) ls [])) : W p l e R s m args below meth c H locs cells slots Q (F0 m pc ls [.int (nI k), .int (nI dp), .ref a, .int (nI sp), .ref a0]) := by
  obtain ⟨j0, hj0⟩ := pl_get (f := f) hm0
  obtain ⟨j1, hj1⟩ := pl_get (f := f) hm1
  have e := fun e => pl_set (e := e) hD hm1 hj1
  rw [he0] at hj0
  rw [he1] at hj1
  refine va_copyi (ty := .int) hC.1 hC.2.1 (hC.2.2.1.trans hsz.symm) hC.2.2.2.1 (hC.2.2.2.2 _ hl) (hC.2.2.2.2 _ hna) (hC.2.2.2.2 _ hst) (hC.2.2.2.2 _ hini) hE.2.2 hP hD hS j0 j1 0 0 hj0 hj1 rfl rfl rfl (nI_pos hsp) (nI_pos hdp) (nI_pos hk) (by rw [nI_clamp hsp, nI_clamp hk]; exact h4) (by rw [nI_clamp hdp, nI_clamp hk]; exact h5) (fun _ _ => rfl) hfr (by refine Nat.le_trans ?_ hlo; decide) hdg (fun H1 locs1 hP1 hD1 hS1 => ?_)
  rw [nI_clamp hsp, nI_clamp hdp, nI_clamp hk, e] at hP1 hD1
  exact kk H1 locs1 hP1 hD1 hS1
end ZY
set_option maxHeartbeats 4000000 in
set_option maxRecDepth 100000 in
theorem m_taken (l : Launch) {D : va_G} {T : ClassId × ClassId × ClassId} {z0 : Nat} {L : List Nat} {f : Nat → va_E} {hm rs td sz wo : Nat} {rr tr : Nat → Nat} {cu : Nat} {th mk : Int32} {b : Nat → Nat} {Nn V : Nat → Int32} (hY : MY T L f hm rs td sz wo rr tr cu th mk b Nn V) {wd : Nat → List Nat} (hMS : MS Nn V wd) {w : Nat} (hw : w < 5) : HV l yX1_taken wsX1_taken (1) 1 12 D z0 (zPre D T z0 L f) [.ref hm, .int (nI w)] (fun o L' f' => ∃ y, o = some (.ref y) ∧ y ∉ L ∧ y ∈ L' ∧ (∃ g, f' y = eI T.1 (wd w).length g ∧ ∀ k, k < (wd w).length → g k = nI ((wd w).getD k 0)) ∧ (∃ N' V', MY T L' f' hm rs td sz wo rr tr cu th mk b N' V' ∧ MS N' V' (wset wd w [])) ∧ FRM hm sz wo tr L f L' f') := by
  refine HV.of (cc := cX1_taken) (maxL := 3) (ret := (some (.array .int))) (by decide) rfl (Nat.le_of_ble_eq_true rfl) ?_
  intro p e s m args below meth c hC hr hlk hin hB ls hl
  have hl : lv_has ls 3 [(0, .ref hm), (1, .int (nI w))] := hl
  obtain ⟨hE, hP, hD⟩ := hB
  have hS : va_S (zA z0) s.heap s.heap [] := va_S.rf
  obtain ⟨⟨hmm, hem⟩, ⟨hmc, gc, hec, hRc⟩, ⟨hmr, Gr, her, hGr⟩, hrr, ⟨hmt, Gt, het, hGt⟩, htr, hnt, ⟨hms, hes⟩, ⟨hmw, hew⟩⟩ := id hY
  obtain ⟨hw1, hw2, hw3⟩ := hMS w hw
  have hF := FRM.rf (hm := hm) (sz := sz) (wo := wo) (tr := tr) (L := L) (f := f)
  have hms0 := hms
  refine lv_aload_n hC.1 hC.2.1 dX1_taken_0 rfl (lv_at hl 0 rfl) ?_
  refine p_get (ref := "CornerCubeModel") hC hE hP hmm hem rfl (by decide +kernel) 5 (by decide) (by decide +kernel) rfl rfl dX1_taken_1 ?_
  refine lv_iload_n hC.1 hC.2.1 dX1_taken_4 rfl (lv_at hl 1 rfl) ?_
  refine p_iald hC hE hP hms hes (by omega) (by decide) dX1_taken_5 ?_
  refine q_i (nI (wd w).length) ((hMS _ (by omega)).1) ?_
  refine p_newI hC hE hP hD hS (by decide +kernel) (by omega) (by simp only [rD]; omega) (by simp only [rD]; omega) dX1_taken_6 (fun y H hy hP hD hS => ?_)
  have hyL : y ∈ L ++ [y] := List.mem_append_right _ (List.mem_singleton.mpr rfl)
  have hkp : ∀ a, a ∈ L → a ∈ L ++ [y] ∧ va_up f y (eI T.1 (wd w).length (fun _ => 0)) a = f a := fun a ha => ⟨List.mem_append_left _ ha, va_up_ne _ _ (fun e : a = y => hy (e ▸ ha))⟩
  have hY0 := hY
  have hY := hY.keep hkp
  obtain ⟨⟨hmm, hem⟩, ⟨hmc, gc, hec, hRc⟩, ⟨hmr, Gr, her, hGr⟩, hrr, ⟨hmt, Gt, het, hGt⟩, htr, hnt, ⟨hms, hes⟩, ⟨hmw, hew⟩⟩ := id hY
  refine lv_astore_n (lv' := [(2, .ref y), (0, .ref hm), (1, .int (nI w))]) hC.1 hC.2.1 dX1_taken_8 rfl hl (by decide) rfl (fun ls hl => ?_)
  refine lv_aload_n hC.1 hC.2.1 dX1_taken_9 rfl (lv_at hl 1 rfl) ?_
  refine p_get (ref := "CornerCubeModel") hC hE hP hmm hem rfl (by decide +kernel) 6 (by decide) (by decide +kernel) rfl rfl dX1_taken_10 ?_
  refine lv_bipush (v := (nI 12)) hC.1 hC.2.1 dX1_taken_13 (by decide) ?_
  refine lv_iload_n hC.1 hC.2.1 dX1_taken_15 rfl (lv_at hl 2 rfl) ?_
  refine z_imul hC dX1_taken_16 ?_
  refine lv_aload_n hC.1 hC.2.1 dX1_taken_17 rfl (lv_at hl 0 rfl) ?_
  refine lv_iconst (v := (nI 0)) hC.1 hC.2.1 dX1_taken_18 (by decide) ?_
  refine lv_aload_n hC.1 hC.2.1 dX1_taken_19 rfl (lv_at hl 0 rfl) ?_
  refine p_alen hC hE hP hyL (va_up_self _ _ _) dX1_taken_20 ?_
  refine p_copy (sp := 12 * w) (dp := 0) (k := (wd w).length) hC hE hP hD hS (by decide +kernel) (by decide +kernel) (by decide +kernel) (by decide +kernel) hmw hew hyL (va_up_self _ _ _) (by omega) (by decide) (by omega) (by omega) (by omega) hl.1 (by decide) (by decide) dX1_taken_21 (fun H locs hP hD hS => ?_)
  have hkp2 : ∀ a, a ∈ L → a ∈ L ++ [y] ∧ va_up (va_up f y (eI T.1 (wd w).length (fun _ => 0))) y (eI T.1 (wd w).length (va_cpy V (fun _ => 0) (12 * w) 0 (wd w).length)) a = f a := fun a ha => ⟨List.mem_append_left _ ha, (va_up_ne _ _ (fun e : a = y => hy (e ▸ ha))).trans (va_up_ne _ _ (fun e : a = y => hy (e ▸ ha)))⟩
  have hY := hY0.keep hkp2
  have hF := hF.keep hkp2
  obtain ⟨⟨hmm, hem⟩, ⟨hmc, gc, hec, hRc⟩, ⟨hmr, Gr, her, hGr⟩, hrr, ⟨hmt, Gt, het, hGt⟩, htr, hnt, ⟨hms, hes⟩, ⟨hmw, hew⟩⟩ := id hY
  refine lv_aload_n hC.1 hC.2.1 dX1_taken_24 rfl (lv_at hl 1 rfl) ?_
  refine p_get (ref := "CornerCubeModel") hC hE hP hmm hem rfl (by decide +kernel) 5 (by decide) (by decide +kernel) rfl rfl dX1_taken_25 ?_
  refine lv_iload_n hC.1 hC.2.1 dX1_taken_28 rfl (lv_at hl 2 rfl) ?_
  refine lv_iconst (v := (nI 0)) hC.1 hC.2.1 dX1_taken_29 (by decide) ?_
  refine p_iast hC hE hP hD hS hms hes (by omega) (by decide) dX1_taken_30 (fun H locs hP hD hS => ?_)
  have hys : y ≠ sz := fun e => hy (e ▸ hms0)
  have hY := hY.put_sz (upd Nn w (nI 0))
  have hF := hF.put_sz (e := eI T.1 5 (upd Nn w (nI 0)))
  refine lv_aload_n hC.1 hC.2.1 dX1_taken_31 rfl (lv_at hl 0 rfl) ?_
  have hMS2 := hMS.put w [] (N' := upd Nn w (nI 0)) (V' := V) (fun v h => upd_n h) (fun v k hv h hk => rfl) upd_s (by decide) (fun k hk => absurd hk (by simp))
  exact HV.aret hC hr hlk hP hD hS (by omega) (by omega) dX1_taken_32 (⟨y, rfl, hy, hyL, ⟨_, (va_up_ne _ _ hys).trans (va_up_self _ _ _), fun k hk => by rw [pk_cpy_in (Nat.zero_le _) (by omega), Nat.sub_zero]; exact (hw3 k hk).1⟩, ⟨_, _, hY, hMS2⟩, hF⟩)
