/-! MY ROWS 32: the law's cases (laid by a program of mine) -/
/-- the law goes on with the next call, from any state that both sides agree on -/
def LGO (p : Program) (l : Launch) (e : Env) (s : State) (m : MethodId) (args : Array Value) (below : List Frame) (meth : Method) (c : Code) (Q : State → Prop) (D : va_G) (T : ClassId × ClassId × ClassId) (z0 : Nat) (hx g ln : Nat) (rw : Nat → Nat) (hm rs td sz wo : Nat) (rr tr : Nat → Nat) (o9 sc i cells slots pc : Nat) : Prop :=
  ∀ (L : List Nat) (f : Nat → va_E) (H : Heap) (locs : List Loc) (cu : Nat) (th : Int32) (b : Nat → Nat) (mk : Int32) (wd : Nat → List Nat) (gO : Nat → Int64) (ls : Array Slot), PM b → JL T L f hx g ln rw hm rs td sz wo rr tr cu o9 th b mk wd b mk wd gO → va_P D vwCl (va_pl L f) H → va_D (zA z0) (va_pl L f) → va_S (zA z0) s.heap H locs → lv_has ls 9 [(0, .ref sc), (1, .ref hx), (2, .ref hm), (3, .ref o9), (4, .int (nI i))] → W p l e room_1 s m args below meth c H locs cells slots Q (F0 m pc ls [])
set_option maxHeartbeats 4000000 in
set_option maxRecDepth 100000 in
theorem c_turn {p : Program} {l : Launch} {e : Env} {s : State} {m : MethodId} {args : Array Value} {below : List Frame} {meth : Method} {c : Code} {Q : State → Prop} {D : va_G} {T : ClassId × ClassId × ClassId} {z0 : Nat} {hx g ln : Nat} {rw : Nat → Nat} {hm rs td sz wo : Nat} {rr tr : Nat → Nat} {o9 sc i cells slots : Nat} {Ln : Nat} {xs : Nat → Int32} (hst : l.stackTraces = false) (hC : CallFix p m c cL_law 9 s args wsL_law RL) (hE : zE D T z0 s) (hXw : xW s) (hYw : yW s) (hxs : va_X sc Ln xs s s.heap) (hsl : sc < s.heap.size) (hsz : ¬ zA z0 sc) (hLn : Ln ≤ 2048) (hi3 : i + 3 < Ln) (hcl : cells + 701 ≤ 601024) (hsl2 : slots + 11206 ≤ 7293034) (kk : LGO p l e s m args below meth c Q D T z0 hx g ln rw hm rs td sz wo rr tr o9 sc i (cells + 701) (slots + 11206) 1380) : LGO p l e s m args below meth c Q D T z0 hx g ln rw hm rs td sz wo rr tr o9 sc i cells slots 140 := by
  intro L f H locs cu th b mk wd gO ls hPM hJ hP hD hS hl
  obtain ⟨k, v, r, b2, mk2, wd2, mc, ms, hk4, hmc, hms, hPM2, hok, hL, hM⟩ := pr_turn (D := D) (z0 := z0) l hst hJ hPM (xs (i + 1)) (xs (i + 2))
  refine lv_aload_n hC.1 hC.2.1 dL_law_140 rfl (lv_at hl 1 rfl) ?_
  refine lv_aload_n hC.1 hC.2.1 dL_law_141 rfl (lv_at hl 0 rfl) ?_
  refine lv_iload hC.1 hC.2.1 dL_law_142 (lv_at hl 4 rfl) ?_
  refine lv_iconst (v := (nI 1)) hC.1 hC.2.1 dL_law_144 (by decide) ?_
  refine z_iadd hC dL_law_145 ?_
  refine va_sld hC.1 hC.2.1 hxs hsl hsz hS (vp_in_nI (by omega) (by omega)) dL_law_146 ?_
  rw [nI_clamp (by omega : i + 1 < 2 ^ 31)]
  refine lv_aload_n hC.1 hC.2.1 dL_law_147 rfl (lv_at hl 0 rfl) ?_
  refine lv_iload hC.1 hC.2.1 dL_law_148 (lv_at hl 4 rfl) ?_
  refine lv_iconst (v := (nI 2)) hC.1 hC.2.1 dL_law_150 (by decide) ?_
  refine z_iadd hC dL_law_151 ?_
  refine va_sld hC.1 hC.2.1 hxs hsl hsz hS (vp_in_nI (by omega) (by omega)) dL_law_152 ?_
  rw [nI_clamp (by omega : i + 2 < 2 ^ 31)]
  refine lv_aload_n hC.1 hC.2.1 dL_law_153 rfl (lv_at hl 3 rfl) ?_
  refine p_csHW (n := 4) hL hC hE hXw hYw hP hD hS gL_law_L_turn rfl (by decide +kernel) rfl ⟨by decide, by decide⟩ ⟨by show _ ≤ 601024; omega, by show _ ≤ 7293034; omega⟩ hl.1 (Nat.le_of_ble_eq_true rfl) dL_law_154 rfl (fun o L2 f2 H locs hpost hP hD hS => ?_)
  obtain ⟨rfl, cu2, th2, gP, hJ2, hv0⟩ := hpost
  obtain ⟨Nn2, V2, hY2, -⟩ := id hJ2.2.1
  refine lv_istore (lv' := [(5, .int (nI k)), (0, .ref sc), (1, .ref hx), (2, .ref hm), (3, .ref o9), (4, .int (nI i))]) hC.1 hC.2.1 dL_law_157 hl (by decide) rfl (fun ls hl => ?_)
  refine lv_aload_n hC.1 hC.2.1 dL_law_159 rfl (lv_at hl 3 rfl) ?_
  refine lv_aload_n hC.1 hC.2.1 dL_law_160 rfl (lv_at hl 1 rfl) ?_
  refine lv_iload hC.1 hC.2.1 dL_law_161 (lv_at hl 5 rfl) ?_
  refine lv_iconst (v := (nI 1)) hC.1 hC.2.1 dL_law_163 (by decide) ?_
  refine z_iadd hC dL_law_164 ?_
  refine va_sld hC.1 hC.2.1 hxs hsl hsz hS (vp_in_nI (by omega) (by omega)) dL_law_165 ?_
  rw [nI_clamp (by omega : i + 1 < 2 ^ 31)]
  refine lv_aload_n hC.1 hC.2.1 dL_law_166 rfl (lv_at hl 1 rfl) ?_
  refine lv_iload hC.1 hC.2.1 dL_law_167 (lv_at hl 5 rfl) ?_
  refine lv_iconst (v := (nI 2)) hC.1 hC.2.1 dL_law_169 (by decide) ?_
  refine z_iadd hC dL_law_170 ?_
  refine va_sld hC.1 hC.2.1 hxs hsl hsz hS (vp_in_nI (by omega) (by omega)) dL_law_171 ?_
  rw [nI_clamp (by omega : i + 2 < 2 ^ 31)]
  refine p_cvH (n := 2) (hM cu2 th2 _ _ gP hJ2) hC hE hP hD hS (hY2.1.1) (hY2.1.2) rfl gL_law_X1_turn rfl (by decide +kernel) rfl ⟨by decide, by decide⟩ ⟨by show _ ≤ 601024; omega, by show _ ≤ 7293034; omega⟩ hl.1 (Nat.le_of_ble_eq_true rfl) dL_law_172 rfl (fun o L3 f3 H locs hpost hP hD hS => ?_)
  obtain ⟨rfl, cu3, hJ3⟩ := hpost
  obtain ⟨Nn3, V3, hY3, -⟩ := id hJ3.2.1
  refine lv_istore (lv' := [(6, .int (r)), (5, .int (nI k)), (0, .ref sc), (1, .ref hx), (2, .ref hm), (3, .ref o9), (4, .int (nI i))]) hC.1 hC.2.1 dL_law_175 hl (by decide) rfl (fun ls hl => ?_)
  refine lv_aload_n hC.1 hC.2.1 dL_law_177 rfl (lv_at hl 4 rfl) ?_
  refine p_cvB (n := 0) (m_thrown l hY3) hC hE hP hD hS (hY3.1.1) (hY3.1.2) rfl gL_law_X1_thrown rfl (by decide +kernel) rfl ⟨by decide, by decide⟩ ⟨by show _ ≤ 601024; omega, by show _ ≤ 7293034; omega⟩ hl.1 (Nat.le_of_ble_eq_true rfl) dL_law_178 rfl ?_
  refine lv_iload hC.1 hC.2.1 dL_law_181 (lv_at hl 1 rfl) ?_
  refine lv_icmp_eq (tgt := 188) hC.1 hC.2.1 dL_law_183 (by decide) (fun h_183 => ?_) (fun h_183 => absurd rfl h_183)
  refine lv_iload hC.1 hC.2.1 dL_law_188 (lv_at hl 1 rfl) ?_
  refine z_if_ne (tgt := 205) hC dL_law_190 (by decide) (by omega) (fun h_190 => ?_) (fun h_190 => ?_)
  · refine lv_goto (tgt := 1380) hC.1 hC.2.1 dL_law_205 (by decide) ?_
    refine W.widen (k := cells + 701) (n := slots + 11206) (by omega) (by omega) ?_
    exact kk _ _ _ _ _ _ _ _ _ _ _ hPM2 hJ3 hP hD hS (lv_sub hl [2, 3, 4, 5, 6] rfl)
  · refine lv_aload_n hC.1 hC.2.1 dL_law_193 rfl (lv_at hl 5 rfl) ?_
    refine lv_iconst (v := (nI 0)) hC.1 hC.2.1 dL_law_194 (by decide) ?_
    refine p_lald hC hE hP hJ3.2.2.1.1 hJ3.2.2.1.2 (by decide) (by decide) dL_law_195 ?_
    refine lv_iload hC.1 hC.2.1 dL_law_196 (lv_at hl 0 rfl) ?_
    refine lv_i2l hC.1 hC.2.1 dL_law_198 rfl ?_
    refine W.lcmp hC.1 hC.2.1 dL_law_199 ?_
    refine lv_if_eq (tgt := 205) hC.1 hC.2.1 dL_law_200 (by decide) (fun h_200 => ?_) (fun h_200 => absurd (lg0.mpr ((hv0 h_190).trans hok)) h_200)
    refine lv_goto (tgt := 1380) hC.1 hC.2.1 dL_law_205 (by decide) ?_
    refine W.widen (k := cells + 701) (n := slots + 11206) (by omega) (by omega) ?_
    exact kk _ _ _ _ _ _ _ _ _ _ _ hPM2 hJ3 hP hD hS (lv_sub hl [2, 3, 4, 5, 6] rfl)

set_option maxHeartbeats 4000000 in
set_option maxRecDepth 100000 in
theorem c_play {p : Program} {l : Launch} {e : Env} {s : State} {m : MethodId} {args : Array Value} {below : List Frame} {meth : Method} {c : Code} {Q : State → Prop} {D : va_G} {T : ClassId × ClassId × ClassId} {z0 : Nat} {hx g ln : Nat} {rw : Nat → Nat} {hm rs td sz wo : Nat} {rr tr : Nat → Nat} {o9 sc i cells slots : Nat} {Ln : Nat} {xs : Nat → Int32} (hst : l.stackTraces = false) (hC : CallFix p m c cL_law 9 s args wsL_law RL) (hE : zE D T z0 s) (hXw : xW s) (hYw : yW s) (hxs : va_X sc Ln xs s s.heap) (hsl : sc < s.heap.size) (hsz : ¬ zA z0 sc) (hLn : Ln ≤ 2048) (hi3 : i + 3 < Ln) (hcl : cells + 701 ≤ 601024) (hsl2 : slots + 11206 ≤ 7293034) (kk : LGO p l e s m args below meth c Q D T z0 hx g ln rw hm rs td sz wo rr tr o9 sc i (cells + 701) (slots + 11206) 1380) : LGO p l e s m args below meth c Q D T z0 hx g ln rw hm rs td sz wo rr tr o9 sc i cells slots 208 := by
  intro L f H locs cu th b mk wd gO ls hPM hJ hP hD hS hl
  obtain ⟨k, v, r, b2, mk2, wd2, mc, ms, hk4, hmc, hms, hPM2, hok, hL, hM⟩ := pr_play (D := D) (z0 := z0) l hst hJ hPM (xs (i + 1)) (xs (i + 2))
  refine lv_aload_n hC.1 hC.2.1 dL_law_208 rfl (lv_at hl 1 rfl) ?_
  refine lv_aload_n hC.1 hC.2.1 dL_law_209 rfl (lv_at hl 0 rfl) ?_
  refine lv_iload hC.1 hC.2.1 dL_law_210 (lv_at hl 4 rfl) ?_
  refine lv_iconst (v := (nI 1)) hC.1 hC.2.1 dL_law_212 (by decide) ?_
  refine z_iadd hC dL_law_213 ?_
  refine va_sld hC.1 hC.2.1 hxs hsl hsz hS (vp_in_nI (by omega) (by omega)) dL_law_214 ?_
  rw [nI_clamp (by omega : i + 1 < 2 ^ 31)]
  refine lv_aload_n hC.1 hC.2.1 dL_law_215 rfl (lv_at hl 0 rfl) ?_
  refine lv_iload hC.1 hC.2.1 dL_law_216 (lv_at hl 4 rfl) ?_
  refine lv_iconst (v := (nI 2)) hC.1 hC.2.1 dL_law_218 (by decide) ?_
  refine z_iadd hC dL_law_219 ?_
  refine va_sld hC.1 hC.2.1 hxs hsl hsz hS (vp_in_nI (by omega) (by omega)) dL_law_220 ?_
  rw [nI_clamp (by omega : i + 2 < 2 ^ 31)]
  refine lv_aload_n hC.1 hC.2.1 dL_law_221 rfl (lv_at hl 3 rfl) ?_
  refine p_csHW (n := 4) hL hC hE hXw hYw hP hD hS gL_law_L_play rfl (by decide +kernel) rfl ⟨by decide, by decide⟩ ⟨by show _ ≤ 601024; omega, by show _ ≤ 7293034; omega⟩ hl.1 (Nat.le_of_ble_eq_true rfl) dL_law_222 rfl (fun o L2 f2 H locs hpost hP hD hS => ?_)
  obtain ⟨rfl, cu2, th2, gP, hJ2, hv0⟩ := hpost
  obtain ⟨Nn2, V2, hY2, -⟩ := id hJ2.2.1
  refine lv_istore (lv' := [(5, .int (nI k)), (0, .ref sc), (1, .ref hx), (2, .ref hm), (3, .ref o9), (4, .int (nI i))]) hC.1 hC.2.1 dL_law_225 hl (by decide) rfl (fun ls hl => ?_)
  refine lv_aload_n hC.1 hC.2.1 dL_law_227 rfl (lv_at hl 3 rfl) ?_
  refine lv_aload_n hC.1 hC.2.1 dL_law_228 rfl (lv_at hl 1 rfl) ?_
  refine lv_iload hC.1 hC.2.1 dL_law_229 (lv_at hl 5 rfl) ?_
  refine lv_iconst (v := (nI 1)) hC.1 hC.2.1 dL_law_231 (by decide) ?_
  refine z_iadd hC dL_law_232 ?_
  refine va_sld hC.1 hC.2.1 hxs hsl hsz hS (vp_in_nI (by omega) (by omega)) dL_law_233 ?_
  rw [nI_clamp (by omega : i + 1 < 2 ^ 31)]
  refine lv_aload_n hC.1 hC.2.1 dL_law_234 rfl (lv_at hl 1 rfl) ?_
  refine lv_iload hC.1 hC.2.1 dL_law_235 (lv_at hl 5 rfl) ?_
  refine lv_iconst (v := (nI 2)) hC.1 hC.2.1 dL_law_237 (by decide) ?_
  refine z_iadd hC dL_law_238 ?_
  refine va_sld hC.1 hC.2.1 hxs hsl hsz hS (vp_in_nI (by omega) (by omega)) dL_law_239 ?_
  rw [nI_clamp (by omega : i + 2 < 2 ^ 31)]
  refine p_cvH (n := 2) (hM cu2 th2 _ _ gP hJ2) hC hE hP hD hS (hY2.1.1) (hY2.1.2) rfl gL_law_X1_play rfl (by decide +kernel) rfl ⟨by decide, by decide⟩ ⟨by show _ ≤ 601024; omega, by show _ ≤ 7293034; omega⟩ hl.1 (Nat.le_of_ble_eq_true rfl) dL_law_240 rfl (fun o L3 f3 H locs hpost hP hD hS => ?_)
  obtain ⟨rfl, cu3, hJ3⟩ := hpost
  obtain ⟨Nn3, V3, hY3, -⟩ := id hJ3.2.1
  refine lv_istore (lv' := [(6, .int (r)), (5, .int (nI k)), (0, .ref sc), (1, .ref hx), (2, .ref hm), (3, .ref o9), (4, .int (nI i))]) hC.1 hC.2.1 dL_law_243 hl (by decide) rfl (fun ls hl => ?_)
  refine lv_aload_n hC.1 hC.2.1 dL_law_245 rfl (lv_at hl 4 rfl) ?_
  refine p_cvB (n := 0) (m_thrown l hY3) hC hE hP hD hS (hY3.1.1) (hY3.1.2) rfl gL_law_X1_thrown rfl (by decide +kernel) rfl ⟨by decide, by decide⟩ ⟨by show _ ≤ 601024; omega, by show _ ≤ 7293034; omega⟩ hl.1 (Nat.le_of_ble_eq_true rfl) dL_law_246 rfl ?_
  refine lv_iload hC.1 hC.2.1 dL_law_249 (lv_at hl 1 rfl) ?_
  refine lv_icmp_eq (tgt := 256) hC.1 hC.2.1 dL_law_251 (by decide) (fun h_251 => ?_) (fun h_251 => absurd rfl h_251)
  refine lv_iload hC.1 hC.2.1 dL_law_256 (lv_at hl 1 rfl) ?_
  refine z_if_ne (tgt := 273) hC dL_law_258 (by decide) (by omega) (fun h_258 => ?_) (fun h_258 => ?_)
  · refine lv_goto (tgt := 1380) hC.1 hC.2.1 dL_law_273 (by decide) ?_
    refine W.widen (k := cells + 701) (n := slots + 11206) (by omega) (by omega) ?_
    exact kk _ _ _ _ _ _ _ _ _ _ _ hPM2 hJ3 hP hD hS (lv_sub hl [2, 3, 4, 5, 6] rfl)
  · refine lv_aload_n hC.1 hC.2.1 dL_law_261 rfl (lv_at hl 5 rfl) ?_
    refine lv_iconst (v := (nI 0)) hC.1 hC.2.1 dL_law_262 (by decide) ?_
    refine p_lald hC hE hP hJ3.2.2.1.1 hJ3.2.2.1.2 (by decide) (by decide) dL_law_263 ?_
    refine lv_iload hC.1 hC.2.1 dL_law_264 (lv_at hl 0 rfl) ?_
    refine lv_i2l hC.1 hC.2.1 dL_law_266 rfl ?_
    refine W.lcmp hC.1 hC.2.1 dL_law_267 ?_
    refine lv_if_eq (tgt := 273) hC.1 hC.2.1 dL_law_268 (by decide) (fun h_268 => ?_) (fun h_268 => absurd (lg0.mpr ((hv0 h_258).trans hok)) h_268)
    refine lv_goto (tgt := 1380) hC.1 hC.2.1 dL_law_273 (by decide) ?_
    refine W.widen (k := cells + 701) (n := slots + 11206) (by omega) (by omega) ?_
    exact kk _ _ _ _ _ _ _ _ _ _ _ hPM2 hJ3 hP hD hS (lv_sub hl [2, 3, 4, 5, 6] rfl)

set_option maxHeartbeats 4000000 in
set_option maxRecDepth 100000 in
theorem c_reset {p : Program} {l : Launch} {e : Env} {s : State} {m : MethodId} {args : Array Value} {below : List Frame} {meth : Method} {c : Code} {Q : State → Prop} {D : va_G} {T : ClassId × ClassId × ClassId} {z0 : Nat} {hx g ln : Nat} {rw : Nat → Nat} {hm rs td sz wo : Nat} {rr tr : Nat → Nat} {o9 sc i cells slots : Nat} {Ln : Nat} {xs : Nat → Int32} (hst : l.stackTraces = false) (hC : CallFix p m c cL_law 9 s args wsL_law RL) (hE : zE D T z0 s) (hXw : xW s) (hYw : yW s) (hxs : va_X sc Ln xs s s.heap) (hsl : sc < s.heap.size) (hsz : ¬ zA z0 sc) (hLn : Ln ≤ 2048) (hi3 : i + 3 < Ln) (hcl : cells + 701 ≤ 601024) (hsl2 : slots + 11206 ≤ 7293034) (kk : LGO p l e s m args below meth c Q D T z0 hx g ln rw hm rs td sz wo rr tr o9 sc i (cells + 701) (slots + 11206) 1380) : LGO p l e s m args below meth c Q D T z0 hx g ln rw hm rs td sz wo rr tr o9 sc i cells slots 276 := by
  intro L f H locs cu th b mk wd gO ls hPM hJ hP hD hS hl
  have hX := hJ.1
  refine lv_aload_n hC.1 hC.2.1 dL_law_276 rfl (lv_at hl 1 rfl) ?_
  refine p_cvH (n := 0) (k_reset l hX) hC hE hP hD hS (hX.1.1) (hX.1.2) rfl gL_law_X0_reset rfl (by decide +kernel) rfl ⟨by decide, by decide⟩ ⟨by show _ ≤ 601024; omega, by show _ ≤ 7293034; omega⟩ hl.1 (Nat.le_of_ble_eq_true rfl) dL_law_277 rfl (fun o L2 f2 H locs hpost hP hD hS => ?_)
  obtain ⟨rfl, hLe, hX2, hFR⟩ := hpost
  rw [hLe] at hP hD
  have hJ2 := hJ.frx hX2 hFR
  obtain ⟨Nn2, V2, hY2, -⟩ := id hJ2.2.1
  refine lv_aload_n hC.1 hC.2.1 dL_law_280 rfl (lv_at hl 2 rfl) ?_
  refine p_cvH (n := 0) (mg_reset l hJ2.2.1) hC hE hP hD hS (hY2.1.1) (hY2.1.2) rfl gL_law_X1_reset rfl (by decide +kernel) rfl ⟨by decide, by decide⟩ ⟨by show _ ≤ 601024; omega, by show _ ≤ 7293034; omega⟩ hl.1 (Nat.le_of_ble_eq_true rfl) dL_law_281 rfl (fun o L3 f3 H locs hpost hP hD hS => ?_)
  obtain ⟨rfl, cu3, -, hZ3, hF3⟩ := hpost
  have hJ3 := hJ2.frm hZ3 hF3
  refine lv_icmp_eq (tgt := 1380) hC.1 hC.2.1 dL_law_284 (by decide) (fun h_284 => ?_) (fun h_284 => absurd rfl h_284)
  refine W.widen (k := cells + 701) (n := slots + 11206) (by omega) (by omega) ?_
  exact kk _ _ _ _ _ _ _ _ _ _ _ PM.one hJ3 hP hD hS (lv_sub hl [0, 1, 2, 3, 4] rfl)

set_option maxHeartbeats 4000000 in
set_option maxRecDepth 100000 in
theorem c_say {p : Program} {l : Launch} {e : Env} {s : State} {m : MethodId} {args : Array Value} {below : List Frame} {meth : Method} {c : Code} {Q : State → Prop} {D : va_G} {T : ClassId × ClassId × ClassId} {z0 : Nat} {hx g ln : Nat} {rw : Nat → Nat} {hm rs td sz wo : Nat} {rr tr : Nat → Nat} {o9 sc i cells slots : Nat} {Ln : Nat} {xs : Nat → Int32} (hst : l.stackTraces = false) (hC : CallFix p m c cL_law 9 s args wsL_law RL) (hE : zE D T z0 s) (hXw : xW s) (hYw : yW s) (hxs : va_X sc Ln xs s s.heap) (hsl : sc < s.heap.size) (hsz : ¬ zA z0 sc) (hLn : Ln ≤ 2048) (hi3 : i + 3 < Ln) (hcl : cells + 701 ≤ 601024) (hsl2 : slots + 11206 ≤ 7293034) (kk : LGO p l e s m args below meth c Q D T z0 hx g ln rw hm rs td sz wo rr tr o9 sc i (cells + 701) (slots + 11206) 1380) : LGO p l e s m args below meth c Q D T z0 hx g ln rw hm rs td sz wo rr tr o9 sc i cells slots 289 := by
  intro L f H locs cu th b mk wd gO ls hPM hJ hP hD hS hl
  obtain ⟨k, v, r, b2, mk2, wd2, mc, ms, hk4, hmc, hms, hPM2, hok, hL, hM⟩ := pr_say (D := D) (z0 := z0) l hst hJ hPM (xs (i + 1)) (xs (i + 2)) (xs (i + 3))
  refine lv_aload_n hC.1 hC.2.1 dL_law_289 rfl (lv_at hl 1 rfl) ?_
  refine lv_aload_n hC.1 hC.2.1 dL_law_290 rfl (lv_at hl 0 rfl) ?_
  refine lv_iload hC.1 hC.2.1 dL_law_291 (lv_at hl 4 rfl) ?_
  refine lv_iconst (v := (nI 1)) hC.1 hC.2.1 dL_law_293 (by decide) ?_
  refine z_iadd hC dL_law_294 ?_
  refine va_sld hC.1 hC.2.1 hxs hsl hsz hS (vp_in_nI (by omega) (by omega)) dL_law_295 ?_
  rw [nI_clamp (by omega : i + 1 < 2 ^ 31)]
  refine lv_aload_n hC.1 hC.2.1 dL_law_296 rfl (lv_at hl 0 rfl) ?_
  refine lv_iload hC.1 hC.2.1 dL_law_297 (lv_at hl 4 rfl) ?_
  refine lv_iconst (v := (nI 2)) hC.1 hC.2.1 dL_law_299 (by decide) ?_
  refine z_iadd hC dL_law_300 ?_
  refine va_sld hC.1 hC.2.1 hxs hsl hsz hS (vp_in_nI (by omega) (by omega)) dL_law_301 ?_
  rw [nI_clamp (by omega : i + 2 < 2 ^ 31)]
  refine lv_aload_n hC.1 hC.2.1 dL_law_302 rfl (lv_at hl 0 rfl) ?_
  refine lv_iload hC.1 hC.2.1 dL_law_303 (lv_at hl 4 rfl) ?_
  refine lv_iconst (v := (nI 3)) hC.1 hC.2.1 dL_law_305 (by decide) ?_
  refine z_iadd hC dL_law_306 ?_
  refine va_sld hC.1 hC.2.1 hxs hsl hsz hS (vp_in_nI (by omega) (by omega)) dL_law_307 ?_
  rw [nI_clamp (by omega : i + 3 < 2 ^ 31)]
  refine lv_aload_n hC.1 hC.2.1 dL_law_308 rfl (lv_at hl 3 rfl) ?_
  refine p_csHW (n := 5) hL hC hE hXw hYw hP hD hS gL_law_L_say rfl (by decide +kernel) rfl ⟨by decide, by decide⟩ ⟨by show _ ≤ 601024; omega, by show _ ≤ 7293034; omega⟩ hl.1 (Nat.le_of_ble_eq_true rfl) dL_law_309 rfl (fun o L2 f2 H locs hpost hP hD hS => ?_)
  obtain ⟨rfl, cu2, th2, gP, hJ2, hv0⟩ := hpost
  obtain ⟨Nn2, V2, hY2, -⟩ := id hJ2.2.1
  refine lv_istore (lv' := [(5, .int (nI k)), (0, .ref sc), (1, .ref hx), (2, .ref hm), (3, .ref o9), (4, .int (nI i))]) hC.1 hC.2.1 dL_law_312 hl (by decide) rfl (fun ls hl => ?_)
  refine lv_aload_n hC.1 hC.2.1 dL_law_314 rfl (lv_at hl 3 rfl) ?_
  refine lv_aload_n hC.1 hC.2.1 dL_law_315 rfl (lv_at hl 1 rfl) ?_
  refine lv_iload hC.1 hC.2.1 dL_law_316 (lv_at hl 5 rfl) ?_
  refine lv_iconst (v := (nI 1)) hC.1 hC.2.1 dL_law_318 (by decide) ?_
  refine z_iadd hC dL_law_319 ?_
  refine va_sld hC.1 hC.2.1 hxs hsl hsz hS (vp_in_nI (by omega) (by omega)) dL_law_320 ?_
  rw [nI_clamp (by omega : i + 1 < 2 ^ 31)]
  refine lv_aload_n hC.1 hC.2.1 dL_law_321 rfl (lv_at hl 1 rfl) ?_
  refine lv_iload hC.1 hC.2.1 dL_law_322 (lv_at hl 5 rfl) ?_
  refine lv_iconst (v := (nI 2)) hC.1 hC.2.1 dL_law_324 (by decide) ?_
  refine z_iadd hC dL_law_325 ?_
  refine va_sld hC.1 hC.2.1 hxs hsl hsz hS (vp_in_nI (by omega) (by omega)) dL_law_326 ?_
  rw [nI_clamp (by omega : i + 2 < 2 ^ 31)]
  refine lv_aload_n hC.1 hC.2.1 dL_law_327 rfl (lv_at hl 1 rfl) ?_
  refine lv_iload hC.1 hC.2.1 dL_law_328 (lv_at hl 5 rfl) ?_
  refine lv_iconst (v := (nI 3)) hC.1 hC.2.1 dL_law_330 (by decide) ?_
  refine z_iadd hC dL_law_331 ?_
  refine va_sld hC.1 hC.2.1 hxs hsl hsz hS (vp_in_nI (by omega) (by omega)) dL_law_332 ?_
  rw [nI_clamp (by omega : i + 3 < 2 ^ 31)]
  refine p_cvH (n := 3) (hM cu2 th2 _ _ gP hJ2) hC hE hP hD hS (hY2.1.1) (hY2.1.2) rfl gL_law_X1_say rfl (by decide +kernel) rfl ⟨by decide, by decide⟩ ⟨by show _ ≤ 601024; omega, by show _ ≤ 7293034; omega⟩ hl.1 (Nat.le_of_ble_eq_true rfl) dL_law_333 rfl (fun o L3 f3 H locs hpost hP hD hS => ?_)
  obtain ⟨rfl, cu3, hJ3⟩ := hpost
  obtain ⟨Nn3, V3, hY3, -⟩ := id hJ3.2.1
  refine lv_istore (lv' := [(6, .int (r)), (5, .int (nI k)), (0, .ref sc), (1, .ref hx), (2, .ref hm), (3, .ref o9), (4, .int (nI i))]) hC.1 hC.2.1 dL_law_336 hl (by decide) rfl (fun ls hl => ?_)
  refine lv_aload_n hC.1 hC.2.1 dL_law_338 rfl (lv_at hl 4 rfl) ?_
  refine p_cvB (n := 0) (m_thrown l hY3) hC hE hP hD hS (hY3.1.1) (hY3.1.2) rfl gL_law_X1_thrown rfl (by decide +kernel) rfl ⟨by decide, by decide⟩ ⟨by show _ ≤ 601024; omega, by show _ ≤ 7293034; omega⟩ hl.1 (Nat.le_of_ble_eq_true rfl) dL_law_339 rfl ?_
  refine lv_iload hC.1 hC.2.1 dL_law_342 (lv_at hl 1 rfl) ?_
  refine lv_icmp_eq (tgt := 349) hC.1 hC.2.1 dL_law_344 (by decide) (fun h_344 => ?_) (fun h_344 => absurd rfl h_344)
  refine lv_iload hC.1 hC.2.1 dL_law_349 (lv_at hl 1 rfl) ?_
  refine z_if_ne (tgt := 366) hC dL_law_351 (by decide) (by omega) (fun h_351 => ?_) (fun h_351 => ?_)
  · refine lv_goto (tgt := 1380) hC.1 hC.2.1 dL_law_366 (by decide) ?_
    refine W.widen (k := cells + 701) (n := slots + 11206) (by omega) (by omega) ?_
    exact kk _ _ _ _ _ _ _ _ _ _ _ hPM2 hJ3 hP hD hS (lv_sub hl [2, 3, 4, 5, 6] rfl)
  · refine lv_aload_n hC.1 hC.2.1 dL_law_354 rfl (lv_at hl 5 rfl) ?_
    refine lv_iconst (v := (nI 0)) hC.1 hC.2.1 dL_law_355 (by decide) ?_
    refine p_lald hC hE hP hJ3.2.2.1.1 hJ3.2.2.1.2 (by decide) (by decide) dL_law_356 ?_
    refine lv_iload hC.1 hC.2.1 dL_law_357 (lv_at hl 0 rfl) ?_
    refine lv_i2l hC.1 hC.2.1 dL_law_359 rfl ?_
    refine W.lcmp hC.1 hC.2.1 dL_law_360 ?_
    refine lv_if_eq (tgt := 366) hC.1 hC.2.1 dL_law_361 (by decide) (fun h_361 => ?_) (fun h_361 => absurd (lg0.mpr ((hv0 h_351).trans hok)) h_361)
    refine lv_goto (tgt := 1380) hC.1 hC.2.1 dL_law_366 (by decide) ?_
    refine W.widen (k := cells + 701) (n := slots + 11206) (by omega) (by omega) ?_
    exact kk _ _ _ _ _ _ _ _ _ _ _ hPM2 hJ3 hP hD hS (lv_sub hl [2, 3, 4, 5, 6] rfl)

set_option maxHeartbeats 4000000 in
set_option maxRecDepth 100000 in
theorem c_wipe {p : Program} {l : Launch} {e : Env} {s : State} {m : MethodId} {args : Array Value} {below : List Frame} {meth : Method} {c : Code} {Q : State → Prop} {D : va_G} {T : ClassId × ClassId × ClassId} {z0 : Nat} {hx g ln : Nat} {rw : Nat → Nat} {hm rs td sz wo : Nat} {rr tr : Nat → Nat} {o9 sc i cells slots : Nat} {Ln : Nat} {xs : Nat → Int32} (hst : l.stackTraces = false) (hC : CallFix p m c cL_law 9 s args wsL_law RL) (hE : zE D T z0 s) (hXw : xW s) (hYw : yW s) (hxs : va_X sc Ln xs s s.heap) (hsl : sc < s.heap.size) (hsz : ¬ zA z0 sc) (hLn : Ln ≤ 2048) (hi3 : i + 3 < Ln) (hcl : cells + 701 ≤ 601024) (hsl2 : slots + 11206 ≤ 7293034) (kk : LGO p l e s m args below meth c Q D T z0 hx g ln rw hm rs td sz wo rr tr o9 sc i (cells + 701) (slots + 11206) 1380) : LGO p l e s m args below meth c Q D T z0 hx g ln rw hm rs td sz wo rr tr o9 sc i cells slots 369 := by
  intro L f H locs cu th b mk wd gO ls hPM hJ hP hD hS hl
  obtain ⟨k, v, r, b2, mk2, wd2, mc, ms, hk4, hmc, hms, hPM2, hok, hL, hM⟩ := pr_wipe (D := D) (z0 := z0) l hst hJ hPM (xs (i + 1))
  refine lv_aload_n hC.1 hC.2.1 dL_law_369 rfl (lv_at hl 1 rfl) ?_
  refine lv_aload_n hC.1 hC.2.1 dL_law_370 rfl (lv_at hl 0 rfl) ?_
  refine lv_iload hC.1 hC.2.1 dL_law_371 (lv_at hl 4 rfl) ?_
  refine lv_iconst (v := (nI 1)) hC.1 hC.2.1 dL_law_373 (by decide) ?_
  refine z_iadd hC dL_law_374 ?_
  refine va_sld hC.1 hC.2.1 hxs hsl hsz hS (vp_in_nI (by omega) (by omega)) dL_law_375 ?_
  rw [nI_clamp (by omega : i + 1 < 2 ^ 31)]
  refine lv_aload_n hC.1 hC.2.1 dL_law_376 rfl (lv_at hl 3 rfl) ?_
  refine p_csHW (n := 3) hL hC hE hXw hYw hP hD hS gL_law_L_wipe rfl (by decide +kernel) rfl ⟨by decide, by decide⟩ ⟨by show _ ≤ 601024; omega, by show _ ≤ 7293034; omega⟩ hl.1 (Nat.le_of_ble_eq_true rfl) dL_law_377 rfl (fun o L2 f2 H locs hpost hP hD hS => ?_)
  obtain ⟨rfl, cu2, th2, gP, hJ2, hv0⟩ := hpost
  obtain ⟨Nn2, V2, hY2, -⟩ := id hJ2.2.1
  refine lv_istore (lv' := [(5, .int (nI k)), (0, .ref sc), (1, .ref hx), (2, .ref hm), (3, .ref o9), (4, .int (nI i))]) hC.1 hC.2.1 dL_law_380 hl (by decide) rfl (fun ls hl => ?_)
  refine lv_aload_n hC.1 hC.2.1 dL_law_382 rfl (lv_at hl 3 rfl) ?_
  refine lv_aload_n hC.1 hC.2.1 dL_law_383 rfl (lv_at hl 1 rfl) ?_
  refine lv_iload hC.1 hC.2.1 dL_law_384 (lv_at hl 5 rfl) ?_
  refine lv_iconst (v := (nI 1)) hC.1 hC.2.1 dL_law_386 (by decide) ?_
  refine z_iadd hC dL_law_387 ?_
  refine va_sld hC.1 hC.2.1 hxs hsl hsz hS (vp_in_nI (by omega) (by omega)) dL_law_388 ?_
  rw [nI_clamp (by omega : i + 1 < 2 ^ 31)]
  refine p_cvH (n := 1) (hM cu2 th2 _ _ gP hJ2) hC hE hP hD hS (hY2.1.1) (hY2.1.2) rfl gL_law_X1_wipe rfl (by decide +kernel) rfl ⟨by decide, by decide⟩ ⟨by show _ ≤ 601024; omega, by show _ ≤ 7293034; omega⟩ hl.1 (Nat.le_of_ble_eq_true rfl) dL_law_389 rfl (fun o L3 f3 H locs hpost hP hD hS => ?_)
  obtain ⟨rfl, cu3, hJ3⟩ := hpost
  obtain ⟨Nn3, V3, hY3, -⟩ := id hJ3.2.1
  refine lv_istore (lv' := [(6, .int (r)), (5, .int (nI k)), (0, .ref sc), (1, .ref hx), (2, .ref hm), (3, .ref o9), (4, .int (nI i))]) hC.1 hC.2.1 dL_law_392 hl (by decide) rfl (fun ls hl => ?_)
  refine lv_aload_n hC.1 hC.2.1 dL_law_394 rfl (lv_at hl 4 rfl) ?_
  refine p_cvB (n := 0) (m_thrown l hY3) hC hE hP hD hS (hY3.1.1) (hY3.1.2) rfl gL_law_X1_thrown rfl (by decide +kernel) rfl ⟨by decide, by decide⟩ ⟨by show _ ≤ 601024; omega, by show _ ≤ 7293034; omega⟩ hl.1 (Nat.le_of_ble_eq_true rfl) dL_law_395 rfl ?_
  refine lv_iload hC.1 hC.2.1 dL_law_398 (lv_at hl 1 rfl) ?_
  refine lv_icmp_eq (tgt := 405) hC.1 hC.2.1 dL_law_400 (by decide) (fun h_400 => ?_) (fun h_400 => absurd rfl h_400)
  refine lv_iload hC.1 hC.2.1 dL_law_405 (lv_at hl 1 rfl) ?_
  refine z_if_ne (tgt := 422) hC dL_law_407 (by decide) (by omega) (fun h_407 => ?_) (fun h_407 => ?_)
  · refine lv_goto (tgt := 1380) hC.1 hC.2.1 dL_law_422 (by decide) ?_
    refine W.widen (k := cells + 701) (n := slots + 11206) (by omega) (by omega) ?_
    exact kk _ _ _ _ _ _ _ _ _ _ _ hPM2 hJ3 hP hD hS (lv_sub hl [2, 3, 4, 5, 6] rfl)
  · refine lv_aload_n hC.1 hC.2.1 dL_law_410 rfl (lv_at hl 5 rfl) ?_
    refine lv_iconst (v := (nI 0)) hC.1 hC.2.1 dL_law_411 (by decide) ?_
    refine p_lald hC hE hP hJ3.2.2.1.1 hJ3.2.2.1.2 (by decide) (by decide) dL_law_412 ?_
    refine lv_iload hC.1 hC.2.1 dL_law_413 (lv_at hl 0 rfl) ?_
    refine lv_i2l hC.1 hC.2.1 dL_law_415 rfl ?_
    refine W.lcmp hC.1 hC.2.1 dL_law_416 ?_
    refine lv_if_eq (tgt := 422) hC.1 hC.2.1 dL_law_417 (by decide) (fun h_417 => ?_) (fun h_417 => absurd (lg0.mpr ((hv0 h_407).trans hok)) h_417)
    refine lv_goto (tgt := 1380) hC.1 hC.2.1 dL_law_422 (by decide) ?_
    refine W.widen (k := cells + 701) (n := slots + 11206) (by omega) (by omega) ?_
    exact kk _ _ _ _ _ _ _ _ _ _ _ hPM2 hJ3 hP hD hS (lv_sub hl [2, 3, 4, 5, 6] rfl)

set_option maxHeartbeats 4000000 in
set_option maxRecDepth 100000 in
theorem c_round {p : Program} {l : Launch} {e : Env} {s : State} {m : MethodId} {args : Array Value} {below : List Frame} {meth : Method} {c : Code} {Q : State → Prop} {D : va_G} {T : ClassId × ClassId × ClassId} {z0 : Nat} {hx g ln : Nat} {rw : Nat → Nat} {hm rs td sz wo : Nat} {rr tr : Nat → Nat} {o9 sc i cells slots : Nat} {Ln : Nat} {xs : Nat → Int32} (hst : l.stackTraces = false) (hC : CallFix p m c cL_law 9 s args wsL_law RL) (hE : zE D T z0 s) (hXw : xW s) (hYw : yW s) (hxs : va_X sc Ln xs s s.heap) (hsl : sc < s.heap.size) (hsz : ¬ zA z0 sc) (hLn : Ln ≤ 2048) (hi3 : i + 3 < Ln) (hcl : cells + 701 ≤ 601024) (hsl2 : slots + 11206 ≤ 7293034) (kk : LGO p l e s m args below meth c Q D T z0 hx g ln rw hm rs td sz wo rr tr o9 sc i (cells + 701) (slots + 11206) 1380) : LGO p l e s m args below meth c Q D T z0 hx g ln rw hm rs td sz wo rr tr o9 sc i cells slots 425 := by
  intro L f H locs cu th b mk wd gO ls hPM hJ hP hD hS hl
  obtain ⟨k, v, r, b2, mk2, wd2, mc, ms, hk4, hmc, hms, hPM2, hok, hL, hM⟩ := pr_round (D := D) (z0 := z0) l hst hJ hPM (xs (i + 1))
  refine lv_aload_n hC.1 hC.2.1 dL_law_425 rfl (lv_at hl 1 rfl) ?_
  refine lv_aload_n hC.1 hC.2.1 dL_law_426 rfl (lv_at hl 0 rfl) ?_
  refine lv_iload hC.1 hC.2.1 dL_law_427 (lv_at hl 4 rfl) ?_
  refine lv_iconst (v := (nI 1)) hC.1 hC.2.1 dL_law_429 (by decide) ?_
  refine z_iadd hC dL_law_430 ?_
  refine va_sld hC.1 hC.2.1 hxs hsl hsz hS (vp_in_nI (by omega) (by omega)) dL_law_431 ?_
  rw [nI_clamp (by omega : i + 1 < 2 ^ 31)]
  refine lv_aload_n hC.1 hC.2.1 dL_law_432 rfl (lv_at hl 3 rfl) ?_
  refine p_csHW (n := 3) hL hC hE hXw hYw hP hD hS gL_law_L_round rfl (by decide +kernel) rfl ⟨by decide, by decide⟩ ⟨by show _ ≤ 601024; omega, by show _ ≤ 7293034; omega⟩ hl.1 (Nat.le_of_ble_eq_true rfl) dL_law_433 rfl (fun o L2 f2 H locs hpost hP hD hS => ?_)
  obtain ⟨rfl, cu2, th2, gP, hJ2, hv0⟩ := hpost
  obtain ⟨Nn2, V2, hY2, -⟩ := id hJ2.2.1
  refine lv_istore (lv' := [(5, .int (nI k)), (0, .ref sc), (1, .ref hx), (2, .ref hm), (3, .ref o9), (4, .int (nI i))]) hC.1 hC.2.1 dL_law_436 hl (by decide) rfl (fun ls hl => ?_)
  refine lv_aload_n hC.1 hC.2.1 dL_law_438 rfl (lv_at hl 3 rfl) ?_
  refine lv_aload_n hC.1 hC.2.1 dL_law_439 rfl (lv_at hl 1 rfl) ?_
  refine lv_iload hC.1 hC.2.1 dL_law_440 (lv_at hl 5 rfl) ?_
  refine lv_iconst (v := (nI 1)) hC.1 hC.2.1 dL_law_442 (by decide) ?_
  refine z_iadd hC dL_law_443 ?_
  refine va_sld hC.1 hC.2.1 hxs hsl hsz hS (vp_in_nI (by omega) (by omega)) dL_law_444 ?_
  rw [nI_clamp (by omega : i + 1 < 2 ^ 31)]
  refine p_cvH (n := 1) (hM cu2 th2 _ _ gP hJ2) hC hE hP hD hS (hY2.1.1) (hY2.1.2) rfl gL_law_X1_round rfl (by decide +kernel) rfl ⟨by decide, by decide⟩ ⟨by show _ ≤ 601024; omega, by show _ ≤ 7293034; omega⟩ hl.1 (Nat.le_of_ble_eq_true rfl) dL_law_445 rfl (fun o L3 f3 H locs hpost hP hD hS => ?_)
  obtain ⟨rfl, cu3, hJ3⟩ := hpost
  obtain ⟨Nn3, V3, hY3, -⟩ := id hJ3.2.1
  refine lv_istore (lv' := [(6, .int (r)), (5, .int (nI k)), (0, .ref sc), (1, .ref hx), (2, .ref hm), (3, .ref o9), (4, .int (nI i))]) hC.1 hC.2.1 dL_law_448 hl (by decide) rfl (fun ls hl => ?_)
  refine lv_aload_n hC.1 hC.2.1 dL_law_450 rfl (lv_at hl 4 rfl) ?_
  refine p_cvB (n := 0) (m_thrown l hY3) hC hE hP hD hS (hY3.1.1) (hY3.1.2) rfl gL_law_X1_thrown rfl (by decide +kernel) rfl ⟨by decide, by decide⟩ ⟨by show _ ≤ 601024; omega, by show _ ≤ 7293034; omega⟩ hl.1 (Nat.le_of_ble_eq_true rfl) dL_law_451 rfl ?_
  refine lv_iload hC.1 hC.2.1 dL_law_454 (lv_at hl 1 rfl) ?_
  refine lv_icmp_eq (tgt := 461) hC.1 hC.2.1 dL_law_456 (by decide) (fun h_456 => ?_) (fun h_456 => absurd rfl h_456)
  refine lv_iload hC.1 hC.2.1 dL_law_461 (lv_at hl 1 rfl) ?_
  refine z_if_ne (tgt := 478) hC dL_law_463 (by decide) (by omega) (fun h_463 => ?_) (fun h_463 => ?_)
  · refine lv_goto (tgt := 1380) hC.1 hC.2.1 dL_law_478 (by decide) ?_
    refine W.widen (k := cells + 701) (n := slots + 11206) (by omega) (by omega) ?_
    exact kk _ _ _ _ _ _ _ _ _ _ _ hPM2 hJ3 hP hD hS (lv_sub hl [2, 3, 4, 5, 6] rfl)
  · refine lv_aload_n hC.1 hC.2.1 dL_law_466 rfl (lv_at hl 5 rfl) ?_
    refine lv_iconst (v := (nI 0)) hC.1 hC.2.1 dL_law_467 (by decide) ?_
    refine p_lald hC hE hP hJ3.2.2.1.1 hJ3.2.2.1.2 (by decide) (by decide) dL_law_468 ?_
    refine lv_iload hC.1 hC.2.1 dL_law_469 (lv_at hl 0 rfl) ?_
    refine lv_i2l hC.1 hC.2.1 dL_law_471 rfl ?_
    refine W.lcmp hC.1 hC.2.1 dL_law_472 ?_
    refine lv_if_eq (tgt := 478) hC.1 hC.2.1 dL_law_473 (by decide) (fun h_473 => ?_) (fun h_473 => absurd (lg0.mpr ((hv0 h_463).trans hok)) h_473)
    refine lv_goto (tgt := 1380) hC.1 hC.2.1 dL_law_478 (by decide) ?_
    refine W.widen (k := cells + 701) (n := slots + 11206) (by omega) (by omega) ?_
    exact kk _ _ _ _ _ _ _ _ _ _ _ hPM2 hJ3 hP hD hS (lv_sub hl [2, 3, 4, 5, 6] rfl)

set_option maxHeartbeats 4000000 in
set_option maxRecDepth 100000 in
theorem c_join {p : Program} {l : Launch} {e : Env} {s : State} {m : MethodId} {args : Array Value} {below : List Frame} {meth : Method} {c : Code} {Q : State → Prop} {D : va_G} {T : ClassId × ClassId × ClassId} {z0 : Nat} {hx g ln : Nat} {rw : Nat → Nat} {hm rs td sz wo : Nat} {rr tr : Nat → Nat} {o9 sc i cells slots : Nat} {Ln : Nat} {xs : Nat → Int32} (hst : l.stackTraces = false) (hC : CallFix p m c cL_law 9 s args wsL_law RL) (hE : zE D T z0 s) (hXw : xW s) (hYw : yW s) (hxs : va_X sc Ln xs s s.heap) (hsl : sc < s.heap.size) (hsz : ¬ zA z0 sc) (hLn : Ln ≤ 2048) (hi3 : i + 3 < Ln) (hcl : cells + 701 ≤ 601024) (hsl2 : slots + 11206 ≤ 7293034) (kk : LGO p l e s m args below meth c Q D T z0 hx g ln rw hm rs td sz wo rr tr o9 sc i (cells + 701) (slots + 11206) 1380) : LGO p l e s m args below meth c Q D T z0 hx g ln rw hm rs td sz wo rr tr o9 sc i cells slots 481 := by
  intro L f H locs cu th b mk wd gO ls hPM hJ hP hD hS hl
  obtain ⟨k, v, r, b2, mk2, wd2, mc, ms, hk4, hmc, hms, hPM2, hok, hL, hM⟩ := pr_join (D := D) (z0 := z0) l hst hJ hPM (xs (i + 1)) (xs (i + 2))
  refine lv_aload_n hC.1 hC.2.1 dL_law_481 rfl (lv_at hl 1 rfl) ?_
  refine lv_aload_n hC.1 hC.2.1 dL_law_482 rfl (lv_at hl 0 rfl) ?_
  refine lv_iload hC.1 hC.2.1 dL_law_483 (lv_at hl 4 rfl) ?_
  refine lv_iconst (v := (nI 1)) hC.1 hC.2.1 dL_law_485 (by decide) ?_
  refine z_iadd hC dL_law_486 ?_
  refine va_sld hC.1 hC.2.1 hxs hsl hsz hS (vp_in_nI (by omega) (by omega)) dL_law_487 ?_
  rw [nI_clamp (by omega : i + 1 < 2 ^ 31)]
  refine lv_aload_n hC.1 hC.2.1 dL_law_488 rfl (lv_at hl 0 rfl) ?_
  refine lv_iload hC.1 hC.2.1 dL_law_489 (lv_at hl 4 rfl) ?_
  refine lv_iconst (v := (nI 2)) hC.1 hC.2.1 dL_law_491 (by decide) ?_
  refine z_iadd hC dL_law_492 ?_
  refine va_sld hC.1 hC.2.1 hxs hsl hsz hS (vp_in_nI (by omega) (by omega)) dL_law_493 ?_
  rw [nI_clamp (by omega : i + 2 < 2 ^ 31)]
  refine lv_aload_n hC.1 hC.2.1 dL_law_494 rfl (lv_at hl 3 rfl) ?_
  refine p_csHW (n := 4) hL hC hE hXw hYw hP hD hS gL_law_L_join rfl (by decide +kernel) rfl ⟨by decide, by decide⟩ ⟨by show _ ≤ 601024; omega, by show _ ≤ 7293034; omega⟩ hl.1 (Nat.le_of_ble_eq_true rfl) dL_law_495 rfl (fun o L2 f2 H locs hpost hP hD hS => ?_)
  obtain ⟨rfl, cu2, th2, gP, hJ2, hv0⟩ := hpost
  obtain ⟨Nn2, V2, hY2, -⟩ := id hJ2.2.1
  refine lv_istore (lv' := [(5, .int (nI k)), (0, .ref sc), (1, .ref hx), (2, .ref hm), (3, .ref o9), (4, .int (nI i))]) hC.1 hC.2.1 dL_law_498 hl (by decide) rfl (fun ls hl => ?_)
  refine lv_aload_n hC.1 hC.2.1 dL_law_500 rfl (lv_at hl 3 rfl) ?_
  refine lv_aload_n hC.1 hC.2.1 dL_law_501 rfl (lv_at hl 1 rfl) ?_
  refine lv_iload hC.1 hC.2.1 dL_law_502 (lv_at hl 5 rfl) ?_
  refine lv_iconst (v := (nI 1)) hC.1 hC.2.1 dL_law_504 (by decide) ?_
  refine z_iadd hC dL_law_505 ?_
  refine va_sld hC.1 hC.2.1 hxs hsl hsz hS (vp_in_nI (by omega) (by omega)) dL_law_506 ?_
  rw [nI_clamp (by omega : i + 1 < 2 ^ 31)]
  refine lv_aload_n hC.1 hC.2.1 dL_law_507 rfl (lv_at hl 1 rfl) ?_
  refine lv_iload hC.1 hC.2.1 dL_law_508 (lv_at hl 5 rfl) ?_
  refine lv_iconst (v := (nI 2)) hC.1 hC.2.1 dL_law_510 (by decide) ?_
  refine z_iadd hC dL_law_511 ?_
  refine va_sld hC.1 hC.2.1 hxs hsl hsz hS (vp_in_nI (by omega) (by omega)) dL_law_512 ?_
  rw [nI_clamp (by omega : i + 2 < 2 ^ 31)]
  refine p_cvH (n := 2) (hM cu2 th2 _ _ gP hJ2) hC hE hP hD hS (hY2.1.1) (hY2.1.2) rfl gL_law_X1_join rfl (by decide +kernel) rfl ⟨by decide, by decide⟩ ⟨by show _ ≤ 601024; omega, by show _ ≤ 7293034; omega⟩ hl.1 (Nat.le_of_ble_eq_true rfl) dL_law_513 rfl (fun o L3 f3 H locs hpost hP hD hS => ?_)
  obtain ⟨rfl, cu3, hJ3⟩ := hpost
  obtain ⟨Nn3, V3, hY3, -⟩ := id hJ3.2.1
  refine lv_istore (lv' := [(6, .int (r)), (5, .int (nI k)), (0, .ref sc), (1, .ref hx), (2, .ref hm), (3, .ref o9), (4, .int (nI i))]) hC.1 hC.2.1 dL_law_516 hl (by decide) rfl (fun ls hl => ?_)
  refine lv_aload_n hC.1 hC.2.1 dL_law_518 rfl (lv_at hl 4 rfl) ?_
  refine p_cvB (n := 0) (m_thrown l hY3) hC hE hP hD hS (hY3.1.1) (hY3.1.2) rfl gL_law_X1_thrown rfl (by decide +kernel) rfl ⟨by decide, by decide⟩ ⟨by show _ ≤ 601024; omega, by show _ ≤ 7293034; omega⟩ hl.1 (Nat.le_of_ble_eq_true rfl) dL_law_519 rfl ?_
  refine lv_iload hC.1 hC.2.1 dL_law_522 (lv_at hl 1 rfl) ?_
  refine lv_icmp_eq (tgt := 529) hC.1 hC.2.1 dL_law_524 (by decide) (fun h_524 => ?_) (fun h_524 => absurd rfl h_524)
  refine lv_iload hC.1 hC.2.1 dL_law_529 (lv_at hl 1 rfl) ?_
  refine z_if_ne (tgt := 546) hC dL_law_531 (by decide) (by omega) (fun h_531 => ?_) (fun h_531 => ?_)
  · refine lv_goto (tgt := 1380) hC.1 hC.2.1 dL_law_546 (by decide) ?_
    refine W.widen (k := cells + 701) (n := slots + 11206) (by omega) (by omega) ?_
    exact kk _ _ _ _ _ _ _ _ _ _ _ hPM2 hJ3 hP hD hS (lv_sub hl [2, 3, 4, 5, 6] rfl)
  · refine lv_aload_n hC.1 hC.2.1 dL_law_534 rfl (lv_at hl 5 rfl) ?_
    refine lv_iconst (v := (nI 0)) hC.1 hC.2.1 dL_law_535 (by decide) ?_
    refine p_lald hC hE hP hJ3.2.2.1.1 hJ3.2.2.1.2 (by decide) (by decide) dL_law_536 ?_
    refine lv_iload hC.1 hC.2.1 dL_law_537 (lv_at hl 0 rfl) ?_
    refine lv_i2l hC.1 hC.2.1 dL_law_539 rfl ?_
    refine W.lcmp hC.1 hC.2.1 dL_law_540 ?_
    refine lv_if_eq (tgt := 546) hC.1 hC.2.1 dL_law_541 (by decide) (fun h_541 => ?_) (fun h_541 => absurd (lg0.mpr ((hv0 h_531).trans hok)) h_541)
    refine lv_goto (tgt := 1380) hC.1 hC.2.1 dL_law_546 (by decide) ?_
    refine W.widen (k := cells + 701) (n := slots + 11206) (by omega) (by omega) ?_
    exact kk _ _ _ _ _ _ _ _ _ _ _ hPM2 hJ3 hP hD hS (lv_sub hl [2, 3, 4, 5, 6] rfl)

set_option maxHeartbeats 4000000 in
set_option maxRecDepth 100000 in
theorem c_tidy {p : Program} {l : Launch} {e : Env} {s : State} {m : MethodId} {args : Array Value} {below : List Frame} {meth : Method} {c : Code} {Q : State → Prop} {D : va_G} {T : ClassId × ClassId × ClassId} {z0 : Nat} {hx g ln : Nat} {rw : Nat → Nat} {hm rs td sz wo : Nat} {rr tr : Nat → Nat} {o9 sc i cells slots : Nat} {Ln : Nat} {xs : Nat → Int32} (hst : l.stackTraces = false) (hC : CallFix p m c cL_law 9 s args wsL_law RL) (hE : zE D T z0 s) (hXw : xW s) (hYw : yW s) (hxs : va_X sc Ln xs s s.heap) (hsl : sc < s.heap.size) (hsz : ¬ zA z0 sc) (hLn : Ln ≤ 2048) (hi3 : i + 3 < Ln) (hcl : cells + 701 ≤ 601024) (hsl2 : slots + 11206 ≤ 7293034) (kk : LGO p l e s m args below meth c Q D T z0 hx g ln rw hm rs td sz wo rr tr o9 sc i (cells + 701) (slots + 11206) 1380) : LGO p l e s m args below meth c Q D T z0 hx g ln rw hm rs td sz wo rr tr o9 sc i cells slots 549 := by
  intro L f H locs cu th b mk wd gO ls hPM hJ hP hD hS hl
  obtain ⟨k, v, r, b2, mk2, wd2, mc, ms, hk4, hmc, hms, hPM2, hok, hL, hM⟩ := pr_tidy (D := D) (z0 := z0) l hst hJ hPM (xs (i + 1))
  refine lv_aload_n hC.1 hC.2.1 dL_law_549 rfl (lv_at hl 1 rfl) ?_
  refine lv_aload_n hC.1 hC.2.1 dL_law_550 rfl (lv_at hl 0 rfl) ?_
  refine lv_iload hC.1 hC.2.1 dL_law_551 (lv_at hl 4 rfl) ?_
  refine lv_iconst (v := (nI 1)) hC.1 hC.2.1 dL_law_553 (by decide) ?_
  refine z_iadd hC dL_law_554 ?_
  refine va_sld hC.1 hC.2.1 hxs hsl hsz hS (vp_in_nI (by omega) (by omega)) dL_law_555 ?_
  rw [nI_clamp (by omega : i + 1 < 2 ^ 31)]
  refine lv_aload_n hC.1 hC.2.1 dL_law_556 rfl (lv_at hl 3 rfl) ?_
  refine p_csHW (n := 3) hL hC hE hXw hYw hP hD hS gL_law_L_tidy rfl (by decide +kernel) rfl ⟨by decide, by decide⟩ ⟨by show _ ≤ 601024; omega, by show _ ≤ 7293034; omega⟩ hl.1 (Nat.le_of_ble_eq_true rfl) dL_law_557 rfl (fun o L2 f2 H locs hpost hP hD hS => ?_)
  obtain ⟨rfl, cu2, th2, gP, hJ2, hv0⟩ := hpost
  obtain ⟨Nn2, V2, hY2, -⟩ := id hJ2.2.1
  refine lv_istore (lv' := [(5, .int (nI k)), (0, .ref sc), (1, .ref hx), (2, .ref hm), (3, .ref o9), (4, .int (nI i))]) hC.1 hC.2.1 dL_law_560 hl (by decide) rfl (fun ls hl => ?_)
  refine lv_aload_n hC.1 hC.2.1 dL_law_562 rfl (lv_at hl 3 rfl) ?_
  refine lv_aload_n hC.1 hC.2.1 dL_law_563 rfl (lv_at hl 1 rfl) ?_
  refine lv_iload hC.1 hC.2.1 dL_law_564 (lv_at hl 5 rfl) ?_
  refine lv_iconst (v := (nI 1)) hC.1 hC.2.1 dL_law_566 (by decide) ?_
  refine z_iadd hC dL_law_567 ?_
  refine va_sld hC.1 hC.2.1 hxs hsl hsz hS (vp_in_nI (by omega) (by omega)) dL_law_568 ?_
  rw [nI_clamp (by omega : i + 1 < 2 ^ 31)]
  refine p_cvH (n := 1) (hM cu2 th2 _ _ gP hJ2) hC hE hP hD hS (hY2.1.1) (hY2.1.2) rfl gL_law_X1_tidy rfl (by decide +kernel) rfl ⟨by decide, by decide⟩ ⟨by show _ ≤ 601024; omega, by show _ ≤ 7293034; omega⟩ hl.1 (Nat.le_of_ble_eq_true rfl) dL_law_569 rfl (fun o L3 f3 H locs hpost hP hD hS => ?_)
  obtain ⟨rfl, cu3, hJ3⟩ := hpost
  obtain ⟨Nn3, V3, hY3, -⟩ := id hJ3.2.1
  refine lv_istore (lv' := [(6, .int (r)), (5, .int (nI k)), (0, .ref sc), (1, .ref hx), (2, .ref hm), (3, .ref o9), (4, .int (nI i))]) hC.1 hC.2.1 dL_law_572 hl (by decide) rfl (fun ls hl => ?_)
  refine lv_aload_n hC.1 hC.2.1 dL_law_574 rfl (lv_at hl 4 rfl) ?_
  refine p_cvB (n := 0) (m_thrown l hY3) hC hE hP hD hS (hY3.1.1) (hY3.1.2) rfl gL_law_X1_thrown rfl (by decide +kernel) rfl ⟨by decide, by decide⟩ ⟨by show _ ≤ 601024; omega, by show _ ≤ 7293034; omega⟩ hl.1 (Nat.le_of_ble_eq_true rfl) dL_law_575 rfl ?_
  refine lv_iload hC.1 hC.2.1 dL_law_578 (lv_at hl 1 rfl) ?_
  refine lv_icmp_eq (tgt := 585) hC.1 hC.2.1 dL_law_580 (by decide) (fun h_580 => ?_) (fun h_580 => absurd rfl h_580)
  refine lv_iload hC.1 hC.2.1 dL_law_585 (lv_at hl 1 rfl) ?_
  refine z_if_ne (tgt := 602) hC dL_law_587 (by decide) (by omega) (fun h_587 => ?_) (fun h_587 => ?_)
  · refine lv_goto (tgt := 1380) hC.1 hC.2.1 dL_law_602 (by decide) ?_
    refine W.widen (k := cells + 701) (n := slots + 11206) (by omega) (by omega) ?_
    exact kk _ _ _ _ _ _ _ _ _ _ _ hPM2 hJ3 hP hD hS (lv_sub hl [2, 3, 4, 5, 6] rfl)
  · refine lv_aload_n hC.1 hC.2.1 dL_law_590 rfl (lv_at hl 5 rfl) ?_
    refine lv_iconst (v := (nI 0)) hC.1 hC.2.1 dL_law_591 (by decide) ?_
    refine p_lald hC hE hP hJ3.2.2.1.1 hJ3.2.2.1.2 (by decide) (by decide) dL_law_592 ?_
    refine lv_iload hC.1 hC.2.1 dL_law_593 (lv_at hl 0 rfl) ?_
    refine lv_i2l hC.1 hC.2.1 dL_law_595 rfl ?_
    refine W.lcmp hC.1 hC.2.1 dL_law_596 ?_
    refine lv_if_eq (tgt := 602) hC.1 hC.2.1 dL_law_597 (by decide) (fun h_597 => ?_) (fun h_597 => absurd (lg0.mpr ((hv0 h_587).trans hok)) h_597)
    refine lv_goto (tgt := 1380) hC.1 hC.2.1 dL_law_602 (by decide) ?_
    refine W.widen (k := cells + 701) (n := slots + 11206) (by omega) (by omega) ?_
    exact kk _ _ _ _ _ _ _ _ _ _ _ hPM2 hJ3 hP hD hS (lv_sub hl [2, 3, 4, 5, 6] rfl)

set_option maxHeartbeats 4000000 in
set_option maxRecDepth 100000 in
theorem c_told {p : Program} {l : Launch} {e : Env} {s : State} {m : MethodId} {args : Array Value} {below : List Frame} {meth : Method} {c : Code} {Q : State → Prop} {D : va_G} {T : ClassId × ClassId × ClassId} {z0 : Nat} {hx g ln : Nat} {rw : Nat → Nat} {hm rs td sz wo : Nat} {rr tr : Nat → Nat} {o9 sc i cells slots : Nat} {Ln : Nat} {xs : Nat → Int32} (hst : l.stackTraces = false) (hC : CallFix p m c cL_law 9 s args wsL_law RL) (hE : zE D T z0 s) (hXw : xW s) (hYw : yW s) (hxs : va_X sc Ln xs s s.heap) (hsl : sc < s.heap.size) (hsz : ¬ zA z0 sc) (hLn : Ln ≤ 2048) (hi3 : i + 3 < Ln) (hcl : cells + 701 ≤ 601024) (hsl2 : slots + 11206 ≤ 7293034) (kk : LGO p l e s m args below meth c Q D T z0 hx g ln rw hm rs td sz wo rr tr o9 sc i (cells + 701) (slots + 11206) 1380) : LGO p l e s m args below meth c Q D T z0 hx g ln rw hm rs td sz wo rr tr o9 sc i cells slots 605 := by
  intro L f H locs cu th b mk wd gO ls hPM hJ hP hD hS hl
  obtain ⟨k, v, r, b2, mk2, wd2, mc, ms, hk4, hmc, hms, hPM2, hok, hL, hM⟩ := pr_told (D := D) (z0 := z0) l hst hJ hPM (xs (i + 1)) (xs (i + 2))
  refine lv_aload_n hC.1 hC.2.1 dL_law_605 rfl (lv_at hl 1 rfl) ?_
  refine lv_aload_n hC.1 hC.2.1 dL_law_606 rfl (lv_at hl 0 rfl) ?_
  refine lv_iload hC.1 hC.2.1 dL_law_607 (lv_at hl 4 rfl) ?_
  refine lv_iconst (v := (nI 1)) hC.1 hC.2.1 dL_law_609 (by decide) ?_
  refine z_iadd hC dL_law_610 ?_
  refine va_sld hC.1 hC.2.1 hxs hsl hsz hS (vp_in_nI (by omega) (by omega)) dL_law_611 ?_
  rw [nI_clamp (by omega : i + 1 < 2 ^ 31)]
  refine lv_aload_n hC.1 hC.2.1 dL_law_612 rfl (lv_at hl 0 rfl) ?_
  refine lv_iload hC.1 hC.2.1 dL_law_613 (lv_at hl 4 rfl) ?_
  refine lv_iconst (v := (nI 2)) hC.1 hC.2.1 dL_law_615 (by decide) ?_
  refine z_iadd hC dL_law_616 ?_
  refine va_sld hC.1 hC.2.1 hxs hsl hsz hS (vp_in_nI (by omega) (by omega)) dL_law_617 ?_
  rw [nI_clamp (by omega : i + 2 < 2 ^ 31)]
  refine lv_aload_n hC.1 hC.2.1 dL_law_618 rfl (lv_at hl 3 rfl) ?_
  refine p_csHW (n := 4) hL hC hE hXw hYw hP hD hS gL_law_L_told rfl (by decide +kernel) rfl ⟨by decide, by decide⟩ ⟨by show _ ≤ 601024; omega, by show _ ≤ 7293034; omega⟩ hl.1 (Nat.le_of_ble_eq_true rfl) dL_law_619 rfl (fun o L2 f2 H locs hpost hP hD hS => ?_)
  obtain ⟨rfl, cu2, th2, gP, hJ2, hv0⟩ := hpost
  obtain ⟨Nn2, V2, hY2, -⟩ := id hJ2.2.1
  refine lv_istore (lv' := [(5, .int (nI k)), (0, .ref sc), (1, .ref hx), (2, .ref hm), (3, .ref o9), (4, .int (nI i))]) hC.1 hC.2.1 dL_law_622 hl (by decide) rfl (fun ls hl => ?_)
  refine lv_aload_n hC.1 hC.2.1 dL_law_624 rfl (lv_at hl 3 rfl) ?_
  refine lv_aload_n hC.1 hC.2.1 dL_law_625 rfl (lv_at hl 1 rfl) ?_
  refine lv_iload hC.1 hC.2.1 dL_law_626 (lv_at hl 5 rfl) ?_
  refine lv_iconst (v := (nI 1)) hC.1 hC.2.1 dL_law_628 (by decide) ?_
  refine z_iadd hC dL_law_629 ?_
  refine va_sld hC.1 hC.2.1 hxs hsl hsz hS (vp_in_nI (by omega) (by omega)) dL_law_630 ?_
  rw [nI_clamp (by omega : i + 1 < 2 ^ 31)]
  refine lv_aload_n hC.1 hC.2.1 dL_law_631 rfl (lv_at hl 1 rfl) ?_
  refine lv_iload hC.1 hC.2.1 dL_law_632 (lv_at hl 5 rfl) ?_
  refine lv_iconst (v := (nI 2)) hC.1 hC.2.1 dL_law_634 (by decide) ?_
  refine z_iadd hC dL_law_635 ?_
  refine va_sld hC.1 hC.2.1 hxs hsl hsz hS (vp_in_nI (by omega) (by omega)) dL_law_636 ?_
  rw [nI_clamp (by omega : i + 2 < 2 ^ 31)]
  refine p_cvH (n := 2) (hM cu2 th2 _ _ gP hJ2) hC hE hP hD hS (hY2.1.1) (hY2.1.2) rfl gL_law_X1_told rfl (by decide +kernel) rfl ⟨by decide, by decide⟩ ⟨by show _ ≤ 601024; omega, by show _ ≤ 7293034; omega⟩ hl.1 (Nat.le_of_ble_eq_true rfl) dL_law_637 rfl (fun o L3 f3 H locs hpost hP hD hS => ?_)
  obtain ⟨rfl, cu3, hJ3⟩ := hpost
  obtain ⟨Nn3, V3, hY3, -⟩ := id hJ3.2.1
  refine lv_istore (lv' := [(6, .int (r)), (5, .int (nI k)), (0, .ref sc), (1, .ref hx), (2, .ref hm), (3, .ref o9), (4, .int (nI i))]) hC.1 hC.2.1 dL_law_640 hl (by decide) rfl (fun ls hl => ?_)
  refine lv_aload_n hC.1 hC.2.1 dL_law_642 rfl (lv_at hl 4 rfl) ?_
  refine p_cvB (n := 0) (m_thrown l hY3) hC hE hP hD hS (hY3.1.1) (hY3.1.2) rfl gL_law_X1_thrown rfl (by decide +kernel) rfl ⟨by decide, by decide⟩ ⟨by show _ ≤ 601024; omega, by show _ ≤ 7293034; omega⟩ hl.1 (Nat.le_of_ble_eq_true rfl) dL_law_643 rfl ?_
  refine lv_iload hC.1 hC.2.1 dL_law_646 (lv_at hl 1 rfl) ?_
  refine lv_icmp_eq (tgt := 653) hC.1 hC.2.1 dL_law_648 (by decide) (fun h_648 => ?_) (fun h_648 => absurd rfl h_648)
  refine lv_iload hC.1 hC.2.1 dL_law_653 (lv_at hl 1 rfl) ?_
  refine z_if_ne (tgt := 670) hC dL_law_655 (by decide) (by omega) (fun h_655 => ?_) (fun h_655 => ?_)
  · refine lv_goto (tgt := 1380) hC.1 hC.2.1 dL_law_670 (by decide) ?_
    refine W.widen (k := cells + 701) (n := slots + 11206) (by omega) (by omega) ?_
    exact kk _ _ _ _ _ _ _ _ _ _ _ hPM2 hJ3 hP hD hS (lv_sub hl [2, 3, 4, 5, 6] rfl)
  · refine lv_aload_n hC.1 hC.2.1 dL_law_658 rfl (lv_at hl 5 rfl) ?_
    refine lv_iconst (v := (nI 0)) hC.1 hC.2.1 dL_law_659 (by decide) ?_
    refine p_lald hC hE hP hJ3.2.2.1.1 hJ3.2.2.1.2 (by decide) (by decide) dL_law_660 ?_
    refine lv_iload hC.1 hC.2.1 dL_law_661 (lv_at hl 0 rfl) ?_
    refine lv_i2l hC.1 hC.2.1 dL_law_663 rfl ?_
    refine W.lcmp hC.1 hC.2.1 dL_law_664 ?_
    refine lv_if_eq (tgt := 670) hC.1 hC.2.1 dL_law_665 (by decide) (fun h_665 => ?_) (fun h_665 => absurd (lg0.mpr ((hv0 h_655).trans hok)) h_665)
    refine lv_goto (tgt := 1380) hC.1 hC.2.1 dL_law_670 (by decide) ?_
    refine W.widen (k := cells + 701) (n := slots + 11206) (by omega) (by omega) ?_
    exact kk _ _ _ _ _ _ _ _ _ _ _ hPM2 hJ3 hP hD hS (lv_sub hl [2, 3, 4, 5, 6] rfl)

set_option maxHeartbeats 4000000 in
set_option maxRecDepth 100000 in
theorem c_where {p : Program} {l : Launch} {e : Env} {s : State} {m : MethodId} {args : Array Value} {below : List Frame} {meth : Method} {c : Code} {Q : State → Prop} {D : va_G} {T : ClassId × ClassId × ClassId} {z0 : Nat} {hx g ln : Nat} {rw : Nat → Nat} {hm rs td sz wo : Nat} {rr tr : Nat → Nat} {o9 sc i cells slots : Nat} {Ln : Nat} {xs : Nat → Int32} (hst : l.stackTraces = false) (hC : CallFix p m c cL_law 9 s args wsL_law RL) (hE : zE D T z0 s) (hXw : xW s) (hYw : yW s) (hxs : va_X sc Ln xs s s.heap) (hsl : sc < s.heap.size) (hsz : ¬ zA z0 sc) (hLn : Ln ≤ 2048) (hi3 : i + 3 < Ln) (hcl : cells + 701 ≤ 601024) (hsl2 : slots + 11206 ≤ 7293034) (kk : LGO p l e s m args below meth c Q D T z0 hx g ln rw hm rs td sz wo rr tr o9 sc i (cells + 701) (slots + 11206) 1380) : LGO p l e s m args below meth c Q D T z0 hx g ln rw hm rs td sz wo rr tr o9 sc i cells slots 673 := by
  intro L f H locs cu th b mk wd gO ls hPM hJ hP hD hS hl
  obtain ⟨k, v, r, b2, mk2, wd2, mc, ms, hk4, hmc, hms, hPM2, hok, hL, hM⟩ := pr_where (D := D) (z0 := z0) l hst hJ hPM (xs (i + 1))
  refine lv_aload_n hC.1 hC.2.1 dL_law_673 rfl (lv_at hl 1 rfl) ?_
  refine lv_aload_n hC.1 hC.2.1 dL_law_674 rfl (lv_at hl 0 rfl) ?_
  refine lv_iload hC.1 hC.2.1 dL_law_675 (lv_at hl 4 rfl) ?_
  refine lv_iconst (v := (nI 1)) hC.1 hC.2.1 dL_law_677 (by decide) ?_
  refine z_iadd hC dL_law_678 ?_
  refine va_sld hC.1 hC.2.1 hxs hsl hsz hS (vp_in_nI (by omega) (by omega)) dL_law_679 ?_
  rw [nI_clamp (by omega : i + 1 < 2 ^ 31)]
  refine lv_aload_n hC.1 hC.2.1 dL_law_680 rfl (lv_at hl 3 rfl) ?_
  refine p_csHW (n := 3) hL hC hE hXw hYw hP hD hS gL_law_L_where rfl (by decide +kernel) rfl ⟨by decide, by decide⟩ ⟨by show _ ≤ 601024; omega, by show _ ≤ 7293034; omega⟩ hl.1 (Nat.le_of_ble_eq_true rfl) dL_law_681 rfl (fun o L2 f2 H locs hpost hP hD hS => ?_)
  obtain ⟨rfl, cu2, th2, gP, hJ2, hv0⟩ := hpost
  obtain ⟨Nn2, V2, hY2, -⟩ := id hJ2.2.1
  refine lv_istore (lv' := [(5, .int (nI k)), (0, .ref sc), (1, .ref hx), (2, .ref hm), (3, .ref o9), (4, .int (nI i))]) hC.1 hC.2.1 dL_law_684 hl (by decide) rfl (fun ls hl => ?_)
  refine lv_aload_n hC.1 hC.2.1 dL_law_686 rfl (lv_at hl 3 rfl) ?_
  refine lv_aload_n hC.1 hC.2.1 dL_law_687 rfl (lv_at hl 1 rfl) ?_
  refine lv_iload hC.1 hC.2.1 dL_law_688 (lv_at hl 5 rfl) ?_
  refine lv_iconst (v := (nI 1)) hC.1 hC.2.1 dL_law_690 (by decide) ?_
  refine z_iadd hC dL_law_691 ?_
  refine va_sld hC.1 hC.2.1 hxs hsl hsz hS (vp_in_nI (by omega) (by omega)) dL_law_692 ?_
  rw [nI_clamp (by omega : i + 1 < 2 ^ 31)]
  refine p_cvH (n := 1) (hM cu2 th2 _ _ gP hJ2) hC hE hP hD hS (hY2.1.1) (hY2.1.2) rfl gL_law_X1_where rfl (by decide +kernel) rfl ⟨by decide, by decide⟩ ⟨by show _ ≤ 601024; omega, by show _ ≤ 7293034; omega⟩ hl.1 (Nat.le_of_ble_eq_true rfl) dL_law_693 rfl (fun o L3 f3 H locs hpost hP hD hS => ?_)
  obtain ⟨rfl, cu3, hJ3⟩ := hpost
  obtain ⟨Nn3, V3, hY3, -⟩ := id hJ3.2.1
  refine lv_istore (lv' := [(6, .int (r)), (5, .int (nI k)), (0, .ref sc), (1, .ref hx), (2, .ref hm), (3, .ref o9), (4, .int (nI i))]) hC.1 hC.2.1 dL_law_696 hl (by decide) rfl (fun ls hl => ?_)
  refine lv_aload_n hC.1 hC.2.1 dL_law_698 rfl (lv_at hl 4 rfl) ?_
  refine p_cvB (n := 0) (m_thrown l hY3) hC hE hP hD hS (hY3.1.1) (hY3.1.2) rfl gL_law_X1_thrown rfl (by decide +kernel) rfl ⟨by decide, by decide⟩ ⟨by show _ ≤ 601024; omega, by show _ ≤ 7293034; omega⟩ hl.1 (Nat.le_of_ble_eq_true rfl) dL_law_699 rfl ?_
  refine lv_iload hC.1 hC.2.1 dL_law_702 (lv_at hl 1 rfl) ?_
  refine lv_icmp_eq (tgt := 709) hC.1 hC.2.1 dL_law_704 (by decide) (fun h_704 => ?_) (fun h_704 => absurd rfl h_704)
  refine lv_iload hC.1 hC.2.1 dL_law_709 (lv_at hl 1 rfl) ?_
  refine z_if_ne (tgt := 726) hC dL_law_711 (by decide) (by omega) (fun h_711 => ?_) (fun h_711 => ?_)
  · refine lv_goto (tgt := 1380) hC.1 hC.2.1 dL_law_726 (by decide) ?_
    refine W.widen (k := cells + 701) (n := slots + 11206) (by omega) (by omega) ?_
    exact kk _ _ _ _ _ _ _ _ _ _ _ hPM2 hJ3 hP hD hS (lv_sub hl [2, 3, 4, 5, 6] rfl)
  · refine lv_aload_n hC.1 hC.2.1 dL_law_714 rfl (lv_at hl 5 rfl) ?_
    refine lv_iconst (v := (nI 0)) hC.1 hC.2.1 dL_law_715 (by decide) ?_
    refine p_lald hC hE hP hJ3.2.2.1.1 hJ3.2.2.1.2 (by decide) (by decide) dL_law_716 ?_
    refine lv_iload hC.1 hC.2.1 dL_law_717 (lv_at hl 0 rfl) ?_
    refine lv_i2l hC.1 hC.2.1 dL_law_719 rfl ?_
    refine W.lcmp hC.1 hC.2.1 dL_law_720 ?_
    refine lv_if_eq (tgt := 726) hC.1 hC.2.1 dL_law_721 (by decide) (fun h_721 => ?_) (fun h_721 => absurd (lg0.mpr ((hv0 h_711).trans hok)) h_721)
    refine lv_goto (tgt := 1380) hC.1 hC.2.1 dL_law_726 (by decide) ?_
    refine W.widen (k := cells + 701) (n := slots + 11206) (by omega) (by omega) ?_
    exact kk _ _ _ _ _ _ _ _ _ _ _ hPM2 hJ3 hP hD hS (lv_sub hl [2, 3, 4, 5, 6] rfl)

set_option maxHeartbeats 4000000 in
set_option maxRecDepth 100000 in
theorem c_count {p : Program} {l : Launch} {e : Env} {s : State} {m : MethodId} {args : Array Value} {below : List Frame} {meth : Method} {c : Code} {Q : State → Prop} {D : va_G} {T : ClassId × ClassId × ClassId} {z0 : Nat} {hx g ln : Nat} {rw : Nat → Nat} {hm rs td sz wo : Nat} {rr tr : Nat → Nat} {o9 sc i cells slots : Nat} {Ln : Nat} {xs : Nat → Int32} (hst : l.stackTraces = false) (hC : CallFix p m c cL_law 9 s args wsL_law RL) (hE : zE D T z0 s) (hXw : xW s) (hYw : yW s) (hxs : va_X sc Ln xs s s.heap) (hsl : sc < s.heap.size) (hsz : ¬ zA z0 sc) (hLn : Ln ≤ 2048) (hi3 : i + 3 < Ln) (hcl : cells + 701 ≤ 601024) (hsl2 : slots + 11206 ≤ 7293034) (kk : LGO p l e s m args below meth c Q D T z0 hx g ln rw hm rs td sz wo rr tr o9 sc i (cells + 701) (slots + 11206) 1380) : LGO p l e s m args below meth c Q D T z0 hx g ln rw hm rs td sz wo rr tr o9 sc i cells slots 729 := by
  intro L f H locs cu th b mk wd gO ls hPM hJ hP hD hS hl
  obtain ⟨k, v, r, b2, mk2, wd2, mc, ms, hk4, hmc, hms, hPM2, hok, hL, hM⟩ := pr_count (D := D) (z0 := z0) l hst hJ hPM (xs (i + 1))
  refine lv_aload_n hC.1 hC.2.1 dL_law_729 rfl (lv_at hl 1 rfl) ?_
  refine lv_aload_n hC.1 hC.2.1 dL_law_730 rfl (lv_at hl 0 rfl) ?_
  refine lv_iload hC.1 hC.2.1 dL_law_731 (lv_at hl 4 rfl) ?_
  refine lv_iconst (v := (nI 1)) hC.1 hC.2.1 dL_law_733 (by decide) ?_
  refine z_iadd hC dL_law_734 ?_
  refine va_sld hC.1 hC.2.1 hxs hsl hsz hS (vp_in_nI (by omega) (by omega)) dL_law_735 ?_
  rw [nI_clamp (by omega : i + 1 < 2 ^ 31)]
  refine lv_aload_n hC.1 hC.2.1 dL_law_736 rfl (lv_at hl 3 rfl) ?_
  refine p_csHW (n := 3) hL hC hE hXw hYw hP hD hS gL_law_L_count rfl (by decide +kernel) rfl ⟨by decide, by decide⟩ ⟨by show _ ≤ 601024; omega, by show _ ≤ 7293034; omega⟩ hl.1 (Nat.le_of_ble_eq_true rfl) dL_law_737 rfl (fun o L2 f2 H locs hpost hP hD hS => ?_)
  obtain ⟨rfl, cu2, th2, gP, hJ2, hv0⟩ := hpost
  obtain ⟨Nn2, V2, hY2, -⟩ := id hJ2.2.1
  refine lv_istore (lv' := [(5, .int (nI k)), (0, .ref sc), (1, .ref hx), (2, .ref hm), (3, .ref o9), (4, .int (nI i))]) hC.1 hC.2.1 dL_law_740 hl (by decide) rfl (fun ls hl => ?_)
  refine lv_aload_n hC.1 hC.2.1 dL_law_742 rfl (lv_at hl 3 rfl) ?_
  refine lv_aload_n hC.1 hC.2.1 dL_law_743 rfl (lv_at hl 1 rfl) ?_
  refine lv_iload hC.1 hC.2.1 dL_law_744 (lv_at hl 5 rfl) ?_
  refine lv_iconst (v := (nI 1)) hC.1 hC.2.1 dL_law_746 (by decide) ?_
  refine z_iadd hC dL_law_747 ?_
  refine va_sld hC.1 hC.2.1 hxs hsl hsz hS (vp_in_nI (by omega) (by omega)) dL_law_748 ?_
  rw [nI_clamp (by omega : i + 1 < 2 ^ 31)]
  refine p_cvH (n := 1) (hM cu2 th2 _ _ gP hJ2) hC hE hP hD hS (hY2.1.1) (hY2.1.2) rfl gL_law_X1_count rfl (by decide +kernel) rfl ⟨by decide, by decide⟩ ⟨by show _ ≤ 601024; omega, by show _ ≤ 7293034; omega⟩ hl.1 (Nat.le_of_ble_eq_true rfl) dL_law_749 rfl (fun o L3 f3 H locs hpost hP hD hS => ?_)
  obtain ⟨rfl, cu3, hJ3⟩ := hpost
  obtain ⟨Nn3, V3, hY3, -⟩ := id hJ3.2.1
  refine lv_istore (lv' := [(6, .int (r)), (5, .int (nI k)), (0, .ref sc), (1, .ref hx), (2, .ref hm), (3, .ref o9), (4, .int (nI i))]) hC.1 hC.2.1 dL_law_752 hl (by decide) rfl (fun ls hl => ?_)
  refine lv_aload_n hC.1 hC.2.1 dL_law_754 rfl (lv_at hl 4 rfl) ?_
  refine p_cvB (n := 0) (m_thrown l hY3) hC hE hP hD hS (hY3.1.1) (hY3.1.2) rfl gL_law_X1_thrown rfl (by decide +kernel) rfl ⟨by decide, by decide⟩ ⟨by show _ ≤ 601024; omega, by show _ ≤ 7293034; omega⟩ hl.1 (Nat.le_of_ble_eq_true rfl) dL_law_755 rfl ?_
  refine lv_iload hC.1 hC.2.1 dL_law_758 (lv_at hl 1 rfl) ?_
  refine lv_icmp_eq (tgt := 765) hC.1 hC.2.1 dL_law_760 (by decide) (fun h_760 => ?_) (fun h_760 => absurd rfl h_760)
  refine lv_iload hC.1 hC.2.1 dL_law_765 (lv_at hl 1 rfl) ?_
  refine z_if_ne (tgt := 782) hC dL_law_767 (by decide) (by omega) (fun h_767 => ?_) (fun h_767 => ?_)
  · refine lv_goto (tgt := 1380) hC.1 hC.2.1 dL_law_782 (by decide) ?_
    refine W.widen (k := cells + 701) (n := slots + 11206) (by omega) (by omega) ?_
    exact kk _ _ _ _ _ _ _ _ _ _ _ hPM2 hJ3 hP hD hS (lv_sub hl [2, 3, 4, 5, 6] rfl)
  · refine lv_aload_n hC.1 hC.2.1 dL_law_770 rfl (lv_at hl 5 rfl) ?_
    refine lv_iconst (v := (nI 0)) hC.1 hC.2.1 dL_law_771 (by decide) ?_
    refine p_lald hC hE hP hJ3.2.2.1.1 hJ3.2.2.1.2 (by decide) (by decide) dL_law_772 ?_
    refine lv_iload hC.1 hC.2.1 dL_law_773 (lv_at hl 0 rfl) ?_
    refine lv_i2l hC.1 hC.2.1 dL_law_775 rfl ?_
    refine W.lcmp hC.1 hC.2.1 dL_law_776 ?_
    refine lv_if_eq (tgt := 782) hC.1 hC.2.1 dL_law_777 (by decide) (fun h_777 => ?_) (fun h_777 => absurd (lg0.mpr ((hv0 h_767).trans hok)) h_777)
    refine lv_goto (tgt := 1380) hC.1 hC.2.1 dL_law_782 (by decide) ?_
    refine W.widen (k := cells + 701) (n := slots + 11206) (by omega) (by omega) ?_
    exact kk _ _ _ _ _ _ _ _ _ _ _ hPM2 hJ3 hP hD hS (lv_sub hl [2, 3, 4, 5, 6] rfl)

set_option maxHeartbeats 4000000 in
set_option maxRecDepth 100000 in
theorem c_word {p : Program} {l : Launch} {e : Env} {s : State} {m : MethodId} {args : Array Value} {below : List Frame} {meth : Method} {c : Code} {Q : State → Prop} {D : va_G} {T : ClassId × ClassId × ClassId} {z0 : Nat} {hx g ln : Nat} {rw : Nat → Nat} {hm rs td sz wo : Nat} {rr tr : Nat → Nat} {o9 sc i cells slots : Nat} {Ln : Nat} {xs : Nat → Int32} (hst : l.stackTraces = false) (hC : CallFix p m c cL_law 9 s args wsL_law RL) (hE : zE D T z0 s) (hXw : xW s) (hYw : yW s) (hxs : va_X sc Ln xs s s.heap) (hsl : sc < s.heap.size) (hsz : ¬ zA z0 sc) (hLn : Ln ≤ 2048) (hi3 : i + 3 < Ln) (hcl : cells + 701 ≤ 601024) (hsl2 : slots + 11206 ≤ 7293034) (kk : LGO p l e s m args below meth c Q D T z0 hx g ln rw hm rs td sz wo rr tr o9 sc i (cells + 701) (slots + 11206) 1380) : LGO p l e s m args below meth c Q D T z0 hx g ln rw hm rs td sz wo rr tr o9 sc i cells slots 785 := by
  intro L f H locs cu th b mk wd gO ls hPM hJ hP hD hS hl
  obtain ⟨k, v, r, b2, mk2, wd2, mc, ms, hk4, hmc, hms, hPM2, hok, hL, hM⟩ := pr_word (D := D) (z0 := z0) l hst hJ hPM (xs (i + 1)) (xs (i + 2))
  refine lv_aload_n hC.1 hC.2.1 dL_law_785 rfl (lv_at hl 1 rfl) ?_
  refine lv_aload_n hC.1 hC.2.1 dL_law_786 rfl (lv_at hl 0 rfl) ?_
  refine lv_iload hC.1 hC.2.1 dL_law_787 (lv_at hl 4 rfl) ?_
  refine lv_iconst (v := (nI 1)) hC.1 hC.2.1 dL_law_789 (by decide) ?_
  refine z_iadd hC dL_law_790 ?_
  refine va_sld hC.1 hC.2.1 hxs hsl hsz hS (vp_in_nI (by omega) (by omega)) dL_law_791 ?_
  rw [nI_clamp (by omega : i + 1 < 2 ^ 31)]
  refine lv_aload_n hC.1 hC.2.1 dL_law_792 rfl (lv_at hl 0 rfl) ?_
  refine lv_iload hC.1 hC.2.1 dL_law_793 (lv_at hl 4 rfl) ?_
  refine lv_iconst (v := (nI 2)) hC.1 hC.2.1 dL_law_795 (by decide) ?_
  refine z_iadd hC dL_law_796 ?_
  refine va_sld hC.1 hC.2.1 hxs hsl hsz hS (vp_in_nI (by omega) (by omega)) dL_law_797 ?_
  rw [nI_clamp (by omega : i + 2 < 2 ^ 31)]
  refine lv_aload_n hC.1 hC.2.1 dL_law_798 rfl (lv_at hl 3 rfl) ?_
  refine p_csHW (n := 4) hL hC hE hXw hYw hP hD hS gL_law_L_word rfl (by decide +kernel) rfl ⟨by decide, by decide⟩ ⟨by show _ ≤ 601024; omega, by show _ ≤ 7293034; omega⟩ hl.1 (Nat.le_of_ble_eq_true rfl) dL_law_799 rfl (fun o L2 f2 H locs hpost hP hD hS => ?_)
  obtain ⟨rfl, cu2, th2, gP, hJ2, hv0⟩ := hpost
  obtain ⟨Nn2, V2, hY2, -⟩ := id hJ2.2.1
  refine lv_istore (lv' := [(5, .int (nI k)), (0, .ref sc), (1, .ref hx), (2, .ref hm), (3, .ref o9), (4, .int (nI i))]) hC.1 hC.2.1 dL_law_802 hl (by decide) rfl (fun ls hl => ?_)
  refine lv_aload_n hC.1 hC.2.1 dL_law_804 rfl (lv_at hl 3 rfl) ?_
  refine lv_aload_n hC.1 hC.2.1 dL_law_805 rfl (lv_at hl 1 rfl) ?_
  refine lv_iload hC.1 hC.2.1 dL_law_806 (lv_at hl 5 rfl) ?_
  refine lv_iconst (v := (nI 1)) hC.1 hC.2.1 dL_law_808 (by decide) ?_
  refine z_iadd hC dL_law_809 ?_
  refine va_sld hC.1 hC.2.1 hxs hsl hsz hS (vp_in_nI (by omega) (by omega)) dL_law_810 ?_
  rw [nI_clamp (by omega : i + 1 < 2 ^ 31)]
  refine lv_aload_n hC.1 hC.2.1 dL_law_811 rfl (lv_at hl 1 rfl) ?_
  refine lv_iload hC.1 hC.2.1 dL_law_812 (lv_at hl 5 rfl) ?_
  refine lv_iconst (v := (nI 2)) hC.1 hC.2.1 dL_law_814 (by decide) ?_
  refine z_iadd hC dL_law_815 ?_
  refine va_sld hC.1 hC.2.1 hxs hsl hsz hS (vp_in_nI (by omega) (by omega)) dL_law_816 ?_
  rw [nI_clamp (by omega : i + 2 < 2 ^ 31)]
  refine p_cvH (n := 2) (hM cu2 th2 _ _ gP hJ2) hC hE hP hD hS (hY2.1.1) (hY2.1.2) rfl gL_law_X1_word rfl (by decide +kernel) rfl ⟨by decide, by decide⟩ ⟨by show _ ≤ 601024; omega, by show _ ≤ 7293034; omega⟩ hl.1 (Nat.le_of_ble_eq_true rfl) dL_law_817 rfl (fun o L3 f3 H locs hpost hP hD hS => ?_)
  obtain ⟨rfl, cu3, hJ3⟩ := hpost
  obtain ⟨Nn3, V3, hY3, -⟩ := id hJ3.2.1
  refine lv_istore (lv' := [(6, .int (r)), (5, .int (nI k)), (0, .ref sc), (1, .ref hx), (2, .ref hm), (3, .ref o9), (4, .int (nI i))]) hC.1 hC.2.1 dL_law_820 hl (by decide) rfl (fun ls hl => ?_)
  refine lv_aload_n hC.1 hC.2.1 dL_law_822 rfl (lv_at hl 4 rfl) ?_
  refine p_cvB (n := 0) (m_thrown l hY3) hC hE hP hD hS (hY3.1.1) (hY3.1.2) rfl gL_law_X1_thrown rfl (by decide +kernel) rfl ⟨by decide, by decide⟩ ⟨by show _ ≤ 601024; omega, by show _ ≤ 7293034; omega⟩ hl.1 (Nat.le_of_ble_eq_true rfl) dL_law_823 rfl ?_
  refine lv_iload hC.1 hC.2.1 dL_law_826 (lv_at hl 1 rfl) ?_
  refine lv_icmp_eq (tgt := 833) hC.1 hC.2.1 dL_law_828 (by decide) (fun h_828 => ?_) (fun h_828 => absurd rfl h_828)
  refine lv_iload hC.1 hC.2.1 dL_law_833 (lv_at hl 1 rfl) ?_
  refine z_if_ne (tgt := 850) hC dL_law_835 (by decide) (by omega) (fun h_835 => ?_) (fun h_835 => ?_)
  · refine lv_goto (tgt := 1380) hC.1 hC.2.1 dL_law_850 (by decide) ?_
    refine W.widen (k := cells + 701) (n := slots + 11206) (by omega) (by omega) ?_
    exact kk _ _ _ _ _ _ _ _ _ _ _ hPM2 hJ3 hP hD hS (lv_sub hl [2, 3, 4, 5, 6] rfl)
  · refine lv_aload_n hC.1 hC.2.1 dL_law_838 rfl (lv_at hl 5 rfl) ?_
    refine lv_iconst (v := (nI 0)) hC.1 hC.2.1 dL_law_839 (by decide) ?_
    refine p_lald hC hE hP hJ3.2.2.1.1 hJ3.2.2.1.2 (by decide) (by decide) dL_law_840 ?_
    refine lv_iload hC.1 hC.2.1 dL_law_841 (lv_at hl 0 rfl) ?_
    refine lv_i2l hC.1 hC.2.1 dL_law_843 rfl ?_
    refine W.lcmp hC.1 hC.2.1 dL_law_844 ?_
    refine lv_if_eq (tgt := 850) hC.1 hC.2.1 dL_law_845 (by decide) (fun h_845 => ?_) (fun h_845 => absurd (lg0.mpr ((hv0 h_835).trans hok)) h_845)
    refine lv_goto (tgt := 1380) hC.1 hC.2.1 dL_law_850 (by decide) ?_
    refine W.widen (k := cells + 701) (n := slots + 11206) (by omega) (by omega) ?_
    exact kk _ _ _ _ _ _ _ _ _ _ _ hPM2 hJ3 hP hD hS (lv_sub hl [2, 3, 4, 5, 6] rfl)

set_option maxHeartbeats 4000000 in
set_option maxRecDepth 100000 in
theorem c_at {p : Program} {l : Launch} {e : Env} {s : State} {m : MethodId} {args : Array Value} {below : List Frame} {meth : Method} {c : Code} {Q : State → Prop} {D : va_G} {T : ClassId × ClassId × ClassId} {z0 : Nat} {hx g ln : Nat} {rw : Nat → Nat} {hm rs td sz wo : Nat} {rr tr : Nat → Nat} {o9 sc i cells slots : Nat} {Ln : Nat} {xs : Nat → Int32} (hst : l.stackTraces = false) (hC : CallFix p m c cL_law 9 s args wsL_law RL) (hE : zE D T z0 s) (hXw : xW s) (hYw : yW s) (hxs : va_X sc Ln xs s s.heap) (hsl : sc < s.heap.size) (hsz : ¬ zA z0 sc) (hLn : Ln ≤ 2048) (hi3 : i + 3 < Ln) (hcl : cells + 701 ≤ 601024) (hsl2 : slots + 11206 ≤ 7293034) (kk : LGO p l e s m args below meth c Q D T z0 hx g ln rw hm rs td sz wo rr tr o9 sc i (cells + 701) (slots + 11206) 1380) : LGO p l e s m args below meth c Q D T z0 hx g ln rw hm rs td sz wo rr tr o9 sc i cells slots 853 := by
  intro L f H locs cu th b mk wd gO ls hPM hJ hP hD hS hl
  obtain ⟨k, v, r, b2, mk2, wd2, mc, ms, hk4, hmc, hms, hPM2, hok, hL, hM⟩ := pr_at (D := D) (z0 := z0) l hst hJ hPM (xs (i + 1)) (xs (i + 2))
  refine lv_aload_n hC.1 hC.2.1 dL_law_853 rfl (lv_at hl 1 rfl) ?_
  refine lv_aload_n hC.1 hC.2.1 dL_law_854 rfl (lv_at hl 0 rfl) ?_
  refine lv_iload hC.1 hC.2.1 dL_law_855 (lv_at hl 4 rfl) ?_
  refine lv_iconst (v := (nI 1)) hC.1 hC.2.1 dL_law_857 (by decide) ?_
  refine z_iadd hC dL_law_858 ?_
  refine va_sld hC.1 hC.2.1 hxs hsl hsz hS (vp_in_nI (by omega) (by omega)) dL_law_859 ?_
  rw [nI_clamp (by omega : i + 1 < 2 ^ 31)]
  refine lv_aload_n hC.1 hC.2.1 dL_law_860 rfl (lv_at hl 0 rfl) ?_
  refine lv_iload hC.1 hC.2.1 dL_law_861 (lv_at hl 4 rfl) ?_
  refine lv_iconst (v := (nI 2)) hC.1 hC.2.1 dL_law_863 (by decide) ?_
  refine z_iadd hC dL_law_864 ?_
  refine va_sld hC.1 hC.2.1 hxs hsl hsz hS (vp_in_nI (by omega) (by omega)) dL_law_865 ?_
  rw [nI_clamp (by omega : i + 2 < 2 ^ 31)]
  refine lv_aload_n hC.1 hC.2.1 dL_law_866 rfl (lv_at hl 3 rfl) ?_
  refine p_csHW (n := 4) hL hC hE hXw hYw hP hD hS gL_law_L_at rfl (by decide +kernel) rfl ⟨by decide, by decide⟩ ⟨by show _ ≤ 601024; omega, by show _ ≤ 7293034; omega⟩ hl.1 (Nat.le_of_ble_eq_true rfl) dL_law_867 rfl (fun o L2 f2 H locs hpost hP hD hS => ?_)
  obtain ⟨rfl, cu2, th2, gP, hJ2, hv0⟩ := hpost
  obtain ⟨Nn2, V2, hY2, -⟩ := id hJ2.2.1
  refine lv_istore (lv' := [(5, .int (nI k)), (0, .ref sc), (1, .ref hx), (2, .ref hm), (3, .ref o9), (4, .int (nI i))]) hC.1 hC.2.1 dL_law_870 hl (by decide) rfl (fun ls hl => ?_)
  refine lv_aload_n hC.1 hC.2.1 dL_law_872 rfl (lv_at hl 3 rfl) ?_
  refine lv_aload_n hC.1 hC.2.1 dL_law_873 rfl (lv_at hl 1 rfl) ?_
  refine lv_iload hC.1 hC.2.1 dL_law_874 (lv_at hl 5 rfl) ?_
  refine lv_iconst (v := (nI 1)) hC.1 hC.2.1 dL_law_876 (by decide) ?_
  refine z_iadd hC dL_law_877 ?_
  refine va_sld hC.1 hC.2.1 hxs hsl hsz hS (vp_in_nI (by omega) (by omega)) dL_law_878 ?_
  rw [nI_clamp (by omega : i + 1 < 2 ^ 31)]
  refine lv_aload_n hC.1 hC.2.1 dL_law_879 rfl (lv_at hl 1 rfl) ?_
  refine lv_iload hC.1 hC.2.1 dL_law_880 (lv_at hl 5 rfl) ?_
  refine lv_iconst (v := (nI 2)) hC.1 hC.2.1 dL_law_882 (by decide) ?_
  refine z_iadd hC dL_law_883 ?_
  refine va_sld hC.1 hC.2.1 hxs hsl hsz hS (vp_in_nI (by omega) (by omega)) dL_law_884 ?_
  rw [nI_clamp (by omega : i + 2 < 2 ^ 31)]
  refine p_cvH (n := 2) (hM cu2 th2 _ _ gP hJ2) hC hE hP hD hS (hY2.1.1) (hY2.1.2) rfl gL_law_X1_at rfl (by decide +kernel) rfl ⟨by decide, by decide⟩ ⟨by show _ ≤ 601024; omega, by show _ ≤ 7293034; omega⟩ hl.1 (Nat.le_of_ble_eq_true rfl) dL_law_885 rfl (fun o L3 f3 H locs hpost hP hD hS => ?_)
  obtain ⟨rfl, cu3, hJ3⟩ := hpost
  obtain ⟨Nn3, V3, hY3, -⟩ := id hJ3.2.1
  refine lv_istore (lv' := [(6, .int (r)), (5, .int (nI k)), (0, .ref sc), (1, .ref hx), (2, .ref hm), (3, .ref o9), (4, .int (nI i))]) hC.1 hC.2.1 dL_law_888 hl (by decide) rfl (fun ls hl => ?_)
  refine lv_aload_n hC.1 hC.2.1 dL_law_890 rfl (lv_at hl 4 rfl) ?_
  refine p_cvB (n := 0) (m_thrown l hY3) hC hE hP hD hS (hY3.1.1) (hY3.1.2) rfl gL_law_X1_thrown rfl (by decide +kernel) rfl ⟨by decide, by decide⟩ ⟨by show _ ≤ 601024; omega, by show _ ≤ 7293034; omega⟩ hl.1 (Nat.le_of_ble_eq_true rfl) dL_law_891 rfl ?_
  refine lv_iload hC.1 hC.2.1 dL_law_894 (lv_at hl 1 rfl) ?_
  refine lv_icmp_eq (tgt := 901) hC.1 hC.2.1 dL_law_896 (by decide) (fun h_896 => ?_) (fun h_896 => absurd rfl h_896)
  refine lv_iload hC.1 hC.2.1 dL_law_901 (lv_at hl 1 rfl) ?_
  refine z_if_ne (tgt := 918) hC dL_law_903 (by decide) (by omega) (fun h_903 => ?_) (fun h_903 => ?_)
  · refine lv_goto (tgt := 1380) hC.1 hC.2.1 dL_law_918 (by decide) ?_
    refine W.widen (k := cells + 701) (n := slots + 11206) (by omega) (by omega) ?_
    exact kk _ _ _ _ _ _ _ _ _ _ _ hPM2 hJ3 hP hD hS (lv_sub hl [2, 3, 4, 5, 6] rfl)
  · refine lv_aload_n hC.1 hC.2.1 dL_law_906 rfl (lv_at hl 5 rfl) ?_
    refine lv_iconst (v := (nI 0)) hC.1 hC.2.1 dL_law_907 (by decide) ?_
    refine p_lald hC hE hP hJ3.2.2.1.1 hJ3.2.2.1.2 (by decide) (by decide) dL_law_908 ?_
    refine lv_iload hC.1 hC.2.1 dL_law_909 (lv_at hl 0 rfl) ?_
    refine lv_i2l hC.1 hC.2.1 dL_law_911 rfl ?_
    refine W.lcmp hC.1 hC.2.1 dL_law_912 ?_
    refine lv_if_eq (tgt := 918) hC.1 hC.2.1 dL_law_913 (by decide) (fun h_913 => ?_) (fun h_913 => absurd (lg0.mpr ((hv0 h_903).trans hok)) h_913)
    refine lv_goto (tgt := 1380) hC.1 hC.2.1 dL_law_918 (by decide) ?_
    refine W.widen (k := cells + 701) (n := slots + 11206) (by omega) (by omega) ?_
    exact kk _ _ _ _ _ _ _ _ _ _ _ hPM2 hJ3 hP hD hS (lv_sub hl [2, 3, 4, 5, 6] rfl)

set_option maxHeartbeats 4000000 in
set_option maxRecDepth 100000 in
theorem c_same {p : Program} {l : Launch} {e : Env} {s : State} {m : MethodId} {args : Array Value} {below : List Frame} {meth : Method} {c : Code} {Q : State → Prop} {D : va_G} {T : ClassId × ClassId × ClassId} {z0 : Nat} {hx g ln : Nat} {rw : Nat → Nat} {hm rs td sz wo : Nat} {rr tr : Nat → Nat} {o9 sc i cells slots : Nat} {Ln : Nat} {xs : Nat → Int32} (hst : l.stackTraces = false) (hC : CallFix p m c cL_law 9 s args wsL_law RL) (hE : zE D T z0 s) (hXw : xW s) (hYw : yW s) (hxs : va_X sc Ln xs s s.heap) (hsl : sc < s.heap.size) (hsz : ¬ zA z0 sc) (hLn : Ln ≤ 2048) (hi3 : i + 3 < Ln) (hcl : cells + 701 ≤ 601024) (hsl2 : slots + 11206 ≤ 7293034) (kk : LGO p l e s m args below meth c Q D T z0 hx g ln rw hm rs td sz wo rr tr o9 sc i (cells + 701) (slots + 11206) 1380) : LGO p l e s m args below meth c Q D T z0 hx g ln rw hm rs td sz wo rr tr o9 sc i cells slots 921 := by
  intro L f H locs cu th b mk wd gO ls hPM hJ hP hD hS hl
  obtain ⟨k, v, r, b2, mk2, wd2, mc, ms, hk4, hmc, hms, hPM2, hok, hL, hM⟩ := pr_same (D := D) (z0 := z0) l hst hJ hPM (xs (i + 1)) (xs (i + 2))
  obtain ⟨n9, hn9, rfl, hv9⟩ := hok
  refine lv_aload_n hC.1 hC.2.1 dL_law_921 rfl (lv_at hl 1 rfl) ?_
  refine lv_aload_n hC.1 hC.2.1 dL_law_922 rfl (lv_at hl 0 rfl) ?_
  refine lv_iload hC.1 hC.2.1 dL_law_923 (lv_at hl 4 rfl) ?_
  refine lv_iconst (v := (nI 1)) hC.1 hC.2.1 dL_law_925 (by decide) ?_
  refine z_iadd hC dL_law_926 ?_
  refine va_sld hC.1 hC.2.1 hxs hsl hsz hS (vp_in_nI (by omega) (by omega)) dL_law_927 ?_
  rw [nI_clamp (by omega : i + 1 < 2 ^ 31)]
  refine lv_aload_n hC.1 hC.2.1 dL_law_928 rfl (lv_at hl 0 rfl) ?_
  refine lv_iload hC.1 hC.2.1 dL_law_929 (lv_at hl 4 rfl) ?_
  refine lv_iconst (v := (nI 2)) hC.1 hC.2.1 dL_law_931 (by decide) ?_
  refine z_iadd hC dL_law_932 ?_
  refine va_sld hC.1 hC.2.1 hxs hsl hsz hS (vp_in_nI (by omega) (by omega)) dL_law_933 ?_
  rw [nI_clamp (by omega : i + 2 < 2 ^ 31)]
  refine lv_aload_n hC.1 hC.2.1 dL_law_934 rfl (lv_at hl 3 rfl) ?_
  refine p_csHW (n := 4) hL hC hE hXw hYw hP hD hS gL_law_L_same rfl (by decide +kernel) rfl ⟨by decide, by decide⟩ ⟨by show _ ≤ 601024; omega, by show _ ≤ 7293034; omega⟩ hl.1 (Nat.le_of_ble_eq_true rfl) dL_law_935 rfl (fun o L2 f2 H locs hpost hP hD hS => ?_)
  obtain ⟨rfl, cu2, th2, gP, hJ2, hv0⟩ := hpost
  obtain ⟨Nn2, V2, hY2, -⟩ := id hJ2.2.1
  refine lv_istore (lv' := [(5, .int (nI k)), (0, .ref sc), (1, .ref hx), (2, .ref hm), (3, .ref o9), (4, .int (nI i))]) hC.1 hC.2.1 dL_law_938 hl (by decide) rfl (fun ls hl => ?_)
  refine lv_aload_n hC.1 hC.2.1 dL_law_940 rfl (lv_at hl 3 rfl) ?_
  refine lv_aload_n hC.1 hC.2.1 dL_law_941 rfl (lv_at hl 1 rfl) ?_
  refine lv_iload hC.1 hC.2.1 dL_law_942 (lv_at hl 5 rfl) ?_
  refine lv_iconst (v := (nI 1)) hC.1 hC.2.1 dL_law_944 (by decide) ?_
  refine z_iadd hC dL_law_945 ?_
  refine va_sld hC.1 hC.2.1 hxs hsl hsz hS (vp_in_nI (by omega) (by omega)) dL_law_946 ?_
  rw [nI_clamp (by omega : i + 1 < 2 ^ 31)]
  refine lv_aload_n hC.1 hC.2.1 dL_law_947 rfl (lv_at hl 1 rfl) ?_
  refine lv_iload hC.1 hC.2.1 dL_law_948 (lv_at hl 5 rfl) ?_
  refine lv_iconst (v := (nI 2)) hC.1 hC.2.1 dL_law_950 (by decide) ?_
  refine z_iadd hC dL_law_951 ?_
  refine va_sld hC.1 hC.2.1 hxs hsl hsz hS (vp_in_nI (by omega) (by omega)) dL_law_952 ?_
  rw [nI_clamp (by omega : i + 2 < 2 ^ 31)]
  refine p_cvH (n := 2) (hM cu2 th2 _ _ gP hJ2) hC hE hP hD hS (hY2.1.1) (hY2.1.2) rfl gL_law_X1_same rfl (by decide +kernel) rfl ⟨by decide, by decide⟩ ⟨by show _ ≤ 601024; omega, by show _ ≤ 7293034; omega⟩ hl.1 (Nat.le_of_ble_eq_true rfl) dL_law_953 rfl (fun o L3 f3 H locs hpost hP hD hS => ?_)
  obtain ⟨rfl, cu3, hJ3⟩ := hpost
  obtain ⟨Nn3, V3, hY3, -⟩ := id hJ3.2.1
  refine lv_istore (lv' := [(6, .int (nI n9)), (5, .int (nI k)), (0, .ref sc), (1, .ref hx), (2, .ref hm), (3, .ref o9), (4, .int (nI i))]) hC.1 hC.2.1 dL_law_956 hl (by decide) rfl (fun ls hl => ?_)
  refine lv_aload_n hC.1 hC.2.1 dL_law_958 rfl (lv_at hl 4 rfl) ?_
  refine p_cvB (n := 0) (m_thrown l hY3) hC hE hP hD hS (hY3.1.1) (hY3.1.2) rfl gL_law_X1_thrown rfl (by decide +kernel) rfl ⟨by decide, by decide⟩ ⟨by show _ ≤ 601024; omega, by show _ ≤ 7293034; omega⟩ hl.1 (Nat.le_of_ble_eq_true rfl) dL_law_959 rfl ?_
  refine lv_iload hC.1 hC.2.1 dL_law_962 (lv_at hl 1 rfl) ?_
  refine lv_icmp_eq (tgt := 969) hC.1 hC.2.1 dL_law_964 (by decide) (fun h_964 => ?_) (fun h_964 => absurd rfl h_964)
  refine lv_iload hC.1 hC.2.1 dL_law_969 (lv_at hl 1 rfl) ?_
  refine z_if_ne (tgt := 993) hC dL_law_971 (by decide) (by omega) (fun h_971 => ?_) (fun h_971 => ?_)
  · refine lv_goto (tgt := 1380) hC.1 hC.2.1 dL_law_993 (by decide) ?_
    refine W.widen (k := cells + 701) (n := slots + 11206) (by omega) (by omega) ?_
    exact kk _ _ _ _ _ _ _ _ _ _ _ hPM2 hJ3 hP hD hS (lv_sub hl [2, 3, 4, 5, 6] rfl)
  · refine lv_aload_n hC.1 hC.2.1 dL_law_974 rfl (lv_at hl 5 rfl) ?_
    refine lv_iconst (v := (nI 0)) hC.1 hC.2.1 dL_law_975 (by decide) ?_
    refine p_lald hC hE hP hJ3.2.2.1.1 hJ3.2.2.1.2 (by decide) (by decide) dL_law_976 ?_
    refine lv_iload hC.1 hC.2.1 dL_law_977 (lv_at hl 0 rfl) ?_
    refine z_if_eq (tgt := 986) hC dL_law_979 (by decide) (by omega) (fun h_979 => ?_) (fun h_979 => ?_)
    · refine lv_lconst (v := 0) hC.1 hC.2.1 dL_law_986 (by decide) ?_
      refine W.lcmp hC.1 hC.2.1 dL_law_987 ?_
      refine lv_if_eq (tgt := 993) hC.1 hC.2.1 dL_law_988 (by decide) (fun h_988 => ?_) (fun h_988 => absurd (lg0.mpr ((hv0 h_971).trans (hv9.trans (if_pos h_979)))) h_988)
      refine lv_goto (tgt := 1380) hC.1 hC.2.1 dL_law_993 (by decide) ?_
      refine W.widen (k := cells + 701) (n := slots + 11206) (by omega) (by omega) ?_
      exact kk _ _ _ _ _ _ _ _ _ _ _ hPM2 hJ3 hP hD hS (lv_sub hl [2, 3, 4, 5, 6] rfl)
    · refine lv_lconst (v := 1) hC.1 hC.2.1 dL_law_982 (by decide) ?_
      refine lv_goto (tgt := 987) hC.1 hC.2.1 dL_law_983 (by decide) ?_
      refine W.lcmp hC.1 hC.2.1 dL_law_987 ?_
      refine lv_if_eq (tgt := 993) hC.1 hC.2.1 dL_law_988 (by decide) (fun h_988 => ?_) (fun h_988 => absurd (lg0.mpr ((hv0 h_971).trans (hv9.trans (if_neg h_979)))) h_988)
      refine lv_goto (tgt := 1380) hC.1 hC.2.1 dL_law_993 (by decide) ?_
      refine W.widen (k := cells + 701) (n := slots + 11206) (by omega) (by omega) ?_
      exact kk _ _ _ _ _ _ _ _ _ _ _ hPM2 hJ3 hP hD hS (lv_sub hl [2, 3, 4, 5, 6] rfl)

set_option maxHeartbeats 4000000 in
set_option maxRecDepth 100000 in
theorem c_mixed {p : Program} {l : Launch} {e : Env} {s : State} {m : MethodId} {args : Array Value} {below : List Frame} {meth : Method} {c : Code} {Q : State → Prop} {D : va_G} {T : ClassId × ClassId × ClassId} {z0 : Nat} {hx g ln : Nat} {rw : Nat → Nat} {hm rs td sz wo : Nat} {rr tr : Nat → Nat} {o9 sc i cells slots : Nat} {Ln : Nat} {xs : Nat → Int32} (hst : l.stackTraces = false) (hC : CallFix p m c cL_law 9 s args wsL_law RL) (hE : zE D T z0 s) (hXw : xW s) (hYw : yW s) (hxs : va_X sc Ln xs s s.heap) (hsl : sc < s.heap.size) (hsz : ¬ zA z0 sc) (hLn : Ln ≤ 2048) (hi3 : i + 3 < Ln) (hcl : cells + 701 ≤ 601024) (hsl2 : slots + 11206 ≤ 7293034) (kk : LGO p l e s m args below meth c Q D T z0 hx g ln rw hm rs td sz wo rr tr o9 sc i (cells + 701) (slots + 11206) 1380) : LGO p l e s m args below meth c Q D T z0 hx g ln rw hm rs td sz wo rr tr o9 sc i cells slots 996 := by
  intro L f H locs cu th b mk wd gO ls hPM hJ hP hD hS hl
  obtain ⟨k, v, r, b2, mk2, wd2, mc, ms, hk4, hmc, hms, hPM2, hok, hL, hM⟩ := pr_mixed (D := D) (z0 := z0) l hst hJ hPM (xs (i + 1)) (xs (i + 2))
  refine lv_aload_n hC.1 hC.2.1 dL_law_996 rfl (lv_at hl 1 rfl) ?_
  refine lv_aload_n hC.1 hC.2.1 dL_law_997 rfl (lv_at hl 0 rfl) ?_
  refine lv_iload hC.1 hC.2.1 dL_law_998 (lv_at hl 4 rfl) ?_
  refine lv_iconst (v := (nI 1)) hC.1 hC.2.1 dL_law_1000 (by decide) ?_
  refine z_iadd hC dL_law_1001 ?_
  refine va_sld hC.1 hC.2.1 hxs hsl hsz hS (vp_in_nI (by omega) (by omega)) dL_law_1002 ?_
  rw [nI_clamp (by omega : i + 1 < 2 ^ 31)]
  refine lv_aload_n hC.1 hC.2.1 dL_law_1003 rfl (lv_at hl 0 rfl) ?_
  refine lv_iload hC.1 hC.2.1 dL_law_1004 (lv_at hl 4 rfl) ?_
  refine lv_iconst (v := (nI 2)) hC.1 hC.2.1 dL_law_1006 (by decide) ?_
  refine z_iadd hC dL_law_1007 ?_
  refine va_sld hC.1 hC.2.1 hxs hsl hsz hS (vp_in_nI (by omega) (by omega)) dL_law_1008 ?_
  rw [nI_clamp (by omega : i + 2 < 2 ^ 31)]
  refine lv_aload_n hC.1 hC.2.1 dL_law_1009 rfl (lv_at hl 3 rfl) ?_
  refine p_csHW (n := 4) hL hC hE hXw hYw hP hD hS gL_law_L_mixed rfl (by decide +kernel) rfl ⟨by decide, by decide⟩ ⟨by show _ ≤ 601024; omega, by show _ ≤ 7293034; omega⟩ hl.1 (Nat.le_of_ble_eq_true rfl) dL_law_1010 rfl (fun o L2 f2 H locs hpost hP hD hS => ?_)
  obtain ⟨rfl, cu2, th2, gP, hJ2, hv0⟩ := hpost
  obtain ⟨Nn2, V2, hY2, -⟩ := id hJ2.2.1
  refine lv_istore (lv' := [(5, .int (nI k)), (0, .ref sc), (1, .ref hx), (2, .ref hm), (3, .ref o9), (4, .int (nI i))]) hC.1 hC.2.1 dL_law_1013 hl (by decide) rfl (fun ls hl => ?_)
  refine lv_aload_n hC.1 hC.2.1 dL_law_1015 rfl (lv_at hl 3 rfl) ?_
  refine lv_aload_n hC.1 hC.2.1 dL_law_1016 rfl (lv_at hl 1 rfl) ?_
  refine lv_iload hC.1 hC.2.1 dL_law_1017 (lv_at hl 5 rfl) ?_
  refine lv_iconst (v := (nI 1)) hC.1 hC.2.1 dL_law_1019 (by decide) ?_
  refine z_iadd hC dL_law_1020 ?_
  refine va_sld hC.1 hC.2.1 hxs hsl hsz hS (vp_in_nI (by omega) (by omega)) dL_law_1021 ?_
  rw [nI_clamp (by omega : i + 1 < 2 ^ 31)]
  refine lv_aload_n hC.1 hC.2.1 dL_law_1022 rfl (lv_at hl 1 rfl) ?_
  refine lv_iload hC.1 hC.2.1 dL_law_1023 (lv_at hl 5 rfl) ?_
  refine lv_iconst (v := (nI 2)) hC.1 hC.2.1 dL_law_1025 (by decide) ?_
  refine z_iadd hC dL_law_1026 ?_
  refine va_sld hC.1 hC.2.1 hxs hsl hsz hS (vp_in_nI (by omega) (by omega)) dL_law_1027 ?_
  rw [nI_clamp (by omega : i + 2 < 2 ^ 31)]
  refine p_cvH (n := 2) (hM cu2 th2 _ _ gP hJ2) hC hE hP hD hS (hY2.1.1) (hY2.1.2) rfl gL_law_X1_mixed rfl (by decide +kernel) rfl ⟨by decide, by decide⟩ ⟨by show _ ≤ 601024; omega, by show _ ≤ 7293034; omega⟩ hl.1 (Nat.le_of_ble_eq_true rfl) dL_law_1028 rfl (fun o L3 f3 H locs hpost hP hD hS => ?_)
  obtain ⟨rfl, cu3, hJ3⟩ := hpost
  obtain ⟨Nn3, V3, hY3, -⟩ := id hJ3.2.1
  refine lv_istore (lv' := [(6, .int (r)), (5, .int (nI k)), (0, .ref sc), (1, .ref hx), (2, .ref hm), (3, .ref o9), (4, .int (nI i))]) hC.1 hC.2.1 dL_law_1031 hl (by decide) rfl (fun ls hl => ?_)
  refine lv_aload_n hC.1 hC.2.1 dL_law_1033 rfl (lv_at hl 4 rfl) ?_
  refine p_cvB (n := 0) (m_thrown l hY3) hC hE hP hD hS (hY3.1.1) (hY3.1.2) rfl gL_law_X1_thrown rfl (by decide +kernel) rfl ⟨by decide, by decide⟩ ⟨by show _ ≤ 601024; omega, by show _ ≤ 7293034; omega⟩ hl.1 (Nat.le_of_ble_eq_true rfl) dL_law_1034 rfl ?_
  refine lv_iload hC.1 hC.2.1 dL_law_1037 (lv_at hl 1 rfl) ?_
  refine lv_icmp_eq (tgt := 1044) hC.1 hC.2.1 dL_law_1039 (by decide) (fun h_1039 => ?_) (fun h_1039 => absurd rfl h_1039)
  refine lv_iload hC.1 hC.2.1 dL_law_1044 (lv_at hl 1 rfl) ?_
  refine z_if_ne (tgt := 1061) hC dL_law_1046 (by decide) (by omega) (fun h_1046 => ?_) (fun h_1046 => ?_)
  · refine lv_goto (tgt := 1380) hC.1 hC.2.1 dL_law_1061 (by decide) ?_
    refine W.widen (k := cells + 701) (n := slots + 11206) (by omega) (by omega) ?_
    exact kk _ _ _ _ _ _ _ _ _ _ _ hPM2 hJ3 hP hD hS (lv_sub hl [2, 3, 4, 5, 6] rfl)
  · refine lv_aload_n hC.1 hC.2.1 dL_law_1049 rfl (lv_at hl 5 rfl) ?_
    refine lv_iconst (v := (nI 0)) hC.1 hC.2.1 dL_law_1050 (by decide) ?_
    refine p_lald hC hE hP hJ3.2.2.1.1 hJ3.2.2.1.2 (by decide) (by decide) dL_law_1051 ?_
    refine lv_iload hC.1 hC.2.1 dL_law_1052 (lv_at hl 0 rfl) ?_
    refine lv_i2l hC.1 hC.2.1 dL_law_1054 rfl ?_
    refine W.lcmp hC.1 hC.2.1 dL_law_1055 ?_
    refine lv_if_eq (tgt := 1061) hC.1 hC.2.1 dL_law_1056 (by decide) (fun h_1056 => ?_) (fun h_1056 => absurd (lg0.mpr ((hv0 h_1046).trans hok)) h_1056)
    refine lv_goto (tgt := 1380) hC.1 hC.2.1 dL_law_1061 (by decide) ?_
    refine W.widen (k := cells + 701) (n := slots + 11206) (by omega) (by omega) ?_
    exact kk _ _ _ _ _ _ _ _ _ _ _ hPM2 hJ3 hP hD hS (lv_sub hl [2, 3, 4, 5, 6] rfl)

set_option maxHeartbeats 4000000 in
set_option maxRecDepth 100000 in
theorem c_would {p : Program} {l : Launch} {e : Env} {s : State} {m : MethodId} {args : Array Value} {below : List Frame} {meth : Method} {c : Code} {Q : State → Prop} {D : va_G} {T : ClassId × ClassId × ClassId} {z0 : Nat} {hx g ln : Nat} {rw : Nat → Nat} {hm rs td sz wo : Nat} {rr tr : Nat → Nat} {o9 sc i cells slots : Nat} {Ln : Nat} {xs : Nat → Int32} (hst : l.stackTraces = false) (hC : CallFix p m c cL_law 9 s args wsL_law RL) (hE : zE D T z0 s) (hXw : xW s) (hYw : yW s) (hxs : va_X sc Ln xs s s.heap) (hsl : sc < s.heap.size) (hsz : ¬ zA z0 sc) (hLn : Ln ≤ 2048) (hi3 : i + 3 < Ln) (hcl : cells + 701 ≤ 601024) (hsl2 : slots + 11206 ≤ 7293034) (kk : LGO p l e s m args below meth c Q D T z0 hx g ln rw hm rs td sz wo rr tr o9 sc i (cells + 701) (slots + 11206) 1380) : LGO p l e s m args below meth c Q D T z0 hx g ln rw hm rs td sz wo rr tr o9 sc i cells slots 1064 := by
  intro L f H locs cu th b mk wd gO ls hPM hJ hP hD hS hl
  obtain ⟨k, v, r, b2, mk2, wd2, mc, ms, hk4, hmc, hms, hPM2, hok, hL, hM⟩ := pr_would (D := D) (z0 := z0) l hst hJ hPM (xs (i + 1)) (xs (i + 2))
  refine lv_aload_n hC.1 hC.2.1 dL_law_1064 rfl (lv_at hl 1 rfl) ?_
  refine lv_aload_n hC.1 hC.2.1 dL_law_1065 rfl (lv_at hl 0 rfl) ?_
  refine lv_iload hC.1 hC.2.1 dL_law_1066 (lv_at hl 4 rfl) ?_
  refine lv_iconst (v := (nI 1)) hC.1 hC.2.1 dL_law_1068 (by decide) ?_
  refine z_iadd hC dL_law_1069 ?_
  refine va_sld hC.1 hC.2.1 hxs hsl hsz hS (vp_in_nI (by omega) (by omega)) dL_law_1070 ?_
  rw [nI_clamp (by omega : i + 1 < 2 ^ 31)]
  refine lv_aload_n hC.1 hC.2.1 dL_law_1071 rfl (lv_at hl 0 rfl) ?_
  refine lv_iload hC.1 hC.2.1 dL_law_1072 (lv_at hl 4 rfl) ?_
  refine lv_iconst (v := (nI 2)) hC.1 hC.2.1 dL_law_1074 (by decide) ?_
  refine z_iadd hC dL_law_1075 ?_
  refine va_sld hC.1 hC.2.1 hxs hsl hsz hS (vp_in_nI (by omega) (by omega)) dL_law_1076 ?_
  rw [nI_clamp (by omega : i + 2 < 2 ^ 31)]
  refine lv_aload_n hC.1 hC.2.1 dL_law_1077 rfl (lv_at hl 3 rfl) ?_
  refine p_csHW (n := 4) hL hC hE hXw hYw hP hD hS gL_law_L_would rfl (by decide +kernel) rfl ⟨by decide, by decide⟩ ⟨by show _ ≤ 601024; omega, by show _ ≤ 7293034; omega⟩ hl.1 (Nat.le_of_ble_eq_true rfl) dL_law_1078 rfl (fun o L2 f2 H locs hpost hP hD hS => ?_)
  obtain ⟨rfl, cu2, th2, gP, hJ2, hv0⟩ := hpost
  obtain ⟨Nn2, V2, hY2, -⟩ := id hJ2.2.1
  refine lv_istore (lv' := [(5, .int (nI k)), (0, .ref sc), (1, .ref hx), (2, .ref hm), (3, .ref o9), (4, .int (nI i))]) hC.1 hC.2.1 dL_law_1081 hl (by decide) rfl (fun ls hl => ?_)
  refine lv_aload_n hC.1 hC.2.1 dL_law_1083 rfl (lv_at hl 3 rfl) ?_
  refine lv_aload_n hC.1 hC.2.1 dL_law_1084 rfl (lv_at hl 1 rfl) ?_
  refine lv_iload hC.1 hC.2.1 dL_law_1085 (lv_at hl 5 rfl) ?_
  refine lv_iconst (v := (nI 1)) hC.1 hC.2.1 dL_law_1087 (by decide) ?_
  refine z_iadd hC dL_law_1088 ?_
  refine va_sld hC.1 hC.2.1 hxs hsl hsz hS (vp_in_nI (by omega) (by omega)) dL_law_1089 ?_
  rw [nI_clamp (by omega : i + 1 < 2 ^ 31)]
  refine lv_aload_n hC.1 hC.2.1 dL_law_1090 rfl (lv_at hl 1 rfl) ?_
  refine lv_iload hC.1 hC.2.1 dL_law_1091 (lv_at hl 5 rfl) ?_
  refine lv_iconst (v := (nI 2)) hC.1 hC.2.1 dL_law_1093 (by decide) ?_
  refine z_iadd hC dL_law_1094 ?_
  refine va_sld hC.1 hC.2.1 hxs hsl hsz hS (vp_in_nI (by omega) (by omega)) dL_law_1095 ?_
  rw [nI_clamp (by omega : i + 2 < 2 ^ 31)]
  refine p_cvH (n := 2) (hM cu2 th2 _ _ gP hJ2) hC hE hP hD hS (hY2.1.1) (hY2.1.2) rfl gL_law_X1_would rfl (by decide +kernel) rfl ⟨by decide, by decide⟩ ⟨by show _ ≤ 601024; omega, by show _ ≤ 7293034; omega⟩ hl.1 (Nat.le_of_ble_eq_true rfl) dL_law_1096 rfl (fun o L3 f3 H locs hpost hP hD hS => ?_)
  obtain ⟨rfl, cu3, hJ3⟩ := hpost
  obtain ⟨Nn3, V3, hY3, -⟩ := id hJ3.2.1
  refine lv_istore (lv' := [(6, .int (r)), (5, .int (nI k)), (0, .ref sc), (1, .ref hx), (2, .ref hm), (3, .ref o9), (4, .int (nI i))]) hC.1 hC.2.1 dL_law_1099 hl (by decide) rfl (fun ls hl => ?_)
  refine lv_aload_n hC.1 hC.2.1 dL_law_1101 rfl (lv_at hl 4 rfl) ?_
  refine p_cvB (n := 0) (m_thrown l hY3) hC hE hP hD hS (hY3.1.1) (hY3.1.2) rfl gL_law_X1_thrown rfl (by decide +kernel) rfl ⟨by decide, by decide⟩ ⟨by show _ ≤ 601024; omega, by show _ ≤ 7293034; omega⟩ hl.1 (Nat.le_of_ble_eq_true rfl) dL_law_1102 rfl ?_
  refine lv_iload hC.1 hC.2.1 dL_law_1105 (lv_at hl 1 rfl) ?_
  refine lv_icmp_eq (tgt := 1112) hC.1 hC.2.1 dL_law_1107 (by decide) (fun h_1107 => ?_) (fun h_1107 => absurd rfl h_1107)
  refine lv_iload hC.1 hC.2.1 dL_law_1112 (lv_at hl 1 rfl) ?_
  refine z_if_ne (tgt := 1129) hC dL_law_1114 (by decide) (by omega) (fun h_1114 => ?_) (fun h_1114 => ?_)
  · refine lv_goto (tgt := 1380) hC.1 hC.2.1 dL_law_1129 (by decide) ?_
    refine W.widen (k := cells + 701) (n := slots + 11206) (by omega) (by omega) ?_
    exact kk _ _ _ _ _ _ _ _ _ _ _ hPM2 hJ3 hP hD hS (lv_sub hl [2, 3, 4, 5, 6] rfl)
  · refine lv_aload_n hC.1 hC.2.1 dL_law_1117 rfl (lv_at hl 5 rfl) ?_
    refine lv_iconst (v := (nI 0)) hC.1 hC.2.1 dL_law_1118 (by decide) ?_
    refine p_lald hC hE hP hJ3.2.2.1.1 hJ3.2.2.1.2 (by decide) (by decide) dL_law_1119 ?_
    refine lv_iload hC.1 hC.2.1 dL_law_1120 (lv_at hl 0 rfl) ?_
    refine lv_i2l hC.1 hC.2.1 dL_law_1122 rfl ?_
    refine W.lcmp hC.1 hC.2.1 dL_law_1123 ?_
    refine lv_if_eq (tgt := 1129) hC.1 hC.2.1 dL_law_1124 (by decide) (fun h_1124 => ?_) (fun h_1124 => absurd (lg0.mpr ((hv0 h_1114).trans hok)) h_1124)
    refine lv_goto (tgt := 1380) hC.1 hC.2.1 dL_law_1129 (by decide) ?_
    refine W.widen (k := cells + 701) (n := slots + 11206) (by omega) (by omega) ?_
    exact kk _ _ _ _ _ _ _ _ _ _ _ hPM2 hJ3 hP hD hS (lv_sub hl [2, 3, 4, 5, 6] rfl)

set_option maxHeartbeats 4000000 in
set_option maxRecDepth 100000 in
theorem c_far {p : Program} {l : Launch} {e : Env} {s : State} {m : MethodId} {args : Array Value} {below : List Frame} {meth : Method} {c : Code} {Q : State → Prop} {D : va_G} {T : ClassId × ClassId × ClassId} {z0 : Nat} {hx g ln : Nat} {rw : Nat → Nat} {hm rs td sz wo : Nat} {rr tr : Nat → Nat} {o9 sc i cells slots : Nat} {Ln : Nat} {xs : Nat → Int32} (hst : l.stackTraces = false) (hC : CallFix p m c cL_law 9 s args wsL_law RL) (hE : zE D T z0 s) (hXw : xW s) (hYw : yW s) (hxs : va_X sc Ln xs s s.heap) (hsl : sc < s.heap.size) (hsz : ¬ zA z0 sc) (hLn : Ln ≤ 2048) (hi3 : i + 3 < Ln) (hcl : cells + 701 ≤ 601024) (hsl2 : slots + 11206 ≤ 7293034) (kk : LGO p l e s m args below meth c Q D T z0 hx g ln rw hm rs td sz wo rr tr o9 sc i (cells + 701) (slots + 11206) 1380) : LGO p l e s m args below meth c Q D T z0 hx g ln rw hm rs td sz wo rr tr o9 sc i cells slots 1132 := by
  intro L f H locs cu th b mk wd gO ls hPM hJ hP hD hS hl
  obtain ⟨k, v, r, b2, mk2, wd2, mc, ms, hk4, hmc, hms, hPM2, hok, hL, hM⟩ := pr_far (D := D) (z0 := z0) l hst hJ hPM (xs (i + 1))
  refine lv_aload_n hC.1 hC.2.1 dL_law_1132 rfl (lv_at hl 1 rfl) ?_
  refine lv_aload_n hC.1 hC.2.1 dL_law_1133 rfl (lv_at hl 0 rfl) ?_
  refine lv_iload hC.1 hC.2.1 dL_law_1134 (lv_at hl 4 rfl) ?_
  refine lv_iconst (v := (nI 1)) hC.1 hC.2.1 dL_law_1136 (by decide) ?_
  refine z_iadd hC dL_law_1137 ?_
  refine va_sld hC.1 hC.2.1 hxs hsl hsz hS (vp_in_nI (by omega) (by omega)) dL_law_1138 ?_
  rw [nI_clamp (by omega : i + 1 < 2 ^ 31)]
  refine lv_aload_n hC.1 hC.2.1 dL_law_1139 rfl (lv_at hl 3 rfl) ?_
  refine p_csHW (n := 3) hL hC hE hXw hYw hP hD hS gL_law_L_far rfl (by decide +kernel) rfl ⟨by decide, by decide⟩ ⟨by show _ ≤ 601024; omega, by show _ ≤ 7293034; omega⟩ hl.1 (Nat.le_of_ble_eq_true rfl) dL_law_1140 rfl (fun o L2 f2 H locs hpost hP hD hS => ?_)
  obtain ⟨rfl, cu2, th2, gP, hJ2, hv0⟩ := hpost
  obtain ⟨Nn2, V2, hY2, -⟩ := id hJ2.2.1
  refine lv_istore (lv' := [(5, .int (nI k)), (0, .ref sc), (1, .ref hx), (2, .ref hm), (3, .ref o9), (4, .int (nI i))]) hC.1 hC.2.1 dL_law_1143 hl (by decide) rfl (fun ls hl => ?_)
  refine lv_aload_n hC.1 hC.2.1 dL_law_1145 rfl (lv_at hl 3 rfl) ?_
  refine lv_aload_n hC.1 hC.2.1 dL_law_1146 rfl (lv_at hl 1 rfl) ?_
  refine lv_iload hC.1 hC.2.1 dL_law_1147 (lv_at hl 5 rfl) ?_
  refine lv_iconst (v := (nI 1)) hC.1 hC.2.1 dL_law_1149 (by decide) ?_
  refine z_iadd hC dL_law_1150 ?_
  refine va_sld hC.1 hC.2.1 hxs hsl hsz hS (vp_in_nI (by omega) (by omega)) dL_law_1151 ?_
  rw [nI_clamp (by omega : i + 1 < 2 ^ 31)]
  refine p_cvH (n := 1) (hM cu2 th2 _ _ gP hJ2) hC hE hP hD hS (hY2.1.1) (hY2.1.2) rfl gL_law_X1_far rfl (by decide +kernel) rfl ⟨by decide, by decide⟩ ⟨by show _ ≤ 601024; omega, by show _ ≤ 7293034; omega⟩ hl.1 (Nat.le_of_ble_eq_true rfl) dL_law_1152 rfl (fun o L3 f3 H locs hpost hP hD hS => ?_)
  obtain ⟨rfl, cu3, hJ3⟩ := hpost
  obtain ⟨Nn3, V3, hY3, -⟩ := id hJ3.2.1
  refine lv_istore (lv' := [(6, .int (r)), (5, .int (nI k)), (0, .ref sc), (1, .ref hx), (2, .ref hm), (3, .ref o9), (4, .int (nI i))]) hC.1 hC.2.1 dL_law_1155 hl (by decide) rfl (fun ls hl => ?_)
  refine lv_aload_n hC.1 hC.2.1 dL_law_1157 rfl (lv_at hl 4 rfl) ?_
  refine p_cvB (n := 0) (m_thrown l hY3) hC hE hP hD hS (hY3.1.1) (hY3.1.2) rfl gL_law_X1_thrown rfl (by decide +kernel) rfl ⟨by decide, by decide⟩ ⟨by show _ ≤ 601024; omega, by show _ ≤ 7293034; omega⟩ hl.1 (Nat.le_of_ble_eq_true rfl) dL_law_1158 rfl ?_
  refine lv_iload hC.1 hC.2.1 dL_law_1161 (lv_at hl 1 rfl) ?_
  refine lv_icmp_eq (tgt := 1168) hC.1 hC.2.1 dL_law_1163 (by decide) (fun h_1163 => ?_) (fun h_1163 => absurd rfl h_1163)
  refine lv_iload hC.1 hC.2.1 dL_law_1168 (lv_at hl 1 rfl) ?_
  refine z_if_ne (tgt := 1185) hC dL_law_1170 (by decide) (by omega) (fun h_1170 => ?_) (fun h_1170 => ?_)
  · refine lv_goto (tgt := 1380) hC.1 hC.2.1 dL_law_1185 (by decide) ?_
    refine W.widen (k := cells + 701) (n := slots + 11206) (by omega) (by omega) ?_
    exact kk _ _ _ _ _ _ _ _ _ _ _ hPM2 hJ3 hP hD hS (lv_sub hl [2, 3, 4, 5, 6] rfl)
  · refine lv_aload_n hC.1 hC.2.1 dL_law_1173 rfl (lv_at hl 5 rfl) ?_
    refine lv_iconst (v := (nI 0)) hC.1 hC.2.1 dL_law_1174 (by decide) ?_
    refine p_lald hC hE hP hJ3.2.2.1.1 hJ3.2.2.1.2 (by decide) (by decide) dL_law_1175 ?_
    refine lv_iload hC.1 hC.2.1 dL_law_1176 (lv_at hl 0 rfl) ?_
    refine lv_i2l hC.1 hC.2.1 dL_law_1178 rfl ?_
    refine W.lcmp hC.1 hC.2.1 dL_law_1179 ?_
    refine lv_if_eq (tgt := 1185) hC.1 hC.2.1 dL_law_1180 (by decide) (fun h_1180 => ?_) (fun h_1180 => absurd (lg0.mpr ((hv0 h_1170).trans hok)) h_1180)
    refine lv_goto (tgt := 1380) hC.1 hC.2.1 dL_law_1185 (by decide) ?_
    refine W.widen (k := cells + 701) (n := slots + 11206) (by omega) (by omega) ?_
    exact kk _ _ _ _ _ _ _ _ _ _ _ hPM2 hJ3 hP hD hS (lv_sub hl [2, 3, 4, 5, 6] rfl)

set_option maxHeartbeats 4000000 in
set_option maxRecDepth 100000 in
theorem c_first {p : Program} {l : Launch} {e : Env} {s : State} {m : MethodId} {args : Array Value} {below : List Frame} {meth : Method} {c : Code} {Q : State → Prop} {D : va_G} {T : ClassId × ClassId × ClassId} {z0 : Nat} {hx g ln : Nat} {rw : Nat → Nat} {hm rs td sz wo : Nat} {rr tr : Nat → Nat} {o9 sc i cells slots : Nat} {Ln : Nat} {xs : Nat → Int32} (hst : l.stackTraces = false) (hC : CallFix p m c cL_law 9 s args wsL_law RL) (hE : zE D T z0 s) (hXw : xW s) (hYw : yW s) (hxs : va_X sc Ln xs s s.heap) (hsl : sc < s.heap.size) (hsz : ¬ zA z0 sc) (hLn : Ln ≤ 2048) (hi3 : i + 3 < Ln) (hcl : cells + 701 ≤ 601024) (hsl2 : slots + 11206 ≤ 7293034) (kk : LGO p l e s m args below meth c Q D T z0 hx g ln rw hm rs td sz wo rr tr o9 sc i (cells + 701) (slots + 11206) 1380) : LGO p l e s m args below meth c Q D T z0 hx g ln rw hm rs td sz wo rr tr o9 sc i cells slots 1188 := by
  intro L f H locs cu th b mk wd gO ls hPM hJ hP hD hS hl
  obtain ⟨k, v, r, b2, mk2, wd2, mc, ms, hk4, hmc, hms, hPM2, hok, hL, hM⟩ := pr_first (D := D) (z0 := z0) l hst hJ hPM (xs (i + 1))
  refine lv_aload_n hC.1 hC.2.1 dL_law_1188 rfl (lv_at hl 1 rfl) ?_
  refine lv_aload_n hC.1 hC.2.1 dL_law_1189 rfl (lv_at hl 0 rfl) ?_
  refine lv_iload hC.1 hC.2.1 dL_law_1190 (lv_at hl 4 rfl) ?_
  refine lv_iconst (v := (nI 1)) hC.1 hC.2.1 dL_law_1192 (by decide) ?_
  refine z_iadd hC dL_law_1193 ?_
  refine va_sld hC.1 hC.2.1 hxs hsl hsz hS (vp_in_nI (by omega) (by omega)) dL_law_1194 ?_
  rw [nI_clamp (by omega : i + 1 < 2 ^ 31)]
  refine lv_aload_n hC.1 hC.2.1 dL_law_1195 rfl (lv_at hl 3 rfl) ?_
  refine p_csHW (n := 3) hL hC hE hXw hYw hP hD hS gL_law_L_first rfl (by decide +kernel) rfl ⟨by decide, by decide⟩ ⟨by show _ ≤ 601024; omega, by show _ ≤ 7293034; omega⟩ hl.1 (Nat.le_of_ble_eq_true rfl) dL_law_1196 rfl (fun o L2 f2 H locs hpost hP hD hS => ?_)
  obtain ⟨rfl, cu2, th2, gP, hJ2, hv0⟩ := hpost
  obtain ⟨Nn2, V2, hY2, -⟩ := id hJ2.2.1
  refine lv_istore (lv' := [(5, .int (nI k)), (0, .ref sc), (1, .ref hx), (2, .ref hm), (3, .ref o9), (4, .int (nI i))]) hC.1 hC.2.1 dL_law_1199 hl (by decide) rfl (fun ls hl => ?_)
  refine lv_aload_n hC.1 hC.2.1 dL_law_1201 rfl (lv_at hl 3 rfl) ?_
  refine lv_aload_n hC.1 hC.2.1 dL_law_1202 rfl (lv_at hl 1 rfl) ?_
  refine lv_iload hC.1 hC.2.1 dL_law_1203 (lv_at hl 5 rfl) ?_
  refine lv_iconst (v := (nI 1)) hC.1 hC.2.1 dL_law_1205 (by decide) ?_
  refine z_iadd hC dL_law_1206 ?_
  refine va_sld hC.1 hC.2.1 hxs hsl hsz hS (vp_in_nI (by omega) (by omega)) dL_law_1207 ?_
  rw [nI_clamp (by omega : i + 1 < 2 ^ 31)]
  refine p_cvH (n := 1) (hM cu2 th2 _ _ gP hJ2) hC hE hP hD hS (hY2.1.1) (hY2.1.2) rfl gL_law_X1_first rfl (by decide +kernel) rfl ⟨by decide, by decide⟩ ⟨by show _ ≤ 601024; omega, by show _ ≤ 7293034; omega⟩ hl.1 (Nat.le_of_ble_eq_true rfl) dL_law_1208 rfl (fun o L3 f3 H locs hpost hP hD hS => ?_)
  obtain ⟨rfl, cu3, hJ3⟩ := hpost
  obtain ⟨Nn3, V3, hY3, -⟩ := id hJ3.2.1
  refine lv_istore (lv' := [(6, .int (r)), (5, .int (nI k)), (0, .ref sc), (1, .ref hx), (2, .ref hm), (3, .ref o9), (4, .int (nI i))]) hC.1 hC.2.1 dL_law_1211 hl (by decide) rfl (fun ls hl => ?_)
  refine lv_aload_n hC.1 hC.2.1 dL_law_1213 rfl (lv_at hl 4 rfl) ?_
  refine p_cvB (n := 0) (m_thrown l hY3) hC hE hP hD hS (hY3.1.1) (hY3.1.2) rfl gL_law_X1_thrown rfl (by decide +kernel) rfl ⟨by decide, by decide⟩ ⟨by show _ ≤ 601024; omega, by show _ ≤ 7293034; omega⟩ hl.1 (Nat.le_of_ble_eq_true rfl) dL_law_1214 rfl ?_
  refine lv_iload hC.1 hC.2.1 dL_law_1217 (lv_at hl 1 rfl) ?_
  refine lv_icmp_eq (tgt := 1224) hC.1 hC.2.1 dL_law_1219 (by decide) (fun h_1219 => ?_) (fun h_1219 => absurd rfl h_1219)
  refine lv_iload hC.1 hC.2.1 dL_law_1224 (lv_at hl 1 rfl) ?_
  refine z_if_ne (tgt := 1241) hC dL_law_1226 (by decide) (by omega) (fun h_1226 => ?_) (fun h_1226 => ?_)
  · refine lv_goto (tgt := 1380) hC.1 hC.2.1 dL_law_1241 (by decide) ?_
    refine W.widen (k := cells + 701) (n := slots + 11206) (by omega) (by omega) ?_
    exact kk _ _ _ _ _ _ _ _ _ _ _ hPM2 hJ3 hP hD hS (lv_sub hl [2, 3, 4, 5, 6] rfl)
  · refine lv_aload_n hC.1 hC.2.1 dL_law_1229 rfl (lv_at hl 5 rfl) ?_
    refine lv_iconst (v := (nI 0)) hC.1 hC.2.1 dL_law_1230 (by decide) ?_
    refine p_lald hC hE hP hJ3.2.2.1.1 hJ3.2.2.1.2 (by decide) (by decide) dL_law_1231 ?_
    refine lv_iload hC.1 hC.2.1 dL_law_1232 (lv_at hl 0 rfl) ?_
    refine lv_i2l hC.1 hC.2.1 dL_law_1234 rfl ?_
    refine W.lcmp hC.1 hC.2.1 dL_law_1235 ?_
    refine lv_if_eq (tgt := 1241) hC.1 hC.2.1 dL_law_1236 (by decide) (fun h_1236 => ?_) (fun h_1236 => absurd (lg0.mpr ((hv0 h_1226).trans hok)) h_1236)
    refine lv_goto (tgt := 1380) hC.1 hC.2.1 dL_law_1241 (by decide) ?_
    refine W.widen (k := cells + 701) (n := slots + 11206) (by omega) (by omega) ?_
    exact kk _ _ _ _ _ _ _ _ _ _ _ hPM2 hJ3 hP hD hS (lv_sub hl [2, 3, 4, 5, 6] rfl)

set_option maxHeartbeats 4000000 in
set_option maxRecDepth 100000 in
theorem c_shortest {p : Program} {l : Launch} {e : Env} {s : State} {m : MethodId} {args : Array Value} {below : List Frame} {meth : Method} {c : Code} {Q : State → Prop} {D : va_G} {T : ClassId × ClassId × ClassId} {z0 : Nat} {hx g ln : Nat} {rw : Nat → Nat} {hm rs td sz wo : Nat} {rr tr : Nat → Nat} {o9 sc i cells slots : Nat} {Ln : Nat} {xs : Nat → Int32} (hst : l.stackTraces = false) (hC : CallFix p m c cL_law 9 s args wsL_law RL) (hE : zE D T z0 s) (hXw : xW s) (hYw : yW s) (hxs : va_X sc Ln xs s s.heap) (hsl : sc < s.heap.size) (hsz : ¬ zA z0 sc) (hLn : Ln ≤ 2048) (hi3 : i + 3 < Ln) (hcl : cells + 701 ≤ 601024) (hsl2 : slots + 11206 ≤ 7293034) (kk : LGO p l e s m args below meth c Q D T z0 hx g ln rw hm rs td sz wo rr tr o9 sc i (cells + 701) (slots + 11206) 1380) : LGO p l e s m args below meth c Q D T z0 hx g ln rw hm rs td sz wo rr tr o9 sc i cells slots 1244 := by
  intro L f H locs cu th b mk wd gO ls hPM hJ hP hD hS hl
  obtain ⟨k, v, r, b2, mk2, wd2, mc, ms, hk4, hmc, hms, hPM2, hok, hL, hM⟩ := pr_shortest (D := D) (z0 := z0) l hst hJ hPM (xs (i + 1)) (xs (i + 2))
  refine lv_aload_n hC.1 hC.2.1 dL_law_1244 rfl (lv_at hl 1 rfl) ?_
  refine lv_aload_n hC.1 hC.2.1 dL_law_1245 rfl (lv_at hl 0 rfl) ?_
  refine lv_iload hC.1 hC.2.1 dL_law_1246 (lv_at hl 4 rfl) ?_
  refine lv_iconst (v := (nI 1)) hC.1 hC.2.1 dL_law_1248 (by decide) ?_
  refine z_iadd hC dL_law_1249 ?_
  refine va_sld hC.1 hC.2.1 hxs hsl hsz hS (vp_in_nI (by omega) (by omega)) dL_law_1250 ?_
  rw [nI_clamp (by omega : i + 1 < 2 ^ 31)]
  refine lv_aload_n hC.1 hC.2.1 dL_law_1251 rfl (lv_at hl 0 rfl) ?_
  refine lv_iload hC.1 hC.2.1 dL_law_1252 (lv_at hl 4 rfl) ?_
  refine lv_iconst (v := (nI 2)) hC.1 hC.2.1 dL_law_1254 (by decide) ?_
  refine z_iadd hC dL_law_1255 ?_
  refine va_sld hC.1 hC.2.1 hxs hsl hsz hS (vp_in_nI (by omega) (by omega)) dL_law_1256 ?_
  rw [nI_clamp (by omega : i + 2 < 2 ^ 31)]
  refine lv_aload_n hC.1 hC.2.1 dL_law_1257 rfl (lv_at hl 3 rfl) ?_
  refine p_csHW (n := 4) hL hC hE hXw hYw hP hD hS gL_law_L_shortest rfl (by decide +kernel) rfl ⟨by decide, by decide⟩ ⟨by show _ ≤ 601024; omega, by show _ ≤ 7293034; omega⟩ hl.1 (Nat.le_of_ble_eq_true rfl) dL_law_1258 rfl (fun o L2 f2 H locs hpost hP hD hS => ?_)
  obtain ⟨rfl, cu2, th2, gP, hJ2, hv0⟩ := hpost
  obtain ⟨Nn2, V2, hY2, -⟩ := id hJ2.2.1
  refine lv_istore (lv' := [(5, .int (nI k)), (0, .ref sc), (1, .ref hx), (2, .ref hm), (3, .ref o9), (4, .int (nI i))]) hC.1 hC.2.1 dL_law_1261 hl (by decide) rfl (fun ls hl => ?_)
  refine lv_aload_n hC.1 hC.2.1 dL_law_1263 rfl (lv_at hl 3 rfl) ?_
  refine lv_aload_n hC.1 hC.2.1 dL_law_1264 rfl (lv_at hl 1 rfl) ?_
  refine lv_iload hC.1 hC.2.1 dL_law_1265 (lv_at hl 5 rfl) ?_
  refine lv_iconst (v := (nI 1)) hC.1 hC.2.1 dL_law_1267 (by decide) ?_
  refine z_iadd hC dL_law_1268 ?_
  refine va_sld hC.1 hC.2.1 hxs hsl hsz hS (vp_in_nI (by omega) (by omega)) dL_law_1269 ?_
  rw [nI_clamp (by omega : i + 1 < 2 ^ 31)]
  refine lv_aload_n hC.1 hC.2.1 dL_law_1270 rfl (lv_at hl 1 rfl) ?_
  refine lv_iload hC.1 hC.2.1 dL_law_1271 (lv_at hl 5 rfl) ?_
  refine lv_iconst (v := (nI 2)) hC.1 hC.2.1 dL_law_1273 (by decide) ?_
  refine z_iadd hC dL_law_1274 ?_
  refine va_sld hC.1 hC.2.1 hxs hsl hsz hS (vp_in_nI (by omega) (by omega)) dL_law_1275 ?_
  rw [nI_clamp (by omega : i + 2 < 2 ^ 31)]
  refine p_cvH (n := 2) (hM cu2 th2 _ _ gP hJ2) hC hE hP hD hS (hY2.1.1) (hY2.1.2) rfl gL_law_X1_shortest rfl (by decide +kernel) rfl ⟨by decide, by decide⟩ ⟨by show _ ≤ 601024; omega, by show _ ≤ 7293034; omega⟩ hl.1 (Nat.le_of_ble_eq_true rfl) dL_law_1276 rfl (fun o L3 f3 H locs hpost hP hD hS => ?_)
  obtain ⟨rfl, cu3, hJ3⟩ := hpost
  obtain ⟨Nn3, V3, hY3, -⟩ := id hJ3.2.1
  refine lv_istore (lv' := [(6, .int (r)), (5, .int (nI k)), (0, .ref sc), (1, .ref hx), (2, .ref hm), (3, .ref o9), (4, .int (nI i))]) hC.1 hC.2.1 dL_law_1279 hl (by decide) rfl (fun ls hl => ?_)
  refine lv_aload_n hC.1 hC.2.1 dL_law_1281 rfl (lv_at hl 4 rfl) ?_
  refine p_cvB (n := 0) (m_thrown l hY3) hC hE hP hD hS (hY3.1.1) (hY3.1.2) rfl gL_law_X1_thrown rfl (by decide +kernel) rfl ⟨by decide, by decide⟩ ⟨by show _ ≤ 601024; omega, by show _ ≤ 7293034; omega⟩ hl.1 (Nat.le_of_ble_eq_true rfl) dL_law_1282 rfl ?_
  refine lv_iload hC.1 hC.2.1 dL_law_1285 (lv_at hl 1 rfl) ?_
  refine lv_icmp_eq (tgt := 1292) hC.1 hC.2.1 dL_law_1287 (by decide) (fun h_1287 => ?_) (fun h_1287 => absurd rfl h_1287)
  refine lv_iload hC.1 hC.2.1 dL_law_1292 (lv_at hl 1 rfl) ?_
  refine z_if_ne (tgt := 1309) hC dL_law_1294 (by decide) (by omega) (fun h_1294 => ?_) (fun h_1294 => ?_)
  · refine lv_goto (tgt := 1380) hC.1 hC.2.1 dL_law_1309 (by decide) ?_
    refine W.widen (k := cells + 701) (n := slots + 11206) (by omega) (by omega) ?_
    exact kk _ _ _ _ _ _ _ _ _ _ _ hPM2 hJ3 hP hD hS (lv_sub hl [2, 3, 4, 5, 6] rfl)
  · refine lv_aload_n hC.1 hC.2.1 dL_law_1297 rfl (lv_at hl 5 rfl) ?_
    refine lv_iconst (v := (nI 0)) hC.1 hC.2.1 dL_law_1298 (by decide) ?_
    refine p_lald hC hE hP hJ3.2.2.1.1 hJ3.2.2.1.2 (by decide) (by decide) dL_law_1299 ?_
    refine lv_iload hC.1 hC.2.1 dL_law_1300 (lv_at hl 0 rfl) ?_
    refine lv_i2l hC.1 hC.2.1 dL_law_1302 rfl ?_
    refine W.lcmp hC.1 hC.2.1 dL_law_1303 ?_
    refine lv_if_eq (tgt := 1309) hC.1 hC.2.1 dL_law_1304 (by decide) (fun h_1304 => ?_) (fun h_1304 => absurd (lg0.mpr ((hv0 h_1294).trans hok)) h_1304)
    refine lv_goto (tgt := 1380) hC.1 hC.2.1 dL_law_1309 (by decide) ?_
    refine W.widen (k := cells + 701) (n := slots + 11206) (by omega) (by omega) ?_
    exact kk _ _ _ _ _ _ _ _ _ _ _ hPM2 hJ3 hP hD hS (lv_sub hl [2, 3, 4, 5, 6] rfl)

set_option maxHeartbeats 4000000 in
set_option maxRecDepth 100000 in
theorem c_advise {p : Program} {l : Launch} {e : Env} {s : State} {m : MethodId} {args : Array Value} {below : List Frame} {meth : Method} {c : Code} {Q : State → Prop} {D : va_G} {T : ClassId × ClassId × ClassId} {z0 : Nat} {hx g ln : Nat} {rw : Nat → Nat} {hm rs td sz wo : Nat} {rr tr : Nat → Nat} {o9 sc i cells slots : Nat} {Ln : Nat} {xs : Nat → Int32} (hst : l.stackTraces = false) (hC : CallFix p m c cL_law 9 s args wsL_law RL) (hE : zE D T z0 s) (hXw : xW s) (hYw : yW s) (hxs : va_X sc Ln xs s s.heap) (hsl : sc < s.heap.size) (hsz : ¬ zA z0 sc) (hLn : Ln ≤ 2048) (hi3 : i + 3 < Ln) (hcl : cells + 701 ≤ 601024) (hsl2 : slots + 11206 ≤ 7293034) (kk : LGO p l e s m args below meth c Q D T z0 hx g ln rw hm rs td sz wo rr tr o9 sc i (cells + 701) (slots + 11206) 1380) : LGO p l e s m args below meth c Q D T z0 hx g ln rw hm rs td sz wo rr tr o9 sc i cells slots 1312 := by
  intro L f H locs cu th b mk wd gO ls hPM hJ hP hD hS hl
  have hX := hJ.1
  obtain ⟨Nn2, V2, hY2, -⟩ := id hJ.2.1
  refine lv_aload_n hC.1 hC.2.1 dL_law_1312 rfl (lv_at hl 1 rfl) ?_
  refine p_cvB (n := 0) (k_advise l hX) hC hE hP hD hS (hX.1.1) (hX.1.2) rfl gL_law_X0_advise rfl (by decide +kernel) rfl ⟨by decide, by decide⟩ ⟨by show _ ≤ 601024; omega, by show _ ≤ 7293034; omega⟩ hl.1 (Nat.le_of_ble_eq_true rfl) dL_law_1313 rfl ?_
  refine lv_aload_n hC.1 hC.2.1 dL_law_1316 rfl (lv_at hl 2 rfl) ?_
  refine p_cvH (n := 0) (mg_advise l hJ.2.1) hC hE hP hD hS (hY2.1.1) (hY2.1.2) rfl gL_law_X1_advise rfl (by decide +kernel) rfl ⟨by decide, by decide⟩ ⟨by show _ ≤ 601024; omega, by show _ ≤ 7293034; omega⟩ hl.1 (Nat.le_of_ble_eq_true rfl) dL_law_1317 rfl (fun o L3 f3 H locs hpost hP hD hS => ?_)
  obtain ⟨rfl, cu3, -, hZ3, hF3⟩ := hpost
  have hJ3 := hJ.frm hZ3 hF3
  refine lv_icmp_eq (tgt := 1380) hC.1 hC.2.1 dL_law_1320 (by decide) (fun h_1320 => ?_) (fun h_1320 => absurd rfl h_1320)
  refine W.widen (k := cells + 701) (n := slots + 11206) (by omega) (by omega) ?_
  exact kk _ _ _ _ _ _ _ _ _ _ _ hPM hJ3 hP hD hS (lv_sub hl [0, 1, 2, 3, 4] rfl)

set_option maxHeartbeats 4000000 in
set_option maxRecDepth 100000 in
theorem c_mean {p : Program} {l : Launch} {e : Env} {s : State} {m : MethodId} {args : Array Value} {below : List Frame} {meth : Method} {c : Code} {Q : State → Prop} {D : va_G} {T : ClassId × ClassId × ClassId} {z0 : Nat} {hx g ln : Nat} {rw : Nat → Nat} {hm rs td sz wo : Nat} {rr tr : Nat → Nat} {o9 sc i cells slots : Nat} {Ln : Nat} {xs : Nat → Int32} (hst : l.stackTraces = false) (hC : CallFix p m c cL_law 9 s args wsL_law RL) (hE : zE D T z0 s) (hXw : xW s) (hYw : yW s) (hxs : va_X sc Ln xs s s.heap) (hsl : sc < s.heap.size) (hsz : ¬ zA z0 sc) (hLn : Ln ≤ 2048) (hi3 : i + 3 < Ln) (hcl : cells + 701 ≤ 601024) (hsl2 : slots + 11206 ≤ 7293034) (kk : LGO p l e s m args below meth c Q D T z0 hx g ln rw hm rs td sz wo rr tr o9 sc i (cells + 701) (slots + 11206) 1380) : LGO p l e s m args below meth c Q D T z0 hx g ln rw hm rs td sz wo rr tr o9 sc i cells slots 1325 := by
  intro L f H locs cu th b mk wd gO ls hPM hJ hP hD hS hl
  have hX := hJ.1
  obtain ⟨Nn2, V2, hY2, -⟩ := id hJ.2.1
  have htl : tot wd 5 < 61 := Nat.lt_of_le_of_lt (tot_le (fun w h => (hX.2.2.2.2.2.2 w h).1) 5 (Nat.le_refl 5)) (by decide)
  refine lv_aload_n hC.1 hC.2.1 dL_law_1325 rfl (lv_at hl 1 rfl) ?_
  refine p_cvB (n := 0) (k_mean l hX) hC hE hP hD hS (hX.1.1) (hX.1.2) rfl gL_law_X0_mean rfl (by decide +kernel) rfl ⟨by decide, by decide⟩ ⟨by show _ ≤ 601024; omega, by show _ ≤ 7293034; omega⟩ hl.1 (Nat.le_of_ble_eq_true rfl) dL_law_1326 rfl ?_
  refine lv_dstore (lv' := [(5, .double (mean5 (tot wd 5))), (0, .ref sc), (1, .ref hx), (2, .ref hm), (3, .ref o9), (4, .int (nI i))]) hC.1 hC.2.1 dL_law_1329 hl (by decide) rfl (fun ls hl => ?_)
  refine lv_aload_n hC.1 hC.2.1 dL_law_1331 rfl (lv_at hl 3 rfl) ?_
  refine p_cvH (n := 0) (mg_mean l hJ.2.1) hC hE hP hD hS (hY2.1.1) (hY2.1.2) rfl gL_law_X1_mean rfl (by decide +kernel) rfl ⟨by decide, by decide⟩ ⟨by show _ ≤ 601024; omega, by show _ ≤ 7293034; omega⟩ hl.1 (Nat.le_of_ble_eq_true rfl) dL_law_1332 rfl (fun o L3 f3 H locs hpost hP hD hS => ?_)
  obtain ⟨rfl, cu3, -, hZ3, hF3⟩ := hpost
  have hJ3 := hJ.frm hZ3 hF3
  refine lv_dstore (lv' := [(7, .double (mean5 (tot wd 5))), (5, .double (mean5 (tot wd 5))), (0, .ref sc), (1, .ref hx), (2, .ref hm), (3, .ref o9), (4, .int (nI i))]) hC.1 hC.2.1 dL_law_1335 hl (by decide) rfl (fun ls hl => ?_)
  refine lv_dload hC.1 hC.2.1 dL_law_1337 (lv_at hl 1 rfl) ?_
  refine lv_dload hC.1 hC.2.1 dL_law_1339 (lv_at hl 0 rfl) ?_
  refine lv_dcmp hC.1 hC.2.1 dL_law_1341 ?_
  rw [mean5_c _ htl]
  refine lv_if_eq (tgt := 1363) hC.1 hC.2.1 dL_law_1342 (by decide) (fun h_1342 => ?_) (fun h_1342 => absurd (by decide : Op.cmpValue (some .eq) .l = 0) h_1342)
  refine lv_goto (tgt := 1380) hC.1 hC.2.1 dL_law_1363 (by decide) ?_
  refine W.widen (k := cells + 701) (n := slots + 11206) (by omega) (by omega) ?_
  exact kk _ _ _ _ _ _ _ _ _ _ _ hPM hJ3 hP hD hS (lv_sub hl [2, 3, 4, 5, 6] rfl)

set_option maxHeartbeats 4000000 in
set_option maxRecDepth 100000 in
theorem c_digest {p : Program} {l : Launch} {e : Env} {s : State} {m : MethodId} {args : Array Value} {below : List Frame} {meth : Method} {c : Code} {Q : State → Prop} {D : va_G} {T : ClassId × ClassId × ClassId} {z0 : Nat} {hx g ln : Nat} {rw : Nat → Nat} {hm rs td sz wo : Nat} {rr tr : Nat → Nat} {o9 sc i cells slots : Nat} {Ln : Nat} {xs : Nat → Int32} (hst : l.stackTraces = false) (hC : CallFix p m c cL_law 9 s args wsL_law RL) (hE : zE D T z0 s) (hXw : xW s) (hYw : yW s) (hxs : va_X sc Ln xs s s.heap) (hsl : sc < s.heap.size) (hsz : ¬ zA z0 sc) (hLn : Ln ≤ 2048) (hi3 : i + 3 < Ln) (hcl : cells + 701 ≤ 601024) (hsl2 : slots + 11206 ≤ 7293034) (kk : LGO p l e s m args below meth c Q D T z0 hx g ln rw hm rs td sz wo rr tr o9 sc i (cells + 701) (slots + 11206) 1380) : LGO p l e s m args below meth c Q D T z0 hx g ln rw hm rs td sz wo rr tr o9 sc i cells slots 1366 := by
  intro L f H locs cu th b mk wd gO ls hPM hJ hP hD hS hl
  have hX := hJ.1
  obtain ⟨Nn2, V2, hY2, -⟩ := id hJ.2.1
  have hGw : ∀ w, w < 5 → GB (deed (wd w)) := fun w _ => (PM.deed (wd w)).gb2
  refine lv_aload_n hC.1 hC.2.1 dL_law_1366 rfl (lv_at hl 1 rfl) ?_
  refine p_cvB (n := 0) (k_digest l hX hPM.gb2.2.2.2.2 (fun w hw => (hGw w hw).2.2.2.2)) hC hE hP hD hS (hX.1.1) (hX.1.2) rfl gL_law_X0_digest rfl (by decide +kernel) rfl ⟨by decide, by decide⟩ ⟨by show _ ≤ 601024; omega, by show _ ≤ 7293034; omega⟩ hl.1 (Nat.le_of_ble_eq_true rfl) dL_law_1367 rfl ?_
  refine lv_aload_n hC.1 hC.2.1 dL_law_1370 rfl (lv_at hl 2 rfl) ?_
  refine p_cvH (n := 0) (mg_digest l hJ.2.1 hPM.gb2 hGw) hC hE hP hD hS (hY2.1.1) (hY2.1.2) rfl gL_law_X1_digest rfl (by decide +kernel) rfl ⟨by decide, by decide⟩ ⟨by show _ ≤ 601024; omega, by show _ ≤ 7293034; omega⟩ hl.1 (Nat.le_of_ble_eq_true rfl) dL_law_1371 rfl (fun o L3 f3 H locs hpost hP hD hS => ?_)
  obtain ⟨rfl, cu3, -, hZ3, hF3⟩ := hpost
  have hJ3 := hJ.frm hZ3 hF3
  refine W.lcmp hC.1 hC.2.1 dL_law_1374 ?_
  refine lv_if_eq (tgt := 1380) hC.1 hC.2.1 dL_law_1375 (by decide) (fun h_1375 => ?_) (fun h_1375 => absurd (lg0.mpr rfl) h_1375)
  refine W.widen (k := cells + 701) (n := slots + 11206) (by omega) (by omega) ?_
  exact kk _ _ _ _ _ _ _ _ _ _ _ hPM hJ3 hP hD hS (lv_sub hl [0, 1, 2, 3, 4] rfl)
