set_option maxHeartbeats 4000000 in
set_option maxRecDepth 100000 in
theorem cs_piece {p : Program} {l : Launch} {e : Env} {s : State} {m : MethodId} {below : List Frame} {meth : Method} {c : Code} {b L : Nat} {xs : Nat → Int32} {D : va_G} {k : Nat → ClassId} {g q r : Nat → Nat} {o T cells slots : Nat} {Q : State → Prop} {S Zm Zc : Nat → Nat → Nat} {f : Nat → Int64} {H : Heap} {locs : List Loc} {ls : Array Slot} (C : LC p l s m c b L xs D k) (hi : 6 * T + 6 ≤ L) (hI : IV T S) (hC : CI S Zc) (hR : Rb (Zm 1)) (hP : va_P D vwCl (wL g q k r o S Zm S Zc f) H) (hD : va_D (fun q => s.heap.size ≤ q) (wL g q k r o S Zm S Zc f)) (hS : va_S (fun q => s.heap.size ≤ q) s.heap H locs) (hl : lv_has ls 7 (LL b q g o (6 * T))) (hc : cells ≤ 100000) (hs : slots ≤ 1000000) (N : LNx p l e s m below meth c b D k g q r o T cells slots Q) : W p l e room_1 s m #[Value.ref b] below meth c H locs cells slots Q (F0 m 124 ls []) := by
  obtain ⟨hF, hst, hXs, hbl, hL, hX, hT, hN, hZ⟩ := C
  have hx := hF.1
  have hb := hF.2.1
  have hts := hF.2.2.2.2
  have hA : ∀ q : Nat, s.heap.size ≤ q → s.heap.size ≤ q := fun _ h => h
  have hP : va_P D vwCl (wM g k S Zm ++ (oX k o f ++ wC q k r S Zc)) H := hP
  have hD : va_D (fun q => s.heap.size ≤ q) (wM g k S Zm ++ (oX k o f ++ wC q k r S Zc)) := hD
  refine lv_aload_n hx hb dL_law_124 rfl (lv_at hl 1 rfl) ?_
  refine lq_rd hx hb hXs hbl hS (i := 6 * T) (j := 1) (lv_at hl 0 rfl) (lv_at hl 4 rfl) (by omega) hL dL_law_125 dL_law_126 dL_law_128 (by decide) dL_law_129 dL_law_130 ?_
  refine lq_rd hx hb hXs hbl hS (i := 6 * T) (j := 2) (lv_at hl 0 rfl) (lv_at hl 4 rfl) (by omega) hL dL_law_131 dL_law_132 dL_law_134 (by decide) dL_law_135 dL_law_136 ?_
  refine lq_rd hx hb hXs hbl hS (i := 6 * T) (j := 3) (lv_at hl 0 rfl) (lv_at hl 4 rfl) (by omega) hL dL_law_137 dL_law_138 dL_law_140 (by decide) dL_law_141 dL_law_142 ?_
  refine lq_bool hx hb dL_law_143 dL_law_146 dL_law_147 dL_law_150 ?_
  refine lv_aload_n hx hb dL_law_151 rfl (lv_at hl 3 rfl) ?_
  refine ls_Si (Wr := wM g k S Zm) (Wd := oX k o f ++ wC q k r S Zc) (As := [.ref (q 0), .int (xs (6 * T + 1)), .int (xs (6 * T + 2)), .int (nI (bN (decide (xs (6 * T + 3) ≠ 0)))), .ref o]) (rest := []) hF (k_L_piece l hst D q k r S Zc _ o f (xs (6 * T + 1)) (xs (6 * T + 2)) (decide (xs (6 * T + 3) ≠ 0)) hI.Bd) (vx_cwSW 5 hts gL_law_L_piece rfl rfl rfl (by decide +kernel) ⟨by decide, by decide⟩) hX hT hN hZ hP hD hS hA rfl hl.1 rfl (Nat.le_of_ble_eq_true rfl) dL_law_152 ⟨by show _ ≤ 601024; omega, by show _ ≤ 7293034; omega⟩ (fun k9 u1 H locs hp1 hP hD hS => ?_)
  obtain ⟨S3, Zc3, f3⟩ := u1
  obtain ⟨rfl, hp1⟩ := hp1
  dsimp only at hp1 hP hD
  refine lv_istore (lv' := (5, .int (nI (cdP S (xs (6 * T + 1)) (xs (6 * T + 2))))) :: LL b q g o (6 * T)) hx hb dL_law_155 hl (by decide) rfl (fun ls hl => ?_)
  refine lv_aload_n hx hb dL_law_157 rfl (lv_at hl 3 rfl) ?_
  refine lq_rd hx hb hXs hbl hS (i := 6 * T) (j := 1) (lv_at hl 1 rfl) (lv_at hl 5 rfl) (by omega) hL dL_law_158 dL_law_159 dL_law_161 (by decide) dL_law_162 dL_law_163 ?_
  refine lq_rd hx hb hXs hbl hS (i := 6 * T) (j := 2) (lv_at hl 1 rfl) (lv_at hl 5 rfl) (by omega) hL dL_law_164 dL_law_165 dL_law_167 (by decide) dL_law_168 dL_law_169 ?_
  refine lq_rd hx hb hXs hbl hS (i := 6 * T) (j := 3) (lv_at hl 1 rfl) (lv_at hl 5 rfl) (by omega) hL dL_law_170 dL_law_171 dL_law_173 (by decide) dL_law_174 dL_law_175 ?_
  refine lq_bool hx hb dL_law_176 dL_law_179 dL_law_180 dL_law_183 ?_
  refine lm_Vi (Wd := wM g k S Zm) (Wr := oX k o f3 ++ wC q k r S3 Zc3) (As := [.int (xs (6 * T + 1)), .int (xs (6 * T + 2)), .int (nI (bN (decide (xs (6 * T + 3) ≠ 0))))]) (rest := []) hF (k_X3_piece l D g k S Zm _ (xs (6 * T + 1)) (xs (6 * T + 2)) (decide (xs (6 * T + 3) ≠ 0)) hI.Bd) (cwV 3 hts gL_law_X3_piece rfl rfl rfl (by decide +kernel) ⟨by decide, by decide⟩) hX hP hD hS hA (q0 := 0) rfl rfl rfl hl.1 rfl (Nat.le_of_ble_eq_true rfl) dL_law_184 ⟨by show _ ≤ 601024; omega, by show _ ≤ 7293034; omega⟩ (fun r9 u2 H locs hp2 hP hD hS => ?_)
  obtain ⟨S2, Zm2⟩ := u2
  obtain ⟨hr9, e2, e3⟩ := hp2
  dsimp only at hr9 e2 e3 hP hD
  have e30 : Zm2 0 0 = cdP S (xs (6 * T + 1)) (xs (6 * T + 2)) := by rw [e3]; exact up2_same _ _ _ _
  have e31 : Rb (Zm2 1) := by rw [e3]; exact Rb_up hR
  obtain ⟨h1, h2, h3, h4⟩ : S3 = S2 ∧ IV (T + 1) S2 ∧ CI S2 Zc3 ∧ (cdP S (xs (6 * T + 1)) (xs (6 * T + 2)) = 0 → f3 0 = (nI (S 0 0)).toInt64) := by
    rcases hp1 with ⟨h0, w1, w2, w3⟩ | ⟨h0, w1, w2⟩
    · have hn := np_piece (T := T) (b := decide (xs (6 * T + 3) ≠ 0)) hI hC h0 w2
      have e9 := (e2.trans (nS_0 h0))
      subst e9
      exact ⟨w1, hn.1, hn.2, fun _ => w3⟩
    · have e9 := (e2.trans (nS_n h0))
      subst e9
      subst w2
      exact ⟨w1, hI.mono (Nat.le_succ T), hC, fun h => absurd h h0⟩
  subst h1
  refine lv_istore (lv' := (6, .int r9) :: (5, .int (nI (cdP S (xs (6 * T + 1)) (xs (6 * T + 2))))) :: LL b q g o (6 * T)) hx hb dL_law_187 hl (by decide) rfl (fun ls hl => ?_)
  refine lq_thr hF hX hP e30 hl.1 (lv_at hl 4 rfl) (lv_at hl 1 rfl) (by omega) (by omega) dL_law_189 dL_law_190 dL_law_193 dL_law_195 ?_
  refine lq_out hF hX hP cd2_31 (fun h0 => (h4 h0).trans (congrArg Int32.toInt64 (hr9 h0).symm)) (lv_at hl 5 rfl) (lv_at hl 1 rfl) (lv_at hl 0 rfl) dL_law_200 dL_law_202 dL_law_205 dL_law_206 dL_law_207 dL_law_208 dL_law_210 dL_law_211 dL_law_212 dL_law_217 (by decide) ?_
  refine W.widen (k := cells + 5) (n := slots + 30) (by omega) (by omega) ?_
  exact N _ _ _ _ _ _ _ h2 h3 e31 hP hD hS (lv_sub hl [2, 3, 4, 5, 6] rfl)

set_option maxHeartbeats 4000000 in
set_option maxRecDepth 100000 in
theorem cs_join {p : Program} {l : Launch} {e : Env} {s : State} {m : MethodId} {below : List Frame} {meth : Method} {c : Code} {b L : Nat} {xs : Nat → Int32} {D : va_G} {k : Nat → ClassId} {g q r : Nat → Nat} {o T cells slots : Nat} {Q : State → Prop} {S Zm Zc : Nat → Nat → Nat} {f : Nat → Int64} {H : Heap} {locs : List Loc} {ls : Array Slot} (C : LC p l s m c b L xs D k) (hi : 6 * T + 6 ≤ L) (hI : IV T S) (hC : CI S Zc) (hR : Rb (Zm 1)) (hP : va_P D vwCl (wL g q k r o S Zm S Zc f) H) (hD : va_D (fun q => s.heap.size ≤ q) (wL g q k r o S Zm S Zc f)) (hS : va_S (fun q => s.heap.size ≤ q) s.heap H locs) (hl : lv_has ls 7 (LL b q g o (6 * T))) (hc : cells ≤ 100000) (hs : slots ≤ 1000000) (N : LNx p l e s m below meth c b D k g q r o T cells slots Q) : W p l e room_1 s m #[Value.ref b] below meth c H locs cells slots Q (F0 m 220 ls []) := by
  obtain ⟨hF, hst, hXs, hbl, hL, hX, hT, hN, hZ⟩ := C
  have hx := hF.1
  have hb := hF.2.1
  have hts := hF.2.2.2.2
  have hA : ∀ q : Nat, s.heap.size ≤ q → s.heap.size ≤ q := fun _ h => h
  have hP : va_P D vwCl (wM g k S Zm ++ (oX k o f ++ wC q k r S Zc)) H := hP
  have hD : va_D (fun q => s.heap.size ≤ q) (wM g k S Zm ++ (oX k o f ++ wC q k r S Zc)) := hD
  refine lv_aload_n hx hb dL_law_220 rfl (lv_at hl 1 rfl) ?_
  refine lq_rd hx hb hXs hbl hS (i := 6 * T) (j := 1) (lv_at hl 0 rfl) (lv_at hl 4 rfl) (by omega) hL dL_law_221 dL_law_222 dL_law_224 (by decide) dL_law_225 dL_law_226 ?_
  refine lq_rd hx hb hXs hbl hS (i := 6 * T) (j := 2) (lv_at hl 0 rfl) (lv_at hl 4 rfl) (by omega) hL dL_law_227 dL_law_228 dL_law_230 (by decide) dL_law_231 dL_law_232 ?_
  refine lq_rd hx hb hXs hbl hS (i := 6 * T) (j := 3) (lv_at hl 0 rfl) (lv_at hl 4 rfl) (by omega) hL dL_law_233 dL_law_234 dL_law_236 (by decide) dL_law_237 dL_law_238 ?_
  refine lq_rd hx hb hXs hbl hS (i := 6 * T) (j := 4) (lv_at hl 0 rfl) (lv_at hl 4 rfl) (by omega) hL dL_law_239 dL_law_240 dL_law_242 (by decide) dL_law_243 dL_law_244 ?_
  refine lq_rd hx hb hXs hbl hS (i := 6 * T) (j := 5) (lv_at hl 0 rfl) (lv_at hl 4 rfl) (by omega) hL dL_law_245 dL_law_246 dL_law_248 (by decide) dL_law_249 dL_law_250 ?_
  refine lv_aload_n hx hb dL_law_251 rfl (lv_at hl 3 rfl) ?_
  refine ls_Si (Wr := wM g k S Zm) (Wd := oX k o f ++ wC q k r S Zc) (As := [.ref (q 0), .int (xs (6 * T + 1)), .int (xs (6 * T + 2)), .int (xs (6 * T + 3)), .int (xs (6 * T + 4)), .int (xs (6 * T + 5)), .ref o]) (rest := []) hF (k_L_join l hst D q k r S Zc _ o f (xs (6 * T + 1)) (xs (6 * T + 2)) (xs (6 * T + 3)) (xs (6 * T + 4)) (xs (6 * T + 5)) hI.Bd hI.le.2.2.1 (hI.hz hC)) (vx_cwSW 7 hts gL_law_L_join rfl rfl rfl (by decide +kernel) ⟨by decide, by decide⟩) hX hT hN hZ hP hD hS hA rfl hl.1 rfl (Nat.le_of_ble_eq_true rfl) dL_law_252 ⟨by show _ ≤ 601024; omega, by show _ ≤ 7293034; omega⟩ (fun k9 u1 H locs hp1 hP hD hS => ?_)
  obtain ⟨S3, Zc3, f3⟩ := u1
  obtain ⟨rfl, hp1⟩ := hp1
  dsimp only at hp1 hP hD
  refine lv_istore (lv' := (5, .int (nI (cdJ S (xs (6 * T + 1)) (xs (6 * T + 2)) (xs (6 * T + 3)) (xs (6 * T + 4)) (xs (6 * T + 5))))) :: LL b q g o (6 * T)) hx hb dL_law_255 hl (by decide) rfl (fun ls hl => ?_)
  refine lv_aload_n hx hb dL_law_257 rfl (lv_at hl 3 rfl) ?_
  refine lq_rd hx hb hXs hbl hS (i := 6 * T) (j := 1) (lv_at hl 1 rfl) (lv_at hl 5 rfl) (by omega) hL dL_law_258 dL_law_259 dL_law_261 (by decide) dL_law_262 dL_law_263 ?_
  refine lq_rd hx hb hXs hbl hS (i := 6 * T) (j := 2) (lv_at hl 1 rfl) (lv_at hl 5 rfl) (by omega) hL dL_law_264 dL_law_265 dL_law_267 (by decide) dL_law_268 dL_law_269 ?_
  refine lq_rd hx hb hXs hbl hS (i := 6 * T) (j := 3) (lv_at hl 1 rfl) (lv_at hl 5 rfl) (by omega) hL dL_law_270 dL_law_271 dL_law_273 (by decide) dL_law_274 dL_law_275 ?_
  refine lq_rd hx hb hXs hbl hS (i := 6 * T) (j := 4) (lv_at hl 1 rfl) (lv_at hl 5 rfl) (by omega) hL dL_law_276 dL_law_277 dL_law_279 (by decide) dL_law_280 dL_law_281 ?_
  refine lq_rd hx hb hXs hbl hS (i := 6 * T) (j := 5) (lv_at hl 1 rfl) (lv_at hl 5 rfl) (by omega) hL dL_law_282 dL_law_283 dL_law_285 (by decide) dL_law_286 dL_law_287 ?_
  refine lm_Vi (Wd := wM g k S Zm) (Wr := oX k o f3 ++ wC q k r S3 Zc3) (As := [.int (xs (6 * T + 1)), .int (xs (6 * T + 2)), .int (xs (6 * T + 3)), .int (xs (6 * T + 4)), .int (xs (6 * T + 5))]) (rest := []) hF (k_X3_join l D g k S Zm _ (xs (6 * T + 1)) (xs (6 * T + 2)) (xs (6 * T + 3)) (xs (6 * T + 4)) (xs (6 * T + 5)) hI.Bd hI.le.2.2.1) (cwV 5 hts gL_law_X3_join rfl rfl rfl (by decide +kernel) ⟨by decide, by decide⟩) hX hP hD hS hA (q0 := 0) rfl rfl rfl hl.1 rfl (Nat.le_of_ble_eq_true rfl) dL_law_288 ⟨by show _ ≤ 601024; omega, by show _ ≤ 7293034; omega⟩ (fun r9 u2 H locs hp2 hP hD hS => ?_)
  obtain ⟨S2, Zm2⟩ := u2
  obtain ⟨hr9, e2, e3⟩ := hp2
  dsimp only at hr9 e2 e3 hP hD
  have e30 : Zm2 0 0 = cdJ S (xs (6 * T + 1)) (xs (6 * T + 2)) (xs (6 * T + 3)) (xs (6 * T + 4)) (xs (6 * T + 5)) := by rw [e3]; exact up2_same _ _ _ _
  have e31 : Rb (Zm2 1) := by rw [e3]; exact Rb_up hR
  obtain ⟨h1, h2, h3, h4⟩ : S3 = S2 ∧ IV (T + 1) S2 ∧ CI S2 Zc3 ∧ (cdJ S (xs (6 * T + 1)) (xs (6 * T + 2)) (xs (6 * T + 3)) (xs (6 * T + 4)) (xs (6 * T + 5)) = 0 → f3 0 = (nI (S 0 1 / 2)).toInt64) := by
    rcases hp1 with ⟨h0, w1, w2, w3⟩ | ⟨h0, w1, w2⟩
    · have hn := np_join (T := T) hI hC h0 w2
      have e9 := (e2.trans (nS_0 h0))
      subst e9
      exact ⟨w1, hn.1, hn.2, fun _ => w3⟩
    · have e9 := (e2.trans (nS_n h0))
      subst e9
      subst w2
      exact ⟨w1, hI.mono (Nat.le_succ T), hC, fun h => absurd h h0⟩
  subst h1
  refine lv_istore (lv' := (6, .int r9) :: (5, .int (nI (cdJ S (xs (6 * T + 1)) (xs (6 * T + 2)) (xs (6 * T + 3)) (xs (6 * T + 4)) (xs (6 * T + 5))))) :: LL b q g o (6 * T)) hx hb dL_law_291 hl (by decide) rfl (fun ls hl => ?_)
  refine lq_thr hF hX hP e30 hl.1 (lv_at hl 4 rfl) (lv_at hl 1 rfl) (by omega) (by omega) dL_law_293 dL_law_294 dL_law_297 dL_law_299 ?_
  refine lq_out hF hX hP cd2_31 (fun h0 => (h4 h0).trans (congrArg Int32.toInt64 (hr9 h0).symm)) (lv_at hl 5 rfl) (lv_at hl 1 rfl) (lv_at hl 0 rfl) dL_law_304 dL_law_306 dL_law_309 dL_law_310 dL_law_311 dL_law_312 dL_law_314 dL_law_315 dL_law_316 dL_law_321 (by decide) ?_
  refine W.widen (k := cells + 5) (n := slots + 30) (by omega) (by omega) ?_
  exact N _ _ _ _ _ _ _ h2 h3 e31 hP hD hS (lv_sub hl [2, 3, 4, 5, 6] rfl)

set_option maxHeartbeats 4000000 in
set_option maxRecDepth 100000 in
theorem cs_lift {p : Program} {l : Launch} {e : Env} {s : State} {m : MethodId} {below : List Frame} {meth : Method} {c : Code} {b L : Nat} {xs : Nat → Int32} {D : va_G} {k : Nat → ClassId} {g q r : Nat → Nat} {o T cells slots : Nat} {Q : State → Prop} {S Zm Zc : Nat → Nat → Nat} {f : Nat → Int64} {H : Heap} {locs : List Loc} {ls : Array Slot} (C : LC p l s m c b L xs D k) (hi : 6 * T + 6 ≤ L) (hI : IV T S) (hC : CI S Zc) (hR : Rb (Zm 1)) (hP : va_P D vwCl (wL g q k r o S Zm S Zc f) H) (hD : va_D (fun q => s.heap.size ≤ q) (wL g q k r o S Zm S Zc f)) (hS : va_S (fun q => s.heap.size ≤ q) s.heap H locs) (hl : lv_has ls 7 (LL b q g o (6 * T))) (hc : cells ≤ 100000) (hs : slots ≤ 1000000) (N : LNx p l e s m below meth c b D k g q r o T cells slots Q) : W p l e room_1 s m #[Value.ref b] below meth c H locs cells slots Q (F0 m 324 ls []) := by
  obtain ⟨hF, hst, hXs, hbl, hL, hX, hT, hN, hZ⟩ := C
  have hx := hF.1
  have hb := hF.2.1
  have hts := hF.2.2.2.2
  have hA : ∀ q : Nat, s.heap.size ≤ q → s.heap.size ≤ q := fun _ h => h
  have hP : va_P D vwCl (wM g k S Zm ++ (oX k o f ++ wC q k r S Zc)) H := hP
  have hD : va_D (fun q => s.heap.size ≤ q) (wM g k S Zm ++ (oX k o f ++ wC q k r S Zc)) := hD
  refine lv_aload_n hx hb dL_law_324 rfl (lv_at hl 1 rfl) ?_
  refine lq_rd hx hb hXs hbl hS (i := 6 * T) (j := 1) (lv_at hl 0 rfl) (lv_at hl 4 rfl) (by omega) hL dL_law_325 dL_law_326 dL_law_328 (by decide) dL_law_329 dL_law_330 ?_
  refine lq_rd hx hb hXs hbl hS (i := 6 * T) (j := 2) (lv_at hl 0 rfl) (lv_at hl 4 rfl) (by omega) hL dL_law_331 dL_law_332 dL_law_334 (by decide) dL_law_335 dL_law_336 ?_
  refine lq_rd hx hb hXs hbl hS (i := 6 * T) (j := 3) (lv_at hl 0 rfl) (lv_at hl 4 rfl) (by omega) hL dL_law_337 dL_law_338 dL_law_340 (by decide) dL_law_341 dL_law_342 ?_
  refine lv_aload_n hx hb dL_law_343 rfl (lv_at hl 3 rfl) ?_
  refine ls_Si (Wr := wM g k S Zm) (Wd := oX k o f ++ wC q k r S Zc) (As := [.ref (q 0), .int (xs (6 * T + 1)), .int (xs (6 * T + 2)), .int (xs (6 * T + 3)), .ref o]) (rest := []) hF (k_L_lift l hst D q k r S Zc _ o f (xs (6 * T + 1)) (xs (6 * T + 2)) (xs (6 * T + 3)) hI.Bd hI.le.2.2.1 (hI.hz hC)) (vx_cwSW 5 hts gL_law_L_lift rfl rfl rfl (by decide +kernel) ⟨by decide, by decide⟩) hX hT hN hZ hP hD hS hA rfl hl.1 rfl (Nat.le_of_ble_eq_true rfl) dL_law_344 ⟨by show _ ≤ 601024; omega, by show _ ≤ 7293034; omega⟩ (fun k9 u1 H locs hp1 hP hD hS => ?_)
  obtain ⟨S3, Zc3, f3⟩ := u1
  obtain ⟨rfl, hp1⟩ := hp1
  dsimp only at hp1 hP hD
  refine lv_istore (lv' := (5, .int (nI (cdL S (xs (6 * T + 1)) (xs (6 * T + 2)) (xs (6 * T + 3))))) :: LL b q g o (6 * T)) hx hb dL_law_347 hl (by decide) rfl (fun ls hl => ?_)
  refine lv_aload_n hx hb dL_law_349 rfl (lv_at hl 3 rfl) ?_
  refine lq_rd hx hb hXs hbl hS (i := 6 * T) (j := 1) (lv_at hl 1 rfl) (lv_at hl 5 rfl) (by omega) hL dL_law_350 dL_law_351 dL_law_353 (by decide) dL_law_354 dL_law_355 ?_
  refine lq_rd hx hb hXs hbl hS (i := 6 * T) (j := 2) (lv_at hl 1 rfl) (lv_at hl 5 rfl) (by omega) hL dL_law_356 dL_law_357 dL_law_359 (by decide) dL_law_360 dL_law_361 ?_
  refine lq_rd hx hb hXs hbl hS (i := 6 * T) (j := 3) (lv_at hl 1 rfl) (lv_at hl 5 rfl) (by omega) hL dL_law_362 dL_law_363 dL_law_365 (by decide) dL_law_366 dL_law_367 ?_
  refine lm_Vi (Wd := wM g k S Zm) (Wr := oX k o f3 ++ wC q k r S3 Zc3) (As := [.int (xs (6 * T + 1)), .int (xs (6 * T + 2)), .int (xs (6 * T + 3))]) (rest := []) hF (k_X3_lift l D g k S Zm _ (xs (6 * T + 1)) (xs (6 * T + 2)) (xs (6 * T + 3)) hI.Bd hI.le.2.2.1) (cwV 3 hts gL_law_X3_lift rfl rfl rfl (by decide +kernel) ⟨by decide, by decide⟩) hX hP hD hS hA (q0 := 0) rfl rfl rfl hl.1 rfl (Nat.le_of_ble_eq_true rfl) dL_law_368 ⟨by show _ ≤ 601024; omega, by show _ ≤ 7293034; omega⟩ (fun r9 u2 H locs hp2 hP hD hS => ?_)
  obtain ⟨S2, Zm2⟩ := u2
  obtain ⟨hr9, e2, e3⟩ := hp2
  dsimp only at hr9 e2 e3 hP hD
  have e30 : Zm2 0 0 = cdL S (xs (6 * T + 1)) (xs (6 * T + 2)) (xs (6 * T + 3)) := by rw [e3]; exact up2_same _ _ _ _
  have e31 : Rb (Zm2 1) := by rw [e3]; exact Rb_up hR
  obtain ⟨h1, h2, h3, h4⟩ : S3 = S2 ∧ IV (T + 1) S2 ∧ CI S2 Zc3 ∧ (cdL S (xs (6 * T + 1)) (xs (6 * T + 2)) (xs (6 * T + 3)) = 0 → f3 0 = (nI (S 0 1 / 2)).toInt64) := by
    rcases hp1 with ⟨h0, w1, w2, w3⟩ | ⟨h0, w1, w2⟩
    · have hn := np_lift (T := T) hI hC h0 w2
      have e9 := (e2.trans (nS_0 h0))
      subst e9
      exact ⟨w1, hn.1, hn.2, fun _ => w3⟩
    · have e9 := (e2.trans (nS_n h0))
      subst e9
      subst w2
      exact ⟨w1, hI.mono (Nat.le_succ T), hC, fun h => absurd h h0⟩
  subst h1
  refine lv_istore (lv' := (6, .int r9) :: (5, .int (nI (cdL S (xs (6 * T + 1)) (xs (6 * T + 2)) (xs (6 * T + 3))))) :: LL b q g o (6 * T)) hx hb dL_law_371 hl (by decide) rfl (fun ls hl => ?_)
  refine lq_thr hF hX hP e30 hl.1 (lv_at hl 4 rfl) (lv_at hl 1 rfl) (by omega) (by omega) dL_law_373 dL_law_374 dL_law_377 dL_law_379 ?_
  refine lq_out hF hX hP cd2_31 (fun h0 => (h4 h0).trans (congrArg Int32.toInt64 (hr9 h0).symm)) (lv_at hl 5 rfl) (lv_at hl 1 rfl) (lv_at hl 0 rfl) dL_law_384 dL_law_386 dL_law_389 dL_law_390 dL_law_391 dL_law_392 dL_law_394 dL_law_395 dL_law_396 dL_law_401 (by decide) ?_
  refine W.widen (k := cells + 5) (n := slots + 30) (by omega) (by omega) ?_
  exact N _ _ _ _ _ _ _ h2 h3 e31 hP hD hS (lv_sub hl [2, 3, 4, 5, 6] rfl)

set_option maxHeartbeats 4000000 in
set_option maxRecDepth 100000 in
theorem cs_turn {p : Program} {l : Launch} {e : Env} {s : State} {m : MethodId} {below : List Frame} {meth : Method} {c : Code} {b L : Nat} {xs : Nat → Int32} {D : va_G} {k : Nat → ClassId} {g q r : Nat → Nat} {o T cells slots : Nat} {Q : State → Prop} {S Zm Zc : Nat → Nat → Nat} {f : Nat → Int64} {H : Heap} {locs : List Loc} {ls : Array Slot} (C : LC p l s m c b L xs D k) (hi : 6 * T + 6 ≤ L) (hI : IV T S) (hC : CI S Zc) (hR : Rb (Zm 1)) (hP : va_P D vwCl (wL g q k r o S Zm S Zc f) H) (hD : va_D (fun q => s.heap.size ≤ q) (wL g q k r o S Zm S Zc f)) (hS : va_S (fun q => s.heap.size ≤ q) s.heap H locs) (hl : lv_has ls 7 (LL b q g o (6 * T))) (hc : cells ≤ 100000) (hs : slots ≤ 1000000) (N : LNx p l e s m below meth c b D k g q r o T cells slots Q) : W p l e room_1 s m #[Value.ref b] below meth c H locs cells slots Q (F0 m 404 ls []) := by
  obtain ⟨hF, hst, hXs, hbl, hL, hX, hT, hN, hZ⟩ := C
  have hx := hF.1
  have hb := hF.2.1
  have hts := hF.2.2.2.2
  have hA : ∀ q : Nat, s.heap.size ≤ q → s.heap.size ≤ q := fun _ h => h
  have hP : va_P D vwCl (wM g k S Zm ++ (oX k o f ++ wC q k r S Zc)) H := hP
  have hD : va_D (fun q => s.heap.size ≤ q) (wM g k S Zm ++ (oX k o f ++ wC q k r S Zc)) := hD
  refine lv_aload_n hx hb dL_law_404 rfl (lv_at hl 1 rfl) ?_
  refine lq_rd hx hb hXs hbl hS (i := 6 * T) (j := 1) (lv_at hl 0 rfl) (lv_at hl 4 rfl) (by omega) hL dL_law_405 dL_law_406 dL_law_408 (by decide) dL_law_409 dL_law_410 ?_
  refine lq_rd hx hb hXs hbl hS (i := 6 * T) (j := 2) (lv_at hl 0 rfl) (lv_at hl 4 rfl) (by omega) hL dL_law_411 dL_law_412 dL_law_414 (by decide) dL_law_415 dL_law_416 ?_
  refine lq_rd hx hb hXs hbl hS (i := 6 * T) (j := 3) (lv_at hl 0 rfl) (lv_at hl 4 rfl) (by omega) hL dL_law_417 dL_law_418 dL_law_420 (by decide) dL_law_421 dL_law_422 ?_
  refine lq_bool hx hb dL_law_423 dL_law_426 dL_law_427 dL_law_430 ?_
  refine lv_aload_n hx hb dL_law_431 rfl (lv_at hl 3 rfl) ?_
  refine ls_Si (Wr := wM g k S Zm) (Wd := oX k o f ++ wC q k r S Zc) (As := [.ref (q 0), .int (xs (6 * T + 1)), .int (xs (6 * T + 2)), .int (nI (bN (decide (xs (6 * T + 3) ≠ 0)))), .ref o]) (rest := []) hF (k_L_turn l hst D q k r S Zc _ o f (xs (6 * T + 1)) (xs (6 * T + 2)) (decide (xs (6 * T + 3) ≠ 0)) hI.Bd) (vx_cwSW 5 hts gL_law_L_turn rfl rfl rfl (by decide +kernel) ⟨by decide, by decide⟩) hX hT hN hZ hP hD hS hA rfl hl.1 rfl (Nat.le_of_ble_eq_true rfl) dL_law_432 ⟨by show _ ≤ 601024; omega, by show _ ≤ 7293034; omega⟩ (fun k9 u1 H locs hp1 hP hD hS => ?_)
  obtain ⟨S3, Zc3, f3⟩ := u1
  obtain ⟨rfl, hp1⟩ := hp1
  dsimp only at hp1 hP hD
  refine lv_istore (lv' := (5, .int (nI (cd1 (okT S (xs (6 * T + 1)) (xs (6 * T + 2)))))) :: LL b q g o (6 * T)) hx hb dL_law_435 hl (by decide) rfl (fun ls hl => ?_)
  refine lv_aload_n hx hb dL_law_437 rfl (lv_at hl 3 rfl) ?_
  refine lq_rd hx hb hXs hbl hS (i := 6 * T) (j := 1) (lv_at hl 1 rfl) (lv_at hl 5 rfl) (by omega) hL dL_law_438 dL_law_439 dL_law_441 (by decide) dL_law_442 dL_law_443 ?_
  refine lq_rd hx hb hXs hbl hS (i := 6 * T) (j := 2) (lv_at hl 1 rfl) (lv_at hl 5 rfl) (by omega) hL dL_law_444 dL_law_445 dL_law_447 (by decide) dL_law_448 dL_law_449 ?_
  refine lq_rd hx hb hXs hbl hS (i := 6 * T) (j := 3) (lv_at hl 1 rfl) (lv_at hl 5 rfl) (by omega) hL dL_law_450 dL_law_451 dL_law_453 (by decide) dL_law_454 dL_law_455 ?_
  refine lq_bool hx hb dL_law_456 dL_law_459 dL_law_460 dL_law_463 ?_
  refine lm_Vi (Wd := wM g k S Zm) (Wr := oX k o f3 ++ wC q k r S3 Zc3) (As := [.int (xs (6 * T + 1)), .int (xs (6 * T + 2)), .int (nI (bN (decide (xs (6 * T + 3) ≠ 0))))]) (rest := []) hF (k_X3_turn l D g k S Zm _ (xs (6 * T + 1)) (xs (6 * T + 2)) (decide (xs (6 * T + 3) ≠ 0)) hI.Bd) (cwV 3 hts gL_law_X3_turn rfl rfl rfl (by decide +kernel) ⟨by decide, by decide⟩) hX hP hD hS hA (q0 := 0) rfl rfl rfl hl.1 rfl (Nat.le_of_ble_eq_true rfl) dL_law_464 ⟨by show _ ≤ 601024; omega, by show _ ≤ 7293034; omega⟩ (fun r9 u2 H locs hp2 hP hD hS => ?_)
  obtain ⟨S2, Zm2⟩ := u2
  obtain ⟨hr9, e2, e3⟩ := hp2
  dsimp only at hr9 e2 e3 hP hD
  have e30 : Zm2 0 0 = cd1 (okT S (xs (6 * T + 1)) (xs (6 * T + 2))) := by rw [e3]; exact up2_same _ _ _ _
  have e31 : Rb (Zm2 1) := by rw [e3]; exact Rb_up hR
  obtain ⟨h1, h2, h3, h4⟩ : S3 = S2 ∧ IV (T + 1) S2 ∧ CI S2 Zc3 ∧ (cd1 (okT S (xs (6 * T + 1)) (xs (6 * T + 2))) = 0 → f3 0 = (nI (tuS S (2 * iN (xs (6 * T + 1)) + iN (xs (6 * T + 2))) (bN (decide (xs (6 * T + 3) ≠ 0))) 10 (2 * iN (xs (6 * T + 1))) + tuS S (2 * iN (xs (6 * T + 1)) + iN (xs (6 * T + 2))) (bN (decide (xs (6 * T + 3) ≠ 0))) 10 (2 * iN (xs (6 * T + 1)) + 1))).toInt64) := by
    rcases hp1 with ⟨h0, w1, w2, w3⟩ | ⟨h0, w1, w2⟩
    · have hn := np_turn (T := T) (b := decide (xs (6 * T + 3) ≠ 0)) hI hC h0 w2
      have e9 := (e2.trans (nS_0 h0))
      subst e9
      exact ⟨w1, hn.1, hn.2, fun _ => w3⟩
    · have e9 := (e2.trans (nS_n h0))
      subst e9
      subst w2
      exact ⟨w1, hI.mono (Nat.le_succ T), hC, fun h => absurd h h0⟩
  subst h1
  refine lv_istore (lv' := (6, .int r9) :: (5, .int (nI (cd1 (okT S (xs (6 * T + 1)) (xs (6 * T + 2)))))) :: LL b q g o (6 * T)) hx hb dL_law_467 hl (by decide) rfl (fun ls hl => ?_)
  refine lq_thr hF hX hP e30 hl.1 (lv_at hl 4 rfl) (lv_at hl 1 rfl) (by omega) (by omega) dL_law_469 dL_law_470 dL_law_473 dL_law_475 ?_
  refine lq_out hF hX hP cd2_31 (fun h0 => (h4 h0).trans (congrArg Int32.toInt64 (hr9 h0).symm)) (lv_at hl 5 rfl) (lv_at hl 1 rfl) (lv_at hl 0 rfl) dL_law_480 dL_law_482 dL_law_485 dL_law_486 dL_law_487 dL_law_488 dL_law_490 dL_law_491 dL_law_492 dL_law_497 (by decide) ?_
  refine W.widen (k := cells + 5) (n := slots + 30) (by omega) (by omega) ?_
  exact N _ _ _ _ _ _ _ h2 h3 e31 hP hD hS (lv_sub hl [2, 3, 4, 5, 6] rfl)

set_option maxHeartbeats 4000000 in
set_option maxRecDepth 100000 in
theorem cs_width {p : Program} {l : Launch} {e : Env} {s : State} {m : MethodId} {below : List Frame} {meth : Method} {c : Code} {b L : Nat} {xs : Nat → Int32} {D : va_G} {k : Nat → ClassId} {g q r : Nat → Nat} {o T cells slots : Nat} {Q : State → Prop} {S Zm Zc : Nat → Nat → Nat} {f : Nat → Int64} {H : Heap} {locs : List Loc} {ls : Array Slot} (C : LC p l s m c b L xs D k) (hi : 6 * T + 6 ≤ L) (hI : IV T S) (hC : CI S Zc) (hR : Rb (Zm 1)) (hP : va_P D vwCl (wL g q k r o S Zm S Zc f) H) (hD : va_D (fun q => s.heap.size ≤ q) (wL g q k r o S Zm S Zc f)) (hS : va_S (fun q => s.heap.size ≤ q) s.heap H locs) (hl : lv_has ls 7 (LL b q g o (6 * T))) (hc : cells ≤ 100000) (hs : slots ≤ 1000000) (N : LNx p l e s m below meth c b D k g q r o T cells slots Q) : W p l e room_1 s m #[Value.ref b] below meth c H locs cells slots Q (F0 m 500 ls []) := by
  obtain ⟨hF, hst, hXs, hbl, hL, hX, hT, hN, hZ⟩ := C
  have hx := hF.1
  have hb := hF.2.1
  have hts := hF.2.2.2.2
  have hA : ∀ q : Nat, s.heap.size ≤ q → s.heap.size ≤ q := fun _ h => h
  have hP : va_P D vwCl (wM g k S Zm ++ (oX k o f ++ wC q k r S Zc)) H := hP
  have hD : va_D (fun q => s.heap.size ≤ q) (wM g k S Zm ++ (oX k o f ++ wC q k r S Zc)) := hD
  refine lv_aload_n hx hb dL_law_500 rfl (lv_at hl 1 rfl) ?_
  refine lq_rd hx hb hXs hbl hS (i := 6 * T) (j := 1) (lv_at hl 0 rfl) (lv_at hl 4 rfl) (by omega) hL dL_law_501 dL_law_502 dL_law_504 (by decide) dL_law_505 dL_law_506 ?_
  refine lq_rd hx hb hXs hbl hS (i := 6 * T) (j := 2) (lv_at hl 0 rfl) (lv_at hl 4 rfl) (by omega) hL dL_law_507 dL_law_508 dL_law_510 (by decide) dL_law_511 dL_law_512 ?_
  refine ls_Si (Wr := wM g k S Zm) (Wd := oX k o f ++ wC q k r S Zc) (As := [.ref (q 0), .int (xs (6 * T + 1)), .int (xs (6 * T + 2))]) (rest := []) hF (k_L_width l hst D q k r S Zc _ o f (xs (6 * T + 1)) (xs (6 * T + 2)) hI.Bd) (vx_cwSW 3 hts gL_law_L_width rfl rfl rfl (by decide +kernel) ⟨by decide, by decide⟩) hX hT hN hZ hP hD hS hA rfl hl.1 rfl (Nat.le_of_ble_eq_true rfl) dL_law_513 ⟨by show _ ≤ 601024; omega, by show _ ≤ 7293034; omega⟩ (fun k9 u1 H locs hp1 hP hD hS => ?_)
  obtain ⟨S3, Zc3, f3⟩ := u1
  obtain ⟨rfl, hp1⟩ := hp1
  dsimp only at hp1 hP hD
  refine lv_istore (lv' := (5, .int (nI (cd1 (okW S (xs (6 * T + 1)) (xs (6 * T + 2)))))) :: LL b q g o (6 * T)) hx hb dL_law_516 hl (by decide) rfl (fun ls hl => ?_)
  refine lv_aload_n hx hb dL_law_518 rfl (lv_at hl 3 rfl) ?_
  refine lq_rd hx hb hXs hbl hS (i := 6 * T) (j := 1) (lv_at hl 1 rfl) (lv_at hl 5 rfl) (by omega) hL dL_law_519 dL_law_520 dL_law_522 (by decide) dL_law_523 dL_law_524 ?_
  refine lq_rd hx hb hXs hbl hS (i := 6 * T) (j := 2) (lv_at hl 1 rfl) (lv_at hl 5 rfl) (by omega) hL dL_law_525 dL_law_526 dL_law_528 (by decide) dL_law_529 dL_law_530 ?_
  refine lm_Vv (Wd := wM g k S Zm) (Wr := oX k o f3 ++ wC q k r S3 Zc3) (As := [.int (xs (6 * T + 1)), .int (xs (6 * T + 2))]) (rest := []) hF (k_X3_width l D g k S Zm _ (xs (6 * T + 1)) (xs (6 * T + 2)) hI.Bd) (cwV 2 hts gL_law_X3_width rfl rfl rfl (by decide +kernel) ⟨by decide, by decide⟩) hX hP hD hS hA (q0 := 0) rfl rfl rfl hl.1 rfl (Nat.le_of_ble_eq_true rfl) dL_law_531 ⟨by show _ ≤ 601024; omega, by show _ ≤ 7293034; omega⟩ (fun u2 H locs hp2 hP hD hS => ?_)
  obtain ⟨S2, Zm2⟩ := u2
  obtain ⟨e2, e3⟩ := hp2
  dsimp only at e2 e3 hP hD
  have e30 : Zm2 0 0 = cd1 (okW S (xs (6 * T + 1)) (xs (6 * T + 2))) := by rw [e3]; exact up2_same _ _ _ _
  have e31 : Rb (Zm2 1) := by rw [e3]; exact Rb_up hR
  obtain ⟨h1, h2, h3, h4⟩ : S3 = S2 ∧ IV (T + 1) S2 ∧ CI S2 Zc3 ∧ (cd1 (okW S (xs (6 * T + 1)) (xs (6 * T + 2))) = 0 → f3 0 = f3 0) := by
    rcases hp1 with ⟨h0, w1, w2, w3⟩ | ⟨h0, w1, w2⟩
    · have hn := np_width (T := T) hI hC h0 w2
      have e9 := (e2.trans (nS_0 h0))
      subst e9
      exact ⟨w1, hn.1, hn.2, fun _ => rfl⟩
    · have e9 := (e2.trans (nS_n h0))
      subst e9
      subst w2
      exact ⟨w1, hI.mono (Nat.le_succ T), hC, fun h => absurd h h0⟩
  subst h1
  refine lq_thr hF hX hP e30 hl.1 (lv_at hl 3 rfl) (lv_at hl 0 rfl) (by omega) (by omega) dL_law_534 dL_law_535 dL_law_538 dL_law_540 ?_
  refine lv_goto (tgt := 1346) hx hb dL_law_545 (by decide) ?_
  refine W.widen (k := cells + 5) (n := slots + 30) (by omega) (by omega) ?_
  exact N _ _ _ _ _ _ _ h2 h3 e31 hP hD hS (lv_sub hl [1, 2, 3, 4, 5] rfl)

set_option maxHeartbeats 4000000 in
set_option maxRecDepth 100000 in
theorem cs_zone {p : Program} {l : Launch} {e : Env} {s : State} {m : MethodId} {below : List Frame} {meth : Method} {c : Code} {b L : Nat} {xs : Nat → Int32} {D : va_G} {k : Nat → ClassId} {g q r : Nat → Nat} {o T cells slots : Nat} {Q : State → Prop} {S Zm Zc : Nat → Nat → Nat} {f : Nat → Int64} {H : Heap} {locs : List Loc} {ls : Array Slot} (C : LC p l s m c b L xs D k) (hi : 6 * T + 6 ≤ L) (hI : IV T S) (hC : CI S Zc) (hR : Rb (Zm 1)) (hP : va_P D vwCl (wL g q k r o S Zm S Zc f) H) (hD : va_D (fun q => s.heap.size ≤ q) (wL g q k r o S Zm S Zc f)) (hS : va_S (fun q => s.heap.size ≤ q) s.heap H locs) (hl : lv_has ls 7 (LL b q g o (6 * T))) (hc : cells ≤ 100000) (hs : slots ≤ 1000000) (N : LNx p l e s m below meth c b D k g q r o T cells slots Q) : W p l e room_1 s m #[Value.ref b] below meth c H locs cells slots Q (F0 m 548 ls []) := by
  obtain ⟨hF, hst, hXs, hbl, hL, hX, hT, hN, hZ⟩ := C
  have hx := hF.1
  have hb := hF.2.1
  have hts := hF.2.2.2.2
  have hA : ∀ q : Nat, s.heap.size ≤ q → s.heap.size ≤ q := fun _ h => h
  have hP : va_P D vwCl (wM g k S Zm ++ (oX k o f ++ wC q k r S Zc)) H := hP
  have hD : va_D (fun q => s.heap.size ≤ q) (wM g k S Zm ++ (oX k o f ++ wC q k r S Zc)) := hD
  refine lv_aload_n hx hb dL_law_548 rfl (lv_at hl 1 rfl) ?_
  refine lq_rd hx hb hXs hbl hS (i := 6 * T) (j := 1) (lv_at hl 0 rfl) (lv_at hl 4 rfl) (by omega) hL dL_law_549 dL_law_550 dL_law_552 (by decide) dL_law_553 dL_law_554 ?_
  refine lq_rd hx hb hXs hbl hS (i := 6 * T) (j := 2) (lv_at hl 0 rfl) (lv_at hl 4 rfl) (by omega) hL dL_law_555 dL_law_556 dL_law_558 (by decide) dL_law_559 dL_law_560 ?_
  refine lq_rd hx hb hXs hbl hS (i := 6 * T) (j := 3) (lv_at hl 0 rfl) (lv_at hl 4 rfl) (by omega) hL dL_law_561 dL_law_562 dL_law_564 (by decide) dL_law_565 dL_law_566 ?_
  refine lq_bool hx hb dL_law_567 dL_law_570 dL_law_571 dL_law_574 ?_
  refine lv_aload_n hx hb dL_law_575 rfl (lv_at hl 3 rfl) ?_
  refine ls_Si (Wr := wM g k S Zm) (Wd := oX k o f ++ wC q k r S Zc) (As := [.ref (q 0), .int (xs (6 * T + 1)), .int (xs (6 * T + 2)), .int (nI (bN (decide (xs (6 * T + 3) ≠ 0)))), .ref o]) (rest := []) hF (k_L_zone l hst D q k r S Zc _ o f (xs (6 * T + 1)) (xs (6 * T + 2)) (decide (xs (6 * T + 3) ≠ 0)) hI.Bd) (vx_cwSW 5 hts gL_law_L_zone rfl rfl rfl (by decide +kernel) ⟨by decide, by decide⟩) hX hT hN hZ hP hD hS hA rfl hl.1 rfl (Nat.le_of_ble_eq_true rfl) dL_law_576 ⟨by show _ ≤ 601024; omega, by show _ ≤ 7293034; omega⟩ (fun k9 u1 H locs hp1 hP hD hS => ?_)
  obtain ⟨S3, Zc3, f3⟩ := u1
  obtain ⟨rfl, hp1⟩ := hp1
  dsimp only at hp1 hP hD
  refine lv_istore (lv' := (5, .int (nI (cd1 (okZ S (xs (6 * T + 1)) (xs (6 * T + 2)))))) :: LL b q g o (6 * T)) hx hb dL_law_579 hl (by decide) rfl (fun ls hl => ?_)
  refine lv_aload_n hx hb dL_law_581 rfl (lv_at hl 3 rfl) ?_
  refine lq_rd hx hb hXs hbl hS (i := 6 * T) (j := 1) (lv_at hl 1 rfl) (lv_at hl 5 rfl) (by omega) hL dL_law_582 dL_law_583 dL_law_585 (by decide) dL_law_586 dL_law_587 ?_
  refine lq_rd hx hb hXs hbl hS (i := 6 * T) (j := 2) (lv_at hl 1 rfl) (lv_at hl 5 rfl) (by omega) hL dL_law_588 dL_law_589 dL_law_591 (by decide) dL_law_592 dL_law_593 ?_
  refine lq_rd hx hb hXs hbl hS (i := 6 * T) (j := 3) (lv_at hl 1 rfl) (lv_at hl 5 rfl) (by omega) hL dL_law_594 dL_law_595 dL_law_597 (by decide) dL_law_598 dL_law_599 ?_
  refine lq_bool hx hb dL_law_600 dL_law_603 dL_law_604 dL_law_607 ?_
  refine lm_Vi (Wd := wM g k S Zm) (Wr := oX k o f3 ++ wC q k r S3 Zc3) (As := [.int (xs (6 * T + 1)), .int (xs (6 * T + 2)), .int (nI (bN (decide (xs (6 * T + 3) ≠ 0))))]) (rest := []) hF (k_X3_zone l D g k S Zm _ (xs (6 * T + 1)) (xs (6 * T + 2)) (decide (xs (6 * T + 3) ≠ 0)) hI.Bd) (cwV 3 hts gL_law_X3_zone rfl rfl rfl (by decide +kernel) ⟨by decide, by decide⟩) hX hP hD hS hA (q0 := 0) rfl rfl rfl hl.1 rfl (Nat.le_of_ble_eq_true rfl) dL_law_608 ⟨by show _ ≤ 601024; omega, by show _ ≤ 7293034; omega⟩ (fun r9 u2 H locs hp2 hP hD hS => ?_)
  obtain ⟨S2, Zm2⟩ := u2
  obtain ⟨hr9, e2, e3⟩ := hp2
  dsimp only at hr9 e2 e3 hP hD
  have e30 : Zm2 0 0 = cd1 (okZ S (xs (6 * T + 1)) (xs (6 * T + 2))) := by rw [e3]; exact up2_same _ _ _ _
  have e31 : Rb (Zm2 1) := by rw [e3]; exact Rb_up hR
  obtain ⟨h1, h2, h3, h4⟩ : S3 = S2 ∧ IV (T + 1) S2 ∧ CI S2 Zc3 ∧ (cd1 (okZ S (xs (6 * T + 1)) (xs (6 * T + 2))) = 0 → f3 0 = (nI (pop (wb (S 6 (iN (xs (6 * T + 1)))) (iN (xs (6 * T + 2))) (decide (xs (6 * T + 3) ≠ 0))))).toInt64) := by
    rcases hp1 with ⟨h0, w1, w2, w3⟩ | ⟨h0, w1, w2⟩
    · have hn := np_zone (T := T) (b := decide (xs (6 * T + 3) ≠ 0)) hI hC h0 w2
      have e9 := (e2.trans (nS_0 h0))
      subst e9
      exact ⟨w1, hn.1, hn.2, fun _ => w3⟩
    · have e9 := (e2.trans (nS_n h0))
      subst e9
      subst w2
      exact ⟨w1, hI.mono (Nat.le_succ T), hC, fun h => absurd h h0⟩
  subst h1
  refine lv_istore (lv' := (6, .int r9) :: (5, .int (nI (cd1 (okZ S (xs (6 * T + 1)) (xs (6 * T + 2)))))) :: LL b q g o (6 * T)) hx hb dL_law_611 hl (by decide) rfl (fun ls hl => ?_)
  refine lq_thr hF hX hP e30 hl.1 (lv_at hl 4 rfl) (lv_at hl 1 rfl) (by omega) (by omega) dL_law_613 dL_law_614 dL_law_617 dL_law_619 ?_
  refine lq_out hF hX hP cd2_31 (fun h0 => (h4 h0).trans (congrArg Int32.toInt64 (hr9 h0).symm)) (lv_at hl 5 rfl) (lv_at hl 1 rfl) (lv_at hl 0 rfl) dL_law_624 dL_law_626 dL_law_629 dL_law_630 dL_law_631 dL_law_632 dL_law_634 dL_law_635 dL_law_636 dL_law_641 (by decide) ?_
  refine W.widen (k := cells + 5) (n := slots + 30) (by omega) (by omega) ?_
  exact N _ _ _ _ _ _ _ h2 h3 e31 hP hD hS (lv_sub hl [2, 3, 4, 5, 6] rfl)
