set_option maxHeartbeats 4000000 in
set_option maxRecDepth 100000 in
theorem cs_nearest {p : Program} {l : Launch} {e : Env} {s : State} {m : MethodId} {below : List Frame} {meth : Method} {c : Code} {b L : Nat} {xs : Nat → Int32} {D : va_G} {k : Nat → ClassId} {g q r : Nat → Nat} {o T cells slots : Nat} {Q : State → Prop} {S Zm Zc : Nat → Nat → Nat} {f : Nat → Int64} {H : Heap} {locs : List Loc} {ls : Array Slot} (C : LC p l s m c b L xs D k) (hi : 6 * T + 6 ≤ L) (hI : IV T S) (hC : CI S Zc) (hR : Rb (Zm 1)) (hP : va_P D vwCl (wL g q k r o S Zm S Zc f) H) (hD : va_D (fun q => s.heap.size ≤ q) (wL g q k r o S Zm S Zc f)) (hS : va_S (fun q => s.heap.size ≤ q) s.heap H locs) (hl : lv_has ls 7 (LL b q g o (6 * T))) (hc : cells ≤ 100000) (hs : slots ≤ 1000000) (N : LNx p l e s m below meth c b D k g q r o T cells slots Q) : W p l e room_1 s m #[Value.ref b] below meth c H locs cells slots Q (F0 m 1056 ls []) := by
  obtain ⟨hF, hst, hXs, hbl, hL, hX, hT, hN, hZ⟩ := C
  have hx := hF.1
  have hb := hF.2.1
  have hts := hF.2.2.2.2
  have hA : ∀ q : Nat, s.heap.size ≤ q → s.heap.size ≤ q := fun _ h => h
  have hP : va_P D vwCl (wM g k S Zm ++ (oX k o f ++ wC q k r S Zc)) H := hP
  have hD : va_D (fun q => s.heap.size ≤ q) (wM g k S Zm ++ (oX k o f ++ wC q k r S Zc)) := hD
  refine lv_aload_n hx hb dL_law_1056 rfl (lv_at hl 1 rfl) ?_
  refine lq_rd hx hb hXs hbl hS (i := 6 * T) (j := 1) (lv_at hl 0 rfl) (lv_at hl 4 rfl) (by omega) hL dL_law_1057 dL_law_1058 dL_law_1060 (by decide) dL_law_1061 dL_law_1062 ?_
  refine lq_rd hx hb hXs hbl hS (i := 6 * T) (j := 2) (lv_at hl 0 rfl) (lv_at hl 4 rfl) (by omega) hL dL_law_1063 dL_law_1064 dL_law_1066 (by decide) dL_law_1067 dL_law_1068 ?_
  refine lq_rd hx hb hXs hbl hS (i := 6 * T) (j := 3) (lv_at hl 0 rfl) (lv_at hl 4 rfl) (by omega) hL dL_law_1069 dL_law_1070 dL_law_1072 (by decide) dL_law_1073 dL_law_1074 ?_
  refine lv_aload_n hx hb dL_law_1075 rfl (lv_at hl 3 rfl) ?_
  refine ls_Si (Wr := wM g k S Zm) (Wd := oX k o f ++ wC q k r S Zc) (As := [.ref (q 0), .int (xs (6 * T + 1)), .int (xs (6 * T + 2)), .int (xs (6 * T + 3)), .ref o]) (rest := []) hF (k_L_nearest l hst D q k r S Zc _ o f (xs (6 * T + 1)) (xs (6 * T + 2)) (xs (6 * T + 3)) hI.Bd hC.1 hC.2.1 hI.Gw) (vx_cwSW 5 hts gL_law_L_nearest rfl rfl rfl (by decide +kernel) ⟨by decide, by decide⟩) hX hT hN hZ hP hD hS hA rfl hl.1 rfl (Nat.le_of_ble_eq_true rfl) dL_law_1076 ⟨by show _ ≤ 601024; omega, by show _ ≤ 7293034; omega⟩ (fun k9 u1 H locs hp1 hP hD hS => ?_)
  obtain ⟨S3, Zc3, f3⟩ := u1
  obtain ⟨rfl, hp1⟩ := hp1
  dsimp only at hp1 hP hD
  refine lv_istore (lv' := (5, .int (nI (cd1 (okD S (xs (6 * T + 1)) (xs (6 * T + 2)) (xs (6 * T + 2)) (xs (6 * T + 3)))))) :: LL b q g o (6 * T)) hx hb dL_law_1079 hl (by decide) rfl (fun ls hl => ?_)
  refine lv_aload_n hx hb dL_law_1081 rfl (lv_at hl 3 rfl) ?_
  refine lq_rd hx hb hXs hbl hS (i := 6 * T) (j := 1) (lv_at hl 1 rfl) (lv_at hl 5 rfl) (by omega) hL dL_law_1082 dL_law_1083 dL_law_1085 (by decide) dL_law_1086 dL_law_1087 ?_
  refine lq_rd hx hb hXs hbl hS (i := 6 * T) (j := 2) (lv_at hl 1 rfl) (lv_at hl 5 rfl) (by omega) hL dL_law_1088 dL_law_1089 dL_law_1091 (by decide) dL_law_1092 dL_law_1093 ?_
  refine lq_rd hx hb hXs hbl hS (i := 6 * T) (j := 3) (lv_at hl 1 rfl) (lv_at hl 5 rfl) (by omega) hL dL_law_1094 dL_law_1095 dL_law_1097 (by decide) dL_law_1098 dL_law_1099 ?_
  refine lm_Vi (Wd := wM g k S Zm) (Wr := oX k o f3 ++ wC q k r S3 Zc3) (As := [.int (xs (6 * T + 1)), .int (xs (6 * T + 2)), .int (xs (6 * T + 3))]) (rest := []) hF (k_X3_nearest l D g k S Zm _ (xs (6 * T + 1)) (xs (6 * T + 2)) (xs (6 * T + 3)) hI.Bd hI.Jn hR hI.Gr) (cwV 3 hts gL_law_X3_nearest rfl rfl rfl (by decide +kernel) ⟨by decide, by decide⟩) hX hP hD hS hA (q0 := 0) rfl rfl rfl hl.1 rfl (Nat.le_of_ble_eq_true rfl) dL_law_1100 ⟨by show _ ≤ 601024; omega, by show _ ≤ 7293034; omega⟩ (fun r9 u2 H locs hp2 hP hD hS => ?_)
  obtain ⟨S2, Zm2⟩ := u2
  obtain ⟨hr9, e2, e30, e31⟩ := hp2
  dsimp only at hr9 e2 e30 e31 hP hD
  obtain ⟨h1, h2, h3, h4⟩ : S3 = S2 ∧ IV (T + 1) S2 ∧ CI S2 Zc3 ∧ (cd1 (okD S (xs (6 * T + 1)) (xs (6 * T + 2)) (xs (6 * T + 2)) (xs (6 * T + 3))) = 0 → f3 0 = (pI (nrB S (S 11 (iN (xs (6 * T + 1)))) (iN (xs (6 * T + 3))) (iN (xs (6 * T + 2))) (S 0 0)).1).toInt64) := by
    rcases hp1 with ⟨h0, w1, w2, w3⟩ | ⟨h0, w1, w2⟩
    · have hn := np_nearest (T := T) hI hC h0 w2
      have e9 := e2
      subst e9
      exact ⟨w1, hn.1, hn.2, fun _ => w3⟩
    · have e9 := e2
      subst e9
      subst w2
      exact ⟨w1, hI.mono (Nat.le_succ T), hC, fun h => absurd h h0⟩
  subst h1
  refine lv_istore (lv' := (6, .int r9) :: (5, .int (nI (cd1 (okD S (xs (6 * T + 1)) (xs (6 * T + 2)) (xs (6 * T + 2)) (xs (6 * T + 3)))))) :: LL b q g o (6 * T)) hx hb dL_law_1103 hl (by decide) rfl (fun ls hl => ?_)
  refine lq_thr hF hX hP e30 hl.1 (lv_at hl 4 rfl) (lv_at hl 1 rfl) (by omega) (by omega) dL_law_1105 dL_law_1106 dL_law_1109 dL_law_1111 ?_
  refine lq_out hF hX hP cd2_31 (fun h0 => (h4 h0).trans (congrArg Int32.toInt64 (hr9 h0).symm)) (lv_at hl 5 rfl) (lv_at hl 1 rfl) (lv_at hl 0 rfl) dL_law_1116 dL_law_1118 dL_law_1121 dL_law_1122 dL_law_1123 dL_law_1124 dL_law_1126 dL_law_1127 dL_law_1128 dL_law_1133 (by decide) ?_
  refine W.widen (k := cells + 5) (n := slots + 30) (by omega) (by omega) ?_
  exact N _ _ _ _ _ _ _ h2 h3 e31 hP hD hS (lv_sub hl [2, 3, 4, 5, 6] rfl)

set_option maxHeartbeats 4000000 in
set_option maxRecDepth 100000 in
theorem cs_table {p : Program} {l : Launch} {e : Env} {s : State} {m : MethodId} {below : List Frame} {meth : Method} {c : Code} {b L : Nat} {xs : Nat → Int32} {D : va_G} {k : Nat → ClassId} {g q r : Nat → Nat} {o T cells slots : Nat} {Q : State → Prop} {S Zm Zc : Nat → Nat → Nat} {f : Nat → Int64} {H : Heap} {locs : List Loc} {ls : Array Slot} (C : LC p l s m c b L xs D k) (hi : 6 * T + 6 ≤ L) (hI : IV T S) (hC : CI S Zc) (hR : Rb (Zm 1)) (hP : va_P D vwCl (wL g q k r o S Zm S Zc f) H) (hD : va_D (fun q => s.heap.size ≤ q) (wL g q k r o S Zm S Zc f)) (hS : va_S (fun q => s.heap.size ≤ q) s.heap H locs) (hl : lv_has ls 7 (LL b q g o (6 * T))) (hc : cells ≤ 100000) (hs : slots ≤ 1000000) (N : LNx p l e s m below meth c b D k g q r o T cells slots Q) : W p l e room_1 s m #[Value.ref b] below meth c H locs cells slots Q (F0 m 1136 ls []) := by
  obtain ⟨hF, hst, hXs, hbl, hL, hX, hT, hN, hZ⟩ := C
  have hx := hF.1
  have hb := hF.2.1
  have hts := hF.2.2.2.2
  have hA : ∀ q : Nat, s.heap.size ≤ q → s.heap.size ≤ q := fun _ h => h
  have hI4 : S 0 4 < 2 ^ 30 := by have := hI.le.2.2.2.2.2.1; omega
  have hP : va_P D vwCl (wM g k S Zm ++ (oX k o f ++ wC q k r S Zc)) H := hP
  have hD : va_D (fun q => s.heap.size ≤ q) (wM g k S Zm ++ (oX k o f ++ wC q k r S Zc)) := hD
  refine lv_aload_n hx hb dL_law_1136 rfl (lv_at hl 1 rfl) ?_
  refine lq_rd hx hb hXs hbl hS (i := 6 * T) (j := 1) (lv_at hl 0 rfl) (lv_at hl 4 rfl) (by omega) hL dL_law_1137 dL_law_1138 dL_law_1140 (by decide) dL_law_1141 dL_law_1142 ?_
  refine lq_rd hx hb hXs hbl hS (i := 6 * T) (j := 2) (lv_at hl 0 rfl) (lv_at hl 4 rfl) (by omega) hL dL_law_1143 dL_law_1144 dL_law_1146 (by decide) dL_law_1147 dL_law_1148 ?_
  refine lv_aload_n hx hb dL_law_1149 rfl (lv_at hl 3 rfl) ?_
  refine ls_Si (Wr := wM g k S Zm) (Wd := oX k o f ++ wC q k r S Zc) (As := [.ref (q 0), .int (xs (6 * T + 1)), .int (xs (6 * T + 2)), .ref o]) (rest := []) hF (k_L_table l hst D q k r S Zc _ o f (xs (6 * T + 1)) (xs (6 * T + 2)) hI.Bd hC hI.Gr hI4 hI.c13 hI.le.2.2.2.2.2.2.2.2 hI.c12) (vx_cwSW 4 hts gL_law_L_table rfl rfl rfl (by decide +kernel) ⟨by decide, by decide⟩) hX hT hN hZ hP hD hS hA rfl hl.1 rfl (Nat.le_of_ble_eq_true rfl) dL_law_1150 ⟨by show _ ≤ 601024; omega, by show _ ≤ 7293034; omega⟩ (fun k9 u1 H locs hp1 hP hD hS => ?_)
  obtain ⟨S3, Zc3, f3⟩ := u1
  obtain ⟨rfl, hp1⟩ := hp1
  dsimp only at hp1 hP hD
  refine lv_istore (lv' := (5, .int (nI (cdTb S (xs (6 * T + 1)) (xs (6 * T + 2))))) :: LL b q g o (6 * T)) hx hb dL_law_1153 hl (by decide) rfl (fun ls hl => ?_)
  refine lv_aload_n hx hb dL_law_1155 rfl (lv_at hl 3 rfl) ?_
  refine lq_rd hx hb hXs hbl hS (i := 6 * T) (j := 1) (lv_at hl 1 rfl) (lv_at hl 5 rfl) (by omega) hL dL_law_1156 dL_law_1157 dL_law_1159 (by decide) dL_law_1160 dL_law_1161 ?_
  refine lq_rd hx hb hXs hbl hS (i := 6 * T) (j := 2) (lv_at hl 1 rfl) (lv_at hl 5 rfl) (by omega) hL dL_law_1162 dL_law_1163 dL_law_1165 (by decide) dL_law_1166 dL_law_1167 ?_
  refine lm_Vi (Wd := wM g k S Zm) (Wr := oX k o f3 ++ wC q k r S3 Zc3) (As := [.int (xs (6 * T + 1)), .int (xs (6 * T + 2))]) (rest := []) hF (k_X3_table l D g k S Zm _ (xs (6 * T + 1)) (xs (6 * T + 2)) hI.Bd hI.Jn hR hI.Gr hI4 hI.c13 hI.le.2.2.2.2.2.2.2.2 hI.c12) (cwV 2 hts gL_law_X3_table rfl rfl rfl (by decide +kernel) ⟨by decide, by decide⟩) hX hP hD hS hA (q0 := 0) rfl rfl rfl hl.1 rfl (Nat.le_of_ble_eq_true rfl) dL_law_1168 ⟨by show _ ≤ 601024; omega, by show _ ≤ 7293034; omega⟩ (fun r9 u2 H locs hp2 hP hD hS => ?_)
  obtain ⟨S2, Zm2⟩ := u2
  obtain ⟨hr9, e2, e30, e31⟩ := hp2
  dsimp only at hr9 e2 e30 e31 hP hD
  obtain ⟨h1, h2, h3, h4⟩ : S3 = S2 ∧ IV (T + 1) S2 ∧ CI S2 Zc3 ∧ (cdTb S (xs (6 * T + 1)) (xs (6 * T + 2)) = 0 → f3 0 = (rI (secs S (S 11 0) 12 (S 12 (iN (xs (6 * T + 1)))) (S 12 (iN (xs (6 * T + 2)))))).toInt64) := by
    rcases hp1 with ⟨h0, w1, w2, w3⟩ | ⟨h0, w1, w2⟩
    · have hn := np_table (T := T) hI hC h0 w2
      have e9 := (e2.trans (nS_0 h0))
      subst e9
      exact ⟨w1, hn.1, hn.2, fun _ => w3⟩
    · have e9 := (e2.trans (nS_n h0))
      subst e9
      subst w2
      exact ⟨w1, hI.mono (Nat.le_succ T), hC, fun h => absurd h h0⟩
  subst h1
  refine lv_istore (lv' := (6, .int r9) :: (5, .int (nI (cdTb S (xs (6 * T + 1)) (xs (6 * T + 2))))) :: LL b q g o (6 * T)) hx hb dL_law_1171 hl (by decide) rfl (fun ls hl => ?_)
  refine lq_thr hF hX hP e30 hl.1 (lv_at hl 4 rfl) (lv_at hl 1 rfl) (by omega) (by omega) dL_law_1173 dL_law_1174 dL_law_1177 dL_law_1179 ?_
  refine lq_out hF hX hP cdTb_31 (fun h0 => (h4 h0).trans (congrArg Int32.toInt64 (hr9 h0).symm)) (lv_at hl 5 rfl) (lv_at hl 1 rfl) (lv_at hl 0 rfl) dL_law_1184 dL_law_1186 dL_law_1189 dL_law_1190 dL_law_1191 dL_law_1192 dL_law_1194 dL_law_1195 dL_law_1196 dL_law_1201 (by decide) ?_
  refine W.widen (k := cells + 5) (n := slots + 30) (by omega) (by omega) ?_
  exact N _ _ _ _ _ _ _ h2 h3 e31 hP hD hS (lv_sub hl [2, 3, 4, 5, 6] rfl)

set_option maxHeartbeats 4000000 in
set_option maxRecDepth 100000 in
theorem cs_rows {p : Program} {l : Launch} {e : Env} {s : State} {m : MethodId} {below : List Frame} {meth : Method} {c : Code} {b L : Nat} {xs : Nat → Int32} {D : va_G} {k : Nat → ClassId} {g q r : Nat → Nat} {o T cells slots : Nat} {Q : State → Prop} {S Zm Zc : Nat → Nat → Nat} {f : Nat → Int64} {H : Heap} {locs : List Loc} {ls : Array Slot} (C : LC p l s m c b L xs D k) (hi : 6 * T + 6 ≤ L) (hI : IV T S) (hC : CI S Zc) (hR : Rb (Zm 1)) (hP : va_P D vwCl (wL g q k r o S Zm S Zc f) H) (hD : va_D (fun q => s.heap.size ≤ q) (wL g q k r o S Zm S Zc f)) (hS : va_S (fun q => s.heap.size ≤ q) s.heap H locs) (hl : lv_has ls 7 (LL b q g o (6 * T))) (hc : cells ≤ 100000) (hs : slots ≤ 1000000) (N : LNx p l e s m below meth c b D k g q r o T cells slots Q) : W p l e room_1 s m #[Value.ref b] below meth c H locs cells slots Q (F0 m 1204 ls []) := by
  obtain ⟨hF, hst, hXs, hbl, hL, hX, hT, hN, hZ⟩ := C
  have hx := hF.1
  have hb := hF.2.1
  have hts := hF.2.2.2.2
  have hA : ∀ q : Nat, s.heap.size ≤ q → s.heap.size ≤ q := fun _ h => h
  have hP : va_P D vwCl (wM g k S Zm ++ (oX k o f ++ wC q k r S Zc)) H := hP
  have hD : va_D (fun q => s.heap.size ≤ q) (wM g k S Zm ++ (oX k o f ++ wC q k r S Zc)) := hD
  refine lv_aload_n hx hb dL_law_1204 rfl (lv_at hl 1 rfl) ?_
  refine rd_V (Wd := wC q k r S Zc) (As := []) (rest := []) hF (k_X2_rows l D q k r S Zc  ) (cwV 0 hts gL_law_X2_rows rfl rfl rfl (by decide +kernel) ⟨by decide, by decide⟩) hX (ap_P (ap_P hP).2).2 (q0 := 0) rfl rfl rfl hl.1 rfl (Nat.le_of_ble_eq_true rfl) dL_law_1205 ⟨by show _ ≤ 601024; omega, by show _ ≤ 7293034; omega⟩ ?_
  refine lv_aload_n hx hb dL_law_1208 rfl (lv_at hl 2 rfl) ?_
  refine lm_Vi (Wd := wM g k S Zm) (Wr := oX k o f ++ wC q k r S Zc) (As := []) (rest := [.int (nI (S 0 5))]) hF (k_X3_rows l D g k S Zm _  ) (cwV 0 hts gL_law_X3_rows rfl rfl rfl (by decide +kernel) ⟨by decide, by decide⟩) hX hP hD hS hA (q0 := 0) rfl rfl rfl hl.1 rfl (Nat.le_of_ble_eq_true rfl) dL_law_1209 ⟨by show _ ≤ 601024; omega, by show _ ≤ 7293034; omega⟩ (fun r9 u2 H locs hp2 hP hD hS => ?_)
  obtain ⟨S2, Zm2⟩ := u2
  obtain ⟨rfl, e2, e3⟩ := hp2
  dsimp only at e2 e3 hP hD
  subst e2
  subst e3
  refine lv_icmp_eq (tgt := 1346) hx hb dL_law_1212 (by decide) (fun _ => ?_) (fun h => absurd rfl h)
  refine W.widen (k := cells + 5) (n := slots + 30) (by omega) (by omega) ?_
  exact N _ _ _ _ _ _ _ (hI.mono (Nat.le_succ T)) hC (Rb_up hR) hP hD hS hl

set_option maxHeartbeats 4000000 in
set_option maxRecDepth 100000 in
theorem cs_plain {p : Program} {l : Launch} {e : Env} {s : State} {m : MethodId} {below : List Frame} {meth : Method} {c : Code} {b L : Nat} {xs : Nat → Int32} {D : va_G} {k : Nat → ClassId} {g q r : Nat → Nat} {o T cells slots : Nat} {Q : State → Prop} {S Zm Zc : Nat → Nat → Nat} {f : Nat → Int64} {H : Heap} {locs : List Loc} {ls : Array Slot} (C : LC p l s m c b L xs D k) (hi : 6 * T + 6 ≤ L) (hI : IV T S) (hC : CI S Zc) (hR : Rb (Zm 1)) (hP : va_P D vwCl (wL g q k r o S Zm S Zc f) H) (hD : va_D (fun q => s.heap.size ≤ q) (wL g q k r o S Zm S Zc f)) (hS : va_S (fun q => s.heap.size ≤ q) s.heap H locs) (hl : lv_has ls 7 (LL b q g o (6 * T))) (hc : cells ≤ 100000) (hs : slots ≤ 1000000) (N : LNx p l e s m below meth c b D k g q r o T cells slots Q) : W p l e room_1 s m #[Value.ref b] below meth c H locs cells slots Q (F0 m 1217 ls []) := by
  obtain ⟨hF, hst, hXs, hbl, hL, hX, hT, hN, hZ⟩ := C
  have hx := hF.1
  have hb := hF.2.1
  have hts := hF.2.2.2.2
  have hA : ∀ q : Nat, s.heap.size ≤ q → s.heap.size ≤ q := fun _ h => h
  have hP : va_P D vwCl (wM g k S Zm ++ (oX k o f ++ wC q k r S Zc)) H := hP
  have hD : va_D (fun q => s.heap.size ≤ q) (wM g k S Zm ++ (oX k o f ++ wC q k r S Zc)) := hD
  refine lv_aload_n hx hb dL_law_1217 rfl (lv_at hl 1 rfl) ?_
  refine lq_rd hx hb hXs hbl hS (i := 6 * T) (j := 1) (lv_at hl 0 rfl) (lv_at hl 4 rfl) (by omega) hL dL_law_1218 dL_law_1219 dL_law_1221 (by decide) dL_law_1222 dL_law_1223 ?_
  refine lq_rd hx hb hXs hbl hS (i := 6 * T) (j := 2) (lv_at hl 0 rfl) (lv_at hl 4 rfl) (by omega) hL dL_law_1224 dL_law_1225 dL_law_1227 (by decide) dL_law_1228 dL_law_1229 ?_
  refine lq_rd hx hb hXs hbl hS (i := 6 * T) (j := 3) (lv_at hl 0 rfl) (lv_at hl 4 rfl) (by omega) hL dL_law_1230 dL_law_1231 dL_law_1233 (by decide) dL_law_1234 dL_law_1235 ?_
  refine lq_rd hx hb hXs hbl hS (i := 6 * T) (j := 4) (lv_at hl 0 rfl) (lv_at hl 4 rfl) (by omega) hL dL_law_1236 dL_law_1237 dL_law_1239 (by decide) dL_law_1240 dL_law_1241 ?_
  refine lq_rd hx hb hXs hbl hS (i := 6 * T) (j := 5) (lv_at hl 0 rfl) (lv_at hl 4 rfl) (by omega) hL dL_law_1242 dL_law_1243 dL_law_1245 (by decide) dL_law_1246 dL_law_1247 ?_
  refine lv_aload_n hx hb dL_law_1248 rfl (lv_at hl 3 rfl) ?_
  refine ls_Si (Wr := wM g k S Zm) (Wd := oX k o f ++ wC q k r S Zc) (As := [.ref (q 0), .int (xs (6 * T + 1)), .int (xs (6 * T + 2)), .int (xs (6 * T + 3)), .int (xs (6 * T + 4)), .int (xs (6 * T + 5)), .ref o]) (rest := []) hF (k_L_plain l hst D q k r S Zc _ o f (xs (6 * T + 1)) (xs (6 * T + 2)) (xs (6 * T + 3)) (xs (6 * T + 4)) (xs (6 * T + 5)) hI.Bd hC.1 hC.2.1 hC.2.2.1 (fun p hp => by have := (hI.ends p hp).2.1; omega)) (vx_cwSW 7 hts gL_law_L_plain rfl rfl rfl (by decide +kernel) ⟨by decide, by decide⟩) hX hT hN hZ hP hD hS hA rfl hl.1 rfl (Nat.le_of_ble_eq_true rfl) dL_law_1249 ⟨by show _ ≤ 601024; omega, by show _ ≤ 7293034; omega⟩ (fun k9 u1 H locs hp1 hP hD hS => ?_)
  obtain ⟨S3, Zc3, f3⟩ := u1
  obtain ⟨rfl, hp1⟩ := hp1
  dsimp only at hp1 hP hD
  refine lv_istore (lv' := (5, .int (nI (cd1 (okD S (xs (6 * T + 1)) (xs (6 * T + 2)) (xs (6 * T + 3)) (xs (6 * T + 4)) ∧ 0 ≤ (xs (6 * T + 5)).toInt ∧ (xs (6 * T + 5)).toInt ≤ 5)))) :: LL b q g o (6 * T)) hx hb dL_law_1252 hl (by decide) rfl (fun ls hl => ?_)
  refine lv_aload_n hx hb dL_law_1254 rfl (lv_at hl 3 rfl) ?_
  refine lq_rd hx hb hXs hbl hS (i := 6 * T) (j := 1) (lv_at hl 1 rfl) (lv_at hl 5 rfl) (by omega) hL dL_law_1255 dL_law_1256 dL_law_1258 (by decide) dL_law_1259 dL_law_1260 ?_
  refine lq_rd hx hb hXs hbl hS (i := 6 * T) (j := 2) (lv_at hl 1 rfl) (lv_at hl 5 rfl) (by omega) hL dL_law_1261 dL_law_1262 dL_law_1264 (by decide) dL_law_1265 dL_law_1266 ?_
  refine lq_rd hx hb hXs hbl hS (i := 6 * T) (j := 3) (lv_at hl 1 rfl) (lv_at hl 5 rfl) (by omega) hL dL_law_1267 dL_law_1268 dL_law_1270 (by decide) dL_law_1271 dL_law_1272 ?_
  refine lq_rd hx hb hXs hbl hS (i := 6 * T) (j := 4) (lv_at hl 1 rfl) (lv_at hl 5 rfl) (by omega) hL dL_law_1273 dL_law_1274 dL_law_1276 (by decide) dL_law_1277 dL_law_1278 ?_
  refine lq_rd hx hb hXs hbl hS (i := 6 * T) (j := 5) (lv_at hl 1 rfl) (lv_at hl 5 rfl) (by omega) hL dL_law_1279 dL_law_1280 dL_law_1282 (by decide) dL_law_1283 dL_law_1284 ?_
  refine lm_Vi (Wd := wM g k S Zm) (Wr := oX k o f3 ++ wC q k r S3 Zc3) (As := [.int (xs (6 * T + 1)), .int (xs (6 * T + 2)), .int (xs (6 * T + 3)), .int (xs (6 * T + 4)), .int (xs (6 * T + 5))]) (rest := []) hF (k_X3_plain l D g k S Zm _ (xs (6 * T + 1)) (xs (6 * T + 2)) (xs (6 * T + 3)) (xs (6 * T + 4)) (xs (6 * T + 5)) hI.Bd hI.Jn hR) (cwV 5 hts gL_law_X3_plain rfl rfl rfl (by decide +kernel) ⟨by decide, by decide⟩) hX hP hD hS hA (q0 := 0) rfl rfl rfl hl.1 rfl (Nat.le_of_ble_eq_true rfl) dL_law_1285 ⟨by show _ ≤ 601024; omega, by show _ ≤ 7293034; omega⟩ (fun r9 u2 H locs hp2 hP hD hS => ?_)
  obtain ⟨S2, Zm2⟩ := u2
  obtain ⟨hr9, e2, e30, e31⟩ := hp2
  dsimp only at hr9 e2 e30 e31 hP hD
  obtain ⟨h1, h2, h3, h4⟩ : S3 = S2 ∧ IV (T + 1) S2 ∧ CI S2 Zc3 ∧ (cd1 (okD S (xs (6 * T + 1)) (xs (6 * T + 2)) (xs (6 * T + 3)) (xs (6 * T + 4)) ∧ 0 ≤ (xs (6 * T + 5)).toInt ∧ (xs (6 * T + 5)).toInt ≤ 5) = 0 → f3 0 = (nI (if iN (xs (6 * T + 2)) = iN (xs (6 * T + 3)) then 0 else cpl S (opn S (S 11 (iN (xs (6 * T + 1)))) (iN (xs (6 * T + 4)))) (iN (xs (6 * T + 2))) (iN (xs (6 * T + 3))) (iN (xs (6 * T + 5))))).toInt64) := by
    rcases hp1 with ⟨h0, w1, w2, w3⟩ | ⟨h0, w1, w2⟩
    · have hn := np_plain (T := T) hI hC h0 w2
      have e9 := e2
      subst e9
      exact ⟨w1, hn.1, hn.2, fun _ => w3⟩
    · have e9 := e2
      subst e9
      subst w2
      exact ⟨w1, hI.mono (Nat.le_succ T), hC, fun h => absurd h h0⟩
  subst h1
  refine lv_istore (lv' := (6, .int r9) :: (5, .int (nI (cd1 (okD S (xs (6 * T + 1)) (xs (6 * T + 2)) (xs (6 * T + 3)) (xs (6 * T + 4)) ∧ 0 ≤ (xs (6 * T + 5)).toInt ∧ (xs (6 * T + 5)).toInt ≤ 5)))) :: LL b q g o (6 * T)) hx hb dL_law_1288 hl (by decide) rfl (fun ls hl => ?_)
  refine lq_thr hF hX hP e30 hl.1 (lv_at hl 4 rfl) (lv_at hl 1 rfl) (by omega) (by omega) dL_law_1290 dL_law_1291 dL_law_1294 dL_law_1296 ?_
  refine lq_out hF hX hP cd2_31 (fun h0 => (h4 h0).trans (congrArg Int32.toInt64 ((hr9 h0).trans (by rw [cw_cpl])).symm)) (lv_at hl 5 rfl) (lv_at hl 1 rfl) (lv_at hl 0 rfl) dL_law_1301 dL_law_1303 dL_law_1306 dL_law_1307 dL_law_1308 dL_law_1309 dL_law_1311 dL_law_1312 dL_law_1313 dL_law_1318 (by decide) ?_
  refine W.widen (k := cells + 5) (n := slots + 30) (by omega) (by omega) ?_
  exact N _ _ _ _ _ _ _ h2 h3 e31 hP hD hS (lv_sub hl [2, 3, 4, 5, 6] rfl)

set_option maxHeartbeats 4000000 in
set_option maxRecDepth 100000 in
theorem cs_count {p : Program} {l : Launch} {e : Env} {s : State} {m : MethodId} {below : List Frame} {meth : Method} {c : Code} {b L : Nat} {xs : Nat → Int32} {D : va_G} {k : Nat → ClassId} {g q r : Nat → Nat} {o T cells slots : Nat} {Q : State → Prop} {S Zm Zc : Nat → Nat → Nat} {f : Nat → Int64} {H : Heap} {locs : List Loc} {ls : Array Slot} (C : LC p l s m c b L xs D k) (hi : 6 * T + 6 ≤ L) (hI : IV T S) (hC : CI S Zc) (hR : Rb (Zm 1)) (hP : va_P D vwCl (wL g q k r o S Zm S Zc f) H) (hD : va_D (fun q => s.heap.size ≤ q) (wL g q k r o S Zm S Zc f)) (hS : va_S (fun q => s.heap.size ≤ q) s.heap H locs) (hl : lv_has ls 7 (LL b q g o (6 * T))) (hc : cells ≤ 100000) (hs : slots ≤ 1000000) (N : LNx p l e s m below meth c b D k g q r o T cells slots Q) : W p l e room_1 s m #[Value.ref b] below meth c H locs cells slots Q (F0 m 1321 ls []) := by
  obtain ⟨hF, hst, hXs, hbl, hL, hX, hT, hN, hZ⟩ := C
  have hx := hF.1
  have hb := hF.2.1
  have hts := hF.2.2.2.2
  have hA : ∀ q : Nat, s.heap.size ≤ q → s.heap.size ≤ q := fun _ h => h
  have hP : va_P D vwCl (wM g k S Zm ++ (oX k o f ++ wC q k r S Zc)) H := hP
  have hD : va_D (fun q => s.heap.size ≤ q) (wM g k S Zm ++ (oX k o f ++ wC q k r S Zc)) := hD
  refine lv_aload_n hx hb dL_law_1321 rfl (lv_at hl 1 rfl) ?_
  refine lq_rd hx hb hXs hbl hS (i := 6 * T) (j := 1) (lv_at hl 0 rfl) (lv_at hl 4 rfl) (by omega) hL dL_law_1322 dL_law_1323 dL_law_1325 (by decide) dL_law_1326 dL_law_1327 ?_
  refine rd_V (Wd := wC q k r S Zc) (As := [.int (xs (6 * T + 1))]) (rest := []) hF (k_X2_count l D q k r S Zc (xs (6 * T + 1)) hI.Bd) (cwV 1 hts gL_law_X2_count rfl rfl rfl (by decide +kernel) ⟨by decide, by decide⟩) hX (ap_P (ap_P hP).2).2 (q0 := 0) rfl rfl rfl hl.1 rfl (Nat.le_of_ble_eq_true rfl) dL_law_1328 ⟨by show _ ≤ 601024; omega, by show _ ≤ 7293034; omega⟩ ?_
  refine lv_aload_n hx hb dL_law_1331 rfl (lv_at hl 2 rfl) ?_
  refine lq_rd hx hb hXs hbl hS (i := 6 * T) (j := 1) (lv_at hl 0 rfl) (lv_at hl 4 rfl) (by omega) hL dL_law_1332 dL_law_1333 dL_law_1335 (by decide) dL_law_1336 dL_law_1337 ?_
  refine lm_Vi (Wd := wM g k S Zm) (Wr := oX k o f ++ wC q k r S Zc) (As := [.int (xs (6 * T + 1))]) (rest := [.int (pI (cntR S (xs (6 * T + 1))))]) hF (k_X3_count l D g k S Zm _ (xs (6 * T + 1)) hI.Bd hI.le.2.2.1) (cwV 1 hts gL_law_X3_count rfl rfl rfl (by decide +kernel) ⟨by decide, by decide⟩) hX hP hD hS hA (q0 := 0) rfl rfl rfl hl.1 rfl (Nat.le_of_ble_eq_true rfl) dL_law_1338 ⟨by show _ ≤ 601024; omega, by show _ ≤ 7293034; omega⟩ (fun r9 u2 H locs hp2 hP hD hS => ?_)
  obtain ⟨S2, Zm2⟩ := u2
  obtain ⟨rfl, e2, e3⟩ := hp2
  dsimp only at e2 e3 hP hD
  subst e2
  subst e3
  refine lv_icmp_eq (tgt := 1346) hx hb dL_law_1341 (by decide) (fun _ => ?_) (fun h => absurd rfl h)
  refine W.widen (k := cells + 5) (n := slots + 30) (by omega) (by omega) ?_
  exact N _ _ _ _ _ _ _ (hI.mono (Nat.le_succ T)) hC (Rb_up hR) hP hD hS hl
