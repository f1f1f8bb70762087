set_option maxHeartbeats 4000000 in
set_option maxRecDepth 100000 in
theorem k_X3_maySet (l : Launch) (D : va_G) (q : Nat → Nat) (k : Nat → ClassId) (S Z : Nat → Nat → Nat) (b0 : Nat) (a0 : Nat) (d0 : Nat) (w0 : Nat) (h0 : Nat) (hB : Bd S) (hJ : Jn S) (hb0 : b0 < 6) (ha : a0 < S 0 0) (hd : d0 ≤ 6) (hw : w0 < S 0 1) (hh : h0 < 24) (hon : ∀ k, k < d0 → 0 < Z 2 k ∧ Z 2 k ≤ S 0 1) : Met l yX3_maySet wsX3_maySet ({ frames := 2, cells := 0, slots := 0, locals := 48 } : Room) (va_Pc [.ref (q 0), .int (nI b0), .int (nI a0), .int (nI d0), .int (nI w0), .int (nI h0)] (rB D k (wM q k S Z))) (vp_Si (fun r => r = nI (bN (msB S (opn S (S 11 b0) h0) a0 d0 (Z 2) w0)))) 0 0 (fun _ => False) := by
  refine Met.ofW (cc := cX3_maySet) (maxL := 13) (ret := (some .boolean)) (by decide) rfl ?_
  intro p e s m args below meth c s₁ B hml hv
  obtain ⟨rfl, hP, hX⟩ := hv
  have hx := B.exec
  have hb := B.bytes
  have hr := B.returns
  have hts := atoms_spec (ws := wsX3_maySet) B.pre
  have hown : s.vm.findClass RX3 = some m.cls := findClass_of_methodNamed B.named
  have hlocks := B.notSynchronized
  have hf_19 := hts (.fieldLink RX3 19 "FloorGraphModel" "both" "[Z") (by decide +kernel)
  have hf_56 := hts (.fieldLink RX3 56 "FloorGraphModel" "on" "[I") (by decide +kernel)
  have hin_X3 : ∀ w ∈ u_ws RX3 TX3 24, w ∈ wsX3_maySet := by decide +kernel
  have f0 := hB.1
  have f7 := hB.2.2.2.1 w0 hw
  have f4 := hB.2.1 a0
  have hw2 := half2 w0
  have hl := lv_entry ([.ref (q 0), .int (nI b0), .int (nI a0), .int (nI d0), .int (nI w0), .int (nI h0)]) (n := 13) (Nat.le_of_ble_eq_true rfl)
  rw [lg_entry_eq]
  generalize (lg_sl ([.ref (q 0), .int (nI b0), .int (nI a0), .int (nI d0), .int (nI w0), .int (nI h0)]) ++ List.replicate (13 - (lg_sl ([.ref (q 0), .int (nI b0), .int (nI a0), .int (nI d0), .int (nI w0), .int (nI h0)])).length) Slot.unset).toArray = ls at hl ⊢
  have hl : lv_has ls 13 [(0, .ref (q 0)), (1, .int (nI b0)), (2, .int (nI a0)), (3, .int (nI d0)), (4, .int (nI w0)), (5, .int (nI h0))] := hl
  refine lv_iload hx hb dX3_maySet_0 (lv_at hl 4 rfl) ?_
  refine lv_iconst (v := nI 2) hx hb dX3_maySet_2 (by decide) ?_
  refine na_idiv2 hx hb (by omega) dX3_maySet_3 ?_
  refine lv_istore (lv' := [(6, .int (nI (w0 / 2))), (0, .ref (q 0)), (1, .int (nI b0)), (2, .int (nI a0)), (3, .int (nI d0)), (4, .int (nI w0)), (5, .int (nI h0))]) hx hb dX3_maySet_4 hl (by decide) rfl (fun ls hl => ?_)
  refine lv_iload hx hb dX3_maySet_6 (lv_at hl 5 rfl) ?_
  refine lv_iconst (v := nI 2) hx hb dX3_maySet_8 (by decide) ?_
  refine na_irem2 hx hb (by omega) dX3_maySet_9 ?_
  refine lv_istore (lv' := [(7, .int (nI (w0 % 2))), (6, .int (nI (w0 / 2))), (0, .ref (q 0)), (1, .int (nI b0)), (2, .int (nI a0)), (3, .int (nI d0)), (4, .int (nI w0)), (5, .int (nI h0))]) hx hb dX3_maySet_10 hl (by decide) rfl (fun ls hl => ?_)
  refine lv_aload_n hx hb dX3_maySet_12 rfl (lv_at hl 2 rfl) ?_
  refine lv_iload_n hx hb dX3_maySet_13 rfl (lv_at hl 3 rfl) ?_
  refine lv_iload hx hb dX3_maySet_14 (lv_at hl 1 rfl) ?_
  refine lv_iload hx hb dX3_maySet_16 (lv_at hl 0 rfl) ?_
  refine lv_iload hx hb dX3_maySet_18 (lv_at hl 7 rfl) ?_
  refine rd_V (As := [.int (nI b0), .int (nI (w0 / 2)), .int (nI (w0 % 2)), .int (nI h0)]) (rest := []) ⟨hx, hb, hml, hown, hts⟩ (k_X3_mayGo l D q k S Z b0 (w0 / 2) (w0 % 2) h0 hB hJ hb0 (by omega) (by omega) hh) (cwV 4 hts gX3_maySet_X3_mayGo rfl rfl rfl (by decide +kernel) ⟨by decide, by decide⟩) hX hP (q0 := 0) rfl rfl rfl hl.1 rfl (Nat.le_of_ble_eq_true rfl) dX3_maySet_20 ⟨Nat.zero_le _, Nat.zero_le _⟩ ?_
  refine na_as (y := nI (bN (opn S (S 11 b0) h0 w0))) (by rw [hw2]) ?_
  refine na_if_ne (tgt := 28) hx hb (bN_lt _) dX3_maySet_23 (by decide) (fun h_23 => ?_) (fun h_23 => ?_)
  · skip
    refine lv_aload_n hx hb dX3_maySet_28 rfl (lv_at hl 2 rfl) ?_
    refine lv_iload hx hb dX3_maySet_29 (lv_at hl 1 rfl) ?_
    refine lv_iload hx hb dX3_maySet_31 (lv_at hl 0 rfl) ?_
    refine rd_V (As := [.int (nI (w0 / 2)), .int (nI (w0 % 2))]) (rest := []) ⟨hx, hb, hml, hown, hts⟩ (k_X3_from l D q k S Z (w0 / 2) (w0 % 2) hJ (by omega) (by omega)) (cwV 2 hts gX3_maySet_X3_from rfl rfl rfl (by decide +kernel) ⟨by decide, by decide⟩) hX hP (q0 := 0) rfl rfl rfl hl.1 rfl (Nat.le_of_ble_eq_true rfl) dX3_maySet_33 ⟨Nat.zero_le _, Nat.zero_le _⟩ ?_
    refine na_as (y := nI (S 7 w0)) (by rw [hw2]) ?_
    refine lv_istore (lv' := [(8, .int (nI (S 7 w0))), (7, .int (nI (w0 % 2))), (6, .int (nI (w0 / 2))), (0, .ref (q 0)), (1, .int (nI b0)), (2, .int (nI a0)), (3, .int (nI d0)), (4, .int (nI w0)), (5, .int (nI h0))]) hx hb dX3_maySet_36 hl (by decide) rfl (fun ls hl => ?_)
    have J113 : ∀ (f9 : Nat), (hf9 : f9 = bN (lvB S a0 d0 (Z 2) (S 7 w0))) → ∀ (ls : Array Slot), lv_has ls 13 [(8, .int (nI (S 7 w0))), (7, .int (nI (w0 % 2))), (6, .int (nI (w0 / 2))), (0, .ref (q 0)), (1, .int (nI b0)), (2, .int (nI a0)), (3, .int (nI d0)), (4, .int (nI w0)), (5, .int (nI h0)), (9, .int (nI f9))] → W p l e (headSpec wsX3_maySet ({ frames := 2, cells := 0, slots := 0, locals := 48 } : Room)).room s m [.ref (q 0), .int (nI b0), .int (nI a0), .int (nI d0), .int (nI w0), .int (nI h0)].toArray below meth c s.heap [] 0 0 (MQ below (vp_Si (fun r => r = nI (bN (msB S (opn S (S 11 b0) h0) a0 d0 (Z 2) w0)))) [.ref (q 0), .int (nI b0), .int (nI a0), .int (nI d0), .int (nI w0), .int (nI h0)].toArray s 0 0 (fun _ => False)) (F0 m 113 ls []) := by
      intro f9 hf9 ls hl
      refine lv_aload_n hx hb dX3_maySet_113 rfl (lv_at hl 3 rfl) ?_
      refine lv_iload hx hb dX3_maySet_114 (lv_at hl 2 rfl) ?_
      refine lv_iload hx hb dX3_maySet_116 (lv_at hl 1 rfl) ?_
      refine rd_V (As := [.int (nI (w0 / 2)), .int (nI (w0 % 2))]) (rest := []) ⟨hx, hb, hml, hown, hts⟩ (k_X3_to l D q k S Z (w0 / 2) (w0 % 2) hJ (by omega) (by omega)) (cwV 2 hts gX3_maySet_X3_to rfl rfl rfl (by decide +kernel) ⟨by decide, by decide⟩) hX hP (q0 := 0) rfl rfl rfl hl.1 rfl (Nat.le_of_ble_eq_true rfl) dX3_maySet_118 ⟨Nat.zero_le _, Nat.zero_le _⟩ ?_
      refine na_as (y := nI (S 8 w0)) (by rw [hw2]) ?_
      refine lv_iconst (v := nI 2) hx hb dX3_maySet_121 (by decide) ?_
      refine na_idiv2 hx hb (by omega) dX3_maySet_122 ?_
      refine lv_istore (lv' := [(10, .int (nI ((S 8 w0) / 2))), (8, .int (nI (S 7 w0))), (7, .int (nI (w0 % 2))), (6, .int (nI (w0 / 2))), (0, .ref (q 0)), (1, .int (nI b0)), (2, .int (nI a0)), (3, .int (nI d0)), (4, .int (nI w0)), (5, .int (nI h0)), (9, .int (nI f9))]) hx hb dX3_maySet_123 hl (by decide) rfl (fun ls hl => ?_)
      have J138 : ∀ (f11 : Nat), (hf11 : f11 = bN (snB S a0 0 (Z 2) (S 8 w0 / 2))) → ∀ (ls : Array Slot), lv_has ls 13 [(10, .int (nI ((S 8 w0) / 2))), (8, .int (nI (S 7 w0))), (7, .int (nI (w0 % 2))), (6, .int (nI (w0 / 2))), (0, .ref (q 0)), (1, .int (nI b0)), (2, .int (nI a0)), (3, .int (nI d0)), (4, .int (nI w0)), (5, .int (nI h0)), (9, .int (nI f9)), (11, .int (nI f11))] → W p l e (headSpec wsX3_maySet ({ frames := 2, cells := 0, slots := 0, locals := 48 } : Room)).room s m [.ref (q 0), .int (nI b0), .int (nI a0), .int (nI d0), .int (nI w0), .int (nI h0)].toArray below meth c s.heap [] 0 0 (MQ below (vp_Si (fun r => r = nI (bN (msB S (opn S (S 11 b0) h0) a0 d0 (Z 2) w0)))) [.ref (q 0), .int (nI b0), .int (nI a0), .int (nI d0), .int (nI w0), .int (nI h0)].toArray s 0 0 (fun _ => False)) (F0 m 138 ls []) := by
        intro f11 hf11 ls hl
        refine lv_iconst (v := nI 0) hx hb dX3_maySet_138 (by decide) ?_
        refine lv_istore (lv' := [(12, .int (nI 0)), (10, .int (nI ((S 8 w0) / 2))), (8, .int (nI (S 7 w0))), (7, .int (nI (w0 % 2))), (6, .int (nI (w0 / 2))), (0, .ref (q 0)), (1, .int (nI b0)), (2, .int (nI a0)), (3, .int (nI d0)), (4, .int (nI w0)), (5, .int (nI h0)), (9, .int (nI f9)), (11, .int (nI f11))]) hx hb dX3_maySet_139 hl (by decide) rfl (fun ls hl => ?_)
        have L141 : ∀ (n141 : Nat) (i : Nat) (f : Nat), (d0 < i + n141) → (h1 : i ≤ d0) → (hf : f = bN (snB S a0 i (Z 2) (S 8 w0 / 2))) → ∀ (ls : Array Slot), lv_has ls 13 [(12, .int (nI i)), (10, .int (nI ((S 8 w0) / 2))), (8, .int (nI (S 7 w0))), (7, .int (nI (w0 % 2))), (6, .int (nI (w0 / 2))), (0, .ref (q 0)), (1, .int (nI b0)), (2, .int (nI a0)), (3, .int (nI d0)), (4, .int (nI w0)), (5, .int (nI h0)), (9, .int (nI f9)), (11, .int (nI f))] → W p l e (headSpec wsX3_maySet ({ frames := 2, cells := 0, slots := 0, locals := 48 } : Room)).room s m [.ref (q 0), .int (nI b0), .int (nI a0), .int (nI d0), .int (nI w0), .int (nI h0)].toArray below meth c s.heap [] 0 0 (MQ below (vp_Si (fun r => r = nI (bN (msB S (opn S (S 11 b0) h0) a0 d0 (Z 2) w0)))) [.ref (q 0), .int (nI b0), .int (nI a0), .int (nI d0), .int (nI w0), .int (nI h0)].toArray s 0 0 (fun _ => False)) (F0 m 141 ls []) := by
          intro n141
          induction n141 with
          | zero =>
            intro i f hfuel141 h1 hf ls hl
            exact absurd hfuel141 (by omega)
          | succ n141 ih141 =>
            intro i f hfuel141 h1 hf ls hl
            refine lv_iload hx hb dX3_maySet_141 (lv_at hl 0 rfl) ?_
            refine lv_iload_n hx hb dX3_maySet_143 rfl (lv_at hl 8 rfl) ?_
            refine na_icmp_ge (tgt := 194) hx hb (by omega) (by omega) dX3_maySet_144 (by decide) (fun h_144 => ?_) (fun h_144 => ?_)
            · skip
              refine lv_iload hx hb dX3_maySet_194 (lv_at hl 11 rfl) ?_
              refine na_if_eq (tgt := 208) hx hb (by rw [hf9]; exact bN_lt _) dX3_maySet_196 (by decide) (fun h_196 => ?_) (fun h_196 => ?_)
              · skip
                refine lv_iconst (v := nI 0) hx hb dX3_maySet_208 (by decide) ?_
                exact W.zret (v := nI 0) hx hb hr (nar_b _ (by first | decide | omega | exact bN_le _)) (fun t ht hW => ⟨_, rfl, by first | exact ms_f1 h_23 | exact ms_f2 hf9 h_196 | exact ms_f3 hf (by omega) h_201, ht⟩) (fun _ h => by cases h) dX3_maySet_209
              · skip
                refine lv_iload hx hb dX3_maySet_199 (lv_at hl 12 rfl) ?_
                refine na_if_ne (tgt := 208) hx hb (by rw [hf]; exact bN_lt _) dX3_maySet_201 (by decide) (fun h_201 => ?_) (fun h_201 => ?_)
                · skip
                  refine lv_iconst (v := nI 0) hx hb dX3_maySet_208 (by decide) ?_
                  exact W.zret (v := nI 0) hx hb hr (nar_b _ (by first | decide | omega | exact bN_le _)) (fun t ht hW => ⟨_, rfl, by first | exact ms_f1 h_23 | exact ms_f2 hf9 h_196 | exact ms_f3 hf (by omega) h_201, ht⟩) (fun _ h => by cases h) dX3_maySet_209
                · skip
                  refine lv_iconst (v := nI 1) hx hb dX3_maySet_204 (by decide) ?_
                  refine lv_goto (tgt := 209) hx hb dX3_maySet_205 (by decide) ?_
                  exact W.zret (v := nI 1) hx hb hr (nar_b _ (by first | decide | omega | exact bN_le _)) (fun t ht hW => ⟨_, rfl, ms_t h_23 hf9 h_196 hf (by omega) h_201, ht⟩) (fun _ h => by cases h) dX3_maySet_209
            · skip
              refine lv_iload hx hb dX3_maySet_147 (lv_at hl 12 rfl) ?_
              refine na_if_ne (tgt := 181) hx hb (by rw [hf]; exact bN_lt _) dX3_maySet_149 (by decide) (fun h_149 => ?_) (fun h_149 => ?_)
              · skip
                refine lv_iconst (v := nI 1) hx hb dX3_maySet_181 (by decide) ?_
                refine lv_goto (tgt := 186) hx hb dX3_maySet_182 (by decide) ?_
                refine lv_istore (lv' := [(11, .int (nI 1)), (12, .int (nI i)), (10, .int (nI ((S 8 w0) / 2))), (8, .int (nI (S 7 w0))), (7, .int (nI (w0 % 2))), (6, .int (nI (w0 / 2))), (0, .ref (q 0)), (1, .int (nI b0)), (2, .int (nI a0)), (3, .int (nI d0)), (4, .int (nI w0)), (5, .int (nI h0)), (9, .int (nI f9))]) hx hb dX3_maySet_186 hl (by decide) rfl (fun ls hl => ?_)
                refine lv_iinc (v := nI (i + 1)) (lv' := [(12, .int (nI (i + 1))), (11, .int (nI 1)), (10, .int (nI ((S 8 w0) / 2))), (8, .int (nI (S 7 w0))), (7, .int (nI (w0 % 2))), (6, .int (nI (w0 / 2))), (0, .ref (q 0)), (1, .int (nI b0)), (2, .int (nI a0)), (3, .int (nI d0)), (4, .int (nI w0)), (5, .int (nI h0)), (9, .int (nI f9))]) hx hb dX3_maySet_188 hl (k := 1) rfl (nI_add _ 1) (by decide) rfl (fun ls hl => ?_)
                refine lv_goto (tgt := 141) hx hb dX3_maySet_191 (by decide) ?_
                exact ih141 (i + 1) 1 (by omega) (by omega) (by first | exact snB_o hf h_149 | exact snB_y h_178 | exact snB_n hf h_149 h_178) ls (lv_sub hl [0, 2, 3, 4, 5, 6, 7, 8, 9, 10, 11, 12, 1] rfl)
              · skip
                have g1 := hon i h_144
                have g9 := hB.2.2.2.1 (Z 2 i - 1) (by omega)
                refine lv_aload_n hx hb dX3_maySet_152 rfl (lv_at hl 5 rfl) ?_
                refine lv_aload_n hx hb dX3_maySet_153 rfl (lv_at hl 5 rfl) ?_
                refine va_get (D := D) (v := .ref (q 16)) hx hb hts hin_X3 hown hX.1 hP 0 rfl rfl 23 (by decide) hf_56 (fun _ h9 => h9) rfl dX3_maySet_154 ?_
                refine lv_iload hx hb dX3_maySet_157 (lv_at hl 0 rfl) ?_
                refine na_iald hx hb hX.1 hP 16 0 rfl rfl (by omega) (by decide) dX3_maySet_159 ?_
                refine na_as (y := nI (Z 2 i - 1)) (pI_pos (by omega)) ?_
                refine lv_iconst (v := nI 2) hx hb dX3_maySet_160 (by decide) ?_
                refine na_idiv2 hx hb (by omega) dX3_maySet_161 ?_
                refine lv_aload_n hx hb dX3_maySet_162 rfl (lv_at hl 5 rfl) ?_
                refine va_get (D := D) (v := .ref (q 16)) hx hb hts hin_X3 hown hX.1 hP 0 rfl rfl 23 (by decide) hf_56 (fun _ h9 => h9) rfl dX3_maySet_163 ?_
                refine lv_iload hx hb dX3_maySet_166 (lv_at hl 0 rfl) ?_
                refine na_iald hx hb hX.1 hP 16 0 rfl rfl (by omega) (by decide) dX3_maySet_168 ?_
                refine na_as (y := nI (Z 2 i - 1)) (pI_pos (by omega)) ?_
                refine lv_iconst (v := nI 2) hx hb dX3_maySet_169 (by decide) ?_
                refine na_irem2 hx hb (by omega) dX3_maySet_170 ?_
                refine rd_V (As := [.int (nI ((Z 2 i - 1) / 2)), .int (nI ((Z 2 i - 1) % 2))]) (rest := []) ⟨hx, hb, hml, hown, hts⟩ (k_X3_to l D q k S Z ((Z 2 i - 1) / 2) ((Z 2 i - 1) % 2) hJ (by omega) (by omega)) (cwV 2 hts gX3_maySet_X3_to rfl rfl rfl (by decide +kernel) ⟨by decide, by decide⟩) hX hP (q0 := 0) rfl rfl rfl hl.1 rfl (Nat.le_of_ble_eq_true rfl) dX3_maySet_171 ⟨Nat.zero_le _, Nat.zero_le _⟩ ?_
                refine na_as (y := nI (S 8 (Z 2 i - 1))) (by rw [half2]) ?_
                refine lv_iconst (v := nI 2) hx hb dX3_maySet_174 (by decide) ?_
                refine na_idiv2 hx hb (by omega) dX3_maySet_175 ?_
                refine lv_iload hx hb dX3_maySet_176 (lv_at hl 1 rfl) ?_
                refine na_icmp_ne (tgt := 185) hx hb (by omega) (by omega) dX3_maySet_178 (by decide) (fun h_178 => ?_) (fun h_178 => ?_)
                · skip
                  refine lv_iconst (v := nI 0) hx hb dX3_maySet_185 (by decide) ?_
                  refine lv_istore (lv' := [(11, .int (nI 0)), (12, .int (nI i)), (10, .int (nI ((S 8 w0) / 2))), (8, .int (nI (S 7 w0))), (7, .int (nI (w0 % 2))), (6, .int (nI (w0 / 2))), (0, .ref (q 0)), (1, .int (nI b0)), (2, .int (nI a0)), (3, .int (nI d0)), (4, .int (nI w0)), (5, .int (nI h0)), (9, .int (nI f9))]) hx hb dX3_maySet_186 hl (by decide) rfl (fun ls hl => ?_)
                  refine lv_iinc (v := nI (i + 1)) (lv' := [(12, .int (nI (i + 1))), (11, .int (nI 0)), (10, .int (nI ((S 8 w0) / 2))), (8, .int (nI (S 7 w0))), (7, .int (nI (w0 % 2))), (6, .int (nI (w0 / 2))), (0, .ref (q 0)), (1, .int (nI b0)), (2, .int (nI a0)), (3, .int (nI d0)), (4, .int (nI w0)), (5, .int (nI h0)), (9, .int (nI f9))]) hx hb dX3_maySet_188 hl (k := 1) rfl (nI_add _ 1) (by decide) rfl (fun ls hl => ?_)
                  refine lv_goto (tgt := 141) hx hb dX3_maySet_191 (by decide) ?_
                  exact ih141 (i + 1) 0 (by omega) (by omega) (by first | exact snB_o hf h_149 | exact snB_y h_178 | exact snB_n hf h_149 h_178) ls (lv_sub hl [0, 2, 3, 4, 5, 6, 7, 8, 9, 10, 11, 12, 1] rfl)
                · skip
                  refine lv_iconst (v := nI 1) hx hb dX3_maySet_181 (by decide) ?_
                  refine lv_goto (tgt := 186) hx hb dX3_maySet_182 (by decide) ?_
                  refine lv_istore (lv' := [(11, .int (nI 1)), (12, .int (nI i)), (10, .int (nI ((S 8 w0) / 2))), (8, .int (nI (S 7 w0))), (7, .int (nI (w0 % 2))), (6, .int (nI (w0 / 2))), (0, .ref (q 0)), (1, .int (nI b0)), (2, .int (nI a0)), (3, .int (nI d0)), (4, .int (nI w0)), (5, .int (nI h0)), (9, .int (nI f9))]) hx hb dX3_maySet_186 hl (by decide) rfl (fun ls hl => ?_)
                  refine lv_iinc (v := nI (i + 1)) (lv' := [(12, .int (nI (i + 1))), (11, .int (nI 1)), (10, .int (nI ((S 8 w0) / 2))), (8, .int (nI (S 7 w0))), (7, .int (nI (w0 % 2))), (6, .int (nI (w0 / 2))), (0, .ref (q 0)), (1, .int (nI b0)), (2, .int (nI a0)), (3, .int (nI d0)), (4, .int (nI w0)), (5, .int (nI h0)), (9, .int (nI f9))]) hx hb dX3_maySet_188 hl (k := 1) rfl (nI_add _ 1) (by decide) rfl (fun ls hl => ?_)
                  refine lv_goto (tgt := 141) hx hb dX3_maySet_191 (by decide) ?_
                  exact ih141 (i + 1) 1 (by omega) (by omega) (by first | exact snB_o hf h_149 | exact snB_y h_178 | exact snB_n hf h_149 h_178) ls (lv_sub hl [0, 2, 3, 4, 5, 6, 7, 8, 9, 10, 11, 12, 1] rfl)
        exact L141 (d0 + 1) 0 f11 (by omega) (by omega) hf11 ls hl
      refine lv_iload hx hb dX3_maySet_125 (lv_at hl 0 rfl) ?_
      refine lv_iload_n hx hb dX3_maySet_127 rfl (lv_at hl 6 rfl) ?_
      refine na_icmp_ne (tgt := 135) hx hb (by omega) (by omega) dX3_maySet_128 (by decide) (fun h_128 => ?_) (fun h_128 => ?_)
      · skip
        refine lv_iconst (v := nI 0) hx hb dX3_maySet_135 (by decide) ?_
        refine lv_istore (lv' := [(11, .int (nI 0)), (10, .int (nI ((S 8 w0) / 2))), (8, .int (nI (S 7 w0))), (7, .int (nI (w0 % 2))), (6, .int (nI (w0 / 2))), (0, .ref (q 0)), (1, .int (nI b0)), (2, .int (nI a0)), (3, .int (nI d0)), (4, .int (nI w0)), (5, .int (nI h0)), (9, .int (nI f9))]) hx hb dX3_maySet_136 hl (by decide) rfl (fun ls hl => ?_)
        exact J138 0 (by rw [snB_0]; first | (rw [decide_eq_true h_128]; rfl) | (rw [decide_eq_false h_128]; rfl)) ls (lv_sub hl [1, 2, 3, 4, 5, 6, 7, 8, 9, 10, 11, 0] rfl)
      · skip
        refine lv_iconst (v := nI 1) hx hb dX3_maySet_131 (by decide) ?_
        refine lv_goto (tgt := 136) hx hb dX3_maySet_132 (by decide) ?_
        refine lv_istore (lv' := [(11, .int (nI 1)), (10, .int (nI ((S 8 w0) / 2))), (8, .int (nI (S 7 w0))), (7, .int (nI (w0 % 2))), (6, .int (nI (w0 / 2))), (0, .ref (q 0)), (1, .int (nI b0)), (2, .int (nI a0)), (3, .int (nI d0)), (4, .int (nI w0)), (5, .int (nI h0)), (9, .int (nI f9))]) hx hb dX3_maySet_136 hl (by decide) rfl (fun ls hl => ?_)
        exact J138 1 (by rw [snB_0]; first | (rw [decide_eq_true h_128]; rfl) | (rw [decide_eq_false h_128]; rfl)) ls (lv_sub hl [1, 2, 3, 4, 5, 6, 7, 8, 9, 10, 11, 0] rfl)
    refine lv_iload_n hx hb dX3_maySet_38 rfl (lv_at hl 6 rfl) ?_
    refine na_if_ne (tgt := 75) hx hb (by omega) dX3_maySet_39 (by decide) (fun h_39 => ?_) (fun h_39 => ?_)
    · skip
      have g0 := hon (d0 - 1) (by omega)
      have g8 := hB.2.2.2.1 (Z 2 (d0 - 1) - 1) (by omega)
      have gf : fl (S 8 (Z 2 (d0 - 1) - 1)) < 2 * 20 := fl_lt (by omega)
      refine lv_iload hx hb dX3_maySet_75 (lv_at hl 0 rfl) ?_
      refine lv_aload_n hx hb dX3_maySet_77 rfl (lv_at hl 3 rfl) ?_
      refine lv_aload_n hx hb dX3_maySet_78 rfl (lv_at hl 3 rfl) ?_
      refine va_get (D := D) (v := .ref (q 16)) hx hb hts hin_X3 hown hX.1 hP 0 rfl rfl 23 (by decide) hf_56 (fun _ h9 => h9) rfl dX3_maySet_79 ?_
      refine lv_iload_n hx hb dX3_maySet_82 rfl (lv_at hl 6 rfl) ?_
      refine lv_iconst (v := nI 1) hx hb dX3_maySet_83 (by decide) ?_
      refine na_isub hx hb (by omega) dX3_maySet_84 ?_
      refine na_iald hx hb hX.1 hP 16 0 rfl rfl (by omega) (by decide) dX3_maySet_85 ?_
      refine na_as (y := nI (Z 2 (d0 - 1) - 1)) (pI_pos (by omega)) ?_
      refine lv_iconst (v := nI 2) hx hb dX3_maySet_86 (by decide) ?_
      refine na_idiv2 hx hb (by omega) dX3_maySet_87 ?_
      refine lv_aload_n hx hb dX3_maySet_88 rfl (lv_at hl 3 rfl) ?_
      refine va_get (D := D) (v := .ref (q 16)) hx hb hts hin_X3 hown hX.1 hP 0 rfl rfl 23 (by decide) hf_56 (fun _ h9 => h9) rfl dX3_maySet_89 ?_
      refine lv_iload_n hx hb dX3_maySet_92 rfl (lv_at hl 6 rfl) ?_
      refine lv_iconst (v := nI 1) hx hb dX3_maySet_93 (by decide) ?_
      refine na_isub hx hb (by omega) dX3_maySet_94 ?_
      refine na_iald hx hb hX.1 hP 16 0 rfl rfl (by omega) (by decide) dX3_maySet_95 ?_
      refine na_as (y := nI (Z 2 (d0 - 1) - 1)) (pI_pos (by omega)) ?_
      refine lv_iconst (v := nI 2) hx hb dX3_maySet_96 (by decide) ?_
      refine na_irem2 hx hb (by omega) dX3_maySet_97 ?_
      refine rd_V (As := [.int (nI ((Z 2 (d0 - 1) - 1) / 2)), .int (nI ((Z 2 (d0 - 1) - 1) % 2))]) (rest := [.int (nI (S 7 w0))]) ⟨hx, hb, hml, hown, hts⟩ (k_X3_to l D q k S Z ((Z 2 (d0 - 1) - 1) / 2) ((Z 2 (d0 - 1) - 1) % 2) hJ (by omega) (by omega)) (cwV 2 hts gX3_maySet_X3_to rfl rfl rfl (by decide +kernel) ⟨by decide, by decide⟩) hX hP (q0 := 0) rfl rfl rfl hl.1 rfl (Nat.le_of_ble_eq_true rfl) dX3_maySet_98 ⟨Nat.zero_le _, Nat.zero_le _⟩ ?_
      refine na_as (y := nI (S 8 (Z 2 (d0 - 1) - 1))) (by rw [half2]) ?_
      refine lv_iconst (v := nI 1) hx hb dX3_maySet_101 (by decide) ?_
      refine na_ixor1 hx hb (by omega) dX3_maySet_102 ?_
      refine na_icmp_ne (tgt := 110) hx hb (by omega) (by omega) dX3_maySet_103 (by decide) (fun h_103 => ?_) (fun h_103 => ?_)
      · skip
        refine lv_iconst (v := nI 0) hx hb dX3_maySet_110 (by decide) ?_
        refine lv_istore (lv' := [(9, .int (nI 0)), (8, .int (nI (S 7 w0))), (7, .int (nI (w0 % 2))), (6, .int (nI (w0 / 2))), (0, .ref (q 0)), (1, .int (nI b0)), (2, .int (nI a0)), (3, .int (nI d0)), (4, .int (nI w0)), (5, .int (nI h0))]) hx hb dX3_maySet_111 hl (by decide) rfl (fun ls hl => ?_)
        exact J113 0 (by unfold lvB; first | (rw [if_pos h_39, decide_eq_true h_47, decide_eq_true h_55]; rfl) | (rw [if_pos h_39, decide_eq_true h_47, decide_eq_true (show S 4 a0 = 1 by omega), Bool.or_true]; rfl) | (rw [if_pos h_39, decide_eq_false h_47]; rfl) | (rw [if_pos h_39, decide_eq_true h_47, decide_eq_false h_55, decide_eq_false (show ¬ S 4 a0 = 1 by omega)]; rfl) | (rw [if_neg (show ¬ d0 = 0 by omega), decide_eq_true h_103]; rfl) | (rw [if_neg (show ¬ d0 = 0 by omega), decide_eq_false h_103]; rfl)) ls (lv_sub hl [1, 2, 3, 4, 5, 6, 7, 8, 9, 0] rfl)
      · skip
        refine lv_iconst (v := nI 1) hx hb dX3_maySet_106 (by decide) ?_
        refine lv_goto (tgt := 111) hx hb dX3_maySet_107 (by decide) ?_
        refine lv_istore (lv' := [(9, .int (nI 1)), (8, .int (nI (S 7 w0))), (7, .int (nI (w0 % 2))), (6, .int (nI (w0 / 2))), (0, .ref (q 0)), (1, .int (nI b0)), (2, .int (nI a0)), (3, .int (nI d0)), (4, .int (nI w0)), (5, .int (nI h0))]) hx hb dX3_maySet_111 hl (by decide) rfl (fun ls hl => ?_)
        exact J113 1 (by unfold lvB; first | (rw [if_pos h_39, decide_eq_true h_47, decide_eq_true h_55]; rfl) | (rw [if_pos h_39, decide_eq_true h_47, decide_eq_true (show S 4 a0 = 1 by omega), Bool.or_true]; rfl) | (rw [if_pos h_39, decide_eq_false h_47]; rfl) | (rw [if_pos h_39, decide_eq_true h_47, decide_eq_false h_55, decide_eq_false (show ¬ S 4 a0 = 1 by omega)]; rfl) | (rw [if_neg (show ¬ d0 = 0 by omega), decide_eq_true h_103]; rfl) | (rw [if_neg (show ¬ d0 = 0 by omega), decide_eq_false h_103]; rfl)) ls (lv_sub hl [1, 2, 3, 4, 5, 6, 7, 8, 9, 0] rfl)
    · skip
      refine lv_iload hx hb dX3_maySet_42 (lv_at hl 0 rfl) ?_
      refine lv_iconst (v := nI 2) hx hb dX3_maySet_44 (by decide) ?_
      refine na_idiv2 hx hb (by omega) dX3_maySet_45 ?_
      refine lv_iload_n hx hb dX3_maySet_46 rfl (lv_at hl 5 rfl) ?_
      refine na_icmp_ne (tgt := 71) hx hb (by omega) (by omega) dX3_maySet_47 (by decide) (fun h_47 => ?_) (fun h_47 => ?_)
      · skip
        refine lv_iconst (v := nI 0) hx hb dX3_maySet_71 (by decide) ?_
        refine lv_goto (tgt := 111) hx hb dX3_maySet_72 (by decide) ?_
        refine lv_istore (lv' := [(9, .int (nI 0)), (8, .int (nI (S 7 w0))), (7, .int (nI (w0 % 2))), (6, .int (nI (w0 / 2))), (0, .ref (q 0)), (1, .int (nI b0)), (2, .int (nI a0)), (3, .int (nI d0)), (4, .int (nI w0)), (5, .int (nI h0))]) hx hb dX3_maySet_111 hl (by decide) rfl (fun ls hl => ?_)
        exact J113 0 (by unfold lvB; first | (rw [if_pos h_39, decide_eq_true h_47, decide_eq_true h_55]; rfl) | (rw [if_pos h_39, decide_eq_true h_47, decide_eq_true (show S 4 a0 = 1 by omega), Bool.or_true]; rfl) | (rw [if_pos h_39, decide_eq_false h_47]; rfl) | (rw [if_pos h_39, decide_eq_true h_47, decide_eq_false h_55, decide_eq_false (show ¬ S 4 a0 = 1 by omega)]; rfl) | (rw [if_neg (show ¬ d0 = 0 by omega), decide_eq_true h_103]; rfl) | (rw [if_neg (show ¬ d0 = 0 by omega), decide_eq_false h_103]; rfl)) ls (lv_sub hl [1, 2, 3, 4, 5, 6, 7, 8, 9, 0] rfl)
      · skip
        refine lv_iload hx hb dX3_maySet_50 (lv_at hl 0 rfl) ?_
        refine lv_iconst (v := nI 2) hx hb dX3_maySet_52 (by decide) ?_
        refine na_irem2 hx hb (by omega) dX3_maySet_53 ?_
        refine lv_iconst (v := nI 1) hx hb dX3_maySet_54 (by decide) ?_
        refine na_icmp_eq (tgt := 67) hx hb (by omega) (by omega) dX3_maySet_55 (by decide) (fun h_55 => ?_) (fun h_55 => ?_)
        · skip
          refine lv_iconst (v := nI 1) hx hb dX3_maySet_67 (by decide) ?_
          refine lv_goto (tgt := 111) hx hb dX3_maySet_68 (by decide) ?_
          refine lv_istore (lv' := [(9, .int (nI 1)), (8, .int (nI (S 7 w0))), (7, .int (nI (w0 % 2))), (6, .int (nI (w0 / 2))), (0, .ref (q 0)), (1, .int (nI b0)), (2, .int (nI a0)), (3, .int (nI d0)), (4, .int (nI w0)), (5, .int (nI h0))]) hx hb dX3_maySet_111 hl (by decide) rfl (fun ls hl => ?_)
          exact J113 1 (by unfold lvB; first | (rw [if_pos h_39, decide_eq_true h_47, decide_eq_true h_55]; rfl) | (rw [if_pos h_39, decide_eq_true h_47, decide_eq_true (show S 4 a0 = 1 by omega), Bool.or_true]; rfl) | (rw [if_pos h_39, decide_eq_false h_47]; rfl) | (rw [if_pos h_39, decide_eq_true h_47, decide_eq_false h_55, decide_eq_false (show ¬ S 4 a0 = 1 by omega)]; rfl) | (rw [if_neg (show ¬ d0 = 0 by omega), decide_eq_true h_103]; rfl) | (rw [if_neg (show ¬ d0 = 0 by omega), decide_eq_false h_103]; rfl)) ls (lv_sub hl [1, 2, 3, 4, 5, 6, 7, 8, 9, 0] rfl)
        · skip
          refine lv_aload_n hx hb dX3_maySet_58 rfl (lv_at hl 3 rfl) ?_
          refine va_get (D := D) (v := .ref (q 4)) hx hb hts hin_X3 hown hX.1 hP 0 rfl rfl 5 (by decide) hf_19 (fun _ h9 => h9) rfl dX3_maySet_59 ?_
          refine lv_iload_n hx hb dX3_maySet_62 rfl (lv_at hl 5 rfl) ?_
          refine na_zald hx hb hX.1 hP 4 1 rfl rfl (by omega) (by decide) dX3_maySet_63 ?_
          refine na_if_eq (tgt := 71) hx hb (by omega) dX3_maySet_64 (by decide) (fun h_64 => ?_) (fun h_64 => ?_)
          · skip
            refine lv_iconst (v := nI 0) hx hb dX3_maySet_71 (by decide) ?_
            refine lv_goto (tgt := 111) hx hb dX3_maySet_72 (by decide) ?_
            refine lv_istore (lv' := [(9, .int (nI 0)), (8, .int (nI (S 7 w0))), (7, .int (nI (w0 % 2))), (6, .int (nI (w0 / 2))), (0, .ref (q 0)), (1, .int (nI b0)), (2, .int (nI a0)), (3, .int (nI d0)), (4, .int (nI w0)), (5, .int (nI h0))]) hx hb dX3_maySet_111 hl (by decide) rfl (fun ls hl => ?_)
            exact J113 0 (by unfold lvB; first | (rw [if_pos h_39, decide_eq_true h_47, decide_eq_true h_55]; rfl) | (rw [if_pos h_39, decide_eq_true h_47, decide_eq_true (show S 4 a0 = 1 by omega), Bool.or_true]; rfl) | (rw [if_pos h_39, decide_eq_false h_47]; rfl) | (rw [if_pos h_39, decide_eq_true h_47, decide_eq_false h_55, decide_eq_false (show ¬ S 4 a0 = 1 by omega)]; rfl) | (rw [if_neg (show ¬ d0 = 0 by omega), decide_eq_true h_103]; rfl) | (rw [if_neg (show ¬ d0 = 0 by omega), decide_eq_false h_103]; rfl)) ls (lv_sub hl [1, 2, 3, 4, 5, 6, 7, 8, 9, 0] rfl)
          · skip
            refine lv_iconst (v := nI 1) hx hb dX3_maySet_67 (by decide) ?_
            refine lv_goto (tgt := 111) hx hb dX3_maySet_68 (by decide) ?_
            refine lv_istore (lv' := [(9, .int (nI 1)), (8, .int (nI (S 7 w0))), (7, .int (nI (w0 % 2))), (6, .int (nI (w0 / 2))), (0, .ref (q 0)), (1, .int (nI b0)), (2, .int (nI a0)), (3, .int (nI d0)), (4, .int (nI w0)), (5, .int (nI h0))]) hx hb dX3_maySet_111 hl (by decide) rfl (fun ls hl => ?_)
            exact J113 1 (by unfold lvB; first | (rw [if_pos h_39, decide_eq_true h_47, decide_eq_true h_55]; rfl) | (rw [if_pos h_39, decide_eq_true h_47, decide_eq_true (show S 4 a0 = 1 by omega), Bool.or_true]; rfl) | (rw [if_pos h_39, decide_eq_false h_47]; rfl) | (rw [if_pos h_39, decide_eq_true h_47, decide_eq_false h_55, decide_eq_false (show ¬ S 4 a0 = 1 by omega)]; rfl) | (rw [if_neg (show ¬ d0 = 0 by omega), decide_eq_true h_103]; rfl) | (rw [if_neg (show ¬ d0 = 0 by omega), decide_eq_false h_103]; rfl)) ls (lv_sub hl [1, 2, 3, 4, 5, 6, 7, 8, 9, 0] rfl)
  · skip
    refine lv_iconst (v := nI 0) hx hb dX3_maySet_26 (by decide) ?_
    exact W.zret (v := nI 0) hx hb hr (nar_b _ (by first | decide | omega | exact bN_le _)) (fun t ht hW => ⟨_, rfl, by first | exact ms_f1 h_23 | exact ms_f2 hf9 h_196 | exact ms_f3 hf (by omega) h_201, ht⟩) (fun _ h => by cases h) dX3_maySet_27

set_option maxHeartbeats 4000000 in
set_option maxRecDepth 100000 in
theorem k_X3_plain (l : Launch) (D : va_G) (q : Nat → Nat) (k : Nat → ClassId) (S Z : Nat → Nat → Nat) (sz : Nat) (x0 : Int32) (x1 : Int32) (x2 : Int32) (x3 : Int32) (x4 : Int32) (hB : Bd S) (hJ : Jn S) (hR : Rb (Z 1)) : Met l yX3_plain wsX3_plain ({ frames := 3, cells := 0, slots := 0, locals := 80 } : Room) (va_Pc [.ref (q 0), .int x0, .int x1, .int x2, .int x3, .int x4] (wB D k (wM q k S Z) sz)) (va_Qi (fun (r : Int32) (u : (Nat → Nat → Nat) × (Nat → Nat → Nat)) => (cd1 (okD S x0 x1 x2 x3 ∧ 0 ≤ x4.toInt ∧ x4.toInt ≤ 5) = 0 → r = nI (if iN x1 = iN x2 then 0 else (cw S (opn S (S 11 (iN x0)) (iN x3)) (iN x1) (iN x2) (iN x4) 0 (up1 (Z 2) 0 0) 0))) ∧ u.1 = S ∧ u.2 0 0 = cd1 (okD S x0 x1 x2 x3 ∧ 0 ≤ x4.toInt ∧ x4.toInt ≤ 5) ∧ Rb (u.2 1)) (fun u t => wE D (va_A (wM q k S Z) sz) (wM q k u.1 u.2) t) (va_A (wM q k S Z) sz)) 0 0 (va_A (wM q k S Z) sz) := by
  refine Met.ofW (cc := cX3_plain) (maxL := 9) (ret := (some .int)) (by decide) rfl ?_
  intro p e s m args below meth c s₁ B hml hv
  obtain ⟨rfl, hsz, hP, hX, hD0⟩ := hv
  have hx := B.exec
  have hb := B.bytes
  have hr := B.returns
  have hts := atoms_spec (ws := wsX3_plain) B.pre
  have hown : s.vm.findClass RX3 = some m.cls := findClass_of_methodNamed B.named
  have hlocks := B.notSynchronized
  subst hsz
  have hD := hD0.self (sz := s.heap.size)
  generalize hAe : va_A (wM q k S Z) s.heap.size = A at hD ⊢
  have hA : ∀ q : Nat, s.heap.size ≤ q → A q := fun q h => by rw [← hAe]; exact Or.inr h
  have hS : va_S A s.heap s.heap [] := va_S.rf
  have hP : va_P D vwCl (wM q k S Z) s.heap := hP
  have hf_56 := hts (.fieldLink RX3 56 "FloorGraphModel" "on" "[I") (by decide +kernel)
  have hf_59 := hts (.fieldLink RX3 59 "FloorGraphModel" "code" "I") (by decide +kernel)
  have hf_73 := hts (.fieldLink RX3 73 "FloorGraphModel" "joins" "I") (by decide +kernel)
  have hin_X3 : ∀ w ∈ u_ws RX3 TX3 24, w ∈ wsX3_plain := by decide +kernel
  have f0 := hB.1
  have fj := hJ.1
  have hl := lv_entry ([.ref (q 0), .int x0, .int x1, .int x2, .int x3, .int x4]) (n := 9) (Nat.le_of_ble_eq_true rfl)
  rw [lg_entry_eq]
  generalize (lg_sl ([.ref (q 0), .int x0, .int x1, .int x2, .int x3, .int x4]) ++ List.replicate (9 - (lg_sl ([.ref (q 0), .int x0, .int x1, .int x2, .int x3, .int x4])).length) Slot.unset).toArray = ls at hl ⊢
  have hl : lv_has ls 9 [(0, .ref (q 0)), (1, .int x0), (2, .int x1), (3, .int x2), (4, .int x3), (5, .int x4)] := hl
  refine lv_aload_n hx hb dX3_plain_0 rfl (lv_at hl 0 rfl) ?_
  refine lv_aload_n hx hb dX3_plain_1 rfl (lv_at hl 0 rfl) ?_
  refine lv_iload_n hx hb dX3_plain_2 rfl (lv_at hl 1 rfl) ?_
  refine lv_iload_n hx hb dX3_plain_3 rfl (lv_at hl 2 rfl) ?_
  refine lv_iload_n hx hb dX3_plain_4 rfl (lv_at hl 3 rfl) ?_
  refine lv_iload hx hb dX3_plain_5 (lv_at hl 4 rfl) ?_
  refine rd_V (As := [.int x0, .int x1, .int x2, .int x3]) (rest := [.ref (q 0)]) ⟨hx, hb, hml, hown, hts⟩ (k_X3_isDrive l D q k S Z x0 x1 x2 x3 hB) (cwV 4 hts gX3_plain_X3_isDrive rfl rfl rfl (by decide +kernel) ⟨by decide, by decide⟩) hX hP (q0 := 0) rfl rfl rfl hl.1 rfl (Nat.le_of_ble_eq_true rfl) dX3_plain_7 ⟨Nat.zero_le _, Nat.zero_le _⟩ ?_
  refine na_if_eq (tgt := 27) hx hb (bN_lt _) dX3_plain_10 (by decide) (fun h_10 => ?_) (fun h_10 => ?_)
  · skip
    refine lv_iconst (v := nI 1) hx hb dX3_plain_27 (by decide) ?_
    refine va_put (D := D) (v := .int (nI 1)) (ty := .int) hx hb hts hin_X3 tyX3 tyX3_ok nmX3 hown hX.1 hP hD hS 0 rfl rfl 0 (by decide) hf_59 (fun _ h9 => h9) rfl (by decide +kernel) rfl rfl (Nat.le_of_ble_eq_true rfl) dX3_plain_28 (fun H locs hP hD hS => ?_)
    have hP : va_P D vwCl (wM q k S (up2 Z 0 0 1)) H := sP_M0_0 hP
    have hD : va_D A (wM q k S (up2 Z 0 0 1)) := sD_M0_0 hD
    refine lv_aload_n hx hb dX3_plain_31 rfl (lv_at hl 0 rfl) ?_
    refine va_get (D := D) (v := .int (nI 1)) hx hb hts hin_X3 hown hX.1 hP 0 rfl rfl 0 (by decide) hf_59 (fun _ h9 => h9) rfl dX3_plain_32 ?_
    refine na_if_gt (tgt := 43) hx hb (by omega) dX3_plain_35 (by decide) (fun h_35 => ?_) (fun h_35 => ?_)
    · skip
      refine lv_iconst (v := nI 0) hx hb dX3_plain_43 (by decide) ?_
      exact W.iret (v := nI 0) hx hb hr (fun t ht hW => ⟨⟨_, (S, (up2 Z 0 0 1)), rfl, (have hc : cd1 (okD S x0 x1 x2 x3 ∧ 0 ≤ x4.toInt ∧ x4.toInt ≤ 5) = 1 := cd1_1 (fun q => by first | exact okD_f h_10 q.1 | (have z := in_f (by decide) (by decide) h_20; omega)); ⟨fun q => absurd (hc.symm.trans q) (by decide), rfl, by rw [hc]; rfl, hR⟩), by rw [ht]; exact hP, hD⟩, hS.F ht⟩) hS.2.2 dX3_plain_44
    · exact absurd h_35 (by decide)
  · skip
    refine lv_iload hx hb dX3_plain_13 (lv_at hl 5 rfl) ?_
    refine lv_iconst (v := nI 0) hx hb dX3_plain_15 (by decide) ?_
    refine lv_iconst (v := nI 5) hx hb dX3_plain_16 (by decide) ?_
    refine rd_S (As := [.int x4, .int (nI 0), .int (nI 5)]) (rest := [.ref (q 0)]) ⟨hx, hb, hml, hown, hts⟩ (k_X3_in l x4 (nI 0) (nI 5) ) (va_cwS 3 hts gX3_plain_X3_in rfl rfl rfl (by decide +kernel) ⟨by decide, by decide⟩) rfl hl.1 rfl (Nat.le_of_ble_eq_true rfl) dX3_plain_17 ⟨Nat.zero_le _, Nat.zero_le _⟩ ?_
    refine na_if_eq (tgt := 27) hx hb (bN_lt _) dX3_plain_20 (by decide) (fun h_20 => ?_) (fun h_20 => ?_)
    · skip
      refine lv_iconst (v := nI 1) hx hb dX3_plain_27 (by decide) ?_
      refine va_put (D := D) (v := .int (nI 1)) (ty := .int) hx hb hts hin_X3 tyX3 tyX3_ok nmX3 hown hX.1 hP hD hS 0 rfl rfl 0 (by decide) hf_59 (fun _ h9 => h9) rfl (by decide +kernel) rfl rfl (Nat.le_of_ble_eq_true rfl) dX3_plain_28 (fun H locs hP hD hS => ?_)
      have hP : va_P D vwCl (wM q k S (up2 Z 0 0 1)) H := sP_M0_0 hP
      have hD : va_D A (wM q k S (up2 Z 0 0 1)) := sD_M0_0 hD
      refine lv_aload_n hx hb dX3_plain_31 rfl (lv_at hl 0 rfl) ?_
      refine va_get (D := D) (v := .int (nI 1)) hx hb hts hin_X3 hown hX.1 hP 0 rfl rfl 0 (by decide) hf_59 (fun _ h9 => h9) rfl dX3_plain_32 ?_
      refine na_if_gt (tgt := 43) hx hb (by omega) dX3_plain_35 (by decide) (fun h_35 => ?_) (fun h_35 => ?_)
      · skip
        refine lv_iconst (v := nI 0) hx hb dX3_plain_43 (by decide) ?_
        exact W.iret (v := nI 0) hx hb hr (fun t ht hW => ⟨⟨_, (S, (up2 Z 0 0 1)), rfl, (have hc : cd1 (okD S x0 x1 x2 x3 ∧ 0 ≤ x4.toInt ∧ x4.toInt ≤ 5) = 1 := cd1_1 (fun q => by first | exact okD_f h_10 q.1 | (have z := in_f (by decide) (by decide) h_20; omega)); ⟨fun q => absurd (hc.symm.trans q) (by decide), rfl, by rw [hc]; rfl, hR⟩), by rw [ht]; exact hP, hD⟩, hS.F ht⟩) hS.2.2 dX3_plain_44
      · exact absurd h_35 (by decide)
    · skip
      refine lv_iconst (v := nI 0) hx hb dX3_plain_23 (by decide) ?_
      refine lv_goto (tgt := 28) hx hb dX3_plain_24 (by decide) ?_
      refine va_put (D := D) (v := .int (nI 0)) (ty := .int) hx hb hts hin_X3 tyX3 tyX3_ok nmX3 hown hX.1 hP hD hS 0 rfl rfl 0 (by decide) hf_59 (fun _ h9 => h9) rfl (by decide +kernel) rfl rfl (Nat.le_of_ble_eq_true rfl) dX3_plain_28 (fun H locs hP hD hS => ?_)
      have hP : va_P D vwCl (wM q k S (up2 Z 0 0 0)) H := sP_M0_0 hP
      have hD : va_D A (wM q k S (up2 Z 0 0 0)) := sD_M0_0 hD
      refine lv_aload_n hx hb dX3_plain_31 rfl (lv_at hl 0 rfl) ?_
      refine va_get (D := D) (v := .int (nI 0)) hx hb hts hin_X3 hown hX.1 hP 0 rfl rfl 0 (by decide) hf_59 (fun _ h9 => h9) rfl dX3_plain_32 ?_
      refine na_if_gt (tgt := 43) hx hb (by omega) dX3_plain_35 (by decide) (fun h_35 => ?_) (fun h_35 => ?_)
      · exact absurd h_35 (by decide)
      · skip
        have i0 := okD_t h_10
        have i4 := in_t (by decide) (by decide) h_20
        have j0 := iN_toInt (x := x0) i0.1.1
        have j1 := iN_toInt (x := x1) i0.2.1.1
        have j2 := iN_toInt (x := x2) i0.2.2.1.1
        have j3 := iN_toInt (x := x3) i0.2.2.2.1
        have j4 := iN_toInt (x := x4) (by omega)
        have l1 := i0.2.1.lt
        have l2 := i0.2.2.1.lt
        have l0 := i0.1.2
        have l3 := i0.2.2.2.2
        have c0 : cd1 (okD S x0 x1 x2 x3 ∧ 0 ≤ x4.toInt ∧ x4.toInt ≤ 5) = 0 := cd1_0 ⟨i0, by omega, by omega⟩
        refine lv_iload_n hx hb dX3_plain_38 rfl (lv_at hl 2 rfl) ?_
        refine lv_iload_n hx hb dX3_plain_39 rfl (lv_at hl 3 rfl) ?_
        refine nr_icmp_ne (tgt := 45) hx hb dX3_plain_40 (by decide) (fun h_40 => ?_) (fun h_40 => ?_)
        · skip
          have hne : iN x1 ≠ iN x2 := by omega
          obtain ⟨j9, hj9⟩ := prn_all (S := S) (o := (opn S (S 11 (iN x0)) (iN x3))) (a := iN x1) (t := iN x2) (mo := iN x4) (f := up1 (Z 2) 0 0) (up1_same _ _ _)
          refine lv_iconst (v := nI 0) hx hb dX3_plain_45 (by decide) ?_
          refine lv_istore (lv' := [(6, .int (nI 0)), (0, .ref (q 0)), (1, .int x0), (2, .int x1), (3, .int x2), (4, .int x3), (5, .int x4)]) hx hb dX3_plain_46 hl (by decide) rfl (fun ls hl => ?_)
          refine lv_iconst (v := nI 0) hx hb dX3_plain_48 (by decide) ?_
          refine na_as (y := pI 1) (pI_s 0) ?_
          refine lv_istore (lv' := [(7, .int (pI 1)), (6, .int (nI 0)), (0, .ref (q 0)), (1, .int x0), (2, .int x1), (3, .int x2), (4, .int x3), (5, .int x4)]) hx hb dX3_plain_49 hl (by decide) rfl (fun ls hl => ?_)
          refine lv_aload_n hx hb dX3_plain_51 rfl (lv_at hl 2 rfl) ?_
          refine va_get (D := D) (v := .ref (q 16)) hx hb hts hin_X3 hown hX.1 hP 0 rfl rfl 23 (by decide) hf_56 (fun _ h9 => h9) rfl dX3_plain_52 ?_
          refine lv_iconst (v := nI 0) hx hb dX3_plain_55 (by decide) ?_
          refine lv_iconst (v := pI 0) hx hb dX3_plain_56 (by decide) ?_
          refine na_iast hx hb hX.1 hP hD hS 16 0 rfl rfl (by omega) (by decide) (upd_enc pI _ _ _) dX3_plain_57 (fun H locs hP hD hS => ?_)
          have hP : va_P D vwCl (wM q k S (up2 (up2 Z 0 0 0) 2 0 0)) H := sP_M16 hP
          have hD : va_D A (wM q k S (up2 (up2 Z 0 0 0) 2 0 0)) := sD_M16 hD
          have L58 : ∀ (n58 : Nat) (D0 : Nat) (c6 : Nat) (Y : Nat → Nat → Nat), (prn S (opn S (S 11 (iN x0)) (iN x3)) (iN x1) (iN x2) (iN x4) n58 (D0, Y 2, c6) = some (cw S (opn S (S 11 (iN x0)) (iN x3)) (iN x1) (iN x2) (iN x4) 0 (up1 (Z 2) 0 0) 0)) → (hD0 : D0 ≤ iN x4 + 1) → (hY0 : Y 0 0 = 0) → (hY1 : Y 1 = Z 1) → (hon : ∀ k, k + 1 < D0 → 0 < Y 2 k ∧ Y 2 k ≤ S 0 1) → (hcu : 0 < D0 → Y 2 (D0 - 1) ≤ S 0 1) → ∀ (H : Heap) (locs : List Loc), va_P D vwCl (wM q k S Y) H → va_D A (wM q k S Y) → va_S A s.heap H locs → ∀ (ls : Array Slot), lv_has ls 9 [(7, .int (pI D0)), (6, .int (nI c6)), (0, .ref (q 0)), (1, .int x0), (2, .int x1), (3, .int x2), (4, .int x3), (5, .int x4)] → W p l e (headSpec wsX3_plain ({ frames := 3, cells := 0, slots := 0, locals := 80 } : Room)).room s m [.ref (q 0), .int x0, .int x1, .int x2, .int x3, .int x4].toArray below meth c H locs 0 0 (MQ below (va_Qi (fun (r : Int32) (u : (Nat → Nat → Nat) × (Nat → Nat → Nat)) => (cd1 (okD S x0 x1 x2 x3 ∧ 0 ≤ x4.toInt ∧ x4.toInt ≤ 5) = 0 → r = nI (if iN x1 = iN x2 then 0 else (cw S (opn S (S 11 (iN x0)) (iN x3)) (iN x1) (iN x2) (iN x4) 0 (up1 (Z 2) 0 0) 0))) ∧ u.1 = S ∧ u.2 0 0 = cd1 (okD S x0 x1 x2 x3 ∧ 0 ≤ x4.toInt ∧ x4.toInt ≤ 5) ∧ Rb (u.2 1)) (fun u t => wE D (A) (wM q k u.1 u.2) t) (A)) [.ref (q 0), .int x0, .int x1, .int x2, .int x3, .int x4].toArray s 0 0 A) (F0 m 58 ls []) := by
            intro n58
            induction n58 with
            | zero =>
              intro D0 c6 Y hfuel58 hD0 hY0 hY1 hon hcu H locs hP hD hS ls hl
              exact absurd hfuel58 (by unfold prn; exact fun q => by cases q)
            | succ n58 ih58 =>
              intro D0 c6 Y hfuel58 hD0 hY0 hY1 hon hcu H locs hP hD hS ls hl
              have hst : 0 < D0 → prn S (opn S (S 11 (iN x0)) (iN x3)) (iN x1) (iN x2) (iN x4) n58 (pst S (opn S (S 11 (iN x0)) (iN x3)) (iN x1) (iN x2) (iN x4) (D0, Y 2, c6)) = some (cw S (opn S (S 11 (iN x0)) (iN x3)) (iN x1) (iN x2) (iN x4) 0 (up1 (Z 2) 0 0) 0) := fun z => by have hz := hfuel58; unfold prn at hz; rw [if_neg (by omega)] at hz; exact hz
              refine lv_iload hx hb dX3_plain_58 (lv_at hl 0 rfl) ?_
              refine nr_if_lt (tgt := 177) hx hb dX3_plain_60 (by decide) (fun h_60 => ?_) (fun h_60 => ?_)
              · skip
                rw [pI_toInt (by omega)] at h_60
                refine lv_iload hx hb dX3_plain_177 (lv_at hl 1 rfl) ?_
                exact W.iret (v := nI c6) hx hb hr (fun t ht hW => ⟨⟨_, (S, Y), rfl, ⟨fun _ => congrArg nI (by rw [if_neg hne]; have hz := hfuel58; unfold prn at hz; rw [if_pos (show D0 = 0 by omega)] at hz; exact Option.some.inj hz), rfl, by rw [c0]; exact hY0, by dsimp only; rw [hY1]; exact hR⟩, by rw [ht]; exact hP, hD⟩, hS.F ht⟩) hS.2.2 dX3_plain_179
              · skip
                rw [pI_toInt (by omega)] at h_60
                refine lv_aload_n hx hb dX3_plain_63 rfl (lv_at hl 2 rfl) ?_
                refine va_get (D := D) (v := .ref (q 16)) hx hb hts hin_X3 hown hX.1 hP 0 rfl rfl 23 (by decide) hf_56 (fun _ h9 => h9) rfl dX3_plain_64 ?_
                refine lv_iload hx hb dX3_plain_67 (lv_at hl 0 rfl) ?_
                refine na_as (y := nI (D0 - 1)) (pI_pos (by omega)) ?_
                refine na_iald hx hb hX.1 hP 16 0 rfl rfl (by omega) (by decide) dX3_plain_69 ?_
                refine lv_iconst (v := nI 1) hx hb dX3_plain_70 (by decide) ?_
                refine lv_iadd hx hb dX3_plain_71 ?_
                refine na_as (y := nI (Y 2 (D0 - 1))) (by unfold pI; exact Int32.sub_add_cancel _ _) ?_
                refine lv_istore (lv' := [(8, .int (nI (Y 2 (D0 - 1)))), (7, .int (pI D0)), (6, .int (nI c6)), (0, .ref (q 0)), (1, .int x0), (2, .int x1), (3, .int x2), (4, .int x3), (5, .int x4)]) hx hb dX3_plain_72 hl (by decide) rfl (fun ls hl => ?_)
                have L74 : ∀ (n74 : Nat) (w : Nat), (S 0 1 < w + n74) → (hw1 : w ≤ S 0 1) → (hw0 : nx (msB S (opn S (S 11 (iN x0)) (iN x3)) (iN x1) (D0 - 1) (Y 2)) (S 0 1 - w) w = nx (msB S (opn S (S 11 (iN x0)) (iN x3)) (iN x1) (D0 - 1) (Y 2)) (S 0 1 - Y 2 (D0 - 1)) (Y 2 (D0 - 1))) → ∀ (H : Heap) (locs : List Loc), va_P D vwCl (wM q k S Y) H → va_D A (wM q k S Y) → va_S A s.heap H locs → ∀ (ls : Array Slot), lv_has ls 9 [(8, .int (nI w)), (7, .int (pI D0)), (6, .int (nI c6)), (0, .ref (q 0)), (1, .int x0), (2, .int x1), (3, .int x2), (4, .int x3), (5, .int x4)] → W p l e (headSpec wsX3_plain ({ frames := 3, cells := 0, slots := 0, locals := 80 } : Room)).room s m [.ref (q 0), .int x0, .int x1, .int x2, .int x3, .int x4].toArray below meth c H locs 0 0 (MQ below (va_Qi (fun (r : Int32) (u : (Nat → Nat → Nat) × (Nat → Nat → Nat)) => (cd1 (okD S x0 x1 x2 x3 ∧ 0 ≤ x4.toInt ∧ x4.toInt ≤ 5) = 0 → r = nI (if iN x1 = iN x2 then 0 else (cw S (opn S (S 11 (iN x0)) (iN x3)) (iN x1) (iN x2) (iN x4) 0 (up1 (Z 2) 0 0) 0))) ∧ u.1 = S ∧ u.2 0 0 = cd1 (okD S x0 x1 x2 x3 ∧ 0 ≤ x4.toInt ∧ x4.toInt ≤ 5) ∧ Rb (u.2 1)) (fun u t => wE D (A) (wM q k u.1 u.2) t) (A)) [.ref (q 0), .int x0, .int x1, .int x2, .int x3, .int x4].toArray s 0 0 A) (F0 m 74 ls []) := by
                  intro n74
                  induction n74 with
                  | zero =>
                    intro w hfuel74 hw1 hw0 H locs hP hD hS ls hl
                    exact absurd hfuel74 (by omega)
                  | succ n74 ih74 =>
                    intro w hfuel74 hw1 hw0 H locs hP hD hS ls hl
                    refine lv_iload hx hb dX3_plain_74 (lv_at hl 0 rfl) ?_
                    refine lv_iconst (v := nI 2) hx hb dX3_plain_76 (by decide) ?_
                    refine lv_aload_n hx hb dX3_plain_77 rfl (lv_at hl 3 rfl) ?_
                    refine va_get (D := D) (v := .int (nI ((S 0 1) / 2))) hx hb hts hin_X3 hown hX.1 hP 0 rfl rfl 8 (by decide) hf_73 (fun _ h9 => h9) rfl dX3_plain_78 ?_
                    refine na_imul hx hb dX3_plain_81 ?_
                    refine na_icmp_ge (tgt := 106) hx hb (by omega) (by omega) dX3_plain_82 (by decide) (fun h_82 => ?_) (fun h_82 => ?_)
                    · skip
                      have hnw : nx (msB S (opn S (S 11 (iN x0)) (iN x3)) (iN x1) (D0 - 1) (Y 2)) (S 0 1 - Y 2 (D0 - 1)) (Y 2 (D0 - 1)) = w := by rw [← hw0]; first | exact nx_y (bN_pos h_97) | (rw [show S 0 1 - w = 0 by omega]; rfl)
                      refine lv_aload_n hx hb dX3_plain_106 rfl (lv_at hl 3 rfl) ?_
                      refine va_get (D := D) (v := .ref (q 16)) hx hb hts hin_X3 hown hX.1 hP 0 rfl rfl 23 (by decide) hf_56 (fun _ h9 => h9) rfl dX3_plain_107 ?_
                      refine lv_iload hx hb dX3_plain_110 (lv_at hl 1 rfl) ?_
                      refine na_as (y := nI (D0 - 1)) (pI_pos (by omega)) ?_
                      refine lv_iload hx hb dX3_plain_112 (lv_at hl 0 rfl) ?_
                      refine na_as (y := pI (w + 1)) (pI_s w) ?_
                      refine na_iast hx hb hX.1 hP hD hS 16 0 rfl rfl (by omega) (by decide) (upd_enc pI _ _ _) dX3_plain_114 (fun H locs hP hD hS => ?_)
                      have hP : va_P D vwCl (wM q k S (up2 Y 2 (D0 - 1) (w + 1))) H := sP_M16 hP
                      have hD : va_D A (wM q k S (up2 Y 2 (D0 - 1) (w + 1))) := sD_M16 hD
                      refine lv_iload hx hb dX3_plain_115 (lv_at hl 0 rfl) ?_
                      refine lv_iconst (v := nI 2) hx hb dX3_plain_117 (by decide) ?_
                      refine lv_aload_n hx hb dX3_plain_118 rfl (lv_at hl 3 rfl) ?_
                      refine va_get (D := D) (v := .int (nI ((S 0 1) / 2))) hx hb hts hin_X3 hown hX.1 hP 0 rfl rfl 8 (by decide) hf_73 (fun _ h9 => h9) rfl dX3_plain_119 ?_
                      refine na_imul hx hb dX3_plain_122 ?_
                      refine na_icmp_ne (tgt := 132) hx hb (by omega) (by omega) dX3_plain_123 (by decide) (fun h_123 => ?_) (fun h_123 => ?_)
                      · skip
                        have g8 := hB.2.2.2.1 w (by omega)
                        refine lv_aload_n hx hb dX3_plain_132 rfl (lv_at hl 3 rfl) ?_
                        refine lv_iload hx hb dX3_plain_133 (lv_at hl 0 rfl) ?_
                        refine lv_iconst (v := nI 2) hx hb dX3_plain_135 (by decide) ?_
                        refine na_idiv2 hx hb (by omega) dX3_plain_136 ?_
                        refine lv_iload hx hb dX3_plain_137 (lv_at hl 0 rfl) ?_
                        refine lv_iconst (v := nI 2) hx hb dX3_plain_139 (by decide) ?_
                        refine na_irem2 hx hb (by omega) dX3_plain_140 ?_
                        refine rd_V (As := [.int (nI (w / 2)), .int (nI (w % 2))]) (rest := []) ⟨hx, hb, hml, hown, hts⟩ (k_X3_to l D q k S (up2 Y 2 (D0 - 1) (w + 1)) (w / 2) (w % 2) hJ (by omega) (by omega)) (cwV 2 hts gX3_plain_X3_to rfl rfl rfl (by decide +kernel) ⟨by decide, by decide⟩) hX hP (q0 := 0) rfl rfl rfl hl.1 rfl (Nat.le_of_ble_eq_true rfl) dX3_plain_141 ⟨Nat.zero_le _, Nat.zero_le _⟩ ?_
                        refine na_as (y := nI (S 8 w)) (by rw [half2]) ?_
                        refine lv_iconst (v := nI 2) hx hb dX3_plain_144 (by decide) ?_
                        refine na_idiv2 hx hb (by omega) dX3_plain_145 ?_
                        refine lv_iload_n hx hb dX3_plain_146 rfl (lv_at hl 6 rfl) ?_
                        refine na_as (y := nI (iN x2)) (iN_eq i0.2.2.1.1) ?_
                        refine na_icmp_ne (tgt := 156) hx hb (by omega) (by omega) dX3_plain_147 (by decide) (fun h_147 => ?_) (fun h_147 => ?_)
                        · skip
                          refine lv_iload hx hb dX3_plain_156 (lv_at hl 1 rfl) ?_
                          refine na_as (y := nI (D0 - 1)) (pI_pos (by omega)) ?_
                          refine lv_iload hx hb dX3_plain_158 (lv_at hl 8 rfl) ?_
                          refine na_as (y := nI (iN x4)) (iN_eq (by omega)) ?_
                          refine na_icmp_ge (tgt := 174) hx hb (by omega) (by omega) dX3_plain_160 (by decide) (fun h_160 => ?_) (fun h_160 => ?_)
                          · skip
                            refine lv_goto (tgt := 58) hx hb dX3_plain_174 (by decide) ?_
                            exact ih58 D0 c6 ((up2 Y 2 (D0 - 1) (w + 1))) (by have hq := hst (by omega); first | (rw [pstA hnw (by omega)] at hq; exact hq) | (rw [pstB (by omega) hnw (by omega) h_147] at hq; exact hq) | (rw [pstC (by omega) hnw (by omega) h_147 (by omega)] at hq; exact hq) | (rw [pstD (by omega) hnw (by omega) h_147 (by omega)] at hq; exact hq)) (by omega) hY0 hY1 (fun k hk => by first | exact onP hon (by omega) hk | exact onS hon (by omega)) (fun z => by first | exact (onS hon (show D0 - 1 - 1 + 1 < D0 by omega)).2 | (show _ ≤ S 0 1; rw [up2_same]; omega) | exact Nat.zero_le _ | (show up2 _ 2 D0 0 2 D0 ≤ S 0 1; rw [up2_same]; omega)) _ _ hP hD hS ls (lv_sub hl [1, 2, 3, 4, 5, 6, 7, 8] rfl)
                          · skip
                            refine lv_iinc (v := pI (D0 + 1)) (lv' := [(7, .int (pI (D0 + 1))), (8, .int (nI w)), (6, .int (nI c6)), (0, .ref (q 0)), (1, .int x0), (2, .int x1), (3, .int x2), (4, .int x3), (5, .int x4)]) hx hb dX3_plain_163 hl (k := 1) rfl (pI_inc _) (by decide) rfl (fun ls hl => ?_)
                            refine lv_aload_n hx hb dX3_plain_166 rfl (lv_at hl 3 rfl) ?_
                            refine va_get (D := D) (v := .ref (q 16)) hx hb hts hin_X3 hown hX.1 hP 0 rfl rfl 23 (by decide) hf_56 (fun _ h9 => h9) rfl dX3_plain_167 ?_
                            refine lv_iload hx hb dX3_plain_170 (lv_at hl 0 rfl) ?_
                            refine na_as (y := nI D0) (pI_pos (by omega)) ?_
                            refine lv_iconst (v := pI 0) hx hb dX3_plain_172 (by decide) ?_
                            refine na_iast hx hb hX.1 hP hD hS 16 0 rfl rfl (by omega) (by decide) (upd_enc pI _ _ _) dX3_plain_173 (fun H locs hP hD hS => ?_)
                            have hP : va_P D vwCl (wM q k S (up2 (up2 Y 2 (D0 - 1) (w + 1)) 2 D0 0)) H := sP_M16 hP
                            have hD : va_D A (wM q k S (up2 (up2 Y 2 (D0 - 1) (w + 1)) 2 D0 0)) := sD_M16 hD
                            refine lv_goto (tgt := 58) hx hb dX3_plain_174 (by decide) ?_
                            exact ih58 (D0 + 1) c6 ((up2 (up2 Y 2 (D0 - 1) (w + 1)) 2 D0 0)) (by have hq := hst (by omega); first | (rw [pstA hnw (by omega)] at hq; exact hq) | (rw [pstB (by omega) hnw (by omega) h_147] at hq; exact hq) | (rw [pstC (by omega) hnw (by omega) h_147 (by omega)] at hq; exact hq) | (rw [pstD (by omega) hnw (by omega) h_147 (by omega)] at hq; exact hq)) (by omega) hY0 hY1 (fun k hk => by first | exact onP hon (by omega) hk | exact onS hon (by omega)) (fun z => by first | exact (onS hon (show D0 - 1 - 1 + 1 < D0 by omega)).2 | (show _ ≤ S 0 1; rw [up2_same]; omega) | exact Nat.zero_le _ | (show up2 _ 2 D0 0 2 D0 ≤ S 0 1; rw [up2_same]; omega)) _ _ hP hD hS ls (lv_sub hl [0, 2, 3, 4, 5, 6, 7, 8] rfl)
                        · skip
                          refine lv_iinc (v := nI (c6 + 1)) (lv' := [(6, .int (nI (c6 + 1))), (8, .int (nI w)), (7, .int (pI D0)), (0, .ref (q 0)), (1, .int x0), (2, .int x1), (3, .int x2), (4, .int x3), (5, .int x4)]) hx hb dX3_plain_150 hl (k := 2) rfl (nI_add _ 1) (by decide) rfl (fun ls hl => ?_)
                          refine lv_goto (tgt := 174) hx hb dX3_plain_153 (by decide) ?_
                          refine lv_goto (tgt := 58) hx hb dX3_plain_174 (by decide) ?_
                          exact ih58 D0 ((c6 + 1)) ((up2 Y 2 (D0 - 1) (w + 1))) (by have hq := hst (by omega); first | (rw [pstA hnw (by omega)] at hq; exact hq) | (rw [pstB (by omega) hnw (by omega) h_147] at hq; exact hq) | (rw [pstC (by omega) hnw (by omega) h_147 (by omega)] at hq; exact hq) | (rw [pstD (by omega) hnw (by omega) h_147 (by omega)] at hq; exact hq)) (by omega) hY0 hY1 (fun k hk => by first | exact onP hon (by omega) hk | exact onS hon (by omega)) (fun z => by first | exact (onS hon (show D0 - 1 - 1 + 1 < D0 by omega)).2 | (show _ ≤ S 0 1; rw [up2_same]; omega) | exact Nat.zero_le _ | (show up2 _ 2 D0 0 2 D0 ≤ S 0 1; rw [up2_same]; omega)) _ _ hP hD hS ls (lv_sub hl [2, 0, 3, 4, 5, 6, 7, 8] rfl)
                      · skip
                        refine lv_iinc (v := pI (D0 - 1)) (lv' := [(7, .int (pI (D0 - 1))), (8, .int (nI w)), (6, .int (nI c6)), (0, .ref (q 0)), (1, .int x0), (2, .int x1), (3, .int x2), (4, .int x3), (5, .int x4)]) hx hb dX3_plain_126 hl (k := 1) rfl (pI_dec (by omega)) (by decide) rfl (fun ls hl => ?_)
                        refine lv_goto (tgt := 58) hx hb dX3_plain_129 (by decide) ?_
                        exact ih58 (D0 - 1) c6 ((up2 Y 2 (D0 - 1) (w + 1))) (by have hq := hst (by omega); first | (rw [pstA hnw (by omega)] at hq; exact hq) | (rw [pstB (by omega) hnw (by omega) h_147] at hq; exact hq) | (rw [pstC (by omega) hnw (by omega) h_147 (by omega)] at hq; exact hq) | (rw [pstD (by omega) hnw (by omega) h_147 (by omega)] at hq; exact hq)) (by omega) hY0 hY1 (fun k hk => by first | exact onP hon (by omega) hk | exact onS hon (by omega)) (fun z => by first | exact (onS hon (show D0 - 1 - 1 + 1 < D0 by omega)).2 | (show _ ≤ S 0 1; rw [up2_same]; omega) | exact Nat.zero_le _ | (show up2 _ 2 D0 0 2 D0 ≤ S 0 1; rw [up2_same]; omega)) _ _ hP hD hS ls (lv_sub hl [0, 2, 3, 4, 5, 6, 7, 8] rfl)
                    · skip
                      refine lv_aload_n hx hb dX3_plain_85 rfl (lv_at hl 3 rfl) ?_
                      refine lv_iload_n hx hb dX3_plain_86 rfl (lv_at hl 4 rfl) ?_
                      refine na_as (y := nI (iN x0)) (iN_eq i0.1.1) ?_
                      refine lv_iload_n hx hb dX3_plain_87 rfl (lv_at hl 5 rfl) ?_
                      refine na_as (y := nI (iN x1)) (iN_eq i0.2.1.1) ?_
                      refine lv_iload hx hb dX3_plain_88 (lv_at hl 1 rfl) ?_
                      refine na_as (y := nI (D0 - 1)) (pI_pos (by omega)) ?_
                      refine lv_iload hx hb dX3_plain_90 (lv_at hl 0 rfl) ?_
                      refine lv_iload hx hb dX3_plain_92 (lv_at hl 7 rfl) ?_
                      refine na_as (y := nI (iN x3)) (iN_eq i0.2.2.2.1) ?_
                      refine rd_V (As := [.int (nI (iN x0)), .int (nI (iN x1)), .int (nI (D0 - 1)), .int (nI w), .int (nI (iN x3))]) (rest := []) ⟨hx, hb, hml, hown, hts⟩ (k_X3_maySet l D q k S Y (iN x0) (iN x1) (D0 - 1) w (iN x3) hB hJ (by omega) l1 (by omega) (by omega) (by omega) (fun k hk => hon k (by omega))) (cwV 5 hts gX3_plain_X3_maySet rfl rfl rfl (by decide +kernel) ⟨by decide, by decide⟩) hX hP (q0 := 0) rfl rfl rfl hl.1 rfl (Nat.le_of_ble_eq_true rfl) dX3_plain_94 ⟨Nat.zero_le _, Nat.zero_le _⟩ ?_
                      refine na_if_ne (tgt := 106) hx hb (bN_lt _) dX3_plain_97 (by decide) (fun h_97 => ?_) (fun h_97 => ?_)
                      · skip
                        have hnw : nx (msB S (opn S (S 11 (iN x0)) (iN x3)) (iN x1) (D0 - 1) (Y 2)) (S 0 1 - Y 2 (D0 - 1)) (Y 2 (D0 - 1)) = w := by rw [← hw0]; first | exact nx_y (bN_pos h_97) | (rw [show S 0 1 - w = 0 by omega]; rfl)
                        refine lv_aload_n hx hb dX3_plain_106 rfl (lv_at hl 3 rfl) ?_
                        refine va_get (D := D) (v := .ref (q 16)) hx hb hts hin_X3 hown hX.1 hP 0 rfl rfl 23 (by decide) hf_56 (fun _ h9 => h9) rfl dX3_plain_107 ?_
                        refine lv_iload hx hb dX3_plain_110 (lv_at hl 1 rfl) ?_
                        refine na_as (y := nI (D0 - 1)) (pI_pos (by omega)) ?_
                        refine lv_iload hx hb dX3_plain_112 (lv_at hl 0 rfl) ?_
                        refine na_as (y := pI (w + 1)) (pI_s w) ?_
                        refine na_iast hx hb hX.1 hP hD hS 16 0 rfl rfl (by omega) (by decide) (upd_enc pI _ _ _) dX3_plain_114 (fun H locs hP hD hS => ?_)
                        have hP : va_P D vwCl (wM q k S (up2 Y 2 (D0 - 1) (w + 1))) H := sP_M16 hP
                        have hD : va_D A (wM q k S (up2 Y 2 (D0 - 1) (w + 1))) := sD_M16 hD
                        refine lv_iload hx hb dX3_plain_115 (lv_at hl 0 rfl) ?_
                        refine lv_iconst (v := nI 2) hx hb dX3_plain_117 (by decide) ?_
                        refine lv_aload_n hx hb dX3_plain_118 rfl (lv_at hl 3 rfl) ?_
                        refine va_get (D := D) (v := .int (nI ((S 0 1) / 2))) hx hb hts hin_X3 hown hX.1 hP 0 rfl rfl 8 (by decide) hf_73 (fun _ h9 => h9) rfl dX3_plain_119 ?_
                        refine na_imul hx hb dX3_plain_122 ?_
                        refine na_icmp_ne (tgt := 132) hx hb (by omega) (by omega) dX3_plain_123 (by decide) (fun h_123 => ?_) (fun h_123 => ?_)
                        · skip
                          have g8 := hB.2.2.2.1 w (by omega)
                          refine lv_aload_n hx hb dX3_plain_132 rfl (lv_at hl 3 rfl) ?_
                          refine lv_iload hx hb dX3_plain_133 (lv_at hl 0 rfl) ?_
                          refine lv_iconst (v := nI 2) hx hb dX3_plain_135 (by decide) ?_
                          refine na_idiv2 hx hb (by omega) dX3_plain_136 ?_
                          refine lv_iload hx hb dX3_plain_137 (lv_at hl 0 rfl) ?_
                          refine lv_iconst (v := nI 2) hx hb dX3_plain_139 (by decide) ?_
                          refine na_irem2 hx hb (by omega) dX3_plain_140 ?_
                          refine rd_V (As := [.int (nI (w / 2)), .int (nI (w % 2))]) (rest := []) ⟨hx, hb, hml, hown, hts⟩ (k_X3_to l D q k S (up2 Y 2 (D0 - 1) (w + 1)) (w / 2) (w % 2) hJ (by omega) (by omega)) (cwV 2 hts gX3_plain_X3_to rfl rfl rfl (by decide +kernel) ⟨by decide, by decide⟩) hX hP (q0 := 0) rfl rfl rfl hl.1 rfl (Nat.le_of_ble_eq_true rfl) dX3_plain_141 ⟨Nat.zero_le _, Nat.zero_le _⟩ ?_
                          refine na_as (y := nI (S 8 w)) (by rw [half2]) ?_
                          refine lv_iconst (v := nI 2) hx hb dX3_plain_144 (by decide) ?_
                          refine na_idiv2 hx hb (by omega) dX3_plain_145 ?_
                          refine lv_iload_n hx hb dX3_plain_146 rfl (lv_at hl 6 rfl) ?_
                          refine na_as (y := nI (iN x2)) (iN_eq i0.2.2.1.1) ?_
                          refine na_icmp_ne (tgt := 156) hx hb (by omega) (by omega) dX3_plain_147 (by decide) (fun h_147 => ?_) (fun h_147 => ?_)
                          · skip
                            refine lv_iload hx hb dX3_plain_156 (lv_at hl 1 rfl) ?_
                            refine na_as (y := nI (D0 - 1)) (pI_pos (by omega)) ?_
                            refine lv_iload hx hb dX3_plain_158 (lv_at hl 8 rfl) ?_
                            refine na_as (y := nI (iN x4)) (iN_eq (by omega)) ?_
                            refine na_icmp_ge (tgt := 174) hx hb (by omega) (by omega) dX3_plain_160 (by decide) (fun h_160 => ?_) (fun h_160 => ?_)
                            · skip
                              refine lv_goto (tgt := 58) hx hb dX3_plain_174 (by decide) ?_
                              exact ih58 D0 c6 ((up2 Y 2 (D0 - 1) (w + 1))) (by have hq := hst (by omega); first | (rw [pstA hnw (by omega)] at hq; exact hq) | (rw [pstB (by omega) hnw (by omega) h_147] at hq; exact hq) | (rw [pstC (by omega) hnw (by omega) h_147 (by omega)] at hq; exact hq) | (rw [pstD (by omega) hnw (by omega) h_147 (by omega)] at hq; exact hq)) (by omega) hY0 hY1 (fun k hk => by first | exact onP hon (by omega) hk | exact onS hon (by omega)) (fun z => by first | exact (onS hon (show D0 - 1 - 1 + 1 < D0 by omega)).2 | (show _ ≤ S 0 1; rw [up2_same]; omega) | exact Nat.zero_le _ | (show up2 _ 2 D0 0 2 D0 ≤ S 0 1; rw [up2_same]; omega)) _ _ hP hD hS ls (lv_sub hl [1, 2, 3, 4, 5, 6, 7, 8] rfl)
                            · skip
                              refine lv_iinc (v := pI (D0 + 1)) (lv' := [(7, .int (pI (D0 + 1))), (8, .int (nI w)), (6, .int (nI c6)), (0, .ref (q 0)), (1, .int x0), (2, .int x1), (3, .int x2), (4, .int x3), (5, .int x4)]) hx hb dX3_plain_163 hl (k := 1) rfl (pI_inc _) (by decide) rfl (fun ls hl => ?_)
                              refine lv_aload_n hx hb dX3_plain_166 rfl (lv_at hl 3 rfl) ?_
                              refine va_get (D := D) (v := .ref (q 16)) hx hb hts hin_X3 hown hX.1 hP 0 rfl rfl 23 (by decide) hf_56 (fun _ h9 => h9) rfl dX3_plain_167 ?_
                              refine lv_iload hx hb dX3_plain_170 (lv_at hl 0 rfl) ?_
                              refine na_as (y := nI D0) (pI_pos (by omega)) ?_
                              refine lv_iconst (v := pI 0) hx hb dX3_plain_172 (by decide) ?_
                              refine na_iast hx hb hX.1 hP hD hS 16 0 rfl rfl (by omega) (by decide) (upd_enc pI _ _ _) dX3_plain_173 (fun H locs hP hD hS => ?_)
                              have hP : va_P D vwCl (wM q k S (up2 (up2 Y 2 (D0 - 1) (w + 1)) 2 D0 0)) H := sP_M16 hP
                              have hD : va_D A (wM q k S (up2 (up2 Y 2 (D0 - 1) (w + 1)) 2 D0 0)) := sD_M16 hD
                              refine lv_goto (tgt := 58) hx hb dX3_plain_174 (by decide) ?_
                              exact ih58 (D0 + 1) c6 ((up2 (up2 Y 2 (D0 - 1) (w + 1)) 2 D0 0)) (by have hq := hst (by omega); first | (rw [pstA hnw (by omega)] at hq; exact hq) | (rw [pstB (by omega) hnw (by omega) h_147] at hq; exact hq) | (rw [pstC (by omega) hnw (by omega) h_147 (by omega)] at hq; exact hq) | (rw [pstD (by omega) hnw (by omega) h_147 (by omega)] at hq; exact hq)) (by omega) hY0 hY1 (fun k hk => by first | exact onP hon (by omega) hk | exact onS hon (by omega)) (fun z => by first | exact (onS hon (show D0 - 1 - 1 + 1 < D0 by omega)).2 | (show _ ≤ S 0 1; rw [up2_same]; omega) | exact Nat.zero_le _ | (show up2 _ 2 D0 0 2 D0 ≤ S 0 1; rw [up2_same]; omega)) _ _ hP hD hS ls (lv_sub hl [0, 2, 3, 4, 5, 6, 7, 8] rfl)
                          · skip
                            refine lv_iinc (v := nI (c6 + 1)) (lv' := [(6, .int (nI (c6 + 1))), (8, .int (nI w)), (7, .int (pI D0)), (0, .ref (q 0)), (1, .int x0), (2, .int x1), (3, .int x2), (4, .int x3), (5, .int x4)]) hx hb dX3_plain_150 hl (k := 2) rfl (nI_add _ 1) (by decide) rfl (fun ls hl => ?_)
                            refine lv_goto (tgt := 174) hx hb dX3_plain_153 (by decide) ?_
                            refine lv_goto (tgt := 58) hx hb dX3_plain_174 (by decide) ?_
                            exact ih58 D0 ((c6 + 1)) ((up2 Y 2 (D0 - 1) (w + 1))) (by have hq := hst (by omega); first | (rw [pstA hnw (by omega)] at hq; exact hq) | (rw [pstB (by omega) hnw (by omega) h_147] at hq; exact hq) | (rw [pstC (by omega) hnw (by omega) h_147 (by omega)] at hq; exact hq) | (rw [pstD (by omega) hnw (by omega) h_147 (by omega)] at hq; exact hq)) (by omega) hY0 hY1 (fun k hk => by first | exact onP hon (by omega) hk | exact onS hon (by omega)) (fun z => by first | exact (onS hon (show D0 - 1 - 1 + 1 < D0 by omega)).2 | (show _ ≤ S 0 1; rw [up2_same]; omega) | exact Nat.zero_le _ | (show up2 _ 2 D0 0 2 D0 ≤ S 0 1; rw [up2_same]; omega)) _ _ hP hD hS ls (lv_sub hl [2, 0, 3, 4, 5, 6, 7, 8] rfl)
                        · skip
                          refine lv_iinc (v := pI (D0 - 1)) (lv' := [(7, .int (pI (D0 - 1))), (8, .int (nI w)), (6, .int (nI c6)), (0, .ref (q 0)), (1, .int x0), (2, .int x1), (3, .int x2), (4, .int x3), (5, .int x4)]) hx hb dX3_plain_126 hl (k := 1) rfl (pI_dec (by omega)) (by decide) rfl (fun ls hl => ?_)
                          refine lv_goto (tgt := 58) hx hb dX3_plain_129 (by decide) ?_
                          exact ih58 (D0 - 1) c6 ((up2 Y 2 (D0 - 1) (w + 1))) (by have hq := hst (by omega); first | (rw [pstA hnw (by omega)] at hq; exact hq) | (rw [pstB (by omega) hnw (by omega) h_147] at hq; exact hq) | (rw [pstC (by omega) hnw (by omega) h_147 (by omega)] at hq; exact hq) | (rw [pstD (by omega) hnw (by omega) h_147 (by omega)] at hq; exact hq)) (by omega) hY0 hY1 (fun k hk => by first | exact onP hon (by omega) hk | exact onS hon (by omega)) (fun z => by first | exact (onS hon (show D0 - 1 - 1 + 1 < D0 by omega)).2 | (show _ ≤ S 0 1; rw [up2_same]; omega) | exact Nat.zero_le _ | (show up2 _ 2 D0 0 2 D0 ≤ S 0 1; rw [up2_same]; omega)) _ _ hP hD hS ls (lv_sub hl [0, 2, 3, 4, 5, 6, 7, 8] rfl)
                      · skip
                        refine lv_iinc (v := nI (w + 1)) (lv' := [(8, .int (nI (w + 1))), (7, .int (pI D0)), (6, .int (nI c6)), (0, .ref (q 0)), (1, .int x0), (2, .int x1), (3, .int x2), (4, .int x3), (5, .int x4)]) hx hb dX3_plain_100 hl (k := 0) rfl (nI_add _ 1) (by decide) rfl (fun ls hl => ?_)
                        refine lv_goto (tgt := 74) hx hb dX3_plain_103 (by decide) ?_
                        exact ih74 (w + 1) (by omega) (by omega) (by rw [← hw0, nx_n (k := S 0 1 - w) (bN_no h_97) (by omega)]; rfl) _ _ hP hD hS ls hl
                exact L74 (S 0 1 + 1) ((Y 2 (D0 - 1))) (by omega) (hcu (by omega)) rfl _ _ hP hD hS ls hl
          exact L58 j9 1 0 ((up2 (up2 Z 0 0 0) 2 0 0)) hj9 (by omega) rfl rfl (fun k hk => absurd hk (by omega)) (fun _ => Nat.zero_le _) _ _ hP hD hS ls hl
        · skip
          refine lv_iconst (v := nI 0) hx hb dX3_plain_43 (by decide) ?_
          exact W.iret (v := nI 0) hx hb hr (fun t ht hW => ⟨⟨_, (S, (up2 Z 0 0 0)), rfl, ⟨fun _ => congrArg nI (by rw [if_pos (by omega)]), rfl, by rw [c0]; rfl, hR⟩, by rw [ht]; exact hP, hD⟩, hS.F ht⟩) hS.2.2 dX3_plain_44
