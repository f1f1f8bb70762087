set_option maxHeartbeats 4000000 in
set_option maxRecDepth 100000 in
theorem cs_closed {p : Program} {l : Launch} {e : Env} {s : State} {m : MethodId} {below : List Frame} {meth : Method} {c : Code} {b L : Nat} {xs : Nat → Int32} {D : va_G} {k : Nat → ClassId} {g q r : Nat → Nat} {o T cells slots : Nat} {Q : State → Prop} {S Zm Zc : Nat → Nat → Nat} {f : Nat → Int64} {H : Heap} {locs : List Loc} {ls : Array Slot} (C : LC p l s m c b L xs D k) (hi : 6 * T + 6 ≤ L) (hI : IV T S) (hC : CI S Zc) (hR : Rb (Zm 1)) (hP : va_P D vwCl (wL g q k r o S Zm S Zc f) H) (hD : va_D (fun q => s.heap.size ≤ q) (wL g q k r o S Zm S Zc f)) (hS : va_S (fun q => s.heap.size ≤ q) s.heap H locs) (hl : lv_has ls 7 (LL b q g o (6 * T))) (hc : cells ≤ 100000) (hs : slots ≤ 1000000) (N : LNx p l e s m below meth c b D k g q r o T cells slots Q) : W p l e room_1 s m #[Value.ref b] below meth c H locs cells slots Q (F0 m 644 ls []) := by
  obtain ⟨hF, hst, hXs, hbl, hL, hX, hT, hN, hZ⟩ := C
  have hx := hF.1
  have hb := hF.2.1
  have hts := hF.2.2.2.2
  have hA : ∀ q : Nat, s.heap.size ≤ q → s.heap.size ≤ q := fun _ h => h
  have hP : va_P D vwCl (wM g k S Zm ++ (oX k o f ++ wC q k r S Zc)) H := hP
  have hD : va_D (fun q => s.heap.size ≤ q) (wM g k S Zm ++ (oX k o f ++ wC q k r S Zc)) := hD
  refine lv_aload_n hx hb dL_law_644 rfl (lv_at hl 1 rfl) ?_
  refine lq_rd hx hb hXs hbl hS (i := 6 * T) (j := 1) (lv_at hl 0 rfl) (lv_at hl 4 rfl) (by omega) hL dL_law_645 dL_law_646 dL_law_648 (by decide) dL_law_649 dL_law_650 ?_
  refine lq_rd hx hb hXs hbl hS (i := 6 * T) (j := 2) (lv_at hl 0 rfl) (lv_at hl 4 rfl) (by omega) hL dL_law_651 dL_law_652 dL_law_654 (by decide) dL_law_655 dL_law_656 ?_
  refine lq_bool hx hb dL_law_657 dL_law_660 dL_law_661 dL_law_664 ?_
  refine lv_aload_n hx hb dL_law_665 rfl (lv_at hl 3 rfl) ?_
  refine ls_Si (Wr := wM g k S Zm) (Wd := oX k o f ++ wC q k r S Zc) (As := [.ref (q 0), .int (xs (6 * T + 1)), .int (nI (bN (decide (xs (6 * T + 2) ≠ 0)))), .ref o]) (rest := []) hF (k_L_closed l hst D q k r S Zc _ o f (xs (6 * T + 1)) (decide (xs (6 * T + 2) ≠ 0)) hI.Bd) (vx_cwSW 4 hts gL_law_L_closed rfl rfl rfl (by decide +kernel) ⟨by decide, by decide⟩) hX hT hN hZ hP hD hS hA rfl hl.1 rfl (Nat.le_of_ble_eq_true rfl) dL_law_666 ⟨by show _ ≤ 601024; omega, by show _ ≤ 7293034; omega⟩ (fun k9 u1 H locs hp1 hP hD hS => ?_)
  obtain ⟨S3, Zc3, f3⟩ := u1
  obtain ⟨rfl, hp1⟩ := hp1
  dsimp only at hp1 hP hD
  refine lv_istore (lv' := (5, .int (nI (cd1 (isPc S (xs (6 * T + 1)))))) :: LL b q g o (6 * T)) hx hb dL_law_669 hl (by decide) rfl (fun ls hl => ?_)
  refine lv_aload_n hx hb dL_law_671 rfl (lv_at hl 3 rfl) ?_
  refine lq_rd hx hb hXs hbl hS (i := 6 * T) (j := 1) (lv_at hl 1 rfl) (lv_at hl 5 rfl) (by omega) hL dL_law_672 dL_law_673 dL_law_675 (by decide) dL_law_676 dL_law_677 ?_
  refine lq_rd hx hb hXs hbl hS (i := 6 * T) (j := 2) (lv_at hl 1 rfl) (lv_at hl 5 rfl) (by omega) hL dL_law_678 dL_law_679 dL_law_681 (by decide) dL_law_682 dL_law_683 ?_
  refine lq_bool hx hb dL_law_684 dL_law_687 dL_law_688 dL_law_691 ?_
  refine lm_Vi (Wd := wM g k S Zm) (Wr := oX k o f3 ++ wC q k r S3 Zc3) (As := [.int (xs (6 * T + 1)), .int (nI (bN (decide (xs (6 * T + 2) ≠ 0))))]) (rest := []) hF (k_X3_closed l D g k S Zm _ (xs (6 * T + 1)) (decide (xs (6 * T + 2) ≠ 0)) hI.Bd) (cwV 2 hts gL_law_X3_closed rfl rfl rfl (by decide +kernel) ⟨by decide, by decide⟩) hX hP hD hS hA (q0 := 0) rfl rfl rfl hl.1 rfl (Nat.le_of_ble_eq_true rfl) dL_law_692 ⟨by show _ ≤ 601024; omega, by show _ ≤ 7293034; omega⟩ (fun r9 u2 H locs hp2 hP hD hS => ?_)
  obtain ⟨S2, Zm2⟩ := u2
  obtain ⟨hr9, e2, e3⟩ := hp2
  dsimp only at hr9 e2 e3 hP hD
  have e30 : Zm2 0 0 = cd1 (isPc S (xs (6 * T + 1))) := by rw [e3]; exact up2_same _ _ _ _
  have e31 : Rb (Zm2 1) := by rw [e3]; exact Rb_up hR
  obtain ⟨h1, h2, h3, h4⟩ : S3 = S2 ∧ IV (T + 1) S2 ∧ CI S2 Zc3 ∧ (cd1 (isPc S (xs (6 * T + 1))) = 0 → f3 0 = (nI (sm (clS S (iN (xs (6 * T + 1))) (bN (decide (xs (6 * T + 2) ≠ 0))) 5) 0 (S 0 0))).toInt64) := by
    rcases hp1 with ⟨h0, w1, w2, w3⟩ | ⟨h0, w1, w2⟩
    · have hn := np_closed (T := T) (b := decide (xs (6 * T + 2) ≠ 0)) hI hC h0 w2
      have e9 := (e2.trans (nS_0 h0))
      subst e9
      exact ⟨w1, hn.1, hn.2, fun _ => w3⟩
    · have e9 := (e2.trans (nS_n h0))
      subst e9
      subst w2
      exact ⟨w1, hI.mono (Nat.le_succ T), hC, fun h => absurd h h0⟩
  subst h1
  refine lv_istore (lv' := (6, .int r9) :: (5, .int (nI (cd1 (isPc S (xs (6 * T + 1)))))) :: LL b q g o (6 * T)) hx hb dL_law_695 hl (by decide) rfl (fun ls hl => ?_)
  refine lq_thr hF hX hP e30 hl.1 (lv_at hl 4 rfl) (lv_at hl 1 rfl) (by omega) (by omega) dL_law_697 dL_law_698 dL_law_701 dL_law_703 ?_
  refine lq_out hF hX hP cd2_31 (fun h0 => (h4 h0).trans (congrArg Int32.toInt64 (hr9 h0).symm)) (lv_at hl 5 rfl) (lv_at hl 1 rfl) (lv_at hl 0 rfl) dL_law_708 dL_law_710 dL_law_713 dL_law_714 dL_law_715 dL_law_716 dL_law_718 dL_law_719 dL_law_720 dL_law_725 (by decide) ?_
  refine W.widen (k := cells + 5) (n := slots + 30) (by omega) (by omega) ?_
  exact N _ _ _ _ _ _ _ h2 h3 e31 hP hD hS (lv_sub hl [2, 3, 4, 5, 6] rfl)

set_option maxHeartbeats 4000000 in
set_option maxRecDepth 100000 in
theorem cs_robot {p : Program} {l : Launch} {e : Env} {s : State} {m : MethodId} {below : List Frame} {meth : Method} {c : Code} {b L : Nat} {xs : Nat → Int32} {D : va_G} {k : Nat → ClassId} {g q r : Nat → Nat} {o T cells slots : Nat} {Q : State → Prop} {S Zm Zc : Nat → Nat → Nat} {f : Nat → Int64} {H : Heap} {locs : List Loc} {ls : Array Slot} (C : LC p l s m c b L xs D k) (hi : 6 * T + 6 ≤ L) (hI : IV T S) (hC : CI S Zc) (hR : Rb (Zm 1)) (hP : va_P D vwCl (wL g q k r o S Zm S Zc f) H) (hD : va_D (fun q => s.heap.size ≤ q) (wL g q k r o S Zm S Zc f)) (hS : va_S (fun q => s.heap.size ≤ q) s.heap H locs) (hl : lv_has ls 7 (LL b q g o (6 * T))) (hc : cells ≤ 100000) (hs : slots ≤ 1000000) (N : LNx p l e s m below meth c b D k g q r o T cells slots Q) : W p l e room_1 s m #[Value.ref b] below meth c H locs cells slots Q (F0 m 728 ls []) := by
  obtain ⟨hF, hst, hXs, hbl, hL, hX, hT, hN, hZ⟩ := C
  have hx := hF.1
  have hb := hF.2.1
  have hts := hF.2.2.2.2
  have hA : ∀ q : Nat, s.heap.size ≤ q → s.heap.size ≤ q := fun _ h => h
  have hP : va_P D vwCl (wM g k S Zm ++ (oX k o f ++ wC q k r S Zc)) H := hP
  have hD : va_D (fun q => s.heap.size ≤ q) (wM g k S Zm ++ (oX k o f ++ wC q k r S Zc)) := hD
  refine lv_aload_n hx hb dL_law_728 rfl (lv_at hl 1 rfl) ?_
  refine lq_rd hx hb hXs hbl hS (i := 6 * T) (j := 1) (lv_at hl 0 rfl) (lv_at hl 4 rfl) (by omega) hL dL_law_729 dL_law_730 dL_law_732 (by decide) dL_law_733 dL_law_734 ?_
  refine lv_aload_n hx hb dL_law_735 rfl (lv_at hl 3 rfl) ?_
  refine ls_Si (Wr := wM g k S Zm) (Wd := oX k o f ++ wC q k r S Zc) (As := [.ref (q 0), .int (xs (6 * T + 1)), .ref o]) (rest := []) hF (k_L_robot l hst D q k r S Zc _ o f (xs (6 * T + 1)) hI.Bd) (vx_cwSW 3 hts gL_law_L_robot rfl rfl rfl (by decide +kernel) ⟨by decide, by decide⟩) hX hT hN hZ hP hD hS hA rfl hl.1 rfl (Nat.le_of_ble_eq_true rfl) dL_law_736 ⟨by show _ ≤ 601024; omega, by show _ ≤ 7293034; omega⟩ (fun k9 u1 H locs hp1 hP hD hS => ?_)
  obtain ⟨S3, Zc3, f3⟩ := u1
  obtain ⟨rfl, hp1⟩ := hp1
  dsimp only at hp1 hP hD
  refine lv_istore (lv' := (5, .int (nI (cdR S (xs (6 * T + 1))))) :: LL b q g o (6 * T)) hx hb dL_law_739 hl (by decide) rfl (fun ls hl => ?_)
  refine lv_aload_n hx hb dL_law_741 rfl (lv_at hl 3 rfl) ?_
  refine lq_rd hx hb hXs hbl hS (i := 6 * T) (j := 1) (lv_at hl 1 rfl) (lv_at hl 5 rfl) (by omega) hL dL_law_742 dL_law_743 dL_law_745 (by decide) dL_law_746 dL_law_747 ?_
  refine lm_Vi (Wd := wM g k S Zm) (Wr := oX k o f3 ++ wC q k r S3 Zc3) (As := [.int (xs (6 * T + 1))]) (rest := []) hF (k_X3_robot l D g k S Zm _ (xs (6 * T + 1)) hI.Bd) (cwV 1 hts gL_law_X3_robot rfl rfl rfl (by decide +kernel) ⟨by decide, by decide⟩) hX hP hD hS hA (q0 := 0) rfl rfl rfl hl.1 rfl (Nat.le_of_ble_eq_true rfl) dL_law_748 ⟨by show _ ≤ 601024; omega, by show _ ≤ 7293034; omega⟩ (fun r9 u2 H locs hp2 hP hD hS => ?_)
  obtain ⟨S2, Zm2⟩ := u2
  obtain ⟨hr9, e2, e3⟩ := hp2
  dsimp only at hr9 e2 e3 hP hD
  have e30 : Zm2 0 0 = cdR S (xs (6 * T + 1)) := by rw [e3]; exact up2_same _ _ _ _
  have e31 : Rb (Zm2 1) := by rw [e3]; exact Rb_up hR
  obtain ⟨h1, h2, h3, h4⟩ : S3 = S2 ∧ IV (T + 1) S2 ∧ CI S2 Zc3 ∧ (cdR S (xs (6 * T + 1)) = 0 → f3 0 = (pI (if fitsW S (iN (xs (6 * T + 1))) = true then S 0 2 + 1 else 0)).toInt64) := by
    rcases hp1 with ⟨h0, w1, w2, w3⟩ | ⟨h0, w1, w2⟩
    · have hn := np_robot (T := T) hI hC h0 w2
      have e9 := (e2.trans (nS_0 h0))
      subst e9
      exact ⟨w1, hn.1, hn.2, fun _ => w3⟩
    · have e9 := (e2.trans (nS_n h0))
      subst e9
      subst w2
      exact ⟨w1, hI.mono (Nat.le_succ T), hC, fun h => absurd h h0⟩
  subst h1
  refine lv_istore (lv' := (6, .int r9) :: (5, .int (nI (cdR S (xs (6 * T + 1))))) :: LL b q g o (6 * T)) hx hb dL_law_751 hl (by decide) rfl (fun ls hl => ?_)
  refine lq_thr hF hX hP e30 hl.1 (lv_at hl 4 rfl) (lv_at hl 1 rfl) (by omega) (by omega) dL_law_753 dL_law_754 dL_law_757 dL_law_759 ?_
  refine lq_out hF hX hP cd2_31 (fun h0 => (h4 h0).trans (congrArg Int32.toInt64 (hr9 h0).symm)) (lv_at hl 5 rfl) (lv_at hl 1 rfl) (lv_at hl 0 rfl) dL_law_764 dL_law_766 dL_law_769 dL_law_770 dL_law_771 dL_law_772 dL_law_774 dL_law_775 dL_law_776 dL_law_781 (by decide) ?_
  refine W.widen (k := cells + 5) (n := slots + 30) (by omega) (by omega) ?_
  exact N _ _ _ _ _ _ _ h2 h3 e31 hP hD hS (lv_sub hl [2, 3, 4, 5, 6] rfl)

set_option maxHeartbeats 4000000 in
set_option maxRecDepth 100000 in
theorem cs_way {p : Program} {l : Launch} {e : Env} {s : State} {m : MethodId} {below : List Frame} {meth : Method} {c : Code} {b L : Nat} {xs : Nat → Int32} {D : va_G} {k : Nat → ClassId} {g q r : Nat → Nat} {o T cells slots : Nat} {Q : State → Prop} {S Zm Zc : Nat → Nat → Nat} {f : Nat → Int64} {H : Heap} {locs : List Loc} {ls : Array Slot} (C : LC p l s m c b L xs D k) (hi : 6 * T + 6 ≤ L) (hI : IV T S) (hC : CI S Zc) (hR : Rb (Zm 1)) (hP : va_P D vwCl (wL g q k r o S Zm S Zc f) H) (hD : va_D (fun q => s.heap.size ≤ q) (wL g q k r o S Zm S Zc f)) (hS : va_S (fun q => s.heap.size ≤ q) s.heap H locs) (hl : lv_has ls 7 (LL b q g o (6 * T))) (hc : cells ≤ 100000) (hs : slots ≤ 1000000) (N : LNx p l e s m below meth c b D k g q r o T cells slots Q) : W p l e room_1 s m #[Value.ref b] below meth c H locs cells slots Q (F0 m 784 ls []) := by
  obtain ⟨hF, hst, hXs, hbl, hL, hX, hT, hN, hZ⟩ := C
  have hx := hF.1
  have hb := hF.2.1
  have hts := hF.2.2.2.2
  have hA : ∀ q : Nat, s.heap.size ≤ q → s.heap.size ≤ q := fun _ h => h
  have hP : va_P D vwCl (wM g k S Zm ++ (oX k o f ++ wC q k r S Zc)) H := hP
  have hD : va_D (fun q => s.heap.size ≤ q) (wM g k S Zm ++ (oX k o f ++ wC q k r S Zc)) := hD
  refine lv_aload_n hx hb dL_law_784 rfl (lv_at hl 1 rfl) ?_
  refine lq_rd hx hb hXs hbl hS (i := 6 * T) (j := 1) (lv_at hl 0 rfl) (lv_at hl 4 rfl) (by omega) hL dL_law_785 dL_law_786 dL_law_788 (by decide) dL_law_789 dL_law_790 ?_
  refine lq_rd hx hb hXs hbl hS (i := 6 * T) (j := 2) (lv_at hl 0 rfl) (lv_at hl 4 rfl) (by omega) hL dL_law_791 dL_law_792 dL_law_794 (by decide) dL_law_795 dL_law_796 ?_
  refine lq_rd hx hb hXs hbl hS (i := 6 * T) (j := 3) (lv_at hl 0 rfl) (lv_at hl 4 rfl) (by omega) hL dL_law_797 dL_law_798 dL_law_800 (by decide) dL_law_801 dL_law_802 ?_
  refine lq_rd hx hb hXs hbl hS (i := 6 * T) (j := 4) (lv_at hl 0 rfl) (lv_at hl 4 rfl) (by omega) hL dL_law_803 dL_law_804 dL_law_806 (by decide) dL_law_807 dL_law_808 ?_
  refine lv_aload_n hx hb dL_law_809 rfl (lv_at hl 3 rfl) ?_
  refine ls_Si (Wr := wM g k S Zm) (Wd := oX k o f ++ wC q k r S Zc) (As := [.ref (q 0), .int (xs (6 * T + 1)), .int (xs (6 * T + 2)), .int (xs (6 * T + 3)), .int (xs (6 * T + 4)), .ref o]) (rest := []) hF (k_L_way l hst D q k r S Zc _ o f (xs (6 * T + 1)) (xs (6 * T + 2)) (xs (6 * T + 3)) (xs (6 * T + 4)) hI.Bd hC.1 hC.2.1 hI.Gw) (vx_cwSW 6 hts gL_law_L_way rfl rfl rfl (by decide +kernel) ⟨by decide, by decide⟩) hX hT hN hZ hP hD hS hA rfl hl.1 rfl (Nat.le_of_ble_eq_true rfl) dL_law_810 ⟨by show _ ≤ 601024; omega, by show _ ≤ 7293034; omega⟩ (fun k9 u1 H locs hp1 hP hD hS => ?_)
  obtain ⟨S3, Zc3, f3⟩ := u1
  obtain ⟨rfl, hp1⟩ := hp1
  dsimp only at hp1 hP hD
  refine lv_istore (lv' := (5, .int (nI (cd1 (okD S (xs (6 * T + 1)) (xs (6 * T + 2)) (xs (6 * T + 3)) (xs (6 * T + 4)))))) :: LL b q g o (6 * T)) hx hb dL_law_813 hl (by decide) rfl (fun ls hl => ?_)
  refine lv_aload_n hx hb dL_law_815 rfl (lv_at hl 3 rfl) ?_
  refine lq_rd hx hb hXs hbl hS (i := 6 * T) (j := 1) (lv_at hl 1 rfl) (lv_at hl 5 rfl) (by omega) hL dL_law_816 dL_law_817 dL_law_819 (by decide) dL_law_820 dL_law_821 ?_
  refine lq_rd hx hb hXs hbl hS (i := 6 * T) (j := 2) (lv_at hl 1 rfl) (lv_at hl 5 rfl) (by omega) hL dL_law_822 dL_law_823 dL_law_825 (by decide) dL_law_826 dL_law_827 ?_
  refine lq_rd hx hb hXs hbl hS (i := 6 * T) (j := 3) (lv_at hl 1 rfl) (lv_at hl 5 rfl) (by omega) hL dL_law_828 dL_law_829 dL_law_831 (by decide) dL_law_832 dL_law_833 ?_
  refine lq_rd hx hb hXs hbl hS (i := 6 * T) (j := 4) (lv_at hl 1 rfl) (lv_at hl 5 rfl) (by omega) hL dL_law_834 dL_law_835 dL_law_837 (by decide) dL_law_838 dL_law_839 ?_
  refine lm_Vi (Wd := wM g k S Zm) (Wr := oX k o f3 ++ wC q k r S3 Zc3) (As := [.int (xs (6 * T + 1)), .int (xs (6 * T + 2)), .int (xs (6 * T + 3)), .int (xs (6 * T + 4))]) (rest := []) hF (k_X3_way l D g k S Zm _ (xs (6 * T + 1)) (xs (6 * T + 2)) (xs (6 * T + 3)) (xs (6 * T + 4)) hI.Bd hI.Jn hR hI.Gw) (cwV 4 hts gL_law_X3_way rfl rfl rfl (by decide +kernel) ⟨by decide, by decide⟩) hX hP hD hS hA (q0 := 0) rfl rfl rfl hl.1 rfl (Nat.le_of_ble_eq_true rfl) dL_law_840 ⟨by show _ ≤ 601024; omega, by show _ ≤ 7293034; omega⟩ (fun r9 u2 H locs hp2 hP hD hS => ?_)
  obtain ⟨S2, Zm2⟩ := u2
  obtain ⟨hr9, e2, e30, e31⟩ := hp2
  dsimp only at hr9 e2 e30 e31 hP hD
  obtain ⟨h1, h2, h3, h4⟩ : S3 = S2 ∧ IV (T + 1) S2 ∧ CI S2 Zc3 ∧ (cd1 (okD S (xs (6 * T + 1)) (xs (6 * T + 2)) (xs (6 * T + 3)) (xs (6 * T + 4))) = 0 → f3 0 = (rI (secs S (S 11 (iN (xs (6 * T + 1)))) (iN (xs (6 * T + 4))) (iN (xs (6 * T + 2))) (iN (xs (6 * T + 3))))).toInt64) := by
    rcases hp1 with ⟨h0, w1, w2, w3⟩ | ⟨h0, w1, w2⟩
    · have hn := np_way (T := T) hI hC h0 w2
      have e9 := (e2.trans (nS_0 h0))
      subst e9
      exact ⟨w1, hn.1, hn.2, fun _ => w3⟩
    · have e9 := (e2.trans (nS_n h0))
      subst e9
      subst w2
      exact ⟨w1, hI.mono (Nat.le_succ T), hC, fun h => absurd h h0⟩
  subst h1
  refine lv_istore (lv' := (6, .int r9) :: (5, .int (nI (cd1 (okD S (xs (6 * T + 1)) (xs (6 * T + 2)) (xs (6 * T + 3)) (xs (6 * T + 4)))))) :: LL b q g o (6 * T)) hx hb dL_law_843 hl (by decide) rfl (fun ls hl => ?_)
  refine lq_thr hF hX hP e30 hl.1 (lv_at hl 4 rfl) (lv_at hl 1 rfl) (by omega) (by omega) dL_law_845 dL_law_846 dL_law_849 dL_law_851 ?_
  refine lq_out hF hX hP cd2_31 (fun h0 => (h4 h0).trans (congrArg Int32.toInt64 (hr9 h0).symm)) (lv_at hl 5 rfl) (lv_at hl 1 rfl) (lv_at hl 0 rfl) dL_law_856 dL_law_858 dL_law_861 dL_law_862 dL_law_863 dL_law_864 dL_law_866 dL_law_867 dL_law_868 dL_law_873 (by decide) ?_
  refine W.widen (k := cells + 5) (n := slots + 30) (by omega) (by omega) ?_
  exact N _ _ _ _ _ _ _ h2 h3 e31 hP hD hS (lv_sub hl [2, 3, 4, 5, 6] rfl)

set_option maxHeartbeats 4000000 in
set_option maxRecDepth 100000 in
theorem cs_step {p : Program} {l : Launch} {e : Env} {s : State} {m : MethodId} {below : List Frame} {meth : Method} {c : Code} {b L : Nat} {xs : Nat → Int32} {D : va_G} {k : Nat → ClassId} {g q r : Nat → Nat} {o T cells slots : Nat} {Q : State → Prop} {S Zm Zc : Nat → Nat → Nat} {f : Nat → Int64} {H : Heap} {locs : List Loc} {ls : Array Slot} (C : LC p l s m c b L xs D k) (hi : 6 * T + 6 ≤ L) (hI : IV T S) (hC : CI S Zc) (hR : Rb (Zm 1)) (hP : va_P D vwCl (wL g q k r o S Zm S Zc f) H) (hD : va_D (fun q => s.heap.size ≤ q) (wL g q k r o S Zm S Zc f)) (hS : va_S (fun q => s.heap.size ≤ q) s.heap H locs) (hl : lv_has ls 7 (LL b q g o (6 * T))) (hc : cells ≤ 100000) (hs : slots ≤ 1000000) (N : LNx p l e s m below meth c b D k g q r o T cells slots Q) : W p l e room_1 s m #[Value.ref b] below meth c H locs cells slots Q (F0 m 876 ls []) := by
  obtain ⟨hF, hst, hXs, hbl, hL, hX, hT, hN, hZ⟩ := C
  have hx := hF.1
  have hb := hF.2.1
  have hts := hF.2.2.2.2
  have hA : ∀ q : Nat, s.heap.size ≤ q → s.heap.size ≤ q := fun _ h => h
  have hP : va_P D vwCl (wM g k S Zm ++ (oX k o f ++ wC q k r S Zc)) H := hP
  have hD : va_D (fun q => s.heap.size ≤ q) (wM g k S Zm ++ (oX k o f ++ wC q k r S Zc)) := hD
  refine lv_aload_n hx hb dL_law_876 rfl (lv_at hl 1 rfl) ?_
  refine lq_rd hx hb hXs hbl hS (i := 6 * T) (j := 1) (lv_at hl 0 rfl) (lv_at hl 4 rfl) (by omega) hL dL_law_877 dL_law_878 dL_law_880 (by decide) dL_law_881 dL_law_882 ?_
  refine rd_V (Wd := wC q k r S Zc) (As := [.int (xs (6 * T + 1))]) (rest := []) hF (k_X2_step l D q k r S Zc (xs (6 * T + 1)) hI.Bd) (cwV 1 hts gL_law_X2_step rfl rfl rfl (by decide +kernel) ⟨by decide, by decide⟩) hX (ap_P (ap_P hP).2).2 (q0 := 0) rfl rfl rfl hl.1 rfl (Nat.le_of_ble_eq_true rfl) dL_law_883 ⟨by show _ ≤ 601024; omega, by show _ ≤ 7293034; omega⟩ ?_
  refine lv_aload_n hx hb dL_law_886 rfl (lv_at hl 2 rfl) ?_
  refine lq_rd hx hb hXs hbl hS (i := 6 * T) (j := 1) (lv_at hl 0 rfl) (lv_at hl 4 rfl) (by omega) hL dL_law_887 dL_law_888 dL_law_890 (by decide) dL_law_891 dL_law_892 ?_
  refine lm_Vi (Wd := wM g k S Zm) (Wr := oX k o f ++ wC q k r S Zc) (As := [.int (xs (6 * T + 1))]) (rest := [.int (pI (stepR S (xs (6 * T + 1))))]) hF (k_X3_step l D g k S Zm _ (xs (6 * T + 1)) hI.Bd) (cwV 1 hts gL_law_X3_step rfl rfl rfl (by decide +kernel) ⟨by decide, by decide⟩) hX hP hD hS hA (q0 := 0) rfl rfl rfl hl.1 rfl (Nat.le_of_ble_eq_true rfl) dL_law_893 ⟨by show _ ≤ 601024; omega, by show _ ≤ 7293034; omega⟩ (fun r9 u2 H locs hp2 hP hD hS => ?_)
  obtain ⟨S2, Zm2⟩ := u2
  obtain ⟨rfl, e2, e3⟩ := hp2
  dsimp only at e2 e3 hP hD
  subst e2
  subst e3
  refine lv_icmp_eq (tgt := 1346) hx hb dL_law_896 (by decide) (fun _ => ?_) (fun h => absurd rfl h)
  refine W.widen (k := cells + 5) (n := slots + 30) (by omega) (by omega) ?_
  exact N _ _ _ _ _ _ _ (hI.mono (Nat.le_succ T)) hC (Rb_up hR) hP hD hS hl

set_option maxHeartbeats 4000000 in
set_option maxRecDepth 100000 in
theorem cs_same {p : Program} {l : Launch} {e : Env} {s : State} {m : MethodId} {below : List Frame} {meth : Method} {c : Code} {b L : Nat} {xs : Nat → Int32} {D : va_G} {k : Nat → ClassId} {g q r : Nat → Nat} {o T cells slots : Nat} {Q : State → Prop} {S Zm Zc : Nat → Nat → Nat} {f : Nat → Int64} {H : Heap} {locs : List Loc} {ls : Array Slot} (C : LC p l s m c b L xs D k) (hi : 6 * T + 6 ≤ L) (hI : IV T S) (hC : CI S Zc) (hR : Rb (Zm 1)) (hP : va_P D vwCl (wL g q k r o S Zm S Zc f) H) (hD : va_D (fun q => s.heap.size ≤ q) (wL g q k r o S Zm S Zc f)) (hS : va_S (fun q => s.heap.size ≤ q) s.heap H locs) (hl : lv_has ls 7 (LL b q g o (6 * T))) (hc : cells ≤ 100000) (hs : slots ≤ 1000000) (N : LNx p l e s m below meth c b D k g q r o T cells slots Q) : W p l e room_1 s m #[Value.ref b] below meth c H locs cells slots Q (F0 m 901 ls []) := by
  obtain ⟨hF, hst, hXs, hbl, hL, hX, hT, hN, hZ⟩ := C
  have hx := hF.1
  have hb := hF.2.1
  have hts := hF.2.2.2.2
  have hA : ∀ q : Nat, s.heap.size ≤ q → s.heap.size ≤ q := fun _ h => h
  have hP : va_P D vwCl (wM g k S Zm ++ (oX k o f ++ wC q k r S Zc)) H := hP
  have hD : va_D (fun q => s.heap.size ≤ q) (wM g k S Zm ++ (oX k o f ++ wC q k r S Zc)) := hD
  refine lv_aload_n hx hb dL_law_901 rfl (lv_at hl 1 rfl) ?_
  refine lq_rd hx hb hXs hbl hS (i := 6 * T) (j := 1) (lv_at hl 0 rfl) (lv_at hl 4 rfl) (by omega) hL dL_law_902 dL_law_903 dL_law_905 (by decide) dL_law_906 dL_law_907 ?_
  refine lq_rd hx hb hXs hbl hS (i := 6 * T) (j := 2) (lv_at hl 0 rfl) (lv_at hl 4 rfl) (by omega) hL dL_law_908 dL_law_909 dL_law_911 (by decide) dL_law_912 dL_law_913 ?_
  refine lq_rd hx hb hXs hbl hS (i := 6 * T) (j := 3) (lv_at hl 0 rfl) (lv_at hl 4 rfl) (by omega) hL dL_law_914 dL_law_915 dL_law_917 (by decide) dL_law_918 dL_law_919 ?_
  refine lq_rd hx hb hXs hbl hS (i := 6 * T) (j := 4) (lv_at hl 0 rfl) (lv_at hl 4 rfl) (by omega) hL dL_law_920 dL_law_921 dL_law_923 (by decide) dL_law_924 dL_law_925 ?_
  refine lv_aload_n hx hb dL_law_926 rfl (lv_at hl 3 rfl) ?_
  refine ls_Si (Wr := wM g k S Zm) (Wd := oX k o f ++ wC q k r S Zc) (As := [.ref (q 0), .int (xs (6 * T + 1)), .int (xs (6 * T + 2)), .int (xs (6 * T + 3)), .int (xs (6 * T + 4)), .ref o]) (rest := []) hF (k_L_same l hst D q k r S Zc _ o f (xs (6 * T + 1)) (xs (6 * T + 2)) (xs (6 * T + 3)) (xs (6 * T + 4)) hI.Bd hC.1 hC.2.1 hI.Gw) (vx_cwSW 6 hts gL_law_L_same rfl rfl rfl (by decide +kernel) ⟨by decide, by decide⟩) hX hT hN hZ hP hD hS hA rfl hl.1 rfl (Nat.le_of_ble_eq_true rfl) dL_law_927 ⟨by show _ ≤ 601024; omega, by show _ ≤ 7293034; omega⟩ (fun k9 u1 H locs hp1 hP hD hS => ?_)
  obtain ⟨S3, Zc3, f3⟩ := u1
  obtain ⟨rfl, hp1⟩ := hp1
  dsimp only at hp1 hP hD
  refine lv_istore (lv' := (5, .int (nI (cd1 (okD S (xs (6 * T + 1)) (xs (6 * T + 2)) (xs (6 * T + 3)) (xs (6 * T + 4)))))) :: LL b q g o (6 * T)) hx hb dL_law_930 hl (by decide) rfl (fun ls hl => ?_)
  refine lv_aload_n hx hb dL_law_932 rfl (lv_at hl 3 rfl) ?_
  refine lq_rd hx hb hXs hbl hS (i := 6 * T) (j := 1) (lv_at hl 1 rfl) (lv_at hl 5 rfl) (by omega) hL dL_law_933 dL_law_934 dL_law_936 (by decide) dL_law_937 dL_law_938 ?_
  refine lq_rd hx hb hXs hbl hS (i := 6 * T) (j := 2) (lv_at hl 1 rfl) (lv_at hl 5 rfl) (by omega) hL dL_law_939 dL_law_940 dL_law_942 (by decide) dL_law_943 dL_law_944 ?_
  refine lq_rd hx hb hXs hbl hS (i := 6 * T) (j := 3) (lv_at hl 1 rfl) (lv_at hl 5 rfl) (by omega) hL dL_law_945 dL_law_946 dL_law_948 (by decide) dL_law_949 dL_law_950 ?_
  refine lq_rd hx hb hXs hbl hS (i := 6 * T) (j := 4) (lv_at hl 1 rfl) (lv_at hl 5 rfl) (by omega) hL dL_law_951 dL_law_952 dL_law_954 (by decide) dL_law_955 dL_law_956 ?_
  refine lm_Vi (Wd := wM g k S Zm) (Wr := oX k o f3 ++ wC q k r S3 Zc3) (As := [.int (xs (6 * T + 1)), .int (xs (6 * T + 2)), .int (xs (6 * T + 3)), .int (xs (6 * T + 4))]) (rest := []) hF (k_X3_same l D g k S Zm _ (xs (6 * T + 1)) (xs (6 * T + 2)) (xs (6 * T + 3)) (xs (6 * T + 4)) hI.Bd hI.Jn hR hI.Gr) (cwV 4 hts gL_law_X3_same rfl rfl rfl (by decide +kernel) ⟨by decide, by decide⟩) hX hP hD hS hA (q0 := 0) rfl rfl rfl hl.1 rfl (Nat.le_of_ble_eq_true rfl) dL_law_957 ⟨by show _ ≤ 601024; omega, by show _ ≤ 7293034; omega⟩ (fun r9 u2 H locs hp2 hP hD hS => ?_)
  obtain ⟨S2, Zm2⟩ := u2
  obtain ⟨hr9, e2, e30, e31⟩ := hp2
  dsimp only at hr9 e2 e30 e31 hP hD
  obtain ⟨h1, h2, h3, h4⟩ : S3 = S2 ∧ IV (T + 1) S2 ∧ CI S2 Zc3 ∧ (cd1 (okD S (xs (6 * T + 1)) (xs (6 * T + 2)) (xs (6 * T + 3)) (xs (6 * T + 4))) = 0 → f3 0 = bL (decide (secs S (S 11 (iN (xs (6 * T + 1)))) (iN (xs (6 * T + 4))) (iN (xs (6 * T + 2))) (iN (xs (6 * T + 3))) = secs S (S 11 (iN (xs (6 * T + 1)))) (iN (xs (6 * T + 4))) (iN (xs (6 * T + 3))) (iN (xs (6 * T + 2)))))) := by
    rcases hp1 with ⟨h0, w1, w2, w3⟩ | ⟨h0, w1, w2⟩
    · have hn := np_same (T := T) hI hC h0 w2
      have e9 := e2
      subst e9
      exact ⟨w1, hn.1, hn.2, fun _ => w3⟩
    · have e9 := e2
      subst e9
      subst w2
      exact ⟨w1, hI.mono (Nat.le_succ T), hC, fun h => absurd h h0⟩
  subst h1
  refine lv_istore (lv' := (6, .int r9) :: (5, .int (nI (cd1 (okD S (xs (6 * T + 1)) (xs (6 * T + 2)) (xs (6 * T + 3)) (xs (6 * T + 4)))))) :: LL b q g o (6 * T)) hx hb dL_law_960 hl (by decide) rfl (fun ls hl => ?_)
  refine lq_thr hF hX hP e30 hl.1 (lv_at hl 4 rfl) (lv_at hl 1 rfl) (by omega) (by omega) dL_law_962 dL_law_963 dL_law_966 dL_law_968 ?_
  refine lv_iload hx hb dL_law_973 (lv_at hl 1 rfl) ?_
  refine lv_if_ne (tgt := 997) hx hb dL_law_975 (by decide) (fun h => ?_) (fun h => ?_)
  · refine lv_goto (tgt := 1346) hx hb dL_law_997 (by decide) ?_
    refine W.widen (k := cells + 5) (n := slots + 30) (by omega) (by omega) ?_
    exact N _ _ _ _ _ _ _ h2 h3 e31 hP hD hS (lv_sub hl [2, 3, 4, 5, 6] rfl)
  · have h0 := nI_eq0 cd2_31 h
    refine lv_aload_n hx hb dL_law_978 rfl (lv_at hl 5 rfl) ?_
    refine lv_iconst (v := nI 0) hx hb dL_law_979 (by decide) ?_
    refine va_lald hx hb hX.1 (ap_P hP).2 0 3 rfl rfl (vp_in_nI (by decide) (by decide)) dL_law_980 ?_
    rw [nI_clamp (n := 0) (by decide), h4 h0]
    refine lv_iload hx hb dL_law_981 (lv_at hl 0 rfl) ?_
    refine lv_if_eq (tgt := 990) hx hb dL_law_983 (by decide) (fun h9 => ?_) (fun h9 => ?_)
    · refine lv_lconst (v := 0) hx hb dL_law_990 (by decide) ?_
      rw [bL_0 ((hr9 h0).symm.trans h9)]
      refine W.lcmp hx hb dL_law_991 ?_
      rw [lg_cmp_rf]
      refine lv_if_eq (tgt := 997) hx hb dL_law_992 (by decide) (fun _ => ?_) (fun h => absurd rfl h)
      refine lv_goto (tgt := 1346) hx hb dL_law_997 (by decide) ?_
      refine W.widen (k := cells + 5) (n := slots + 30) (by omega) (by omega) ?_
      exact N _ _ _ _ _ _ _ h2 h3 e31 hP hD hS (lv_sub hl [2, 3, 4, 5, 6] rfl)
    · refine lv_lconst (v := 1) hx hb dL_law_986 (by decide) ?_
      refine lv_goto (tgt := 991) hx hb dL_law_987 (by decide) ?_
      rw [bL_1 (fun z => h9 ((hr9 h0).trans z))]
      refine W.lcmp hx hb dL_law_991 ?_
      rw [lg_cmp_rf]
      refine lv_if_eq (tgt := 997) hx hb dL_law_992 (by decide) (fun _ => ?_) (fun h => absurd rfl h)
      refine lv_goto (tgt := 1346) hx hb dL_law_997 (by decide) ?_
      refine W.widen (k := cells + 5) (n := slots + 30) (by omega) (by omega) ?_
      exact N _ _ _ _ _ _ _ h2 h3 e31 hP hD hS (lv_sub hl [2, 3, 4, 5, 6] rfl)

set_option maxHeartbeats 4000000 in
set_option maxRecDepth 100000 in
theorem cs_charger {p : Program} {l : Launch} {e : Env} {s : State} {m : MethodId} {below : List Frame} {meth : Method} {c : Code} {b L : Nat} {xs : Nat → Int32} {D : va_G} {k : Nat → ClassId} {g q r : Nat → Nat} {o T cells slots : Nat} {Q : State → Prop} {S Zm Zc : Nat → Nat → Nat} {f : Nat → Int64} {H : Heap} {locs : List Loc} {ls : Array Slot} (C : LC p l s m c b L xs D k) (hi : 6 * T + 6 ≤ L) (hI : IV T S) (hC : CI S Zc) (hR : Rb (Zm 1)) (hP : va_P D vwCl (wL g q k r o S Zm S Zc f) H) (hD : va_D (fun q => s.heap.size ≤ q) (wL g q k r o S Zm S Zc f)) (hS : va_S (fun q => s.heap.size ≤ q) s.heap H locs) (hl : lv_has ls 7 (LL b q g o (6 * T))) (hc : cells ≤ 100000) (hs : slots ≤ 1000000) (N : LNx p l e s m below meth c b D k g q r o T cells slots Q) : W p l e room_1 s m #[Value.ref b] below meth c H locs cells slots Q (F0 m 1000 ls []) := by
  obtain ⟨hF, hst, hXs, hbl, hL, hX, hT, hN, hZ⟩ := C
  have hx := hF.1
  have hb := hF.2.1
  have hts := hF.2.2.2.2
  have hA : ∀ q : Nat, s.heap.size ≤ q → s.heap.size ≤ q := fun _ h => h
  have hP : va_P D vwCl (wM g k S Zm ++ (oX k o f ++ wC q k r S Zc)) H := hP
  have hD : va_D (fun q => s.heap.size ≤ q) (wM g k S Zm ++ (oX k o f ++ wC q k r S Zc)) := hD
  refine lv_aload_n hx hb dL_law_1000 rfl (lv_at hl 1 rfl) ?_
  refine lq_rd hx hb hXs hbl hS (i := 6 * T) (j := 1) (lv_at hl 0 rfl) (lv_at hl 4 rfl) (by omega) hL dL_law_1001 dL_law_1002 dL_law_1004 (by decide) dL_law_1005 dL_law_1006 ?_
  refine lv_aload_n hx hb dL_law_1007 rfl (lv_at hl 3 rfl) ?_
  refine ls_Si (Wr := wM g k S Zm) (Wd := oX k o f ++ wC q k r S Zc) (As := [.ref (q 0), .int (xs (6 * T + 1)), .ref o]) (rest := []) hF (k_L_charger l hst D q k r S Zc _ o f (xs (6 * T + 1)) hI.Bd) (vx_cwSW 3 hts gL_law_L_charger rfl rfl rfl (by decide +kernel) ⟨by decide, by decide⟩) hX hT hN hZ hP hD hS hA rfl hl.1 rfl (Nat.le_of_ble_eq_true rfl) dL_law_1008 ⟨by show _ ≤ 601024; omega, by show _ ≤ 7293034; omega⟩ (fun k9 u1 H locs hp1 hP hD hS => ?_)
  obtain ⟨S3, Zc3, f3⟩ := u1
  obtain ⟨rfl, hp1⟩ := hp1
  dsimp only at hp1 hP hD
  refine lv_istore (lv' := (5, .int (nI (cdC S (xs (6 * T + 1))))) :: LL b q g o (6 * T)) hx hb dL_law_1011 hl (by decide) rfl (fun ls hl => ?_)
  refine lv_aload_n hx hb dL_law_1013 rfl (lv_at hl 3 rfl) ?_
  refine lq_rd hx hb hXs hbl hS (i := 6 * T) (j := 1) (lv_at hl 1 rfl) (lv_at hl 5 rfl) (by omega) hL dL_law_1014 dL_law_1015 dL_law_1017 (by decide) dL_law_1018 dL_law_1019 ?_
  refine lm_Vi (Wd := wM g k S Zm) (Wr := oX k o f3 ++ wC q k r S3 Zc3) (As := [.int (xs (6 * T + 1))]) (rest := []) hF (k_X3_charger l D g k S Zm _ (xs (6 * T + 1)) hI.Bd) (cwV 1 hts gL_law_X3_charger rfl rfl rfl (by decide +kernel) ⟨by decide, by decide⟩) hX hP hD hS hA (q0 := 0) rfl rfl rfl hl.1 rfl (Nat.le_of_ble_eq_true rfl) dL_law_1020 ⟨by show _ ≤ 601024; omega, by show _ ≤ 7293034; omega⟩ (fun r9 u2 H locs hp2 hP hD hS => ?_)
  obtain ⟨S2, Zm2⟩ := u2
  obtain ⟨hr9, e2, e3⟩ := hp2
  dsimp only at hr9 e2 e3 hP hD
  have e30 : Zm2 0 0 = cdC S (xs (6 * T + 1)) := by rw [e3]; exact up2_same _ _ _ _
  have e31 : Rb (Zm2 1) := by rw [e3]; exact Rb_up hR
  obtain ⟨h1, h2, h3, h4⟩ : S3 = S2 ∧ IV (T + 1) S2 ∧ CI S2 Zc3 ∧ (cdC S (xs (6 * T + 1)) = 0 → f3 0 = (nI (S 0 3 + 1)).toInt64) := by
    rcases hp1 with ⟨h0, w1, w2, w3⟩ | ⟨h0, w1, w2⟩
    · have hn := np_charger (T := T) hI hC h0 w2
      have e9 := (e2.trans (nS_0 h0))
      subst e9
      exact ⟨w1, hn.1, hn.2, fun _ => w3⟩
    · have e9 := (e2.trans (nS_n h0))
      subst e9
      subst w2
      exact ⟨w1, hI.mono (Nat.le_succ T), hC, fun h => absurd h h0⟩
  subst h1
  refine lv_istore (lv' := (6, .int r9) :: (5, .int (nI (cdC S (xs (6 * T + 1))))) :: LL b q g o (6 * T)) hx hb dL_law_1023 hl (by decide) rfl (fun ls hl => ?_)
  refine lq_thr hF hX hP e30 hl.1 (lv_at hl 4 rfl) (lv_at hl 1 rfl) (by omega) (by omega) dL_law_1025 dL_law_1026 dL_law_1029 dL_law_1031 ?_
  refine lq_out hF hX hP cdC_31 (fun h0 => (h4 h0).trans (congrArg Int32.toInt64 (hr9 h0).symm)) (lv_at hl 5 rfl) (lv_at hl 1 rfl) (lv_at hl 0 rfl) dL_law_1036 dL_law_1038 dL_law_1041 dL_law_1042 dL_law_1043 dL_law_1044 dL_law_1046 dL_law_1047 dL_law_1048 dL_law_1053 (by decide) ?_
  refine W.widen (k := cells + 5) (n := slots + 30) (by omega) (by omega) ?_
  exact N _ _ _ _ _ _ _ h2 h3 e31 hP hD hS (lv_sub hl [2, 3, 4, 5, 6] rfl)
