/-! The law's loop: its state, its rows. -/
/-- what holds all through the law -/
def LC (p : Program) (l : Launch) (s : State) (m : MethodId) (c : Code) (b L : Nat) (xs : Nat → Int32) (D : va_G) (k : Nat → ClassId) : Prop :=
  CallFix p m c cL_law 7 s #[Value.ref b] wsL_law RL ∧ l.stackTraces = false ∧ va_X b L xs s s.heap ∧ b < s.heap.size ∧ L ≤ 3072 ∧ KX D k s ∧ KT s ∧ KN s ∧ TZ (fun q => s.heap.size ≤ q) s s.heap
/-- the law's locals -/
def LL (b : Nat) (q g : Nat → Nat) (o i : Nat) : List (Nat × Value) := [(0, .ref b), (1, .ref (q 0)), (2, .ref (g 0)), (3, .ref o), (4, .int (nI i))]
/-- the law's cells: the reference's, the long, the system's -/
def wL (g q : Nat → Nat) (k : Nat → ClassId) (r : Nat → Nat) (o : Nat) (Sm Zm Sc Zc : Nat → Nat → Nat) (f : Nat → Int64) : va_W := wM g k Sm Zm ++ (oX k o f ++ wC q k r Sc Zc)
/-- what a case of the switch comes to -/
def LNx (p : Program) (l : Launch) (e : Env) (s : State) (m : MethodId) (below : List Frame) (meth : Method) (c : Code) (b : Nat) (D : va_G) (k : Nat → ClassId) (g q r : Nat → Nat) (o T cells slots : Nat) (Q : State → Prop) : Prop :=
  ∀ (S Zm Zc : Nat → Nat → Nat) (f : Nat → Int64) (H : Heap) (locs : List Loc) (ls : Array Slot), IV (T + 1) S → CI S Zc → Rb (Zm 1) → va_P D vwCl (wL g q k r o S Zm S Zc f) H → va_D (fun q => s.heap.size ≤ q) (wL g q k r o S Zm S Zc f) → va_S (fun q => s.heap.size ≤ q) s.heap H locs → lv_has ls 7 (LL b q g o (6 * T)) →
    W p l e room_1 s m #[Value.ref b] below meth c H locs (cells + 5) (slots + 30) Q (F0 m 1346 ls [])
theorem lq_lt {L t : Nat} (hL : L ≤ 3072) (ht : t ≤ 100000) (h : ¬ nI L - nI 6 < nI t) : t + 6 ≤ L := by
  rw [Int32.lt_iff_toInt_lt, nI_toInt (by omega), Int32.toInt_sub, nI_toInt (by omega), nI_toInt (by omega)] at h
  rw [Int.bmod_eq_of_le (by omega) (by omega)] at h
  omega
theorem lg_cmp_rf (x : Int64) : lg_cmp x x = 0 := by
  unfold lg_cmp
  rw [if_neg (fun h : x > x => Int64.lt_irrefl h), if_pos rfl]
theorem nI_eq0 {n : Nat} (h : n < 2 ^ 31) (h0 : nI n = 0) : n = 0 := by
  have h1 := nI_toInt h
  rw [h0] at h1
  have h2 : (0 : Int32).toInt = 0 := by decide
  omega
section LQ
variable {p : Program} {l : Launch} {e : Env} {R : Room} {s : State} {m : MethodId} {args : Array Value} {below : List Frame} {meth : Method} {c : Code} {H : Heap} {locs : List Loc} {cells slots : Nat} {Q : State → Prop}
variable {cc : ByteArray} {pc : Nat} {ls : Array Slot} {rest : List Value} {D : va_G} {k : Nat → ClassId} {b L : Nat} {xs : Nat → Int32}
/-- script[i + j] -/
theorem lq_rd (hx : p.tables.exec = Jvm.exec) (hb : c.code = cc) (hXs : va_X b L xs s s.heap) (hbl : b < s.heap.size) (hS : va_S (fun q => s.heap.size ≤ q) s.heap H locs) {i j : Nat} {j' : Int} (hl0 : ls[0]? = some (.val (.ref b))) (hl4 : ls[4]? = some (.val (.int (nI i)))) (hij : i + j < L) (hL : L ≤ 3072) (d0 : decode cc pc = .ok (.aload_n 0, 1)) (d1 : decode cc (pc + 1) = .ok (.iload 4, 2)) (d3 : decode cc (pc + 3) = .ok (.iconst j', 1)) (hj : Int32.ofInt j' = nI j) (d4 : decode cc (pc + 4) = .ok (.iadd, 1)) (d5 : decode cc (pc + 5) = .ok (.iaload, 1))
    (kk : W p l e R s m args below meth c H locs cells slots Q (F0 m (pc + 6) ls (.int (xs (i + j)) :: rest))) : W p l e R s m args below meth c H locs cells slots Q (F0 m pc ls rest) := by
  refine lv_aload_n hx hb d0 rfl hl0 ?_
  refine lv_iload hx hb d1 hl4 ?_
  refine lv_iconst hx hb d3 hj ?_
  refine lv_iadd hx hb d4 ?_
  rw [nI_add]
  refine va_sld hx hb hXs hbl (Nat.not_le.mpr hbl) hS (vp_in_nI hij (by omega)) d5 ?_
  rw [nI_clamp (by omega)]
  exact kk
/-- x != 0 as 1 or 0 -/
theorem lq_bool (hx : p.tables.exec = Jvm.exec) (hb : c.code = cc) {x : Int32} (d0 : decode cc pc = .ok (.ifCond .eq 7, 3)) (d3 : decode cc (pc + 3) = .ok (.iconst 1, 1)) (d4 : decode cc (pc + 4) = .ok (.goto 4, 3)) (d7 : decode cc (pc + 7) = .ok (.iconst 0, 1))
    (kk : W p l e R s m args below meth c H locs cells slots Q (F0 m (pc + 8) ls (.int (nI (bN (decide (x ≠ 0)))) :: rest))) : W p l e R s m args below meth c H locs cells slots Q (F0 m pc ls (.int x :: rest)) := by
  refine lv_if_eq (tgt := pc + 7) hx hb d0 (by omega) (fun h => ?_) (fun h => ?_)
  · refine lv_iconst (v := nI 0) hx hb d7 (by decide) ?_
    have h1 : bN (decide (x ≠ 0)) = 0 := by rw [decide_eq_false (fun q => q h)]; rfl
    rw [h1] at kk
    exact kk
  · refine lv_iconst (v := nI 1) hx hb d3 (by decide) ?_
    refine lv_goto (tgt := pc + 8) hx hb d4 (by omega) ?_
    have h1 : bN (decide (x ≠ 0)) = 1 := by rw [decide_eq_true h]; rfl
    rw [h1] at kk
    exact kk
/-- m.thrown() != k, which isn't so -/
theorem lq_thr (hF : CallFix p m c cL_law 7 s #[Value.ref b] wsL_law RL) (hX : KX D k s) {g : Nat → Nat} {Sm Zm : Nat → Nat → Nat} {Wr : va_W} {cd : Nat} (hP : va_P D vwCl (wM g k Sm Zm ++ Wr) H) (hcd : Zm 0 0 = cd) (h7 : ls.size = 7) (hl2 : ls[2]? = some (.val (.ref (g 0)))) (hl5 : ls[5]? = some (.val (.int (nI cd)))) (hc : cells ≤ 601024) (hs : slots ≤ 7293034)
    (d0 : decode cL_law pc = .ok (.aload_n 2, 1)) (d1 : decode cL_law (pc + 1) = .ok (.invokevirtual 78, 3)) (d4 : decode cL_law (pc + 4) = .ok (.iload 5, 2)) (d6 : decode cL_law (pc + 6) = .ok (.if_icmp .eq 5, 3))
    (kk : W p l e room_1 s m #[Value.ref b] below meth c H locs cells slots Q (F0 m (pc + 11) ls [])) : W p l e room_1 s m #[Value.ref b] below meth c H locs cells slots Q (F0 m pc ls []) := by
  have hx := hF.1
  have hb := hF.2.1
  refine lv_aload_n hx hb d0 rfl hl2 ?_
  refine rd_V (Wd := wM g k Sm Zm) (As := []) (rest := []) hF (k_X3_thrown l D g k Sm Zm) (cwV 0 hF.2.2.2.2 gL_law_X3_thrown rfl rfl rfl (by decide +kernel) ⟨by decide, by decide⟩) hX (ap_P hP).1 (q0 := 0) rfl rfl rfl h7 rfl (Nat.le_of_ble_eq_true rfl) d1 ⟨hc, hs⟩ ?_
  rw [hcd]
  refine lv_iload hx hb d4 hl5 ?_
  exact lv_icmp_eq (tgt := pc + 11) hx hb d6 (by omega) (fun _ => kk) (fun h => absurd rfl h)
/-- k == 0 && out[0] != b, which isn't so -/
theorem lq_out (hF : CallFix p m c cL_law 7 s #[Value.ref b] wsL_law RL) (hX : KX D k s) {Wm Wc : va_W} {o cd : Nat} {r9 : Int32} {f : Nat → Int64} (hP : va_P D vwCl (Wm ++ (oX k o f ++ Wc)) H) (h31 : cd < 2 ^ 31) (hv : cd = 0 → f 0 = r9.toInt64) (hl3 : ls[3]? = some (.val (.ref o))) (hl5 : ls[5]? = some (.val (.int (nI cd)))) (hl6 : ls[6]? = some (.val (.int r9)))
    (d0 : decode cL_law pc = .ok (.iload 5, 2)) (d2 : decode cL_law (pc + 2) = .ok (.ifCond .ne 15, 3)) (d5 : decode cL_law (pc + 5) = .ok (.aload_n 3, 1)) (d6 : decode cL_law (pc + 6) = .ok (.iconst 0, 1)) (d7 : decode cL_law (pc + 7) = .ok (.laload, 1)) (d8 : decode cL_law (pc + 8) = .ok (.iload 6, 2)) (d10 : decode cL_law (pc + 10) = .ok (.i2l, 1)) (d11 : decode cL_law (pc + 11) = .ok (.lcmp, 1)) (d12 : decode cL_law (pc + 12) = .ok (.ifCond .eq 5, 3))
    {off : Int} (d17 : decode cL_law (pc + 17) = .ok (.goto off, 3)) (hoff : ((pc + 17 : Nat) : Int) + off = ((1346 : Nat) : Int))
    (kk : W p l e R s m #[Value.ref b] below meth c H locs cells slots Q (F0 m 1346 ls [])) : W p l e R s m #[Value.ref b] below meth c H locs cells slots Q (F0 m pc ls []) := by
  have hx := hF.1
  have hb := hF.2.1
  refine lv_iload hx hb d0 hl5 ?_
  refine lv_if_ne (tgt := pc + 17) hx hb d2 (by omega) (fun h => ?_) (fun h => ?_)
  · exact lv_goto (tgt := 1346) hx hb d17 hoff kk
  · refine lv_aload_n hx hb d5 rfl hl3 ?_
    refine lv_iconst (v := nI 0) hx hb d6 (by decide) ?_
    refine va_lald hx hb hX.1 (ap_P hP).2 0 3 rfl rfl (vp_in_nI (by decide) (by decide)) d7 ?_
    rw [nI_clamp (n := 0) (by decide), hv (nI_eq0 h31 h)]
    refine lv_iload hx hb d8 hl6 ?_
    refine lv_i2l (v := r9.toInt64) hx hb d10 rfl ?_
    refine W.lcmp hx hb d11 ?_
    rw [lg_cmp_rf]
    exact lv_if_eq (tgt := pc + 17) hx hb d12 (by omega) (fun _ => lv_goto (tgt := 1346) hx hb d17 hoff kk) (fun h => absurd rfl h)
end LQ
