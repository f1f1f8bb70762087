/-! THE STATE. S : Nat → Nat → Nat is what both sides hold: S 0 the counts (0 pieces, 1 passages = twice the joins, 2 robots, 3 chargers, 4 changes, 5 rows worked, 6 way's size), 1 levels, 2 lengths, 3 widths, 4 two-way, 5 closed, 6 zone's hours, 7 starts, 8 goals, 9 turning seconds, 10 barred (7 to 10 by passage), 11 robots' widths, 12 chargers, 13 when a row was worked, 14 the way, last piece first.
c: the system's own: 0 ways that are free, 1 reached, 2 met, 3 how many leave an end, 10 .. 49 which leave it, 50 .. 57 the table's rows. m: the reference's own: 0 code, 1 reached, 2 on. -/
def up1 (f : Nat → Nat) (i v : Nat) : Nat → Nat := fun j => if j = i then v else f j
def upR (S : Nat → Nat → Nat) (f : Nat) (a : Nat → Nat) : Nat → Nat → Nat := fun g j => if g = f then a j else S g j
def up2 (S : Nat → Nat → Nat) (f i v : Nat) : Nat → Nat → Nat := upR S f (up1 (S f) i v)
def rI (v : Nat) : Int32 := if v = 1000000 then -1 else nI v
def zI (v : Nat) : Int32 := if v = 0 then -1 else nI v
def pI (v : Nat) : Int32 := nI v - 1
def bN (b : Bool) : Nat := if b = true then 1 else 0
def fl (e : Nat) : Nat := if e % 2 = 0 then e + 1 else e - 1
theorem bN_le (b : Bool) : bN b ≤ 1 := by cases b <;> decide
theorem bN_t : bN true = 1 := rfl
theorem bN_f : bN false = 0 := rfl
theorem upd_enc (g : Nat → Int32) (f : Nat → Nat) (i v : Nat) : upd (fun j => g (f j)) i (g v) = fun j => g (up1 f i v j) := by
  funext j
  unfold upd up1
  split <;> rfl
theorem upd_nI (f : Nat → Nat) (i v : Nat) : upd (fun j => nI (f j)) i (nI v) = fun j => nI (up1 f i v j) := upd_enc nI f i v
theorem up1_same (f : Nat → Nat) (i v : Nat) : up1 f i v i = v := if_pos rfl
theorem up1_ne (f : Nat → Nat) {i j : Nat} (v : Nat) (h : j ≠ i) : up1 f i v j = f j := if_neg h
theorem up1_id (f : Nat → Nat) (i : Nat) : up1 f i (f i) = f := by
  funext j
  unfold up1
  split
  · rename_i h; rw [h]
  · rfl
theorem upR_same (S : Nat → Nat → Nat) (f : Nat) (a : Nat → Nat) : upR S f a f = a := by
  funext j
  exact if_pos rfl
theorem upR_ne (S : Nat → Nat → Nat) {f g : Nat} (a : Nat → Nat) (h : g ≠ f) : upR S f a g = S g := by
  funext j
  exact if_neg h
theorem upR_id (S : Nat → Nat → Nat) (f : Nat) : upR S f (S f) = S := by
  funext g j
  unfold upR
  split
  · rename_i h; rw [h]
  · rfl
theorem upR_upR (S : Nat → Nat → Nat) (f : Nat) (a b : Nat → Nat) : upR (upR S f a) f b = upR S f b := by
  funext g j
  unfold upR
  split <;> rfl
theorem up2_same (S : Nat → Nat → Nat) (f i v : Nat) : up2 S f i v f i = v := by simp [up2, upR, up1]
theorem up2_row (S : Nat → Nat → Nat) {f g : Nat} (i v : Nat) (h : g ≠ f) (j : Nat) : up2 S f i v g j = S g j := by simp [up2, upR, h]
theorem up2_ne (S : Nat → Nat → Nat) (f : Nat) {i j : Nat} (v : Nat) (h : j ≠ i) : up2 S f i v f j = S f j := by simp [up2, upR, up1, h]
theorem nI_2p31 {n : Nat} (h : n ≤ 2000000) : n < 2 ^ 31 := by omega
/-- may a piece be left by this end; may a robot of width w come in by it at hour h -/
def mvL (S : Nat → Nat → Nat) (e : Nat) : Bool := decide (e % 2 = 1) || decide (S 4 (e / 2) = 1)
def mvE (S : Nat → Nat → Nat) (w h e : Nat) : Bool := decide (S 5 (e / 2) = 0) && decide (S 6 (e / 2) / 2 ^ h % 2 = 0) && decide (w ≤ S 3 (e / 2)) && (decide (e % 2 = 0) || decide (S 4 (e / 2) = 1))
def opn (S : Nat → Nat → Nat) (w h p : Nat) : Bool := decide (S 10 p = 0) && mvE S w h (S 8 p)
/-- when a piece is come into by the passage p, and when its other end is reached by it -/
def sAt (S : Nat → Nat → Nat) (o : Nat → Bool) (r : Nat → Nat) (p : Nat) : Nat := if o p = true ∧ r (S 7 p) ≠ 1000000 then r (S 7 p) + S 9 p else 1000000
def sBh (S : Nat → Nat → Nat) (o : Nat → Bool) (r : Nat → Nat) (p : Nat) : Nat := if sAt S o r p = 1000000 then 1000000 else sAt S o r p + S 2 (S 8 p / 2)
def rlx (S : Nat → Nat → Nat) (o : Nat → Bool) (r : Nat → Nat) (p : Nat) : Nat → Nat := if sBh S o r p < r (fl (S 8 p)) then up1 r (fl (S 8 p)) (sBh S o r p) else r
/-- the first k passages tried once, in their order -/
def rnd (S : Nat → Nat → Nat) (o : Nat → Bool) (r : Nat → Nat) : Nat → Nat → Nat
  | 0 => r
  | k + 1 => rlx S o (rnd S o r k) k
/-- what holds of S between calls (T: calls made) -/
def Inv (T : Nat) (S : Nat → Nat → Nat) : Prop :=
  (S 0 0 ≤ 20 ∧ S 0 1 ≤ 80 ∧ S 0 1 % 2 = 0 ∧ S 0 2 ≤ 6 ∧ S 0 3 ≤ 8 ∧ S 0 4 ≤ T ∧ S 0 5 ≤ T ∧ S 0 6 ≤ 40 ∧ (0 < S 0 3 → 0 < S 0 4)) ∧
  (∀ i, S 1 i ≤ 9 ∧ S 2 i ≤ 1000 ∧ S 3 i ≤ 500 ∧ S 4 i ≤ 1 ∧ S 5 i ≤ 1 ∧ S 6 i < 2 ^ 24) ∧
  (∀ i, i < S 0 0 → 1 ≤ S 2 i) ∧
  (∀ p, S 9 p ≤ 100 ∧ S 10 p ≤ 1) ∧
  (∀ p, p < S 0 1 → S 7 p < 2 * S 0 0 ∧ S 8 p < 2 * S 0 0 ∧ S 7 p / 2 ≠ S 8 p / 2) ∧
  (∀ j, S 7 (2 * j + 1) = S 8 (2 * j) ∧ S 8 (2 * j + 1) = S 7 (2 * j) ∧ S 9 (2 * j + 1) = S 9 (2 * j)) ∧
  (∀ i, S 11 i ≤ 500) ∧
  (∀ i, i < S 0 3 → S 12 i < S 0 0) ∧
  (∀ i, S 13 i ≤ S 0 4) ∧
  (∀ i, S 14 i < 20)
/-- the sizes alone, as the readers need them -/
def Bd (S : Nat → Nat → Nat) : Prop :=
  (S 0 0 ≤ 20 ∧ S 0 1 ≤ 80 ∧ S 0 2 ≤ 6 ∧ S 0 3 ≤ 8 ∧ S 0 6 ≤ 40) ∧
  (∀ i, S 1 i ≤ 9 ∧ S 2 i ≤ 1000 ∧ S 3 i ≤ 500 ∧ S 4 i ≤ 1 ∧ S 5 i ≤ 1 ∧ S 6 i < 2 ^ 24) ∧
  (∀ p, S 9 p ≤ 100 ∧ S 10 p ≤ 1) ∧
  (∀ p, p < S 0 1 → S 7 p < 40 ∧ S 8 p < 40) ∧
  (∀ i, S 11 i ≤ 500 ∧ S 12 i < 20 ∧ S 14 i < 20)
/-- the system's cells -/
def wCx (q : Nat → Nat) (k : Nat → ClassId) (r : Nat → Nat) (S c : Nat → Nat → Nat) : va_W :=
  [(q 0, .inr (3, [.ref (q 1), .ref (q 2), .ref (q 18), .int (nI (S 0 2)), .ref (q 19), .int (nI (S 0 3)), .ref (q 20), .int (nI (S 0 6)), .ref (q 21), .ref (q 22), .int (nI (S 0 4)), .int (nI (S 0 5))])),
   (q 1, .inr (2, [.int (nI (S 0 0)), .ref (q 3), .ref (q 4), .ref (q 5), .ref (q 6), .ref (q 7), .ref (q 8), .int (nI (S 0 1)), .ref (q 9), .ref (q 10), .ref (q 11), .ref (q 12), .ref (q 13), .ref (q 14)])),
   (q 2, .inr (1, [.ref (q 15), .ref (q 16), .ref (q 17)])),
   (q 3, .inl (k 0, 20, .inl (fun i => nI (S 1 i)))),
   (q 4, .inl (k 0, 20, .inl (fun i => nI (S 2 i)))),
   (q 5, .inl (k 0, 20, .inl (fun i => nI (S 3 i)))),
   (q 6, .inl (k 1, 20, .inl (fun i => nI (S 4 i)))),
   (q 7, .inl (k 1, 20, .inl (fun i => nI (S 5 i)))),
   (q 8, .inl (k 0, 20, .inl (fun i => nI (S 6 i)))),
   (q 9, .inl (k 0, 80, .inl (fun i => nI (S 7 i)))),
   (q 10, .inl (k 0, 80, .inl (fun i => nI (S 8 i)))),
   (q 11, .inl (k 0, 80, .inl (fun i => nI (S 9 i)))),
   (q 12, .inl (k 1, 80, .inl (fun i => nI (S 10 i)))),
   (q 13, .inl (k 2, 40, .inr (.inr (.inr (.inr (fun i => if i < 40 then some (r i) else none)))))),
   (q 14, .inl (k 0, 40, .inl (fun i => nI (c 3 i)))),
   (q 15, .inl (k 1, 80, .inl (fun i => nI (c 0 i)))),
   (q 16, .inl (k 0, 40, .inl (fun i => nI (c 1 i)))),
   (q 17, .inl (k 1, 20, .inl (fun i => nI (c 2 i)))),
   (q 18, .inl (k 0, 6, .inl (fun i => nI (S 11 i)))),
   (q 19, .inl (k 0, 8, .inl (fun i => nI (S 12 i)))),
   (q 20, .inl (k 0, 40, .inl (fun i => nI (S 14 i)))),
   (q 21, .inl (k 2, 8, .inr (.inr (.inr (.inr (fun i => if i < 8 then some (r (40 + i)) else none)))))),
   (q 22, .inl (k 0, 8, .inl (fun i => nI (S 13 i))))]
def wRow (k : Nat → ClassId) (r : Nat → Nat) (c : Nat → Nat → Nat) (i : Nat) : Nat × va_E := (r i, .inl (k 0, (if i < 40 then 40 else 8), .inl (fun j => if i < 40 then nI (c (10 + i) j) else rI (c (10 + i) j))))
def wC (q : Nat → Nat) (k : Nat → ClassId) (r : Nat → Nat) (S c : Nat → Nat → Nat) : va_W := wCx q k r S c ++ (List.range 48).map (wRow k r c)
/-- the reference's cells -/
def wM (q : Nat → Nat) (k : Nat → ClassId) (S m : Nat → Nat → Nat) : va_W :=
  [(q 0, .inr (4, [.int (nI (m 0 0)), .int (nI (S 0 0)), .ref (q 1), .ref (q 2), .ref (q 3), .ref (q 4), .ref (q 5), .ref (q 6), .int (nI (S 0 1 / 2)), .ref (q 7), .ref (q 8), .ref (q 9), .ref (q 10), .int (nI (S 0 2)), .ref (q 11), .int (nI (S 0 3)), .ref (q 12), .int (nI (S 0 4)), .ref (q 13), .int (nI (S 0 5)), .ref (q 14), .ref (q 15), .int (nI (S 0 6)), .ref (q 16)])),
   (q 1, .inl (k 0, 20, .inl (fun i => nI (S 1 i)))),
   (q 2, .inl (k 0, 20, .inl (fun i => nI (S 2 i)))),
   (q 3, .inl (k 0, 20, .inl (fun i => nI (S 3 i)))),
   (q 4, .inl (k 1, 20, .inl (fun i => nI (S 4 i)))),
   (q 5, .inl (k 1, 20, .inl (fun i => nI (S 5 i)))),
   (q 6, .inl (k 0, 20, .inl (fun i => nI (S 6 i)))),
   (q 7, .inl (k 0, 40, .inl (fun i => nI (S 7 (2 * i))))),
   (q 8, .inl (k 0, 40, .inl (fun i => nI (S 8 (2 * i))))),
   (q 9, .inl (k 0, 40, .inl (fun i => nI (S 9 (2 * i))))),
   (q 10, .inl (k 0, 40, .inl (fun i => nI (S 10 (2 * i) + 2 * S 10 (2 * i + 1))))),
   (q 11, .inl (k 0, 6, .inl (fun i => nI (S 11 i)))),
   (q 12, .inl (k 0, 8, .inl (fun i => nI (S 12 i)))),
   (q 13, .inl (k 0, 8, .inl (fun i => zI (S 13 i)))),
   (q 14, .inl (k 0, 40, .inl (fun i => rI (m 1 i)))),
   (q 15, .inl (k 0, 42, .inl (fun i => nI (S 14 i)))),
   (q 16, .inl (k 0, 7, .inl (fun i => pI (m 2 i))))]
def tk (k : Nat → ClassId) : List (ClassId × FieldType) := [(k 0, .int), (k 1, .boolean), (k 2, .array .int), (k 3, .long)]
/-- the links between the nest's mates -/
def nsF : List (String × Nat × String × String × String × String) := [("FloorGraph", 102, "FloorGraph$Floor", "widths", "[I", "FloorGraph"), ("FloorGraph", 111, "FloorGraph$Floor", "shut", "[Z", "FloorGraph"), ("FloorGraph", 50, "FloorGraph$Floor", "pieces", "I", "FloorGraph"), ("FloorGraph", 75, "FloorGraph$Floor", "levels", "[I", "FloorGraph"), ("FloorGraph", 86, "FloorGraph$Floor", "passages", "I", "FloorGraph"), ("FloorGraph", 91, "FloorGraph$Floor", "barred", "[Z", "FloorGraph"), ("FloorGraph$Drive", 22, "FloorGraph$Floor", "passages", "I", "FloorGraph"), ("FloorGraph$Drive", 28, "FloorGraph$Floor", "barred", "[Z", "FloorGraph"), ("FloorGraph$Drive", 31, "FloorGraph$Floor", "goals", "[I", "FloorGraph"), ("FloorGraph$Drive", 57, "FloorGraph$Floor", "starts", "[I", "FloorGraph"), ("FloorGraph$Drive", 60, "FloorGraph$Floor", "turnSeconds", "[I", "FloorGraph"), ("FloorGraph$Drive", 66, "FloorGraph$Floor", "lengths", "[I", "FloorGraph"), ("FloorGraph$Drive", 75, "FloorGraph$Floor", "pieces", "I", "FloorGraph"), ("FloorGraph$Drive", 82, "FloorGraph$Floor", "leavings", "[I", "FloorGraph"), ("FloorGraph$Drive", 85, "FloorGraph$Floor", "leaving", "[[I", "FloorGraph")]
def nsM : List (String × Nat × MethodName) := [("FloorGraph", 108, yX1_setZone), ("FloorGraph", 11, yX1_init), ("FloorGraph", 114, yX1_shutPieces), ("FloorGraph", 123, yX1_hasPieceFor), ("FloorGraph", 131, yX0_begin), ("FloorGraph", 135, yX0_spread), ("FloorGraph", 139, yX0_trace), ("FloorGraph", 146, yX0_secondsTo), ("FloorGraph", 179, yX0_waysBetween), ("FloorGraph", 18, yX0_init), ("FloorGraph", 187, yX1_addJoin), ("FloorGraph", 62, yX1_addPiece), ("FloorGraph", 95, yX1_barredAmong), ("FloorGraph$Drive", 34, yX1_mayEnter), ("FloorGraph$Drive", 45, yX1_mayLeave)]
/-- the tables as every contract takes them -/
def KX (D : va_G) (k : Nat → ClassId) (U : State) : Prop :=
  va_K D vwCl (tk k) U ∧ (∀ x ∈ nsF, va_Nw (.fieldLinkNest x.1 x.2.1 x.2.2.1 x.2.2.2.1 x.2.2.2.2.1 x.2.2.2.2.2) U) ∧ ∀ x ∈ nsM, va_Nw (.methodLinkNest x.1 x.2.1 x.2.2 "FloorGraph") U
theorem KX.warm {D : va_G} {k : Nat → ClassId} {s U : State} (hW : s.WarmedH U.vm) (h : KX D k s) : KX D k U :=
  ⟨va_K.moved hW.alike h.1, fun x hx => va_Nw.warmF hW (h.2.1 x hx), fun x hx => va_Nw.warmM hW (h.2.2 x hx)⟩
theorem KX.calling {D : va_G} {k : Nat → ClassId} {U : State} {g : JFrame} {mk : MethodId} {a : Array Value} (h : KX D k U) : KX D k (U.calling g mk a) :=
  ⟨va_K.moved (u := U) (U := U.calling g mk a) (Vm.Alike.refl U.vm) h.1, fun x hx => va_Nw.same (u := U) (U := U.calling g mk a) rfl rfl (h.2.1 x hx), fun x hx => va_Nw.same (u := U) (U := U.calling g mk a) rfl rfl (h.2.2 x hx)⟩
/-- a start that reads: the cells, the tables -/
def rB (D : va_G) (k : Nat → ClassId) (ws : va_W) (U : State) : Prop := va_P D vwCl ws U.heap ∧ KX D k U
/-- a start that writes: .. and the cells are apart -/
def wB (D : va_G) (k : Nat → ClassId) (ws : va_W) (sz : Nat) (U : State) : Prop := U.heap.size = sz ∧ va_P D vwCl ws U.heap ∧ KX D k U ∧ va_D (fun _ => True) ws
/-- the cells behind a method that writes -/
def wE (D : va_G) (A : Nat → Prop) (ws : va_W) (t : State) : Prop := va_P D vwCl ws t.heap ∧ va_D A ws
theorem rB_blind {D : va_G} {k : Nat → ClassId} {ws : va_W} {av : List Value} : FrameBlind (va_Pc av (rB D k ws)) := fun _ _ _ _ q => ⟨q.1, q.2.1, q.2.2.calling⟩
theorem wB_blind {D : va_G} {k : Nat → ClassId} {ws : va_W} {sz : Nat} {av : List Value} : FrameBlind (va_Pc av (wB D k ws sz)) := fun _ _ _ _ q => ⟨q.1, q.2.1, q.2.2.1, q.2.2.2.1.calling, q.2.2.2.2⟩
