/-! The grids: an array of rows, and the rows among the world's last cells. -/
theorem wC_row {q : Nat → Nat} {k : Nat → ClassId} {r : Nat → Nat} {S c : Nat → Nat → Nat} {i : Nat} (hi : i < 48) : (wC q k r S c)[23 + i]? = some (wRow k r c i) := by
  unfold wC
  rw [List.getElem?_append_right (by show 23 ≤ 23 + i; omega)]
  show ((List.range 48).map (wRow k r c))[23 + i - 23]? = _
  rw [show 23 + i - 23 = i by omega, List.getElem?_map, List.getElem?_range hi]
  rfl
theorem wRow_l {k : Nat → ClassId} {r : Nat → Nat} {c : Nat → Nat → Nat} {i : Nat} (hi : i < 40) : wRow k r c i = (r i, .inl (k 0, 40, .inl (fun j => nI (c (10 + i) j)))) := by
  unfold wRow
  simp only [if_pos hi]
theorem wRow_t {k : Nat → ClassId} {r : Nat → Nat} {c : Nat → Nat → Nat} {i : Nat} (hi : ¬ i < 40) : wRow k r c i = (r i, .inl (k 0, 8, .inl (fun j => rI (c (10 + i) j)))) := by
  unfold wRow
  simp only [if_neg hi]
theorem wC_leav {q : Nat → Nat} {k : Nat → ClassId} {r : Nat → Nat} {S c : Nat → Nat → Nat} {i : Nat} (hi : i < 40) : (wC q k r S c)[23 + i]? = some (r i, .inl (k 0, 40, .inl (fun j => nI (c (10 + i) j)))) := by
  rw [wC_row (by omega), wRow_l hi]
theorem wC_tab {q : Nat → Nat} {k : Nat → ClassId} {r : Nat → Nat} {S c : Nat → Nat → Nat} {i : Nat} (hi : i < 8) : (wC q k r S c)[63 + i]? = some (r (40 + i), .inl (k 0, 8, .inl (fun j => rI (c (50 + i) j)))) := by
  rw [show 63 + i = 23 + (40 + i) by omega, wC_row (by omega), wRow_t (by omega), show 10 + (40 + i) = 50 + i by omega]
theorem wCx_c {q : Nat → Nat} {k : Nat → ClassId} {r : Nat → Nat} {S c c' : Nat → Nat → Nat} (h0 : c' 0 = c 0) (h1 : c' 1 = c 1) (h2 : c' 2 = c 2) (h3 : c' 3 = c 3) : wCx q k r S c' = wCx q k r S c := by
  unfold wCx
  rw [h0, h1, h2, h3]
theorem wC_set {q : Nat → Nat} {k : Nat → ClassId} {r : Nat → Nat} {S c : Nat → Nat → Nat} {i x v : Nat} (hi : i < 48) : (wC q k r S c).set (23 + i) (wRow k r (up2 c (10 + i) x v) i) = wC q k r S (up2 c (10 + i) x v) := by
  have hr : ∀ g, g < 10 → up2 c (10 + i) x v g = c g := fun g hg => by
    unfold up2
    exact upR_ne _ _ (by omega)
  have hro : ∀ j, j ≠ i → wRow k r (up2 c (10 + i) x v) j = wRow k r c j := fun j hj => by
    unfold wRow
    have : up2 c (10 + i) x v (10 + j) = c (10 + j) := by
      unfold up2
      exact upR_ne _ _ (by omega)
    rw [this]
  unfold wC
  rw [wCx_c (hr 0 (by decide)) (hr 1 (by decide)) (hr 2 (by decide)) (hr 3 (by decide))]
  rw [List.set_append_right _ _ (by show 23 ≤ 23 + i; omega)]
  refine congrArg (wCx q k r S c ++ ·) ?_
  show ((List.range 48).map (wRow k r c)).set (23 + i - 23) _ = _
  rw [show 23 + i - 23 = i by omega]
  apply List.ext_getElem?
  intro n
  by_cases z : n = i
  · subst z
    rw [List.getElem?_set_self (by rw [List.length_map, List.length_range]; exact hi), List.getElem?_map, List.getElem?_range hi]
    rfl
  · rw [List.getElem?_set_ne (by omega), List.getElem?_map, List.getElem?_map]
    by_cases y : n < 48
    · rw [List.getElem?_range y]
      show some _ = some _
      rw [hro n z]
    · rw [List.getElem?_eq_none (by rw [List.length_range]; omega)]
      rfl
theorem wC_setL {q : Nat → Nat} {k : Nat → ClassId} {r : Nat → Nat} {S c : Nat → Nat → Nat} {i x v : Nat} (hi : i < 40) : (wC q k r S c).set (23 + i) (r i, .inl (k 0, 40, .inl (fun j => nI (up1 (c (10 + i)) x v j)))) = wC q k r S (up2 c (10 + i) x v) := by
  rw [← wC_set (by omega), wRow_l hi]
  have : up2 c (10 + i) x v (10 + i) = up1 (c (10 + i)) x v := upR_same _ _ _
  rw [this]
theorem wC_setT {q : Nat → Nat} {k : Nat → ClassId} {r : Nat → Nat} {S c : Nat → Nat → Nat} {i x v : Nat} (hi : i < 8) : (wC q k r S c).set (63 + i) (r (40 + i), .inl (k 0, 8, .inl (fun j => rI (up1 (c (50 + i)) x v j)))) = wC q k r S (up2 c (50 + i) x v) := by
  have h := wC_set (q := q) (k := k) (r := r) (S := S) (c := c) (i := 40 + i) (x := x) (v := v) (by omega)
  rw [show 23 + (40 + i) = 63 + i by omega, show 10 + (40 + i) = 50 + i by omega, wRow_t (by omega), show 10 + (40 + i) = 50 + i by omega] at h
  rw [← h]
  have : up2 c (50 + i) x v (50 + i) = up1 (c (50 + i)) x v := upR_same _ _ _
  rw [this]
section NGR
variable {p : Program} {l : Launch} {e : Env} {R : Room} {s : State} {m : MethodId} {args : Array Value} {below : List Frame} {meth : Method} {c : Code} {H : Heap} {locs : List Loc} {cells slots : Nat} {Q : State → Prop}
variable {cc : ByteArray} {pc : Nat} {ls : Array Slot} {rest : List Value} {D : va_G} {cl : List vw_C} {a : Nat} {tys : List (ClassId × FieldType)} {ws : va_W}
theorem na_aald (hexec : p.tables.exec = Jvm.exec) (hb : c.code = cc) (hK : va_K D cl tys s) (hP : va_P D cl ws H) (q0 t0 : Nat) {cA : ClassId} {ty : FieldType} {n i b : Nat} {f : Nat → Option Nat} (ha : ws[q0]? = some (a, .inl (cA, n, .inr (.inr (.inr (.inr f)))))) (ht : tys[t0]? = some (cA, .array ty)) (hi : i < n) (hn : n < 2 ^ 31) (hf : f i = some b) (hdg : decode cc pc = .ok (.aaload, 1))
    (kk : W p l e R s m args below meth c H locs cells slots Q (F0 m (pc + 1) ls (.ref b :: rest))) : W p l e R s m args below meth c H locs cells slots Q (F0 m pc ls (.int (nI i) :: .ref a :: rest)) := by
  have hin := vp_in_nI hi hn
  have hcl : (nI i).toNatClampNeg = i := nI_clamp (by omega)
  refine W.aald (v := .ref b) (ty := .array ty) hexec hb (hP q0 _ ha) ((hK.2 t0 _ ht).1 n (fun j => va_rf (f j))) rfl (fun q => by cases q) (by show ¬ (nI i < 0 ∨ (arrV _ _ _).slots.size ≤ _); rw [arrV_size]; exact hin) (by show (arrV _ _ _).slots[_]? = _; rw [hcl, arrV_read _ _ hi, hf]; rfl) rfl rfl hdg kk
end NGR
