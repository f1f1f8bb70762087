/-! What a throw needs of the start: the texts, the tables' words that aren't kept by all, Throwable's two statics. -/
def eIA : String := "java/lang/IllegalArgumentException"
def eUO : String := "java/lang/UnsupportedOperationException"
def eIS : String := "java/lang/IllegalStateException"
def eAI : String := "java/lang/ArrayIndexOutOfBoundsException"
def strs : List (Nat × String) := [(121, "there are six robots"), (155, "the piece has a charger"), (161, "there are eight chargers"), (164, "there is no robot"), (168, "no such charger"), (177, "pieces between out of range"), (183, "seconds out of range"), (185, "there are forty joins"), (190, "no such robot"), (192, "no such piece"), (194, "no such hour"), (196, "width out of range"), (198, "neither 0 nor 1"), (43, "no such level"), (48, "length out of range"), (56, "there are twenty pieces"), (73, "a piece is not joined to itself"), (78, "pieces of different levels"), (84, "pieces of one level"), (89, "no such join")]
def cst : List String := [eIA, eUO, eIS, eAI]
def dcl : List String := ["java/lang/RuntimeException", "java/lang/Exception", "java/lang/Throwable", "java/lang/IndexOutOfBoundsException"]
abbrev nm2 : List String := ["java/lang/RuntimeException", "java/lang/Exception"]
abbrev nm3 : List String := ["java/lang/IndexOutOfBoundsException", "java/lang/RuntimeException", "java/lang/Exception"]
def KT (U : State) : Prop := (∀ x ∈ strs, ∃ a, vk_R "FloorGraph" x.1 x.2 a U) ∧ (∀ x ∈ cst, va_Nw (.castable x x) U) ∧ (∀ x ∈ dcl, va_Nw (.declares (Bundle.initS x)) U) ∧ ∀ w ∈ (vx_atS RX2 170 eAI nm3).filter goodWord, w.before #[] U = true
theorem KT.warm {s U : State} (hW : s.WarmedH U.vm) (h : KT s) : KT U := ⟨fun x hx => by obtain ⟨a, ha⟩ := h.1 x hx; exact ⟨a, vk_R.warm hW ha⟩, fun x hx => va_Nw.warmC hW (h.2.1 x hx), fun x hx => va_Nw.warmD hW (h.2.2.1 x hx), fun w hw => word_at hW (good_of_word (List.mem_filter.mp hw).2) (h.2.2.2 w hw)⟩
theorem at9_t : ∀ w ∈ (vx_atS RX2 170 eAI nm3).filter goodWord, w.onTables = true := by decide +kernel
theorem KT.calling {U : State} {g : JFrame} {mk : MethodId} {a : Array Value} (h : KT U) : KT (U.calling g mk a) := ⟨fun x hx => by obtain ⟨b, hb⟩ := h.1 x hx; exact ⟨b, vk_R.same (u := U) (U := U.calling g mk a) rfl hb⟩, fun x hx => va_Nw.same (u := U) (U := U.calling g mk a) rfl rfl (h.2.1 x hx), fun x hx => va_Nw.same (u := U) (U := U.calling g mk a) rfl rfl (h.2.2.1 x hx), fun w hw => va_tabs (u := U) (U := U.calling g mk a) (at9_t w hw) rfl (h.2.2.2 w hw)⟩
/-- Throwable's statics lie outside A -/
def TZ (A : Nat → Prop) (U : State) (H : Heap) : Prop := vx_Zq Bundle.tN "UNASSIGNED_STACK" Bundle.steD A U H ∧ vx_Zq Bundle.tN "SUPPRESSED_SENTINEL" Bundle.listD A U H
theorem TZ.moved {A : Nat → Prop} {u U : State} {H : Heap} (hvm : u.vm.Alike U.vm) (h : TZ A u H) : TZ A U H := ⟨vx_Zq.moved hvm h.1, vx_Zq.moved hvm h.2⟩
theorem TZ.kept {A : Nat → Prop} {U : State} {H H1 : Heap} (h : TZ A U H) (hq : ∀ a : Nat, a < H.size → ¬ A a → H1[a]? = H[a]?) : TZ A U H1 := ⟨vx_Zq.kept h.1 hq, vx_Zq.kept h.2 hq⟩
theorem TZ.narrow {A B : Nat → Prop} {U : State} {H : Heap} (h : TZ A U H) (hAB : ∀ q, B q → A q) : TZ B U H := ⟨vx_Zq.narrow h.1 hAB, vx_Zq.narrow h.2 hAB⟩
/-- a start that may throw, of numbers alone -/
def nB (sz : Nat) (U : State) : Prop := U.heap.size = sz ∧ KT U ∧ TZ (fun q => sz ≤ q) U U.heap
theorem nB_blind {sz : Nat} {av : List Value} : FrameBlind (va_Pc av (nB sz)) := fun _ U g mk q => ⟨q.1, q.2.1, q.2.2.1.calling, TZ.moved (u := U) (U := U.calling g mk _) (Vm.Alike.refl U.vm) q.2.2.2⟩
/-- a start that may throw, with cells -/
def tB (D : va_G) (k : Nat → ClassId) (ws : va_W) (sz : Nat) (U : State) : Prop := wB D k ws sz U ∧ KT U ∧ TZ (va_A ws sz) U U.heap
theorem tB_blind {D : va_G} {k : Nat → ClassId} {ws : va_W} {sz : Nat} {av : List Value} : FrameBlind (va_Pc av (tB D k ws sz)) := fun a U g mk q => ⟨q.1, (wB_blind (av := av) a U g mk ⟨q.1, q.2.1⟩).2, q.2.2.1.calling, TZ.moved (u := U) (U := U.calling g mk _) (Vm.Alike.refl U.vm) q.2.2.2⟩
section TH
variable {p : Program} {l : Launch} {e : Env} {R : Room} {s : State} {m : MethodId} {args : Array Value} {below : List Frame} {meth : Method} {c : Code} {H : Heap} {locs : List Loc} {cells slots : Nat}
variable {Qc : Array Value → State → Outcome → State → Prop} {XC : String → State → State → Prop} {free : Addr → Prop} {rest : List Value} {ls : Array Slot}
/-- throw new E("text") in FloorGraph -/
theorem th_row {cc : ByteArray} {pc : Nat} (hexec : p.tables.exec = Jvm.exec) (hb : c.code = cc) (hl : l.stackTraces = false) {cls text : String} {names : List String} {ik is ic mc ms : Nat} {A : Nat → Prop}
    (hown : s.vm.findClass RX2 = some m.cls) (hcls : Bundle.fit cls = true) (hnames : ∀ n ∈ names, Bundle.fit n = true) (hk : (Cond.classLink RX2 ik cls).before args s = true) (hini : (Cond.initialized cls).before args s = true) (hT : KT s) (hstr : (is, text) ∈ strs) (hcst : cls ∈ cst)
    (hgw : ∀ w ∈ (vx_atS RX2 ic cls names).filter goodWord, w.before args s = true) (hb2 : ∀ w ∈ (vx_atS RX2 ic cls names).filter (fun w => !goodWord w), w ∈ Cond.castable cls cls :: dcl.map (fun x => Cond.declares (Bundle.initS x)))
    (hgood : ∀ w ∈ Cond.classLink RX2 ik cls :: Cond.initialized cls :: vx_atS RX2 ic cls names, vx_ot w = true) (hZ : TZ A s s.heap) (hS : va_S A s.heap H locs) (hsize : ls.size = c.maxLocals)
    (d0 : decode cc pc = .ok (.new ik, 3)) (d3 : decode cc (pc + 3) = .ok (.dup, 1)) (d4 : decode cc (pc + 4) = .ok (.ldc is, 2)) (d6 : decode cc (pc + 6) = .ok (.invokespecial ic, 3)) (d9 : decode cc (pc + 9) = .ok (.athrow, 1))
    (hno : ∀ x ∈ c.exceptionTable.toList, False) (hRframes : names.length + 3 < R.frames) (hRlocals : (rest.map fun v => v.category).sum + (13 * (names.length + 1) + 43) ≤ R.locals) (hRcells : cells + 1 ≤ R.cells) (hRslots : slots + 6 ≤ R.slots) (hlocks : meth.locks = false)
    (hx : ∀ t : State, s.vm.Alike t.vm → H.size ≤ t.heap.size → (∀ q : Nat, q < H.size → t.heap[q]? = H[q]?) → XC cls s t) (hf : ∀ z ∈ locs, free z.base) (hc : cells + 1 ≤ mc) (hs : slots + 6 ≤ ms) :
    W p l e R s m args below meth c H locs cells slots (vx_MQ below Qc XC args s mc ms free) (F0 m pc ls rest) := by
  obtain ⟨sa, hsa⟩ := hT.1 _ hstr
  exact vx_throwS hexec hb hl hown hcls hnames hk hini hsa (vx_hat hgw hb2 (vx_c (va_Nw.use rfl (hT.2.1 cls hcst)) (fun w hw => by obtain ⟨x, hx, rfl⟩ := List.mem_map.mp hw; exact va_Nw.use rfl (hT.2.2.1 x hx)))) hgood hZ.1 hZ.2 hS hsize d0 d3 d4 d6 d9 (fun x h => (hno x h).elim) hRframes hRlocals hRcells hRslots hlocks hx hf hc hs
theorem th_F {A : Nat → Prop} {t : State} (hS : va_S A s.heap H locs) (h1 : H.size ≤ t.heap.size) (h2 : ∀ q : Nat, q < H.size → t.heap[q]? = H[q]?) : va_F A s t := ⟨Nat.le_trans hS.1 h1, fun q hq hA => by rw [h2 q (Nat.lt_of_lt_of_le hq hS.1)]; exact hS.2.1 q hq hA⟩
theorem th_P {D : va_G} {ws : va_W} {t : State} (hP : va_P D vwCl ws H) (h2 : ∀ q : Nat, q < H.size → t.heap[q]? = H[q]?) : va_P D vwCl ws t.heap := hP.kept (fun k q hk => h2 q.1 ((hP k q hk).lt))
end TH
theorem gd_IA : ∀ w ∈ Cond.classLink RX2 41 eIA :: Cond.initialized eIA :: vx_atS RX2 45 eIA nm2, vx_ot w = true := by decide +kernel
theorem bd_IA : ∀ w ∈ (vx_atS RX2 45 eIA nm2).filter (fun w => !goodWord w), w ∈ Cond.castable eIA eIA :: dcl.map (fun x => Cond.declares (Bundle.initS x)) := by decide +kernel
theorem gd_UO : ∀ w ∈ Cond.classLink RX2 54 eUO :: Cond.initialized eUO :: vx_atS RX2 58 eUO nm2, vx_ot w = true := by decide +kernel
theorem bd_UO : ∀ w ∈ (vx_atS RX2 58 eUO nm2).filter (fun w => !goodWord w), w ∈ Cond.castable eUO eUO :: dcl.map (fun x => Cond.declares (Bundle.initS x)) := by decide +kernel
theorem gd_IS : ∀ w ∈ Cond.classLink RX2 153 eIS :: Cond.initialized eIS :: vx_atS RX2 157 eIS nm2, vx_ot w = true := by decide +kernel
theorem bd_IS : ∀ w ∈ (vx_atS RX2 157 eIS nm2).filter (fun w => !goodWord w), w ∈ Cond.castable eIS eIS :: dcl.map (fun x => Cond.declares (Bundle.initS x)) := by decide +kernel
theorem gd_AI : ∀ w ∈ Cond.classLink RX2 166 eAI :: Cond.initialized eAI :: vx_atS RX2 170 eAI nm3, vx_ot w = true := by decide +kernel
theorem bd_AI : ∀ w ∈ (vx_atS RX2 170 eAI nm3).filter (fun w => !goodWord w), w ∈ Cond.castable eAI eAI :: dcl.map (fun x => Cond.declares (Bundle.initS x)) := by decide +kernel
set_option maxHeartbeats 4000000 in
set_option maxRecDepth 100000 in
/-- needHour: returns for an hour, throws else -/
theorem k_X2_needHour (l : Launch) (hl : l.stackTraces = false) (sz : Nat) (x0 : Int32) : vx_Met l yX2_needHour wsX2_needHour ({ frames := 6, cells := 1, slots := 6, locals := 90 } : Room) (va_Pc [.int x0] (nB sz)) (va_Qv (fun _ : Unit => 0 ≤ x0.toInt ∧ x0.toInt ≤ 23) (fun _ _ => True) (fun q => sz ≤ q)) (vx_X (fun _ : Unit => ¬ (0 ≤ x0.toInt ∧ x0.toInt ≤ 23)) (fun E _ _ => E = eIA) (fun q => sz ≤ q)) 1 6 (fun q => sz ≤ q) := by
  refine vx_ofW (cc := cX2_needHour) (maxL := 1) (ret := none) (by decide) rfl ?_
  intro p e s m args below meth c s₁ B hml hno hv
  obtain ⟨rfl, hsz, hT, hZ⟩ := hv
  have hx := B.exec
  have hb := B.bytes
  have hr := B.returns
  have hts := atoms_spec (ws := wsX2_needHour) B.pre
  have hown : s.vm.findClass RX2 = some m.cls := findClass_of_methodNamed B.named
  have hlocks := B.notSynchronized
  subst hsz
  have hS : va_S (fun q => s.heap.size ≤ q) s.heap s.heap [] := va_S.rf
  have hgw : ∀ w ∈ (vx_atS RX2 45 eIA nm2).filter goodWord, w.before [Value.int x0].toArray s = true := fun w h => hts w (List.mem_cons_of_mem _ (List.mem_append_right _ h))
  have hl2 := lv_entry ([.int x0]) (n := 1) (Nat.le_of_ble_eq_true rfl)
  rw [lg_entry_eq]
  generalize (lg_sl ([.int x0]) ++ List.replicate (1 - (lg_sl ([.int x0])).length) Slot.unset).toArray = ls at hl2 ⊢
  have hl2 : lv_has ls 1 [(0, .int x0)] := hl2
  have hth : ¬ (0 ≤ x0.toInt ∧ x0.toInt ≤ 23) → W p l e (headSpec wsX2_needHour ({ frames := 6, cells := 1, slots := 6, locals := 90 } : Room)).room s m [Value.int x0].toArray below meth c s.heap [] 0 0 (vx_MQ below (va_Qv (fun _ : Unit => 0 ≤ x0.toInt ∧ x0.toInt ≤ 23) (fun _ _ => True) (fun q => s.heap.size ≤ q)) (vx_X (fun _ : Unit => ¬ (0 ≤ x0.toInt ∧ x0.toInt ≤ 23)) (fun E _ _ => E = eIA) (fun q => s.heap.size ≤ q)) [Value.int x0].toArray s 1 6 (fun q => s.heap.size ≤ q)) (F0 m 10 ls []) := by
    intro hn
    refine th_row (is := 194) (text := "no such hour") hx hb hl hown (by decide +kernel) (by decide +kernel) (hts (.classLink RX2 41 eIA) (by decide +kernel)) (hts (.initialized eIA) (by decide +kernel)) hT (by decide +kernel) (by decide +kernel) hgw bd_IA gd_IA hZ hS (hl2.1.trans hml.symm) dX2_needHour_10 dX2_needHour_13 dX2_needHour_14 dX2_needHour_16 dX2_needHour_19 hno (Nat.le_of_ble_eq_true rfl) (Nat.le_of_ble_eq_true rfl) (Nat.le_of_ble_eq_true rfl) (Nat.le_of_ble_eq_true rfl) hlocks (fun t hvm h1 h2 => ⟨(), hn, rfl, th_F hS h1 h2⟩) (fun _ h => by cases h) (Nat.le_refl _) (Nat.le_refl _)
  refine lv_iload_n hx hb dX2_needHour_0 rfl (lv_at hl2 0 rfl) ?_
  refine nr_if_lt (tgt := 10) hx hb dX2_needHour_1 (by decide) (fun h_1 => hth (by omega)) (fun h_1 => ?_)
  refine lv_iload_n hx hb dX2_needHour_4 rfl (lv_at hl2 0 rfl) ?_
  refine lv_bipush (v := nI 24) hx hb dX2_needHour_5 (by decide) ?_
  refine nr_icmp_lt (tgt := 20) hx hb dX2_needHour_7 (by decide) (fun h_7 => ?_) (fun h_7 => hth (by have h9 : (24 : Int) ≤ x0.toInt := h_7; omega))
  refine vx_ret (W.widen (k := 1) (n := 6) (by omega) (by omega) ?_)
  exact W.vret hx hb hr (fun t ht hW => ⟨⟨(), rfl, ⟨h_1, by have h9 : x0.toInt < (24 : Int) := h_7; omega⟩, trivial⟩, hS.F ht⟩) hS.2.2 dX2_needHour_20
