/-! What a throw needs of the start: the texts, the tables' words that aren't kept by all, Throwable's two statics. -/
def eIA : String := "java/lang/IllegalArgumentException"
def eUO : String := "java/lang/UnsupportedOperationException"
def eIS : String := "java/lang/IllegalStateException"
def eAI : String := "java/lang/ArrayIndexOutOfBoundsException"
def strs : List (Nat × String) := [(121, "there are six robots"), (155, "the piece has a charger"), (161, "there are eight chargers"), (164, "there is no robot"), (168, "no such charger"), (177, "pieces between out of range"), (183, "seconds out of range"), (185, "there are forty joins"), (190, "no such robot"), (192, "no such piece"), (194, "no such hour"), (196, "width out of range"), (198, "neither 0 nor 1"), (43, "no such level"), (48, "length out of range"), (56, "there are twenty pieces"), (73, "a piece is not joined to itself"), (78, "pieces of different levels"), (84, "pieces of one level"), (89, "no such join")]
def cst : List String := [eIA, eUO, eIS, eAI]
def dcl : List String := ["java/lang/RuntimeException", "java/lang/Exception", "java/lang/Throwable", "java/lang/IndexOutOfBoundsException"]
def KT (U : State) : Prop := (∀ x ∈ strs, ∃ a, vk_R "FloorGraph" x.1 x.2 a U) ∧ (∀ x ∈ cst, va_Nw (.castable x x) U) ∧ ∀ x ∈ dcl, va_Nw (.declares (Bundle.initS x)) U
theorem KT.warm {s U : State} (hW : s.WarmedH U.vm) (h : KT s) : KT U := ⟨fun x hx => by obtain ⟨a, ha⟩ := h.1 x hx; exact ⟨a, vk_R.warm hW ha⟩, fun x hx => va_Nw.warmC hW (h.2.1 x hx), fun x hx => va_Nw.warmD hW (h.2.2 x hx)⟩
theorem KT.calling {U : State} {g : JFrame} {mk : MethodId} {a : Array Value} (h : KT U) : KT (U.calling g mk a) := ⟨fun x hx => by obtain ⟨b, hb⟩ := h.1 x hx; exact ⟨b, vk_R.same (u := U) (U := U.calling g mk a) rfl hb⟩, fun x hx => va_Nw.same (u := U) (U := U.calling g mk a) rfl rfl (h.2.1 x hx), fun x hx => va_Nw.same (u := U) (U := U.calling g mk a) rfl rfl (h.2.2 x hx)⟩
/-- Throwable's statics lie outside A -/
def TZ (A : Nat → Prop) (U : State) (H : Heap) : Prop := vx_Zq Bundle.tN "UNASSIGNED_STACK" Bundle.steD A U H ∧ vx_Zq Bundle.tN "SUPPRESSED_SENTINEL" Bundle.listD A U H
theorem TZ.moved {A : Nat → Prop} {u U : State} {H : Heap} (hvm : u.vm.Alike U.vm) (h : TZ A u H) : TZ A U H := ⟨vx_Zq.moved hvm h.1, vx_Zq.moved hvm h.2⟩
theorem TZ.kept {A : Nat → Prop} {U : State} {H H1 : Heap} (h : TZ A U H) (hq : ∀ a : Nat, a < H.size → ¬ A a → H1[a]? = H[a]?) : TZ A U H1 := ⟨vx_Zq.kept h.1 hq, vx_Zq.kept h.2 hq⟩
theorem TZ.narrow {A B : Nat → Prop} {U : State} {H : Heap} (h : TZ A U H) (hAB : ∀ q, B q → A q) : TZ B U H := ⟨vx_Zq.narrow h.1 hAB, vx_Zq.narrow h.2 hAB⟩
/-- a start that may throw, of numbers alone -/
def nB (sz : Nat) (U : State) : Prop := U.heap.size = sz ∧ KT U ∧ TZ (fun q => sz ≤ q) U U.heap
theorem nB_blind {sz : Nat} {av : List Value} : FrameBlind (va_Pc av (nB sz)) := fun _ U g mk q => ⟨q.1, q.2.1, q.2.2.1.calling, TZ.moved (u := U) (U := U.calling g mk _) (Vm.Alike.refl U.vm) q.2.2.2⟩
/-- a start that may throw, with cells -/
def tB (D : va_G) (k : Nat → ClassId) (ws : va_W) (sz : Nat) (U : State) : Prop := wB D k ws sz U ∧ KT U ∧ TZ (va_A ws sz) U U.heap
theorem tB_blind {D : va_G} {k : Nat → ClassId} {ws : va_W} {sz : Nat} {av : List Value} : FrameBlind (va_Pc av (tB D k ws sz)) := fun a U g mk q => ⟨q.1, (wB_blind (av := av) a U g mk ⟨q.1, q.2.1⟩).2, q.2.2.1.calling, TZ.moved (u := U) (U := U.calling g mk _) (Vm.Alike.refl U.vm) q.2.2.2⟩
