/-! THE ABSTRACT HEAP: addresses, kind of each (0..11 objects, 12 bytes, 13 ints, 14 booleans, 15 16 17 references, 18 longs), int fields by (64*kind+place), reference fields, long fields, lengths, rows of numbers, rows of references, rows of longs -/
abbrev aw_S : Type := List Nat × (Nat → Nat) × (Nat → Nat → Int32) × (Nat → Nat → Option Nat) × (Nat → Nat → Int64) × (Nat → Nat) × (Nat → Nat → Int32) × (Nat → Nat → Option Nat) × (Nat → Nat → Int64)
def sL (S : aw_S) : List Nat := S.1
def sK (S : aw_S) : Nat → Nat := S.2.1
def sI (S : aw_S) : Nat → Nat → Int32 := S.2.2.1
def sR (S : aw_S) : Nat → Nat → Option Nat := S.2.2.2.1
def sJ (S : aw_S) : Nat → Nat → Int64 := S.2.2.2.2.1
def sN (S : aw_S) : Nat → Nat := S.2.2.2.2.2.1
def sA (S : aw_S) : Nat → Nat → Int32 := S.2.2.2.2.2.2.1
def sQ (S : aw_S) : Nat → Nat → Option Nat := S.2.2.2.2.2.2.2.1
def sB (S : aw_S) : Nat → Nat → Int64 := S.2.2.2.2.2.2.2.2
def wI (S : aw_S) (F a : Nat) (v : Int32) : aw_S := (sL S, sK S, va_up (sI S) F (va_up (sI S F) a v), sR S, sJ S, sN S, sA S, sQ S, sB S)
def wR (S : aw_S) (F a : Nat) (v : Option Nat) : aw_S := (sL S, sK S, sI S, va_up (sR S) F (va_up (sR S F) a v), sJ S, sN S, sA S, sQ S, sB S)
def wJ (S : aw_S) (F a : Nat) (v : Int64) : aw_S := (sL S, sK S, sI S, sR S, va_up (sJ S) F (va_up (sJ S F) a v), sN S, sA S, sQ S, sB S)
def wA (S : aw_S) (a k : Nat) (v : Int32) : aw_S := (sL S, sK S, sI S, sR S, sJ S, sN S, va_up (sA S) a (upd (sA S a) k v), sQ S, sB S)
def wQ (S : aw_S) (a k : Nat) (v : Option Nat) : aw_S := (sL S, sK S, sI S, sR S, sJ S, sN S, sA S, va_up (sQ S) a (va_up (sQ S a) k v), sB S)
def wB (S : aw_S) (a k : Nat) (v : Int64) : aw_S := (sL S, sK S, sI S, sR S, sJ S, sN S, sA S, sQ S, va_up (sB S) a (vp_updL (sB S a) k v))
/-- a new object of kind ci at q -/
def nO (S : aw_S) (q ci : Nat) : aw_S := (sL S ++ [q], va_up (sK S) q ci, fun F a => if a = q then 0 else sI S F a, fun F a => if a = q then none else sR S F a, fun F a => if a = q then 0 else sJ S F a, sN S, sA S, sQ S, sB S)
/-- a new row of kind kd, of n places, at q -/
def nA (S : aw_S) (q kd n : Nat) : aw_S := (sL S ++ [q], va_up (sK S) q kd, sI S, sR S, sJ S, va_up (sN S) q n, va_up (sA S) q (fun _ => 0), va_up (sQ S) q (fun _ => none), va_up (sB S) q (fun _ => 0))
/-- a copy, at q, of the row at a -/
def nC (S : aw_S) (q a : Nat) : aw_S := (sL S ++ [q], va_up (sK S) q (sK S a), sI S, sR S, sJ S, va_up (sN S) q (sN S a), va_up (sA S) q (sA S a), va_up (sQ S) q (sQ S a), va_up (sB S) q (sB S a))
def aw_is (S : aw_S) (a ci : Nat) : Prop := a ∈ sL S ∧ sK S a = ci
def aw_fv (S : aw_S) (ty : FieldType) (F a : Nat) : Value := match ty with
  | .long => .long (sJ S F a)
  | .object _ => va_rf (sR S F a)
  | .array _ => va_rf (sR S F a)
  | _ => .int (sI S F a)
def aw_N : Nat → Nat := fun k => match k with
  | 0 => 3
  | 1 => 3
  | 2 => 3
  | 3 => 9
  | 4 => 5
  | 5 => 2
  | 6 => 2
  | 7 => 3
  | 8 => 2
  | 9 => 2
  | 10 => 17
  | _ => 56
def aw_ty : Nat → Nat → FieldType := fun k => match k with
  | 0 => tyX0
  | 1 => tyX1
  | 2 => tyX2
  | 3 => tyX3
  | 4 => tyX4
  | 5 => tyX5
  | 6 => tyX6
  | 7 => tyX7
  | 8 => tyX8
  | 9 => tyX9
  | 10 => tyX10
  | _ => tyX11
def aw_fs (S : aw_S) (ci a : Nat) : List Value := (List.range (aw_N ci)).map (fun j => aw_fv S (aw_ty ci j) (64 * ci + j) a)
/-- what a row of kind kd holds -/
def aw_ro (S : aw_S) (kd a : Nat) : vp_A := (sN S a, if kd < 15 then .inl (sA S a) else if kd < 18 then .inr (.inr (.inr (.inr (sQ S a)))) else .inr (.inl (sB S a)))
def aw_F (cy : Nat → ClassId) (S : aw_S) : Nat → va_E := fun a => if sK S a < 12 then .inr (sK S a, aw_fs S (sK S a) a) else .inl (cy (sK S a), aw_ro S (sK S a) a)
abbrev aw_W (cy : Nat → ClassId) (S : aw_S) : va_W := va_pl (sL S) (aw_F cy S)
def aw_tys (cy : Nat → ClassId) : List (ClassId × FieldType) := [(cy 12, .byte), (cy 13, .int), (cy 14, .boolean), (cy 15, .object RX0), (cy 16, .object RX4), (cy 17, .object RX5), (cy 18, .long)]
/-- the String constants: whose, at which entry, which text, how long, its bytes -/
def st_own : Nat → String := fun i => if i < 7 then RX6 else RX11
def st_idx : Nat → Nat := fun i => if i < 7 then 94 + 2 * i else 159
def st_tx : Nat → String := fun i => match i with
  | 0 => "put"
  | 1 => "del"
  | 2 => "add"
  | 3 => "cut"
  | 4 => "inc"
  | 5 => "snap"
  | 6 => ""
  | _ => "putdeladdcutincsnap"
def st_len : List Nat := [3, 3, 3, 3, 3, 4, 0, 19]
def st_byt : List (List Int32) := [[112, 117, 116], [100, 101, 108], [97, 100, 100], [99, 117, 116], [105, 110, 99], [115, 110, 97, 112], [], [112, 117, 116, 100, 101, 108, 97, 100, 100, 99, 117, 116, 105, 110, 99, 115, 110, 97, 112]]
def aw_st (A : Nat → Prop) (U : State) (H : Heap) : Prop := (∃ adK adV : Nat → Nat, (∀ i, i < 8 → vk_R (st_own i) (st_idx i) (st_tx i) (adK i) U) ∧ vk_S 8 st_len st_byt adK adV A U H) ∧ va_Z "java/lang/String" "COMPACT_STRINGS" "Z" (.int 1) A U H ∧ va_Zq "jdk/internal/util/Preconditions" "SIOOBE_FORMATTER" "Ljava/util/function/BiFunction;" A U H
/-- what nobody writes: the tables' words that are asked by states, static rows, texts -/
def aw_env (A : Nat → Prop) (U : State) (H : Heap) : Prop := (va_Nw (.methodLinkNest RX10 38 yX1_init "WideMap") U ∧ va_Nw (.methodLinkNest RX10 56 yX0_init "WideMap") U ∧ va_Nw (.methodLinkNest RX1 45 yX10_valueIn "WideMap") U ∧ va_Nw (.fieldLinkNest RX6 59 "WideMap" "KEYS_OF_WORD" "[I" "WideMap") U ∧ va_Nw (.fieldLinkNest RX6 63 "WideMap" "VALUES_OF_WORD" "[I" "WideMap") U ∧ va_AO RX0 U ∧ va_AO RX4 U ∧ va_AO RX5 U ∧ va_Nw (.castable "[I" "java/lang/Cloneable") U ∧ va_Nw (.castable "[LWideMap$Node;" "java/lang/Cloneable") U) ∧ (∃ t1 t2 : Nat, va_Z "WideMap" "KEYS_OF_WORD" "[I" (.ref t1) A U H ∧ va_T .int t1 6 (fun j => .int (([1, 1, 1, 2, 2, 0] : List Int32).getD j 0)) A U H ∧ va_Z "WideMap" "VALUES_OF_WORD" "[I" (.ref t2) A U H ∧ va_T .int t2 6 (fun j => .int (([1, 0, 1, 0, 1, 0] : List Int32).getD j 0)) A U H) ∧ aw_st A U H
theorem aw_env_moved {A B : Nat → Prop} {s U : State} {H H1 : Heap} (hW : s.WarmedH U.vm) (hq : ∀ a : Nat, a < H.size → ¬ A a → H1[a]? = H[a]?) (hAB : ∀ q, B q → A q) (h : aw_env A s H) : aw_env B U H1 := by
  obtain ⟨⟨h1, h2, h3, h4, h5, h6, h7, h8, h9, h10⟩, ⟨t1, t2, g1, g2, g3, g4⟩, ⟨adK, adV, r1, r2⟩, r3, r4⟩ := h
  have ha := hW.alike
  refine ⟨⟨va_Nw.warmM hW h1, va_Nw.warmM hW h2, va_Nw.warmM hW h3, va_Nw.warmF hW h4, va_Nw.warmF hW h5, va_AO.moved ha h6, va_AO.moved ha h7, va_AO.moved ha h8, va_Nw.warmC hW h9, va_Nw.warmC hW h10⟩, ⟨t1, t2, ?_, ?_, ?_, ?_⟩, ⟨adK, adV, fun i hi => vk_R.warm hW (r1 i hi), ((vk_S.moved ha r2).kept hq).narrow hAB⟩, ((va_Z.moved ha r3).kept hq).narrow hAB, ((va_Zq.moved ha r4).kept hq).narrow hAB⟩
  · exact ((va_Z.moved ha g1).kept hq).narrow hAB
  · exact ((va_T.moved ha g2).kept hq).narrow hAB
  · exact ((va_Z.moved ha g3).kept hq).narrow hAB
  · exact ((va_T.moved ha g4).kept hq).narrow hAB
theorem aw_env_same {A : Nat → Prop} {s U : State} {H : Heap} (hv : s.vm = U.vm) (h : aw_env A s H) : aw_env A U H := by
  obtain ⟨⟨h1, h2, h3, h4, h5, h6, h7, h8, h9, h10⟩, ⟨t1, t2, g1, g2, g3, g4⟩, ⟨adK, adV, r1, r2⟩, r3, r4⟩ := h
  have ha : s.vm.Alike U.vm := by rw [hv]; exact Vm.Alike.refl _
  exact ⟨⟨va_Nw.same rfl hv h1, va_Nw.same rfl hv h2, va_Nw.same rfl hv h3, va_Nw.same rfl hv h4, va_Nw.same rfl hv h5, va_AO.moved ha h6, va_AO.moved ha h7, va_AO.moved ha h8, va_Nw.same rfl hv h9, va_Nw.same rfl hv h10⟩, ⟨t1, t2, va_Z.moved ha g1, va_T.moved ha g2, va_Z.moved ha g3, va_T.moved ha g4⟩, ⟨adK, adV, fun i hi => vk_R.same hv.symm (r1 i hi), vk_S.moved ha r2⟩, va_Z.moved ha r3, va_Zq.moved ha r4⟩
/-- a frame of the walk: the machine's, the world's, what may be written, its end -/
abbrev aw_G : Type := Program × Launch × Env × Room × State × MethodId × Array Value × List Frame × Method × Code × va_G × (Nat → ClassId) × (Nat → Prop) × (State → Prop)
/-- what holds of the frame all along: its method y, code, locals, answer; the depth d, cells and places that it may make -/
def aw_K (g : aw_G) (y : MethodName) (cc : ByteArray) (mL : Nat) (ret : Option FieldType) (d mc ms : Nat) : Prop := match g with
  | (p, _, _, R, s, m, args, _, meth, c, D, cy, A, _) => p.tables.exec = Jvm.exec ∧ c.code = cc ∧ c.maxLocals = mL ∧ meth.sig.returnType = ret ∧ s.vm.findClass y.cls = some m.cls ∧ meth.name = y.name ∧ (∀ w ∈ TT, w.before args s = true) ∧ meth.locks = false ∧ va_K D vwCl (aw_tys cy) s ∧ (∀ q : Nat, s.heap.size ≤ q → A q) ∧ aw_env A s s.heap ∧ d ≤ R.frames ∧ 48 * d ≤ R.locals ∧ mc ≤ R.cells ∧ ms ≤ R.slots
def aw (g : aw_G) (mL : Nat) (S : aw_S) (k n : Nat) (lv : List (Nat × Value)) (st : List Value) (pc : Nat) : Prop := match g with
  | (p, l, e, R, s, m, args, below, meth, c, D, cy, A, Q) => ∀ (H : Heap) (locs : List Loc) (ls : Array Slot), va_P D vwCl (aw_W cy S) H → va_D A (aw_W cy S) → va_S A s.heap H locs → lv_has ls mL lv → W p l e R s m args below meth c H locs k n Q (F0 m pc ls st)
/-- a field of kind ci at place j (F = 64*ci+j), as entry idx of the class own names it -/
def aw_FL (own : String) (idx ci j F : Nat) (ty : FieldType) (fin : Bool) : Prop := ∃ (C : String) (T : u_T) (N : Nat), vwCl[ci]? = some (C, T, N) ∧ aw_N ci = N ∧ ci < 12 ∧ j < N ∧ aw_ty ci j = ty ∧ (T j).2.2.2 = fin ∧ (T j).1 = C ∧ Cond.fieldLink own idx (T j).1 (T j).2.1 (T j).2.2.1 ∈ TT ∧ 64 * ci + j = F
