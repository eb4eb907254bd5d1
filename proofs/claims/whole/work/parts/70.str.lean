def yJ0_length_8abf5 : MethodName := ⟨"java/lang/String", "length", "()I"⟩
abbrev cJ0_length_8abf5 : ByteArray := prog_21_method_54_code
def yJ0_charAt_5068e : MethodName := ⟨"java/lang/String", "charAt", "(I)C"⟩
abbrev cJ0_charAt_5068e : ByteArray := prog_21_method_56_code
def yJ0_coder_7d493 : MethodName := ⟨"java/lang/String", "coder", "()B"⟩
abbrev cJ0_coder_7d493 : ByteArray := prog_21_method_152_code
def yJ0_isLatin1_aae02 : MethodName := ⟨"java/lang/String", "isLatin1", "()Z"⟩
abbrev cJ0_isLatin1_aae02 : ByteArray := prog_21_method_154_code
def yJ0_checkIndex_df160 : MethodName := ⟨"java/lang/String", "checkIndex", "(II)V"⟩
abbrev cJ0_checkIndex_df160 : ByteArray := prog_21_method_155_code
def yJ1_charAt_3b067 : MethodName := ⟨"java/lang/StringLatin1", "charAt", "([BI)C"⟩
abbrev cJ1_charAt_3b067 : ByteArray := prog_22_method_2_code
def yJ3_checkIndex_8e157 : MethodName := ⟨"jdk/internal/util/Preconditions", "checkIndex", "(IILjava/util/function/BiFunction;)I"⟩
abbrev cJ3_checkIndex_8e157 : ByteArray := prog_28_method_11_code
theorem co_J0_length_8abf5 : Cond.code yJ0_length_8abf5 cJ0_length_8abf5 1 (some .int) ∈ TT := tt_r 339 (by decide +kernel) rfl
theorem im_J0_length_8abf5 : Cond.instanceMethod yJ0_length_8abf5 ∈ TT := tt_r 337 (by decide +kernel) rfl
theorem se_J0_length_8abf5 : Cond.selects "java/lang/String" yJ0_length_8abf5 yJ0_length_8abf5 ∈ TT := tt_r 338 (by decide +kernel) rfl
theorem co_J0_charAt_5068e : Cond.code yJ0_charAt_5068e cJ0_charAt_5068e 2 (some .char) ∈ TT := tt_r 349 (by decide +kernel) rfl
theorem im_J0_charAt_5068e : Cond.instanceMethod yJ0_charAt_5068e ∈ TT := tt_r 347 (by decide +kernel) rfl
theorem se_J0_charAt_5068e : Cond.selects "java/lang/String" yJ0_charAt_5068e yJ0_charAt_5068e ∈ TT := tt_r 348 (by decide +kernel) rfl
theorem co_J0_coder_7d493 : Cond.code yJ0_coder_7d493 cJ0_coder_7d493 1 (some .byte) ∈ TT := tt_r 343 (by decide +kernel) rfl
theorem im_J0_coder_7d493 : Cond.instanceMethod yJ0_coder_7d493 ∈ TT := tt_r 341 (by decide +kernel) rfl
theorem se_J0_coder_7d493 : Cond.selects "java/lang/String" yJ0_coder_7d493 yJ0_coder_7d493 ∈ TT := tt_r 342 (by decide +kernel) rfl
theorem co_J0_isLatin1_aae02 : Cond.code yJ0_isLatin1_aae02 cJ0_isLatin1_aae02 1 (some .boolean) ∈ TT := tt_r 353 (by decide +kernel) rfl
theorem im_J0_isLatin1_aae02 : Cond.instanceMethod yJ0_isLatin1_aae02 ∈ TT := tt_r 351 (by decide +kernel) rfl
theorem se_J0_isLatin1_aae02 : Cond.selects "java/lang/String" yJ0_isLatin1_aae02 yJ0_isLatin1_aae02 ∈ TT := tt_r 352 (by decide +kernel) rfl
theorem co_J0_checkIndex_df160 : Cond.code yJ0_checkIndex_df160 cJ0_checkIndex_df160 2 none ∈ TT := tt_r 359 (by decide +kernel) rfl
theorem st_J0_checkIndex_df160 : Cond.static yJ0_checkIndex_df160 ∈ TT := tt_r 358 (by decide +kernel) rfl
theorem co_J1_charAt_3b067 : Cond.code yJ1_charAt_3b067 cJ1_charAt_3b067 2 (some .char) ∈ TT := tt_r 356 (by decide +kernel) rfl
theorem st_J1_charAt_3b067 : Cond.static yJ1_charAt_3b067 ∈ TT := tt_r 355 (by decide +kernel) rfl
theorem co_J3_checkIndex_8e157 : Cond.code yJ3_checkIndex_8e157 cJ3_checkIndex_8e157 3 (some .int) ∈ TT := tt_r 364 (by decide +kernel) rfl
theorem st_J3_checkIndex_8e157 : Cond.static yJ3_checkIndex_8e157 ∈ TT := tt_r 363 (by decide +kernel) rfl
theorem ini_J0 : Cond.initialized "java/lang/String" ∈ TT := tt_r 12 (by decide +kernel) rfl
theorem ini_J1 : Cond.initialized "java/lang/StringLatin1" ∈ TT := tt_r 13 (by decide +kernel) rfl
theorem ini_J3 : Cond.initialized "jdk/internal/util/Preconditions" ∈ TT := tt_r 14 (by decide +kernel) rfl
theorem ml_J0_335 : Cond.methodLink "java/lang/String" 335 yJ0_coder_7d493 ∈ TT := tt_r 340 (by decide +kernel) rfl
theorem ml_J0_492 : Cond.methodLink "java/lang/String" 492 yJ0_isLatin1_aae02 ∈ TT := tt_r 350 (by decide +kernel) rfl
theorem ml_J0_495 : Cond.methodLink "java/lang/String" 495 yJ1_charAt_3b067 ∈ TT := tt_r 354 (by decide +kernel) rfl
theorem ml_J1_9 : Cond.methodLink "java/lang/StringLatin1" 9 yJ0_checkIndex_df160 ∈ TT := tt_r 357 (by decide +kernel) rfl
theorem ml_J0_1059 : Cond.methodLink "java/lang/String" 1059 yJ3_checkIndex_8e157 ∈ TT := tt_r 362 (by decide +kernel) rfl
theorem fl_J0_9 : Cond.fieldLink "java/lang/String" 9 "java/lang/String" "value" "[B" ∈ TT := tt_r 1916 (by decide +kernel) rfl
theorem fl_J0_38 : Cond.fieldLink "java/lang/String" 38 "java/lang/String" "COMPACT_STRINGS" "Z" ∈ TT := tt_r 344 (by decide +kernel) rfl
theorem fl_J0_15 : Cond.fieldLink "java/lang/String" 15 "java/lang/String" "coder" "B" ∈ TT := tt_r 1917 (by decide +kernel) rfl
theorem fl_J0_1053 : Cond.fieldLink "java/lang/String" 1053 "jdk/internal/util/Preconditions" "SIOOBE_FORMATTER" "Ljava/util/function/BiFunction;" ∈ TT := tt_r 360 (by decide +kernel) rfl
theorem my_J0_length_8abf5 : aw_Y yJ0_length_8abf5 cJ0_length_8abf5 1 (some .int) 0 := ⟨co_J0_length_8abf5, ini_J0, ⟨by decide, by decide, by decide +kernel⟩, by decide⟩
theorem my_J0_charAt_5068e : aw_Y yJ0_charAt_5068e cJ0_charAt_5068e 2 (some .char) 1 := ⟨co_J0_charAt_5068e, ini_J0, ⟨by decide, by decide, by decide +kernel⟩, by decide⟩
theorem my_J0_coder_7d493 : aw_Y yJ0_coder_7d493 cJ0_coder_7d493 1 (some .byte) 0 := ⟨co_J0_coder_7d493, ini_J0, ⟨by decide, by decide, by decide +kernel⟩, by decide⟩
theorem my_J0_isLatin1_aae02 : aw_Y yJ0_isLatin1_aae02 cJ0_isLatin1_aae02 1 (some .boolean) 0 := ⟨co_J0_isLatin1_aae02, ini_J0, ⟨by decide, by decide, by decide +kernel⟩, by decide⟩
theorem my_J0_checkIndex_df160 : aw_Y yJ0_checkIndex_df160 cJ0_checkIndex_df160 2 none 2 := ⟨co_J0_checkIndex_df160, ini_J0, ⟨by decide, by decide, by decide +kernel⟩, by decide⟩
theorem my_J1_charAt_3b067 : aw_Y yJ1_charAt_3b067 cJ1_charAt_3b067 2 (some .char) 2 := ⟨co_J1_charAt_3b067, ini_J1, ⟨by decide, by decide, by decide +kernel⟩, by decide⟩
theorem my_J3_checkIndex_8e157 : aw_Y yJ3_checkIndex_8e157 cJ3_checkIndex_8e157 3 (some .int) 3 := ⟨co_J3_checkIndex_8e157, ini_J3, ⟨by decide, by decide, by decide +kernel⟩, by decide⟩
theorem dJ0_length_8abf5_0 : decode cJ0_length_8abf5 0 = .ok (.aload_n 0, 1) := by decide +kernel
theorem dJ0_length_8abf5_1 : decode cJ0_length_8abf5 1 = .ok (.getfield 9, 3) := by decide +kernel
theorem dJ0_length_8abf5_4 : decode cJ0_length_8abf5 4 = .ok (.arraylength, 1) := by decide +kernel
theorem dJ0_length_8abf5_5 : decode cJ0_length_8abf5 5 = .ok (.aload_n 0, 1) := by decide +kernel
theorem dJ0_length_8abf5_6 : decode cJ0_length_8abf5 6 = .ok (.invokevirtual 335, 3) := by decide +kernel
theorem dJ0_length_8abf5_9 : decode cJ0_length_8abf5 9 = .ok (.ishr, 1) := by decide +kernel
theorem dJ0_length_8abf5_10 : decode cJ0_length_8abf5 10 = .ok (.ireturn, 1) := by decide +kernel
theorem dJ0_charAt_5068e_0 : decode cJ0_charAt_5068e 0 = .ok (.aload_n 0, 1) := by decide +kernel
theorem dJ0_charAt_5068e_1 : decode cJ0_charAt_5068e 1 = .ok (.invokevirtual 492, 3) := by decide +kernel
theorem dJ0_charAt_5068e_4 : decode cJ0_charAt_5068e 4 = .ok (.ifCond .eq 12, 3) := by decide +kernel
theorem dJ0_charAt_5068e_7 : decode cJ0_charAt_5068e 7 = .ok (.aload_n 0, 1) := by decide +kernel
theorem dJ0_charAt_5068e_8 : decode cJ0_charAt_5068e 8 = .ok (.getfield 9, 3) := by decide +kernel
theorem dJ0_charAt_5068e_11 : decode cJ0_charAt_5068e 11 = .ok (.iload_n 1, 1) := by decide +kernel
theorem dJ0_charAt_5068e_12 : decode cJ0_charAt_5068e 12 = .ok (.invokestatic 495, 3) := by decide +kernel
theorem dJ0_charAt_5068e_15 : decode cJ0_charAt_5068e 15 = .ok (.ireturn, 1) := by decide +kernel
theorem dJ0_charAt_5068e_16 : decode cJ0_charAt_5068e 16 = .ok (.aload_n 0, 1) := by decide +kernel
theorem dJ0_charAt_5068e_17 : decode cJ0_charAt_5068e 17 = .ok (.getfield 9, 3) := by decide +kernel
theorem dJ0_charAt_5068e_20 : decode cJ0_charAt_5068e 20 = .ok (.iload_n 1, 1) := by decide +kernel
theorem dJ0_charAt_5068e_21 : decode cJ0_charAt_5068e 21 = .ok (.invokestatic 498, 3) := by decide +kernel
theorem dJ0_charAt_5068e_24 : decode cJ0_charAt_5068e 24 = .ok (.ireturn, 1) := by decide +kernel
theorem dJ0_coder_7d493_0 : decode cJ0_coder_7d493 0 = .ok (.getstatic 38, 3) := by decide +kernel
theorem dJ0_coder_7d493_3 : decode cJ0_coder_7d493 3 = .ok (.ifCond .eq 10, 3) := by decide +kernel
theorem dJ0_coder_7d493_6 : decode cJ0_coder_7d493 6 = .ok (.aload_n 0, 1) := by decide +kernel
theorem dJ0_coder_7d493_7 : decode cJ0_coder_7d493 7 = .ok (.getfield 15, 3) := by decide +kernel
theorem dJ0_coder_7d493_10 : decode cJ0_coder_7d493 10 = .ok (.goto 4, 3) := by decide +kernel
theorem dJ0_coder_7d493_13 : decode cJ0_coder_7d493 13 = .ok (.iconst 1, 1) := by decide +kernel
theorem dJ0_coder_7d493_14 : decode cJ0_coder_7d493 14 = .ok (.ireturn, 1) := by decide +kernel
theorem dJ0_isLatin1_aae02_0 : decode cJ0_isLatin1_aae02 0 = .ok (.getstatic 38, 3) := by decide +kernel
theorem dJ0_isLatin1_aae02_3 : decode cJ0_isLatin1_aae02 3 = .ok (.ifCond .eq 14, 3) := by decide +kernel
theorem dJ0_isLatin1_aae02_6 : decode cJ0_isLatin1_aae02 6 = .ok (.aload_n 0, 1) := by decide +kernel
theorem dJ0_isLatin1_aae02_7 : decode cJ0_isLatin1_aae02 7 = .ok (.getfield 15, 3) := by decide +kernel
theorem dJ0_isLatin1_aae02_10 : decode cJ0_isLatin1_aae02 10 = .ok (.ifCond .ne 7, 3) := by decide +kernel
theorem dJ0_isLatin1_aae02_13 : decode cJ0_isLatin1_aae02 13 = .ok (.iconst 1, 1) := by decide +kernel
theorem dJ0_isLatin1_aae02_14 : decode cJ0_isLatin1_aae02 14 = .ok (.goto 4, 3) := by decide +kernel
theorem dJ0_isLatin1_aae02_17 : decode cJ0_isLatin1_aae02 17 = .ok (.iconst 0, 1) := by decide +kernel
theorem dJ0_isLatin1_aae02_18 : decode cJ0_isLatin1_aae02 18 = .ok (.ireturn, 1) := by decide +kernel
theorem dJ0_checkIndex_df160_0 : decode cJ0_checkIndex_df160 0 = .ok (.iload_n 0, 1) := by decide +kernel
theorem dJ0_checkIndex_df160_1 : decode cJ0_checkIndex_df160 1 = .ok (.iload_n 1, 1) := by decide +kernel
theorem dJ0_checkIndex_df160_2 : decode cJ0_checkIndex_df160 2 = .ok (.getstatic 1053, 3) := by decide +kernel
theorem dJ0_checkIndex_df160_5 : decode cJ0_checkIndex_df160 5 = .ok (.invokestatic 1059, 3) := by decide +kernel
theorem dJ0_checkIndex_df160_8 : decode cJ0_checkIndex_df160 8 = .ok (.pop, 1) := by decide +kernel
theorem dJ0_checkIndex_df160_9 : decode cJ0_checkIndex_df160 9 = .ok (.return_, 1) := by decide +kernel
theorem dJ1_charAt_3b067_0 : decode cJ1_charAt_3b067 0 = .ok (.iload_n 1, 1) := by decide +kernel
theorem dJ1_charAt_3b067_1 : decode cJ1_charAt_3b067 1 = .ok (.aload_n 0, 1) := by decide +kernel
theorem dJ1_charAt_3b067_2 : decode cJ1_charAt_3b067 2 = .ok (.arraylength, 1) := by decide +kernel
theorem dJ1_charAt_3b067_3 : decode cJ1_charAt_3b067 3 = .ok (.invokestatic 9, 3) := by decide +kernel
theorem dJ1_charAt_3b067_6 : decode cJ1_charAt_3b067 6 = .ok (.aload_n 0, 1) := by decide +kernel
theorem dJ1_charAt_3b067_7 : decode cJ1_charAt_3b067 7 = .ok (.iload_n 1, 1) := by decide +kernel
theorem dJ1_charAt_3b067_8 : decode cJ1_charAt_3b067 8 = .ok (.baload, 1) := by decide +kernel
theorem dJ1_charAt_3b067_9 : decode cJ1_charAt_3b067 9 = .ok (.sipush 255, 3) := by decide +kernel
theorem dJ1_charAt_3b067_12 : decode cJ1_charAt_3b067 12 = .ok (.iand, 1) := by decide +kernel
theorem dJ1_charAt_3b067_13 : decode cJ1_charAt_3b067 13 = .ok (.i2c, 1) := by decide +kernel
theorem dJ1_charAt_3b067_14 : decode cJ1_charAt_3b067 14 = .ok (.ireturn, 1) := by decide +kernel
theorem dJ3_checkIndex_8e157_0 : decode cJ3_checkIndex_8e157 0 = .ok (.iload_n 0, 1) := by decide +kernel
theorem dJ3_checkIndex_8e157_1 : decode cJ3_checkIndex_8e157 1 = .ok (.ifCond .lt 8, 3) := by decide +kernel
theorem dJ3_checkIndex_8e157_4 : decode cJ3_checkIndex_8e157 4 = .ok (.iload_n 0, 1) := by decide +kernel
theorem dJ3_checkIndex_8e157_5 : decode cJ3_checkIndex_8e157 5 = .ok (.iload_n 1, 1) := by decide +kernel
theorem dJ3_checkIndex_8e157_6 : decode cJ3_checkIndex_8e157 6 = .ok (.if_icmp .lt 10, 3) := by decide +kernel
theorem dJ3_checkIndex_8e157_9 : decode cJ3_checkIndex_8e157 9 = .ok (.aload_n 2, 1) := by decide +kernel
theorem dJ3_checkIndex_8e157_10 : decode cJ3_checkIndex_8e157 10 = .ok (.iload_n 0, 1) := by decide +kernel
theorem dJ3_checkIndex_8e157_11 : decode cJ3_checkIndex_8e157 11 = .ok (.iload_n 1, 1) := by decide +kernel
theorem dJ3_checkIndex_8e157_12 : decode cJ3_checkIndex_8e157 12 = .ok (.invokestatic 95, 3) := by decide +kernel
theorem dJ3_checkIndex_8e157_15 : decode cJ3_checkIndex_8e157 15 = .ok (.athrow, 1) := by decide +kernel
theorem dJ3_checkIndex_8e157_16 : decode cJ3_checkIndex_8e157 16 = .ok (.iload_n 0, 1) := by decide +kernel
theorem dJ3_checkIndex_8e157_17 : decode cJ3_checkIndex_8e157 17 = .ok (.ireturn, 1) := by decide +kernel
/-- a word that stays true: the heap's cells outside A stay, the machine's tables only warm -/
def aw_Ok (E : (Nat → Prop) → State → Heap → Prop) : Prop := (∀ (A B : Nat → Prop) (s U : State) (H H1 : Heap), s.WarmedH U.vm → (∀ a : Nat, a < H.size → ¬ A a → H1[a]? = H[a]?) → (∀ q, B q → A q) → E A s H → E B U H1) ∧ ∀ (A : Nat → Prop) (s U : State) (H : Heap), s.vm = U.vm → E A s H → E A U H
def aw_X (g : aw_G) (E : (Nat → Prop) → State → Heap → Prop) : Prop := match g with
  | (_, _, _, _, s, _, _, _, _, _, _, _, A, _) => E A s s.heap
def aw_PX (E : (Nat → Prop) → State → Heap → Prop) (cy : Nat → ClassId) (D : va_G) (sz : Nat) (S : aw_S) : State → Prop := fun U => aw_Pc cy D sz S U ∧ E (va_A (aw_W cy S) sz) U U.heap
/-- a contract with a word more in its premise -/
def aw_MX (E : (Nat → Prop) → State → Heap → Prop) (y : MethodName) (cc : ByteArray) (mL : Nat) (ret : Option FieldType) (d mc ms : Nat) (av : List Value) (S : aw_S) (post : Option Value → aw_S → Prop) : Prop := ∀ (l : Launch) (D : va_G) (cy : Nat → ClassId) (sz : Nat), Met l y (Cond.code y cc mL ret :: TT) (aw_rm d mc ms) (va_Pc av (aw_PX E cy D sz S)) (aw_Qc post cy D (va_A (aw_W cy S) sz)) mc ms (va_A (aw_W cy S) sz)
theorem aw_enterX {E : (Nat → Prop) → State → Heap → Prop} {y : MethodName} {cc : ByteArray} {mL : Nat} {ret : Option FieldType} {d mc ms : Nat} {av : List Value} {S : aw_S} {post : Option Value → aw_S → Prop} (hpn : plainName y.cls = true) (hlen : (lg_sl av).length ≤ mL) (body : ∀ g : aw_G, aw_K g y cc mL ret d mc ms → aw_X g E → aw_end g mc ms post → aw g mL S 0 0 (lv_args 0 av) [] 0) : aw_MX E y cc mL ret d mc ms av S post := by
  intro l D cy sz
  refine Met.ofW (cc := cc) (maxL := mL) (ret := ret) hpn rfl ?_
  intro p e s m args below meth c s₁ B hml hv
  obtain ⟨rfl, ⟨hsz, hP, hK, hD0, hE⟩, hZ⟩ := hv
  subst hsz
  have hts0 := atoms_spec (ws := Cond.code y cc mL ret :: TT) B.pre
  have hown : s.vm.findClass y.cls = some m.cls := findClass_of_methodNamed B.named
  have hD := hD0.self (sz := s.heap.size)
  have hA : ∀ q : Nat, s.heap.size ≤ q → va_A (aw_W cy S) s.heap.size q := fun q h => Or.inr h
  have hb := body (p, l, e, aw_rm d mc ms, s, m, av.toArray, below, meth, c, D, cy, va_A (aw_W cy S) s.heap.size, MQ below (aw_Qc post cy D (va_A (aw_W cy S) s.heap.size)) av.toArray s mc ms (va_A (aw_W cy S) s.heap.size))
    ⟨B.exec, B.bytes, hml, B.returns, hown, (name_of_methodNamed B.named B.method).1, fun w hw => hts0 w (List.mem_cons_of_mem _ hw), B.notSynchronized, hK, hA, hE, Nat.le_refl _, Nat.le_refl _, Nat.le_refl _, Nat.le_refl _⟩ hZ rfl
  have hl := lv_entry av (n := mL) hlen
  rw [lg_entry_eq]
  exact hb s.heap [] _ hP hD va_S.rf hl
theorem aw_blindX {E : (Nat → Prop) → State → Heap → Prop} (ok : aw_Ok E) {cy : Nat → ClassId} {D : va_G} {sz : Nat} {S : aw_S} {av : List Value} : FrameBlind (va_Pc av (aw_PX E cy D sz S)) := fun a U g mk h => by
  obtain ⟨q0, ⟨q1, qP, qK, qD, qE⟩, qZ⟩ := h
  exact ⟨q0, ⟨q1, qP, va_K.moved (u := U) (U := U.calling g mk a) (Vm.Alike.refl U.vm) qK, qD, aw_env_same rfl qE⟩, ok.2 _ U (U.calling g mk a) U.heap rfl qZ⟩
theorem aw_preX {E : (Nat → Prop) → State → Heap → Prop} (ok : aw_Ok E) {p : Program} {s : State} {cy : Nat → ClassId} {D : va_G} {S : aw_S} {A : Nat → Prop} {H : Heap} {locs : List Loc} {av : List Value} (hK : va_K D vwCl (aw_tys cy) s) (hE : aw_env A s s.heap) (hZ : E A s s.heap) (hA : ∀ q : Nat, s.heap.size ≤ q → A q) (hP : va_P D vwCl (aw_W cy S) H) (hD : va_D A (aw_W cy S)) (hS : va_S A s.heap H locs) : ∀ U : State, U.heap = H → s.WarmedH U.vm → va_Pc av (aw_PX E cy D H.size S) av.toArray U := by
  obtain ⟨h1, h2⟩ := aw_pre (p := p) (av := av) hK hE hA hP hD hS
  intro U hU hW
  obtain ⟨a1, a2⟩ := h2 U hU hW
  exact ⟨a1, a2, ok.1 _ _ _ _ _ _ hW (by rw [hU]; exact hS.2.1) h1 hZ⟩
theorem x_invV {g : aw_G} {y : MethodName} {cc : ByteArray} {mL : Nat} {ret : Option FieldType} {d mc ms : Nat} (K : aw_K g y cc mL ret d mc ms) {E : (Nat → Prop) → State → Heap → Prop} (Z : aw_X g E) (ok : aw_Ok E) {S : aw_S} {k n : Nat} {lv : List (Nat × Value)} {st stk : List Value} {pc : Nat} {y2 : MethodName} {cc2 : ByteArray} {mL2 : Nat} {ret2 : Option FieldType} {d2 mc2 ms2 idx na b : Nat} {av : List Value} {post : Option Value → aw_S → Prop}
    (M : aw_MX E y2 cc2 mL2 ret2 d2 mc2 ms2 (.ref b :: av) S post) (Y : aw_Y y2 cc2 mL2 ret2 na) (w1 : Cond.methodLink y.cls idx y2 ∈ TT) (w2 : Cond.instanceMethod y2 ∈ TT) (w3 : Cond.selects y2.cls y2 y2 ∈ TT) (hO : ∀ A U H, E A U H → va_O y2.cls b A U H) (ha : av.length = na) (hd : d2 + 1 ≤ d) (hk : k + mc2 ≤ mc) (hn : n + ms2 ≤ ms) (hs : stk = av.reverse ++ .ref b :: st) (h8 : (st.map fun v => v.category).sum ≤ 8) (dg : decode cc pc = .ok (.invokevirtual idx, 3))
    (q : ∀ (r : Option Value) (S2 : aw_S), post r S2 → aw g mL S2 (k + mc2) (n + ms2) lv (r.toList ++ st) (pc + 3)) : aw g mL S k n lv stk pc := by
  subst hs
  refine aw_back K (mc2 := mc2) (ms2 := ms2) (st := st) (post := post) (a := (.ref b :: av : List Value).toArray) ?_ q
  obtain ⟨p, l, e, R, s, m, args, below, meth, c, D, cy, A, Q⟩ := g
  obtain ⟨hx, hb, hml, hrr, hown, hnm, hts, hlk, hK, hA, hE, hfr, hlo, hce, hsl⟩ := K
  intro H locs ls hP hD hS hl
  have hp := aw_preX ok (p := p) (av := .ref b :: av) hK hE Z hA hP hD hS
  exact va_runV (As := av) (rest := st) (nL := mL) (Ts := TT) ⟨hx, hb, hml, hown, hts⟩ (M l D cy H.size) (cwV na hts (fun w hw => by
      have h1 : w ∈ TT := by
        rcases List.mem_append.mp hw with h | h
        · simp only [List.mem_cons, List.mem_nil_iff, or_false] at h
          rcases h with rfl | rfl | rfl | rfl
          · exact w1
          · exact w2
          · exact w3
          · exact Y.2.1
        · exact (aw_goodIn Y w h).1
      exact ⟨h1, tt_good w h1⟩) rfl rfl rfl ⟨rfl, Y.2.2.1⟩ ⟨Nat.le_trans hd hfr, by show 8 + (mL2 + 11) + 48 * d2 ≤ R.locals; have := Y.2.2.2; omega⟩) ⟨aw_blindX ok, va_Orecv (hO _ _ _ Z) hS, hp⟩ rfl ha hl.1 rfl (lv_room h8) dg ⟨Nat.le_trans hk hce, Nat.le_trans hn hsl⟩
theorem x_invS {g : aw_G} {y : MethodName} {cc : ByteArray} {mL : Nat} {ret : Option FieldType} {d mc ms : Nat} (K : aw_K g y cc mL ret d mc ms) {E : (Nat → Prop) → State → Heap → Prop} (Z : aw_X g E) (ok : aw_Ok E) {S : aw_S} {k n : Nat} {lv : List (Nat × Value)} {st stk : List Value} {pc : Nat} {y2 : MethodName} {cc2 : ByteArray} {mL2 : Nat} {ret2 : Option FieldType} {d2 mc2 ms2 idx na : Nat} {av : List Value} {post : Option Value → aw_S → Prop}
    (M : aw_MX E y2 cc2 mL2 ret2 d2 mc2 ms2 av S post) (Y : aw_Y y2 cc2 mL2 ret2 na) (w1 : Cond.methodLink y.cls idx y2 ∈ TT) (w2 : Cond.static y2 ∈ TT) (ha : av.length = na) (hd : d2 + 1 ≤ d) (hk : k + mc2 ≤ mc) (hn : n + ms2 ≤ ms) (hs : stk = av.reverse ++ st) (h8 : (st.map fun v => v.category).sum ≤ 8) (dg : decode cc pc = .ok (.invokestatic idx, 3))
    (q : ∀ (r : Option Value) (S2 : aw_S), post r S2 → aw g mL S2 (k + mc2) (n + ms2) lv (r.toList ++ st) (pc + 3)) : aw g mL S k n lv stk pc := by
  subst hs
  refine aw_back K (mc2 := mc2) (ms2 := ms2) (st := st) (post := post) (a := av.toArray) ?_ q
  obtain ⟨p, l, e, R, s, m, args, below, meth, c, D, cy, A, Q⟩ := g
  obtain ⟨hx, hb, hml, hrr, hown, hnm, hts, hlk, hK, hA, hE, hfr, hlo, hce, hsl⟩ := K
  intro H locs ls hP hD hS hl
  have hp := aw_preX ok (p := p) (av := av) hK hE Z hA hP hD hS
  have hcb := callB_of (R := R) (mc := mc2) (ms := ms2) (rm := aw_rm d2 mc2 ms2) na hts (aw_goodIn Y) rfl rfl rfl (hts _ Y.2.1) (hts _ w1) Y.2.2.1 ⟨Nat.le_trans hd hfr, by show 8 + (mL2 + 11) + 48 * d2 ≤ R.locals; have := Y.2.2.2; omega⟩
  exact va_runS (As := av) (rest := st) (nL := mL) (Ts := TT) ⟨hx, hb, hml, hown, hts⟩ (M l D cy H.size) ⟨hcb, hts _ w2⟩ ⟨aw_blindX ok, hp⟩ rfl ha hl.1 rfl (lv_room h8) dg ⟨Nat.le_trans hk hce, Nat.le_trans hn hsl⟩
theorem x_getf {g : aw_G} {y : MethodName} {cc : ByteArray} {mL : Nat} {ret : Option FieldType} {d mc ms : Nat} (K : aw_K g y cc mL ret d mc ms) {E : (Nat → Prop) → State → Heap → Prop} (Z : aw_X g E) {S : aw_S} {k n : Nat} {lv : List (Nat × Value)} {st : List Value} {pc : Nat} {q idx : Nat} {v : Value} {C nm ds : String} (hZ : ∀ A U H, E A U H → va_OF C nm ds v q A U H) (w : Cond.fieldLink y.cls idx C nm ds ∈ TT) (dg : decode cc pc = .ok (.getfield idx, 3)) (qq : aw g mL S k n lv (v :: st) (pc + 3)) : aw g mL S k n lv (.ref q :: st) pc := by
  obtain ⟨p, l, e, R, s, m, args, below, meth, c, D, cy, A, Q⟩ := g
  obtain ⟨hx, hb, hml, hrr, hown, hnm, hts, hlk, hK, hA, hE, hfr, hlo, hce, hsl⟩ := K
  exact fun H locs ls hP hD hS hl => vk_getf hx hb (hZ _ _ _ Z) hS hown (hts _ w) (fun _ h => h) dg (qq H locs ls hP hD hS hl)
theorem x_gets {g : aw_G} {y : MethodName} {cc : ByteArray} {mL : Nat} {ret : Option FieldType} {d mc ms : Nat} (K : aw_K g y cc mL ret d mc ms) {E : (Nat → Prop) → State → Heap → Prop} (Z : aw_X g E) {S : aw_S} {k n : Nat} {lv : List (Nat × Value)} {st : List Value} {pc : Nat} {idx : Nat} {v : Value} {C nm ds : String} (hZ : ∀ A U H, E A U H → va_Z C nm ds v A U H) (w : Cond.fieldLink y.cls idx C nm ds ∈ TT) (dg : decode cc pc = .ok (.getstatic idx, 3)) (qq : aw g mL S k n lv (v :: st) (pc + 3)) : aw g mL S k n lv st pc := by
  obtain ⟨p, l, e, R, s, m, args, below, meth, c, D, cy, A, Q⟩ := g
  obtain ⟨hx, hb, hml, hrr, hown, hnm, hts, hlk, hK, hA, hE, hfr, hlo, hce, hsl⟩ := K
  exact fun H locs ls hP hD hS hl => va_gets hx hb (hZ _ _ _ Z) hS hown (hts _ w) (fun _ h => h) dg (qq H locs ls hP hD hS hl)
theorem x_getsN {g : aw_G} {y : MethodName} {cc : ByteArray} {mL : Nat} {ret : Option FieldType} {d mc ms : Nat} (K : aw_K g y cc mL ret d mc ms) {E : (Nat → Prop) → State → Heap → Prop} (Z : aw_X g E) {S : aw_S} {k n : Nat} {lv : List (Nat × Value)} {st : List Value} {pc : Nat} {idx : Nat} {v : Value} {C nm ds ho : String} (hZ : ∀ A U H, E A U H → va_Z C nm ds v A U H) (w : ∀ A U H, aw_env A U H → va_Nw (.fieldLinkNest y.cls idx C nm ds ho) U) (dg : decode cc pc = .ok (.getstatic idx, 3)) (qq : aw g mL S k n lv (v :: st) (pc + 3)) : aw g mL S k n lv st pc := by
  obtain ⟨p, l, e, R, s, m, args, below, meth, c, D, cy, A, Q⟩ := g
  obtain ⟨hx, hb, hml, hrr, hown, hnm, hts, hlk, hK, hA, hE, hfr, hlo, hce, hsl⟩ := K
  exact fun H locs ls hP hD hS hl => va_getsN hx hb (hZ _ _ _ Z) hS hown (va_Nw.use rfl (w _ _ _ hE)) (fun _ h => h) dg (qq H locs ls hP hD hS hl)
theorem x_tlen {g : aw_G} {y : MethodName} {cc : ByteArray} {mL : Nat} {ret : Option FieldType} {d mc ms : Nat} (K : aw_K g y cc mL ret d mc ms) {E : (Nat → Prop) → State → Heap → Prop} (Z : aw_X g E) {S : aw_S} {k n : Nat} {lv : List (Nat × Value)} {st : List Value} {pc : Nat} {t N : Nat} {ty : FieldType} {f : Nat → Value} {v : Int32} (hZ : ∀ A U H, E A U H → va_T ty t N f A U H) (hv : Int32.ofNat N = v) (dg : decode cc pc = .ok (.arraylength, 1)) (qq : aw g mL S k n lv (.int v :: st) (pc + 1)) : aw g mL S k n lv (.ref t :: st) pc := by
  obtain ⟨p, l, e, R, s, m, args, below, meth, c, D, cy, A, Q⟩ := g
  obtain ⟨hx, hb, hml, hrr, hown, hnm, hts, hlk, hK, hA, hE, hfr, hlo, hce, hsl⟩ := K
  exact fun H locs ls hP hD hS hl => va_tlen hx hb (hZ _ _ _ Z) hS hv dg (qq H locs ls hP hD hS hl)
theorem x_tb {g : aw_G} {y : MethodName} {cc : ByteArray} {mL : Nat} {ret : Option FieldType} {d mc ms : Nat} (K : aw_K g y cc mL ret d mc ms) {E : (Nat → Prop) → State → Heap → Prop} (Z : aw_X g E) {S : aw_S} {k n : Nat} {lv : List (Nat × Value)} {st : List Value} {pc : Nat} {t N : Nat} {f : Nat → Value} {i : Int32} {v : Value} (hZ : ∀ A U H, E A U H → va_T .byte t N f A U H) (hin : vp_in i N) (hv : f i.toNatClampNeg = v) (dg : decode cc pc = .ok (.baload, 1)) (qq : aw g mL S k n lv (v :: st) (pc + 1)) : aw g mL S k n lv (.int i :: .ref t :: st) pc := by
  obtain ⟨p, l, e, R, s, m, args, below, meth, c, D, cy, A, Q⟩ := g
  obtain ⟨hx, hb, hml, hrr, hown, hnm, hts, hlk, hK, hA, hE, hfr, hlo, hce, hsl⟩ := K
  exact fun H locs ls hP hD hS hl => va_tb hx hb (hZ _ _ _ Z) hS hin hv dg (qq H locs ls hP hD hS hl)
theorem x_ti {g : aw_G} {y : MethodName} {cc : ByteArray} {mL : Nat} {ret : Option FieldType} {d mc ms : Nat} (K : aw_K g y cc mL ret d mc ms) {E : (Nat → Prop) → State → Heap → Prop} (Z : aw_X g E) {S : aw_S} {k n : Nat} {lv : List (Nat × Value)} {st : List Value} {pc : Nat} {t N : Nat} {f : Nat → Value} {i : Int32} {v : Value} (hZ : ∀ A U H, E A U H → va_T .int t N f A U H) (hin : vp_in i N) (hv : f i.toNatClampNeg = v) (dg : decode cc pc = .ok (.iaload, 1)) (qq : aw g mL S k n lv (v :: st) (pc + 1)) : aw g mL S k n lv (.int i :: .ref t :: st) pc := by
  obtain ⟨p, l, e, R, s, m, args, below, meth, c, D, cy, A, Q⟩ := g
  obtain ⟨hx, hb, hml, hrr, hown, hnm, hts, hlk, hK, hA, hE, hfr, hlo, hce, hsl⟩ := K
  exact fun H locs ls hP hD hS hl => va_ti hx hb (hZ _ _ _ Z) hS hin hv dg (qq H locs ls hP hD hS hl)
theorem x_ldcS {g : aw_G} {y : MethodName} {cc : ByteArray} {mL : Nat} {ret : Option FieldType} {d mc ms : Nat} (K : aw_K g y cc mL ret d mc ms) {E : (Nat → Prop) → State → Heap → Prop} (Z : aw_X g E) {S : aw_S} {k n : Nat} {lv : List (Nat × Value)} {st : List Value} {pc : Nat} {idx q : Nat} {tx : String} (hZ : ∀ A U H, E A U H → vk_R y.cls idx tx q U) (dg : decode cc pc = .ok (.ldc idx, 2)) (qq : aw g mL S k n lv (.ref q :: st) (pc + 2)) : aw g mL S k n lv st pc := by
  obtain ⟨p, l, e, R, s, m, args, below, meth, c, D, cy, A, Q⟩ := g
  obtain ⟨hx, hb, hml, hrr, hown, hnm, hts, hlk, hK, hA, hE, hfr, hlo, hce, hsl⟩ := K
  exact fun H locs ls hP hD hS hl => va_ldcS hx hb hown (hZ _ _ _ Z) dg (qq H locs ls hP hD hS hl)
theorem aw_K.env {g : aw_G} {y : MethodName} {cc : ByteArray} {mL : Nat} {ret : Option FieldType} {d mc ms : Nat} (K : aw_K g y cc mL ret d mc ms) : aw_X g aw_env := by
  obtain ⟨p, l, e, R, s, m, args, below, meth, c, D, cy, A, Q⟩ := g
  obtain ⟨hx, hb, hml, hrr, hown, hnm, hts, hlk, hK, hA, hE, hfr, hlo, hce, hsl⟩ := K
  exact hE
/-- String i of the constants: at a, its bytes at t -/
def strZ (a t i : Nat) (A : Nat → Prop) (U : State) (H : Heap) : Prop := vk_R (st_own i) (st_idx i) (st_tx i) a U ∧ va_O "java/lang/String" a A U H ∧ va_OF "java/lang/String" "coder" "B" (.int 0) a A U H ∧ va_OF "java/lang/String" "value" "[B" (.ref t) a A U H ∧ va_T .byte t (st_len.getD i 0) (fun j => .int ((st_byt.getD i []).getD j 0)) A U H
theorem strZ_ok (a t i : Nat) : aw_Ok (strZ a t i) := ⟨fun A B s U H H1 hW hq hAB h => by
  obtain ⟨h1, h2, h3, h4, h5⟩ := h
  have ha := hW.alike
  exact ⟨vk_R.warm hW h1, ((va_O.moved ha h2).kept hq).narrow hAB, ((va_OF.moved ha h3).kept hq).narrow hAB, ((va_OF.moved ha h4).kept hq).narrow hAB, ((va_T.moved ha h5).kept hq).narrow hAB⟩, fun A s U H hv h => by
  obtain ⟨h1, h2, h3, h4, h5⟩ := h
  have ha : s.vm.Alike U.vm := by rw [hv]; exact Vm.Alike.refl _
  exact ⟨vk_R.same hv.symm h1, va_O.moved ha h2, va_OF.moved ha h3, va_OF.moved ha h4, va_T.moved ha h5⟩⟩
theorem str_env {A : Nat → Prop} {U : State} {H : Heap} (h : aw_env A U H) : ∃ ad av : Nat → Nat, ∀ i, i < 8 → strZ (ad i) (av i) i A U H := by
  obtain ⟨adK, adV, h1, h2⟩ := h.2.2.1
  exact ⟨adK, adV, fun i hi => ⟨h1 i hi, h2.1 i hi⟩⟩
theorem x_str {g : aw_G} {y : MethodName} {cc : ByteArray} {mL : Nat} {ret : Option FieldType} {d mc ms : Nat} (K : aw_K g y cc mL ret d mc ms) : ∃ ad av : Nat → Nat, ∀ i, i < 8 → aw_X g (strZ (ad i) (av i) i) := by
  obtain ⟨p, l, e, R, s, m, args, below, meth, c, D, cy, A, Q⟩ := g
  obtain ⟨hx, hb, hml, hrr, hown, hnm, hts, hlk, hK, hA, hE, hfr, hlo, hce, hsl⟩ := K
  exact str_env hE
theorem x_fmt {g : aw_G} {y : MethodName} {cc : ByteArray} {mL : Nat} {ret : Option FieldType} {d mc ms : Nat} (K : aw_K g y cc mL ret d mc ms) : ∃ v : Value, (v = .null ∨ ∃ a, v = .ref a) ∧ aw_X g (va_Z "jdk/internal/util/Preconditions" "SIOOBE_FORMATTER" "Ljava/util/function/BiFunction;" v) := by
  obtain ⟨p, l, e, R, s, m, args, below, meth, c, D, cy, A, Q⟩ := g
  obtain ⟨hx, hb, hml, hrr, hown, hnm, hts, hlk, hK, hA, hE, hfr, hlo, hce, hsl⟩ := K
  rcases hE.2.2.2.2 with h | ⟨t, h⟩
  · exact ⟨.null, Or.inl rfl, h⟩
  · exact ⟨.ref t, Or.inr ⟨t, rfl⟩, h⟩
theorem x_stat {g : aw_G} {y : MethodName} {cc : ByteArray} {mL : Nat} {ret : Option FieldType} {d mc ms : Nat} (K : aw_K g y cc mL ret d mc ms) : ∃ t1 t2 : Nat, aw_X g (fun A U H => va_Z "WideMap" "KEYS_OF_WORD" "[I" (.ref t1) A U H ∧ va_T .int t1 6 (fun j => .int (([1, 1, 1, 2, 2, 0] : List Int32).getD j 0)) A U H ∧ va_Z "WideMap" "VALUES_OF_WORD" "[I" (.ref t2) A U H ∧ va_T .int t2 6 (fun j => .int (([1, 0, 1, 0, 1, 0] : List Int32).getD j 0)) A U H) := by
  obtain ⟨p, l, e, R, s, m, args, below, meth, c, D, cy, A, Q⟩ := g
  obtain ⟨hx, hb, hml, hrr, hown, hnm, hts, hlk, hK, hA, hE, hfr, hlo, hce, hsl⟩ := K
  obtain ⟨t1, t2, h⟩ := hE.2.1
  exact ⟨t1, t2, h⟩
set_option maxHeartbeats 4000000 in
set_option maxRecDepth 100000 in
theorem m_J0_coder_7d493 {a t i : Nat} {S : aw_S} : aw_MX (strZ a t i) yJ0_coder_7d493 cJ0_coder_7d493 1 (some .byte) 0 0 0 [.ref a] S (fun r S2 => r = some (.int 0) ∧ S2 = S) := by
  refine aw_enterX (by decide +kernel) (Nat.le_of_ble_eq_true rfl) ?_
  intro g K Z E
  refine x_gets K K.env (fun _ _ _ h => h.2.2.2.1) fl_J0_38 dJ0_coder_7d493_0 ?_
  refine a_if_eq K dJ0_coder_7d493_3 (tgt := 13) (by decide) (fun z => absurd z (by decide)) (fun _ => ?_)
  refine a_aload_n K dJ0_coder_7d493_6 rfl ?_
  refine x_getf K Z (fun _ _ _ h => h.2.2.1) fl_J0_15 dJ0_coder_7d493_7 ?_
  refine a_goto K dJ0_coder_7d493_10 (tgt := 14) (by decide) ?_
  exact a_iret K E rfl (by omega) (by omega) dJ0_coder_7d493_14 ⟨rfl, rfl⟩
set_option maxHeartbeats 4000000 in
set_option maxRecDepth 100000 in
theorem m_J0_isLatin1_aae02 {a t i : Nat} {S : aw_S} : aw_MX (strZ a t i) yJ0_isLatin1_aae02 cJ0_isLatin1_aae02 1 (some .boolean) 0 0 0 [.ref a] S (fun r S2 => r = some (.int 1) ∧ S2 = S) := by
  refine aw_enterX (by decide +kernel) (Nat.le_of_ble_eq_true rfl) ?_
  intro g K Z E
  refine x_gets K K.env (fun _ _ _ h => h.2.2.2.1) fl_J0_38 dJ0_isLatin1_aae02_0 ?_
  refine a_if_eq K dJ0_isLatin1_aae02_3 (tgt := 17) (by decide) (fun z => absurd z (by decide)) (fun _ => ?_)
  refine a_aload_n K dJ0_isLatin1_aae02_6 rfl ?_
  refine x_getf K Z (fun _ _ _ h => h.2.2.1) fl_J0_15 dJ0_isLatin1_aae02_7 ?_
  refine a_if_ne K dJ0_isLatin1_aae02_10 (tgt := 17) (by decide) (fun z => absurd rfl z) (fun _ => ?_)
  refine a_iconst K dJ0_isLatin1_aae02_13 (v := 1) (by decide) ?_
  refine a_goto K dJ0_isLatin1_aae02_14 (tgt := 18) (by decide) ?_
  exact a_iret K E rfl (by omega) (by omega) dJ0_isLatin1_aae02_18 ⟨rfl, rfl⟩
theorem st_sh : ∀ i, i < 8 → Int32.ofNat (st_len.getD i 0) >>> ((0 : Int32) &&& 31) = nI (st_len.getD i 0) := by decide
set_option maxHeartbeats 4000000 in
set_option maxRecDepth 100000 in
theorem m_J0_length_8abf5 {a t i : Nat} {S : aw_S} (hi : i < 8) : aw_MX (strZ a t i) yJ0_length_8abf5 cJ0_length_8abf5 1 (some .int) 1 0 0 [.ref a] S (fun r S2 => r = some (.int (nI (st_len.getD i 0))) ∧ S2 = S) := by
  refine aw_enterX (by decide +kernel) (Nat.le_of_ble_eq_true rfl) ?_
  intro g K Z E
  refine a_aload_n K dJ0_length_8abf5_0 rfl ?_
  refine x_getf K Z (fun _ _ _ h => h.2.2.2.1) fl_J0_9 dJ0_length_8abf5_1 ?_
  refine x_tlen K Z (fun _ _ _ h => h.2.2.2.2) rfl dJ0_length_8abf5_4 ?_
  refine a_aload_n K dJ0_length_8abf5_5 rfl ?_
  refine x_invV K Z (strZ_ok a t i) (m_J0_coder_7d493 (a := a) (t := t) (i := i)) my_J0_coder_7d493 ml_J0_335 im_J0_coder_7d493 se_J0_coder_7d493 (fun _ _ _ h => h.2.1) rfl (by omega) (by omega) (by omega) rfl (Nat.le_of_ble_eq_true rfl) dJ0_length_8abf5_6 ?_
  intro r S2 hp
  obtain ⟨rfl, rfl⟩ := hp
  refine a_ishr K dJ0_length_8abf5_9 ?_
  rw [st_sh i hi]
  exact a_iret K E rfl (by omega) (by omega) dJ0_length_8abf5_10 ⟨rfl, rfl⟩
set_option maxHeartbeats 4000000 in
set_option maxRecDepth 100000 in
theorem m_J3_checkIndex_8e157 {S : aw_S} {x z : Int32} {v : Value} (hv : v = .null ∨ ∃ a, v = .ref a) (h0 : 0 ≤ x) (h1 : x < z) : aw_M yJ3_checkIndex_8e157 cJ3_checkIndex_8e157 3 (some .int) 0 0 0 [.int x, .int z, v] S (fun r S2 => r = some (.int x) ∧ S2 = S) := by
  rcases hv with rfl | ⟨f, rfl⟩
  · refine aw_enter (by decide +kernel) (Nat.le_of_ble_eq_true rfl) (fun g K E => ?_)
    refine a_iload_n K dJ3_checkIndex_8e157_0 rfl ?_
    refine a_if_lt K dJ3_checkIndex_8e157_1 (tgt := 9) (by decide) (fun z => absurd z (Int32.not_lt.mpr h0)) (fun _ => ?_)
    refine a_iload_n K dJ3_checkIndex_8e157_4 rfl ?_
    refine a_iload_n K dJ3_checkIndex_8e157_5 rfl ?_
    refine a_icmp_lt K dJ3_checkIndex_8e157_6 (tgt := 16) (by decide) (fun _ => ?_) (fun z => absurd h1 z)
    refine a_iload_n K dJ3_checkIndex_8e157_16 rfl ?_
    exact a_iret K E rfl (by omega) (by omega) dJ3_checkIndex_8e157_17 ⟨rfl, rfl⟩
  · refine aw_enter (by decide +kernel) (Nat.le_of_ble_eq_true rfl) (fun g K E => ?_)
    refine a_iload_n K dJ3_checkIndex_8e157_0 rfl ?_
    refine a_if_lt K dJ3_checkIndex_8e157_1 (tgt := 9) (by decide) (fun z => absurd z (Int32.not_lt.mpr h0)) (fun _ => ?_)
    refine a_iload_n K dJ3_checkIndex_8e157_4 rfl ?_
    refine a_iload_n K dJ3_checkIndex_8e157_5 rfl ?_
    refine a_icmp_lt K dJ3_checkIndex_8e157_6 (tgt := 16) (by decide) (fun _ => ?_) (fun z => absurd h1 z)
    refine a_iload_n K dJ3_checkIndex_8e157_16 rfl ?_
    exact a_iret K E rfl (by omega) (by omega) dJ3_checkIndex_8e157_17 ⟨rfl, rfl⟩
set_option maxHeartbeats 4000000 in
set_option maxRecDepth 100000 in
theorem m_J0_checkIndex_df160 {S : aw_S} {x z : Int32} (h0 : 0 ≤ x) (h1 : x < z) : aw_M yJ0_checkIndex_df160 cJ0_checkIndex_df160 2 none 1 0 0 [.int x, .int z] S (fun r S2 => r = none ∧ S2 = S) := by
  refine aw_enter (by decide +kernel) (Nat.le_of_ble_eq_true rfl) (fun g K E => ?_)
  obtain ⟨v, hv, Z⟩ := x_fmt K
  refine a_iload_n K dJ0_checkIndex_df160_0 rfl ?_
  refine a_iload_n K dJ0_checkIndex_df160_1 rfl ?_
  refine x_gets K Z (fun _ _ _ h => h) fl_J0_1053 dJ0_checkIndex_df160_2 ?_
  refine a_invS K (m_J3_checkIndex_8e157 hv h0 h1) my_J3_checkIndex_8e157 ml_J0_1059 st_J3_checkIndex_8e157 rfl (by omega) (by omega) (by omega) rfl (Nat.le_of_ble_eq_true rfl) dJ0_checkIndex_df160_5 ?_
  intro r S2 hp
  obtain ⟨rfl, rfl⟩ := hp
  refine a_pop K dJ0_checkIndex_df160_8 rfl ?_
  exact a_vret K E (by omega) (by omega) dJ0_checkIndex_df160_9 ⟨rfl, rfl⟩
/-- letter j of String i -/
def stB (i j : Nat) : Int32 := (st_byt.getD i []).getD j 0
theorem st_ch : ∀ i, i < 8 → ∀ j, j < st_len.getD i 0 → (((stB i j &&& 255).toUInt32 % 65536).toInt32 = stB i j ∧ narrow .char (.int (stB i j)) = .int (stB i j)) := by decide
theorem st_l : ∀ i, i < 8 → st_len.getD i 0 < 20 := by decide
theorem x_vn {j n : Nat} (h : j < n) (hj : n < 2 ^ 31) : vp_in (nI j) n := nI_in h hj
set_option maxHeartbeats 4000000 in
set_option maxRecDepth 100000 in
theorem m_J1_charAt_3b067 {a t i : Nat} {S : aw_S} {j : Nat} (hi : i < 8) (hj : j < st_len.getD i 0) : aw_MX (strZ a t i) yJ1_charAt_3b067 cJ1_charAt_3b067 2 (some .char) 2 0 0 [.ref t, .int (nI j)] S (fun r S2 => r = some (.int (stB i j)) ∧ S2 = S) := by
  refine aw_enterX (by decide +kernel) (Nat.le_of_ble_eq_true rfl) ?_
  intro g K Z E
  have hl := st_l i hi
  obtain ⟨c1, c2⟩ := st_ch i hi j hj
  refine a_iload_n K dJ1_charAt_3b067_0 rfl ?_
  refine a_aload_n K dJ1_charAt_3b067_1 rfl ?_
  refine x_tlen K Z (fun _ _ _ h => h.2.2.2.2) rfl dJ1_charAt_3b067_2 ?_
  refine a_invS K (m_J0_checkIndex_df160 (Int32.not_lt.mp (nI_pos (by omega))) (nI_lt hj (by omega))) my_J0_checkIndex_df160 ml_J1_9 st_J0_checkIndex_df160 rfl (by omega) (by omega) (by omega) rfl (Nat.le_of_ble_eq_true rfl) dJ1_charAt_3b067_3 ?_
  intro r S2 hp
  obtain ⟨rfl, rfl⟩ := hp
  refine a_aload_n K dJ1_charAt_3b067_6 rfl ?_
  refine a_iload_n K dJ1_charAt_3b067_7 rfl ?_
  refine x_tb K Z (v := .int (stB i j)) (fun _ _ _ h => h.2.2.2.2) (x_vn hj (by omega)) (by rw [nI_clamp (by omega)]; rfl) dJ1_charAt_3b067_8 ?_
  refine a_sipush K dJ1_charAt_3b067_9 (v := 255) (by decide) ?_
  refine a_iand K dJ1_charAt_3b067_12 ?_
  refine a_i2c K dJ1_charAt_3b067_13 ?_
  rw [c1]
  exact a_iret K E c2 (by omega) (by omega) dJ1_charAt_3b067_14 ⟨rfl, rfl⟩
set_option maxHeartbeats 4000000 in
set_option maxRecDepth 100000 in
theorem m_J0_charAt_5068e {a t i : Nat} {S : aw_S} {j : Nat} (hi : i < 8) (hj : j < st_len.getD i 0) : aw_MX (strZ a t i) yJ0_charAt_5068e cJ0_charAt_5068e 2 (some .char) 3 0 0 [.ref a, .int (nI j)] S (fun r S2 => r = some (.int (stB i j)) ∧ S2 = S) := by
  refine aw_enterX (by decide +kernel) (Nat.le_of_ble_eq_true rfl) ?_
  intro g K Z E
  obtain ⟨-, c2⟩ := st_ch i hi j hj
  refine a_aload_n K dJ0_charAt_5068e_0 rfl ?_
  refine x_invV K Z (strZ_ok a t i) (m_J0_isLatin1_aae02 (a := a) (t := t) (i := i)) my_J0_isLatin1_aae02 ml_J0_492 im_J0_isLatin1_aae02 se_J0_isLatin1_aae02 (fun _ _ _ h => h.2.1) rfl (by omega) (by omega) (by omega) rfl (Nat.le_of_ble_eq_true rfl) dJ0_charAt_5068e_1 ?_
  intro r S2 hp
  obtain ⟨rfl, rfl⟩ := hp
  refine a_if_eq K dJ0_charAt_5068e_4 (tgt := 16) (by decide) (fun z => absurd z (by decide)) (fun _ => ?_)
  refine a_aload_n K dJ0_charAt_5068e_7 rfl ?_
  refine x_getf K Z (fun _ _ _ h => h.2.2.2.1) fl_J0_9 dJ0_charAt_5068e_8 ?_
  refine a_iload_n K dJ0_charAt_5068e_11 rfl ?_
  refine x_invS K Z (strZ_ok a t i) (m_J1_charAt_3b067 (a := a) (t := t) hi hj) my_J1_charAt_3b067 ml_J0_495 st_J1_charAt_3b067 rfl (by omega) (by omega) (by omega) rfl (Nat.le_of_ble_eq_true rfl) dJ0_charAt_5068e_12 ?_
  intro r S2 hp
  obtain ⟨rfl, rfl⟩ := hp
  exact a_iret K E c2 (by omega) (by omega) dJ0_charAt_5068e_15 ⟨rfl, rfl⟩
/-- the word whose letters String i are -/
def stW (i : Nat) : Int32 := if i = 6 then -1 else nI i
set_option maxHeartbeats 4000000 in
set_option maxRecDepth 100000 in
theorem m_X6_lettersOf_0 {a t : Nat} {S : aw_S} : aw_MX (strZ a t 0) yX6_lettersOf cX6_lettersOf 1 (some (FieldType.object "java/lang/String")) 0 0 0 [.int (stW 0)] S (fun r S2 => r = some (.ref a) ∧ S2 = S) := by
  refine aw_enterX (by decide +kernel) (Nat.le_of_ble_eq_true rfl) ?_
  intro g K Z E
  refine a_iload_n K dX6_lettersOf_0 rfl ?_
  refine a_tsIn K dX6_lettersOf_1 (off := 39) (tgt := 40) (by decide) (by decide) rfl (by decide) ?_
  refine x_ldcS K Z (tx := st_tx 0) (fun _ _ _ h => h.1) dX6_lettersOf_40 ?_
  exact a_aret K E (Or.inl ⟨_, rfl⟩) (Or.inr ⟨_, rfl⟩) (by omega) (by omega) dX6_lettersOf_42 ⟨rfl, rfl⟩
set_option maxHeartbeats 4000000 in
set_option maxRecDepth 100000 in
theorem m_X6_lettersOf_1 {a t : Nat} {S : aw_S} : aw_MX (strZ a t 1) yX6_lettersOf cX6_lettersOf 1 (some (FieldType.object "java/lang/String")) 0 0 0 [.int (stW 1)] S (fun r S2 => r = some (.ref a) ∧ S2 = S) := by
  refine aw_enterX (by decide +kernel) (Nat.le_of_ble_eq_true rfl) ?_
  intro g K Z E
  refine a_iload_n K dX6_lettersOf_0 rfl ?_
  refine a_tsIn K dX6_lettersOf_1 (off := 42) (tgt := 43) (by decide) (by decide) rfl (by decide) ?_
  refine x_ldcS K Z (tx := st_tx 1) (fun _ _ _ h => h.1) dX6_lettersOf_43 ?_
  exact a_aret K E (Or.inl ⟨_, rfl⟩) (Or.inr ⟨_, rfl⟩) (by omega) (by omega) dX6_lettersOf_45 ⟨rfl, rfl⟩
set_option maxHeartbeats 4000000 in
set_option maxRecDepth 100000 in
theorem m_X6_lettersOf_2 {a t : Nat} {S : aw_S} : aw_MX (strZ a t 2) yX6_lettersOf cX6_lettersOf 1 (some (FieldType.object "java/lang/String")) 0 0 0 [.int (stW 2)] S (fun r S2 => r = some (.ref a) ∧ S2 = S) := by
  refine aw_enterX (by decide +kernel) (Nat.le_of_ble_eq_true rfl) ?_
  intro g K Z E
  refine a_iload_n K dX6_lettersOf_0 rfl ?_
  refine a_tsIn K dX6_lettersOf_1 (off := 45) (tgt := 46) (by decide) (by decide) rfl (by decide) ?_
  refine x_ldcS K Z (tx := st_tx 2) (fun _ _ _ h => h.1) dX6_lettersOf_46 ?_
  exact a_aret K E (Or.inl ⟨_, rfl⟩) (Or.inr ⟨_, rfl⟩) (by omega) (by omega) dX6_lettersOf_48 ⟨rfl, rfl⟩
set_option maxHeartbeats 4000000 in
set_option maxRecDepth 100000 in
theorem m_X6_lettersOf_3 {a t : Nat} {S : aw_S} : aw_MX (strZ a t 3) yX6_lettersOf cX6_lettersOf 1 (some (FieldType.object "java/lang/String")) 0 0 0 [.int (stW 3)] S (fun r S2 => r = some (.ref a) ∧ S2 = S) := by
  refine aw_enterX (by decide +kernel) (Nat.le_of_ble_eq_true rfl) ?_
  intro g K Z E
  refine a_iload_n K dX6_lettersOf_0 rfl ?_
  refine a_tsIn K dX6_lettersOf_1 (off := 48) (tgt := 49) (by decide) (by decide) rfl (by decide) ?_
  refine x_ldcS K Z (tx := st_tx 3) (fun _ _ _ h => h.1) dX6_lettersOf_49 ?_
  exact a_aret K E (Or.inl ⟨_, rfl⟩) (Or.inr ⟨_, rfl⟩) (by omega) (by omega) dX6_lettersOf_51 ⟨rfl, rfl⟩
set_option maxHeartbeats 4000000 in
set_option maxRecDepth 100000 in
theorem m_X6_lettersOf_4 {a t : Nat} {S : aw_S} : aw_MX (strZ a t 4) yX6_lettersOf cX6_lettersOf 1 (some (FieldType.object "java/lang/String")) 0 0 0 [.int (stW 4)] S (fun r S2 => r = some (.ref a) ∧ S2 = S) := by
  refine aw_enterX (by decide +kernel) (Nat.le_of_ble_eq_true rfl) ?_
  intro g K Z E
  refine a_iload_n K dX6_lettersOf_0 rfl ?_
  refine a_tsIn K dX6_lettersOf_1 (off := 51) (tgt := 52) (by decide) (by decide) rfl (by decide) ?_
  refine x_ldcS K Z (tx := st_tx 4) (fun _ _ _ h => h.1) dX6_lettersOf_52 ?_
  exact a_aret K E (Or.inl ⟨_, rfl⟩) (Or.inr ⟨_, rfl⟩) (by omega) (by omega) dX6_lettersOf_54 ⟨rfl, rfl⟩
set_option maxHeartbeats 4000000 in
set_option maxRecDepth 100000 in
theorem m_X6_lettersOf_5 {a t : Nat} {S : aw_S} : aw_MX (strZ a t 5) yX6_lettersOf cX6_lettersOf 1 (some (FieldType.object "java/lang/String")) 0 0 0 [.int (stW 5)] S (fun r S2 => r = some (.ref a) ∧ S2 = S) := by
  refine aw_enterX (by decide +kernel) (Nat.le_of_ble_eq_true rfl) ?_
  intro g K Z E
  refine a_iload_n K dX6_lettersOf_0 rfl ?_
  refine a_tsIn K dX6_lettersOf_1 (off := 54) (tgt := 55) (by decide) (by decide) rfl (by decide) ?_
  refine x_ldcS K Z (tx := st_tx 5) (fun _ _ _ h => h.1) dX6_lettersOf_55 ?_
  exact a_aret K E (Or.inl ⟨_, rfl⟩) (Or.inr ⟨_, rfl⟩) (by omega) (by omega) dX6_lettersOf_57 ⟨rfl, rfl⟩
set_option maxHeartbeats 4000000 in
set_option maxRecDepth 100000 in
theorem m_X6_lettersOf_6 {a t : Nat} {S : aw_S} : aw_MX (strZ a t 6) yX6_lettersOf cX6_lettersOf 1 (some (FieldType.object "java/lang/String")) 0 0 0 [.int (stW 6)] S (fun r S2 => r = some (.ref a) ∧ S2 = S) := by
  refine aw_enterX (by decide +kernel) (Nat.le_of_ble_eq_true rfl) ?_
  intro g K Z E
  refine a_iload_n K dX6_lettersOf_0 rfl ?_
  refine a_tsOut K dX6_lettersOf_1 (tgt := 58) (by decide) (by decide) ?_
  refine x_ldcS K Z (tx := st_tx 6) (fun _ _ _ h => h.1) dX6_lettersOf_58 ?_
  exact a_aret K E (Or.inl ⟨_, rfl⟩) (Or.inr ⟨_, rfl⟩) (by omega) (by omega) dX6_lettersOf_60 ⟨rfl, rfl⟩
theorem m_X6_lettersOf {a t i : Nat} {S : aw_S} (hi : i < 7) : aw_MX (strZ a t i) yX6_lettersOf cX6_lettersOf 1 (some (FieldType.object "java/lang/String")) 0 0 0 [.int (stW i)] S (fun r S2 => r = some (.ref a) ∧ S2 = S) := match i, hi with
  | 0, _ => m_X6_lettersOf_0
  | 1, _ => m_X6_lettersOf_1
  | 2, _ => m_X6_lettersOf_2
  | 3, _ => m_X6_lettersOf_3
  | 4, _ => m_X6_lettersOf_4
  | 5, _ => m_X6_lettersOf_5
  | 6, _ => m_X6_lettersOf_6
  | n + 7, h => absurd h (by omega)
