theorem sm_I : Cond.sameMethod "[I" "java/lang/Object" "clone" "()Ljava/lang/Object;" ∈ TT := tt_r 513 (by decide +kernel) rfl
theorem sm_N : Cond.sameMethod "[LWideMap$Node;" "java/lang/Object" "clone" "()Ljava/lang/Object;" ∈ TT := tt_r 520 (by decide +kernel) rfl
theorem nat_cl : Cond.native ⟨"java/lang/Object", "clone", "()Ljava/lang/Object;"⟩ ∈ TT := tt_r 514 (by decide +kernel) rfl
theorem im_cl : Cond.instanceMethod ⟨"java/lang/Object", "clone", "()Ljava/lang/Object;"⟩ ∈ TT := tt_r 515 (by decide +kernel) rfl
theorem se_I : Cond.selects "[I" ⟨"[I", "clone", "()Ljava/lang/Object;"⟩ ⟨"java/lang/Object", "clone", "()Ljava/lang/Object;"⟩ ∈ TT := tt_r 516 (by decide +kernel) rfl
theorem se_N : Cond.selects "[LWideMap$Node;" ⟨"[LWideMap$Node;", "clone", "()Ljava/lang/Object;"⟩ ⟨"java/lang/Object", "clone", "()Ljava/lang/Object;"⟩ ∈ TT := tt_r 521 (by decide +kernel) rfl
theorem aw_nCo {S : aw_S} {a b0 : Nat} (k2 b : Nat) (hb : ¬ b = a) : aw_ro (nC S a b0) k2 b = aw_ro S k2 b := aw_ro_same (va_up_ne _ _ hb) (va_up_ne _ _ hb) (va_up_ne _ _ hb) (va_up_ne _ _ hb)
theorem aw_nCs {S : aw_S} {a b kd : Nat} : aw_ro (nC S a b) kd a = aw_ro S kd b := by
  have h1 : sN (nC S a b) a = sN S b := va_up_self _ _ _
  have h2 : sA (nC S a b) a = sA S b := va_up_self _ _ _
  have h3 : sQ (nC S a b) a = sQ S b := va_up_self _ _ _
  have h4 : sB (nC S a b) a = sB S b := va_up_self _ _ _
  unfold aw_ro
  rw [h1, h2, h3, h4]
/-- clone() of a row of numbers, and its cast -/
theorem a_cloneI {g : aw_G} {y : MethodName} {cc : ByteArray} {mL : Nat} {ret : Option FieldType} {d mc ms : Nat} (K : aw_K g y cc mL ret d mc ms) {S : aw_S} {k n : Nat} {lv : List (Nat × Value)} {st : List Value} {pc : Nat} {b idx idx2 N : Nat} (w1 : Cond.methodLink y.cls idx ⟨"[I", "clone", "()Ljava/lang/Object;"⟩ ∈ TT) (w2 : Cond.classLink y.cls idx2 "[I" ∈ TT) (o : aw_is S b 13) (hN : sN S b = N) (hd : 1 ≤ d) (h8 : (st.map fun v => v.category).sum ≤ 8) (hk : k + 1 ≤ mc) (hn : n + N ≤ ms) (dg : decode cc pc = .ok (.invokevirtual idx, 3)) (dg2 : decode cc (pc + 3) = .ok (.checkcast idx2, 3))
    (q : ∀ a : Nat, a ∉ sL S → aw g mL (nC S a b) (k + 1) (n + N) lv (.ref a :: st) (pc + 6)) : aw g mL S k n lv (.ref b :: st) pc := by
  subst hN
  obtain ⟨p, l, e, R, s, m, args, below, meth, c, D, cy, A, Q⟩ := g
  obtain ⟨hx, hb, hml, hr, hown, hnm, hts, hlk, hK, hA, hE, hfr, hlo, hce, hsl⟩ := K
  intro H locs ls hP hD hS hl
  obtain ⟨q0, -, he⟩ := aw_atR (cy := cy) o (by decide)
  have hnm : s.vm.findClass "[I" = some (cy 13) := va_nm_int (hK.2 1 _ rfl).2
  refine va_clone (x := aw_ro S 13 b) hx hb (hml.trans hl.1.symm) hown (hts _ w1) (hts _ sm_I) (hts _ nat_cl) (hts _ im_cl) (hts _ se_I) hE.1.2.2.2.2.2.2.2.2.1 hK hP hD hS hA q0 1 he rfl hnm (va_fit (fun _ _ => rfl)) (Nat.le_trans hd hfr) (by have := lv_room (pc := pc) (ls := ls) (m := m) (rest := st) h8; omega) (Nat.le_trans hk hce) (Nat.le_trans hn hsl) dg ?_
  intro a H1 hK1 hP1 hD1 hS1
  have hf := aw_fresh (D := D) (cl := vwCl) hD1
  have hp := aw_wpush (cy := cy) (S := S) (S2 := nC S a b) (a := a) hf rfl (aw_Fnew (kd := 13) (by decide) (by rw [← o.2]; rfl) rfl rfl rfl aw_nCs aw_nCo)
  rw [hp] at hP1 hD1
  have o2 : aw_is (nC S a b) a 13 := ⟨List.mem_append_right _ List.mem_cons_self, (va_up_self _ _ _).trans o.2⟩
  obtain ⟨q1, -, he1⟩ := aw_atR (cy := cy) o2 (by decide)
  exact va_castA hx hb hown (hts _ w2) hP1 q1 he1 hnm dg2 (q a hf H1 locs ls hP1 hD1 hS1 hl)
/-- clone() of a row of nodes, and its cast -/
theorem a_cloneN {g : aw_G} {y : MethodName} {cc : ByteArray} {mL : Nat} {ret : Option FieldType} {d mc ms : Nat} (K : aw_K g y cc mL ret d mc ms) {S : aw_S} {k n : Nat} {lv : List (Nat × Value)} {st : List Value} {pc : Nat} {b idx idx2 N : Nat} (w1 : Cond.methodLink y.cls idx ⟨"[LWideMap$Node;", "clone", "()Ljava/lang/Object;"⟩ ∈ TT) (w2 : Cond.classLink y.cls idx2 "[LWideMap$Node;" ∈ TT) (o : aw_is S b 16) (hN : sN S b = N) (hd : 1 ≤ d) (h8 : (st.map fun v => v.category).sum ≤ 8) (hk : k + 1 ≤ mc) (hn : n + N ≤ ms) (dg : decode cc pc = .ok (.invokevirtual idx, 3)) (dg2 : decode cc (pc + 3) = .ok (.checkcast idx2, 3))
    (q : ∀ a : Nat, a ∉ sL S → aw g mL (nC S a b) (k + 1) (n + N) lv (.ref a :: st) (pc + 6)) : aw g mL S k n lv (.ref b :: st) pc := by
  subst hN
  obtain ⟨p, l, e, R, s, m, args, below, meth, c, D, cy, A, Q⟩ := g
  obtain ⟨hx, hb, hml, hr, hown, hnm, hts, hlk, hK, hA, hE, hfr, hlo, hce, hsl⟩ := K
  intro H locs ls hP hD hS hl
  obtain ⟨q0, -, he⟩ := aw_atR (cy := cy) o (by decide)
  have hnm : s.vm.findClass "[LWideMap$Node;" = some (cy 16) := va_nmO (hK.2 4 _ rfl).2 (by decide +kernel)
  refine va_clone (x := aw_ro S 16 b) hx hb (hml.trans hl.1.symm) hown (hts _ w1) (hts _ sm_N) (hts _ nat_cl) (hts _ im_cl) (hts _ se_N) hE.1.2.2.2.2.2.2.2.2.2 hK hP hD hS hA q0 4 he rfl hnm (va_fit (F := fun j => va_rf (sQ S b j)) (fun i _ => by cases sQ S b i <;> rfl)) (Nat.le_trans hd hfr) (by have := lv_room (pc := pc) (ls := ls) (m := m) (rest := st) h8; omega) (Nat.le_trans hk hce) (Nat.le_trans hn hsl) dg ?_
  intro a H1 hK1 hP1 hD1 hS1
  have hf := aw_fresh (D := D) (cl := vwCl) hD1
  have hp := aw_wpush (cy := cy) (S := S) (S2 := nC S a b) (a := a) hf rfl (aw_Fnew (kd := 16) (by decide) (by rw [← o.2]; rfl) rfl rfl rfl aw_nCs aw_nCo)
  rw [hp] at hP1 hD1
  have o2 : aw_is (nC S a b) a 16 := ⟨List.mem_append_right _ List.mem_cons_self, (va_up_self _ _ _).trans o.2⟩
  obtain ⟨q1, -, he1⟩ := aw_atR (cy := cy) o2 (by decide)
  exact va_castA hx hb hown (hts _ w2) hP1 q1 he1 hnm dg2 (q a hf H1 locs ls hP1 hD1 hS1 hl)
theorem a_ixor {g : aw_G} {y : MethodName} {cc : ByteArray} {mL : Nat} {ret : Option FieldType} {d mc ms : Nat} (K : aw_K g y cc mL ret d mc ms) {S : aw_S} {k n : Nat} {lv : List (Nat × Value)} {st : List Value} {pc : Nat} {x z : Int32} (dg : decode cc pc = .ok (.ixor, 1)) (q : aw g mL S k n lv (.int (x ^^^ z) :: st) (pc + 1)) : aw g mL S k n lv (.int z :: .int x :: st) pc := by
  obtain ⟨p, l, e, R, s, m, args, below, meth, c, D, cy, A, Q⟩ := g
  obtain ⟨hx, hb, hml, hr, hown, hnm, hts, hlk, hK, hA, hE, hfr, hlo, hce, hsl⟩ := K
  exact fun H locs ls hP hD hS hl => lv_ixor hx hb dg (q H locs ls hP hD hS hl)
