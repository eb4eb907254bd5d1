/-- a row of entries at r, its keys ka, its values va -/
def RoW (S : aw_S) (r ka va : Nat) (E : List KV) : Prop := aw_is S r 7 ∧ sR S 448 r = some ka ∧ sR S 449 r = some va ∧ aw_is S ka 13 ∧ aw_is S va 13 ∧ sN S ka = 60 ∧ sN S va = 60 ∧ ka ≠ va ∧ sI S 450 r = nI E.length ∧ E.length ≤ 60 ∧ ∀ i x, E[i]? = some x → sA S ka i = x.1 ∧ sA S va i = x.2
def Qro (r ka va b : Nat) : Prop := b = r ∨ b = ka ∨ b = va
theorem RoW.nr {S : aw_S} {r ka va : Nat} {E : List KV} (h : RoW S r ka va E) : r ≠ ka ∧ r ≠ va := ⟨ne_of_kind h.1 h.2.2.2.1 (by decide), ne_of_kind h.1 h.2.2.2.2.1 (by decide)⟩
theorem RoW.fr {S S2 : aw_S} {P : Nat → Prop} {r ka va : Nat} {E : List KV} (h : RoW S r ka va E) (f : fr S S2 P) (n1 : ¬ P r) (n2 : ¬ P ka) (n3 : ¬ P va) : RoW S2 r ka va E := by
  obtain ⟨h1, h2, h3, h4, h5, h6, h7, h8, h9, h10, h11⟩ := h
  obtain ⟨⟨a1, a2, a3, a4, -⟩, a8⟩ := f r h1.1
  obtain ⟨⟨b1, b2, b3, b4, -⟩, b8⟩ := f ka h4.1
  obtain ⟨⟨c1, c2, c3, c4, -⟩, c8⟩ := f va h5.1
  exact ⟨f.is h1, (a4 _).trans h2, (a4 _).trans h3, f.is h4, f.is h5, b3.trans h6, c3.trans h7, h8, ((a8 n1).1 _).trans h9, h10, fun i x hx => by
    rw [(b8 n2).2.1, (c8 n3).2.1]
    exact h11 i x hx⟩
theorem at0_key {S : aw_S} {r ka va : Nat} {E : List KV} (h : RoW S r ka va E) {j : Nat} (hj : j < 2 ^ 31) : at0 (sA S ka) E.length (-1) (nI j) = keyAtL E j ∧ at0 (sA S va) E.length (-1000000) (nI j) = valAtL E j := by
  have h60 := h.2.2.2.2.2.2.2.2.2.1
  by_cases hl : j < E.length
  · have hx := List.getElem?_eq_getElem hl
    obtain ⟨e1, e2⟩ := h.2.2.2.2.2.2.2.2.2.2 j _ hx
    rw [at0_in hl (by omega), at0_in hl (by omega), keyAtL_in hx, valAtL_in hx]
    exact ⟨e1, e2⟩
  · have hl := Nat.le_of_not_lt hl
    rw [at0_big (by omega) (nI_le hl hj), at0_big (by omega) (nI_le hl hj), keyAtL_out hl, valAtL_out hl]
    exact ⟨rfl, rfl⟩
theorem m_R_keyAt {S : aw_S} {r ka va j : Nat} {E : List KV} (h : RoW S r ka va E) (hj : j < 2 ^ 31) : aw_M yX7_keyAt cX7_keyAt 2 (some FieldType.int) 0 0 0 [.ref r, .int (nI j)] S (fun r S2 => r = some (.int (keyAtL E j)) ∧ S2 = S) := by
  have m := m_X7_keyAt (i := nI j) h.1 h.2.1 h.2.2.2.1 h.2.2.2.2.2.1 h.2.2.2.2.2.2.2.2.1 h.2.2.2.2.2.2.2.2.2.1 (by decide)
  rw [(at0_key h hj).1] at m
  exact m
theorem m_R_valueAt {S : aw_S} {r ka va j : Nat} {E : List KV} (h : RoW S r ka va E) (hj : j < 2 ^ 31) : aw_M yX7_valueAt cX7_valueAt 2 (some FieldType.int) 0 0 0 [.ref r, .int (nI j)] S (fun r S2 => r = some (.int (valAtL E j)) ∧ S2 = S) := by
  have m := m_X7_valueAt (i := nI j) h.1 h.2.2.1 h.2.2.2.2.1 h.2.2.2.2.2.2.1 h.2.2.2.2.2.2.2.2.1 h.2.2.2.2.2.2.2.2.2.1 (by decide)
  rw [(at0_key h hj).2] at m
  exact m
theorem m_R_keyAt_m {S : aw_S} {r ka va : Nat} {E : List KV} (h : RoW S r ka va E) : aw_M yX7_keyAt cX7_keyAt 2 (some FieldType.int) 0 0 0 [.ref r, .int (-1)] S (fun r S2 => r = some (.int (-1)) ∧ S2 = S) := by
  have m := m_X7_keyAt (i := -1) h.1 h.2.1 h.2.2.2.1 h.2.2.2.2.2.1 h.2.2.2.2.2.2.2.2.1 h.2.2.2.2.2.2.2.2.2.1 (by decide)
  rw [at0_neg (by decide)] at m
  exact m
theorem m_R_append {S : aw_S} {r ka va : Nat} {E : List KV} {k v : Int32} (h : RoW S r ka va E) (hn : E.length < 60) : aw_M yX7_append cX7_append 3 (none : Option FieldType) 0 0 0 [.ref r, .int k, .int v] S (fun r2 S2 => r2 = none ∧ RoW S2 r ka va (E ++ [(k, v)]) ∧ frS S S2 (Qro r ka va)) := by
  obtain ⟨h1, h2, h3, h4, h5, h6, h7, h8, h9, h10, h11⟩ := h
  refine (m_X7_append h1 h2 h3 h4 h5 h6 h7 h9 hn).post (fun r2 S2 hp => ?_)
  obtain ⟨hr, rfl⟩ := hp
  refine ⟨hr, ⟨h1, h2, h3, h4, h5, h6, h7, h8, ?_, by rw [List.length_append]; show E.length + 1 ≤ 60; omega, fun i x hx => ?_⟩, ((frS_wA (S := S)).tr frS_wA (T := Qro r ka va) (fun _ z => Or.inr (Or.inl z)) (fun _ z => Or.inr (Or.inr z))).tr (frS_wI (by decide)) (fun _ z => z) (fun _ z => Or.inl z)⟩
  · rw [wI_at, List.length_append]
    rfl
  · rw [sA_wI, sA_wA, sA_wA, sA_wA, sA_wA]
    by_cases hi : i < E.length
    · rw [List.getElem?_append_left hi] at hx
      obtain ⟨e1, e2⟩ := h11 i x hx
      rw [if_neg (fun z => h8 z.1), if_neg (by omega), if_neg (by omega), if_neg (fun z => h8 z.1.symm)]
      exact ⟨e1, e2⟩
    · rw [List.getElem?_append_right (by omega)] at hx
      have hi2 : i = E.length := by
        have h12 := (List.getElem?_eq_some_iff.mp hx).1
        simp at h12
        omega
      subst hi2
      rw [Nat.sub_self] at hx
      have hx2 : (k, v) = x := Option.some.inj hx
      subst hx2
      rw [if_neg (fun z => h8 z.1), if_pos ⟨rfl, rfl⟩, if_pos ⟨rfl, rfl⟩]
      exact ⟨rfl, rfl⟩
/-- entries in leaves without the mark -/
def entU (mk : Nat → Bool) : (h : Nat) → Tr h → List KV
  | 0, t => if mk t.1 then [] else ets t
  | h + 1, t => (kds t).flatMap (entU mk h)
theorem entU_f : ∀ (h : Nat) (t : Tr h), entU (fun _ => false) h t = ent h t
  | 0, _ => rfl
  | h + 1, t => by
    show (kds t).flatMap (entU (fun _ => false) h) = (kds t).flatMap (ent h)
    congr 1
    funext c
    exact entU_f h c
theorem NL.frq {S S2 : aw_S} {Q : Nat → Prop} {ad ar : Nat → Nat} {h : Nat} {t : Tr h} (r : RepW S ad ar h t) (f : frS S S2 Q) (hq : ∀ x ∈ ndl h t, ¬ Q (ad x.1) ∧ ¬ Q (ar x.1)) : RepW S2 ad ar h t := RepW_fr f.fr h r (fun x hx => ⟨(hq x hx).1, (hq x hx).2, rfl, rfl⟩)
theorem fm_take {α β : Type} (f : α → List β) (l : List α) {j : Nat} (hj : j < l.length) : (l.take (j + 1)).flatMap f = (l.take j).flatMap f ++ f l[j] := by
  rw [List.take_succ_eq_append_getElem hj, List.flatMap_append, List.flatMap_cons, List.flatMap_nil, List.append_nil]
theorem fm_len {α β : Type} (f : α → List β) (l : List α) {j : Nat} (hj : j < l.length) : ((l.take j).flatMap f).length + (f l[j]).length ≤ (l.flatMap f).length := by
  have h1 : (l.take (j + 1)).flatMap f ++ (l.drop (j + 1)).flatMap f = l.flatMap f := by rw [← List.flatMap_append, List.take_append_drop]
  rw [← h1, fm_take f l hj, List.length_append, List.length_append]
  omega
theorem m_X4_bears_y {S : aw_S} {a : Nat} {m : Int32} (o : aw_is S a 4) (h : sI S 260 a = m) : aw_M yX4_bears cX4_bears 2 (some FieldType.boolean) 0 0 0 [.ref a, .int m] S (fun r S2 => S2 = S ∧ r = some (.int 1)) := (m_X4_bears (m := m) o).post (fun _ _ hp => ⟨hp.1, hp.2.elim (fun z => z.2) (fun z => absurd h z.1)⟩)
theorem m_X4_bears_n {S : aw_S} {a : Nat} {m : Int32} (o : aw_is S a 4) (h : ¬ sI S 260 a = m) : aw_M yX4_bears cX4_bears 2 (some FieldType.boolean) 0 0 0 [.ref a, .int m] S (fun r S2 => S2 = S ∧ r = some (.int 0)) := (m_X4_bears (m := m) o).post (fun _ _ hp => ⟨hp.1, hp.2.elim (fun z => absurd z.1 h) (fun z => z.2)⟩)
set_option maxHeartbeats 4000000 in
set_option maxRecDepth 100000 in
theorem m_X7_collect {mk : Nat → Bool} {mm : Int32} {rr ka va : Nat} {ad ar : Nat → Nat} : ∀ (h : Nat) {S : aw_S} {t : Tr h} {dep : Nat} {E : List KV} (_ : RoW S rr ka va E) (_ : RepW S ad ar h t) (_ : dep + h < 12) (_ : ∀ x ∈ ndl h t, ¬ Qro rr ka va (ad x.1) ∧ ¬ Qro rr ka va (ar x.1)) (_ : ∀ x ∈ ndl h t, sI S 260 (ad x.1) = mm ↔ mk x.1 = true) (_ : E.length + (entU mk h t).length ≤ 60), aw_M yX7_collect cX7_collect 5 (none : Option FieldType) (h + 1) 0 0 [.ref rr, .ref (ad t.1), .int mm, .int (nI dep)] S (fun r2 S2 => r2 = none ∧ RoW S2 rr ka va (E ++ entU mk h t) ∧ frS S S2 (Qro rr ka va)) := by
  intro h
  induction h with
  | zero =>
    intro S t dep E h r hd hq hm hl
    have h7 : (ets t).length ≤ 7 := r.own.le7
    refine aw_enter (by decide +kernel) (Nat.le_of_ble_eq_true rfl) (fun g K E2 => ?_)
    have e0 : entU mk 0 t = if mk t.1 then [] else ets t := rfl
    by_cases hb : mk t.1 = true
    · have hmk : sI S 260 (ad t.1) = mm := (hm _ (mem_own t)).mpr hb
      rw [e0, if_pos hb, List.append_nil] at E2
      have loop : ∀ (i j : Nat) (x : Int32) (T : aw_S), x = nI j → j + i = (ets t).length → RoW T rr ka va (E) → frS S T (Qro rr ka va) → aw g 5 T 0 0 [(4, .int x), (3, .int (nI dep)), (2, .int mm), (1, .ref (ad t.1)), (0, .ref rr)] [] 14 := by
        intro i
        induction i with
        | zero =>
          intro j x T hx hi hR fT
          subst hx
          have hT := NL.frq r fT hq
          have oT := hT.is
          have oR := hR.1
          have hs : sI T 259 (ad t.1) = nI (ets t).length := hT.own.sz
          have hbT : sI T 260 (ad t.1) = mm := by rw [fT.2.2.2.2.2.2.1 _ 260 (Or.inl rfl)]; exact hmk
          refine a_iload K dX7_collect_14 rfl ?_
          first | refine a_aload_n K dX7_collect_16 rfl ?_ | refine a_aload_nN K dX7_collect_16 rfl ?_
          refine a_invV K (m_X4_size oT) my_X4_size ml_X7_30 im_X4_size se_X4_size (ci := 4) (by assumption) (by decide) ⟨_, _, rfl⟩ rfl (by omega) (by omega) (by omega) rfl (Nat.le_of_ble_eq_true rfl) dX7_collect_17 ?_
          intro r9 S9 hp9
          obtain ⟨rfl, hS9⟩ := hp9
          obtain rfl := hS9.symm
          refine a_icmp_ge K dX7_collect_20 (tgt := 77) (by decide) (fun c_20 => ?_) (fun c_20 => absurd c_20 (by rw [hs]; exact fun z => z (nI_le (by omega) (by omega))))
          exact a_vret K E2 (by omega) (by omega) dX7_collect_77 ⟨rfl, hR, fT⟩
        | succ i ih =>
          intro j x T hx hi hR fT
          subst hx
          have hT := NL.frq r fT hq
          have oT := hT.is
          have oR := hR.1
          have hs : sI T 259 (ad t.1) = nI (ets t).length := hT.own.sz
          have hbT : sI T 260 (ad t.1) = mm := by rw [fT.2.2.2.2.2.2.1 _ 260 (Or.inl rfl)]; exact hmk
          refine a_iload K dX7_collect_14 rfl ?_
          have hj : j < (ets t).length := by omega
          first | refine a_aload_n K dX7_collect_16 rfl ?_ | refine a_aload_nN K dX7_collect_16 rfl ?_
          refine a_invV K (m_X4_size oT) my_X4_size ml_X7_30 im_X4_size se_X4_size (ci := 4) (by assumption) (by decide) ⟨_, _, rfl⟩ rfl (by omega) (by omega) (by omega) rfl (Nat.le_of_ble_eq_true rfl) dX7_collect_17 ?_
          intro r9 S9 hp9
          obtain ⟨rfl, hS9⟩ := hp9
          obtain rfl := hS9.symm
          refine a_icmp_ge K dX7_collect_20 (tgt := 77) (by decide) (fun c_20 => absurd c_20 (by rw [hs]; exact nI_ge (show j < (ets t).length by omega) (by omega))) (fun c_20 => ?_)
          first | refine a_aload_n K dX7_collect_23 rfl ?_ | refine a_aload_nN K dX7_collect_23 rfl ?_
          refine a_invV K (m_X4_isLeaf_y oT hT.own.l.hE) my_X4_isLeaf ml_X7_35 im_X4_isLeaf se_X4_isLeaf (ci := 4) (by assumption) (by decide) ⟨_, _, rfl⟩ rfl (by omega) (by omega) (by omega) rfl (Nat.le_of_ble_eq_true rfl) dX7_collect_24 ?_
          intro r9 S9 hp9
          obtain ⟨hS9, rfl⟩ := hp9
          obtain rfl := hS9.symm
          refine a_if_ne K dX7_collect_27 (tgt := 47) (by decide) (fun c_27 => ?_) (fun c_27 => absurd c_27 (by decide))
          first | refine a_aload_n K dX7_collect_47 rfl ?_ | refine a_aload_nN K dX7_collect_47 rfl ?_
          refine a_iload_n K dX7_collect_48 rfl ?_
          refine a_invV K (m_X4_bears_y oT hbT) my_X4_bears ml_X7_43 im_X4_bears se_X4_bears (ci := 4) (by assumption) (by decide) ⟨_, _, rfl⟩ rfl (by omega) (by omega) (by omega) rfl (Nat.le_of_ble_eq_true rfl) dX7_collect_49 ?_
          intro r9 S9 hp9
          obtain ⟨hS9, rfl⟩ := hp9
          obtain rfl := hS9.symm
          refine a_if_ne K dX7_collect_52 (tgt := 71) (by decide) (fun c_52 => ?_) (fun c_52 => absurd c_52 (by decide))
          refine a_iinc K dX7_collect_71 (v := 1) rfl (by decide) (by decide) ?_
          refine a_goto K dX7_collect_74 (tgt := 14) (by decide) ?_
          exact aw_locl rfl (ih (j + 1) _ T (nI_1 j) (by omega) hR fT)
      first | refine a_aload_n K dX7_collect_0 rfl ?_ | refine a_aload_nN K dX7_collect_0 rfl ?_
      refine a_ifnull K dX7_collect_1 ?_
      refine a_iload_n K dX7_collect_4 rfl ?_
      refine a_bipush K dX7_collect_5 (v := 12) (by decide) ?_
      refine a_icmp_lt K dX7_collect_7 (tgt := 11) (by decide) (fun c_7 => ?_) (fun c_7 => absurd c_7 (fun z => z (nI_lt (b := 12) (by omega) (by omega))))
      refine a_iconst K dX7_collect_11 (v := 0) (by decide) ?_
      refine a_istore K dX7_collect_12 (by decide) ?_
      exact aw_locl rfl (loop (ets t).length 0 0 S nI_0.symm (by omega) h frS.rf)
    · have hmk : ¬ sI S 260 (ad t.1) = mm := fun z => hb ((hm _ (mem_own t)).mp z)
      rw [e0, if_neg hb] at E2 hl
      have loop : ∀ (i j : Nat) (x : Int32) (T : aw_S), x = nI j → j + i = (ets t).length → RoW T rr ka va (E ++ (ets t).take j) → frS S T (Qro rr ka va) → aw g 5 T 0 0 [(4, .int x), (3, .int (nI dep)), (2, .int mm), (1, .ref (ad t.1)), (0, .ref rr)] [] 14 := by
        intro i
        induction i with
        | zero =>
          intro j x T hx hi hR fT
          subst hx
          have hT := NL.frq r fT hq
          have oT := hT.is
          have oR := hR.1
          have hs : sI T 259 (ad t.1) = nI (ets t).length := hT.own.sz
          have hbT : ¬ sI T 260 (ad t.1) = mm := by rw [fT.2.2.2.2.2.2.1 _ 260 (Or.inl rfl)]; exact hmk
          refine a_iload K dX7_collect_14 rfl ?_
          first | refine a_aload_n K dX7_collect_16 rfl ?_ | refine a_aload_nN K dX7_collect_16 rfl ?_
          refine a_invV K (m_X4_size oT) my_X4_size ml_X7_30 im_X4_size se_X4_size (ci := 4) (by assumption) (by decide) ⟨_, _, rfl⟩ rfl (by omega) (by omega) (by omega) rfl (Nat.le_of_ble_eq_true rfl) dX7_collect_17 ?_
          intro r9 S9 hp9
          obtain ⟨rfl, hS9⟩ := hp9
          obtain rfl := hS9.symm
          refine a_icmp_ge K dX7_collect_20 (tgt := 77) (by decide) (fun c_20 => ?_) (fun c_20 => absurd c_20 (by rw [hs]; exact fun z => z (nI_le (by omega) (by omega))))
          exact a_vret K E2 (by omega) (by omega) dX7_collect_77 ⟨rfl, by rw [show j = (ets t).length by omega, List.take_length] at hR; exact hR, fT⟩
        | succ i ih =>
          intro j x T hx hi hR fT
          subst hx
          have hT := NL.frq r fT hq
          have oT := hT.is
          have oR := hR.1
          have hs : sI T 259 (ad t.1) = nI (ets t).length := hT.own.sz
          have hbT : ¬ sI T 260 (ad t.1) = mm := by rw [fT.2.2.2.2.2.2.1 _ 260 (Or.inl rfl)]; exact hmk
          refine a_iload K dX7_collect_14 rfl ?_
          have hj : j < (ets t).length := by omega
          first | refine a_aload_n K dX7_collect_16 rfl ?_ | refine a_aload_nN K dX7_collect_16 rfl ?_
          refine a_invV K (m_X4_size oT) my_X4_size ml_X7_30 im_X4_size se_X4_size (ci := 4) (by assumption) (by decide) ⟨_, _, rfl⟩ rfl (by omega) (by omega) (by omega) rfl (Nat.le_of_ble_eq_true rfl) dX7_collect_17 ?_
          intro r9 S9 hp9
          obtain ⟨rfl, hS9⟩ := hp9
          obtain rfl := hS9.symm
          refine a_icmp_ge K dX7_collect_20 (tgt := 77) (by decide) (fun c_20 => absurd c_20 (by rw [hs]; exact nI_ge (show j < (ets t).length by omega) (by omega))) (fun c_20 => ?_)
          first | refine a_aload_n K dX7_collect_23 rfl ?_ | refine a_aload_nN K dX7_collect_23 rfl ?_
          refine a_invV K (m_X4_isLeaf_y oT hT.own.l.hE) my_X4_isLeaf ml_X7_35 im_X4_isLeaf se_X4_isLeaf (ci := 4) (by assumption) (by decide) ⟨_, _, rfl⟩ rfl (by omega) (by omega) (by omega) rfl (Nat.le_of_ble_eq_true rfl) dX7_collect_24 ?_
          intro r9 S9 hp9
          obtain ⟨hS9, rfl⟩ := hp9
          obtain rfl := hS9.symm
          refine a_if_ne K dX7_collect_27 (tgt := 47) (by decide) (fun c_27 => ?_) (fun c_27 => absurd c_27 (by decide))
          first | refine a_aload_n K dX7_collect_47 rfl ?_ | refine a_aload_nN K dX7_collect_47 rfl ?_
          refine a_iload_n K dX7_collect_48 rfl ?_
          refine a_invV K (m_X4_bears_n oT hbT) my_X4_bears ml_X7_43 im_X4_bears se_X4_bears (ci := 4) (by assumption) (by decide) ⟨_, _, rfl⟩ rfl (by omega) (by omega) (by omega) rfl (Nat.le_of_ble_eq_true rfl) dX7_collect_49 ?_
          intro r9 S9 hp9
          obtain ⟨hS9, rfl⟩ := hp9
          obtain rfl := hS9.symm
          refine a_if_ne K dX7_collect_52 (tgt := 71) (by decide) (fun c_52 => absurd c_52 (fun z => z rfl)) (fun c_52 => ?_)
          first | refine a_aload_n K dX7_collect_55 rfl ?_ | refine a_aload_nN K dX7_collect_55 rfl ?_
          first | refine a_aload_n K dX7_collect_56 rfl ?_ | refine a_aload_nN K dX7_collect_56 rfl ?_
          refine a_iload K dX7_collect_57 rfl ?_
          refine a_invV K (m_X4_keyAt (k := j) hT.own.l (by omega)) my_X4_keyAt ml_X7_47 im_X4_keyAt se_X4_keyAt (ci := 4) (by assumption) (by decide) ⟨_, _, rfl⟩ rfl (by omega) (by omega) (by omega) rfl (Nat.le_of_ble_eq_true rfl) dX7_collect_59 ?_
          intro r9 S9 hp9
          obtain ⟨rfl, hS9⟩ := hp9
          obtain rfl := hS9.symm
          first | refine a_aload_n K dX7_collect_62 rfl ?_ | refine a_aload_nN K dX7_collect_62 rfl ?_
          refine a_iload K dX7_collect_63 rfl ?_
          refine a_invV K (m_X4_valueAt (k := j) hT.own.l (by omega)) my_X4_valueAt ml_X7_51 im_X4_valueAt se_X4_valueAt (ci := 4) (by assumption) (by decide) ⟨_, _, rfl⟩ rfl (by omega) (by omega) (by omega) rfl (Nat.le_of_ble_eq_true rfl) dX7_collect_65 ?_
          intro r9 S9 hp9
          obtain ⟨rfl, hS9⟩ := hp9
          obtain rfl := hS9.symm
          refine a_invV K (m_R_append (k := keyAtL (ets t) j) (v := valAtL (ets t) j) hR (by rw [List.length_append, List.length_take]; omega)) my_X7_append ml_X7_54 im_X7_append se_X7_append (ci := 7) (by assumption) (by decide) ⟨_, _, rfl⟩ rfl (by omega) (by omega) (by omega) rfl (Nat.le_of_ble_eq_true rfl) dX7_collect_68 ?_
          intro r9 T2 hp9
          obtain ⟨rfl, hR2, f2⟩ := hp9
          have e9 : E ++ (ets t).take j ++ [(keyAtL (ets t) j, valAtL (ets t) j)] = E ++ (ets t).take (j + 1) := by
            rw [keyAtL_in (List.getElem?_eq_getElem hj), valAtL_in (List.getElem?_eq_getElem hj), List.append_assoc, List.take_succ_eq_append_getElem hj]
          rw [e9] at hR2
          refine a_iinc K dX7_collect_71 (v := 1) rfl (by decide) (by decide) ?_
          refine a_goto K dX7_collect_74 (tgt := 14) (by decide) ?_
          exact aw_locl rfl (ih (j + 1) _ T2 (nI_1 j) (by omega) hR2 (fT.tr f2 (fun _ z => z) (fun _ z => z)))
      first | refine a_aload_n K dX7_collect_0 rfl ?_ | refine a_aload_nN K dX7_collect_0 rfl ?_
      refine a_ifnull K dX7_collect_1 ?_
      refine a_iload_n K dX7_collect_4 rfl ?_
      refine a_bipush K dX7_collect_5 (v := 12) (by decide) ?_
      refine a_icmp_lt K dX7_collect_7 (tgt := 11) (by decide) (fun c_7 => ?_) (fun c_7 => absurd c_7 (fun z => z (nI_lt (b := 12) (by omega) (by omega))))
      refine a_iconst K dX7_collect_11 (v := 0) (by decide) ?_
      refine a_istore K dX7_collect_12 (by decide) ?_
      exact aw_locl rfl (loop (ets t).length 0 0 S nI_0.symm (by omega) (by simpa using h) frS.rf)
  | succ h ih =>
    intro S t dep E hR r hd hq hm hl
    have h7 := kds_le7 r.own
    have hl : E.length + ((kds t).flatMap (entU mk h)).length ≤ 60 := hl
    refine aw_enter (by decide +kernel) (Nat.le_of_ble_eq_true rfl) (fun g K E2 => ?_)
    have loop : ∀ (i j : Nat) (x : Int32) (T : aw_S), x = nI j → j + i = (kds t).length → RoW T rr ka va (E ++ ((kds t).take j).flatMap (entU mk h)) → frS S T (Qro rr ka va) → aw g 5 T 0 0 [(4, .int x), (3, .int (nI dep)), (2, .int mm), (1, .ref (ad t.1)), (0, .ref rr)] [] 14 := by
      intro i
      induction i with
      | zero =>
        intro j x T hx hi hR fT
        subst hx
        have hT := NL.frq r fT hq
        have oT := hT.is
        have hs : sI T 259 (ad t.1) = nI (kds t).length := hT.own.sz
        refine a_iload K dX7_collect_14 rfl ?_
        first | refine a_aload_n K dX7_collect_16 rfl ?_ | refine a_aload_nN K dX7_collect_16 rfl ?_
        refine a_invV K (m_X4_size oT) my_X4_size ml_X7_30 im_X4_size se_X4_size (ci := 4) (by assumption) (by decide) ⟨_, _, rfl⟩ rfl (by omega) (by omega) (by omega) rfl (Nat.le_of_ble_eq_true rfl) dX7_collect_17 ?_
        intro r9 S9 hp9
        obtain ⟨rfl, hS9⟩ := hp9
        obtain rfl := hS9.symm
        refine a_icmp_ge K dX7_collect_20 (tgt := 77) (by decide) (fun c_20 => ?_) (fun c_20 => absurd c_20 (by rw [hs]; exact fun z => z (nI_le (by omega) (by omega))))
        exact a_vret K E2 (by omega) (by omega) dX7_collect_77 ⟨rfl, by rw [show j = (kds t).length by omega, List.take_length] at hR; exact hR, fT⟩
      | succ i ihl =>
        intro j x T hx hi hR fT
        subst hx
        have hT := NL.frq r fT hq
        have oT := hT.is
        have hs : sI T 259 (ad t.1) = nI (kds t).length := hT.own.sz
        refine a_iload K dX7_collect_14 rfl ?_
        first | refine a_aload_n K dX7_collect_16 rfl ?_ | refine a_aload_nN K dX7_collect_16 rfl ?_
        refine a_invV K (m_X4_size oT) my_X4_size ml_X7_30 im_X4_size se_X4_size (ci := 4) (by assumption) (by decide) ⟨_, _, rfl⟩ rfl (by omega) (by omega) (by omega) rfl (Nat.le_of_ble_eq_true rfl) dX7_collect_17 ?_
        intro r9 S9 hp9
        obtain ⟨rfl, hS9⟩ := hp9
        obtain rfl := hS9.symm
        refine a_icmp_ge K dX7_collect_20 (tgt := 77) (by decide) (fun c_20 => absurd c_20 (by rw [hs]; exact nI_ge (show j < (kds t).length by omega) (by omega))) (fun c_20 => ?_)
        first | refine a_aload_n K dX7_collect_23 rfl ?_ | refine a_aload_nN K dX7_collect_23 rfl ?_
        refine a_invV K (m_X4_isLeaf_n oT hT.own.k.hE0) my_X4_isLeaf ml_X7_35 im_X4_isLeaf se_X4_isLeaf (ci := 4) (by assumption) (by decide) ⟨_, _, rfl⟩ rfl (by omega) (by omega) (by omega) rfl (Nat.le_of_ble_eq_true rfl) dX7_collect_24 ?_
        intro r9 S9 hp9
        obtain ⟨hS9, rfl⟩ := hp9
        obtain rfl := hS9.symm
        refine a_if_ne K dX7_collect_27 (tgt := 47) (by decide) (fun c_27 => absurd c_27 (fun z => z rfl)) (fun c_27 => ?_)
        first | refine a_aload_n K dX7_collect_30 rfl ?_ | refine a_aload_nN K dX7_collect_30 rfl ?_
        first | refine a_aload_n K dX7_collect_31 rfl ?_ | refine a_aload_nN K dX7_collect_31 rfl ?_
        refine a_iload K dX7_collect_32 rfl ?_
        refine a_invV K (m_X4_kidAt (k := j) hT.own.k (by omega)) my_X4_kidAt ml_X7_39 im_X4_kidAt se_X4_kidAt (ci := 4) (by assumption) (by decide) ⟨_, _, rfl⟩ rfl (by omega) (by omega) (by omega) rfl (Nat.le_of_ble_eq_true rfl) dX7_collect_34 ?_
        intro r9 S9 hp9
        obtain ⟨rfl, hS9⟩ := hp9
        obtain rfl := hS9.symm
        have hj : j < (kds t).length := by omega
        rw [List.getElem?_map, List.getElem?_eq_getElem hj]
        refine a_iload_n K dX7_collect_37 rfl ?_
        refine a_iload_n K dX7_collect_38 rfl ?_
        refine a_iconst K dX7_collect_39 (v := 1) (by decide) ?_
        refine a_iadd K dX7_collect_40 ?_
        rw [nI_1]
        refine a_invS K (ih (t := (kds t)[j]) (dep := dep + 1) (E := E ++ ((kds t).take j).flatMap (entU mk h)) hR (hT.2 _ (List.getElem_mem hj)) (by omega) (fun x hx => hq x (mem_kd (List.getElem_mem hj) hx)) (fun x hx => by rw [fT.2.2.2.2.2.2.1 _ 260 (Or.inl rfl)]; exact hm x (mem_kd (List.getElem_mem hj) hx)) (by have h1 := fm_len (entU mk h) (kds t) hj; rw [List.length_append]; omega)) my_X7_collect ml_X7_26 st_X7_collect rfl (by omega) (by omega) (by omega) rfl (Nat.le_of_ble_eq_true rfl) dX7_collect_41 ?_
        intro r9 T2 hp9
        obtain ⟨rfl, hR2, f2⟩ := hp9
        rw [List.append_assoc, ← fm_take (entU mk h) (kds t) hj] at hR2
        refine a_goto K dX7_collect_44 (tgt := 71) (by decide) ?_
        refine a_iinc K dX7_collect_71 (v := 1) rfl (by decide) (by decide) ?_
        refine a_goto K dX7_collect_74 (tgt := 14) (by decide) ?_
        exact aw_locl rfl (ihl (j + 1) _ T2 (nI_1 j) (by omega) hR2 (fT.tr f2 (fun _ z => z) (fun _ z => z)))
    first | refine a_aload_n K dX7_collect_0 rfl ?_ | refine a_aload_nN K dX7_collect_0 rfl ?_
    refine a_ifnull K dX7_collect_1 ?_
    refine a_iload_n K dX7_collect_4 rfl ?_
    refine a_bipush K dX7_collect_5 (v := 12) (by decide) ?_
    refine a_icmp_lt K dX7_collect_7 (tgt := 11) (by decide) (fun c_7 => ?_) (fun c_7 => absurd c_7 (fun z => z (nI_lt (b := 12) (by omega) (by omega))))
    refine a_iconst K dX7_collect_11 (v := 0) (by decide) ?_
    refine a_istore K dX7_collect_12 (by decide) ?_
    exact aw_locl rfl (loop (kds t).length 0 0 S nI_0.symm (by omega) (by simpa using hR) frS.rf)
/-- a row's shape, whatever it holds -/
def RoS (S : aw_S) (r ka va : Nat) : Prop := aw_is S r 7 ∧ sR S 448 r = some ka ∧ sR S 449 r = some va ∧ aw_is S ka 13 ∧ aw_is S va 13 ∧ sN S ka = 60 ∧ sN S va = 60 ∧ ka ≠ va
theorem RoS.clear {S : aw_S} {r ka va : Nat} (h : RoS S r ka va) : RoW (wI S 450 r 0) r ka va [] ∧ frS S (wI S 450 r 0) (Qro r ka va) := by
  obtain ⟨h1, h2, h3, h4, h5, h6, h7, h8⟩ := h
  exact ⟨⟨h1, h2, h3, h4, h5, h6, h7, h8, wI_at, Nat.zero_le _, fun i x hx => absurd hx (by simp)⟩, (frS_wI (by decide)).mono (fun _ z => Or.inl z)⟩
theorem kpl_iff {es : List KV} {key : Int32} (hs : srt es) : ∀ {j : Nat} {x : KV}, es[j]? = some x → (x.1 < key ↔ j < kpl es key) := by
  induction es with
  | nil => intro j x hx; exact absurd hx (by simp)
  | cons y r ih =>
    obtain ⟨h1, h2⟩ := List.pairwise_cons.mp hs
    intro j x hx
    by_cases hy : y.1 < key
    · have e : kpl (y :: r) key = kpl r key + 1 := if_pos hy
      rw [e]
      cases j with
      | zero =>
        have e2 : y = x := Option.some.inj hx
        rw [← e2]
        exact ⟨fun _ => Nat.succ_pos _, fun _ => hy⟩
      | succ j =>
        rw [List.getElem?_cons_succ] at hx
        exact (ih h2 hx).trans ⟨Nat.succ_lt_succ, Nat.lt_of_succ_lt_succ⟩
    · have e : kpl (y :: r) key = 0 := if_neg hy
      rw [e]
      refine ⟨fun z => absurd z ?_, fun z => absurd z (Nat.not_lt_zero _)⟩
      cases j with
      | zero =>
        have e2 : y = x := Option.some.inj hx
        rw [← e2]
        exact hy
      | succ j =>
        rw [List.getElem?_cons_succ] at hx
        have h3 := h1 x (List.mem_of_getElem? hx)
        intro z
        exact hy (lt_tr h3 z)
set_option maxHeartbeats 4000000 in
set_option maxRecDepth 100000 in
theorem m_R_fillU {mk : Nat → Bool} {mm : Int32} {rr ka va : Nat} {ad ar : Nat → Nat} {h : Nat} {S : aw_S} {t : Tr h} (hR : RoS S rr ka va) (r : RepW S ad ar h t) (hd : h < 12) (hq : ∀ x ∈ ndl h t, ¬ Qro rr ka va (ad x.1) ∧ ¬ Qro rr ka va (ar x.1)) (hm : ∀ x ∈ ndl h t, sI S 260 (ad x.1) = mm ↔ mk x.1 = true) (hl : (entU mk h t).length ≤ 60) : aw_M yX7_fillUnmarked cX7_fillUnmarked 3 (none : Option FieldType) (h + 2) 0 0 [.ref rr, .ref (ad t.1), .int mm] S (fun r2 S2 => r2 = none ∧ RoW S2 rr ka va (entU mk h t) ∧ frS S S2 (Qro rr ka va)) := by
  have oR := hR.1
  obtain ⟨hR1, f1⟩ := hR.clear
  have r1 := NL.frq r f1 hq
  refine aw_enter (by decide +kernel) (Nat.le_of_ble_eq_true rfl) (fun g K EE => ?_)
  first | refine a_aload_n K dX7_fillUnmarked_0 rfl ?_ | refine a_aload_nN K dX7_fillUnmarked_0 rfl ?_
  refine a_iconst K dX7_fillUnmarked_1 (v := 0) (by decide) ?_
  refine a_putI K fd_X7_18 (by assumption) rfl dX7_fillUnmarked_2 ?_
  first | refine a_aload_n K dX7_fillUnmarked_5 rfl ?_ | refine a_aload_nN K dX7_fillUnmarked_5 rfl ?_
  first | refine a_aload_n K dX7_fillUnmarked_6 rfl ?_ | refine a_aload_nN K dX7_fillUnmarked_6 rfl ?_
  refine a_iload_n K dX7_fillUnmarked_7 rfl ?_
  refine a_iconst K dX7_fillUnmarked_8 (v := 0) (by decide) ?_
  refine a_invS K (m_X7_collect h (mk := mk) (dep := 0) hR1 r1 (by omega) hq (fun x hx => by rw [f1.2.2.2.2.2.2.1 _ 260 (Or.inl rfl)]; exact hm x hx) (by rw [List.length_nil]; omega)) my_X7_collect ml_X7_26 st_X7_collect rfl (by omega) (by omega) (by omega) rfl (Nat.le_of_ble_eq_true rfl) dX7_fillUnmarked_9 ?_
  intro r9 S9 hp9
  obtain ⟨rfl, hR2, f2⟩ := hp9
  rw [List.nil_append] at hR2
  exact a_vret K EE (by omega) (by omega) dX7_fillUnmarked_12 ⟨rfl, hR2, f1.tr f2 (fun _ z => z) (fun _ z => z)⟩
set_option maxHeartbeats 4000000 in
set_option maxRecDepth 100000 in
theorem m_R_fill {rr ka va : Nat} {ad ar : Nat → Nat} {h : Nat} {S : aw_S} {t : Tr h} (hR : RoS S rr ka va) (r : RepW S ad ar h t) (hd : h < 12) (hq : ∀ x ∈ ndl h t, ¬ Qro rr ka va (ad x.1) ∧ ¬ Qro rr ka va (ar x.1)) (hm : ∀ x ∈ ndl h t, ¬ sI S 260 (ad x.1) = -1) (hl : (ent h t).length ≤ 60) : aw_M yX7_fill cX7_fill 2 (none : Option FieldType) (h + 3) 0 0 [.ref rr, .ref (ad t.1)] S (fun r2 S2 => r2 = none ∧ RoW S2 rr ka va (ent h t) ∧ frS S S2 (Qro rr ka va)) := by
  have oR := hR.1
  refine aw_enter (by decide +kernel) (Nat.le_of_ble_eq_true rfl) (fun g K EE => ?_)
  first | refine a_aload_n K dX7_fill_0 rfl ?_ | refine a_aload_nN K dX7_fill_0 rfl ?_
  first | refine a_aload_n K dX7_fill_1 rfl ?_ | refine a_aload_nN K dX7_fill_1 rfl ?_
  refine a_iconst K dX7_fill_2 (v := -1) (by decide) ?_
  refine a_invV K (m_R_fillU (mk := fun _ => false) (mm := -1) hR r hd hq (fun x hx => ⟨fun z => absurd z (hm x hx), fun z => absurd z (by simp)⟩) (by rw [entU_f]; exact hl)) my_X7_fillUnmarked ml_X7_22 im_X7_fillUnmarked se_X7_fillUnmarked (ci := 7) (by assumption) (by decide) ⟨_, _, rfl⟩ rfl (by omega) (by omega) (by omega) rfl (Nat.le_of_ble_eq_true rfl) dX7_fill_3 ?_
  intro r9 S9 hp9
  obtain ⟨rfl, hR2, f2⟩ := hp9
  rw [entU_f] at hR2
  exact a_vret K EE (by omega) (by omega) dX7_fill_6 ⟨rfl, hR2, f2⟩
set_option maxHeartbeats 4000000 in
set_option maxRecDepth 100000 in
theorem m_R_holdsAt {S : aw_S} {rr ka va : Nat} {E : List KV} {j : Nat} {key : Int32} (hR : RoW S rr ka va E) (hj : j < 2 ^ 31) : aw_M yX7_holdsAt cX7_holdsAt 3 (some FieldType.boolean) 1 0 0 [.ref rr, .int (nI j), .int key] S (fun r2 S2 => S2 = S ∧ bR (j < E.length ∧ keyAtL E j = key) r2) := by
  have oR := hR.1
  have h60 := hR.2.2.2.2.2.2.2.2.2.1
  have hs := hR.2.2.2.2.2.2.2.2.1
  refine aw_enter (by decide +kernel) (Nat.le_of_ble_eq_true rfl) (fun g K EE => ?_)
  refine a_iload_n K dX7_holdsAt_0 rfl ?_
  refine a_if_lt K dX7_holdsAt_1 (tgt := 25) (by decide) (fun c_1 => absurd c_1 (nI_pos hj)) (fun c_1 => ?_)
  refine a_iload_n K dX7_holdsAt_4 rfl ?_
  first | refine a_aload_n K dX7_holdsAt_5 rfl ?_ | refine a_aload_nN K dX7_holdsAt_5 rfl ?_
  refine a_getI K fd_X7_18 (by assumption) (Or.inl rfl) dX7_holdsAt_6 ?_
  refine a_icmp_ge K dX7_holdsAt_9 (tgt := 25) (by decide) (fun c_9 => ?_) (fun c_9 => ?_)
  · have hl : ¬ j < E.length := by
      rw [hs] at c_9
      exact Nat.not_lt.mpr ((nI_leI (by omega) hj).mp c_9)
    refine a_iconst K dX7_holdsAt_25 (v := 0) (by decide) ?_
    exact a_iret K EE rfl (by omega) (by omega) dX7_holdsAt_26 ⟨rfl, by first | exact Or.inr ⟨fun z => hl z.1, rfl⟩ | exact Or.inr ⟨fun z => c_18 z.2, rfl⟩ | exact Or.inl ⟨⟨hl, c_18⟩, rfl⟩ | exact Or.inl ⟨⟨hl, Classical.not_not.mp c_18⟩, rfl⟩⟩
  · have hl : j < E.length := by
      rw [hs] at c_9
      exact Nat.lt_of_not_le (fun z => c_9 (nI_le z hj))
    first | refine a_aload_n K dX7_holdsAt_12 rfl ?_ | refine a_aload_nN K dX7_holdsAt_12 rfl ?_
    refine a_iload_n K dX7_holdsAt_13 rfl ?_
    refine a_invV K (m_R_keyAt hR hj) my_X7_keyAt ml_X7_59 im_X7_keyAt se_X7_keyAt (ci := 7) (by assumption) (by decide) ⟨_, _, rfl⟩ rfl (by omega) (by omega) (by omega) rfl (Nat.le_of_ble_eq_true rfl) dX7_holdsAt_14 ?_
    intro r9 S9 hp9
    obtain ⟨rfl, hS9⟩ := hp9
    obtain rfl := hS9.symm
    refine a_iload_n K dX7_holdsAt_17 rfl ?_
    refine a_icmp_ne K dX7_holdsAt_18 (tgt := 25) (by decide) (fun c_18 => ?_) (fun c_18 => ?_)
    · refine a_iconst K dX7_holdsAt_25 (v := 0) (by decide) ?_
      exact a_iret K EE rfl (by omega) (by omega) dX7_holdsAt_26 ⟨rfl, by first | exact Or.inr ⟨fun z => hl z.1, rfl⟩ | exact Or.inr ⟨fun z => c_18 z.2, rfl⟩ | exact Or.inl ⟨⟨hl, c_18⟩, rfl⟩ | exact Or.inl ⟨⟨hl, Classical.not_not.mp c_18⟩, rfl⟩⟩
    · refine a_iconst K dX7_holdsAt_21 (v := 1) (by decide) ?_
      refine a_goto K dX7_holdsAt_22 (tgt := 26) (by decide) ?_
      exact a_iret K EE rfl (by omega) (by omega) dX7_holdsAt_26 ⟨rfl, by first | exact Or.inr ⟨fun z => hl z.1, rfl⟩ | exact Or.inr ⟨fun z => c_18 z.2, rfl⟩ | exact Or.inl ⟨⟨hl, c_18⟩, rfl⟩ | exact Or.inl ⟨⟨hl, Classical.not_not.mp c_18⟩, rfl⟩⟩
set_option maxHeartbeats 4000000 in
set_option maxRecDepth 100000 in
theorem m_R_placeOf {S : aw_S} {rr ka va : Nat} {E : List KV} {key : Int32} (hR : RoW S rr ka va E) (hsE : srt E) : aw_M yX7_placeOf cX7_placeOf 6 (some FieldType.int) 1 0 0 [.ref rr, .int key] S (fun r2 S2 => r2 = some (.int (nI (kpl E key))) ∧ S2 = S) := by
  have oR := hR.1
  have h60 := hR.2.2.2.2.2.2.2.2.2.1
  have hs := hR.2.2.2.2.2.2.2.2.1
  have hk := kpl_le key E
  refine aw_enter (by decide +kernel) (Nat.le_of_ble_eq_true rfl) (fun g K EE => ?_)
  have loop : ∀ (i n lo hi : Nat) (x : Int32), x = nI n → n + i = 60 → lo ≤ kpl E key → kpl E key ≤ hi → hi ≤ E.length → hi + n ≤ lo + 60 → aw g 6 S 0 0 [(4, .int x), (3, .int (nI hi)), (2, .int (nI lo)), (1, .int key), (0, .ref rr)] [] 10 := by
    intro i
    induction i with
    | zero =>
      intro n lo hi x hx hi0 h1 h2 h3 h4
      subst hx
      refine a_iload K dX7_placeOf_10 rfl ?_
      refine a_bipush K dX7_placeOf_12 (v := 60) (by decide) ?_
      refine a_icmp_ge K dX7_placeOf_14 (tgt := 56) (by decide) (fun c_14 => ?_) (fun c_14 => absurd c_14 (fun z => z (nI_le (a := 60) (by omega) (by omega))))
      refine a_iload_n K dX7_placeOf_56 rfl ?_
      exact a_iret K EE rfl (by omega) (by omega) dX7_placeOf_57 ⟨by rw [show lo = kpl E key by omega], rfl⟩
    | succ i ih =>
      intro n lo hi x hx hi0 h1 h2 h3 h4
      subst hx
      refine a_iload K dX7_placeOf_10 rfl ?_
      refine a_bipush K dX7_placeOf_12 (v := 60) (by decide) ?_
      refine a_icmp_ge K dX7_placeOf_14 (tgt := 56) (by decide) (fun c_14 => ?_) (fun c_14 => ?_)
      · have hlh : lo = kpl E key := by
          have h1 := (nI_leI (a := 60) (b := n) (by decide) (by omega)).mp c_14
          omega
        subst hlh
        refine a_iload_n K dX7_placeOf_56 rfl ?_
        exact a_iret K EE rfl (by omega) (by omega) dX7_placeOf_57 ⟨rfl, rfl⟩
      · refine a_iload_n K dX7_placeOf_17 rfl ?_
        refine a_iload_n K dX7_placeOf_18 rfl ?_
        refine a_icmp_ge K dX7_placeOf_19 (tgt := 56) (by decide) (fun c_19 => ?_) (fun c_19 => ?_)
        · have hlh : lo = kpl E key := by
            have h1 := (nI_leI (by omega) (by omega)).mp c_19
            omega
          subst hlh
          refine a_iload_n K dX7_placeOf_56 rfl ?_
          exact a_iret K EE rfl (by omega) (by omega) dX7_placeOf_57 ⟨rfl, rfl⟩
        · have hlt : lo < hi := Nat.lt_of_not_le (fun z => c_19 (nI_le z (by omega)))
          have hmx := List.getElem?_eq_getElem (show (lo + hi) / 2 < E.length by omega)
          have hki := kpl_iff (key := key) hsE hmx
          refine a_iload_n K dX7_placeOf_22 rfl ?_
          refine a_iload_n K dX7_placeOf_23 rfl ?_
          refine a_iadd K dX7_placeOf_24 ?_
          refine a_iconst K dX7_placeOf_25 (v := 1) (by decide) ?_
          refine a_ishr K dX7_placeOf_26 ?_
          rw [nI_add, pk_shrN (by omega) _ 1 (by decide)]
          refine a_istore K dX7_placeOf_27 (by decide) ?_
          first | refine a_aload_n K dX7_placeOf_29 rfl ?_ | refine a_aload_nN K dX7_placeOf_29 rfl ?_
          refine a_iload K dX7_placeOf_30 rfl ?_
          refine a_invV K (m_R_keyAt (j := (lo + hi) / 2 ^ 1) hR (by omega)) my_X7_keyAt ml_X7_59 im_X7_keyAt se_X7_keyAt (ci := 7) (by assumption) (by decide) ⟨_, _, rfl⟩ rfl (by omega) (by omega) (by omega) rfl (Nat.le_of_ble_eq_true rfl) dX7_placeOf_32 ?_
          intro r9 S9 hp9
          obtain ⟨rfl, hS9⟩ := hp9
          obtain rfl := hS9.symm
          rw [keyAtL_in hmx]
          refine a_iload_n K dX7_placeOf_35 rfl ?_
          refine a_icmp_ge K dX7_placeOf_36 (tgt := 47) (by decide) (fun c_36 => ?_) (fun c_36 => ?_)
          · have hm2 : ¬ (lo + hi) / 2 < kpl E key := fun z => absurd (hki.mpr z) (Int32.not_lt.mpr c_36)
            refine a_iload K dX7_placeOf_47 rfl ?_
            refine a_istore_n K dX7_placeOf_49 (by decide) ?_
            refine a_iinc K dX7_placeOf_50 (v := 1) rfl (by decide) (by decide) ?_
            refine a_goto K dX7_placeOf_53 (tgt := 10) (by decide) ?_
            exact aw_locl rfl (ih _ _ _ _ (nI_1 n) (by omega) (by omega) (by omega) (by omega) (by omega))
          · have hm2 := hki.mp (Int32.not_le.mp c_36)
            refine a_iload K dX7_placeOf_39 rfl ?_
            refine a_iconst K dX7_placeOf_41 (v := 1) (by decide) ?_
            refine a_iadd K dX7_placeOf_42 ?_
            rw [nI_1]
            refine a_istore_n K dX7_placeOf_43 (by decide) ?_
            refine a_goto K dX7_placeOf_44 (tgt := 50) (by decide) ?_
            refine a_iinc K dX7_placeOf_50 (v := 1) rfl (by decide) (by decide) ?_
            refine a_goto K dX7_placeOf_53 (tgt := 10) (by decide) ?_
            exact aw_locl rfl (ih _ _ _ _ (nI_1 n) (by omega) (by omega) (by omega) (by omega) (by omega))
  refine a_iconst K dX7_placeOf_0 (v := 0) (by decide) ?_
  refine a_istore_n K dX7_placeOf_1 (by decide) ?_
  first | refine a_aload_n K dX7_placeOf_2 rfl ?_ | refine a_aload_nN K dX7_placeOf_2 rfl ?_
  refine a_getI K fd_X7_18 (by assumption) (Or.inl rfl) dX7_placeOf_3 ?_
  rw [hs]
  refine a_istore_n K dX7_placeOf_6 (by decide) ?_
  refine a_iconst K dX7_placeOf_7 (v := 0) (by decide) ?_
  refine a_istore K dX7_placeOf_8 (by decide) ?_
  exact aw_locl rfl (loop 60 0 0 E.length 0 nI_0.symm (by omega) (Nat.zero_le _) hk (Nat.le_refl _) (by omega))
theorem valIn_y {E : List KV} {key : Int32} (h : kpl E key < E.length) (h2 : keyAtL E (kpl E key) = key) : valIn E key = valAtL E (kpl E key) := by
  have hx := List.getElem?_eq_getElem h
  rw [keyAtL_in hx] at h2
  rw [valAtL_in hx]
  unfold valIn
  rw [hx]
  exact if_pos h2
theorem valIn_n {E : List KV} {key : Int32} (h : ¬ (kpl E key < E.length ∧ keyAtL E (kpl E key) = key)) : valIn E key = -1000000 := by
  unfold valIn
  cases hx : E[kpl E key]? with
  | none => rfl
  | some x =>
    refine if_neg (fun z => h ⟨(List.getElem?_eq_some_iff.mp hx).1, ?_⟩)
    rw [keyAtL_in hx]
    exact z
set_option maxHeartbeats 4000000 in
set_option maxRecDepth 100000 in
theorem m_R_valueOf {S : aw_S} {rr ka va : Nat} {E : List KV} {key : Int32} (hR : RoW S rr ka va E) (hsE : srt E) : aw_M yX7_valueOf cX7_valueOf 3 (some FieldType.int) 2 0 0 [.ref rr, .int key] S (fun r2 S2 => r2 = some (.int (valIn E key)) ∧ S2 = S) := by
  have oR := hR.1
  have h60 := hR.2.2.2.2.2.2.2.2.2.1
  have hk := kpl_le key E
  refine aw_enter (by decide +kernel) (Nat.le_of_ble_eq_true rfl) (fun g K EE => ?_)
  first | refine a_aload_n K dX7_valueOf_0 rfl ?_ | refine a_aload_nN K dX7_valueOf_0 rfl ?_
  refine a_iload_n K dX7_valueOf_1 rfl ?_
  refine a_invV K (m_R_placeOf (key := key) hR hsE) my_X7_placeOf ml_X7_60 im_X7_placeOf se_X7_placeOf (ci := 7) (by assumption) (by decide) ⟨_, _, rfl⟩ rfl (by omega) (by omega) (by omega) rfl (Nat.le_of_ble_eq_true rfl) dX7_valueOf_2 ?_
  intro r9 S9 hp9
  obtain ⟨rfl, hS9⟩ := hp9
  obtain rfl := hS9.symm
  refine a_istore_n K dX7_valueOf_5 (by decide) ?_
  first | refine a_aload_n K dX7_valueOf_6 rfl ?_ | refine a_aload_nN K dX7_valueOf_6 rfl ?_
  refine a_iload_n K dX7_valueOf_7 rfl ?_
  refine a_iload_n K dX7_valueOf_8 rfl ?_
  refine a_invV K (m_R_holdsAt (key := key) hR (show kpl E key < 2 ^ 31 by omega)) my_X7_holdsAt ml_X7_63 im_X7_holdsAt se_X7_holdsAt (ci := 7) (by assumption) (by decide) ⟨_, _, rfl⟩ rfl (by omega) (by omega) (by omega) rfl (Nat.le_of_ble_eq_true rfl) dX7_valueOf_9 ?_
  intro r9 S9 hp9
  obtain ⟨hS9, hb9⟩ := hp9
  obtain rfl := hS9.symm
  rcases hb9 with ⟨b_9, rfl⟩ | ⟨b_9, rfl⟩
  · refine a_if_eq K dX7_valueOf_12 (tgt := 23) (by decide) (fun z => absurd z (by decide)) (fun _ => ?_)
    first | refine a_aload_n K dX7_valueOf_15 rfl ?_ | refine a_aload_nN K dX7_valueOf_15 rfl ?_
    refine a_iload_n K dX7_valueOf_16 rfl ?_
    refine a_invV K (m_R_valueAt hR (show kpl E key < 2 ^ 31 by omega)) my_X7_valueAt ml_X7_67 im_X7_valueAt se_X7_valueAt (ci := 7) (by assumption) (by decide) ⟨_, _, rfl⟩ rfl (by omega) (by omega) (by omega) rfl (Nat.le_of_ble_eq_true rfl) dX7_valueOf_17 ?_
    intro r9 S9 hp9
    obtain ⟨rfl, hS9⟩ := hp9
    obtain rfl := hS9.symm
    refine a_goto K dX7_valueOf_20 (tgt := 25) (by decide) ?_
    exact a_iret K EE rfl (by omega) (by omega) dX7_valueOf_25 ⟨by first | rw [valIn_y b_9.1 b_9.2] | rw [valIn_n b_9], rfl⟩
  · refine a_if_eq K dX7_valueOf_12 (tgt := 23) (by decide) (fun _ => ?_) (fun z => absurd z (by decide))
    refine a_ldc K kc_X7_58 dX7_valueOf_23 ?_
    exact a_iret K EE rfl (by omega) (by omega) dX7_valueOf_25 ⟨by first | rw [valIn_y b_9.1 b_9.2] | rw [valIn_n b_9], rfl⟩
