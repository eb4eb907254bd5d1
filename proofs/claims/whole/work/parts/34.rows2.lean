/-- values of keys from one to another, added -/
def smE (f t : Int32) : List KV → Int32 → Int32
  | [], acc => acc
  | x :: r, acc => smE f t r (if f ≤ x.1 ∧ x.1 ≤ t then acc + x.2 else acc)
theorem smE_at {f t : Int32} {E : List KV} {j : Nat} (hj : j < E.length) (acc : Int32) : smE f t (E.drop j) acc = smE f t (E.drop (j + 1)) (if f ≤ E[j].1 ∧ E[j].1 ≤ t then acc + E[j].2 else acc) := by rw [List.drop_eq_getElem_cons hj, smE]
/-- how many keys of F aren't in E, from a count on -/
def swE (E : List KV) : List KV → Nat → Nat
  | [], n => n
  | x :: r, n => swE E r (if valIn E x.1 = -1000000 then n + 1 else n)
theorem swE_at {E F : List KV} {j : Nat} (hj : j < F.length) (n : Nat) : swE E (F.drop j) n = swE E (F.drop (j + 1)) (if valIn E F[j].1 = -1000000 then n + 1 else n) := by rw [List.drop_eq_getElem_cons hj, swE]
theorem swE_le (E : List KV) : ∀ (F : List KV) (n : Nat), n ≤ swE E F n ∧ swE E F n ≤ n + F.length
  | [], n => ⟨Nat.le_refl _, Nat.le_refl _⟩
  | x :: r, n => by
    by_cases hc : valIn E x.1 = -1000000
    · have e : swE E (x :: r) n = swE E r (n + 1) := by rw [swE, if_pos hc]
      rw [e, List.length_cons]
      have h := swE_le E r (n + 1)
      omega
    · have e : swE E (x :: r) n = swE E r n := by rw [swE, if_neg hc]
      rw [e, List.length_cons]
      have h := swE_le E r n
      omega
set_option maxHeartbeats 4000000 in
set_option maxRecDepth 100000 in
theorem m_R_sum {S : aw_S} {rr ka va : Nat} {E : List KV} {f t R : Int32} (hR : RoW S rr ka va E) (hq : smE f t E 0 = R) : aw_M yX7_sum cX7_sum 5 (some FieldType.int) 1 0 0 [.ref rr, .int f, .int t] S (fun r2 S2 => r2 = some (.int R) ∧ S2 = S) := by
  have oR := hR.1
  have h60 := hR.2.2.2.2.2.2.2.2.2.1
  have hs := hR.2.2.2.2.2.2.2.2.1
  refine aw_enter (by decide +kernel) (Nat.le_of_ble_eq_true rfl) (fun g K EE => ?_)
  have loop : ∀ (i j : Nat) (x b : Int32), x = nI j → j + i = E.length → smE f t (E.drop j) b = R → aw g 5 S 0 0 [(4, .int x), (3, .int b), (2, .int t), (1, .int f), (0, .ref rr)] [] 5 := by
    intro i
    induction i with
    | zero =>
      intro j x b hx hi hb
      subst hx
      refine a_iload K dX7_sum_5 rfl ?_
      first | refine a_aload_n K dX7_sum_7 rfl ?_ | refine a_aload_nN K dX7_sum_7 rfl ?_
      refine a_getI K fd_X7_18 (by assumption) (Or.inl rfl) dX7_sum_8 ?_
      refine a_icmp_ge K dX7_sum_11 (tgt := 49) (by decide) (fun c_11 => ?_) (fun c_11 => absurd c_11 (by rw [hs]; exact fun z => z (nI_le (by omega) (by omega))))
      refine a_iload_n K dX7_sum_49 rfl ?_
      exact a_iret K EE rfl (by omega) (by omega) dX7_sum_50 ⟨by rw [← hb, show j = E.length by omega, List.drop_length]; rfl, rfl⟩
    | succ i ih =>
      intro j x b hx hi hb
      subst hx
      refine a_iload K dX7_sum_5 rfl ?_
      have hj : j < E.length := by omega
      have hx := List.getElem?_eq_getElem hj
      first | refine a_aload_n K dX7_sum_7 rfl ?_ | refine a_aload_nN K dX7_sum_7 rfl ?_
      refine a_getI K fd_X7_18 (by assumption) (Or.inl rfl) dX7_sum_8 ?_
      refine a_icmp_ge K dX7_sum_11 (tgt := 49) (by decide) (fun c_11 => absurd c_11 (by rw [hs]; exact nI_ge hj (by omega))) (fun c_11 => ?_)
      first | refine a_aload_n K dX7_sum_14 rfl ?_ | refine a_aload_nN K dX7_sum_14 rfl ?_
      refine a_iload K dX7_sum_15 rfl ?_
      refine a_invV K (m_R_keyAt hR (show j < 2 ^ 31 by omega)) my_X7_keyAt ml_X7_59 im_X7_keyAt se_X7_keyAt (ci := 7) (by assumption) (by decide) ⟨_, _, rfl⟩ rfl (by omega) (by omega) (by omega) rfl (Nat.le_of_ble_eq_true rfl) dX7_sum_17 ?_
      intro r9 S9 hp9
      obtain ⟨rfl, hS9⟩ := hp9
      obtain rfl := hS9.symm
      rw [keyAtL_in hx]
      refine a_iload_n K dX7_sum_20 rfl ?_
      refine a_icmp_lt K dX7_sum_21 (tgt := 43) (by decide) (fun c_21 => ?_) (fun c_21 => ?_)
      · have hcond : ¬ (f ≤ E[j].1 ∧ E[j].1 ≤ t) := fun z => absurd z.1 (Int32.not_le.mpr c_21)
        refine a_iinc K dX7_sum_43 (v := 1) rfl (by decide) (by decide) ?_
        refine a_goto K dX7_sum_46 (tgt := 5) (by decide) ?_
        exact aw_locl rfl (ih (j + 1) _ _ (nI_1 j) (by omega) (by first | rw [smE_at hj, if_pos hcond] at hb; exact hb | rw [smE_at hj, if_neg hcond] at hb; exact hb))
      · first | refine a_aload_n K dX7_sum_24 rfl ?_ | refine a_aload_nN K dX7_sum_24 rfl ?_
        refine a_iload K dX7_sum_25 rfl ?_
        refine a_invV K (m_R_keyAt hR (show j < 2 ^ 31 by omega)) my_X7_keyAt ml_X7_59 im_X7_keyAt se_X7_keyAt (ci := 7) (by assumption) (by decide) ⟨_, _, rfl⟩ rfl (by omega) (by omega) (by omega) rfl (Nat.le_of_ble_eq_true rfl) dX7_sum_27 ?_
        intro r9 S9 hp9
        obtain ⟨rfl, hS9⟩ := hp9
        obtain rfl := hS9.symm
        rw [keyAtL_in hx]
        refine a_iload_n K dX7_sum_30 rfl ?_
        refine a_icmp_gt K dX7_sum_31 (tgt := 43) (by decide) (fun c_31 => ?_) (fun c_31 => ?_)
        · have hcond : ¬ (f ≤ E[j].1 ∧ E[j].1 ≤ t) := fun z => absurd z.2 (Int32.not_le.mpr c_31)
          refine a_iinc K dX7_sum_43 (v := 1) rfl (by decide) (by decide) ?_
          refine a_goto K dX7_sum_46 (tgt := 5) (by decide) ?_
          exact aw_locl rfl (ih (j + 1) _ _ (nI_1 j) (by omega) (by first | rw [smE_at hj, if_pos hcond] at hb; exact hb | rw [smE_at hj, if_neg hcond] at hb; exact hb))
        · have hcond : f ≤ E[j].1 ∧ E[j].1 ≤ t := ⟨Int32.not_lt.mp c_21, Int32.not_lt.mp c_31⟩
          refine a_iload_n K dX7_sum_34 rfl ?_
          first | refine a_aload_n K dX7_sum_35 rfl ?_ | refine a_aload_nN K dX7_sum_35 rfl ?_
          refine a_iload K dX7_sum_36 rfl ?_
          refine a_invV K (m_R_valueAt hR (show j < 2 ^ 31 by omega)) my_X7_valueAt ml_X7_67 im_X7_valueAt se_X7_valueAt (ci := 7) (by assumption) (by decide) ⟨_, _, rfl⟩ rfl (by omega) (by omega) (by omega) rfl (Nat.le_of_ble_eq_true rfl) dX7_sum_38 ?_
          intro r9 S9 hp9
          obtain ⟨rfl, hS9⟩ := hp9
          obtain rfl := hS9.symm
          rw [valAtL_in hx]
          refine a_iadd K dX7_sum_41 ?_
          refine a_istore_n K dX7_sum_42 (by decide) ?_
          refine a_iinc K dX7_sum_43 (v := 1) rfl (by decide) (by decide) ?_
          refine a_goto K dX7_sum_46 (tgt := 5) (by decide) ?_
          exact aw_locl rfl (ih (j + 1) _ _ (nI_1 j) (by omega) (by first | rw [smE_at hj, if_pos hcond] at hb; exact hb | rw [smE_at hj, if_neg hcond] at hb; exact hb))
  refine a_iconst K dX7_sum_0 (v := 0) (by decide) ?_
  refine a_istore_n K dX7_sum_1 (by decide) ?_
  refine a_iconst K dX7_sum_2 (v := 0) (by decide) ?_
  refine a_istore K dX7_sum_3 (by decide) ?_
  exact aw_locl rfl (loop E.length 0 0 0 nI_0.symm (by omega) hq)
set_option maxHeartbeats 4000000 in
set_option maxRecDepth 100000 in
theorem m_R_sizeWith {S : aw_S} {rr ka va rs kb vb : Nat} {E F : List KV} {R : Nat} (hR : RoW S rr ka va E) (hF : RoW S rs kb vb F) (hsE : srt E) (hq : swE E F E.length = R) : aw_M yX7_sizeWith cX7_sizeWith 4 (some FieldType.int) 3 0 0 [.ref rr, .ref rs] S (fun r2 S2 => r2 = some (.int (nI R)) ∧ S2 = S) := by
  have oR := hR.1
  have h60 := hR.2.2.2.2.2.2.2.2.2.1
  have hs := hR.2.2.2.2.2.2.2.2.1
  have oF := hF.1
  have f60 := hF.2.2.2.2.2.2.2.2.2.1
  have hs2 := hF.2.2.2.2.2.2.2.2.1
  refine aw_enter (by decide +kernel) (Nat.le_of_ble_eq_true rfl) (fun g K EE => ?_)
  have loop : ∀ (i j n : Nat) (x b : Int32), x = nI j → b = nI n → j + i = F.length → swE E (F.drop j) n = R → aw g 4 S 0 0 [(3, .int x), (2, .int b), (1, .ref rs), (0, .ref rr)] [] 7 := by
    intro i
    induction i with
    | zero =>
      intro j n x b hx hb0 hi hb
      subst hx
      subst hb0
      refine a_iload_n K dX7_sizeWith_7 rfl ?_
      first | refine a_aload_n K dX7_sizeWith_8 rfl ?_ | refine a_aload_nN K dX7_sizeWith_8 rfl ?_
      refine a_getI K fd_X7_18 (by assumption) (Or.inl rfl) dX7_sizeWith_9 ?_
      refine a_icmp_ge K dX7_sizeWith_12 (tgt := 38) (by decide) (fun c_12 => ?_) (fun c_12 => absurd c_12 (by rw [hs2]; exact fun z => z (nI_le (by omega) (by omega))))
      refine a_iload_n K dX7_sizeWith_38 rfl ?_
      exact a_iret K EE rfl (by omega) (by omega) dX7_sizeWith_39 ⟨by rw [← hb, show j = F.length by omega, List.drop_length]; rfl, rfl⟩
    | succ i ih =>
      intro j n x b hx hb0 hi hb
      subst hx
      subst hb0
      refine a_iload_n K dX7_sizeWith_7 rfl ?_
      have hj : j < F.length := by omega
      have hx := List.getElem?_eq_getElem hj
      first | refine a_aload_n K dX7_sizeWith_8 rfl ?_ | refine a_aload_nN K dX7_sizeWith_8 rfl ?_
      refine a_getI K fd_X7_18 (by assumption) (Or.inl rfl) dX7_sizeWith_9 ?_
      refine a_icmp_ge K dX7_sizeWith_12 (tgt := 38) (by decide) (fun c_12 => absurd c_12 (by rw [hs2]; exact nI_ge hj (by omega))) (fun c_12 => ?_)
      first | refine a_aload_n K dX7_sizeWith_15 rfl ?_ | refine a_aload_nN K dX7_sizeWith_15 rfl ?_
      first | refine a_aload_n K dX7_sizeWith_16 rfl ?_ | refine a_aload_nN K dX7_sizeWith_16 rfl ?_
      refine a_iload_n K dX7_sizeWith_17 rfl ?_
      refine a_invV K (m_R_keyAt hF (show j < 2 ^ 31 by omega)) my_X7_keyAt ml_X7_59 im_X7_keyAt se_X7_keyAt (ci := 7) (by assumption) (by decide) ⟨_, _, rfl⟩ rfl (by omega) (by omega) (by omega) rfl (Nat.le_of_ble_eq_true rfl) dX7_sizeWith_18 ?_
      intro r9 S9 hp9
      obtain ⟨rfl, hS9⟩ := hp9
      obtain rfl := hS9.symm
      rw [keyAtL_in hx]
      refine a_invV K (m_R_valueOf (key := F[j].1) hR hsE) my_X7_valueOf ml_X7_68 im_X7_valueOf se_X7_valueOf (ci := 7) (by assumption) (by decide) ⟨_, _, rfl⟩ rfl (by omega) (by omega) (by omega) rfl (Nat.le_of_ble_eq_true rfl) dX7_sizeWith_21 ?_
      intro r9 S9 hp9
      obtain ⟨rfl, hS9⟩ := hp9
      obtain rfl := hS9.symm
      refine a_ldc K kc_X7_58 dX7_sizeWith_24 ?_
      refine a_icmp_ne K dX7_sizeWith_26 (tgt := 32) (by decide) (fun c_26 => ?_) (fun c_26 => ?_)
      · rw [swE_at hj, if_neg c_26] at hb
        refine a_iinc K dX7_sizeWith_32 (v := 1) rfl (by decide) (by decide) ?_
        refine a_goto K dX7_sizeWith_35 (tgt := 7) (by decide) ?_
        exact aw_locl rfl (by first | exact ih (j + 1) _ _ _ (nI_1 j) (nI_1 n) (by omega) hb | exact ih (j + 1) _ _ _ (nI_1 j) rfl (by omega) hb)
      · rw [swE_at hj, if_pos (by first | exact c_26 | exact Classical.not_not.mp c_26)] at hb
        refine a_iinc K dX7_sizeWith_29 (v := 1) rfl (by decide) (by decide) ?_
        refine a_iinc K dX7_sizeWith_32 (v := 1) rfl (by decide) (by decide) ?_
        refine a_goto K dX7_sizeWith_35 (tgt := 7) (by decide) ?_
        exact aw_locl rfl (by first | exact ih (j + 1) _ _ _ (nI_1 j) (nI_1 n) (by omega) hb | exact ih (j + 1) _ _ _ (nI_1 j) rfl (by omega) hb)
  first | refine a_aload_n K dX7_sizeWith_0 rfl ?_ | refine a_aload_nN K dX7_sizeWith_0 rfl ?_
  refine a_getI K fd_X7_18 (by assumption) (Or.inl rfl) dX7_sizeWith_1 ?_
  rw [hs]
  refine a_istore_n K dX7_sizeWith_4 (by decide) ?_
  refine a_iconst K dX7_sizeWith_5 (v := 0) (by decide) ?_
  refine a_istore_n K dX7_sizeWith_6 (by decide) ?_
  exact aw_locl rfl (loop F.length 0 E.length 0 _ nI_0.symm rfl (by omega) hq)
set_option maxHeartbeats 4000000 in
set_option maxRecDepth 100000 in
theorem m_R_isSameAs_y {S : aw_S} {rr ka va rs kb vb : Nat} {E F : List KV} (hR : RoW S rr ka va E) (hF : RoW S rs kb vb F) (hlen : E.length = F.length) : aw_M yX7_isSameAs cX7_isSameAs 3 (some FieldType.boolean) 1 0 0 [.ref rr, .ref rs] S (fun r2 S2 => S2 = S ∧ bR (E = F) r2) := by
  have oR := hR.1
  have h60 := hR.2.2.2.2.2.2.2.2.2.1
  have hs := hR.2.2.2.2.2.2.2.2.1
  have oF := hF.1
  have f60 := hF.2.2.2.2.2.2.2.2.2.1
  have hs2 := hF.2.2.2.2.2.2.2.2.1
  refine aw_enter (by decide +kernel) (Nat.le_of_ble_eq_true rfl) (fun g K EE => ?_)
  have loop : ∀ (i j : Nat) (x : Int32), x = nI j → j + i = E.length → E.take j = F.take j → aw g 3 S 0 0 [(2, .int x), (1, .ref rs), (0, .ref rr)] [] 15 := by
    intro i
    induction i with
    | zero =>
      intro j x hx hi ht
      subst hx
      refine a_iload_n K dX7_isSameAs_15 rfl ?_
      first | refine a_aload_n K dX7_isSameAs_16 rfl ?_ | refine a_aload_nN K dX7_isSameAs_16 rfl ?_
      refine a_getI K fd_X7_18 (by assumption) (Or.inl rfl) dX7_isSameAs_17 ?_
      refine a_icmp_ge K dX7_isSameAs_20 (tgt := 57) (by decide) (fun c_20 => ?_) (fun c_20 => absurd c_20 (by rw [hs]; exact fun z => z (nI_le (by omega) (by omega))))
      refine a_iconst K dX7_isSameAs_57 (v := 1) (by decide) ?_
      exact a_iret K EE rfl (by omega) (by omega) dX7_isSameAs_58 ⟨rfl, Or.inl ⟨by rw [show j = E.length by omega, List.take_length, hlen, List.take_length] at ht; exact ht, rfl⟩⟩
    | succ i ih =>
      intro j x hx hi ht
      subst hx
      refine a_iload_n K dX7_isSameAs_15 rfl ?_
      have hj : j < E.length := by omega
      have hj2 : j < F.length := by omega
      have hx := List.getElem?_eq_getElem hj
      have hy := List.getElem?_eq_getElem hj2
      first | refine a_aload_n K dX7_isSameAs_16 rfl ?_ | refine a_aload_nN K dX7_isSameAs_16 rfl ?_
      refine a_getI K fd_X7_18 (by assumption) (Or.inl rfl) dX7_isSameAs_17 ?_
      refine a_icmp_ge K dX7_isSameAs_20 (tgt := 57) (by decide) (fun c_20 => absurd c_20 (by rw [hs]; exact nI_ge hj (by omega))) (fun c_20 => ?_)
      first | refine a_aload_n K dX7_isSameAs_23 rfl ?_ | refine a_aload_nN K dX7_isSameAs_23 rfl ?_
      refine a_iload_n K dX7_isSameAs_24 rfl ?_
      refine a_invV K (m_R_keyAt hR (show j < 2 ^ 31 by omega)) my_X7_keyAt ml_X7_59 im_X7_keyAt se_X7_keyAt (ci := 7) (by assumption) (by decide) ⟨_, _, rfl⟩ rfl (by omega) (by omega) (by omega) rfl (Nat.le_of_ble_eq_true rfl) dX7_isSameAs_25 ?_
      intro r9 S9 hp9
      obtain ⟨rfl, hS9⟩ := hp9
      obtain rfl := hS9.symm
      first | refine a_aload_n K dX7_isSameAs_28 rfl ?_ | refine a_aload_nN K dX7_isSameAs_28 rfl ?_
      refine a_iload_n K dX7_isSameAs_29 rfl ?_
      refine a_invV K (m_R_keyAt hF (show j < 2 ^ 31 by omega)) my_X7_keyAt ml_X7_59 im_X7_keyAt se_X7_keyAt (ci := 7) (by assumption) (by decide) ⟨_, _, rfl⟩ rfl (by omega) (by omega) (by omega) rfl (Nat.le_of_ble_eq_true rfl) dX7_isSameAs_30 ?_
      intro r9 S9 hp9
      obtain ⟨rfl, hS9⟩ := hp9
      obtain rfl := hS9.symm
      rw [keyAtL_in hx, keyAtL_in hy]
      refine a_icmp_ne K dX7_isSameAs_33 (tgt := 49) (by decide) (fun c_33 => ?_) (fun c_33 => ?_)
      · refine a_iconst K dX7_isSameAs_49 (v := 0) (by decide) ?_
        exact a_iret K EE rfl (by omega) (by omega) dX7_isSameAs_50 ⟨rfl, Or.inr ⟨fun z => by subst z; first | exact c_33 rfl | exact c_46 rfl, rfl⟩⟩
      · first | refine a_aload_n K dX7_isSameAs_36 rfl ?_ | refine a_aload_nN K dX7_isSameAs_36 rfl ?_
        refine a_iload_n K dX7_isSameAs_37 rfl ?_
        refine a_invV K (m_R_valueAt hR (show j < 2 ^ 31 by omega)) my_X7_valueAt ml_X7_67 im_X7_valueAt se_X7_valueAt (ci := 7) (by assumption) (by decide) ⟨_, _, rfl⟩ rfl (by omega) (by omega) (by omega) rfl (Nat.le_of_ble_eq_true rfl) dX7_isSameAs_38 ?_
        intro r9 S9 hp9
        obtain ⟨rfl, hS9⟩ := hp9
        obtain rfl := hS9.symm
        first | refine a_aload_n K dX7_isSameAs_41 rfl ?_ | refine a_aload_nN K dX7_isSameAs_41 rfl ?_
        refine a_iload_n K dX7_isSameAs_42 rfl ?_
        refine a_invV K (m_R_valueAt hF (show j < 2 ^ 31 by omega)) my_X7_valueAt ml_X7_67 im_X7_valueAt se_X7_valueAt (ci := 7) (by assumption) (by decide) ⟨_, _, rfl⟩ rfl (by omega) (by omega) (by omega) rfl (Nat.le_of_ble_eq_true rfl) dX7_isSameAs_43 ?_
        intro r9 S9 hp9
        obtain ⟨rfl, hS9⟩ := hp9
        obtain rfl := hS9.symm
        rw [valAtL_in hx, valAtL_in hy]
        refine a_icmp_eq K dX7_isSameAs_46 (tgt := 51) (by decide) (fun c_46 => ?_) (fun c_46 => ?_)
        · refine a_iinc K dX7_isSameAs_51 (v := 1) rfl (by decide) (by decide) ?_
          refine a_goto K dX7_isSameAs_54 (tgt := 15) (by decide) ?_
          exact aw_locl rfl (ih (j + 1) _ (nI_1 j) (by omega) (by rw [List.take_succ_eq_append_getElem hj, List.take_succ_eq_append_getElem hj2, ht, show E[j] = F[j] from Prod.ext (by first | exact c_33 | exact Classical.not_not.mp c_33) (by first | exact c_46 | exact Classical.not_not.mp c_46)]))
        · refine a_iconst K dX7_isSameAs_49 (v := 0) (by decide) ?_
          exact a_iret K EE rfl (by omega) (by omega) dX7_isSameAs_50 ⟨rfl, Or.inr ⟨fun z => by subst z; first | exact c_33 rfl | exact c_46 rfl, rfl⟩⟩
  first | refine a_aload_n K dX7_isSameAs_0 rfl ?_ | refine a_aload_nN K dX7_isSameAs_0 rfl ?_
  refine a_getI K fd_X7_18 (by assumption) (Or.inl rfl) dX7_isSameAs_1 ?_
  first | refine a_aload_n K dX7_isSameAs_4 rfl ?_ | refine a_aload_nN K dX7_isSameAs_4 rfl ?_
  refine a_getI K fd_X7_18 (by assumption) (Or.inl rfl) dX7_isSameAs_5 ?_
  rw [hs, hs2, hlen]
  refine a_icmp_eq K dX7_isSameAs_8 (tgt := 13) (by decide) (fun c_8 => ?_) (fun c_8 => absurd c_8 (fun z => z rfl))
  refine a_iconst K dX7_isSameAs_13 (v := 0) (by decide) ?_
  refine a_istore_n K dX7_isSameAs_14 (by decide) ?_
  exact aw_locl rfl (loop E.length 0 0 nI_0.symm (by omega) rfl)
set_option maxHeartbeats 4000000 in
set_option maxRecDepth 100000 in
theorem m_R_isSameAs {S : aw_S} {rr ka va rs kb vb : Nat} {E F : List KV} (hR : RoW S rr ka va E) (hF : RoW S rs kb vb F) : aw_M yX7_isSameAs cX7_isSameAs 3 (some FieldType.boolean) 1 0 0 [.ref rr, .ref rs] S (fun r2 S2 => S2 = S ∧ bR (E = F) r2) := by
  have oR := hR.1
  have h60 := hR.2.2.2.2.2.2.2.2.2.1
  have hs := hR.2.2.2.2.2.2.2.2.1
  have oF := hF.1
  have f60 := hF.2.2.2.2.2.2.2.2.2.1
  have hs2 := hF.2.2.2.2.2.2.2.2.1
  by_cases hlen : E.length = F.length
  · exact m_R_isSameAs_y hR hF hlen
  refine aw_enter (by decide +kernel) (Nat.le_of_ble_eq_true rfl) (fun g K EE => ?_)
  first | refine a_aload_n K dX7_isSameAs_0 rfl ?_ | refine a_aload_nN K dX7_isSameAs_0 rfl ?_
  refine a_getI K fd_X7_18 (by assumption) (Or.inl rfl) dX7_isSameAs_1 ?_
  first | refine a_aload_n K dX7_isSameAs_4 rfl ?_ | refine a_aload_nN K dX7_isSameAs_4 rfl ?_
  refine a_getI K fd_X7_18 (by assumption) (Or.inl rfl) dX7_isSameAs_5 ?_
  rw [hs, hs2]
  refine a_icmp_eq K dX7_isSameAs_8 (tgt := 13) (by decide) (fun c_8 => absurd c_8 (nI_ne (by omega) (by omega) hlen)) (fun c_8 => ?_)
  refine a_iconst K dX7_isSameAs_11 (v := 0) (by decide) ?_
  exact a_iret K EE rfl (by omega) (by omega) dX7_isSameAs_12 ⟨rfl, Or.inr ⟨fun z => hlen (congrArg List.length z), rfl⟩⟩
