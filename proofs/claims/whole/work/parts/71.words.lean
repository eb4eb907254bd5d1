/-! words of a text, and the draft -/
def newS (w : Int32) : ST := fun k => if k = 0 then w else -1000000
def setN (s : ST) (i : Nat) (x : Int32) : ST := fun k => if k = i then x else s k
theorem nI_4 (n : Nat) : nI n * 4 = nI (4 * n) := by
  rw [Int32.mul_comm]
  exact (Int32.ofNat_mul 4 n).symm
theorem nI_add1 (a : Nat) : nI a + 1 = nI (a + 1) := nI_1 a
theorem nI_add2 (a : Nat) : nI a + (1 + 1) = nI (a + 2) := by rw [← Int32.add_assoc, nI_1, nI_1]
theorem nI_add3 (a : Nat) : nI a + (1 + 1 + 1) = nI (a + 3) := by rw [← Int32.add_assoc, nI_add2, nI_1]
def Qpg (q : Nat × Nat) (b : Nat) : Prop := b = q.1 ∨ b = q.2
theorem PgW.ne {S : aw_S} {q : Nat × Nat} {p : List ST} (h : PgW S q p) : q.1 ≠ q.2 := ne_of_kind h.1 h.2.2.1 (by decide)
theorem PgW.frq {S S2 : aw_S} {P : Nat → Prop} {q : Nat × Nat} {p : List ST} (h : PgW S q p) (f : frS S S2 P) (n1 : ¬ P q.1) (n2 : ¬ P q.2) : PgW S2 q p := by
  obtain ⟨h1, h2, h3, h4, h5, h6, h7⟩ := h
  exact ⟨f.is h1, by rw [f.2.2.1]; exact h2, f.is h3, by rw [f.2.2.2.1]; exact h4, by rw [(f.2.2.2.2.2.2.2 _ n1).1]; exact h5, h6, fun i s hs k hk => by rw [(f.2.2.2.2.2.2.2 _ n2).2.1]; exact h7 i s hs k hk⟩
/-- a step more -/
def pgA (S : aw_S) (q : Nat × Nat) (n : Nat) (w : Int32) : aw_S := wI (wA (wA (wA (wA S q.2 (4 * n) w) q.2 (4 * n + 1) (-1000000)) q.2 (4 * n + 2) (-1000000)) q.2 (4 * n + 3) (-1000000)) 321 q.1 (nI (n + 1))
theorem pgA_fr {S : aw_S} {q : Nat × Nat} {n : Nat} {w : Int32} : frS S (pgA S q n w) (Qpg q) := ((((frS_wA.mono (fun _ z => Or.inr z)).st frS_wA (fun _ z => Or.inr z)).st frS_wA (fun _ z => Or.inr z)).st frS_wA (fun _ z => Or.inr z)).st (frS_wI (by decide)) (fun _ z => Or.inl z)
theorem PgW.app {S : aw_S} {q : Nat × Nat} {p : List ST} {w : Int32} (h : PgW S q p) (h16 : p.length < 16) : PgW (pgA S q p.length w) q (p ++ [newS w]) := by
  have f : frS S (pgA S q p.length w) (Qpg q) := pgA_fr
  obtain ⟨h1, h2, h3, h4, h5, h6, h7⟩ := h
  refine ⟨f.is h1, by rw [f.2.2.1]; exact h2, f.is h3, by rw [f.2.2.2.1]; exact h4, ?_, by rw [List.length_append, List.length_singleton]; omega, fun i s hs k hk => ?_⟩
  · unfold pgA
    rw [wI_at, List.length_append]
    rfl
  · unfold pgA
    rw [sA_wI, sA_wA, sA_wA, sA_wA, sA_wA]
    by_cases hi : i < p.length
    · rw [List.getElem?_append_left hi] at hs
      rw [if_neg (by omega), if_neg (by omega), if_neg (by omega), if_neg (by omega)]
      exact h7 i s hs k hk
    · rw [List.getElem?_append_right (by omega)] at hs
      have hi2 : i = p.length := by
        have h12 := (List.getElem?_eq_some_iff.mp hs).1
        simp at h12
        omega
      subst hi2
      rw [Nat.sub_self] at hs
      have hs2 : newS w = s := Option.some.inj hs
      subst hs2
      rcases (by omega : k = 0 ∨ k = 1 ∨ k = 2 ∨ k = 3) with rfl | rfl | rfl | rfl
      · rw [if_neg (by omega), if_neg (by omega), if_neg (by omega), if_pos ⟨rfl, by omega⟩]
        rfl
      · rw [if_neg (by omega), if_neg (by omega), if_pos ⟨rfl, by omega⟩]
        rfl
      · rw [if_neg (by omega), if_pos ⟨rfl, by omega⟩]
        rfl
      · rw [if_pos ⟨rfl, by omega⟩]
        rfl
theorem PgW.set {S : aw_S} {q : Nat × Nat} {p : List ST} {s : ST} {i : Nat} {x : Int32} (h : PgW S q (p ++ [s])) (hi : i < 4) : PgW (wA S q.2 (4 * p.length + i) x) q (p ++ [setN s i x]) := by
  obtain ⟨h1, h2, h3, h4, h5, h6, h7⟩ := h
  have hl : (p ++ [setN s i x]).length = (p ++ [s]).length := by rw [List.length_append, List.length_append]; rfl
  refine ⟨h1, h2, h3, h4, by rw [hl]; exact h5, by rw [hl]; exact h6, fun j t ht k hk => ?_⟩
  rw [sA_wA]
  by_cases hj : j < p.length
  · rw [List.getElem?_append_left hj] at ht
    rw [if_neg (by omega)]
    exact h7 j t (by rw [List.getElem?_append_left hj]; exact ht) k hk
  · rw [List.getElem?_append_right (by omega)] at ht
    have hj2 : j = p.length := by
      have h12 := (List.getElem?_eq_some_iff.mp ht).1
      simp at h12
      omega
    subst hj2
    rw [Nat.sub_self] at ht
    have ht2 : setN s i x = t := Option.some.inj ht
    subst ht2
    by_cases hk2 : k = i
    · subst hk2
      rw [if_pos ⟨rfl, rfl⟩]
      exact (if_pos rfl).symm
    · rw [if_neg (by omega), h7 p.length s (by rw [List.getElem?_append_right (Nat.le_refl _), Nat.sub_self]; rfl) k hk]
      exact (if_neg hk2).symm
theorem sI_wA1 {S : aw_S} {a k : Nat} {v : Int32} : sI (wA S a k v) = sI S := rfl
set_option maxHeartbeats 4000000 in
set_option maxRecDepth 100000 in
theorem m_append {S : aw_S} {q : Nat × Nat} {p : List ST} (hq : PgW S q p) (h16 : p.length < 16) {w : Int32} : aw_M yX5_append cX5_append 3 (none : Option FieldType) 0 0 0 [.ref q.1, .int w] S (fun r S2 => r = none ∧ PgW S2 q (p ++ [newS w]) ∧ frS S S2 (Qpg q)) := by
  have o5 := hq.1
  have r320 := hq.2.1
  have i13 := hq.2.2.1
  have n64 := hq.2.2.2.1
  have c5 := hq.2.2.2.2.1
  refine aw_enter (by decide +kernel) (Nat.le_of_ble_eq_true rfl) (fun g K EE => ?_)
  first | refine a_aload_n K dX5_append_0 rfl ?_ | refine a_aload_nN K dX5_append_0 rfl ?_
  refine a_getI K fd_X5_15 (by assumption) (Or.inl rfl) dX5_append_1 ?_
  rw [c5]
  refine a_bipush K dX5_append_4 (v := 16) (by decide) ?_
  refine a_icmp_ge K dX5_append_6 (tgt := 59) (by decide) (fun c_6 => absurd c_6 (nI_ge h16 (by decide))) (fun c_6 => ?_)
  first | refine a_aload_n K dX5_append_9 rfl ?_ | refine a_aload_nN K dX5_append_9 rfl ?_
  refine a_getRs K fd_X5_9 (by assumption) (Or.inr ⟨_, rfl⟩) (by assumption) dX5_append_10 ?_
  first | refine a_aload_n K dX5_append_13 rfl ?_ | refine a_aload_nN K dX5_append_13 rfl ?_
  refine a_getI K fd_X5_15 (by assumption) (Or.inl rfl) dX5_append_14 ?_
  rw [c5]
  refine a_iconst K dX5_append_17 (v := 4) (by decide) ?_
  refine a_imul K dX5_append_18 ?_
  rw [nI_4]
  refine a_iload_n K dX5_append_19 rfl ?_
  refine a_iast K (by assumption) (by show vp_in _ (sN S q.2); rw [n64]; exact vp_in_nI (by omega) (by omega)) dX5_append_20 ?_
  rw [nI_clamp (by omega)]
  refine a_iconst K dX5_append_21 (v := 1) (by decide) ?_
  refine a_istore_n K dX5_append_22 (by decide) ?_
  refine a_iload_n K dX5_append_23 rfl ?_
  refine a_iconst K dX5_append_24 (v := 4) (by decide) ?_
  refine a_icmp_ge K dX5_append_25 (tgt := 49) (by decide) (fun c_25 => absurd c_25 (by decide)) (fun c_25 => ?_)
  first | refine a_aload_n K dX5_append_28 rfl ?_ | refine a_aload_nN K dX5_append_28 rfl ?_
  refine a_getRs K fd_X5_9 (by assumption) (Or.inr ⟨_, rfl⟩) (by assumption) dX5_append_29 ?_
  first | refine a_aload_n K dX5_append_32 rfl ?_ | refine a_aload_nN K dX5_append_32 rfl ?_
  refine a_getI K fd_X5_15 (by assumption) (Or.inl rfl) dX5_append_33 ?_
  first | rw [show ∀ (k : Nat) (z : Int32), sI (wA S q.2 k z) 321 q.1 = nI p.length from fun _ _ => c5] | rw [show ∀ (k k2 : Nat) (z z2 : Int32), sI (wA (wA S q.2 k z) q.2 k2 z2) 321 q.1 = nI p.length from fun _ _ _ _ => c5] | rw [show ∀ (k k2 k3 : Nat) (z z2 z3 : Int32), sI (wA (wA (wA S q.2 k z) q.2 k2 z2) q.2 k3 z3) 321 q.1 = nI p.length from fun _ _ _ _ _ _ => c5]
  refine a_iconst K dX5_append_36 (v := 4) (by decide) ?_
  refine a_imul K dX5_append_37 ?_
  rw [nI_4]
  refine a_iload_n K dX5_append_38 rfl ?_
  refine a_iadd K dX5_append_39 ?_
  first | rw [nI_add1] | rw [nI_add2] | rw [nI_add3]
  refine a_ldc K kc_X5_19 dX5_append_40 ?_
  refine a_iast K (by assumption) (by show vp_in _ (sN S q.2); rw [n64]; exact vp_in_nI (by omega) (by omega)) dX5_append_42 ?_
  rw [nI_clamp (by omega)]
  refine a_iinc K dX5_append_43 (v := 1) rfl (by decide) (by decide) ?_
  refine a_goto K dX5_append_46 (tgt := 23) (by decide) ?_
  refine a_iload_n K dX5_append_23 rfl ?_
  refine a_iconst K dX5_append_24 (v := 4) (by decide) ?_
  refine a_icmp_ge K dX5_append_25 (tgt := 49) (by decide) (fun c_25 => absurd c_25 (by decide)) (fun c_25 => ?_)
  first | refine a_aload_n K dX5_append_28 rfl ?_ | refine a_aload_nN K dX5_append_28 rfl ?_
  refine a_getRs K fd_X5_9 (by assumption) (Or.inr ⟨_, rfl⟩) (by assumption) dX5_append_29 ?_
  first | refine a_aload_n K dX5_append_32 rfl ?_ | refine a_aload_nN K dX5_append_32 rfl ?_
  refine a_getI K fd_X5_15 (by assumption) (Or.inl rfl) dX5_append_33 ?_
  first | rw [show ∀ (k : Nat) (z : Int32), sI (wA S q.2 k z) 321 q.1 = nI p.length from fun _ _ => c5] | rw [show ∀ (k k2 : Nat) (z z2 : Int32), sI (wA (wA S q.2 k z) q.2 k2 z2) 321 q.1 = nI p.length from fun _ _ _ _ => c5] | rw [show ∀ (k k2 k3 : Nat) (z z2 z3 : Int32), sI (wA (wA (wA S q.2 k z) q.2 k2 z2) q.2 k3 z3) 321 q.1 = nI p.length from fun _ _ _ _ _ _ => c5]
  refine a_iconst K dX5_append_36 (v := 4) (by decide) ?_
  refine a_imul K dX5_append_37 ?_
  rw [nI_4]
  refine a_iload_n K dX5_append_38 rfl ?_
  refine a_iadd K dX5_append_39 ?_
  first | rw [nI_add1] | rw [nI_add2] | rw [nI_add3]
  refine a_ldc K kc_X5_19 dX5_append_40 ?_
  refine a_iast K (by assumption) (by show vp_in _ (sN S q.2); rw [n64]; exact vp_in_nI (by omega) (by omega)) dX5_append_42 ?_
  rw [nI_clamp (by omega)]
  refine a_iinc K dX5_append_43 (v := 1) rfl (by decide) (by decide) ?_
  refine a_goto K dX5_append_46 (tgt := 23) (by decide) ?_
  refine a_iload_n K dX5_append_23 rfl ?_
  refine a_iconst K dX5_append_24 (v := 4) (by decide) ?_
  refine a_icmp_ge K dX5_append_25 (tgt := 49) (by decide) (fun c_25 => absurd c_25 (by decide)) (fun c_25 => ?_)
  first | refine a_aload_n K dX5_append_28 rfl ?_ | refine a_aload_nN K dX5_append_28 rfl ?_
  refine a_getRs K fd_X5_9 (by assumption) (Or.inr ⟨_, rfl⟩) (by assumption) dX5_append_29 ?_
  first | refine a_aload_n K dX5_append_32 rfl ?_ | refine a_aload_nN K dX5_append_32 rfl ?_
  refine a_getI K fd_X5_15 (by assumption) (Or.inl rfl) dX5_append_33 ?_
  first | rw [show ∀ (k : Nat) (z : Int32), sI (wA S q.2 k z) 321 q.1 = nI p.length from fun _ _ => c5] | rw [show ∀ (k k2 : Nat) (z z2 : Int32), sI (wA (wA S q.2 k z) q.2 k2 z2) 321 q.1 = nI p.length from fun _ _ _ _ => c5] | rw [show ∀ (k k2 k3 : Nat) (z z2 z3 : Int32), sI (wA (wA (wA S q.2 k z) q.2 k2 z2) q.2 k3 z3) 321 q.1 = nI p.length from fun _ _ _ _ _ _ => c5]
  refine a_iconst K dX5_append_36 (v := 4) (by decide) ?_
  refine a_imul K dX5_append_37 ?_
  rw [nI_4]
  refine a_iload_n K dX5_append_38 rfl ?_
  refine a_iadd K dX5_append_39 ?_
  first | rw [nI_add1] | rw [nI_add2] | rw [nI_add3]
  refine a_ldc K kc_X5_19 dX5_append_40 ?_
  refine a_iast K (by assumption) (by show vp_in _ (sN S q.2); rw [n64]; exact vp_in_nI (by omega) (by omega)) dX5_append_42 ?_
  rw [nI_clamp (by omega)]
  refine a_iinc K dX5_append_43 (v := 1) rfl (by decide) (by decide) ?_
  refine a_goto K dX5_append_46 (tgt := 23) (by decide) ?_
  refine a_iload_n K dX5_append_23 rfl ?_
  refine a_iconst K dX5_append_24 (v := 4) (by decide) ?_
  refine a_icmp_ge K dX5_append_25 (tgt := 49) (by decide) (fun c_25 => ?_) (fun c_25 => absurd c_25 (by decide))
  first | refine a_aload_n K dX5_append_49 rfl ?_ | refine a_aload_nN K dX5_append_49 rfl ?_
  refine a_dup K dX5_append_50 rfl ?_
  refine a_getI K fd_X5_15 (by assumption) (Or.inl rfl) dX5_append_51 ?_
  rw [show ∀ (k k2 k3 k4 : Nat) (z z2 z3 z4 : Int32), sI (wA (wA (wA (wA S q.2 k z) q.2 k2 z2) q.2 k3 z3) q.2 k4 z4) 321 q.1 = nI p.length from fun _ _ _ _ _ _ _ _ => c5]
  refine a_iconst K dX5_append_54 (v := 1) (by decide) ?_
  refine a_iadd K dX5_append_55 ?_
  rw [nI_1]
  refine a_putI K fd_X5_15 (by assumption) rfl dX5_append_56 ?_
  exact a_vret K EE (by omega) (by omega) dX5_append_59 ⟨rfl, hq.app h16, pgA_fr⟩
set_option maxHeartbeats 4000000 in
set_option maxRecDepth 100000 in
theorem m_setNumber {S : aw_S} {q : Nat × Nat} {p : List ST} {s : ST} (hq : PgW S q (p ++ [s])) {i : Nat} (hi0 : 0 < i) (hi : i < 4) {x : Int32} : aw_M yX5_setNumber cX5_setNumber 3 (none : Option FieldType) 0 0 0 [.ref q.1, .int (nI i), .int x] S (fun r S2 => r = none ∧ PgW S2 q (p ++ [setN s i x]) ∧ frS S S2 (Qpg q)) := by
  have o5 := hq.1
  have r320 := hq.2.1
  have i13 := hq.2.2.1
  have n64 := hq.2.2.2.1
  have c5 := hq.2.2.2.2.1
  have h16 := hq.2.2.2.2.2.1
  have hl16 : p.length < 16 := by rw [List.length_append, List.length_singleton] at h16; omega
  refine aw_enter (by decide +kernel) (Nat.le_of_ble_eq_true rfl) (fun g K EE => ?_)
  first | refine a_aload_n K dX5_setNumber_0 rfl ?_ | refine a_aload_nN K dX5_setNumber_0 rfl ?_
  refine a_getI K fd_X5_15 (by assumption) (Or.inl rfl) dX5_setNumber_1 ?_
  rw [c5]
  refine a_if_le K dX5_setNumber_4 (tgt := 41) (by decide) (fun c_4 => absurd c_4 (fun z => nI_nle (by rw [List.length_append]; exact Nat.succ_pos _) (by omega) z)) (fun c_4 => ?_)
  first | refine a_aload_n K dX5_setNumber_7 rfl ?_ | refine a_aload_nN K dX5_setNumber_7 rfl ?_
  refine a_getI K fd_X5_15 (by assumption) (Or.inl rfl) dX5_setNumber_8 ?_
  rw [c5]
  refine a_bipush K dX5_setNumber_11 (v := 16) (by decide) ?_
  refine a_icmp_gt K dX5_setNumber_13 (tgt := 41) (by decide) (fun c_13 => absurd c_13 (fun z => Int32.not_lt.mpr (nI_le (b := 16) h16 (by decide)) z)) (fun c_13 => ?_)
  refine a_iload_n K dX5_setNumber_16 rfl ?_
  refine a_if_le K dX5_setNumber_17 (tgt := 41) (by decide) (fun c_17 => absurd c_17 (fun z => nI_nle (n := i) hi0 (by omega) z)) (fun c_17 => ?_)
  refine a_iload_n K dX5_setNumber_20 rfl ?_
  refine a_iconst K dX5_setNumber_21 (v := 4) (by decide) ?_
  refine a_icmp_ge K dX5_setNumber_22 (tgt := 41) (by decide) (fun c_22 => absurd c_22 (nI_ge (b := 4) hi (by decide))) (fun c_22 => ?_)
  first | refine a_aload_n K dX5_setNumber_25 rfl ?_ | refine a_aload_nN K dX5_setNumber_25 rfl ?_
  refine a_getRs K fd_X5_9 (by assumption) (Or.inr ⟨_, rfl⟩) (by assumption) dX5_setNumber_26 ?_
  first | refine a_aload_n K dX5_setNumber_29 rfl ?_ | refine a_aload_nN K dX5_setNumber_29 rfl ?_
  refine a_getI K fd_X5_15 (by assumption) (Or.inl rfl) dX5_setNumber_30 ?_
  rw [c5]
  refine a_iconst K dX5_setNumber_33 (v := 1) (by decide) ?_
  refine a_isub K dX5_setNumber_34 ?_
  rw [show nI (p ++ [s]).length - 1 = nI p.length from by rw [List.length_append, List.length_singleton]; exact nI_pred _]
  refine a_iconst K dX5_setNumber_35 (v := 4) (by decide) ?_
  refine a_imul K dX5_setNumber_36 ?_
  rw [nI_4]
  refine a_iload_n K dX5_setNumber_37 rfl ?_
  refine a_iadd K dX5_setNumber_38 ?_
  rw [nI_add]
  refine a_iload_n K dX5_setNumber_39 rfl ?_
  refine a_iast K (by assumption) (by show vp_in _ (sN S q.2); rw [n64]; exact vp_in_nI (by omega) (by omega)) dX5_setNumber_40 ?_
  rw [nI_clamp (by omega)]
  exact a_vret K EE (by omega) (by omega) dX5_setNumber_41 ⟨rfl, hq.set hi, frS_wA.mono (fun _ z => Or.inr z)⟩
/-- which word begins so; 6: none -/
def wrdB (x : Int32) : Nat := if x = 112 then 0 else if x = 100 then 1 else if x = 97 then 2 else if x = 99 then 3 else if x = 105 then 4 else if x = 115 then 5 else 6
theorem wrdB_le (x : Int32) : wrdB x < 7 := by
  unfold wrdB
  repeat' split
  all_goals omega
theorem wrdB_out {x : Int32} (h : x.toInt < 97 ∨ 115 < x.toInt) : wrdB x = 6 := by
  unfold wrdB
  have k : ∀ c : Int32, ¬ (c.toInt < 97 ∨ 115 < c.toInt) → ¬ x = c := fun c hc z => hc (z ▸ h)
  rw [if_neg (k _ (by decide)), if_neg (k _ (by decide)), if_neg (k _ (by decide)), if_neg (k _ (by decide)), if_neg (k _ (by decide)), if_neg (k _ (by decide))]
set_option maxHeartbeats 4000000 in
set_option maxRecDepth 100000 in
theorem m_wordBeginning {S : aw_S} {x : Int32} : aw_M yX6_wordBeginning cX6_wordBeginning 1 (some FieldType.int) 0 0 0 [.int x] S (fun r S2 => r = some (.int (stW (wrdB x))) ∧ S2 = S) := by
  refine aw_enter (by decide +kernel) (Nat.le_of_ble_eq_true rfl) (fun g K EE => ?_)
  by_cases hx : x.toInt < 97 ∨ 115 < x.toInt
  · have hw := wrdB_out hx
    refine a_iload_n K dX6_wordBeginning_0 rfl ?_
    refine a_tsOut K dX6_wordBeginning_1 (tgt := 104) (hx) (by decide) ?_
    refine a_iconst K dX6_wordBeginning_104 (v := -1) (by decide) ?_
    exact a_iret K EE rfl (by omega) (by omega) dX6_wordBeginning_105 ⟨by rw [hw]; rfl, rfl⟩
  · obtain ⟨c, hc9, rfl⟩ := nI_of (x := x) (by rw [i32_lt]; show ¬ x.toInt < 0; omega)
    rw [nI_toInt hc9] at hx
    rcases (by omega : c = 97 ∨ c = 98 ∨ c = 99 ∨ c = 100 ∨ c = 101 ∨ c = 102 ∨ c = 103 ∨ c = 104 ∨ c = 105 ∨ c = 106 ∨ c = 107 ∨ c = 108 ∨ c = 109 ∨ c = 110 ∨ c = 111 ∨ c = 112 ∨ c = 113 ∨ c = 114 ∨ c = 115) with rfl | rfl | rfl | rfl | rfl | rfl | rfl | rfl | rfl | rfl | rfl | rfl | rfl | rfl | rfl | rfl | rfl | rfl | rfl
    · refine a_iload_n K dX6_wordBeginning_0 rfl ?_
      refine a_tsIn K dX6_wordBeginning_1 (off := 95) (tgt := 96) (by decide) (by decide) rfl (by decide) ?_
      refine a_iconst K dX6_wordBeginning_96 (v := 2) (by decide) ?_
      exact a_iret K EE rfl (by omega) (by omega) dX6_wordBeginning_97 ⟨congrArg (fun z => some (Value.int z)) (by decide), rfl⟩
    · refine a_iload_n K dX6_wordBeginning_0 rfl ?_
      refine a_tsIn K dX6_wordBeginning_1 (off := 103) (tgt := 104) (by decide) (by decide) rfl (by decide) ?_
      refine a_iconst K dX6_wordBeginning_104 (v := -1) (by decide) ?_
      exact a_iret K EE rfl (by omega) (by omega) dX6_wordBeginning_105 ⟨congrArg (fun z => some (Value.int z)) (by decide), rfl⟩
    · refine a_iload_n K dX6_wordBeginning_0 rfl ?_
      refine a_tsIn K dX6_wordBeginning_1 (off := 97) (tgt := 98) (by decide) (by decide) rfl (by decide) ?_
      refine a_iconst K dX6_wordBeginning_98 (v := 3) (by decide) ?_
      exact a_iret K EE rfl (by omega) (by omega) dX6_wordBeginning_99 ⟨congrArg (fun z => some (Value.int z)) (by decide), rfl⟩
    · refine a_iload_n K dX6_wordBeginning_0 rfl ?_
      refine a_tsIn K dX6_wordBeginning_1 (off := 93) (tgt := 94) (by decide) (by decide) rfl (by decide) ?_
      refine a_iconst K dX6_wordBeginning_94 (v := 1) (by decide) ?_
      exact a_iret K EE rfl (by omega) (by omega) dX6_wordBeginning_95 ⟨congrArg (fun z => some (Value.int z)) (by decide), rfl⟩
    · refine a_iload_n K dX6_wordBeginning_0 rfl ?_
      refine a_tsIn K dX6_wordBeginning_1 (off := 103) (tgt := 104) (by decide) (by decide) rfl (by decide) ?_
      refine a_iconst K dX6_wordBeginning_104 (v := -1) (by decide) ?_
      exact a_iret K EE rfl (by omega) (by omega) dX6_wordBeginning_105 ⟨congrArg (fun z => some (Value.int z)) (by decide), rfl⟩
    · refine a_iload_n K dX6_wordBeginning_0 rfl ?_
      refine a_tsIn K dX6_wordBeginning_1 (off := 103) (tgt := 104) (by decide) (by decide) rfl (by decide) ?_
      refine a_iconst K dX6_wordBeginning_104 (v := -1) (by decide) ?_
      exact a_iret K EE rfl (by omega) (by omega) dX6_wordBeginning_105 ⟨congrArg (fun z => some (Value.int z)) (by decide), rfl⟩
    · refine a_iload_n K dX6_wordBeginning_0 rfl ?_
      refine a_tsIn K dX6_wordBeginning_1 (off := 103) (tgt := 104) (by decide) (by decide) rfl (by decide) ?_
      refine a_iconst K dX6_wordBeginning_104 (v := -1) (by decide) ?_
      exact a_iret K EE rfl (by omega) (by omega) dX6_wordBeginning_105 ⟨congrArg (fun z => some (Value.int z)) (by decide), rfl⟩
    · refine a_iload_n K dX6_wordBeginning_0 rfl ?_
      refine a_tsIn K dX6_wordBeginning_1 (off := 103) (tgt := 104) (by decide) (by decide) rfl (by decide) ?_
      refine a_iconst K dX6_wordBeginning_104 (v := -1) (by decide) ?_
      exact a_iret K EE rfl (by omega) (by omega) dX6_wordBeginning_105 ⟨congrArg (fun z => some (Value.int z)) (by decide), rfl⟩
    · refine a_iload_n K dX6_wordBeginning_0 rfl ?_
      refine a_tsIn K dX6_wordBeginning_1 (off := 99) (tgt := 100) (by decide) (by decide) rfl (by decide) ?_
      refine a_iconst K dX6_wordBeginning_100 (v := 4) (by decide) ?_
      exact a_iret K EE rfl (by omega) (by omega) dX6_wordBeginning_101 ⟨congrArg (fun z => some (Value.int z)) (by decide), rfl⟩
    · refine a_iload_n K dX6_wordBeginning_0 rfl ?_
      refine a_tsIn K dX6_wordBeginning_1 (off := 103) (tgt := 104) (by decide) (by decide) rfl (by decide) ?_
      refine a_iconst K dX6_wordBeginning_104 (v := -1) (by decide) ?_
      exact a_iret K EE rfl (by omega) (by omega) dX6_wordBeginning_105 ⟨congrArg (fun z => some (Value.int z)) (by decide), rfl⟩
    · refine a_iload_n K dX6_wordBeginning_0 rfl ?_
      refine a_tsIn K dX6_wordBeginning_1 (off := 103) (tgt := 104) (by decide) (by decide) rfl (by decide) ?_
      refine a_iconst K dX6_wordBeginning_104 (v := -1) (by decide) ?_
      exact a_iret K EE rfl (by omega) (by omega) dX6_wordBeginning_105 ⟨congrArg (fun z => some (Value.int z)) (by decide), rfl⟩
    · refine a_iload_n K dX6_wordBeginning_0 rfl ?_
      refine a_tsIn K dX6_wordBeginning_1 (off := 103) (tgt := 104) (by decide) (by decide) rfl (by decide) ?_
      refine a_iconst K dX6_wordBeginning_104 (v := -1) (by decide) ?_
      exact a_iret K EE rfl (by omega) (by omega) dX6_wordBeginning_105 ⟨congrArg (fun z => some (Value.int z)) (by decide), rfl⟩
    · refine a_iload_n K dX6_wordBeginning_0 rfl ?_
      refine a_tsIn K dX6_wordBeginning_1 (off := 103) (tgt := 104) (by decide) (by decide) rfl (by decide) ?_
      refine a_iconst K dX6_wordBeginning_104 (v := -1) (by decide) ?_
      exact a_iret K EE rfl (by omega) (by omega) dX6_wordBeginning_105 ⟨congrArg (fun z => some (Value.int z)) (by decide), rfl⟩
    · refine a_iload_n K dX6_wordBeginning_0 rfl ?_
      refine a_tsIn K dX6_wordBeginning_1 (off := 103) (tgt := 104) (by decide) (by decide) rfl (by decide) ?_
      refine a_iconst K dX6_wordBeginning_104 (v := -1) (by decide) ?_
      exact a_iret K EE rfl (by omega) (by omega) dX6_wordBeginning_105 ⟨congrArg (fun z => some (Value.int z)) (by decide), rfl⟩
    · refine a_iload_n K dX6_wordBeginning_0 rfl ?_
      refine a_tsIn K dX6_wordBeginning_1 (off := 103) (tgt := 104) (by decide) (by decide) rfl (by decide) ?_
      refine a_iconst K dX6_wordBeginning_104 (v := -1) (by decide) ?_
      exact a_iret K EE rfl (by omega) (by omega) dX6_wordBeginning_105 ⟨congrArg (fun z => some (Value.int z)) (by decide), rfl⟩
    · refine a_iload_n K dX6_wordBeginning_0 rfl ?_
      refine a_tsIn K dX6_wordBeginning_1 (off := 91) (tgt := 92) (by decide) (by decide) rfl (by decide) ?_
      refine a_iconst K dX6_wordBeginning_92 (v := 0) (by decide) ?_
      exact a_iret K EE rfl (by omega) (by omega) dX6_wordBeginning_93 ⟨congrArg (fun z => some (Value.int z)) (by decide), rfl⟩
    · refine a_iload_n K dX6_wordBeginning_0 rfl ?_
      refine a_tsIn K dX6_wordBeginning_1 (off := 103) (tgt := 104) (by decide) (by decide) rfl (by decide) ?_
      refine a_iconst K dX6_wordBeginning_104 (v := -1) (by decide) ?_
      exact a_iret K EE rfl (by omega) (by omega) dX6_wordBeginning_105 ⟨congrArg (fun z => some (Value.int z)) (by decide), rfl⟩
    · refine a_iload_n K dX6_wordBeginning_0 rfl ?_
      refine a_tsIn K dX6_wordBeginning_1 (off := 103) (tgt := 104) (by decide) (by decide) rfl (by decide) ?_
      refine a_iconst K dX6_wordBeginning_104 (v := -1) (by decide) ?_
      exact a_iret K EE rfl (by omega) (by omega) dX6_wordBeginning_105 ⟨congrArg (fun z => some (Value.int z)) (by decide), rfl⟩
    · refine a_iload_n K dX6_wordBeginning_0 rfl ?_
      refine a_tsIn K dX6_wordBeginning_1 (off := 101) (tgt := 102) (by decide) (by decide) rfl (by decide) ?_
      refine a_iconst K dX6_wordBeginning_102 (v := 5) (by decide) ?_
      exact a_iret K EE rfl (by omega) (by omega) dX6_wordBeginning_103 ⟨congrArg (fun z => some (Value.int z)) (by decide), rfl⟩
/-- letters of String i from j on, at p: where it stops, whether all stand there -/
def matR (L : List Int32) (i : Nat) : Nat → Nat → Nat → Nat × Bool
  | 0, _, p => (p, true)
  | n + 1, j, p => if chr L p = stB i j then matR L i n (j + 1) (p + 1) else (p, false)
theorem stB_ne : ∀ i, i < 8 → ∀ j, j < st_len.getD i 0 → ¬ stB i j = -1 := by decide
theorem matR_le (L : List Int32) (i : Nat) (hi : i < 8) : ∀ n j p, j + n ≤ st_len.getD i 0 → p ≤ L.length → p ≤ (matR L i n j p).1 ∧ (matR L i n j p).1 ≤ L.length ∧ ((matR L i n j p).2 = true → (matR L i n j p).1 = p + n)
  | 0, j, p, hj, hp => ⟨Nat.le_refl _, hp, fun _ => rfl⟩
  | n + 1, j, p, hj, hp => by
    rw [matR]
    split
    · rename_i c
      have hin : p < L.length := Classical.byContradiction (fun z => by rw [chr_out (by omega)] at c; exact stB_ne i hi j (by omega) c.symm)
      obtain ⟨a1, a2, a3⟩ := matR_le L i hi n (j + 1) (p + 1) (by omega) (by omega)
      exact ⟨by omega, a2, fun z => by have := a3 z; omega⟩
    · exact ⟨Nat.le_refl _, hp, fun z => absurd z (by simp)⟩
def wrdM (L : List Int32) (p : Nat) : Nat × Bool := matR L (wrdB (chr L (skB L p))) (st_len.getD (wrdB (chr L (skB L p))) 0) 0 (skB L p)
/-- a word from p on -/
def wrdR (L : List Int32) (p : Nat) : Nat × Option Nat := ((wrdM L p).1, if (wrdM L p).2 = true ∧ wrdB (chr L (skB L p)) < 6 then some (wrdB (chr L (skB L p))) else none)
theorem st_l3 : ∀ i, i < 6 → 3 ≤ st_len.getD i 0 := by decide
theorem wrdR_le {L : List Int32} {p : Nat} (hp : p ≤ L.length) : (wrdR L p).1 ≤ L.length ∧ p ≤ (wrdR L p).1 ∧ ∀ w, (wrdR L p).2 = some w → w < 6 ∧ p + 3 ≤ (wrdR L p).1 := by
  obtain ⟨h1, h2⟩ := skB_le hp
  have h7 := wrdB_le (chr L (skB L p))
  obtain ⟨a1, a2, a3⟩ := matR_le L (wrdB (chr L (skB L p))) (by omega) (st_len.getD (wrdB (chr L (skB L p))) 0) 0 (skB L p) (by omega) h2
  refine ⟨a2, by show p ≤ (wrdM L p).1; unfold wrdM; omega, fun w hw => ?_⟩
  have hw : (if (wrdM L p).2 = true ∧ wrdB (chr L (skB L p)) < 6 then some (wrdB (chr L (skB L p))) else none) = some w := hw
  split at hw
  · rename_i c
    cases hw
    have := st_l3 _ c.2
    have := a3 c.1
    exact ⟨c.2, by show p + 3 ≤ (wrdM L p).1; unfold wrdM; omega⟩
  · exact absurd hw (by simp)
theorem wrdV {L : List Int32} {p : Nat} : (if (wrdM L p).2 = true then stW (wrdB (chr L (skB L p))) else (-1 : Int32)) = ((wrdR L p).2).elim (-1) nI := by
  have h7 := wrdB_le (chr L (skB L p))
  unfold wrdR
  by_cases h1 : (wrdM L p).2 = true
  · rw [if_pos h1]
    by_cases h2 : wrdB (chr L (skB L p)) < 6
    · rw [if_pos ⟨h1, h2⟩]
      exact if_neg (by omega)
    · rw [if_neg (fun z => h2 z.2), show wrdB (chr L (skB L p)) = 6 by omega]
      rfl
  · rw [if_neg h1, if_neg (fun z => h1 z.1)]
    rfl
set_option maxHeartbeats 4000000 in
set_option maxRecDepth 100000 in
theorem m_readWord {S : aw_S} {v : Nat → Nat} {L : List Int32} (h0 : RdS S v L) {p0 : Nat} (hp0 : p0 ≤ L.length) (ha0 : sI S 385 (v 2) = nI p0) : aw_M yX6_readWord cX6_readWord 4 (some FieldType.int) 4 0 0 [.ref (v 2)] S (fun r S2 => r = some (.int (((wrdR L p0).2).elim (-1) nI)) ∧ frS S S2 (fun b => b = v 2) ∧ sI S2 385 (v 2) = nI (wrdR L p0).1) := by
  have hs := skB_le hp0
  have h240 := h0.2.2.1
  have h0L := h0.1
  have o60 := lw_i2 h0L
  obtain ⟨i, hi⟩ : ∃ i, wrdB (chr L (skB L p0)) = i := ⟨_, rfl⟩
  have hi7 : i < 7 := hi ▸ wrdB_le _
  have hi8 : i < 8 := by omega
  have hl20 := st_l i hi8
  obtain ⟨F, hF⟩ : ∃ F, matR L i (st_len.getD i 0) 0 (skB L p0) = F := ⟨_, rfl⟩
  have hM : wrdM L p0 = F := by unfold wrdM; rw [hi]; exact hF
  refine aw_enter (by decide +kernel) (Nat.le_of_ble_eq_true rfl) (fun g K EE => ?_)
  obtain ⟨ad, av, Z⟩ := x_str K
  have loop : ∀ (n j p : Nat) (x : Int32) (T : aw_S), x = nI j → j + n = st_len.getD i 0 → p ≤ L.length → RdS T v L → frS S T (fun b => b = v 2) → sI T 385 (v 2) = nI p → matR L i n j p = F → aw g 4 T 0 0 [(3, .int x), (2, .ref (ad i)), (1, .int (stW i)), (0, .ref (v 2))] [] 26 := by
    intro n
    induction n with
    | zero =>
      intro j p x T hx hn hp h f ha hF
      subst hx
      have hL := h.1
      have o6 := lw_i2 hL
      have r384 := lw_f384_2 hL
      have o9 := lw_i0 hL
      have h240 := h.2.2.1
      refine a_iload_n K dX6_readWord_26 rfl ?_
      first | refine a_aload_n K dX6_readWord_27 rfl ?_ | refine a_aload_nN K dX6_readWord_27 rfl ?_
      refine x_invV K (Z i hi8) (strZ_ok _ _ _) (m_J0_length_8abf5 hi8) my_J0_length_8abf5 ml_X6_85 im_J0_length_8abf5 se_J0_length_8abf5 (fun _ _ _ h => h.2.1) rfl (by omega) (by omega) (by omega) rfl (Nat.le_of_ble_eq_true rfl) dX6_readWord_28 ?_
      intro r9 S9 hp9
      obtain ⟨rfl, hS9⟩ := hp9
      obtain rfl := hS9.symm
      refine a_icmp_ge K dX6_readWord_31 (tgt := 71) (by decide) (fun c_31 => ?_) (fun c_31 => absurd c_31 (fun z => z (nI_le (a := st_len.getD i 0) (b := j) (by omega) (by omega))))
      refine a_iload_n K dX6_readWord_71 rfl ?_
      exact a_iret K EE rfl (by omega) (by omega) dX6_readWord_72 (by rw [← wrdV]; show _ ∧ _ ∧ sI _ 385 (v 2) = nI (wrdM L p0).1; rw [hM, ← hF, show matR L i 0 j p = (p, true) from rfl, if_pos rfl, hi]; exact ⟨rfl, f, ha⟩)
    | succ n ih =>
      intro j p x T hx hn hp h f ha hF
      subst hx
      have hL := h.1
      have o6 := lw_i2 hL
      have r384 := lw_f384_2 hL
      have o9 := lw_i0 hL
      have h240 := h.2.2.1
      have hj : j < st_len.getD i 0 := by omega
      by_cases cb : chr L p = stB i j
      · have hin : p < L.length := Classical.byContradiction (fun z => by rw [chr_out (by omega)] at cb; exact stB_ne i hi8 j hj cb.symm)
        refine a_iload_n K dX6_readWord_26 rfl ?_
        first | refine a_aload_n K dX6_readWord_27 rfl ?_ | refine a_aload_nN K dX6_readWord_27 rfl ?_
        refine x_invV K (Z i hi8) (strZ_ok _ _ _) (m_J0_length_8abf5 hi8) my_J0_length_8abf5 ml_X6_85 im_J0_length_8abf5 se_J0_length_8abf5 (fun _ _ _ h => h.2.1) rfl (by omega) (by omega) (by omega) rfl (Nat.le_of_ble_eq_true rfl) dX6_readWord_28 ?_
        intro r9 S9 hp9
        obtain ⟨rfl, hS9⟩ := hp9
        obtain rfl := hS9.symm
        refine a_icmp_ge K dX6_readWord_31 (tgt := 71) (by decide) (fun c_31 => absurd c_31 (nI_ge (a := j) (b := st_len.getD i 0) (by omega) (by omega))) (fun c_31 => ?_)
        first | refine a_aload_n K dX6_readWord_34 rfl ?_ | refine a_aload_nN K dX6_readWord_34 rfl ?_
        refine a_getRs K fd_X6_9 (by assumption) (Or.inl ⟨_, rfl⟩) (by assumption) dX6_readWord_35 ?_
        first | refine a_aload_n K dX6_readWord_38 rfl ?_ | refine a_aload_nN K dX6_readWord_38 rfl ?_
        refine a_getI K fd_X6_20 (by assumption) (Or.inl rfl) dX6_readWord_39 ?_
        rw [ha]
        refine a_invV K (m_byteAt h (p := p) (by omega)) my_X9_byteAt ml_X6_72 im_X9_byteAt se_X9_byteAt (ci := 9) (by assumption) (by decide) ⟨_, _, rfl⟩ rfl (by omega) (by omega) (by omega) rfl (Nat.le_of_ble_eq_true rfl) dX6_readWord_42 ?_
        intro r9 S9 hp9
        obtain ⟨rfl, hS9⟩ := hp9
        obtain rfl := hS9.symm
        first | refine a_aload_n K dX6_readWord_45 rfl ?_ | refine a_aload_nN K dX6_readWord_45 rfl ?_
        refine a_iload_n K dX6_readWord_46 rfl ?_
        refine x_invV K (Z i hi8) (strZ_ok _ _ _) (m_J0_charAt_5068e hi8 hj) my_J0_charAt_5068e ml_X6_90 im_J0_charAt_5068e se_J0_charAt_5068e (fun _ _ _ h => h.2.1) rfl (by omega) (by omega) (by omega) rfl (Nat.le_of_ble_eq_true rfl) dX6_readWord_47 ?_
        intro r9 S9 hp9
        obtain ⟨rfl, hS9⟩ := hp9
        obtain rfl := hS9.symm
        refine a_icmp_eq K dX6_readWord_50 (tgt := 55) (by decide) (fun c_50 => ?_) (fun c_50 => absurd c_50 (fun z => z cb))
        first | refine a_aload_n K dX6_readWord_55 rfl ?_ | refine a_aload_nN K dX6_readWord_55 rfl ?_
        refine a_dup K dX6_readWord_56 rfl ?_
        refine a_getI K fd_X6_20 (by assumption) (Or.inl rfl) dX6_readWord_57 ?_
        rw [ha]
        refine a_iconst K dX6_readWord_60 (v := 1) (by decide) ?_
        refine a_iadd K dX6_readWord_61 ?_
        rw [nI_1]
        refine a_putI K fd_X6_20 (by assumption) rfl dX6_readWord_62 ?_
        refine a_iinc K dX6_readWord_65 (v := 1) rfl (by decide) (by decide) ?_
        refine a_goto K dX6_readWord_68 (tgt := 26) (by decide) ?_
        exact aw_locl rfl (ih (j + 1) (p + 1) _ _ (nI_1 j) (by omega) (by omega) (h.fr (frS_wI (by decide))) (f.st (frS_wI (by decide)) (fun _ z => z)) wI_at (by rw [← hF, matR, if_pos cb]))
      · refine a_iload_n K dX6_readWord_26 rfl ?_
        first | refine a_aload_n K dX6_readWord_27 rfl ?_ | refine a_aload_nN K dX6_readWord_27 rfl ?_
        refine x_invV K (Z i hi8) (strZ_ok _ _ _) (m_J0_length_8abf5 hi8) my_J0_length_8abf5 ml_X6_85 im_J0_length_8abf5 se_J0_length_8abf5 (fun _ _ _ h => h.2.1) rfl (by omega) (by omega) (by omega) rfl (Nat.le_of_ble_eq_true rfl) dX6_readWord_28 ?_
        intro r9 S9 hp9
        obtain ⟨rfl, hS9⟩ := hp9
        obtain rfl := hS9.symm
        refine a_icmp_ge K dX6_readWord_31 (tgt := 71) (by decide) (fun c_31 => absurd c_31 (nI_ge (a := j) (b := st_len.getD i 0) (by omega) (by omega))) (fun c_31 => ?_)
        first | refine a_aload_n K dX6_readWord_34 rfl ?_ | refine a_aload_nN K dX6_readWord_34 rfl ?_
        refine a_getRs K fd_X6_9 (by assumption) (Or.inl ⟨_, rfl⟩) (by assumption) dX6_readWord_35 ?_
        first | refine a_aload_n K dX6_readWord_38 rfl ?_ | refine a_aload_nN K dX6_readWord_38 rfl ?_
        refine a_getI K fd_X6_20 (by assumption) (Or.inl rfl) dX6_readWord_39 ?_
        rw [ha]
        refine a_invV K (m_byteAt h (p := p) (by omega)) my_X9_byteAt ml_X6_72 im_X9_byteAt se_X9_byteAt (ci := 9) (by assumption) (by decide) ⟨_, _, rfl⟩ rfl (by omega) (by omega) (by omega) rfl (Nat.le_of_ble_eq_true rfl) dX6_readWord_42 ?_
        intro r9 S9 hp9
        obtain ⟨rfl, hS9⟩ := hp9
        obtain rfl := hS9.symm
        first | refine a_aload_n K dX6_readWord_45 rfl ?_ | refine a_aload_nN K dX6_readWord_45 rfl ?_
        refine a_iload_n K dX6_readWord_46 rfl ?_
        refine x_invV K (Z i hi8) (strZ_ok _ _ _) (m_J0_charAt_5068e hi8 hj) my_J0_charAt_5068e ml_X6_90 im_J0_charAt_5068e se_J0_charAt_5068e (fun _ _ _ h => h.2.1) rfl (by omega) (by omega) (by omega) rfl (Nat.le_of_ble_eq_true rfl) dX6_readWord_47 ?_
        intro r9 S9 hp9
        obtain ⟨rfl, hS9⟩ := hp9
        obtain rfl := hS9.symm
        refine a_icmp_eq K dX6_readWord_50 (tgt := 55) (by decide) (fun c_50 => absurd c_50 (cb)) (fun c_50 => ?_)
        refine a_iconst K dX6_readWord_53 (v := -1) (by decide) ?_
        exact a_iret K EE rfl (by omega) (by omega) dX6_readWord_54 (by rw [← wrdV]; show _ ∧ _ ∧ sI _ 385 (v 2) = nI (wrdM L p0).1; rw [hM, ← hF, matR, if_neg cb]; exact ⟨rfl, f, ha⟩)
  first | refine a_aload_n K dX6_readWord_0 rfl ?_ | refine a_aload_nN K dX6_readWord_0 rfl ?_
  refine a_invV K (m_skipBlanks h0 (by omega) ha0) my_X6_skipBlanks ml_X6_24 im_X6_skipBlanks se_X6_skipBlanks (ci := 6) (by assumption) (by decide) ⟨_, _, rfl⟩ rfl (by omega) (by omega) (by omega) rfl (Nat.le_of_ble_eq_true rfl) dX6_readWord_1 ?_
  intro r9 S9 hp9
  obtain ⟨rfl, f9, a9⟩ := hp9
  have h := h0.fr f9
  have hL := h.1
  have o6 := lw_i2 hL
  have r384 := lw_f384_2 hL
  have o9 := lw_i0 hL
  have h240 := h.2.2.1
  first | refine a_aload_n K dX6_readWord_4 rfl ?_ | refine a_aload_nN K dX6_readWord_4 rfl ?_
  refine a_getRs K fd_X6_9 (by assumption) (Or.inl ⟨_, rfl⟩) (by assumption) dX6_readWord_5 ?_
  first | refine a_aload_n K dX6_readWord_8 rfl ?_ | refine a_aload_nN K dX6_readWord_8 rfl ?_
  refine a_getI K fd_X6_20 (by assumption) (Or.inl rfl) dX6_readWord_9 ?_
  rw [a9]
  refine a_invV K (m_byteAt h (p := skB L p0) (by omega)) my_X9_byteAt ml_X6_72 im_X9_byteAt se_X9_byteAt (ci := 9) (by assumption) (by decide) ⟨_, _, rfl⟩ rfl (by omega) (by omega) (by omega) rfl (Nat.le_of_ble_eq_true rfl) dX6_readWord_12 ?_
  intro r9 S9 hp9
  obtain ⟨rfl, hS9⟩ := hp9
  obtain rfl := hS9.symm
  refine a_invS K (m_wordBeginning (x := chr L (skB L p0))) my_X6_wordBeginning ml_X6_78 st_X6_wordBeginning rfl (by omega) (by omega) (by omega) rfl (Nat.le_of_ble_eq_true rfl) dX6_readWord_15 ?_
  intro r9 S9 hp9
  obtain ⟨rfl, hS9⟩ := hp9
  obtain rfl := hS9.symm
  rw [hi]
  refine a_istore_n K dX6_readWord_18 (by decide) ?_
  refine a_iload_n K dX6_readWord_19 rfl ?_
  refine x_invS K (Z i hi8) (strZ_ok _ _ _) (m_X6_lettersOf hi7) my_X6_lettersOf ml_X6_81 st_X6_lettersOf rfl (by omega) (by omega) (by omega) rfl (Nat.le_of_ble_eq_true rfl) dX6_readWord_20 ?_
  intro r9 S9 hp9
  obtain ⟨rfl, hS9⟩ := hp9
  obtain rfl := hS9.symm
  first | refine a_astore_n K dX6_readWord_23 (by decide) ?_ | refine a_astore_nN K dX6_readWord_23 (by decide) ?_
  refine a_iconst K dX6_readWord_24 (v := 0) (by decide) ?_
  refine a_istore_n K dX6_readWord_25 (by decide) ?_
  exact aw_locl rfl (loop (st_len.getD i 0) 0 (skB L p0) _ _ nI_0.symm (by omega) hs.2 h f9 a9 hF)
