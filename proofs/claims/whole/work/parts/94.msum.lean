/-! the model: sums over what is laid -/
set_option maxHeartbeats 4000000 in
set_option maxRecDepth 100000 in
theorem q_sumOf {S : aw_S} {m : Nat → Nat} (hM : LM S m) {ρ : Nat → Nat} {K9 : List KV} {N : List (Nat × Nat)} (hLy : LyM S m ρ K9 N) (hk : K9.length ≤ 140) {f t : Int32} : aw_M yX11_sumOf cX11_sumOf 5 (some FieldType.int) 0 0 0 [.ref (m 33), .int f, .int t] S (fun r S2 => r = some (.int (smE f t K9 0)) ∧ S2 = S) := by
  obtain ⟨R, hR⟩ : ∃ R, smE f t K9 0 = R := ⟨_, rfl⟩
  rw [hR]
  refine aw_enter (by decide +kernel) (Nat.le_of_ble_eq_true rfl) (fun g K EE => ?_)
  have loop : ∀ (n i : Nat) (x b : Int32), x = nI i → i + n = K9.length → smE f t (K9.drop i) b = R → aw g 5 S 0 0 [(4, .int x), (3, .int b), (2, .int t), (1, .int f), (0, .ref (m 33))] [] 5 := by
    intro n
    induction n with
    | zero =>
      intro i x b hx hn hB
      subst hx
      refine a_iload K dX11_sumOf_5 rfl ?_
      first | refine a_aload_n K dX11_sumOf_7 rfl ?_ | refine a_aload_nN K dX11_sumOf_7 rfl ?_
      refine a_getI K fd_X11_249 (by exact lm_o hM) (Or.inl rfl) dX11_sumOf_8 ?_
      rw [hLy.1]
      refine a_icmp_ge K dX11_sumOf_11 (tgt := 56) (by decide) (fun c_11 => ?_) (fun c_11 => absurd c_11 (fun z => z (nI_le (a := K9.length) (b := i) (by omega) (by omega))))
      refine a_iload_n K dX11_sumOf_56 rfl ?_
      exact a_iret K EE rfl (by omega) (by omega) dX11_sumOf_57 ⟨by rw [show i = K9.length by omega, List.drop_length] at hB; rw [← hB]; rfl, rfl⟩
    | succ n ih =>
      intro i x b hx0 hn hB
      subst hx0
      have hi : i < K9.length := by omega
      have hx := List.getElem?_eq_getElem hi
      by_cases h1 : (K9[i]).1 < f
      · refine a_iload K dX11_sumOf_5 rfl ?_
        first | refine a_aload_n K dX11_sumOf_7 rfl ?_ | refine a_aload_nN K dX11_sumOf_7 rfl ?_
        refine a_getI K fd_X11_249 (by exact lm_o hM) (Or.inl rfl) dX11_sumOf_8 ?_
        rw [hLy.1]
        refine a_icmp_ge K dX11_sumOf_11 (tgt := 56) (by decide) (fun c_11 => absurd c_11 (nI_ge (a := i) (b := K9.length) hi (by omega))) (fun c_11 => ?_)
        refine a_iload_n K dX11_sumOf_14 rfl ?_
        first | refine a_aload_n K dX11_sumOf_15 rfl ?_ | refine a_aload_nN K dX11_sumOf_15 rfl ?_
        refine a_getRs K fd_X11_55 (by exact lm_o hM) (Or.inr ⟨_, rfl⟩) (by exact lm_r730 hM) dX11_sumOf_16 ?_
        refine a_iload K dX11_sumOf_19 rfl ?_
        refine a_iald K (by exact lm_kk hM (by decide) (by decide)) (by show vp_in _ (sN S (m 13)); exact lm_ix (z := 140) hM (by decide) (by decide) (show i < 140 by omega) (by decide)) dX11_sumOf_21 ?_
        rw [nI_clamp (by omega)]
        rw [show sA S (m 13) i = (K9[i]).1 from (hLy.2.2.1 i _ hx).1]
        refine a_iload_n K dX11_sumOf_22 rfl ?_
        refine a_icmp_lt K dX11_sumOf_23 (tgt := 47) (by decide) (fun c_23 => ?_) (fun c_23 => absurd c_23 (fun z => z h1))
        refine a_iconst K dX11_sumOf_47 (v := 0) (by decide) ?_
        refine a_iadd K dX11_sumOf_48 ?_
        rw [Int32.add_zero]
        refine a_istore_n K dX11_sumOf_49 (by decide) ?_
        refine a_iinc K dX11_sumOf_50 (v := 1) rfl (by decide) (by decide) ?_
        refine a_goto K dX11_sumOf_53 (tgt := 5) (by decide) ?_
        exact aw_locl rfl (ih (i + 1) _ _ (nI_1 i) (by omega) (by rw [smE_at hi] at hB; rw [if_neg (fun z => absurd h1 (Int32.not_lt.mpr z.1))] at hB; exact hB))
      · by_cases h2 : t < (K9[i]).1
        · refine a_iload K dX11_sumOf_5 rfl ?_
          first | refine a_aload_n K dX11_sumOf_7 rfl ?_ | refine a_aload_nN K dX11_sumOf_7 rfl ?_
          refine a_getI K fd_X11_249 (by exact lm_o hM) (Or.inl rfl) dX11_sumOf_8 ?_
          rw [hLy.1]
          refine a_icmp_ge K dX11_sumOf_11 (tgt := 56) (by decide) (fun c_11 => absurd c_11 (nI_ge (a := i) (b := K9.length) hi (by omega))) (fun c_11 => ?_)
          refine a_iload_n K dX11_sumOf_14 rfl ?_
          first | refine a_aload_n K dX11_sumOf_15 rfl ?_ | refine a_aload_nN K dX11_sumOf_15 rfl ?_
          refine a_getRs K fd_X11_55 (by exact lm_o hM) (Or.inr ⟨_, rfl⟩) (by exact lm_r730 hM) dX11_sumOf_16 ?_
          refine a_iload K dX11_sumOf_19 rfl ?_
          refine a_iald K (by exact lm_kk hM (by decide) (by decide)) (by show vp_in _ (sN S (m 13)); exact lm_ix (z := 140) hM (by decide) (by decide) (show i < 140 by omega) (by decide)) dX11_sumOf_21 ?_
          rw [nI_clamp (by omega)]
          rw [show sA S (m 13) i = (K9[i]).1 from (hLy.2.2.1 i _ hx).1]
          refine a_iload_n K dX11_sumOf_22 rfl ?_
          refine a_icmp_lt K dX11_sumOf_23 (tgt := 47) (by decide) (fun c_23 => absurd c_23 (h1)) (fun c_23 => ?_)
          first | refine a_aload_n K dX11_sumOf_26 rfl ?_ | refine a_aload_nN K dX11_sumOf_26 rfl ?_
          refine a_getRs K fd_X11_55 (by exact lm_o hM) (Or.inr ⟨_, rfl⟩) (by exact lm_r730 hM) dX11_sumOf_27 ?_
          refine a_iload K dX11_sumOf_30 rfl ?_
          refine a_iald K (by exact lm_kk hM (by decide) (by decide)) (by show vp_in _ (sN S (m 13)); exact lm_ix (z := 140) hM (by decide) (by decide) (show i < 140 by omega) (by decide)) dX11_sumOf_32 ?_
          rw [nI_clamp (by omega)]
          rw [show sA S (m 13) i = (K9[i]).1 from (hLy.2.2.1 i _ hx).1]
          refine a_iload_n K dX11_sumOf_33 rfl ?_
          refine a_icmp_gt K dX11_sumOf_34 (tgt := 47) (by decide) (fun c_34 => ?_) (fun c_34 => absurd c_34 (fun z => z h2))
          refine a_iconst K dX11_sumOf_47 (v := 0) (by decide) ?_
          refine a_iadd K dX11_sumOf_48 ?_
          rw [Int32.add_zero]
          refine a_istore_n K dX11_sumOf_49 (by decide) ?_
          refine a_iinc K dX11_sumOf_50 (v := 1) rfl (by decide) (by decide) ?_
          refine a_goto K dX11_sumOf_53 (tgt := 5) (by decide) ?_
          exact aw_locl rfl (ih (i + 1) _ _ (nI_1 i) (by omega) (by rw [smE_at hi] at hB; rw [if_neg (fun z => absurd h2 (Int32.not_lt.mpr z.2))] at hB; exact hB))
        · refine a_iload K dX11_sumOf_5 rfl ?_
          first | refine a_aload_n K dX11_sumOf_7 rfl ?_ | refine a_aload_nN K dX11_sumOf_7 rfl ?_
          refine a_getI K fd_X11_249 (by exact lm_o hM) (Or.inl rfl) dX11_sumOf_8 ?_
          rw [hLy.1]
          refine a_icmp_ge K dX11_sumOf_11 (tgt := 56) (by decide) (fun c_11 => absurd c_11 (nI_ge (a := i) (b := K9.length) hi (by omega))) (fun c_11 => ?_)
          refine a_iload_n K dX11_sumOf_14 rfl ?_
          first | refine a_aload_n K dX11_sumOf_15 rfl ?_ | refine a_aload_nN K dX11_sumOf_15 rfl ?_
          refine a_getRs K fd_X11_55 (by exact lm_o hM) (Or.inr ⟨_, rfl⟩) (by exact lm_r730 hM) dX11_sumOf_16 ?_
          refine a_iload K dX11_sumOf_19 rfl ?_
          refine a_iald K (by exact lm_kk hM (by decide) (by decide)) (by show vp_in _ (sN S (m 13)); exact lm_ix (z := 140) hM (by decide) (by decide) (show i < 140 by omega) (by decide)) dX11_sumOf_21 ?_
          rw [nI_clamp (by omega)]
          rw [show sA S (m 13) i = (K9[i]).1 from (hLy.2.2.1 i _ hx).1]
          refine a_iload_n K dX11_sumOf_22 rfl ?_
          refine a_icmp_lt K dX11_sumOf_23 (tgt := 47) (by decide) (fun c_23 => absurd c_23 (h1)) (fun c_23 => ?_)
          first | refine a_aload_n K dX11_sumOf_26 rfl ?_ | refine a_aload_nN K dX11_sumOf_26 rfl ?_
          refine a_getRs K fd_X11_55 (by exact lm_o hM) (Or.inr ⟨_, rfl⟩) (by exact lm_r730 hM) dX11_sumOf_27 ?_
          refine a_iload K dX11_sumOf_30 rfl ?_
          refine a_iald K (by exact lm_kk hM (by decide) (by decide)) (by show vp_in _ (sN S (m 13)); exact lm_ix (z := 140) hM (by decide) (by decide) (show i < 140 by omega) (by decide)) dX11_sumOf_32 ?_
          rw [nI_clamp (by omega)]
          rw [show sA S (m 13) i = (K9[i]).1 from (hLy.2.2.1 i _ hx).1]
          refine a_iload_n K dX11_sumOf_33 rfl ?_
          refine a_icmp_gt K dX11_sumOf_34 (tgt := 47) (by decide) (fun c_34 => absurd c_34 (h2)) (fun c_34 => ?_)
          first | refine a_aload_n K dX11_sumOf_37 rfl ?_ | refine a_aload_nN K dX11_sumOf_37 rfl ?_
          refine a_getRs K fd_X11_58 (by exact lm_o hM) (Or.inr ⟨_, rfl⟩) (by exact lm_r731 hM) dX11_sumOf_38 ?_
          refine a_iload K dX11_sumOf_41 rfl ?_
          refine a_iald K (by exact lm_kk hM (by decide) (by decide)) (by show vp_in _ (sN S (m 14)); exact lm_ix (z := 140) hM (by decide) (by decide) (show i < 140 by omega) (by decide)) dX11_sumOf_43 ?_
          rw [nI_clamp (by omega)]
          rw [show sA S (m 14) i = (K9[i]).2 from (hLy.2.2.1 i _ hx).2]
          refine a_goto K dX11_sumOf_44 (tgt := 48) (by decide) ?_
          refine a_iadd K dX11_sumOf_48 ?_
          refine a_istore_n K dX11_sumOf_49 (by decide) ?_
          refine a_iinc K dX11_sumOf_50 (v := 1) rfl (by decide) (by decide) ?_
          refine a_goto K dX11_sumOf_53 (tgt := 5) (by decide) ?_
          exact aw_locl rfl (ih (i + 1) _ _ (nI_1 i) (by omega) (by rw [smE_at hi] at hB; rw [if_pos ⟨Int32.not_lt.mp h1, Int32.not_lt.mp h2⟩] at hB; exact hB))
  refine a_iconst K dX11_sumOf_0 (v := 0) (by decide) ?_
  refine a_istore_n K dX11_sumOf_1 (by decide) ?_
  refine a_iconst K dX11_sumOf_2 (v := 0) (by decide) ?_
  refine a_istore K dX11_sumOf_3 (by decide) ?_
  exact aw_locl rfl (loop K9.length 0 _ 0 nI_0.symm (by omega) hR)
/-- the deepest level of nodes laid -/
def lvF : List (Nat × Nat) → Nat → Nat
  | [], a => a
  | y :: r, a => lvF r (if a < y.2 + 1 then y.2 + 1 else a)
theorem lvF_at {N : List (Nat × Nat)} {i a : Nat} (hi : i < N.length) : lvF (N.drop i) a = lvF (N.drop (i + 1)) (if a < N[i].2 + 1 then N[i].2 + 1 else a) := by rw [List.drop_eq_getElem_cons hi, lvF]
set_option maxHeartbeats 4000000 in
set_option maxRecDepth 100000 in
theorem q_levels {S : aw_S} {m : Nat → Nat} (hM : LM S m) {ρ : Nat → Nat} {K9 : List KV} {N : List (Nat × Nat)} (hLy : LyM S m ρ K9 N) (hn9 : N.length ≤ 240) (hd : ∀ y ∈ N, y.2 < 1000) : aw_M yX11_levels cX11_levels 3 (some FieldType.int) 1 0 0 [.ref (m 33)] S (fun r S2 => r = some (.int (nI (lvF N 0))) ∧ S2 = S) := by
  obtain ⟨R, hR⟩ : ∃ R, lvF N 0 = R := ⟨_, rfl⟩
  rw [hR]
  refine aw_enter (by decide +kernel) (Nat.le_of_ble_eq_true rfl) (fun g K EE => ?_)
  have loop : ∀ (n i a : Nat) (x : Int32), x = nI i → i + n = N.length → a < 2000 → lvF (N.drop i) a = R → aw g 3 S 0 0 [(2, .int x), (1, .int (nI a)), (0, .ref (m 33))] [] 4 := by
    intro n
    induction n with
    | zero =>
      intro i a x hx hn ha9 hB
      subst hx
      refine a_iload_n K dX11_levels_4 rfl ?_
      first | refine a_aload_n K dX11_levels_5 rfl ?_ | refine a_aload_nN K dX11_levels_5 rfl ?_
      refine a_getI K fd_X11_243 (by exact lm_o hM) (Or.inl rfl) dX11_levels_6 ?_
      rw [hLy.2.1]
      refine a_icmp_ge K dX11_levels_9 (tgt := 31) (by decide) (fun c_9 => ?_) (fun c_9 => absurd c_9 (fun z => z (nI_le (a := N.length) (b := i) (by omega) (by omega))))
      refine a_iload_n K dX11_levels_31 rfl ?_
      exact a_iret K EE rfl (by omega) (by omega) dX11_levels_32 ⟨by rw [show i = N.length by omega, List.drop_length] at hB; rw [← hB]; rfl, rfl⟩
    | succ n ih =>
      intro i a x hx0 hn ha9 hB
      subst hx0
      have hi : i < N.length := by omega
      have hx := List.getElem?_eq_getElem hi
      have hd9 := hd _ (List.getElem_mem hi)
      refine a_iload_n K dX11_levels_4 rfl ?_
      first | refine a_aload_n K dX11_levels_5 rfl ?_ | refine a_aload_nN K dX11_levels_5 rfl ?_
      refine a_getI K fd_X11_243 (by exact lm_o hM) (Or.inl rfl) dX11_levels_6 ?_
      rw [hLy.2.1]
      refine a_icmp_ge K dX11_levels_9 (tgt := 31) (by decide) (fun c_9 => absurd c_9 (nI_ge (a := i) (b := N.length) hi (by omega))) (fun c_9 => ?_)
      refine a_iload_n K dX11_levels_12 rfl ?_
      first | refine a_aload_n K dX11_levels_13 rfl ?_ | refine a_aload_nN K dX11_levels_13 rfl ?_
      refine a_getRs K fd_X11_64 (by exact lm_o hM) (Or.inr ⟨_, rfl⟩) (by exact lm_r733 hM) dX11_levels_14 ?_
      refine a_iload_n K dX11_levels_17 rfl ?_
      refine a_iald K (by exact lm_kk hM (by decide) (by decide)) (by show vp_in _ (sN S (m 16)); exact lm_ix (z := 240) hM (by decide) (by decide) (show i < 240 by omega) (by decide)) dX11_levels_18 ?_
      rw [nI_clamp (by omega)]
      rw [show sA S (m 16) i = nI (N[i]).2 from (hLy.2.2.2 i _ hx).2]
      refine a_iconst K dX11_levels_19 (v := 1) (by decide) ?_
      refine a_iadd K dX11_levels_20 ?_
      rw [nI_1]
      refine a_mmax K ml_X11_313 (by omega) (Nat.le_of_ble_eq_true rfl) (by omega) (by omega) dX11_levels_21 ?_
      rw [show (if nI a < nI ((N[i]).2 + 1) then nI ((N[i]).2 + 1) else nI a) = nI (if a < (N[i]).2 + 1 then (N[i]).2 + 1 else a) from by
        by_cases e : a < (N[i]).2 + 1
        · rw [if_pos e, if_pos (nI_lt e (by omega))]
        · rw [if_neg e, if_neg (nI_nlt (by omega) (by omega))]]
      refine a_istore_n K dX11_levels_24 (by decide) ?_
      refine a_iinc K dX11_levels_25 (v := 1) rfl (by decide) (by decide) ?_
      refine a_goto K dX11_levels_28 (tgt := 4) (by decide) ?_
      exact aw_locl rfl (ih (i + 1) _ _ (nI_1 i) (by omega) (by split <;> omega) (by rw [← lvF_at hi]; exact hB))
  refine a_iconst K dX11_levels_0 (v := 0) (by decide) ?_
  refine a_istore_n K dX11_levels_1 (by decide) ?_
  refine a_iconst K dX11_levels_2 (v := 0) (by decide) ?_
  refine a_istore_n K dX11_levels_3 (by decide) ?_
  exact aw_locl rfl (loop N.length 0 0 _ nI_0.symm (by omega) (by decide) hR)
/-- how many leaves among nodes laid -/
def lfN (f : Nat → Bool) : List (Nat × Nat) → Nat → Nat
  | [], a => a
  | y :: r, a => lfN f r (a + if f y.1 = true then 1 else 0)
theorem lfN_at {f : Nat → Bool} {N : List (Nat × Nat)} {i a : Nat} (hi : i < N.length) : lfN f (N.drop i) a = lfN f (N.drop (i + 1)) (a + if f N[i].1 = true then 1 else 0) := by rw [List.drop_eq_getElem_cons hi, lfN]
set_option maxHeartbeats 4000000 in
set_option maxRecDepth 100000 in
theorem q_leaves {S : aw_S} {m : Nat → Nat} (hM : LM S m) {ρ : Nat → Nat} {K9 : List KV} {N : List (Nat × Nat)} (hLy : LyM S m ρ K9 N) (hn9 : N.length ≤ 240) {lf : Nat → Bool} (hd : ∀ y ∈ N, ρ y.1 < 12000 ∧ gL S m (ρ y.1) = nI (if lf y.1 = true then 1 else 0)) : aw_M yX11_leaves cX11_leaves 3 (some FieldType.int) 0 0 0 [.ref (m 33)] S (fun r S2 => r = some (.int (nI (lfN lf N 0))) ∧ S2 = S) := by
  obtain ⟨R, hR⟩ : ∃ R, lfN lf N 0 = R := ⟨_, rfl⟩
  rw [hR]
  refine aw_enter (by decide +kernel) (Nat.le_of_ble_eq_true rfl) (fun g K EE => ?_)
  have loop : ∀ (n i a : Nat) (x : Int32), x = nI i → i + n = N.length → lfN lf (N.drop i) a = R → aw g 3 S 0 0 [(2, .int x), (1, .int (nI a)), (0, .ref (m 33))] [] 4 := by
    intro n
    induction n with
    | zero =>
      intro i a x hx hn hB
      subst hx
      refine a_iload_n K dX11_leaves_4 rfl ?_
      first | refine a_aload_n K dX11_leaves_5 rfl ?_ | refine a_aload_nN K dX11_leaves_5 rfl ?_
      refine a_getI K fd_X11_243 (by exact lm_o hM) (Or.inl rfl) dX11_leaves_6 ?_
      rw [hLy.2.1]
      refine a_icmp_ge K dX11_leaves_9 (tgt := 32) (by decide) (fun c_9 => ?_) (fun c_9 => absurd c_9 (fun z => z (nI_le (a := N.length) (b := i) (by omega) (by omega))))
      refine a_iload_n K dX11_leaves_32 rfl ?_
      exact a_iret K EE rfl (by omega) (by omega) dX11_leaves_33 ⟨by rw [show i = N.length by omega, List.drop_length] at hB; rw [← hB]; rfl, rfl⟩
    | succ n ih =>
      intro i a x hx0 hn hB
      subst hx0
      have hi : i < N.length := by omega
      have hx := List.getElem?_eq_getElem hi
      have hd9 := hd _ (List.getElem_mem hi)
      have hr9 := hd9.1
      refine a_iload_n K dX11_leaves_4 rfl ?_
      first | refine a_aload_n K dX11_leaves_5 rfl ?_ | refine a_aload_nN K dX11_leaves_5 rfl ?_
      refine a_getI K fd_X11_243 (by exact lm_o hM) (Or.inl rfl) dX11_leaves_6 ?_
      rw [hLy.2.1]
      refine a_icmp_ge K dX11_leaves_9 (tgt := 32) (by decide) (fun c_9 => absurd c_9 (nI_ge (a := i) (b := N.length) hi (by omega))) (fun c_9 => ?_)
      refine a_iload_n K dX11_leaves_12 rfl ?_
      first | refine a_aload_n K dX11_leaves_13 rfl ?_ | refine a_aload_nN K dX11_leaves_13 rfl ?_
      refine a_getRs K fd_X11_23 (by exact lm_o hM) (Or.inr ⟨_, rfl⟩) (by exact lm_r714 hM) dX11_leaves_14 ?_
      first | refine a_aload_n K dX11_leaves_17 rfl ?_ | refine a_aload_nN K dX11_leaves_17 rfl ?_
      refine a_getRs K fd_X11_61 (by exact lm_o hM) (Or.inr ⟨_, rfl⟩) (by exact lm_r732 hM) dX11_leaves_18 ?_
      refine a_iload_n K dX11_leaves_21 rfl ?_
      refine a_iald K (by exact lm_kk hM (by decide) (by decide)) (by show vp_in _ (sN S (m 15)); exact lm_ix (z := 240) hM (by decide) (by decide) (show i < 240 by omega) (by decide)) dX11_leaves_22 ?_
      rw [nI_clamp (by omega)]
      rw [show sA S (m 15) i = nI (ρ (N[i]).1) from (hLy.2.2.2 i _ hx).1]
      refine a_iald K (by exact lm_kk hM (by decide) (by decide)) (by show vp_in _ (sN S (m 4)); exact lm_ix (z := 12000) hM (by decide) (by decide) (show ρ (N[i]).1 < 12000 by omega) (by decide)) dX11_leaves_23 ?_
      rw [nI_clamp (by omega)]
      rw [show sA S (m 4) (ρ (N[i]).1) = nI (if lf (N[i]).1 = true then 1 else 0) from hd9.2]
      refine a_iadd K dX11_leaves_24 ?_
      rw [nI_add]
      refine a_istore_n K dX11_leaves_25 (by decide) ?_
      refine a_iinc K dX11_leaves_26 (v := 1) rfl (by decide) (by decide) ?_
      refine a_goto K dX11_leaves_29 (tgt := 4) (by decide) ?_
      exact aw_locl rfl (ih (i + 1) _ _ (nI_1 i) (by omega) (by rw [← lfN_at hi]; exact hB))
  refine a_iconst K dX11_leaves_0 (v := 0) (by decide) ?_
  refine a_istore_n K dX11_leaves_1 (by decide) ?_
  refine a_iconst K dX11_leaves_2 (v := 0) (by decide) ?_
  refine a_istore_n K dX11_leaves_3 (by decide) ?_
  exact aw_locl rfl (loop N.length 0 0 _ nI_0.symm (by omega) hR)
