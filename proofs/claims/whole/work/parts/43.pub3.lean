set_option maxHeartbeats 4000000 in
set_option maxRecDepth 100000 in
theorem c_fillTwo_n {S : aw_S} {v ad ar : Nat → Nat} {PA : List (Nat × Nat)} {X : List Nat} {mb : Nat} {P : PS} (h : RC S v ad ar PA X mb P) (hP : PI P) {m o : Int32} (hn : rootP P m = none ∨ rootP P o = none) : aw_M yX10_fillTwo cX10_fillTwo 5 (some FieldType.boolean) 9 0 0 [.ref (v 4), .int m, .int o] S (fun r S2 => r = some (.int 0) ∧ S2 = S) := by
  have hL := h.L
  cases hz : rootP P m with
  | none =>
    cases hy : rootP P o with
    | none =>
      refine aw_enter (by decide +kernel) (Nat.le_of_ble_eq_true rfl) (fun g K EE => ?_)
      first | refine a_aload_n K dX10_fillTwo_0 rfl ?_ | refine a_aload_nN K dX10_fillTwo_0 rfl ?_
      refine a_getRs K fd_X10_46 (lw_i4 hL) (Or.inl ⟨_, rfl⟩) (lw_f646 hL) dX10_fillTwo_1 ?_
      refine a_iload_n K dX10_fillTwo_4 rfl ?_
      refine a_invV K (m_root h m) my_X3_heldRoot ml_X10_165 im_X3_heldRoot se_X3_heldRoot (ci := 3) (lw_i6 hL) (by decide) ⟨_, _, rfl⟩ rfl (by omega) (by omega) (by omega) rfl (Nat.le_of_ble_eq_true rfl) dX10_fillTwo_5 ?_
      intro r9 S9 hp9
      obtain ⟨rfl, hS9⟩ := hp9
      obtain rfl := hS9.symm
      rw [hz]
      first | refine a_astore_n K dX10_fillTwo_8 (by decide) ?_ | refine a_astore_nN K dX10_fillTwo_8 (by decide) ?_
      first | refine a_aload_n K dX10_fillTwo_9 rfl ?_ | refine a_aload_nN K dX10_fillTwo_9 rfl ?_
      refine a_getRs K fd_X10_46 (lw_i4 hL) (Or.inl ⟨_, rfl⟩) (lw_f646 hL) dX10_fillTwo_10 ?_
      refine a_iload_n K dX10_fillTwo_13 rfl ?_
      refine a_invV K (m_root h o) my_X3_heldRoot ml_X10_165 im_X3_heldRoot se_X3_heldRoot (ci := 3) (lw_i6 hL) (by decide) ⟨_, _, rfl⟩ rfl (by omega) (by omega) (by omega) rfl (Nat.le_of_ble_eq_true rfl) dX10_fillTwo_14 ?_
      intro r9 S9 hp9
      obtain ⟨rfl, hS9⟩ := hp9
      obtain rfl := hS9.symm
      rw [hy]
      first | refine a_astore K dX10_fillTwo_17 (by decide) ?_ | refine a_astoreN K dX10_fillTwo_17 (by decide) ?_
      first | refine a_aload_n K dX10_fillTwo_19 rfl ?_ | refine a_aload_nN K dX10_fillTwo_19 rfl ?_
      refine a_ifnullN K dX10_fillTwo_20 (tgt := 28) (by decide) ?_
      refine a_iconst K dX10_fillTwo_28 (v := 0) (by decide) ?_
      exact a_iret K EE rfl (by omega) (by omega) dX10_fillTwo_29 ⟨rfl, rfl⟩
    | some y =>
      refine aw_enter (by decide +kernel) (Nat.le_of_ble_eq_true rfl) (fun g K EE => ?_)
      first | refine a_aload_n K dX10_fillTwo_0 rfl ?_ | refine a_aload_nN K dX10_fillTwo_0 rfl ?_
      refine a_getRs K fd_X10_46 (lw_i4 hL) (Or.inl ⟨_, rfl⟩) (lw_f646 hL) dX10_fillTwo_1 ?_
      refine a_iload_n K dX10_fillTwo_4 rfl ?_
      refine a_invV K (m_root h m) my_X3_heldRoot ml_X10_165 im_X3_heldRoot se_X3_heldRoot (ci := 3) (lw_i6 hL) (by decide) ⟨_, _, rfl⟩ rfl (by omega) (by omega) (by omega) rfl (Nat.le_of_ble_eq_true rfl) dX10_fillTwo_5 ?_
      intro r9 S9 hp9
      obtain ⟨rfl, hS9⟩ := hp9
      obtain rfl := hS9.symm
      rw [hz]
      first | refine a_astore_n K dX10_fillTwo_8 (by decide) ?_ | refine a_astore_nN K dX10_fillTwo_8 (by decide) ?_
      first | refine a_aload_n K dX10_fillTwo_9 rfl ?_ | refine a_aload_nN K dX10_fillTwo_9 rfl ?_
      refine a_getRs K fd_X10_46 (lw_i4 hL) (Or.inl ⟨_, rfl⟩) (lw_f646 hL) dX10_fillTwo_10 ?_
      refine a_iload_n K dX10_fillTwo_13 rfl ?_
      refine a_invV K (m_root h o) my_X3_heldRoot ml_X10_165 im_X3_heldRoot se_X3_heldRoot (ci := 3) (lw_i6 hL) (by decide) ⟨_, _, rfl⟩ rfl (by omega) (by omega) (by omega) rfl (Nat.le_of_ble_eq_true rfl) dX10_fillTwo_14 ?_
      intro r9 S9 hp9
      obtain ⟨rfl, hS9⟩ := hp9
      obtain rfl := hS9.symm
      rw [hy]
      first | refine a_astore K dX10_fillTwo_17 (by decide) ?_ | refine a_astoreN K dX10_fillTwo_17 (by decide) ?_
      first | refine a_aload_n K dX10_fillTwo_19 rfl ?_ | refine a_aload_nN K dX10_fillTwo_19 rfl ?_
      refine a_ifnullN K dX10_fillTwo_20 (tgt := 28) (by decide) ?_
      refine a_iconst K dX10_fillTwo_28 (v := 0) (by decide) ?_
      exact a_iret K EE rfl (by omega) (by omega) dX10_fillTwo_29 ⟨rfl, rfl⟩
  | some z =>
    cases hy : rootP P o with
    | none =>
      refine aw_enter (by decide +kernel) (Nat.le_of_ble_eq_true rfl) (fun g K EE => ?_)
      first | refine a_aload_n K dX10_fillTwo_0 rfl ?_ | refine a_aload_nN K dX10_fillTwo_0 rfl ?_
      refine a_getRs K fd_X10_46 (lw_i4 hL) (Or.inl ⟨_, rfl⟩) (lw_f646 hL) dX10_fillTwo_1 ?_
      refine a_iload_n K dX10_fillTwo_4 rfl ?_
      refine a_invV K (m_root h m) my_X3_heldRoot ml_X10_165 im_X3_heldRoot se_X3_heldRoot (ci := 3) (lw_i6 hL) (by decide) ⟨_, _, rfl⟩ rfl (by omega) (by omega) (by omega) rfl (Nat.le_of_ble_eq_true rfl) dX10_fillTwo_5 ?_
      intro r9 S9 hp9
      obtain ⟨rfl, hS9⟩ := hp9
      obtain rfl := hS9.symm
      rw [hz]
      first | refine a_astore_n K dX10_fillTwo_8 (by decide) ?_ | refine a_astore_nN K dX10_fillTwo_8 (by decide) ?_
      first | refine a_aload_n K dX10_fillTwo_9 rfl ?_ | refine a_aload_nN K dX10_fillTwo_9 rfl ?_
      refine a_getRs K fd_X10_46 (lw_i4 hL) (Or.inl ⟨_, rfl⟩) (lw_f646 hL) dX10_fillTwo_10 ?_
      refine a_iload_n K dX10_fillTwo_13 rfl ?_
      refine a_invV K (m_root h o) my_X3_heldRoot ml_X10_165 im_X3_heldRoot se_X3_heldRoot (ci := 3) (lw_i6 hL) (by decide) ⟨_, _, rfl⟩ rfl (by omega) (by omega) (by omega) rfl (Nat.le_of_ble_eq_true rfl) dX10_fillTwo_14 ?_
      intro r9 S9 hp9
      obtain ⟨rfl, hS9⟩ := hp9
      obtain rfl := hS9.symm
      rw [hy]
      first | refine a_astore K dX10_fillTwo_17 (by decide) ?_ | refine a_astoreN K dX10_fillTwo_17 (by decide) ?_
      first | refine a_aload_n K dX10_fillTwo_19 rfl ?_ | refine a_aload_nN K dX10_fillTwo_19 rfl ?_
      refine a_ifnull K dX10_fillTwo_20 ?_
      first | refine a_aload K dX10_fillTwo_23 rfl ?_ | refine a_aloadN K dX10_fillTwo_23 rfl ?_
      refine a_ifnonnullN K dX10_fillTwo_25 ?_
      refine a_iconst K dX10_fillTwo_28 (v := 0) (by decide) ?_
      exact a_iret K EE rfl (by omega) (by omega) dX10_fillTwo_29 ⟨rfl, rfl⟩
    | some y => exact absurd hn (by simp [hz, hy])
theorem vqro28 {S : aw_S} {v : Nat → Nat} (hL : LW S v) {j : Nat} (hj : j < 28) : ¬ Qro (v 28) (v 29) (v 30) (v j) := fun z => by
  rcases z with z | z | z
  · have := lw_inj hL j 28 (by omega) (by decide) z; omega
  · have := lw_inj hL j 29 (by omega) (by decide) z; omega
  · have := lw_inj hL j 30 (by omega) (by decide) z; omega
theorem vqsh23 {S : aw_S} {v : Nat → Nat} (hL : LW S v) {j : Nat} (hj : j < 23) : ¬ Qsh (v 23) (v 24) (v j) := fun z => by
  rcases z with z | z
  · have := lw_inj hL j 23 (by omega) (by decide) z; omega
  · have := lw_inj hL j 24 (by omega) (by decide) z; omega
set_option maxHeartbeats 4000000 in
set_option maxRecDepth 100000 in
theorem c_fillTwo_y {S : aw_S} {v ad ar : Nat → Nat} {PA : List (Nat × Nat)} {X : List Nat} {mb : Nat} {P : PS} (h : RC S v ad ar PA X mb P) (hP : PI P) {m o : Int32} {z y : Tz} (hz : rootP P m = some z) (hy : rootP P o = some y) : aw_M yX10_fillTwo cX10_fillTwo 5 (some FieldType.boolean) 9 0 0 [.ref (v 4), .int m, .int o] S (fun r S2 => r = some (.int 1) ∧ RoW S2 (v 25) (v 26) (v 27) (ent z.1 z.2) ∧ RoW S2 (v 28) (v 29) (v 30) (ent y.1 y.2) ∧ RC S2 v ad ar PA X mb P ∧ keepX X S S2 ∧ TT_ S2 ad ar P z ∧ TT_ S2 ad ar P y) := by
  have hL := h.L
  have tz := h.tt hP hz
  have ty := h.tt hP hy
  obtain ⟨h4, -, -⟩ := tz.2.h4 hP.1.1
  obtain ⟨h5, -, -⟩ := ty.2.h4 hP.1.1
  refine aw_enter (by decide +kernel) (Nat.le_of_ble_eq_true rfl) (fun g K EE => ?_)
  first | refine a_aload_n K dX10_fillTwo_0 rfl ?_ | refine a_aload_nN K dX10_fillTwo_0 rfl ?_
  refine a_getRs K fd_X10_46 (lw_i4 hL) (Or.inl ⟨_, rfl⟩) (lw_f646 hL) dX10_fillTwo_1 ?_
  refine a_iload_n K dX10_fillTwo_4 rfl ?_
  refine a_invV K (m_root h m) my_X3_heldRoot ml_X10_165 im_X3_heldRoot se_X3_heldRoot (ci := 3) (lw_i6 hL) (by decide) ⟨_, _, rfl⟩ rfl (by omega) (by omega) (by omega) rfl (Nat.le_of_ble_eq_true rfl) dX10_fillTwo_5 ?_
  intro r9 S9 hp9
  obtain ⟨rfl, hS9⟩ := hp9
  obtain rfl := hS9.symm
  rw [hz]
  first | refine a_astore_n K dX10_fillTwo_8 (by decide) ?_ | refine a_astore_nN K dX10_fillTwo_8 (by decide) ?_
  first | refine a_aload_n K dX10_fillTwo_9 rfl ?_ | refine a_aload_nN K dX10_fillTwo_9 rfl ?_
  refine a_getRs K fd_X10_46 (lw_i4 hL) (Or.inl ⟨_, rfl⟩) (lw_f646 hL) dX10_fillTwo_10 ?_
  refine a_iload_n K dX10_fillTwo_13 rfl ?_
  refine a_invV K (m_root h o) my_X3_heldRoot ml_X10_165 im_X3_heldRoot se_X3_heldRoot (ci := 3) (lw_i6 hL) (by decide) ⟨_, _, rfl⟩ rfl (by omega) (by omega) (by omega) rfl (Nat.le_of_ble_eq_true rfl) dX10_fillTwo_14 ?_
  intro r9 S9 hp9
  obtain ⟨rfl, hS9⟩ := hp9
  obtain rfl := hS9.symm
  rw [hy]
  first | refine a_astore K dX10_fillTwo_17 (by decide) ?_ | refine a_astoreN K dX10_fillTwo_17 (by decide) ?_
  first | refine a_aload_n K dX10_fillTwo_19 rfl ?_ | refine a_aload_nN K dX10_fillTwo_19 rfl ?_
  refine a_ifnull K dX10_fillTwo_20 ?_
  first | refine a_aload K dX10_fillTwo_23 rfl ?_ | refine a_aloadN K dX10_fillTwo_23 rfl ?_
  refine a_ifnonnull K dX10_fillTwo_25 (tgt := 30) (by decide) ?_
  first | refine a_aload_n K dX10_fillTwo_30 rfl ?_ | refine a_aload_nN K dX10_fillTwo_30 rfl ?_
  refine a_getRs K fd_X10_77 (lw_i4 hL) (Or.inl ⟨_, rfl⟩) (lw_f652 hL) dX10_fillTwo_31 ?_
  first | refine a_aload_n K dX10_fillTwo_34 rfl ?_ | refine a_aload_nN K dX10_fillTwo_34 rfl ?_
  refine a_invV K (m_fill25 h hP.1.1 tz) my_X7_fill ml_X10_173 im_X7_fill se_X7_fill (ci := 7) (by first | exact lw_i25 hL | exact lw_i28 hL | exact lw_i31 hL) (by decide) ⟨_, _, rfl⟩ rfl (by omega) (by omega) (by omega) rfl (Nat.le_of_ble_eq_true rfl) dX10_fillTwo_35 ?_
  intro r9 S9 hp9
  obtain ⟨rfl, hR, h2, k2, f2⟩ := hp9
  have hL := h2.L
  have ty2 := TT_.fr h f2 (scr_Ro25 v) ty
  first | refine a_aload_n K dX10_fillTwo_38 rfl ?_ | refine a_aload_nN K dX10_fillTwo_38 rfl ?_
  refine a_getRs K fd_X10_81 (lw_i4 hL) (Or.inl ⟨_, rfl⟩) (lw_f653 hL) dX10_fillTwo_39 ?_
  first | refine a_aload K dX10_fillTwo_42 rfl ?_ | refine a_aloadN K dX10_fillTwo_42 rfl ?_
  refine a_invV K (m_fill28 h2 hP.1.1 ty2) my_X7_fill ml_X10_173 im_X7_fill se_X7_fill (ci := 7) (by first | exact lw_i25 hL | exact lw_i28 hL | exact lw_i31 hL) (by decide) ⟨_, _, rfl⟩ rfl (by omega) (by omega) (by omega) rfl (Nat.le_of_ble_eq_true rfl) dX10_fillTwo_44 ?_
  intro r9 S9 hp9
  obtain ⟨rfl, hF, h3, k3, f3⟩ := hp9
  have hL := h3.L
  refine a_iconst K dX10_fillTwo_47 (v := 1) (by decide) ?_
  exact a_iret K EE rfl (by omega) (by omega) dX10_fillTwo_48 ⟨rfl, hR.fr f3.fr (vqro28 hL (by decide)) (vqro28 hL (by decide)) (vqro28 hL (by decide)), hF, h3, k2.tr k3, TT_.fr h2 f3 (scr_Ro28 v) (TT_.fr h f2 (scr_Ro25 v) tz), TT_.fr h2 f3 (scr_Ro28 v) ty2⟩
def aAlike (P : PS) (m o w : Int32) : Int32 := if w < 0 ∨ 1 < w then -1 else match rootP P m, rootP P o with
  | some z, some y => if w = 0 then (if ent z.1 z.2 = ent y.1 y.2 then 1 else 0) else (if txt z.1 z.2 = txt y.1 y.2 then 1 else 0)
  | _, _ => -1
set_option maxHeartbeats 4000000 in
set_option maxRecDepth 100000 in
theorem c_alike {S : aw_S} {v ad ar : Nat → Nat} {PA : List (Nat × Nat)} {X : List Nat} {mb : Nat} {P : PS} (h : RC S v ad ar PA X mb P) (hP : PI P) {m o w : Int32} : aw_M yX10_alike cX10_alike 4 (some FieldType.int) 10 0 0 [.ref (v 4), .int m, .int o, .int w] S (fun r S2 => r = some (.int (aAlike P m o w)) ∧ RC S2 v ad ar PA X mb P ∧ keepX X S S2) := by
  have hL := h.L
  by_cases hw : w < 0 ∨ 1 < w
  · refine aw_enter (by decide +kernel) (Nat.le_of_ble_eq_true rfl) (fun g K EE => ?_)
    refine a_iload_n K dX10_alike_0 rfl ?_
    refine a_if_lt K dX10_alike_1 (tgt := 18) (by decide) (fun c_1 => ?_) (fun c_1 => ?_)
    · refine a_iconst K dX10_alike_18 (v := -1) (by decide) ?_
      exact a_iret K EE rfl (by omega) (by omega) dX10_alike_19 ⟨by unfold aAlike; rw [if_pos (by first | exact Or.inl c_1 | exact Or.inr c_6)], h, h.X⟩
    · refine a_iload_n K dX10_alike_4 rfl ?_
      refine a_iconst K dX10_alike_5 (v := 1) (by decide) ?_
      refine a_icmp_gt K dX10_alike_6 (tgt := 18) (by decide) (fun c_6 => ?_) (fun c_6 => ?_)
      · refine a_iconst K dX10_alike_18 (v := -1) (by decide) ?_
        exact a_iret K EE rfl (by omega) (by omega) dX10_alike_19 ⟨by unfold aAlike; rw [if_pos (by first | exact Or.inl c_1 | exact Or.inr c_6)], h, h.X⟩
      · exact absurd hw (fun y => y.elim c_1 c_6)
  · cases hz : rootP P m with
    | none =>
      refine aw_enter (by decide +kernel) (Nat.le_of_ble_eq_true rfl) (fun g K EE => ?_)
      refine a_iload_n K dX10_alike_0 rfl ?_
      refine a_if_lt K dX10_alike_1 (tgt := 18) (by decide) (fun c_1 => ?_) (fun c_1 => ?_)
      · exact absurd c_1 (fun y => hw (Or.inl y))
      · refine a_iload_n K dX10_alike_4 rfl ?_
        refine a_iconst K dX10_alike_5 (v := 1) (by decide) ?_
        refine a_icmp_gt K dX10_alike_6 (tgt := 18) (by decide) (fun c_6 => ?_) (fun c_6 => ?_)
        · exact absurd c_6 (fun y => hw (Or.inr y))
        · first | refine a_aload_n K dX10_alike_9 rfl ?_ | refine a_aload_nN K dX10_alike_9 rfl ?_
          refine a_iload_n K dX10_alike_10 rfl ?_
          refine a_iload_n K dX10_alike_11 rfl ?_
          refine a_invV K (c_fillTwo_n h hP (Or.inl hz)) my_X10_fillTwo ml_X10_295 im_X10_fillTwo se_X10_fillTwo (ci := 10) (lw_i4 hL) (by decide) ⟨_, _, rfl⟩ rfl (by omega) (by omega) (by omega) rfl (Nat.le_of_ble_eq_true rfl) dX10_alike_12 ?_
          intro r9 S9 hp9
          obtain ⟨rfl, hS9⟩ := hp9
          obtain rfl := hS9.symm
          refine a_if_ne K dX10_alike_15 (tgt := 20) (by decide) (fun c_15 => absurd c_15 (fun z => z rfl)) (fun c_15 => ?_)
          refine a_iconst K dX10_alike_18 (v := -1) (by decide) ?_
          exact a_iret K EE rfl (by omega) (by omega) dX10_alike_19 ⟨by unfold aAlike; rw [if_neg hw, hz], h, h.X⟩
    | some z =>
      have tz := h.tt hP hz
      obtain ⟨hz4, -, -⟩ := tz.2.h4 hP.1.1
      cases hy : rootP P o with
      | none =>
        refine aw_enter (by decide +kernel) (Nat.le_of_ble_eq_true rfl) (fun g K EE => ?_)
        refine a_iload_n K dX10_alike_0 rfl ?_
        refine a_if_lt K dX10_alike_1 (tgt := 18) (by decide) (fun c_1 => ?_) (fun c_1 => ?_)
        · exact absurd c_1 (fun y => hw (Or.inl y))
        · refine a_iload_n K dX10_alike_4 rfl ?_
          refine a_iconst K dX10_alike_5 (v := 1) (by decide) ?_
          refine a_icmp_gt K dX10_alike_6 (tgt := 18) (by decide) (fun c_6 => ?_) (fun c_6 => ?_)
          · exact absurd c_6 (fun y => hw (Or.inr y))
          · first | refine a_aload_n K dX10_alike_9 rfl ?_ | refine a_aload_nN K dX10_alike_9 rfl ?_
            refine a_iload_n K dX10_alike_10 rfl ?_
            refine a_iload_n K dX10_alike_11 rfl ?_
            refine a_invV K (c_fillTwo_n h hP (Or.inr hy)) my_X10_fillTwo ml_X10_295 im_X10_fillTwo se_X10_fillTwo (ci := 10) (lw_i4 hL) (by decide) ⟨_, _, rfl⟩ rfl (by omega) (by omega) (by omega) rfl (Nat.le_of_ble_eq_true rfl) dX10_alike_12 ?_
            intro r9 S9 hp9
            obtain ⟨rfl, hS9⟩ := hp9
            obtain rfl := hS9.symm
            refine a_if_ne K dX10_alike_15 (tgt := 20) (by decide) (fun c_15 => absurd c_15 (fun z => z rfl)) (fun c_15 => ?_)
            refine a_iconst K dX10_alike_18 (v := -1) (by decide) ?_
            exact a_iret K EE rfl (by omega) (by omega) dX10_alike_19 ⟨by unfold aAlike; rw [if_neg hw, hz, hy], h, h.X⟩
      | some y =>
        have ty := h.tt hP hy
        obtain ⟨hy4, -, -⟩ := ty.2.h4 hP.1.1
        refine aw_enter (by decide +kernel) (Nat.le_of_ble_eq_true rfl) (fun g K EE => ?_)
        refine a_iload_n K dX10_alike_0 rfl ?_
        refine a_if_lt K dX10_alike_1 (tgt := 18) (by decide) (fun c_1 => ?_) (fun c_1 => ?_)
        · exact absurd c_1 (fun y => hw (Or.inl y))
        · refine a_iload_n K dX10_alike_4 rfl ?_
          refine a_iconst K dX10_alike_5 (v := 1) (by decide) ?_
          refine a_icmp_gt K dX10_alike_6 (tgt := 18) (by decide) (fun c_6 => ?_) (fun c_6 => ?_)
          · exact absurd c_6 (fun y => hw (Or.inr y))
          · first | refine a_aload_n K dX10_alike_9 rfl ?_ | refine a_aload_nN K dX10_alike_9 rfl ?_
            refine a_iload_n K dX10_alike_10 rfl ?_
            refine a_iload_n K dX10_alike_11 rfl ?_
            refine a_invV K (c_fillTwo_y h hP hz hy) my_X10_fillTwo ml_X10_295 im_X10_fillTwo se_X10_fillTwo (ci := 10) (lw_i4 hL) (by decide) ⟨_, _, rfl⟩ rfl (by omega) (by omega) (by omega) rfl (Nat.le_of_ble_eq_true rfl) dX10_alike_12 ?_
            intro r9 S9 hp9
            obtain ⟨rfl, hR, hF, h3, k3, tz3, ty3⟩ := hp9
            have hL := h3.L
            refine a_if_ne K dX10_alike_15 (tgt := 20) (by decide) (fun c_15 => ?_) (fun c_15 => absurd c_15 (by decide))
            refine a_iload_n K dX10_alike_20 rfl ?_
            refine a_if_ne K dX10_alike_21 (tgt := 44) (by decide) (fun c_21 => ?_) (fun c_21 => ?_)
            · first | refine a_aload_n K dX10_alike_44 rfl ?_ | refine a_aload_nN K dX10_alike_44 rfl ?_
              refine a_getRs K fd_X10_68 (lw_i4 hL) (Or.inl ⟨_, rfl⟩) (lw_f650 hL) dX10_alike_45 ?_
              first | refine a_aload_n K dX10_alike_48 rfl ?_ | refine a_aload_nN K dX10_alike_48 rfl ?_
              refine a_getRs K fd_X10_46 (lw_i4 hL) (Or.inl ⟨_, rfl⟩) (lw_f646 hL) dX10_alike_49 ?_
              refine a_iload_n K dX10_alike_52 rfl ?_
              refine a_invV K (m_root h3 m) my_X3_heldRoot ml_X10_165 im_X3_heldRoot se_X3_heldRoot (ci := 3) (lw_i6 hL) (by decide) ⟨_, _, rfl⟩ rfl (by omega) (by omega) (by omega) rfl (Nat.le_of_ble_eq_true rfl) dX10_alike_53 ?_
              intro r9 S9 hp9
              obtain ⟨rfl, hS9⟩ := hp9
              obtain rfl := hS9.symm
              rw [hz]
              refine a_invV K (m_write21 h3 hP.1.1 tz3) my_X8_write ml_X10_405 im_X8_write se_X8_write (ci := 8) (by first | exact lw_i19 hL | exact lw_i21 hL | exact lw_i23 hL) (by decide) ⟨_, _, rfl⟩ rfl (by omega) (by omega) (by omega) rfl (Nat.le_of_ble_eq_true rfl) dX10_alike_56 ?_
              intro r9 S9 hp9
              obtain ⟨rfl, hB, h4, k4, f4⟩ := hp9
              have hL := h4.L
              have ty4 := TT_.fr h3 f4 (scr_Sh21 v) ty3
              first | refine a_aload_n K dX10_alike_59 rfl ?_ | refine a_aload_nN K dX10_alike_59 rfl ?_
              refine a_getRs K fd_X10_71 (lw_i4 hL) (Or.inl ⟨_, rfl⟩) (lw_f651 hL) dX10_alike_60 ?_
              first | refine a_aload_n K dX10_alike_63 rfl ?_ | refine a_aload_nN K dX10_alike_63 rfl ?_
              refine a_getRs K fd_X10_46 (lw_i4 hL) (Or.inl ⟨_, rfl⟩) (lw_f646 hL) dX10_alike_64 ?_
              refine a_iload_n K dX10_alike_67 rfl ?_
              refine a_invV K (m_root h4 o) my_X3_heldRoot ml_X10_165 im_X3_heldRoot se_X3_heldRoot (ci := 3) (lw_i6 hL) (by decide) ⟨_, _, rfl⟩ rfl (by omega) (by omega) (by omega) rfl (Nat.le_of_ble_eq_true rfl) dX10_alike_68 ?_
              intro r9 S9 hp9
              obtain ⟨rfl, hS9⟩ := hp9
              obtain rfl := hS9.symm
              rw [hy]
              refine a_invV K (m_write23 h4 hP.1.1 ty4) my_X8_write ml_X10_405 im_X8_write se_X8_write (ci := 8) (by first | exact lw_i19 hL | exact lw_i21 hL | exact lw_i23 hL) (by decide) ⟨_, _, rfl⟩ rfl (by omega) (by omega) (by omega) rfl (Nat.le_of_ble_eq_true rfl) dX10_alike_71 ?_
              intro r9 S9 hp9
              obtain ⟨rfl, hC, h5, k5, f5⟩ := hp9
              have hL := h5.L
              have hB2 := hB.fr f5.fr (vqsh23 hL (by decide)) (vqsh23 hL (by decide))
              first | refine a_aload_n K dX10_alike_74 rfl ?_ | refine a_aload_nN K dX10_alike_74 rfl ?_
              refine a_getRs K fd_X10_68 (lw_i4 hL) (Or.inl ⟨_, rfl⟩) (lw_f650 hL) dX10_alike_75 ?_
              first | refine a_aload_n K dX10_alike_78 rfl ?_ | refine a_aload_nN K dX10_alike_78 rfl ?_
              refine a_getRs K fd_X10_71 (lw_i4 hL) (Or.inl ⟨_, rfl⟩) (lw_f651 hL) dX10_alike_79 ?_
              refine a_invV K (m_Sh_isSameAs hB2 hC (txt_128 _ _) (txt_128 _ _)) my_X8_isSameAs ml_X10_408 im_X8_isSameAs se_X8_isSameAs (ci := 8) (by first | exact lw_i19 hL | exact lw_i21 hL | exact lw_i23 hL) (by decide) ⟨_, _, rfl⟩ rfl (by omega) (by omega) (by omega) rfl (Nat.le_of_ble_eq_true rfl) dX10_alike_82 ?_
              intro r9 S9 hp9
              obtain ⟨hS9, hb9⟩ := hp9
              obtain rfl := hS9.symm
              rcases hb9 with ⟨b_82, rfl⟩ | ⟨b_82, rfl⟩
              · refine a_if_eq K dX10_alike_85 (tgt := 92) (by decide) (fun z => absurd z (by decide)) (fun _ => ?_)
                refine a_iconst K dX10_alike_88 (v := 1) (by decide) ?_
                refine a_goto K dX10_alike_89 (tgt := 93) (by decide) ?_
                exact a_iret K EE rfl (by omega) (by omega) dX10_alike_93 ⟨by unfold aAlike; rw [if_neg hw, hz, hy]; show some (Value.int _) = some (Value.int (ite _ _ _)); first | rw [if_neg c_21, if_pos b_82] | rw [if_neg c_21, if_neg b_82], h5, (k3.tr k4).tr k5⟩
              · refine a_if_eq K dX10_alike_85 (tgt := 92) (by decide) (fun _ => ?_) (fun z => absurd z (by decide))
                refine a_iconst K dX10_alike_92 (v := 0) (by decide) ?_
                exact a_iret K EE rfl (by omega) (by omega) dX10_alike_93 ⟨by unfold aAlike; rw [if_neg hw, hz, hy]; show some (Value.int _) = some (Value.int (ite _ _ _)); first | rw [if_neg c_21, if_pos b_82] | rw [if_neg c_21, if_neg b_82], h5, (k3.tr k4).tr k5⟩
            · first | refine a_aload_n K dX10_alike_24 rfl ?_ | refine a_aload_nN K dX10_alike_24 rfl ?_
              refine a_getRs K fd_X10_77 (lw_i4 hL) (Or.inl ⟨_, rfl⟩) (lw_f652 hL) dX10_alike_25 ?_
              first | refine a_aload_n K dX10_alike_28 rfl ?_ | refine a_aload_nN K dX10_alike_28 rfl ?_
              refine a_getRs K fd_X10_81 (lw_i4 hL) (Or.inl ⟨_, rfl⟩) (lw_f653 hL) dX10_alike_29 ?_
              refine a_invV K (m_R_isSameAs hR hF) my_X7_isSameAs ml_X10_401 im_X7_isSameAs se_X7_isSameAs (ci := 7) (by first | exact lw_i25 hL | exact lw_i28 hL | exact lw_i31 hL) (by decide) ⟨_, _, rfl⟩ rfl (by omega) (by omega) (by omega) rfl (Nat.le_of_ble_eq_true rfl) dX10_alike_32 ?_
              intro r9 S9 hp9
              obtain ⟨hS9, hb9⟩ := hp9
              obtain rfl := hS9.symm
              rcases hb9 with ⟨b_32, rfl⟩ | ⟨b_32, rfl⟩
              · refine a_if_eq K dX10_alike_35 (tgt := 42) (by decide) (fun z => absurd z (by decide)) (fun _ => ?_)
                refine a_iconst K dX10_alike_38 (v := 1) (by decide) ?_
                refine a_goto K dX10_alike_39 (tgt := 43) (by decide) ?_
                exact a_iret K EE rfl (by omega) (by omega) dX10_alike_43 ⟨by unfold aAlike; rw [if_neg hw, hz, hy]; show some (Value.int _) = some (Value.int (ite _ _ _)); first | rw [if_pos (by first | exact c_21 | exact Classical.not_not.mp c_21), if_pos b_32] | rw [if_pos (by first | exact c_21 | exact Classical.not_not.mp c_21), if_neg b_32], h3, k3⟩
              · refine a_if_eq K dX10_alike_35 (tgt := 42) (by decide) (fun _ => ?_) (fun z => absurd z (by decide))
                refine a_iconst K dX10_alike_42 (v := 0) (by decide) ?_
                exact a_iret K EE rfl (by omega) (by omega) dX10_alike_43 ⟨by unfold aAlike; rw [if_neg hw, hz, hy]; show some (Value.int _) = some (Value.int (ite _ _ _)); first | rw [if_pos (by first | exact c_21 | exact Classical.not_not.mp c_21), if_pos b_32] | rw [if_pos (by first | exact c_21 | exact Classical.not_not.mp c_21), if_neg b_32], h3, k3⟩
theorem sub_ids {h : Nat} {t : Tr h} {u : Nat} (hb : ∀ y ∈ ndl h t, y.1 < u) : ∀ z ∈ sub h t, z.2.1 < u := fun z hz => by
  have h1 : ((z.2.1, z.2.2.1) : Nat × Nat) ∈ ndl h t := by
    rw [← sub_ndl]
    exact List.mem_map_of_mem hz
  exact hb _ h1
set_option maxHeartbeats 4000000 in
set_option maxRecDepth 100000 in
theorem c_marked {S : aw_S} {v ad ar : Nat → Nat} {PA : List (Nat × Nat)} {X : List Nat} {mb : Nat} {P : PS} (h : RC S v ad ar PA X mb P) (hP : PI P) (hm : mb + 1 < 2147483000) {z : Tz} (t : TT_ S ad ar P z) : aw_M yX10_marked cX10_marked 2 (some FieldType.int) 9 0 0 [.ref (v 4), .ref (ad z.2.1)] S (fun r S2 => ∃ mr, r = some (.int (nI mr)) ∧ mr < 2147483648 ∧ RC S2 v ad ar PA X (mb + 1) P ∧ keepX X S S2 ∧ sI S2 656 (v 4) = nI mr ∧ ∀ i, i < pU P → (sI S2 260 (ad i) = nI mr ↔ mkS (fun _ => false) (sub z.1 z.2) i = true)) := by
  have hL := h.L
  obtain ⟨mr, hmr, hmr2, h1, k1, n1⟩ := h.m656 hm
  obtain ⟨hz4, -, -⟩ := t.2.h4 hP.1.1
  have t1 : TT_ (wI S 656 (v 4) (nI (mr + 1))) ad ar P z := ⟨⟨NL.frq t.1.1 (frS_wI (by decide)) (h.scq (fun b y => ⟨4, by decide, y⟩) t.1), t.1.2⟩, t.2⟩
  have hu := sub_ids t.1.2
  refine aw_enter (by decide +kernel) (Nat.le_of_ble_eq_true rfl) (fun g K EE => ?_)
  first | refine a_aload_n K dX10_marked_0 rfl ?_ | refine a_aload_nN K dX10_marked_0 rfl ?_
  refine a_dup K dX10_marked_1 rfl ?_
  refine a_getI K fd_X10_395 (lw_i4 hL) (Or.inl rfl) dX10_marked_2 ?_
  refine a_iconst K dX10_marked_5 (v := 1) (by decide) ?_
  rw [hmr]
  refine a_iadd K dX10_marked_6 ?_
  rw [nI_1]
  refine a_putI K fd_X10_395 (lw_i4 hL) rfl dX10_marked_7 ?_
  first | refine a_aload_n K dX10_marked_10 rfl ?_ | refine a_aload_nN K dX10_marked_10 rfl ?_
  refine a_getRs K fd_X10_90 (lw_i4 hL) (Or.inl ⟨_, rfl⟩) (lw_f655 hL) dX10_marked_11 ?_
  first | refine a_aload_n K dX10_marked_14 rfl ?_ | refine a_aload_nN K dX10_marked_14 rfl ?_
  refine a_invV K (m_fillL h1 hP.1.1 t1) my_X2_fill ml_X10_181 im_X2_fill se_X2_fill (ci := 2) (lw_i34 hL) (by decide) ⟨_, _, rfl⟩ rfl (by omega) (by omega) (by omega) rfl (Nat.le_of_ble_eq_true rfl) dX10_marked_15 ?_
  intro r9 S9 hp9
  obtain ⟨rfl, hLs, h3, k3, f3⟩ := hp9
  have hL := h3.L
  have e3 : sI S9 656 (v 4) = nI (mr + 1) := by rw [(f3.2.2.2.2.2.2.2 _ (vqls hL (by decide))).1]; exact wI_at
  have h0 : ∀ i, i < pU P → (sI S9 260 (ad i) = nI (mr + 1) ↔ (fun _ => false) i = true) := fun i hi => ⟨fun y => absurd ((f3.2.2.2.2.2.2.1 _ 260 (Or.inl rfl)).symm.trans y) (n1 i hi), fun y => absurd y (by simp)⟩
  first | refine a_aload_n K dX10_marked_18 rfl ?_ | refine a_aload_nN K dX10_marked_18 rfl ?_
  refine a_getRs K fd_X10_90 (lw_i4 hL) (Or.inl ⟨_, rfl⟩) (lw_f655 hL) dX10_marked_19 ?_
  first | refine a_aload_n K dX10_marked_22 rfl ?_ | refine a_aload_nN K dX10_marked_22 rfl ?_
  refine a_getI K fd_X10_395 (lw_i4 hL) (Or.inl rfl) dX10_marked_23 ?_
  rw [e3]
  refine a_invV K (m_Ls_mark (m0 := fun _ => false) hLs h3.2.2.2.2.2.2.2.2.1.1 hu h0 rfl) my_X2_mark ml_X10_392 im_X2_mark se_X2_mark (ci := 2) (lw_i34 hL) (by decide) ⟨_, _, rfl⟩ rfl (by omega) (by omega) (by omega) rfl (Nat.le_of_ble_eq_true rfl) dX10_marked_26 ?_
  intro r9 T hp9
  obtain ⟨rfl, hmk⟩ := hp9
  have h4 := h3.mkr hmk e3 (fun i hi => by obtain ⟨y, hy, e⟩ := List.mem_map.mp hi; rw [← e]; exact hu y hy)
  have e4 : sI T 656 (v 4) = nI (mr + 1) := by rw [hmk.2.1 656 _ (by decide)]; exact e3
  have hL := h4.1.L
  refine a_pop K dX10_marked_29 rfl ?_
  first | refine a_aload_n K dX10_marked_30 rfl ?_ | refine a_aload_nN K dX10_marked_30 rfl ?_
  refine a_getI K fd_X10_395 (lw_i4 hL) (Or.inl rfl) dX10_marked_31 ?_
  rw [e4]
  exact a_iret K EE rfl (by omega) (by omega) dX10_marked_34 ⟨mr + 1, rfl, by omega, h4.1, k1.tr (k3.tr h4.2), e4, mkR.tr hmk h3.2.2.2.2.2.2.2.2.1.1 hu h0⟩
