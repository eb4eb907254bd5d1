/-! the model: more calls that read -/
theorem i64_nI {n : Nat} (hn : n < 2147483648) : ((nI n).toInt64).toInt = (n : Int) := by rw [Int32.toInt_toInt64, nI_toInt hn]
theorem i64_pm {n : Nat} (hn : n < 2147483648) : ((nI n - 1).toInt64).toInt = (n : Int) - 1 := by
  rw [Int32.toInt_toInt64]
  cases n with
  | zero => decide
  | succ n =>
    rw [nI_pred, nI_toInt (by omega)]
    omega
theorem i32_in {x : Int32} {n : Nat} (hn : n < 2147483648) (h : 0 ≤ x.toInt ∧ x.toInt < n) : ∃ k, k < n ∧ x = nI k := by
  obtain ⟨k, hk⟩ : ∃ k : Nat, x.toInt = k := ⟨x.toInt.toNat, by omega⟩
  exact ⟨k, by omega, i32_of (by omega) hk⟩
theorem nI_16 (n : Nat) : 16 * nI n = nI (16 * n) := (Int32.ofNat_mul 16 n).symm
theorem nI_4l (n : Nat) : 4 * nI n = nI (4 * n) := (Int32.ofNat_mul 4 n).symm
theorem bAt_some {i : Int32} {j : Nat} (h : bAt i = some j) : i = nI j ∧ j < 4 := by
  unfold bAt at h
  by_cases c : 0 ≤ i.toInt ∧ i.toInt < ((4 : Nat) : Int)
  · rw [if_pos c] at h
    obtain ⟨k, hk, e⟩ := i32_in (n := 4) (by decide) c
    rw [e, nI_clamp (by omega)] at h
    cases h
    exact ⟨e, hk⟩
  · rw [if_neg c] at h
    exact absurd h (by simp)
theorem bAt_none {i : Int32} (h : bAt i = none) : ¬ bld4 i := fun z => by
  unfold bAt at h
  rw [if_pos (show 0 ≤ i.toInt ∧ i.toInt < ((4 : Nat) : Int) from z)] at h
  exact absurd h (by simp)
theorem bld4_nI {j : Nat} (hj : j < 4) : bld4 (nI j) := by
  unfold bld4
  rw [nI_toInt (by omega)]
  omega
theorem RM.ob {S : aw_S} {m ρ : Nat → Nat} {Z : List Nat × Nat} {mb : Nat} {P : PS} (h : RM S m ρ Z mb P) : sI S 747 (m 33) = obN P 4 := h.2.1.2.2.2.2.2.2.1
theorem q_openY {S : aw_S} {m ρ : Nat → Nat} {Z : List Nat × Nat} {mb : Nat} {P : PS} (h : RM S m ρ Z mb P) {j : Nat} {b : BI} (hj : j < 4) (hb : pB P j = some b) : aw_M yX11_isOpen cX11_isOpen 2 (some FieldType.boolean) 2 0 0 [.ref (m 33), .int (nI j)] S (fun r S2 => r = some (.int 1) ∧ S2 = S) := (q_isOpen h.1 h.ob).post (fun r S2 hp => ⟨bR_y ⟨bld4_nI hj, (ob_has j hj).mpr (by rw [hb]; rfl)⟩ hp.2, hp.1⟩)
theorem q_openN {S : aw_S} {m ρ : Nat → Nat} {Z : List Nat × Nat} {mb : Nat} {P : PS} (h : RM S m ρ Z mb P) {i : Int32} (hb : bAt i = none ∨ ∃ j, bAt i = some j ∧ pB P j = none) : aw_M yX11_isOpen cX11_isOpen 2 (some FieldType.boolean) 2 0 0 [.ref (m 33), .int i] S (fun r S2 => r = some (.int 0) ∧ S2 = S) := (q_isOpen h.1 h.ob).post (fun r S2 hp => ⟨bR_n (fun z => by
  rcases hb with e | ⟨j, e, e2⟩
  · exact bAt_none e z.1
  · obtain ⟨e3, hj⟩ := bAt_some e
    rw [e3] at z
    have h9 := (ob_has j hj).mp z.2
    rw [e2] at h9
    exact absurd h9 (by decide)) hp.2, hp.1⟩)
theorem bui_live {P : PS} {j : Nat} {b : BI} (hj : j < 4) (hb : pB P j = some b) : LvT P b.1 := Or.inr ⟨j, b, hj, hb, rfl⟩
theorem RM.bro {S : aw_S} {m ρ : Nat → Nat} {Z : List Nat × Nat} {mb : Nat} {P : PS} (h : RM S m ρ Z mb P) {j : Nat} {b : BI} (hj : j < 4) (hb : pB P j = some b) : sA S (m 20) j = nI (ρ b.1.2.1) ∧ sA S (m 21) j = nI (b.2.1 + 1) ∧ sA S (m 22) j = b.2.2 := h.2.2.2.1 j b hj hb
/-- how many nodes have a token -/
theorem RepM.tks {S : aw_S} {m ρ : Nat → Nat} {z : Tz} (r : RepM S m ρ z.1 z.2) : ∀ y ∈ sub z.1 z.2, ρ y.2.1 < 12000 ∧ sA S (m 6) (ρ y.2.1) = nI (y.2.2.1 + 1) := fun y hy => by
  have n := (sub_repM z.1 r y hy).own
  exact ⟨n.1, n.2.2.2.1⟩
set_option maxHeartbeats 4000000 in
set_option maxRecDepth 100000 in
theorem q_status {S : aw_S} {m ρ : Nat → Nat} {Z : List Nat × Nat} {mb n9 : Nat} {P : PS} (h0 : RM S m ρ Z mb P) (hJ : PJ n9 P) {i : Int32} : aw_M yX11_status cX11_status 2 (some FieldType.int) 2 0 0 [.ref (m 33), .int i] S (fun r S2 => r = some (.int (stsA P i)) ∧ RM S2 m ρ Z mb P ∧ frS S S2 (mQ m)) := by
  have hP := hJ.1
  have hw3 := hP.1.1
  have hM := h0.1
  have hl9 := hJ.ln
  refine aw_enter (by decide +kernel) (Nat.le_of_ble_eq_true rfl) (fun g K EE => ?_)
  by_cases hi : 0 ≤ i.toInt ∧ i.toInt ≤ 4
  · obtain ⟨k, hk, e⟩ := i32_in (n := 5) (by decide) ⟨hi.1, by omega⟩
    subst e
    first | refine a_aload_n K dX11_status_0 rfl ?_ | refine a_aload_nN K dX11_status_0 rfl ?_
    refine a_iconst K dX11_status_1 (v := 0) (by decide) ?_
    refine a_putI K fd_X11_116 (by exact lm_o hM) rfl dX11_status_2 ?_
    have f0 : frM S (wI S 704 (m 33) 0) m [] [704] := frM_wI (by decide) (by decide)
    obtain ⟨T, hT⟩ : ∃ T, T = wI S 704 (m 33) 0 := ⟨_, rfl⟩
    rw [← hT] at f0 ⊢
    obtain ⟨h, q0⟩ := h0.scr hP f0 (by decide) (by decide)
    have hM := h.1
    refine a_iload_n K dX11_status_5 rfl ?_
    refine a_i2l K dX11_status_6 ?_
    refine a_lconst K dX11_status_7 (v := 0) (by decide) ?_
    refine a_ldc2 K kc_X11_466 dX11_status_8 ?_
    refine a_invS K (q_inY (p := 0) (q := 4) (by decide) (by decide) (by first | assumption | omega)) my_X11_isIn ml_X11_174 st_X11_isIn rfl (by omega) (by omega) (by omega) rfl (Nat.le_of_ble_eq_true rfl) dX11_status_11 ?_
    intro r9 S9 hp9
    obtain ⟨rfl, hS9⟩ := hp9
    obtain rfl := hS9.symm
    refine a_if_eq K dX11_status_14 (tgt := 26) (by decide) (fun c_14 => absurd c_14 (by decide)) (fun c_14 => ?_)
    first | refine a_aload_n K dX11_status_17 rfl ?_ | refine a_aload_nN K dX11_status_17 rfl ?_
    refine a_getRs K fd_X11_85 (by exact lm_o hM) (Or.inr ⟨_, rfl⟩) (by exact lm_r742 hM) dX11_status_18 ?_
    refine a_iload_n K dX11_status_21 rfl ?_
    refine a_iald K (by exact lm_kk hM (by decide) (by decide)) (by show vp_in _ (sN T (m 23)); exact lm_ix (z := 5) hM (by decide) (by decide) (show k < 5 by omega) (by decide)) dX11_status_22 ?_
    rw [nI_clamp (by omega)]
    rw [h.2.2.2.2.1.1 k hk]
    refine a_goto K dX11_status_23 (tgt := 27) (by decide) ?_
    exact a_iret K EE rfl (by omega) (by omega) dX11_status_27 ⟨by unfold stsA; rw [at0_in (by omega) (by decide)], h, q0⟩
  · first | refine a_aload_n K dX11_status_0 rfl ?_ | refine a_aload_nN K dX11_status_0 rfl ?_
    refine a_iconst K dX11_status_1 (v := 0) (by decide) ?_
    refine a_putI K fd_X11_116 (by exact lm_o hM) rfl dX11_status_2 ?_
    have f0 : frM S (wI S 704 (m 33) 0) m [] [704] := frM_wI (by decide) (by decide)
    obtain ⟨T, hT⟩ : ∃ T, T = wI S 704 (m 33) 0 := ⟨_, rfl⟩
    rw [← hT] at f0 ⊢
    obtain ⟨h, q0⟩ := h0.scr hP f0 (by decide) (by decide)
    have hM := h.1
    refine a_iload_n K dX11_status_5 rfl ?_
    refine a_i2l K dX11_status_6 ?_
    refine a_lconst K dX11_status_7 (v := 0) (by decide) ?_
    refine a_ldc2 K kc_X11_466 dX11_status_8 ?_
    refine a_invS K (q_inN (p := 0) (q := 4) (by decide) (by decide) (by first | assumption | omega)) my_X11_isIn ml_X11_174 st_X11_isIn rfl (by omega) (by omega) (by omega) rfl (Nat.le_of_ble_eq_true rfl) dX11_status_11 ?_
    intro r9 S9 hp9
    obtain ⟨rfl, hS9⟩ := hp9
    obtain rfl := hS9.symm
    refine a_if_eq K dX11_status_14 (tgt := 26) (by decide) (fun c_14 => ?_) (fun c_14 => absurd c_14 (by decide))
    refine a_iconst K dX11_status_26 (v := -1) (by decide) ?_
    exact a_iret K EE rfl (by omega) (by omega) dX11_status_27 ⟨by unfold stsA at0; rw [if_neg (fun q => hi ⟨q.1, by have := q.2; omega⟩)], h, q0⟩
set_option maxHeartbeats 4000000 in
set_option maxRecDepth 100000 in
theorem q_shown {S : aw_S} {m ρ : Nat → Nat} {Z : List Nat × Nat} {mb n9 : Nat} {P : PS} (h0 : RM S m ρ Z mb P) (hJ : PJ n9 P) {i : Int32} : aw_M yX11_shown cX11_shown 2 (some FieldType.int) 2 0 0 [.ref (m 33), .int i] S (fun r S2 => r = some (.int (shnA P i)) ∧ RM S2 m ρ Z mb P ∧ frS S S2 (mQ m)) := by
  have hP := hJ.1
  have hw3 := hP.1.1
  have hM := h0.1
  have hl9 := hJ.ln
  have hs14 : (pS P).length ≤ 1400 := h0.2.1.2.2.2.2.2.2.2.2.2
  refine aw_enter (by decide +kernel) (Nat.le_of_ble_eq_true rfl) (fun g K EE => ?_)
  by_cases hi : 0 ≤ i.toInt ∧ i.toInt ≤ ((pS P).length : Int) - 1
  · obtain ⟨k, hk, e⟩ := i32_in (n := (pS P).length) (by omega) ⟨hi.1, by omega⟩
    subst e
    first | refine a_aload_n K dX11_shown_0 rfl ?_ | refine a_aload_nN K dX11_shown_0 rfl ?_
    refine a_iconst K dX11_shown_1 (v := 0) (by decide) ?_
    refine a_putI K fd_X11_116 (by exact lm_o hM) rfl dX11_shown_2 ?_
    have f0 : frM S (wI S 704 (m 33) 0) m [] [704] := frM_wI (by decide) (by decide)
    obtain ⟨T, hT⟩ : ∃ T, T = wI S 704 (m 33) 0 := ⟨_, rfl⟩
    rw [← hT] at f0 ⊢
    obtain ⟨h, q0⟩ := h0.scr hP f0 (by decide) (by decide)
    have hM := h.1
    refine a_iload_n K dX11_shown_5 rfl ?_
    refine a_i2l K dX11_shown_6 ?_
    refine a_lconst K dX11_shown_7 (v := 0) (by decide) ?_
    first | refine a_aload_n K dX11_shown_8 rfl ?_ | refine a_aload_nN K dX11_shown_8 rfl ?_
    refine a_getI K fd_X11_462 (by exact lm_o hM) (Or.inl rfl) dX11_shown_9 ?_
    rw [show sI T 758 (m 33) = nI (pS P).length from h.2.1.2.2.2.2.2.2.2.2.1]
    refine a_iconst K dX11_shown_12 (v := 1) (by decide) ?_
    refine a_isub K dX11_shown_13 ?_
    refine a_i2l K dX11_shown_14 ?_
    refine a_invS K (q_inY (p := 0) (q := ((pS P).length : Int) - 1) (by decide) (i64_pm (by omega)) hi) my_X11_isIn ml_X11_174 st_X11_isIn rfl (by omega) (by omega) (by omega) rfl (Nat.le_of_ble_eq_true rfl) dX11_shown_15 ?_
    intro r9 S9 hp9
    obtain ⟨rfl, hS9⟩ := hp9
    obtain rfl := hS9.symm
    refine a_if_eq K dX11_shown_18 (tgt := 30) (by decide) (fun c_18 => absurd c_18 (by decide)) (fun c_18 => ?_)
    first | refine a_aload_n K dX11_shown_21 rfl ?_ | refine a_aload_nN K dX11_shown_21 rfl ?_
    refine a_getRs K fd_X11_110 (by exact lm_o hM) (Or.inr ⟨_, rfl⟩) (by exact lm_r756 hM) dX11_shown_22 ?_
    refine a_iload_n K dX11_shown_25 rfl ?_
    refine a_bald K (by exact lm_kk hM (by decide) (by decide)) (by show vp_in _ (sN T (m 31)); exact lm_ix (z := 1400) hM (by decide) (by decide) (show k < 1400 by omega) (by decide)) dX11_shown_26 ?_
    rw [nI_clamp (by omega)]
    rw [show sA T (m 31) k = nI (pS P)[k] from h.2.2.2.2.1.2.2.2 k _ (List.getElem?_eq_getElem hk)]
    refine a_goto K dX11_shown_27 (tgt := 31) (by decide) ?_
    exact a_iret K EE rfl (by omega) (by omega) dX11_shown_31 ⟨by unfold shnA; rw [at0_in hk (by omega), List.getD_eq_getElem?_getD, List.getElem?_eq_getElem hk]; rfl, h, q0⟩
  · first | refine a_aload_n K dX11_shown_0 rfl ?_ | refine a_aload_nN K dX11_shown_0 rfl ?_
    refine a_iconst K dX11_shown_1 (v := 0) (by decide) ?_
    refine a_putI K fd_X11_116 (by exact lm_o hM) rfl dX11_shown_2 ?_
    have f0 : frM S (wI S 704 (m 33) 0) m [] [704] := frM_wI (by decide) (by decide)
    obtain ⟨T, hT⟩ : ∃ T, T = wI S 704 (m 33) 0 := ⟨_, rfl⟩
    rw [← hT] at f0 ⊢
    obtain ⟨h, q0⟩ := h0.scr hP f0 (by decide) (by decide)
    have hM := h.1
    refine a_iload_n K dX11_shown_5 rfl ?_
    refine a_i2l K dX11_shown_6 ?_
    refine a_lconst K dX11_shown_7 (v := 0) (by decide) ?_
    first | refine a_aload_n K dX11_shown_8 rfl ?_ | refine a_aload_nN K dX11_shown_8 rfl ?_
    refine a_getI K fd_X11_462 (by exact lm_o hM) (Or.inl rfl) dX11_shown_9 ?_
    rw [show sI T 758 (m 33) = nI (pS P).length from h.2.1.2.2.2.2.2.2.2.2.1]
    refine a_iconst K dX11_shown_12 (v := 1) (by decide) ?_
    refine a_isub K dX11_shown_13 ?_
    refine a_i2l K dX11_shown_14 ?_
    refine a_invS K (q_inN (p := 0) (q := ((pS P).length : Int) - 1) (by decide) (i64_pm (by omega)) hi) my_X11_isIn ml_X11_174 st_X11_isIn rfl (by omega) (by omega) (by omega) rfl (Nat.le_of_ble_eq_true rfl) dX11_shown_15 ?_
    intro r9 S9 hp9
    obtain ⟨rfl, hS9⟩ := hp9
    obtain rfl := hS9.symm
    refine a_if_eq K dX11_shown_18 (tgt := 30) (by decide) (fun c_18 => ?_) (fun c_18 => absurd c_18 (by decide))
    refine a_iconst K dX11_shown_30 (v := -1) (by decide) ?_
    exact a_iret K EE rfl (by omega) (by omega) dX11_shown_31 ⟨by unfold shnA at0; rw [if_neg (fun q => hi ⟨q.1, by have := q.2; omega⟩)], h, q0⟩
set_option maxHeartbeats 4000000 in
set_option maxRecDepth 100000 in
theorem q_step {S : aw_S} {m ρ : Nat → Nat} {Z : List Nat × Nat} {mb n9 : Nat} {P : PS} (h0 : RM S m ρ Z mb P) (hJ : PJ n9 P) {p i w : Int32} : aw_M yX11_step cX11_step 4 (some FieldType.int) 2 0 0 [.ref (m 33), .int p, .int i, .int w] S (fun r S2 => r = some (.int (stpA P p i w)) ∧ RM S2 m ρ Z mb P ∧ frS S S2 (mQ m)) := by
  have hP := hJ.1
  have hw3 := hP.1.1
  have hM := h0.1
  have hl9 := hJ.ln
  refine aw_enter (by decide +kernel) (Nat.le_of_ble_eq_true rfl) (fun g K EE => ?_)
  have h4g := hJ.2.2.2.1
  by_cases hp : 0 ≤ p.toInt ∧ p.toInt ≤ ((pG P).length : Int) - 1
  · obtain ⟨kp, hkp, e⟩ := i32_in (n := (pG P).length) (by have := h4g.1; omega) ⟨hp.1, by omega⟩
    subst e
    have hg := List.getElem?_eq_getElem hkp
    generalize (pG P)[kp]'hkp = g at hg
    have h16 := (h4g.2 g (List.mem_of_getElem? hg)).1
    have h4p := h4g.1
    have hpa : stpA P (nI kp) i w = celA g i w := by
      unfold stpA prgA
      rw [nI_toInt (by omega), nI_clamp (by omega), if_pos (by omega), hg]
    by_cases hi : 0 ≤ i.toInt ∧ i.toInt ≤ (g.length : Int) - 1
    · obtain ⟨ki, hki, e⟩ := i32_in (n := g.length) (by omega) ⟨hi.1, by omega⟩
      subst e
      have hs := List.getElem?_eq_getElem hki
      generalize g[ki]'hki = s at hs
      by_cases hw : 0 ≤ w.toInt ∧ w.toInt ≤ 3
      · obtain ⟨kw, hkw, e⟩ := i32_in (n := 4) (by decide) ⟨hw.1, by omega⟩
        subst e
        first | refine a_aload_n K dX11_step_0 rfl ?_ | refine a_aload_nN K dX11_step_0 rfl ?_
        refine a_iconst K dX11_step_1 (v := 0) (by decide) ?_
        refine a_putI K fd_X11_116 (by exact lm_o hM) rfl dX11_step_2 ?_
        have f0 : frM S (wI S 704 (m 33) 0) m [] [704] := frM_wI (by decide) (by decide)
        obtain ⟨T, hT⟩ : ∃ T, T = wI S 704 (m 33) 0 := ⟨_, rfl⟩
        rw [← hT] at f0 ⊢
        obtain ⟨h, q0⟩ := h0.scr hP f0 (by decide) (by decide)
        have hM := h.1
        refine a_iload_n K dX11_step_5 rfl ?_
        refine a_i2l K dX11_step_6 ?_
        refine a_lconst K dX11_step_7 (v := 0) (by decide) ?_
        first | refine a_aload_n K dX11_step_8 rfl ?_ | refine a_aload_nN K dX11_step_8 rfl ?_
        refine a_getI K fd_X11_286 (by exact lm_o hM) (Or.inl rfl) dX11_step_9 ?_
        rw [show sI T 713 (m 33) = nI (pG P).length from h.2.1.2.1]
        refine a_iconst K dX11_step_12 (v := 1) (by decide) ?_
        refine a_isub K dX11_step_13 ?_
        refine a_i2l K dX11_step_14 ?_
        refine a_invS K (q_inY (p := 0) (q := ((pG P).length : Int) - 1) (by decide) (i64_pm (by omega)) hp) my_X11_isIn ml_X11_174 st_X11_isIn rfl (by omega) (by omega) (by omega) rfl (Nat.le_of_ble_eq_true rfl) dX11_step_15 ?_
        intro r9 S9 hp9
        obtain ⟨rfl, hS9⟩ := hp9
        obtain rfl := hS9.symm
        refine a_if_eq K dX11_step_18 (tgt := 69) (by decide) (fun c_18 => absurd c_18 (by decide)) (fun c_18 => ?_)
        refine a_iload_n K dX11_step_21 rfl ?_
        refine a_i2l K dX11_step_22 ?_
        refine a_lconst K dX11_step_23 (v := 0) (by decide) ?_
        first | refine a_aload_n K dX11_step_24 rfl ?_ | refine a_aload_nN K dX11_step_24 rfl ?_
        refine a_getRs K fd_X11_20 (by exact lm_o hM) (Or.inr ⟨_, rfl⟩) (by exact lm_r711 hM) dX11_step_25 ?_
        refine a_iload_n K dX11_step_28 rfl ?_
        refine a_iald K (by exact lm_kk hM (by decide) (by decide)) (by show vp_in _ (sN T (m 3)); exact lm_ix (z := 5) hM (by decide) (by decide) (show kp < 5 by omega) (by decide)) dX11_step_29 ?_
        rw [nI_clamp (by omega)]
        rw [(h.2.2.2.2.2.1 kp g hg).1]
        refine a_iconst K dX11_step_30 (v := 1) (by decide) ?_
        refine a_isub K dX11_step_31 ?_
        refine a_i2l K dX11_step_32 ?_
        refine a_invS K (q_inY (p := 0) (q := (g.length : Int) - 1) (by decide) (i64_pm (by omega)) hi) my_X11_isIn ml_X11_174 st_X11_isIn rfl (by omega) (by omega) (by omega) rfl (Nat.le_of_ble_eq_true rfl) dX11_step_33 ?_
        intro r9 S9 hp9
        obtain ⟨rfl, hS9⟩ := hp9
        obtain rfl := hS9.symm
        refine a_if_eq K dX11_step_36 (tgt := 69) (by decide) (fun c_36 => absurd c_36 (by decide)) (fun c_36 => ?_)
        refine a_iload_n K dX11_step_39 rfl ?_
        refine a_i2l K dX11_step_40 ?_
        refine a_lconst K dX11_step_41 (v := 0) (by decide) ?_
        refine a_ldc2 K kc_X11_305 dX11_step_42 ?_
        refine a_invS K (q_inY (p := 0) (q := 3) (by decide) (by decide) (by first | assumption | omega)) my_X11_isIn ml_X11_174 st_X11_isIn rfl (by omega) (by omega) (by omega) rfl (Nat.le_of_ble_eq_true rfl) dX11_step_45 ?_
        intro r9 S9 hp9
        obtain ⟨rfl, hS9⟩ := hp9
        obtain rfl := hS9.symm
        refine a_if_eq K dX11_step_48 (tgt := 69) (by decide) (fun c_48 => absurd c_48 (by decide)) (fun c_48 => ?_)
        first | refine a_aload_n K dX11_step_51 rfl ?_ | refine a_aload_nN K dX11_step_51 rfl ?_
        refine a_getRs K fd_X11_17 (by exact lm_o hM) (Or.inr ⟨_, rfl⟩) (by exact lm_r710 hM) dX11_step_52 ?_
        refine a_iconst K dX11_step_55 (v := 4) (by decide) ?_
        refine a_bipush K dX11_step_56 (v := 16) (by decide) ?_
        refine a_iload_n K dX11_step_58 rfl ?_
        refine a_imul K dX11_step_59 ?_
        rw [nI_16]
        refine a_iload_n K dX11_step_60 rfl ?_
        refine a_iadd K dX11_step_61 ?_
        rw [nI_add]
        refine a_imul K dX11_step_62 ?_
        rw [nI_4l]
        refine a_iload_n K dX11_step_63 rfl ?_
        refine a_iadd K dX11_step_64 ?_
        rw [nI_add]
        refine a_iald K (by exact lm_kk hM (by decide) (by decide)) (by show vp_in _ (sN T (m 2)); exact lm_ix (z := 320) hM (by decide) (by decide) (show 4 * (16 * kp + ki) + kw < 320 by omega) (by decide)) dX11_step_65 ?_
        rw [nI_clamp (by omega)]
        rw [(h.2.2.2.2.2.1 kp g hg).2 ki s hs kw hkw]
        refine a_goto K dX11_step_66 (tgt := 71) (by decide) ?_
        exact a_iret K EE rfl (by omega) (by omega) dX11_step_71 ⟨by rw [hpa]; unfold celA; rw [nI_toInt (by omega), nI_toInt (by omega), if_pos ⟨by omega, by omega⟩, nI_clamp (by omega), nI_clamp (by omega), hs], h, q0⟩
      · first | refine a_aload_n K dX11_step_0 rfl ?_ | refine a_aload_nN K dX11_step_0 rfl ?_
        refine a_iconst K dX11_step_1 (v := 0) (by decide) ?_
        refine a_putI K fd_X11_116 (by exact lm_o hM) rfl dX11_step_2 ?_
        have f0 : frM S (wI S 704 (m 33) 0) m [] [704] := frM_wI (by decide) (by decide)
        obtain ⟨T, hT⟩ : ∃ T, T = wI S 704 (m 33) 0 := ⟨_, rfl⟩
        rw [← hT] at f0 ⊢
        obtain ⟨h, q0⟩ := h0.scr hP f0 (by decide) (by decide)
        have hM := h.1
        refine a_iload_n K dX11_step_5 rfl ?_
        refine a_i2l K dX11_step_6 ?_
        refine a_lconst K dX11_step_7 (v := 0) (by decide) ?_
        first | refine a_aload_n K dX11_step_8 rfl ?_ | refine a_aload_nN K dX11_step_8 rfl ?_
        refine a_getI K fd_X11_286 (by exact lm_o hM) (Or.inl rfl) dX11_step_9 ?_
        rw [show sI T 713 (m 33) = nI (pG P).length from h.2.1.2.1]
        refine a_iconst K dX11_step_12 (v := 1) (by decide) ?_
        refine a_isub K dX11_step_13 ?_
        refine a_i2l K dX11_step_14 ?_
        refine a_invS K (q_inY (p := 0) (q := ((pG P).length : Int) - 1) (by decide) (i64_pm (by omega)) hp) my_X11_isIn ml_X11_174 st_X11_isIn rfl (by omega) (by omega) (by omega) rfl (Nat.le_of_ble_eq_true rfl) dX11_step_15 ?_
        intro r9 S9 hp9
        obtain ⟨rfl, hS9⟩ := hp9
        obtain rfl := hS9.symm
        refine a_if_eq K dX11_step_18 (tgt := 69) (by decide) (fun c_18 => absurd c_18 (by decide)) (fun c_18 => ?_)
        refine a_iload_n K dX11_step_21 rfl ?_
        refine a_i2l K dX11_step_22 ?_
        refine a_lconst K dX11_step_23 (v := 0) (by decide) ?_
        first | refine a_aload_n K dX11_step_24 rfl ?_ | refine a_aload_nN K dX11_step_24 rfl ?_
        refine a_getRs K fd_X11_20 (by exact lm_o hM) (Or.inr ⟨_, rfl⟩) (by exact lm_r711 hM) dX11_step_25 ?_
        refine a_iload_n K dX11_step_28 rfl ?_
        refine a_iald K (by exact lm_kk hM (by decide) (by decide)) (by show vp_in _ (sN T (m 3)); exact lm_ix (z := 5) hM (by decide) (by decide) (show kp < 5 by omega) (by decide)) dX11_step_29 ?_
        rw [nI_clamp (by omega)]
        rw [(h.2.2.2.2.2.1 kp g hg).1]
        refine a_iconst K dX11_step_30 (v := 1) (by decide) ?_
        refine a_isub K dX11_step_31 ?_
        refine a_i2l K dX11_step_32 ?_
        refine a_invS K (q_inY (p := 0) (q := (g.length : Int) - 1) (by decide) (i64_pm (by omega)) hi) my_X11_isIn ml_X11_174 st_X11_isIn rfl (by omega) (by omega) (by omega) rfl (Nat.le_of_ble_eq_true rfl) dX11_step_33 ?_
        intro r9 S9 hp9
        obtain ⟨rfl, hS9⟩ := hp9
        obtain rfl := hS9.symm
        refine a_if_eq K dX11_step_36 (tgt := 69) (by decide) (fun c_36 => absurd c_36 (by decide)) (fun c_36 => ?_)
        refine a_iload_n K dX11_step_39 rfl ?_
        refine a_i2l K dX11_step_40 ?_
        refine a_lconst K dX11_step_41 (v := 0) (by decide) ?_
        refine a_ldc2 K kc_X11_305 dX11_step_42 ?_
        refine a_invS K (q_inN (p := 0) (q := 3) (by decide) (by decide) (by first | assumption | omega)) my_X11_isIn ml_X11_174 st_X11_isIn rfl (by omega) (by omega) (by omega) rfl (Nat.le_of_ble_eq_true rfl) dX11_step_45 ?_
        intro r9 S9 hp9
        obtain ⟨rfl, hS9⟩ := hp9
        obtain rfl := hS9.symm
        refine a_if_eq K dX11_step_48 (tgt := 69) (by decide) (fun c_48 => ?_) (fun c_48 => absurd c_48 (by decide))
        refine a_ldc K kc_X11_170 dX11_step_69 ?_
        exact a_iret K EE rfl (by omega) (by omega) dX11_step_71 ⟨by rw [hpa]; unfold celA; rw [if_neg (fun q => hw ⟨q.2.1, by have := q.2.2; omega⟩)], h, q0⟩
    · first | refine a_aload_n K dX11_step_0 rfl ?_ | refine a_aload_nN K dX11_step_0 rfl ?_
      refine a_iconst K dX11_step_1 (v := 0) (by decide) ?_
      refine a_putI K fd_X11_116 (by exact lm_o hM) rfl dX11_step_2 ?_
      have f0 : frM S (wI S 704 (m 33) 0) m [] [704] := frM_wI (by decide) (by decide)
      obtain ⟨T, hT⟩ : ∃ T, T = wI S 704 (m 33) 0 := ⟨_, rfl⟩
      rw [← hT] at f0 ⊢
      obtain ⟨h, q0⟩ := h0.scr hP f0 (by decide) (by decide)
      have hM := h.1
      refine a_iload_n K dX11_step_5 rfl ?_
      refine a_i2l K dX11_step_6 ?_
      refine a_lconst K dX11_step_7 (v := 0) (by decide) ?_
      first | refine a_aload_n K dX11_step_8 rfl ?_ | refine a_aload_nN K dX11_step_8 rfl ?_
      refine a_getI K fd_X11_286 (by exact lm_o hM) (Or.inl rfl) dX11_step_9 ?_
      rw [show sI T 713 (m 33) = nI (pG P).length from h.2.1.2.1]
      refine a_iconst K dX11_step_12 (v := 1) (by decide) ?_
      refine a_isub K dX11_step_13 ?_
      refine a_i2l K dX11_step_14 ?_
      refine a_invS K (q_inY (p := 0) (q := ((pG P).length : Int) - 1) (by decide) (i64_pm (by omega)) hp) my_X11_isIn ml_X11_174 st_X11_isIn rfl (by omega) (by omega) (by omega) rfl (Nat.le_of_ble_eq_true rfl) dX11_step_15 ?_
      intro r9 S9 hp9
      obtain ⟨rfl, hS9⟩ := hp9
      obtain rfl := hS9.symm
      refine a_if_eq K dX11_step_18 (tgt := 69) (by decide) (fun c_18 => absurd c_18 (by decide)) (fun c_18 => ?_)
      refine a_iload_n K dX11_step_21 rfl ?_
      refine a_i2l K dX11_step_22 ?_
      refine a_lconst K dX11_step_23 (v := 0) (by decide) ?_
      first | refine a_aload_n K dX11_step_24 rfl ?_ | refine a_aload_nN K dX11_step_24 rfl ?_
      refine a_getRs K fd_X11_20 (by exact lm_o hM) (Or.inr ⟨_, rfl⟩) (by exact lm_r711 hM) dX11_step_25 ?_
      refine a_iload_n K dX11_step_28 rfl ?_
      refine a_iald K (by exact lm_kk hM (by decide) (by decide)) (by show vp_in _ (sN T (m 3)); exact lm_ix (z := 5) hM (by decide) (by decide) (show kp < 5 by omega) (by decide)) dX11_step_29 ?_
      rw [nI_clamp (by omega)]
      rw [(h.2.2.2.2.2.1 kp g hg).1]
      refine a_iconst K dX11_step_30 (v := 1) (by decide) ?_
      refine a_isub K dX11_step_31 ?_
      refine a_i2l K dX11_step_32 ?_
      refine a_invS K (q_inN (p := 0) (q := (g.length : Int) - 1) (by decide) (i64_pm (by omega)) hi) my_X11_isIn ml_X11_174 st_X11_isIn rfl (by omega) (by omega) (by omega) rfl (Nat.le_of_ble_eq_true rfl) dX11_step_33 ?_
      intro r9 S9 hp9
      obtain ⟨rfl, hS9⟩ := hp9
      obtain rfl := hS9.symm
      refine a_if_eq K dX11_step_36 (tgt := 69) (by decide) (fun c_36 => ?_) (fun c_36 => absurd c_36 (by decide))
      refine a_ldc K kc_X11_170 dX11_step_69 ?_
      exact a_iret K EE rfl (by omega) (by omega) dX11_step_71 ⟨by rw [hpa]; unfold celA; rw [if_neg (fun q => hi ⟨q.1.1, by have := q.1.2; omega⟩)], h, q0⟩
  · have hpn : prgA P p = none := by
      unfold prgA
      rw [if_neg (fun q => hp ⟨q.1, by have := q.2; omega⟩)]
    have h4p := h4g.1
    first | refine a_aload_n K dX11_step_0 rfl ?_ | refine a_aload_nN K dX11_step_0 rfl ?_
    refine a_iconst K dX11_step_1 (v := 0) (by decide) ?_
    refine a_putI K fd_X11_116 (by exact lm_o hM) rfl dX11_step_2 ?_
    have f0 : frM S (wI S 704 (m 33) 0) m [] [704] := frM_wI (by decide) (by decide)
    obtain ⟨T, hT⟩ : ∃ T, T = wI S 704 (m 33) 0 := ⟨_, rfl⟩
    rw [← hT] at f0 ⊢
    obtain ⟨h, q0⟩ := h0.scr hP f0 (by decide) (by decide)
    have hM := h.1
    refine a_iload_n K dX11_step_5 rfl ?_
    refine a_i2l K dX11_step_6 ?_
    refine a_lconst K dX11_step_7 (v := 0) (by decide) ?_
    first | refine a_aload_n K dX11_step_8 rfl ?_ | refine a_aload_nN K dX11_step_8 rfl ?_
    refine a_getI K fd_X11_286 (by exact lm_o hM) (Or.inl rfl) dX11_step_9 ?_
    rw [show sI T 713 (m 33) = nI (pG P).length from h.2.1.2.1]
    refine a_iconst K dX11_step_12 (v := 1) (by decide) ?_
    refine a_isub K dX11_step_13 ?_
    refine a_i2l K dX11_step_14 ?_
    refine a_invS K (q_inN (p := 0) (q := ((pG P).length : Int) - 1) (by decide) (i64_pm (by omega)) hp) my_X11_isIn ml_X11_174 st_X11_isIn rfl (by omega) (by omega) (by omega) rfl (Nat.le_of_ble_eq_true rfl) dX11_step_15 ?_
    intro r9 S9 hp9
    obtain ⟨rfl, hS9⟩ := hp9
    obtain rfl := hS9.symm
    refine a_if_eq K dX11_step_18 (tgt := 69) (by decide) (fun c_18 => ?_) (fun c_18 => absurd c_18 (by decide))
    refine a_ldc K kc_X11_170 dX11_step_69 ?_
    exact a_iret K EE rfl (by omega) (by omega) dX11_step_71 ⟨by unfold stpA; rw [hpn], h, q0⟩
set_option maxHeartbeats 4000000 in
set_option maxRecDepth 100000 in
theorem q_peek {S : aw_S} {m ρ : Nat → Nat} {Z : List Nat × Nat} {mb n9 : Nat} {P : PS} (h0 : RM S m ρ Z mb P) (hJ : PJ n9 P) {i k : Int32} : aw_M yX11_peek cX11_peek 3 (some FieldType.int) 5 0 0 [.ref (m 33), .int i, .int k] S (fun r S2 => r = some (.int (peeA P i k)) ∧ RM S2 m ρ Z mb P ∧ frS S S2 (mQ m)) := by
  have hP := hJ.1
  have hw3 := hP.1.1
  have hM := h0.1
  have hl9 := hJ.ln
  refine aw_enter (by decide +kernel) (Nat.le_of_ble_eq_true rfl) (fun g K EE => ?_)
  cases hi : bAt i with
  | none =>
    first | refine a_aload_n K dX11_peek_0 rfl ?_ | refine a_aload_nN K dX11_peek_0 rfl ?_
    refine a_iconst K dX11_peek_1 (v := 0) (by decide) ?_
    refine a_putI K fd_X11_116 (by exact lm_o hM) rfl dX11_peek_2 ?_
    have f0 : frM S (wI S 704 (m 33) 0) m [] [704] := frM_wI (by decide) (by decide)
    obtain ⟨T, hT⟩ : ∃ T, T = wI S 704 (m 33) 0 := ⟨_, rfl⟩
    rw [← hT] at f0 ⊢
    obtain ⟨h, q0⟩ := h0.scr hP f0 (by decide) (by decide)
    have hM := h.1
    first | refine a_aload_n K dX11_peek_5 rfl ?_ | refine a_aload_nN K dX11_peek_5 rfl ?_
    refine a_iload_n K dX11_peek_6 rfl ?_
    refine a_invV K (q_openN h (Or.inl hi)) my_X11_isOpen ml_X11_390 im_X11_isOpen se_X11_isOpen (ci := 11) (by exact lm_o hM) (by decide) ⟨_, _, rfl⟩ rfl (by omega) (by omega) (by omega) rfl (Nat.le_of_ble_eq_true rfl) dX11_peek_7 ?_
    intro r9 S9 hp9
    obtain ⟨rfl, hS9⟩ := hp9
    obtain rfl := hS9.symm
    refine a_if_eq K dX11_peek_10 (tgt := 27) (by decide) (fun c_10 => ?_) (fun c_10 => absurd c_10 (by decide))
    refine a_ldc K kc_X11_170 dX11_peek_27 ?_
    exact a_iret K EE rfl (by omega) (by omega) dX11_peek_29 ⟨by unfold peeA; rw [hi], h, q0⟩
  | some j =>
    cases hb : pB P j with
    | none =>
      first | refine a_aload_n K dX11_peek_0 rfl ?_ | refine a_aload_nN K dX11_peek_0 rfl ?_
      refine a_iconst K dX11_peek_1 (v := 0) (by decide) ?_
      refine a_putI K fd_X11_116 (by exact lm_o hM) rfl dX11_peek_2 ?_
      have f0 : frM S (wI S 704 (m 33) 0) m [] [704] := frM_wI (by decide) (by decide)
      obtain ⟨T, hT⟩ : ∃ T, T = wI S 704 (m 33) 0 := ⟨_, rfl⟩
      rw [← hT] at f0 ⊢
      obtain ⟨h, q0⟩ := h0.scr hP f0 (by decide) (by decide)
      have hM := h.1
      first | refine a_aload_n K dX11_peek_5 rfl ?_ | refine a_aload_nN K dX11_peek_5 rfl ?_
      refine a_iload_n K dX11_peek_6 rfl ?_
      refine a_invV K (q_openN h (Or.inr ⟨j, hi, hb⟩)) my_X11_isOpen ml_X11_390 im_X11_isOpen se_X11_isOpen (ci := 11) (by exact lm_o hM) (by decide) ⟨_, _, rfl⟩ rfl (by omega) (by omega) (by omega) rfl (Nat.le_of_ble_eq_true rfl) dX11_peek_7 ?_
      intro r9 S9 hp9
      obtain ⟨rfl, hS9⟩ := hp9
      obtain rfl := hS9.symm
      refine a_if_eq K dX11_peek_10 (tgt := 27) (by decide) (fun c_10 => ?_) (fun c_10 => absurd c_10 (by decide))
      refine a_ldc K kc_X11_170 dX11_peek_27 ?_
      exact a_iret K EE rfl (by omega) (by omega) dX11_peek_29 ⟨by unfold peeA; rw [hi]; show _ = some (Value.int (peeB P k j)); unfold peeB; rw [hb], h, q0⟩
    | some b =>
      obtain ⟨e, hj⟩ := bAt_some hi
      subst e
      have tz := hP.tz (bui_live hj hb)
      have h4z := tz.h4 hw3
      first | refine a_aload_n K dX11_peek_0 rfl ?_ | refine a_aload_nN K dX11_peek_0 rfl ?_
      refine a_iconst K dX11_peek_1 (v := 0) (by decide) ?_
      refine a_putI K fd_X11_116 (by exact lm_o hM) rfl dX11_peek_2 ?_
      have f0 : frM S (wI S 704 (m 33) 0) m [] [704] := frM_wI (by decide) (by decide)
      obtain ⟨T, hT⟩ : ∃ T, T = wI S 704 (m 33) 0 := ⟨_, rfl⟩
      rw [← hT] at f0 ⊢
      obtain ⟨h, q0⟩ := h0.scr hP f0 (by decide) (by decide)
      have hM := h.1
      first | refine a_aload_n K dX11_peek_5 rfl ?_ | refine a_aload_nN K dX11_peek_5 rfl ?_
      refine a_iload_n K dX11_peek_6 rfl ?_
      refine a_invV K (q_openY h hj hb) my_X11_isOpen ml_X11_390 im_X11_isOpen se_X11_isOpen (ci := 11) (by exact lm_o hM) (by decide) ⟨_, _, rfl⟩ rfl (by omega) (by omega) (by omega) rfl (Nat.le_of_ble_eq_true rfl) dX11_peek_7 ?_
      intro r9 S9 hp9
      obtain ⟨rfl, hS9⟩ := hp9
      obtain rfl := hS9.symm
      refine a_if_eq K dX11_peek_10 (tgt := 27) (by decide) (fun c_10 => absurd c_10 (by decide)) (fun c_10 => ?_)
      first | refine a_aload_n K dX11_peek_13 rfl ?_ | refine a_aload_nN K dX11_peek_13 rfl ?_
      first | refine a_aload_n K dX11_peek_14 rfl ?_ | refine a_aload_nN K dX11_peek_14 rfl ?_
      refine a_getRs K fd_X11_76 (by exact lm_o hM) (Or.inr ⟨_, rfl⟩) (by exact lm_r739 hM) dX11_peek_15 ?_
      refine a_iload_n K dX11_peek_18 rfl ?_
      refine a_iald K (by exact lm_kk hM (by decide) (by decide)) (by show vp_in _ (sN T (m 20)); exact lm_ix (z := 4) hM (by decide) (by decide) (show j < 4 by omega) (by decide)) dX11_peek_19 ?_
      rw [nI_clamp (by omega)]
      rw [(h.bro hj hb).1]
      refine a_iload_n K dX11_peek_20 rfl ?_
      refine a_invV K (m_valueAt hM (h.rep (bui_live hj hb)) (tz.1.ne hw3) tz.hs (key := k)) my_X11_valueAt ml_X11_218 im_X11_valueAt se_X11_valueAt (ci := 11) (by exact lm_o hM) (by decide) ⟨_, _, rfl⟩ rfl (by omega) (by omega) (by omega) rfl (Nat.le_of_ble_eq_true rfl) dX11_peek_21 ?_
      intro r9 S9 hp9
      obtain ⟨rfl, hS9⟩ := hp9
      obtain rfl := hS9.symm
      rw [tz.1.val hw3 k]
      refine a_goto K dX11_peek_24 (tgt := 29) (by decide) ?_
      exact a_iret K EE rfl (by omega) (by omega) dX11_peek_29 ⟨by unfold peeA; rw [hi]; show _ = some (Value.int (peeB P k j)); unfold peeB; rw [hb], h, q0⟩
set_option maxHeartbeats 4000000 in
set_option maxRecDepth 100000 in
theorem q_ownNodes {S : aw_S} {m ρ : Nat → Nat} (hM : LM S m) {z : Tz} {t j : Nat} (hLy : LyM S m ρ (ent z.1 z.2) (dpT z.1 z.2 0)) (rp : RepM S m ρ z.1 z.2) (hl : (sub z.1 z.2).length ≤ 61) (hj : j < 4) (h21 : sA S (m 21) j = nI (t + 1)) (ht : t < 2147483000) (htk : ∀ y ∈ sub z.1 z.2, y.2.2.1 < 2147483000) : aw_M yX11_ownNodes cX11_ownNodes 4 (some FieldType.int) 0 0 0 [.ref (m 33), .int (nI j)] S (fun r S2 => r = some (.int (nI (tkC t (sub z.1 z.2) 0))) ∧ S2 = S) := by
  obtain ⟨R, hR⟩ : ∃ R, tkC t (sub z.1 z.2) 0 = R := ⟨_, rfl⟩
  rw [hR]
  refine aw_enter (by decide +kernel) (Nat.le_of_ble_eq_true rfl) (fun g K EE => ?_)
  have loop : ∀ (n i a : Nat) (x c : Int32), x = nI i → c = nI a → i + n = (sub z.1 z.2).length → a ≤ i → tkC t ((sub z.1 z.2).drop i) a = R → aw g 4 S 0 0 [(3, .int x), (2, .int c), (1, .int (nI j)), (0, .ref (m 33))] [] 4 := by
    intro n
    induction n with
    | zero =>
      intro i a x c hx hc hn ha hR
      subst hx
      subst hc
      refine a_iload_n K dX11_ownNodes_4 rfl ?_
      first | refine a_aload_n K dX11_ownNodes_5 rfl ?_ | refine a_aload_nN K dX11_ownNodes_5 rfl ?_
      refine a_getI K fd_X11_243 (by exact lm_o hM) (Or.inl rfl) dX11_ownNodes_6 ?_
      rw [hLy.2.1]
      rw [show (dpT z.1 z.2 0).length = (sub z.1 z.2).length from by rw [dpT_len, sub_len]]
      refine a_icmp_ge K dX11_ownNodes_9 (tgt := 46) (by decide) (fun c_9 => ?_) (fun c_9 => absurd c_9 (fun q => q (nI_le (a := (sub z.1 z.2).length) (b := i) (by omega) (by omega))))
      refine a_iload_n K dX11_ownNodes_46 rfl ?_
      exact a_iret K EE rfl (by omega) (by omega) dX11_ownNodes_47 ⟨by rw [show i = (sub z.1 z.2).length by omega, List.drop_length] at hR; rw [← hR]; rfl, rfl⟩
    | succ n ih =>
      intro i a x c hx hc hn ha hR
      subst hx
      subst hc
      have hy := List.getElem?_eq_getElem (show i < (sub z.1 z.2).length by omega)
      generalize hyE : (sub z.1 z.2)[i]'(show i < (sub z.1 z.2).length by omega) = y at hy
      have hym := List.mem_of_getElem? hy
      have ht := rp.tks y hym
      have htr := ht.1
      have htb := htk y hym
      by_cases he : y.2.2.1 = t
      · refine a_iload_n K dX11_ownNodes_4 rfl ?_
        first | refine a_aload_n K dX11_ownNodes_5 rfl ?_ | refine a_aload_nN K dX11_ownNodes_5 rfl ?_
        refine a_getI K fd_X11_243 (by exact lm_o hM) (Or.inl rfl) dX11_ownNodes_6 ?_
        rw [hLy.2.1]
        rw [show (dpT z.1 z.2 0).length = (sub z.1 z.2).length from by rw [dpT_len, sub_len]]
        refine a_icmp_ge K dX11_ownNodes_9 (tgt := 46) (by decide) (fun c_9 => absurd c_9 (nI_ge (a := i) (b := (sub z.1 z.2).length) (by omega) (by omega))) (fun c_9 => ?_)
        refine a_iload_n K dX11_ownNodes_12 rfl ?_
        first | refine a_aload_n K dX11_ownNodes_13 rfl ?_ | refine a_aload_nN K dX11_ownNodes_13 rfl ?_
        refine a_getRs K fd_X11_29 (by exact lm_o hM) (Or.inr ⟨_, rfl⟩) (by exact lm_r716 hM) dX11_ownNodes_14 ?_
        first | refine a_aload_n K dX11_ownNodes_17 rfl ?_ | refine a_aload_nN K dX11_ownNodes_17 rfl ?_
        refine a_getRs K fd_X11_61 (by exact lm_o hM) (Or.inr ⟨_, rfl⟩) (by exact lm_r732 hM) dX11_ownNodes_18 ?_
        refine a_iload_n K dX11_ownNodes_21 rfl ?_
        refine a_iald K (by exact lm_kk hM (by decide) (by decide)) (by show vp_in _ (sN S (m 15)); exact lm_ix (z := 240) hM (by decide) (by decide) (show i < 240 by omega) (by decide)) dX11_ownNodes_22 ?_
        rw [nI_clamp (by omega)]
        rw [show sA S (m 15) i = nI (ρ y.2.1) from (hLy.2.2.2 i (y.2.1, 0 + (z.1 - y.1)) (by rw [dpT_sub, List.getElem?_map, hy]; rfl)).1]
        refine a_iald K (by exact lm_kk hM (by decide) (by decide)) (by show vp_in _ (sN S (m 6)); exact lm_ix (z := 12000) hM (by decide) (by decide) (show ρ y.2.1 < 12000 by omega) (by decide)) dX11_ownNodes_23 ?_
        rw [nI_clamp (by omega)]
        rw [ht.2]
        first | refine a_aload_n K dX11_ownNodes_24 rfl ?_ | refine a_aload_nN K dX11_ownNodes_24 rfl ?_
        refine a_getRs K fd_X11_79 (by exact lm_o hM) (Or.inr ⟨_, rfl⟩) (by exact lm_r740 hM) dX11_ownNodes_25 ?_
        refine a_iload_n K dX11_ownNodes_28 rfl ?_
        refine a_iald K (by exact lm_kk hM (by decide) (by decide)) (by show vp_in _ (sN S (m 21)); exact lm_ix (z := 4) hM (by decide) (by decide) (show j < 4 by omega) (by decide)) dX11_ownNodes_29 ?_
        rw [nI_clamp (by omega)]
        rw [h21]
        refine a_icmp_ne K dX11_ownNodes_30 (tgt := 37) (by decide) (fun c_30 => absurd c_30 (fun q => q (by rw [he]))) (fun c_30 => ?_)
        refine a_iconst K dX11_ownNodes_33 (v := 1) (by decide) ?_
        refine a_goto K dX11_ownNodes_34 (tgt := 38) (by decide) ?_
        refine a_iadd K dX11_ownNodes_38 ?_
        rw [nI_1]
        refine a_istore_n K dX11_ownNodes_39 (by decide) ?_
        refine a_iinc K dX11_ownNodes_40 (v := 1) rfl (by decide) (by decide) ?_
        refine a_goto K dX11_ownNodes_43 (tgt := 4) (by decide) ?_
        exact aw_locl rfl (ih (i + 1) (a + 1) _ _ (nI_1 i) rfl (by omega) (by omega) (by rw [tkC_at (by omega)] at hR; rw [hyE, if_pos he] at hR; exact hR))
      · refine a_iload_n K dX11_ownNodes_4 rfl ?_
        first | refine a_aload_n K dX11_ownNodes_5 rfl ?_ | refine a_aload_nN K dX11_ownNodes_5 rfl ?_
        refine a_getI K fd_X11_243 (by exact lm_o hM) (Or.inl rfl) dX11_ownNodes_6 ?_
        rw [hLy.2.1]
        rw [show (dpT z.1 z.2 0).length = (sub z.1 z.2).length from by rw [dpT_len, sub_len]]
        refine a_icmp_ge K dX11_ownNodes_9 (tgt := 46) (by decide) (fun c_9 => absurd c_9 (nI_ge (a := i) (b := (sub z.1 z.2).length) (by omega) (by omega))) (fun c_9 => ?_)
        refine a_iload_n K dX11_ownNodes_12 rfl ?_
        first | refine a_aload_n K dX11_ownNodes_13 rfl ?_ | refine a_aload_nN K dX11_ownNodes_13 rfl ?_
        refine a_getRs K fd_X11_29 (by exact lm_o hM) (Or.inr ⟨_, rfl⟩) (by exact lm_r716 hM) dX11_ownNodes_14 ?_
        first | refine a_aload_n K dX11_ownNodes_17 rfl ?_ | refine a_aload_nN K dX11_ownNodes_17 rfl ?_
        refine a_getRs K fd_X11_61 (by exact lm_o hM) (Or.inr ⟨_, rfl⟩) (by exact lm_r732 hM) dX11_ownNodes_18 ?_
        refine a_iload_n K dX11_ownNodes_21 rfl ?_
        refine a_iald K (by exact lm_kk hM (by decide) (by decide)) (by show vp_in _ (sN S (m 15)); exact lm_ix (z := 240) hM (by decide) (by decide) (show i < 240 by omega) (by decide)) dX11_ownNodes_22 ?_
        rw [nI_clamp (by omega)]
        rw [show sA S (m 15) i = nI (ρ y.2.1) from (hLy.2.2.2 i (y.2.1, 0 + (z.1 - y.1)) (by rw [dpT_sub, List.getElem?_map, hy]; rfl)).1]
        refine a_iald K (by exact lm_kk hM (by decide) (by decide)) (by show vp_in _ (sN S (m 6)); exact lm_ix (z := 12000) hM (by decide) (by decide) (show ρ y.2.1 < 12000 by omega) (by decide)) dX11_ownNodes_23 ?_
        rw [nI_clamp (by omega)]
        rw [ht.2]
        first | refine a_aload_n K dX11_ownNodes_24 rfl ?_ | refine a_aload_nN K dX11_ownNodes_24 rfl ?_
        refine a_getRs K fd_X11_79 (by exact lm_o hM) (Or.inr ⟨_, rfl⟩) (by exact lm_r740 hM) dX11_ownNodes_25 ?_
        refine a_iload_n K dX11_ownNodes_28 rfl ?_
        refine a_iald K (by exact lm_kk hM (by decide) (by decide)) (by show vp_in _ (sN S (m 21)); exact lm_ix (z := 4) hM (by decide) (by decide) (show j < 4 by omega) (by decide)) dX11_ownNodes_29 ?_
        rw [nI_clamp (by omega)]
        rw [h21]
        refine a_icmp_ne K dX11_ownNodes_30 (tgt := 37) (by decide) (fun c_30 => ?_) (fun c_30 => absurd c_30 (fun q => he (by have h9 := nI_inj (by omega) (by omega) q; omega)))
        refine a_iconst K dX11_ownNodes_37 (v := 0) (by decide) ?_
        refine a_iadd K dX11_ownNodes_38 ?_
        rw [Int32.add_zero]
        refine a_istore_n K dX11_ownNodes_39 (by decide) ?_
        refine a_iinc K dX11_ownNodes_40 (v := 1) rfl (by decide) (by decide) ?_
        refine a_goto K dX11_ownNodes_43 (tgt := 4) (by decide) ?_
        exact aw_locl rfl (ih (i + 1) a _ _ (nI_1 i) rfl (by omega) (by omega) (by rw [tkC_at (by omega)] at hR; rw [hyE, if_neg he] at hR; exact hR))
  refine a_iconst K dX11_ownNodes_0 (v := 0) (by decide) ?_
  refine a_istore_n K dX11_ownNodes_1 (by decide) ?_
  refine a_iconst K dX11_ownNodes_2 (v := 0) (by decide) ?_
  refine a_istore_n K dX11_ownNodes_3 (by decide) ?_
  exact aw_locl rfl (loop (sub z.1 z.2).length 0 0 _ _ nI_0.symm nI_0.symm (Nat.zero_add _) (Nat.le_refl _) hR)
theorem buiA_out {P : PS} {i w : Int32} (h : ¬ (0 ≤ w.toInt ∧ w.toInt ≤ 3)) : buiA P i w = -1000000 := by
  unfold buiA
  cases hi : bAt i with
  | none => rfl
  | some j =>
    show buiB P w j = _
    unfold buiB
    cases hb : pB P j with
    | none => rfl
    | some b =>
      have n : ∀ c : Int32, 0 ≤ c.toInt → c.toInt ≤ 3 → ¬ w = c := fun c h1 h2 e => h (by rw [e]; exact ⟨h1, h2⟩)
      show buiZ w b = _
      unfold buiZ
      rw [if_neg (n 0 (by decide) (by decide)), if_neg (n 1 (by decide) (by decide)), if_neg (n 2 (by decide) (by decide)), if_neg (n 3 (by decide) (by decide))]
theorem sub_tk {P : PS} (hP : PI P) {z : Tz} (tz : tok (pW P) (pU P) (pTk P) z) : ∀ y ∈ sub z.1 z.2, y.2.2.1 < 2147483000 := fun y hy => by
  have h1 : (y.2.1, y.2.2.1) ∈ ndl z.1 z.2 := by rw [← sub_ndl]; exact List.mem_map.mpr ⟨y, hy, rfl⟩
  have h2 := tz.2.2.2.2 _ h1
  have h3 := hP.2.2.2
  have h2 : y.2.2.1 < pTk P := h2
  omega
set_option maxHeartbeats 4000000 in
set_option maxRecDepth 100000 in
theorem q_builder {S : aw_S} {m ρ : Nat → Nat} {Z : List Nat × Nat} {mb n9 : Nat} {P : PS} (h0 : RM S m ρ Z mb P) (hJ : PJ n9 P) {i w : Int32} : aw_M yX11_builder cX11_builder 3 (some FieldType.int) 8 0 0 [.ref (m 33), .int i, .int w] S (fun r S2 => r = some (.int (buiA P i w)) ∧ RM S2 m ρ Z mb P ∧ frS S S2 (mQ m)) := by
  have hP := hJ.1
  have hw3 := hP.1.1
  have hM := h0.1
  have hl9 := hJ.ln
  refine aw_enter (by decide +kernel) (Nat.le_of_ble_eq_true rfl) (fun g K EE => ?_)
  cases hi : bAt i with
  | none =>
    first | refine a_aload_n K dX11_builder_0 rfl ?_ | refine a_aload_nN K dX11_builder_0 rfl ?_
    refine a_iconst K dX11_builder_1 (v := 0) (by decide) ?_
    refine a_putI K fd_X11_116 (by exact lm_o hM) rfl dX11_builder_2 ?_
    have f0 : frM S (wI S 704 (m 33) 0) m [] [704] := frM_wI (by decide) (by decide)
    obtain ⟨T, hT⟩ : ∃ T, T = wI S 704 (m 33) 0 := ⟨_, rfl⟩
    rw [← hT] at f0 ⊢
    obtain ⟨h, q0⟩ := h0.scr hP f0 (by decide) (by decide)
    have hM := h.1
    first | refine a_aload_n K dX11_builder_5 rfl ?_ | refine a_aload_nN K dX11_builder_5 rfl ?_
    refine a_iload_n K dX11_builder_6 rfl ?_
    refine a_invV K (q_openN h (Or.inl hi)) my_X11_isOpen ml_X11_390 im_X11_isOpen se_X11_isOpen (ci := 11) (by exact lm_o hM) (by decide) ⟨_, _, rfl⟩ rfl (by omega) (by omega) (by omega) rfl (Nat.le_of_ble_eq_true rfl) dX11_builder_7 ?_
    intro r9 S9 hp9
    obtain ⟨rfl, hS9⟩ := hp9
    obtain rfl := hS9.symm
    refine a_if_eq K dX11_builder_10 (tgt := 25) (by decide) (fun c_10 => ?_) (fun c_10 => absurd c_10 (by decide))
    refine a_ldc K kc_X11_170 dX11_builder_25 ?_
    exact a_iret K EE rfl (by omega) (by omega) dX11_builder_27 ⟨by unfold buiA; rw [hi], h, q0⟩
  | some j =>
    cases hb : pB P j with
    | none =>
      first | refine a_aload_n K dX11_builder_0 rfl ?_ | refine a_aload_nN K dX11_builder_0 rfl ?_
      refine a_iconst K dX11_builder_1 (v := 0) (by decide) ?_
      refine a_putI K fd_X11_116 (by exact lm_o hM) rfl dX11_builder_2 ?_
      have f0 : frM S (wI S 704 (m 33) 0) m [] [704] := frM_wI (by decide) (by decide)
      obtain ⟨T, hT⟩ : ∃ T, T = wI S 704 (m 33) 0 := ⟨_, rfl⟩
      rw [← hT] at f0 ⊢
      obtain ⟨h, q0⟩ := h0.scr hP f0 (by decide) (by decide)
      have hM := h.1
      first | refine a_aload_n K dX11_builder_5 rfl ?_ | refine a_aload_nN K dX11_builder_5 rfl ?_
      refine a_iload_n K dX11_builder_6 rfl ?_
      refine a_invV K (q_openN h (Or.inr ⟨j, hi, hb⟩)) my_X11_isOpen ml_X11_390 im_X11_isOpen se_X11_isOpen (ci := 11) (by exact lm_o hM) (by decide) ⟨_, _, rfl⟩ rfl (by omega) (by omega) (by omega) rfl (Nat.le_of_ble_eq_true rfl) dX11_builder_7 ?_
      intro r9 S9 hp9
      obtain ⟨rfl, hS9⟩ := hp9
      obtain rfl := hS9.symm
      refine a_if_eq K dX11_builder_10 (tgt := 25) (by decide) (fun c_10 => ?_) (fun c_10 => absurd c_10 (by decide))
      refine a_ldc K kc_X11_170 dX11_builder_25 ?_
      exact a_iret K EE rfl (by omega) (by omega) dX11_builder_27 ⟨by unfold buiA; rw [hi]; show _ = some (Value.int (buiB P w j)); unfold buiB; rw [hb], h, q0⟩
    | some b =>
      obtain ⟨e, hj⟩ := bAt_some hi
      subst e
      have tz := hP.tz (bui_live hj hb)
      have h4z := tz.h4 hw3
      have e60z := tz.2.2.1
      by_cases hw : ¬ (0 ≤ w.toInt ∧ w.toInt ≤ 3)
      · first | refine a_aload_n K dX11_builder_0 rfl ?_ | refine a_aload_nN K dX11_builder_0 rfl ?_
        refine a_iconst K dX11_builder_1 (v := 0) (by decide) ?_
        refine a_putI K fd_X11_116 (by exact lm_o hM) rfl dX11_builder_2 ?_
        have f0 : frM S (wI S 704 (m 33) 0) m [] [704] := frM_wI (by decide) (by decide)
        obtain ⟨T, hT⟩ : ∃ T, T = wI S 704 (m 33) 0 := ⟨_, rfl⟩
        rw [← hT] at f0 ⊢
        obtain ⟨h, q0⟩ := h0.scr hP f0 (by decide) (by decide)
        have hM := h.1
        first | refine a_aload_n K dX11_builder_5 rfl ?_ | refine a_aload_nN K dX11_builder_5 rfl ?_
        refine a_iload_n K dX11_builder_6 rfl ?_
        refine a_invV K (q_openY h hj hb) my_X11_isOpen ml_X11_390 im_X11_isOpen se_X11_isOpen (ci := 11) (by exact lm_o hM) (by decide) ⟨_, _, rfl⟩ rfl (by omega) (by omega) (by omega) rfl (Nat.le_of_ble_eq_true rfl) dX11_builder_7 ?_
        intro r9 S9 hp9
        obtain ⟨rfl, hS9⟩ := hp9
        obtain rfl := hS9.symm
        refine a_if_eq K dX11_builder_10 (tgt := 25) (by decide) (fun c_10 => absurd c_10 (by decide)) (fun c_10 => ?_)
        refine a_iload_n K dX11_builder_13 rfl ?_
        refine a_i2l K dX11_builder_14 ?_
        refine a_lconst K dX11_builder_15 (v := 0) (by decide) ?_
        refine a_ldc2 K kc_X11_305 dX11_builder_16 ?_
        refine a_invS K (q_inN (p := 0) (q := 3) (by decide) (by decide) (by first | assumption | omega)) my_X11_isIn ml_X11_174 st_X11_isIn rfl (by omega) (by omega) (by omega) rfl (Nat.le_of_ble_eq_true rfl) dX11_builder_19 ?_
        intro r9 S9 hp9
        obtain ⟨rfl, hS9⟩ := hp9
        obtain rfl := hS9.symm
        refine a_if_ne K dX11_builder_22 (tgt := 28) (by decide) (fun c_22 => absurd c_22 (fun z => z rfl)) (fun c_22 => ?_)
        refine a_ldc K kc_X11_170 dX11_builder_25 ?_
        exact a_iret K EE rfl (by omega) (by omega) dX11_builder_27 ⟨by rw [buiA_out hw], h, q0⟩
      have hw := Classical.not_not.mp hw
      have h9w : w = 0 ∨ w = 1 ∨ w = 2 ∨ w = 3 := by
        obtain ⟨n, hn⟩ : ∃ n : Nat, w.toInt = n := ⟨w.toInt.toNat, by omega⟩
        have hn7 : n = 0 ∨ n = 1 ∨ n = 2 ∨ n = 3 := by omega
        have e := i32_of (by omega) hn
        rcases hn7 with q | q | q | q <;> rw [e, q] <;> decide
      rcases h9w with e | e | e | e
      · subst e
        first | refine a_aload_n K dX11_builder_0 rfl ?_ | refine a_aload_nN K dX11_builder_0 rfl ?_
        refine a_iconst K dX11_builder_1 (v := 0) (by decide) ?_
        refine a_putI K fd_X11_116 (by exact lm_o hM) rfl dX11_builder_2 ?_
        have f0 : frM S (wI S 704 (m 33) 0) m [] [704] := frM_wI (by decide) (by decide)
        obtain ⟨T, hT⟩ : ∃ T, T = wI S 704 (m 33) 0 := ⟨_, rfl⟩
        rw [← hT] at f0 ⊢
        obtain ⟨h, q0⟩ := h0.scr hP f0 (by decide) (by decide)
        have hM := h.1
        first | refine a_aload_n K dX11_builder_5 rfl ?_ | refine a_aload_nN K dX11_builder_5 rfl ?_
        refine a_iload_n K dX11_builder_6 rfl ?_
        refine a_invV K (q_openY h hj hb) my_X11_isOpen ml_X11_390 im_X11_isOpen se_X11_isOpen (ci := 11) (by exact lm_o hM) (by decide) ⟨_, _, rfl⟩ rfl (by omega) (by omega) (by omega) rfl (Nat.le_of_ble_eq_true rfl) dX11_builder_7 ?_
        intro r9 S9 hp9
        obtain ⟨rfl, hS9⟩ := hp9
        obtain rfl := hS9.symm
        refine a_if_eq K dX11_builder_10 (tgt := 25) (by decide) (fun c_10 => absurd c_10 (by decide)) (fun c_10 => ?_)
        refine a_iload_n K dX11_builder_13 rfl ?_
        refine a_i2l K dX11_builder_14 ?_
        refine a_lconst K dX11_builder_15 (v := 0) (by decide) ?_
        refine a_ldc2 K kc_X11_305 dX11_builder_16 ?_
        refine a_invS K (q_inY (p := 0) (q := 3) (by decide) (by decide) (by first | assumption | omega)) my_X11_isIn ml_X11_174 st_X11_isIn rfl (by omega) (by omega) (by omega) rfl (Nat.le_of_ble_eq_true rfl) dX11_builder_19 ?_
        intro r9 S9 hp9
        obtain ⟨rfl, hS9⟩ := hp9
        obtain rfl := hS9.symm
        refine a_if_ne K dX11_builder_22 (tgt := 28) (by decide) (fun c_22 => ?_) (fun c_22 => absurd c_22 (by decide))
        first | refine a_aload_n K dX11_builder_28 rfl ?_ | refine a_aload_nN K dX11_builder_28 rfl ?_
        first | refine a_aload_n K dX11_builder_29 rfl ?_ | refine a_aload_nN K dX11_builder_29 rfl ?_
        refine a_getRs K fd_X11_76 (by exact lm_o hM) (Or.inr ⟨_, rfl⟩) (by exact lm_r739 hM) dX11_builder_30 ?_
        refine a_iload_n K dX11_builder_33 rfl ?_
        refine a_iald K (by exact lm_kk hM (by decide) (by decide)) (by show vp_in _ (sN T (m 20)); exact lm_ix (z := 4) hM (by decide) (by decide) (show j < 4 by omega) (by decide)) dX11_builder_34 ?_
        rw [nI_clamp (by omega)]
        rw [(h.bro hj hb).1]
        refine a_invV K (m_laysTree hM (h.rep (bui_live hj hb)) (by omega) (by omega) (by omega)) my_X11_laysTree ml_X11_252 im_X11_laysTree se_X11_laysTree (ci := 11) (by exact lm_o hM) (by decide) ⟨_, _, rfl⟩ rfl (by omega) (by omega) (by omega) rfl (Nat.le_of_ble_eq_true rfl) dX11_builder_35 ?_
        intro r9 S9 hp9
        obtain ⟨rfl, hLy, f9⟩ := hp9
        obtain ⟨h9, q9⟩ := h.scr hP f9 (by decide) (by decide)
        have hM := h9.1
        refine a_iload_n K dX11_builder_38 rfl ?_
        refine a_if_ne K dX11_builder_39 (tgt := 49) (by decide) (fun c_39 => absurd c_39 (fun q => q rfl)) (fun c_39 => ?_)
        first | refine a_aload_n K dX11_builder_42 rfl ?_ | refine a_aload_nN K dX11_builder_42 rfl ?_
        refine a_getI K fd_X11_249 (by exact lm_o hM) (Or.inl rfl) dX11_builder_43 ?_
        rw [hLy.1]
        refine a_goto K dX11_builder_46 (tgt := 80) (by decide) ?_
        skip
        exact a_iret K EE rfl (by omega) (by omega) dX11_builder_80 ⟨by unfold buiA; rw [hi]; show _ = some (Value.int (buiB P 0 j)); unfold buiB; rw [hb]; rfl, h9, mQ_tr q0 q9⟩
      · subst e
        first | refine a_aload_n K dX11_builder_0 rfl ?_ | refine a_aload_nN K dX11_builder_0 rfl ?_
        refine a_iconst K dX11_builder_1 (v := 0) (by decide) ?_
        refine a_putI K fd_X11_116 (by exact lm_o hM) rfl dX11_builder_2 ?_
        have f0 : frM S (wI S 704 (m 33) 0) m [] [704] := frM_wI (by decide) (by decide)
        obtain ⟨T, hT⟩ : ∃ T, T = wI S 704 (m 33) 0 := ⟨_, rfl⟩
        rw [← hT] at f0 ⊢
        obtain ⟨h, q0⟩ := h0.scr hP f0 (by decide) (by decide)
        have hM := h.1
        first | refine a_aload_n K dX11_builder_5 rfl ?_ | refine a_aload_nN K dX11_builder_5 rfl ?_
        refine a_iload_n K dX11_builder_6 rfl ?_
        refine a_invV K (q_openY h hj hb) my_X11_isOpen ml_X11_390 im_X11_isOpen se_X11_isOpen (ci := 11) (by exact lm_o hM) (by decide) ⟨_, _, rfl⟩ rfl (by omega) (by omega) (by omega) rfl (Nat.le_of_ble_eq_true rfl) dX11_builder_7 ?_
        intro r9 S9 hp9
        obtain ⟨rfl, hS9⟩ := hp9
        obtain rfl := hS9.symm
        refine a_if_eq K dX11_builder_10 (tgt := 25) (by decide) (fun c_10 => absurd c_10 (by decide)) (fun c_10 => ?_)
        refine a_iload_n K dX11_builder_13 rfl ?_
        refine a_i2l K dX11_builder_14 ?_
        refine a_lconst K dX11_builder_15 (v := 0) (by decide) ?_
        refine a_ldc2 K kc_X11_305 dX11_builder_16 ?_
        refine a_invS K (q_inY (p := 0) (q := 3) (by decide) (by decide) (by first | assumption | omega)) my_X11_isIn ml_X11_174 st_X11_isIn rfl (by omega) (by omega) (by omega) rfl (Nat.le_of_ble_eq_true rfl) dX11_builder_19 ?_
        intro r9 S9 hp9
        obtain ⟨rfl, hS9⟩ := hp9
        obtain rfl := hS9.symm
        refine a_if_ne K dX11_builder_22 (tgt := 28) (by decide) (fun c_22 => ?_) (fun c_22 => absurd c_22 (by decide))
        first | refine a_aload_n K dX11_builder_28 rfl ?_ | refine a_aload_nN K dX11_builder_28 rfl ?_
        first | refine a_aload_n K dX11_builder_29 rfl ?_ | refine a_aload_nN K dX11_builder_29 rfl ?_
        refine a_getRs K fd_X11_76 (by exact lm_o hM) (Or.inr ⟨_, rfl⟩) (by exact lm_r739 hM) dX11_builder_30 ?_
        refine a_iload_n K dX11_builder_33 rfl ?_
        refine a_iald K (by exact lm_kk hM (by decide) (by decide)) (by show vp_in _ (sN T (m 20)); exact lm_ix (z := 4) hM (by decide) (by decide) (show j < 4 by omega) (by decide)) dX11_builder_34 ?_
        rw [nI_clamp (by omega)]
        rw [(h.bro hj hb).1]
        refine a_invV K (m_laysTree hM (h.rep (bui_live hj hb)) (by omega) (by omega) (by omega)) my_X11_laysTree ml_X11_252 im_X11_laysTree se_X11_laysTree (ci := 11) (by exact lm_o hM) (by decide) ⟨_, _, rfl⟩ rfl (by omega) (by omega) (by omega) rfl (Nat.le_of_ble_eq_true rfl) dX11_builder_35 ?_
        intro r9 S9 hp9
        obtain ⟨rfl, hLy, f9⟩ := hp9
        obtain ⟨h9, q9⟩ := h.scr hP f9 (by decide) (by decide)
        have hM := h9.1
        refine a_iload_n K dX11_builder_38 rfl ?_
        refine a_if_ne K dX11_builder_39 (tgt := 49) (by decide) (fun c_39 => ?_) (fun c_39 => absurd c_39 (by decide))
        refine a_iload_n K dX11_builder_49 rfl ?_
        refine a_iconst K dX11_builder_50 (v := 1) (by decide) ?_
        refine a_icmp_ne K dX11_builder_51 (tgt := 61) (by decide) (fun c_51 => absurd c_51 (fun q => q rfl)) (fun c_51 => ?_)
        first | refine a_aload_n K dX11_builder_54 rfl ?_ | refine a_aload_nN K dX11_builder_54 rfl ?_
        refine a_getI K fd_X11_243 (by exact lm_o hM) (Or.inl rfl) dX11_builder_55 ?_
        rw [hLy.2.1]
        rw [show (dpT b.1.1 b.1.2 0).length = (sub b.1.1 b.1.2).length from by rw [dpT_len, sub_len]]
        refine a_goto K dX11_builder_58 (tgt := 80) (by decide) ?_
        skip
        exact a_iret K EE rfl (by omega) (by omega) dX11_builder_80 ⟨by unfold buiA; rw [hi]; show _ = some (Value.int (buiB P 1 j)); unfold buiB; rw [hb]; rfl, h9, mQ_tr q0 q9⟩
      · subst e
        first | refine a_aload_n K dX11_builder_0 rfl ?_ | refine a_aload_nN K dX11_builder_0 rfl ?_
        refine a_iconst K dX11_builder_1 (v := 0) (by decide) ?_
        refine a_putI K fd_X11_116 (by exact lm_o hM) rfl dX11_builder_2 ?_
        have f0 : frM S (wI S 704 (m 33) 0) m [] [704] := frM_wI (by decide) (by decide)
        obtain ⟨T, hT⟩ : ∃ T, T = wI S 704 (m 33) 0 := ⟨_, rfl⟩
        rw [← hT] at f0 ⊢
        obtain ⟨h, q0⟩ := h0.scr hP f0 (by decide) (by decide)
        have hM := h.1
        first | refine a_aload_n K dX11_builder_5 rfl ?_ | refine a_aload_nN K dX11_builder_5 rfl ?_
        refine a_iload_n K dX11_builder_6 rfl ?_
        refine a_invV K (q_openY h hj hb) my_X11_isOpen ml_X11_390 im_X11_isOpen se_X11_isOpen (ci := 11) (by exact lm_o hM) (by decide) ⟨_, _, rfl⟩ rfl (by omega) (by omega) (by omega) rfl (Nat.le_of_ble_eq_true rfl) dX11_builder_7 ?_
        intro r9 S9 hp9
        obtain ⟨rfl, hS9⟩ := hp9
        obtain rfl := hS9.symm
        refine a_if_eq K dX11_builder_10 (tgt := 25) (by decide) (fun c_10 => absurd c_10 (by decide)) (fun c_10 => ?_)
        refine a_iload_n K dX11_builder_13 rfl ?_
        refine a_i2l K dX11_builder_14 ?_
        refine a_lconst K dX11_builder_15 (v := 0) (by decide) ?_
        refine a_ldc2 K kc_X11_305 dX11_builder_16 ?_
        refine a_invS K (q_inY (p := 0) (q := 3) (by decide) (by decide) (by first | assumption | omega)) my_X11_isIn ml_X11_174 st_X11_isIn rfl (by omega) (by omega) (by omega) rfl (Nat.le_of_ble_eq_true rfl) dX11_builder_19 ?_
        intro r9 S9 hp9
        obtain ⟨rfl, hS9⟩ := hp9
        obtain rfl := hS9.symm
        refine a_if_ne K dX11_builder_22 (tgt := 28) (by decide) (fun c_22 => ?_) (fun c_22 => absurd c_22 (by decide))
        first | refine a_aload_n K dX11_builder_28 rfl ?_ | refine a_aload_nN K dX11_builder_28 rfl ?_
        first | refine a_aload_n K dX11_builder_29 rfl ?_ | refine a_aload_nN K dX11_builder_29 rfl ?_
        refine a_getRs K fd_X11_76 (by exact lm_o hM) (Or.inr ⟨_, rfl⟩) (by exact lm_r739 hM) dX11_builder_30 ?_
        refine a_iload_n K dX11_builder_33 rfl ?_
        refine a_iald K (by exact lm_kk hM (by decide) (by decide)) (by show vp_in _ (sN T (m 20)); exact lm_ix (z := 4) hM (by decide) (by decide) (show j < 4 by omega) (by decide)) dX11_builder_34 ?_
        rw [nI_clamp (by omega)]
        rw [(h.bro hj hb).1]
        refine a_invV K (m_laysTree hM (h.rep (bui_live hj hb)) (by omega) (by omega) (by omega)) my_X11_laysTree ml_X11_252 im_X11_laysTree se_X11_laysTree (ci := 11) (by exact lm_o hM) (by decide) ⟨_, _, rfl⟩ rfl (by omega) (by omega) (by omega) rfl (Nat.le_of_ble_eq_true rfl) dX11_builder_35 ?_
        intro r9 S9 hp9
        obtain ⟨rfl, hLy, f9⟩ := hp9
        obtain ⟨h9, q9⟩ := h.scr hP f9 (by decide) (by decide)
        have hM := h9.1
        refine a_iload_n K dX11_builder_38 rfl ?_
        refine a_if_ne K dX11_builder_39 (tgt := 49) (by decide) (fun c_39 => ?_) (fun c_39 => absurd c_39 (by decide))
        refine a_iload_n K dX11_builder_49 rfl ?_
        refine a_iconst K dX11_builder_50 (v := 1) (by decide) ?_
        refine a_icmp_ne K dX11_builder_51 (tgt := 61) (by decide) (fun c_51 => ?_) (fun c_51 => absurd c_51 (by decide))
        refine a_iload_n K dX11_builder_61 rfl ?_
        refine a_iconst K dX11_builder_62 (v := 2) (by decide) ?_
        refine a_icmp_ne K dX11_builder_63 (tgt := 74) (by decide) (fun c_63 => absurd c_63 (fun q => q rfl)) (fun c_63 => ?_)
        first | refine a_aload_n K dX11_builder_66 rfl ?_ | refine a_aload_nN K dX11_builder_66 rfl ?_
        refine a_iload_n K dX11_builder_67 rfl ?_
        refine a_invV K (q_ownNodes hM hLy (h9.rep (bui_live hj hb)) h4z.2.1 hj (h9.bro hj hb).2.1 (by have h8 := (hP.2.2.1 j b hb).2.2.1; have h7 := hP.2.2.2; omega) (sub_tk hP tz)) my_X11_ownNodes ml_X11_413 im_X11_ownNodes se_X11_ownNodes (ci := 11) (by exact lm_o hM) (by decide) ⟨_, _, rfl⟩ rfl (by omega) (by omega) (by omega) rfl (Nat.le_of_ble_eq_true rfl) dX11_builder_68 ?_
        intro r8 S8 hp8
        obtain ⟨rfl, hS8⟩ := hp8
        obtain rfl := hS8.symm
        refine a_goto K dX11_builder_71 (tgt := 80) (by decide) ?_
        skip
        exact a_iret K EE rfl (by omega) (by omega) dX11_builder_80 ⟨by unfold buiA; rw [hi]; show _ = some (Value.int (buiB P 2 j)); unfold buiB; rw [hb]; rfl, h9, mQ_tr q0 q9⟩
      · subst e
        first | refine a_aload_n K dX11_builder_0 rfl ?_ | refine a_aload_nN K dX11_builder_0 rfl ?_
        refine a_iconst K dX11_builder_1 (v := 0) (by decide) ?_
        refine a_putI K fd_X11_116 (by exact lm_o hM) rfl dX11_builder_2 ?_
        have f0 : frM S (wI S 704 (m 33) 0) m [] [704] := frM_wI (by decide) (by decide)
        obtain ⟨T, hT⟩ : ∃ T, T = wI S 704 (m 33) 0 := ⟨_, rfl⟩
        rw [← hT] at f0 ⊢
        obtain ⟨h, q0⟩ := h0.scr hP f0 (by decide) (by decide)
        have hM := h.1
        first | refine a_aload_n K dX11_builder_5 rfl ?_ | refine a_aload_nN K dX11_builder_5 rfl ?_
        refine a_iload_n K dX11_builder_6 rfl ?_
        refine a_invV K (q_openY h hj hb) my_X11_isOpen ml_X11_390 im_X11_isOpen se_X11_isOpen (ci := 11) (by exact lm_o hM) (by decide) ⟨_, _, rfl⟩ rfl (by omega) (by omega) (by omega) rfl (Nat.le_of_ble_eq_true rfl) dX11_builder_7 ?_
        intro r9 S9 hp9
        obtain ⟨rfl, hS9⟩ := hp9
        obtain rfl := hS9.symm
        refine a_if_eq K dX11_builder_10 (tgt := 25) (by decide) (fun c_10 => absurd c_10 (by decide)) (fun c_10 => ?_)
        refine a_iload_n K dX11_builder_13 rfl ?_
        refine a_i2l K dX11_builder_14 ?_
        refine a_lconst K dX11_builder_15 (v := 0) (by decide) ?_
        refine a_ldc2 K kc_X11_305 dX11_builder_16 ?_
        refine a_invS K (q_inY (p := 0) (q := 3) (by decide) (by decide) (by first | assumption | omega)) my_X11_isIn ml_X11_174 st_X11_isIn rfl (by omega) (by omega) (by omega) rfl (Nat.le_of_ble_eq_true rfl) dX11_builder_19 ?_
        intro r9 S9 hp9
        obtain ⟨rfl, hS9⟩ := hp9
        obtain rfl := hS9.symm
        refine a_if_ne K dX11_builder_22 (tgt := 28) (by decide) (fun c_22 => ?_) (fun c_22 => absurd c_22 (by decide))
        first | refine a_aload_n K dX11_builder_28 rfl ?_ | refine a_aload_nN K dX11_builder_28 rfl ?_
        first | refine a_aload_n K dX11_builder_29 rfl ?_ | refine a_aload_nN K dX11_builder_29 rfl ?_
        refine a_getRs K fd_X11_76 (by exact lm_o hM) (Or.inr ⟨_, rfl⟩) (by exact lm_r739 hM) dX11_builder_30 ?_
        refine a_iload_n K dX11_builder_33 rfl ?_
        refine a_iald K (by exact lm_kk hM (by decide) (by decide)) (by show vp_in _ (sN T (m 20)); exact lm_ix (z := 4) hM (by decide) (by decide) (show j < 4 by omega) (by decide)) dX11_builder_34 ?_
        rw [nI_clamp (by omega)]
        rw [(h.bro hj hb).1]
        refine a_invV K (m_laysTree hM (h.rep (bui_live hj hb)) (by omega) (by omega) (by omega)) my_X11_laysTree ml_X11_252 im_X11_laysTree se_X11_laysTree (ci := 11) (by exact lm_o hM) (by decide) ⟨_, _, rfl⟩ rfl (by omega) (by omega) (by omega) rfl (Nat.le_of_ble_eq_true rfl) dX11_builder_35 ?_
        intro r9 S9 hp9
        obtain ⟨rfl, hLy, f9⟩ := hp9
        obtain ⟨h9, q9⟩ := h.scr hP f9 (by decide) (by decide)
        have hM := h9.1
        refine a_iload_n K dX11_builder_38 rfl ?_
        refine a_if_ne K dX11_builder_39 (tgt := 49) (by decide) (fun c_39 => ?_) (fun c_39 => absurd c_39 (by decide))
        refine a_iload_n K dX11_builder_49 rfl ?_
        refine a_iconst K dX11_builder_50 (v := 1) (by decide) ?_
        refine a_icmp_ne K dX11_builder_51 (tgt := 61) (by decide) (fun c_51 => ?_) (fun c_51 => absurd c_51 (by decide))
        refine a_iload_n K dX11_builder_61 rfl ?_
        refine a_iconst K dX11_builder_62 (v := 2) (by decide) ?_
        refine a_icmp_ne K dX11_builder_63 (tgt := 74) (by decide) (fun c_63 => ?_) (fun c_63 => absurd c_63 (by decide))
        first | refine a_aload_n K dX11_builder_74 rfl ?_ | refine a_aload_nN K dX11_builder_74 rfl ?_
        refine a_getRs K fd_X11_82 (by exact lm_o hM) (Or.inr ⟨_, rfl⟩) (by exact lm_r741 hM) dX11_builder_75 ?_
        refine a_iload_n K dX11_builder_78 rfl ?_
        refine a_iald K (by exact lm_kk hM (by decide) (by decide)) (by show vp_in _ (sN S9 (m 22)); exact lm_ix (z := 4) hM (by decide) (by decide) (show j < 4 by omega) (by decide)) dX11_builder_79 ?_
        rw [nI_clamp (by omega)]
        rw [(h9.bro hj hb).2.2]
        exact a_iret K EE rfl (by omega) (by omega) dX11_builder_80 ⟨by unfold buiA; rw [hi]; show _ = some (Value.int (buiB P 3 j)); unfold buiB; rw [hb]; rfl, h9, mQ_tr q0 q9⟩
set_option maxHeartbeats 4000000 in
set_option maxRecDepth 100000 in
theorem q_key {S : aw_S} {m ρ : Nat → Nat} {Z : List Nat × Nat} {mb n9 : Nat} {P : PS} (h0 : RM S m ρ Z mb P) (hJ : PJ n9 P) {i k : Int32} : aw_M yX11_key cX11_key 3 (some FieldType.int) 7 0 0 [.ref (m 33), .int i, .int k] S (fun r S2 => ((∃ w, keyV P i k = some w ∧ r = some (.int w) ∧ sI S2 704 (m 33) = 0) ∨ (keyV P i k = none ∧ (∃ w, r = some (.int w)) ∧ sI S2 704 (m 33) = 1)) ∧ RM S2 m ρ Z mb P ∧ frS S S2 (mQ m)) := by
  have hP := hJ.1
  have hw3 := hP.1.1
  have hM := h0.1
  have hl9 := hJ.ln
  refine aw_enter (by decide +kernel) (Nat.le_of_ble_eq_true rfl) (fun g K EE => ?_)
  cases hz : rootP P i with
  | none =>
    first | refine a_aload_n K dX11_key_0 rfl ?_ | refine a_aload_nN K dX11_key_0 rfl ?_
    refine a_iconst K dX11_key_1 (v := 1) (by decide) ?_
    refine a_putI K fd_X11_116 (by exact lm_o hM) rfl dX11_key_2 ?_
    have f0 : frM S (wI S 704 (m 33) 1) m [] [704] := frM_wI (by decide) (by decide)
    obtain ⟨T, hT⟩ : ∃ T, T = wI S 704 (m 33) 1 := ⟨_, rfl⟩
    rw [← hT] at f0 ⊢
    obtain ⟨h, q0⟩ := h0.scr hP f0 (by decide) (by decide)
    have hM := h.1
    have h704 : sI T 704 (m 33) = 1 := by rw [hT]; exact wI_at
    first | refine a_aload_n K dX11_key_5 rfl ?_ | refine a_aload_nN K dX11_key_5 rfl ?_
    refine a_iload_n K dX11_key_6 rfl ?_
    refine a_invV K (q_mapN h hl9 hz) my_X11_isMap ml_X11_309 im_X11_isMap se_X11_isMap (ci := 11) (by exact lm_o hM) (by decide) ⟨_, _, rfl⟩ rfl (by omega) (by omega) (by omega) rfl (Nat.le_of_ble_eq_true rfl) dX11_key_7 ?_
    intro r9 S9 hp9
    obtain ⟨rfl, hS9⟩ := hp9
    obtain rfl := hS9.symm
    refine a_if_eq K dX11_key_10 (tgt := 17) (by decide) (fun c_10 => ?_) (fun c_10 => absurd c_10 (by decide))
    refine a_iconst K dX11_key_17 (v := 0) (by decide) ?_
    exact a_iret K EE rfl (by omega) (by omega) dX11_key_18 ⟨Or.inr ⟨by unfold keyV; rw [hz]; show (if 0 ≤ k.toInt then _ else _) = _; split <;> rfl, ⟨_, rfl⟩, h704⟩, h, q0⟩
  | some z =>
    obtain ⟨j, hij, hj, -⟩ := h0.root hz
    subst hij
    have tz := hP.tz (rootP_live hz)
    have h4z := tz.h4 hw3
    have e60z := tz.2.2.1
    by_cases hk : 0 ≤ k.toInt
    · obtain ⟨kk, hkk, e⟩ : ∃ kk, kk < 2147483648 ∧ k = nI kk := by
        obtain ⟨n, hn⟩ : ∃ n : Nat, k.toInt = n := ⟨k.toInt.toNat, by omega⟩
        have h31 := k.toInt_lt
        exact ⟨n, by omega, i32_of (by omega) hn⟩
      subst e
      have nI_nn : ¬ ¬ 0 ≤ nI kk := fun q => q (nI_pos' hkk)
      by_cases hl : kk < (ent z.1 z.2).length
      · first | refine a_aload_n K dX11_key_0 rfl ?_ | refine a_aload_nN K dX11_key_0 rfl ?_
        refine a_iconst K dX11_key_1 (v := 1) (by decide) ?_
        refine a_putI K fd_X11_116 (by exact lm_o hM) rfl dX11_key_2 ?_
        have f0 : frM S (wI S 704 (m 33) 1) m [] [704] := frM_wI (by decide) (by decide)
        obtain ⟨T, hT⟩ : ∃ T, T = wI S 704 (m 33) 1 := ⟨_, rfl⟩
        rw [← hT] at f0 ⊢
        obtain ⟨h, q0⟩ := h0.scr hP f0 (by decide) (by decide)
        have hM := h.1
        have h704 : sI T 704 (m 33) = 1 := by rw [hT]; exact wI_at
        first | refine a_aload_n K dX11_key_5 rfl ?_ | refine a_aload_nN K dX11_key_5 rfl ?_
        refine a_iload_n K dX11_key_6 rfl ?_
        refine a_invV K (q_mapY h hl9 hz) my_X11_isMap ml_X11_309 im_X11_isMap se_X11_isMap (ci := 11) (by exact lm_o hM) (by decide) ⟨_, _, rfl⟩ rfl (by omega) (by omega) (by omega) rfl (Nat.le_of_ble_eq_true rfl) dX11_key_7 ?_
        intro r9 S9 hp9
        obtain ⟨rfl, hS9⟩ := hp9
        obtain rfl := hS9.symm
        refine a_if_eq K dX11_key_10 (tgt := 17) (by decide) (fun c_10 => absurd c_10 (by decide)) (fun c_10 => ?_)
        refine a_iload_n K dX11_key_13 rfl ?_
        refine a_if_ge K dX11_key_14 (tgt := 19) (by decide) (fun c_14 => ?_) (fun c_14 => absurd c_14 (nI_nn))
        first | refine a_aload_n K dX11_key_19 rfl ?_ | refine a_aload_nN K dX11_key_19 rfl ?_
        first | refine a_aload_n K dX11_key_20 rfl ?_ | refine a_aload_nN K dX11_key_20 rfl ?_
        refine a_getRs K fd_X11_67 (by exact lm_o hM) (Or.inr ⟨_, rfl⟩) (by exact lm_r736 hM) dX11_key_21 ?_
        refine a_iload_n K dX11_key_24 rfl ?_
        refine a_iald K (by exact lm_kk hM (by decide) (by decide)) (by show vp_in _ (sN T (m 17)); exact lm_ix (z := 999) hM (by decide) (by decide) (show j < 999 by omega) (by decide)) dX11_key_25 ?_
        rw [nI_clamp (by omega)]
        rw [h.root2 hz (by omega)]
        refine a_invV K (m_laysTree hM (h.rep (rootP_live hz)) (by omega) (by omega) (by omega)) my_X11_laysTree ml_X11_252 im_X11_laysTree se_X11_laysTree (ci := 11) (by exact lm_o hM) (by decide) ⟨_, _, rfl⟩ rfl (by omega) (by omega) (by omega) rfl (Nat.le_of_ble_eq_true rfl) dX11_key_26 ?_
        intro r9 S9 hp9
        obtain ⟨rfl, hLy, f9⟩ := hp9
        obtain ⟨h9, q9⟩ := h.scr hP f9 (by decide) (by decide)
        have hM := h9.1
        refine a_iload_n K dX11_key_29 rfl ?_
        first | refine a_aload_n K dX11_key_30 rfl ?_ | refine a_aload_nN K dX11_key_30 rfl ?_
        refine a_getI K fd_X11_249 (by exact lm_o hM) (Or.inl rfl) dX11_key_31 ?_
        rw [hLy.1]
        refine a_icmp_lt K dX11_key_34 (tgt := 39) (by decide) (fun c_34 => ?_) (fun c_34 => absurd c_34 (fun q => q (nI_lt (by omega) (by omega))))
        first | refine a_aload_n K dX11_key_39 rfl ?_ | refine a_aload_nN K dX11_key_39 rfl ?_
        refine a_iconst K dX11_key_40 (v := 0) (by decide) ?_
        refine a_putI K fd_X11_116 (by exact lm_o hM) rfl dX11_key_41 ?_
        have f8 : frM S9 (wI S9 704 (m 33) 0) m [] [704] := frM_wI (by decide) (by decide)
        obtain ⟨T8, hT8⟩ : ∃ T8, T8 = wI S9 704 (m 33) 0 := ⟨_, rfl⟩
        rw [← hT8] at f8 ⊢
        obtain ⟨h8, q8⟩ := h9.scr hP f8 (by decide) (by decide)
        have hM := h8.1
        have e13 : sA T8 (m 13) = sA S9 (m 13) := f8.A h9.1 (by decide) (by decide) (by decide)
        have hx := List.getElem?_eq_getElem hl
        have h84 : sI T8 704 (m 33) = 0 := by rw [hT8]; exact wI_at
        first | refine a_aload_n K dX11_key_44 rfl ?_ | refine a_aload_nN K dX11_key_44 rfl ?_
        refine a_getRs K fd_X11_55 (by exact lm_o hM) (Or.inr ⟨_, rfl⟩) (by exact lm_r730 hM) dX11_key_45 ?_
        refine a_iload_n K dX11_key_48 rfl ?_
        refine a_iald K (by exact lm_kk hM (by decide) (by decide)) (by show vp_in _ (sN T8 (m 13)); exact lm_ix (z := 140) hM (by decide) (by decide) (show kk < 140 by omega) (by decide)) dX11_key_49 ?_
        rw [nI_clamp (by omega)]
        rw [e13]
        rw [(hLy.2.2.1 kk _ hx).1]
        exact a_iret K EE rfl (by omega) (by omega) dX11_key_50 ⟨Or.inl ⟨(ent z.1 z.2)[kk].1, by unfold keyV; rw [nI_toInt (by omega), nI_clamp (by omega), if_pos (Int.natCast_nonneg _), hz]; show ((ent z.1 z.2)[kk]?).map Prod.fst = _; rw [hx]; rfl, rfl, h84⟩, h8, mQ_tr q0 (mQ_tr q9 q8)⟩
      · first | refine a_aload_n K dX11_key_0 rfl ?_ | refine a_aload_nN K dX11_key_0 rfl ?_
        refine a_iconst K dX11_key_1 (v := 1) (by decide) ?_
        refine a_putI K fd_X11_116 (by exact lm_o hM) rfl dX11_key_2 ?_
        have f0 : frM S (wI S 704 (m 33) 1) m [] [704] := frM_wI (by decide) (by decide)
        obtain ⟨T, hT⟩ : ∃ T, T = wI S 704 (m 33) 1 := ⟨_, rfl⟩
        rw [← hT] at f0 ⊢
        obtain ⟨h, q0⟩ := h0.scr hP f0 (by decide) (by decide)
        have hM := h.1
        have h704 : sI T 704 (m 33) = 1 := by rw [hT]; exact wI_at
        first | refine a_aload_n K dX11_key_5 rfl ?_ | refine a_aload_nN K dX11_key_5 rfl ?_
        refine a_iload_n K dX11_key_6 rfl ?_
        refine a_invV K (q_mapY h hl9 hz) my_X11_isMap ml_X11_309 im_X11_isMap se_X11_isMap (ci := 11) (by exact lm_o hM) (by decide) ⟨_, _, rfl⟩ rfl (by omega) (by omega) (by omega) rfl (Nat.le_of_ble_eq_true rfl) dX11_key_7 ?_
        intro r9 S9 hp9
        obtain ⟨rfl, hS9⟩ := hp9
        obtain rfl := hS9.symm
        refine a_if_eq K dX11_key_10 (tgt := 17) (by decide) (fun c_10 => absurd c_10 (by decide)) (fun c_10 => ?_)
        refine a_iload_n K dX11_key_13 rfl ?_
        refine a_if_ge K dX11_key_14 (tgt := 19) (by decide) (fun c_14 => ?_) (fun c_14 => absurd c_14 (nI_nn))
        first | refine a_aload_n K dX11_key_19 rfl ?_ | refine a_aload_nN K dX11_key_19 rfl ?_
        first | refine a_aload_n K dX11_key_20 rfl ?_ | refine a_aload_nN K dX11_key_20 rfl ?_
        refine a_getRs K fd_X11_67 (by exact lm_o hM) (Or.inr ⟨_, rfl⟩) (by exact lm_r736 hM) dX11_key_21 ?_
        refine a_iload_n K dX11_key_24 rfl ?_
        refine a_iald K (by exact lm_kk hM (by decide) (by decide)) (by show vp_in _ (sN T (m 17)); exact lm_ix (z := 999) hM (by decide) (by decide) (show j < 999 by omega) (by decide)) dX11_key_25 ?_
        rw [nI_clamp (by omega)]
        rw [h.root2 hz (by omega)]
        refine a_invV K (m_laysTree hM (h.rep (rootP_live hz)) (by omega) (by omega) (by omega)) my_X11_laysTree ml_X11_252 im_X11_laysTree se_X11_laysTree (ci := 11) (by exact lm_o hM) (by decide) ⟨_, _, rfl⟩ rfl (by omega) (by omega) (by omega) rfl (Nat.le_of_ble_eq_true rfl) dX11_key_26 ?_
        intro r9 S9 hp9
        obtain ⟨rfl, hLy, f9⟩ := hp9
        obtain ⟨h9, q9⟩ := h.scr hP f9 (by decide) (by decide)
        have hM := h9.1
        refine a_iload_n K dX11_key_29 rfl ?_
        first | refine a_aload_n K dX11_key_30 rfl ?_ | refine a_aload_nN K dX11_key_30 rfl ?_
        refine a_getI K fd_X11_249 (by exact lm_o hM) (Or.inl rfl) dX11_key_31 ?_
        rw [hLy.1]
        refine a_icmp_lt K dX11_key_34 (tgt := 39) (by decide) (fun c_34 => absurd c_34 (nI_nlt (by omega) (by omega))) (fun c_34 => ?_)
        refine a_iconst K dX11_key_37 (v := 0) (by decide) ?_
        exact a_iret K EE rfl (by omega) (by omega) dX11_key_38 ⟨Or.inr ⟨by unfold keyV; rw [nI_toInt (by omega), nI_clamp (by omega), if_pos (Int.natCast_nonneg _), hz]; show ((ent z.1 z.2)[kk]?).map Prod.fst = none; rw [List.getElem?_eq_none_iff.mpr (by omega)]; rfl, ⟨_, rfl⟩, (f9.2 704 (by decide)).trans h704⟩, h9, mQ_tr q0 q9⟩
    · first | refine a_aload_n K dX11_key_0 rfl ?_ | refine a_aload_nN K dX11_key_0 rfl ?_
      refine a_iconst K dX11_key_1 (v := 1) (by decide) ?_
      refine a_putI K fd_X11_116 (by exact lm_o hM) rfl dX11_key_2 ?_
      have f0 : frM S (wI S 704 (m 33) 1) m [] [704] := frM_wI (by decide) (by decide)
      obtain ⟨T, hT⟩ : ∃ T, T = wI S 704 (m 33) 1 := ⟨_, rfl⟩
      rw [← hT] at f0 ⊢
      obtain ⟨h, q0⟩ := h0.scr hP f0 (by decide) (by decide)
      have hM := h.1
      have h704 : sI T 704 (m 33) = 1 := by rw [hT]; exact wI_at
      first | refine a_aload_n K dX11_key_5 rfl ?_ | refine a_aload_nN K dX11_key_5 rfl ?_
      refine a_iload_n K dX11_key_6 rfl ?_
      refine a_invV K (q_mapY h hl9 hz) my_X11_isMap ml_X11_309 im_X11_isMap se_X11_isMap (ci := 11) (by exact lm_o hM) (by decide) ⟨_, _, rfl⟩ rfl (by omega) (by omega) (by omega) rfl (Nat.le_of_ble_eq_true rfl) dX11_key_7 ?_
      intro r9 S9 hp9
      obtain ⟨rfl, hS9⟩ := hp9
      obtain rfl := hS9.symm
      refine a_if_eq K dX11_key_10 (tgt := 17) (by decide) (fun c_10 => absurd c_10 (by decide)) (fun c_10 => ?_)
      refine a_iload_n K dX11_key_13 rfl ?_
      refine a_if_ge K dX11_key_14 (tgt := 19) (by decide) (fun c_14 => absurd c_14 (fun q => hk (by have e := i32_le.mp q; exact e))) (fun c_14 => ?_)
      refine a_iconst K dX11_key_17 (v := 0) (by decide) ?_
      exact a_iret K EE rfl (by omega) (by omega) dX11_key_18 ⟨Or.inr ⟨by unfold keyV; rw [if_neg hk], ⟨_, rfl⟩, h704⟩, h, q0⟩
set_option maxHeartbeats 4000000 in
set_option maxRecDepth 100000 in
theorem q_thrown {S : aw_S} {m : Nat → Nat} (hM : LM S m) : aw_M yX11_thrown cX11_thrown 1 (some FieldType.int) 0 0 0 [.ref (m 33)] S (fun r S2 => r = some (.int (sI S 704 (m 33))) ∧ S2 = S) := by
  refine aw_enter (by decide +kernel) (Nat.le_of_ble_eq_true rfl) (fun g K EE => ?_)
  first | refine a_aload_n K dX11_thrown_0 rfl ?_ | refine a_aload_nN K dX11_thrown_0 rfl ?_
  refine a_getI K fd_X11_116 (by exact lm_o hM) (Or.inl rfl) dX11_thrown_1 ?_
  exact a_iret K EE rfl (by omega) (by omega) dX11_thrown_4 ⟨rfl, rfl⟩
