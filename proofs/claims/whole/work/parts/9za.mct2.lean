/-! the model: a builder's cut -/
theorem q_stp1 {S : aw_S} {m ρ : Nat → Nat} {Z : List Nat × Nat} {mb : Nat} {P : PS} (h : RM S m ρ Z mb P) {i v : Int32} (hv : stpW i (obN P 4) true = v) : aw_M yX11_stops cX11_stops 3 (some FieldType.int) 3 0 0 [.ref (m 33), .int i, .int 1] S (fun r S2 => r = some (.int v) ∧ S2 = S) := q_stp (ok := true) h hv
theorem q_stp0 {S : aw_S} {m ρ : Nat → Nat} {Z : List Nat × Nat} {mb : Nat} {P : PS} (h : RM S m ρ Z mb P) {i v : Int32} (hv : stpW i (obN P 4) false = v) : aw_M yX11_stops cX11_stops 3 (some FieldType.int) 3 0 0 [.ref (m 33), .int i, .int 0] S (fun r S2 => r = some (.int v) ∧ S2 = S) := q_stp (ok := false) h hv
set_option maxHeartbeats 4000000 in
set_option maxRecDepth 100000 in
theorem q_cut {S : aw_S} {m ρ : Nat → Nat} {Z : List Nat × Nat} {mb n9 : Nat} {P : PS} (h0 : RM S m ρ Z mb P) (hJ : PJ n9 P) (hmb : mb + 1 < 2147483000) {i a c : Int32} : aw_M yX11_cut cX11_cut 6 (some FieldType.int) 10 0 0 [.ref (m 33), .int i, .int a, .int c] S (fun r S2 => ∃ ρ2 Z2, r = some (.int (bld P i (rngR a c) (cutF P a c)).1) ∧ RM S2 m ρ2 Z2 (mb + 1) (bld P i (rngR a c) (cutF P a c)).2 ∧ frS S S2 (mQ m)) := by
  have hP := hJ.1
  have hw3 := hP.1.1
  have hM := h0.1
  have hl9 := hJ.ln
  have hw6 := hP.1.2
  have hpH := hJ.2.2.2.2.2.1.1
  have hc16 := hJ.2.2.2.2.2.1.2.1
  refine aw_enter (by decide +kernel) (Nat.le_of_ble_eq_true rfl) (fun g K EE => ?_)
  by_cases c1 : ¬ (0 ≤ a.toInt ∧ a.toInt ≤ 999)
  · have hno : ¬ rngR a c := fun q => c1 ⟨q.1.1, by have := q.1.2; omega⟩
    rcases stp_cs (P := P) (i := i) (ok := false) with ⟨hA, hv⟩ | ⟨j, hA, hob, hv⟩ | ⟨j, hA, hob, hb, hv⟩ | ⟨j, b, hA, hob, hb, hv⟩
    · have hE : bld P i (rngR a c) (cutF P a c) = (-1, refP P 0) := bld_0 hA
      first | refine a_aload_n K dX11_cut_0 rfl ?_ | refine a_aload_nN K dX11_cut_0 rfl ?_
      refine a_iconst K dX11_cut_1 (v := 0) (by decide) ?_
      refine a_putI K fd_X11_116 (by exact lm_o hM) rfl dX11_cut_2 ?_
      have f0 : frM S (wI S 704 (m 33) 0) m [] [704] := frM_wI (by decide) (by decide)
      obtain ⟨T, hT⟩ : ∃ T, T = wI S 704 (m 33) 0 := ⟨_, rfl⟩
      rw [← hT] at f0 ⊢
      obtain ⟨h, q0⟩ := h0.scr hP f0 (by decide) (by decide)
      have hM := h.1
      first | refine a_aload_n K dX11_cut_5 rfl ?_ | refine a_aload_nN K dX11_cut_5 rfl ?_
      refine a_iload_n K dX11_cut_6 rfl ?_
      refine a_iload_n K dX11_cut_7 rfl ?_
      refine a_i2l K dX11_cut_8 ?_
      refine a_lconst K dX11_cut_9 (v := 0) (by decide) ?_
      refine a_ldc2 K kc_X11_335 dX11_cut_10 ?_
      refine a_invS K (q_inN (p := 0) (q := 999) (by decide) (by decide) c1) my_X11_isIn ml_X11_174 st_X11_isIn rfl (by omega) (by omega) (by omega) rfl (Nat.le_of_ble_eq_true rfl) dX11_cut_13 ?_
      intro r9 S9 hp9
      obtain ⟨rfl, hS9⟩ := hp9
      obtain rfl := hS9.symm
      refine a_if_eq K dX11_cut_16 (tgt := 36) (by decide) (fun c_16 => ?_) (fun c_16 => absurd c_16 (fun z => z rfl))
      refine a_iconst K dX11_cut_36 (v := 0) (by decide) ?_
      refine a_invV K (q_stp0 (v := nI 0) h hv) my_X11_stops ml_X11_393 im_X11_stops se_X11_stops (ci := 11) (by exact lm_o hM) (by decide) ⟨_, _, rfl⟩ rfl (by omega) (by omega) (by omega) rfl (Nat.le_of_ble_eq_true rfl) dX11_cut_37 ?_
      intro r9 S9 hp9
      obtain ⟨rfl, hS9⟩ := hp9
      obtain rfl := hS9.symm
      refine a_istore K dX11_cut_40 (by decide) ?_
      refine a_iload K dX11_cut_42 rfl ?_
      refine a_iconst K dX11_cut_44 (v := -1) (by decide) ?_
      refine a_icmp_eq K dX11_cut_45 (tgt := 55) (by decide) (fun c_45 => absurd c_45 (by decide)) (fun c_45 => ?_)
      first | refine a_aload_n K dX11_cut_48 rfl ?_ | refine a_aload_nN K dX11_cut_48 rfl ?_
      refine a_iload K dX11_cut_49 rfl ?_
      refine a_invV K (q_refP h (k := 0) (by decide)) my_X11_refused ml_X11_292 im_X11_refused se_X11_refused (ci := 11) (by exact lm_o hM) (by decide) ⟨_, _, rfl⟩ rfl (by omega) (by omega) (by omega) rfl (Nat.le_of_ble_eq_true rfl) dX11_cut_51 ?_
      intro r9 S9 hp9
      obtain ⟨rfl, hR, qR⟩ := hp9
      exact a_iret K EE rfl (by omega) (by omega) dX11_cut_54 ⟨ρ, Z, by rw [hE], by rw [hE]; exact hR.up (Nat.le_succ mb) (by omega), mQ_tr q0 qR⟩
    · have hE : bld P i (rngR a c) (cutF P a c) = (-1, refP P 1) := bld_1 hA hno
      first | refine a_aload_n K dX11_cut_0 rfl ?_ | refine a_aload_nN K dX11_cut_0 rfl ?_
      refine a_iconst K dX11_cut_1 (v := 0) (by decide) ?_
      refine a_putI K fd_X11_116 (by exact lm_o hM) rfl dX11_cut_2 ?_
      have f0 : frM S (wI S 704 (m 33) 0) m [] [704] := frM_wI (by decide) (by decide)
      obtain ⟨T, hT⟩ : ∃ T, T = wI S 704 (m 33) 0 := ⟨_, rfl⟩
      rw [← hT] at f0 ⊢
      obtain ⟨h, q0⟩ := h0.scr hP f0 (by decide) (by decide)
      have hM := h.1
      first | refine a_aload_n K dX11_cut_5 rfl ?_ | refine a_aload_nN K dX11_cut_5 rfl ?_
      refine a_iload_n K dX11_cut_6 rfl ?_
      refine a_iload_n K dX11_cut_7 rfl ?_
      refine a_i2l K dX11_cut_8 ?_
      refine a_lconst K dX11_cut_9 (v := 0) (by decide) ?_
      refine a_ldc2 K kc_X11_335 dX11_cut_10 ?_
      refine a_invS K (q_inN (p := 0) (q := 999) (by decide) (by decide) c1) my_X11_isIn ml_X11_174 st_X11_isIn rfl (by omega) (by omega) (by omega) rfl (Nat.le_of_ble_eq_true rfl) dX11_cut_13 ?_
      intro r9 S9 hp9
      obtain ⟨rfl, hS9⟩ := hp9
      obtain rfl := hS9.symm
      refine a_if_eq K dX11_cut_16 (tgt := 36) (by decide) (fun c_16 => ?_) (fun c_16 => absurd c_16 (fun z => z rfl))
      refine a_iconst K dX11_cut_36 (v := 0) (by decide) ?_
      refine a_invV K (q_stp0 (v := nI 1) h hv) my_X11_stops ml_X11_393 im_X11_stops se_X11_stops (ci := 11) (by exact lm_o hM) (by decide) ⟨_, _, rfl⟩ rfl (by omega) (by omega) (by omega) rfl (Nat.le_of_ble_eq_true rfl) dX11_cut_37 ?_
      intro r9 S9 hp9
      obtain ⟨rfl, hS9⟩ := hp9
      obtain rfl := hS9.symm
      refine a_istore K dX11_cut_40 (by decide) ?_
      refine a_iload K dX11_cut_42 rfl ?_
      refine a_iconst K dX11_cut_44 (v := -1) (by decide) ?_
      refine a_icmp_eq K dX11_cut_45 (tgt := 55) (by decide) (fun c_45 => absurd c_45 (by decide)) (fun c_45 => ?_)
      first | refine a_aload_n K dX11_cut_48 rfl ?_ | refine a_aload_nN K dX11_cut_48 rfl ?_
      refine a_iload K dX11_cut_49 rfl ?_
      refine a_invV K (q_refP h (k := 1) (by decide)) my_X11_refused ml_X11_292 im_X11_refused se_X11_refused (ci := 11) (by exact lm_o hM) (by decide) ⟨_, _, rfl⟩ rfl (by omega) (by omega) (by omega) rfl (Nat.le_of_ble_eq_true rfl) dX11_cut_51 ?_
      intro r9 S9 hp9
      obtain ⟨rfl, hR, qR⟩ := hp9
      exact a_iret K EE rfl (by omega) (by omega) dX11_cut_54 ⟨ρ, Z, by rw [hE], by rw [hE]; exact hR.up (Nat.le_succ mb) (by omega), mQ_tr q0 qR⟩
    · exact absurd hob (by decide)
    · exact absurd hob (by decide)
  have c1 := Classical.not_not.mp c1
  by_cases c2 : ¬ (a.toInt ≤ c.toInt ∧ c.toInt ≤ 999)
  · have hno : ¬ rngR a c := fun q => c2 ⟨q.2.2, by have := q.2.1.2; omega⟩
    rcases stp_cs (P := P) (i := i) (ok := false) with ⟨hA, hv⟩ | ⟨j, hA, hob, hv⟩ | ⟨j, hA, hob, hb, hv⟩ | ⟨j, b, hA, hob, hb, hv⟩
    · have hE : bld P i (rngR a c) (cutF P a c) = (-1, refP P 0) := bld_0 hA
      first | refine a_aload_n K dX11_cut_0 rfl ?_ | refine a_aload_nN K dX11_cut_0 rfl ?_
      refine a_iconst K dX11_cut_1 (v := 0) (by decide) ?_
      refine a_putI K fd_X11_116 (by exact lm_o hM) rfl dX11_cut_2 ?_
      have f0 : frM S (wI S 704 (m 33) 0) m [] [704] := frM_wI (by decide) (by decide)
      obtain ⟨T, hT⟩ : ∃ T, T = wI S 704 (m 33) 0 := ⟨_, rfl⟩
      rw [← hT] at f0 ⊢
      obtain ⟨h, q0⟩ := h0.scr hP f0 (by decide) (by decide)
      have hM := h.1
      first | refine a_aload_n K dX11_cut_5 rfl ?_ | refine a_aload_nN K dX11_cut_5 rfl ?_
      refine a_iload_n K dX11_cut_6 rfl ?_
      refine a_iload_n K dX11_cut_7 rfl ?_
      refine a_i2l K dX11_cut_8 ?_
      refine a_lconst K dX11_cut_9 (v := 0) (by decide) ?_
      refine a_ldc2 K kc_X11_335 dX11_cut_10 ?_
      refine a_invS K (q_inY (p := 0) (q := 999) (by decide) (by decide) c1) my_X11_isIn ml_X11_174 st_X11_isIn rfl (by omega) (by omega) (by omega) rfl (Nat.le_of_ble_eq_true rfl) dX11_cut_13 ?_
      intro r9 S9 hp9
      obtain ⟨rfl, hS9⟩ := hp9
      obtain rfl := hS9.symm
      refine a_if_eq K dX11_cut_16 (tgt := 36) (by decide) (fun c_16 => absurd c_16 (by decide)) (fun c_16 => ?_)
      refine a_iload_n K dX11_cut_19 rfl ?_
      refine a_i2l K dX11_cut_20 ?_
      refine a_iload_n K dX11_cut_21 rfl ?_
      refine a_i2l K dX11_cut_22 ?_
      refine a_ldc2 K kc_X11_335 dX11_cut_23 ?_
      refine a_invS K (q_inN (p := a.toInt) (q := 999) (Int32.toInt_toInt64 _) (by decide) c2) my_X11_isIn ml_X11_174 st_X11_isIn rfl (by omega) (by omega) (by omega) rfl (Nat.le_of_ble_eq_true rfl) dX11_cut_26 ?_
      intro r9 S9 hp9
      obtain ⟨rfl, hS9⟩ := hp9
      obtain rfl := hS9.symm
      refine a_if_eq K dX11_cut_29 (tgt := 36) (by decide) (fun c_29 => ?_) (fun c_29 => absurd c_29 (fun z => z rfl))
      refine a_iconst K dX11_cut_36 (v := 0) (by decide) ?_
      refine a_invV K (q_stp0 (v := nI 0) h hv) my_X11_stops ml_X11_393 im_X11_stops se_X11_stops (ci := 11) (by exact lm_o hM) (by decide) ⟨_, _, rfl⟩ rfl (by omega) (by omega) (by omega) rfl (Nat.le_of_ble_eq_true rfl) dX11_cut_37 ?_
      intro r9 S9 hp9
      obtain ⟨rfl, hS9⟩ := hp9
      obtain rfl := hS9.symm
      refine a_istore K dX11_cut_40 (by decide) ?_
      refine a_iload K dX11_cut_42 rfl ?_
      refine a_iconst K dX11_cut_44 (v := -1) (by decide) ?_
      refine a_icmp_eq K dX11_cut_45 (tgt := 55) (by decide) (fun c_45 => absurd c_45 (by decide)) (fun c_45 => ?_)
      first | refine a_aload_n K dX11_cut_48 rfl ?_ | refine a_aload_nN K dX11_cut_48 rfl ?_
      refine a_iload K dX11_cut_49 rfl ?_
      refine a_invV K (q_refP h (k := 0) (by decide)) my_X11_refused ml_X11_292 im_X11_refused se_X11_refused (ci := 11) (by exact lm_o hM) (by decide) ⟨_, _, rfl⟩ rfl (by omega) (by omega) (by omega) rfl (Nat.le_of_ble_eq_true rfl) dX11_cut_51 ?_
      intro r9 S9 hp9
      obtain ⟨rfl, hR, qR⟩ := hp9
      exact a_iret K EE rfl (by omega) (by omega) dX11_cut_54 ⟨ρ, Z, by rw [hE], by rw [hE]; exact hR.up (Nat.le_succ mb) (by omega), mQ_tr q0 qR⟩
    · have hE : bld P i (rngR a c) (cutF P a c) = (-1, refP P 1) := bld_1 hA hno
      first | refine a_aload_n K dX11_cut_0 rfl ?_ | refine a_aload_nN K dX11_cut_0 rfl ?_
      refine a_iconst K dX11_cut_1 (v := 0) (by decide) ?_
      refine a_putI K fd_X11_116 (by exact lm_o hM) rfl dX11_cut_2 ?_
      have f0 : frM S (wI S 704 (m 33) 0) m [] [704] := frM_wI (by decide) (by decide)
      obtain ⟨T, hT⟩ : ∃ T, T = wI S 704 (m 33) 0 := ⟨_, rfl⟩
      rw [← hT] at f0 ⊢
      obtain ⟨h, q0⟩ := h0.scr hP f0 (by decide) (by decide)
      have hM := h.1
      first | refine a_aload_n K dX11_cut_5 rfl ?_ | refine a_aload_nN K dX11_cut_5 rfl ?_
      refine a_iload_n K dX11_cut_6 rfl ?_
      refine a_iload_n K dX11_cut_7 rfl ?_
      refine a_i2l K dX11_cut_8 ?_
      refine a_lconst K dX11_cut_9 (v := 0) (by decide) ?_
      refine a_ldc2 K kc_X11_335 dX11_cut_10 ?_
      refine a_invS K (q_inY (p := 0) (q := 999) (by decide) (by decide) c1) my_X11_isIn ml_X11_174 st_X11_isIn rfl (by omega) (by omega) (by omega) rfl (Nat.le_of_ble_eq_true rfl) dX11_cut_13 ?_
      intro r9 S9 hp9
      obtain ⟨rfl, hS9⟩ := hp9
      obtain rfl := hS9.symm
      refine a_if_eq K dX11_cut_16 (tgt := 36) (by decide) (fun c_16 => absurd c_16 (by decide)) (fun c_16 => ?_)
      refine a_iload_n K dX11_cut_19 rfl ?_
      refine a_i2l K dX11_cut_20 ?_
      refine a_iload_n K dX11_cut_21 rfl ?_
      refine a_i2l K dX11_cut_22 ?_
      refine a_ldc2 K kc_X11_335 dX11_cut_23 ?_
      refine a_invS K (q_inN (p := a.toInt) (q := 999) (Int32.toInt_toInt64 _) (by decide) c2) my_X11_isIn ml_X11_174 st_X11_isIn rfl (by omega) (by omega) (by omega) rfl (Nat.le_of_ble_eq_true rfl) dX11_cut_26 ?_
      intro r9 S9 hp9
      obtain ⟨rfl, hS9⟩ := hp9
      obtain rfl := hS9.symm
      refine a_if_eq K dX11_cut_29 (tgt := 36) (by decide) (fun c_29 => ?_) (fun c_29 => absurd c_29 (fun z => z rfl))
      refine a_iconst K dX11_cut_36 (v := 0) (by decide) ?_
      refine a_invV K (q_stp0 (v := nI 1) h hv) my_X11_stops ml_X11_393 im_X11_stops se_X11_stops (ci := 11) (by exact lm_o hM) (by decide) ⟨_, _, rfl⟩ rfl (by omega) (by omega) (by omega) rfl (Nat.le_of_ble_eq_true rfl) dX11_cut_37 ?_
      intro r9 S9 hp9
      obtain ⟨rfl, hS9⟩ := hp9
      obtain rfl := hS9.symm
      refine a_istore K dX11_cut_40 (by decide) ?_
      refine a_iload K dX11_cut_42 rfl ?_
      refine a_iconst K dX11_cut_44 (v := -1) (by decide) ?_
      refine a_icmp_eq K dX11_cut_45 (tgt := 55) (by decide) (fun c_45 => absurd c_45 (by decide)) (fun c_45 => ?_)
      first | refine a_aload_n K dX11_cut_48 rfl ?_ | refine a_aload_nN K dX11_cut_48 rfl ?_
      refine a_iload K dX11_cut_49 rfl ?_
      refine a_invV K (q_refP h (k := 1) (by decide)) my_X11_refused ml_X11_292 im_X11_refused se_X11_refused (ci := 11) (by exact lm_o hM) (by decide) ⟨_, _, rfl⟩ rfl (by omega) (by omega) (by omega) rfl (Nat.le_of_ble_eq_true rfl) dX11_cut_51 ?_
      intro r9 S9 hp9
      obtain ⟨rfl, hR, qR⟩ := hp9
      exact a_iret K EE rfl (by omega) (by omega) dX11_cut_54 ⟨ρ, Z, by rw [hE], by rw [hE]; exact hR.up (Nat.le_succ mb) (by omega), mQ_tr q0 qR⟩
    · exact absurd hob (by decide)
    · exact absurd hob (by decide)
  have c2 := Classical.not_not.mp c2
  have hok : rngR a c := ⟨⟨c1.1, by omega⟩, ⟨by omega, by omega⟩, c2.1⟩
  rcases stp_cs (P := P) (i := i) (ok := true) with ⟨hA, hv⟩ | ⟨j, hA, hob, hv⟩ | ⟨j, hA, hob, hb, hv⟩ | ⟨j, b, hA, hob, hb, hv⟩
  · have hE : bld P i (rngR a c) (cutF P a c) = (-1, refP P 0) := bld_0 hA
    first | refine a_aload_n K dX11_cut_0 rfl ?_ | refine a_aload_nN K dX11_cut_0 rfl ?_
    refine a_iconst K dX11_cut_1 (v := 0) (by decide) ?_
    refine a_putI K fd_X11_116 (by exact lm_o hM) rfl dX11_cut_2 ?_
    have f0 : frM S (wI S 704 (m 33) 0) m [] [704] := frM_wI (by decide) (by decide)
    obtain ⟨T, hT⟩ : ∃ T, T = wI S 704 (m 33) 0 := ⟨_, rfl⟩
    rw [← hT] at f0 ⊢
    obtain ⟨h, q0⟩ := h0.scr hP f0 (by decide) (by decide)
    have hM := h.1
    first | refine a_aload_n K dX11_cut_5 rfl ?_ | refine a_aload_nN K dX11_cut_5 rfl ?_
    refine a_iload_n K dX11_cut_6 rfl ?_
    refine a_iload_n K dX11_cut_7 rfl ?_
    refine a_i2l K dX11_cut_8 ?_
    refine a_lconst K dX11_cut_9 (v := 0) (by decide) ?_
    refine a_ldc2 K kc_X11_335 dX11_cut_10 ?_
    refine a_invS K (q_inY (p := 0) (q := 999) (by decide) (by decide) c1) my_X11_isIn ml_X11_174 st_X11_isIn rfl (by omega) (by omega) (by omega) rfl (Nat.le_of_ble_eq_true rfl) dX11_cut_13 ?_
    intro r9 S9 hp9
    obtain ⟨rfl, hS9⟩ := hp9
    obtain rfl := hS9.symm
    refine a_if_eq K dX11_cut_16 (tgt := 36) (by decide) (fun c_16 => absurd c_16 (by decide)) (fun c_16 => ?_)
    refine a_iload_n K dX11_cut_19 rfl ?_
    refine a_i2l K dX11_cut_20 ?_
    refine a_iload_n K dX11_cut_21 rfl ?_
    refine a_i2l K dX11_cut_22 ?_
    refine a_ldc2 K kc_X11_335 dX11_cut_23 ?_
    refine a_invS K (q_inY (p := a.toInt) (q := 999) (Int32.toInt_toInt64 _) (by decide) c2) my_X11_isIn ml_X11_174 st_X11_isIn rfl (by omega) (by omega) (by omega) rfl (Nat.le_of_ble_eq_true rfl) dX11_cut_26 ?_
    intro r9 S9 hp9
    obtain ⟨rfl, hS9⟩ := hp9
    obtain rfl := hS9.symm
    refine a_if_eq K dX11_cut_29 (tgt := 36) (by decide) (fun c_29 => absurd c_29 (by decide)) (fun c_29 => ?_)
    refine a_iconst K dX11_cut_32 (v := 1) (by decide) ?_
    refine a_goto K dX11_cut_33 (tgt := 37) (by decide) ?_
    refine a_invV K (q_stp1 (v := nI 0) h hv) my_X11_stops ml_X11_393 im_X11_stops se_X11_stops (ci := 11) (by exact lm_o hM) (by decide) ⟨_, _, rfl⟩ rfl (by omega) (by omega) (by omega) rfl (Nat.le_of_ble_eq_true rfl) dX11_cut_37 ?_
    intro r9 S9 hp9
    obtain ⟨rfl, hS9⟩ := hp9
    obtain rfl := hS9.symm
    refine a_istore K dX11_cut_40 (by decide) ?_
    refine a_iload K dX11_cut_42 rfl ?_
    refine a_iconst K dX11_cut_44 (v := -1) (by decide) ?_
    refine a_icmp_eq K dX11_cut_45 (tgt := 55) (by decide) (fun c_45 => absurd c_45 (by decide)) (fun c_45 => ?_)
    first | refine a_aload_n K dX11_cut_48 rfl ?_ | refine a_aload_nN K dX11_cut_48 rfl ?_
    refine a_iload K dX11_cut_49 rfl ?_
    refine a_invV K (q_refP h (k := 0) (by decide)) my_X11_refused ml_X11_292 im_X11_refused se_X11_refused (ci := 11) (by exact lm_o hM) (by decide) ⟨_, _, rfl⟩ rfl (by omega) (by omega) (by omega) rfl (Nat.le_of_ble_eq_true rfl) dX11_cut_51 ?_
    intro r9 S9 hp9
    obtain ⟨rfl, hR, qR⟩ := hp9
    exact a_iret K EE rfl (by omega) (by omega) dX11_cut_54 ⟨ρ, Z, by rw [hE], by rw [hE]; exact hR.up (Nat.le_succ mb) (by omega), mQ_tr q0 qR⟩
  · exact absurd hob (by decide)
  · have hE : bld P i (rngR a c) (cutF P a c) = (-1, refP P 2) := bld_2 hA hok hb
    first | refine a_aload_n K dX11_cut_0 rfl ?_ | refine a_aload_nN K dX11_cut_0 rfl ?_
    refine a_iconst K dX11_cut_1 (v := 0) (by decide) ?_
    refine a_putI K fd_X11_116 (by exact lm_o hM) rfl dX11_cut_2 ?_
    have f0 : frM S (wI S 704 (m 33) 0) m [] [704] := frM_wI (by decide) (by decide)
    obtain ⟨T, hT⟩ : ∃ T, T = wI S 704 (m 33) 0 := ⟨_, rfl⟩
    rw [← hT] at f0 ⊢
    obtain ⟨h, q0⟩ := h0.scr hP f0 (by decide) (by decide)
    have hM := h.1
    first | refine a_aload_n K dX11_cut_5 rfl ?_ | refine a_aload_nN K dX11_cut_5 rfl ?_
    refine a_iload_n K dX11_cut_6 rfl ?_
    refine a_iload_n K dX11_cut_7 rfl ?_
    refine a_i2l K dX11_cut_8 ?_
    refine a_lconst K dX11_cut_9 (v := 0) (by decide) ?_
    refine a_ldc2 K kc_X11_335 dX11_cut_10 ?_
    refine a_invS K (q_inY (p := 0) (q := 999) (by decide) (by decide) c1) my_X11_isIn ml_X11_174 st_X11_isIn rfl (by omega) (by omega) (by omega) rfl (Nat.le_of_ble_eq_true rfl) dX11_cut_13 ?_
    intro r9 S9 hp9
    obtain ⟨rfl, hS9⟩ := hp9
    obtain rfl := hS9.symm
    refine a_if_eq K dX11_cut_16 (tgt := 36) (by decide) (fun c_16 => absurd c_16 (by decide)) (fun c_16 => ?_)
    refine a_iload_n K dX11_cut_19 rfl ?_
    refine a_i2l K dX11_cut_20 ?_
    refine a_iload_n K dX11_cut_21 rfl ?_
    refine a_i2l K dX11_cut_22 ?_
    refine a_ldc2 K kc_X11_335 dX11_cut_23 ?_
    refine a_invS K (q_inY (p := a.toInt) (q := 999) (Int32.toInt_toInt64 _) (by decide) c2) my_X11_isIn ml_X11_174 st_X11_isIn rfl (by omega) (by omega) (by omega) rfl (Nat.le_of_ble_eq_true rfl) dX11_cut_26 ?_
    intro r9 S9 hp9
    obtain ⟨rfl, hS9⟩ := hp9
    obtain rfl := hS9.symm
    refine a_if_eq K dX11_cut_29 (tgt := 36) (by decide) (fun c_29 => absurd c_29 (by decide)) (fun c_29 => ?_)
    refine a_iconst K dX11_cut_32 (v := 1) (by decide) ?_
    refine a_goto K dX11_cut_33 (tgt := 37) (by decide) ?_
    refine a_invV K (q_stp1 (v := nI 2) h hv) my_X11_stops ml_X11_393 im_X11_stops se_X11_stops (ci := 11) (by exact lm_o hM) (by decide) ⟨_, _, rfl⟩ rfl (by omega) (by omega) (by omega) rfl (Nat.le_of_ble_eq_true rfl) dX11_cut_37 ?_
    intro r9 S9 hp9
    obtain ⟨rfl, hS9⟩ := hp9
    obtain rfl := hS9.symm
    refine a_istore K dX11_cut_40 (by decide) ?_
    refine a_iload K dX11_cut_42 rfl ?_
    refine a_iconst K dX11_cut_44 (v := -1) (by decide) ?_
    refine a_icmp_eq K dX11_cut_45 (tgt := 55) (by decide) (fun c_45 => absurd c_45 (by decide)) (fun c_45 => ?_)
    first | refine a_aload_n K dX11_cut_48 rfl ?_ | refine a_aload_nN K dX11_cut_48 rfl ?_
    refine a_iload K dX11_cut_49 rfl ?_
    refine a_invV K (q_refP h (k := 2) (by decide)) my_X11_refused ml_X11_292 im_X11_refused se_X11_refused (ci := 11) (by exact lm_o hM) (by decide) ⟨_, _, rfl⟩ rfl (by omega) (by omega) (by omega) rfl (Nat.le_of_ble_eq_true rfl) dX11_cut_51 ?_
    intro r9 S9 hp9
    obtain ⟨rfl, hR, qR⟩ := hp9
    exact a_iret K EE rfl (by omega) (by omega) dX11_cut_54 ⟨ρ, Z, by rw [hE], by rw [hE]; exact hR.up (Nat.le_succ mb) (by omega), mQ_tr q0 qR⟩
  · obtain ⟨rfl, hj4⟩ := bAt_some hA
    have hbl := bui_live hj4 hb
    have tz := hP.tz hbl
    have h4z := tz.h4 hw3
    have hE : bld P (nI j) (rngR a c) (cutF P a c) = (nI ((cutE (pW P) b.2.1 a c (ent b.1.1 b.1.2) (b.1, pU P)).2 - pU P), setT P j (cutE (pW P) b.2.1 a c (ent b.1.1 b.1.2) (b.1, pU P)) b.2.1 b.2.2) := bld_9 hA hok hb
    first | refine a_aload_n K dX11_cut_0 rfl ?_ | refine a_aload_nN K dX11_cut_0 rfl ?_
    refine a_iconst K dX11_cut_1 (v := 0) (by decide) ?_
    refine a_putI K fd_X11_116 (by exact lm_o hM) rfl dX11_cut_2 ?_
    have f0 : frM S (wI S 704 (m 33) 0) m [] [704] := frM_wI (by decide) (by decide)
    obtain ⟨T, hT⟩ : ∃ T, T = wI S 704 (m 33) 0 := ⟨_, rfl⟩
    rw [← hT] at f0 ⊢
    obtain ⟨h, q0⟩ := h0.scr hP f0 (by decide) (by decide)
    have hM := h.1
    first | refine a_aload_n K dX11_cut_5 rfl ?_ | refine a_aload_nN K dX11_cut_5 rfl ?_
    refine a_iload_n K dX11_cut_6 rfl ?_
    refine a_iload_n K dX11_cut_7 rfl ?_
    refine a_i2l K dX11_cut_8 ?_
    refine a_lconst K dX11_cut_9 (v := 0) (by decide) ?_
    refine a_ldc2 K kc_X11_335 dX11_cut_10 ?_
    refine a_invS K (q_inY (p := 0) (q := 999) (by decide) (by decide) c1) my_X11_isIn ml_X11_174 st_X11_isIn rfl (by omega) (by omega) (by omega) rfl (Nat.le_of_ble_eq_true rfl) dX11_cut_13 ?_
    intro r9 S9 hp9
    obtain ⟨rfl, hS9⟩ := hp9
    obtain rfl := hS9.symm
    refine a_if_eq K dX11_cut_16 (tgt := 36) (by decide) (fun c_16 => absurd c_16 (by decide)) (fun c_16 => ?_)
    refine a_iload_n K dX11_cut_19 rfl ?_
    refine a_i2l K dX11_cut_20 ?_
    refine a_iload_n K dX11_cut_21 rfl ?_
    refine a_i2l K dX11_cut_22 ?_
    refine a_ldc2 K kc_X11_335 dX11_cut_23 ?_
    refine a_invS K (q_inY (p := a.toInt) (q := 999) (Int32.toInt_toInt64 _) (by decide) c2) my_X11_isIn ml_X11_174 st_X11_isIn rfl (by omega) (by omega) (by omega) rfl (Nat.le_of_ble_eq_true rfl) dX11_cut_26 ?_
    intro r9 S9 hp9
    obtain ⟨rfl, hS9⟩ := hp9
    obtain rfl := hS9.symm
    refine a_if_eq K dX11_cut_29 (tgt := 36) (by decide) (fun c_29 => absurd c_29 (by decide)) (fun c_29 => ?_)
    refine a_iconst K dX11_cut_32 (v := 1) (by decide) ?_
    refine a_goto K dX11_cut_33 (tgt := 37) (by decide) ?_
    refine a_invV K (q_stp1 (v := -1) h hv) my_X11_stops ml_X11_393 im_X11_stops se_X11_stops (ci := 11) (by exact lm_o hM) (by decide) ⟨_, _, rfl⟩ rfl (by omega) (by omega) (by omega) rfl (Nat.le_of_ble_eq_true rfl) dX11_cut_37 ?_
    intro r9 S9 hp9
    obtain ⟨rfl, hS9⟩ := hp9
    obtain rfl := hS9.symm
    refine a_istore K dX11_cut_40 (by decide) ?_
    refine a_iload K dX11_cut_42 rfl ?_
    refine a_iconst K dX11_cut_44 (v := -1) (by decide) ?_
    refine a_icmp_eq K dX11_cut_45 (tgt := 55) (by decide) (fun c_45 => ?_) (fun c_45 => absurd c_45 (fun z => z rfl))
    first | refine a_aload_n K dX11_cut_55 rfl ?_ | refine a_aload_nN K dX11_cut_55 rfl ?_
    refine a_invV K (q_swF h hJ hmb) my_X11_sweeps ml_X11_278 im_X11_sweeps se_X11_sweeps (ci := 11) (by exact lm_o hM) (by decide) ⟨_, _, rfl⟩ rfl (by omega) (by omega) (by omega) rfl (Nat.le_of_ble_eq_true rfl) dX11_cut_56 ?_
    intro r9 S1 hp9
    obtain ⟨rfl, Z1, h1, hrm1, f1⟩ := hp9
    have q1 : frS T S1 (mQ m) := f1.mq (by decide)
    have hM := h1.1
    first | refine a_aload_n K dX11_cut_59 rfl ?_ | refine a_aload_nN K dX11_cut_59 rfl ?_
    refine a_getI K fd_X11_190 (by exact lm_o hM) (Or.inl rfl) dX11_cut_60 ?_
    rw [h1.N.2.2.2.2]
    refine a_istore K dX11_cut_63 (by decide) ?_
    first | refine a_aload_n K dX11_cut_65 rfl ?_ | refine a_aload_nN K dX11_cut_65 rfl ?_
    refine a_getRs K fd_X11_76 (by exact lm_o hM) (Or.inr ⟨_, rfl⟩) (by exact lm_r739 hM) dX11_cut_66 ?_
    refine a_iload_n K dX11_cut_69 rfl ?_
    first | refine a_aload_n K dX11_cut_70 rfl ?_ | refine a_aload_nN K dX11_cut_70 rfl ?_
    first | refine a_aload_n K dX11_cut_71 rfl ?_ | refine a_aload_nN K dX11_cut_71 rfl ?_
    refine a_getRs K fd_X11_76 (by exact lm_o hM) (Or.inr ⟨_, rfl⟩) (by exact lm_r739 hM) dX11_cut_72 ?_
    refine a_iload_n K dX11_cut_75 rfl ?_
    refine a_iald K (by exact lm_kk hM (by decide) (by decide)) (by show vp_in _ (sN S1 (m 20)); exact lm_ix (z := 4) hM (by decide) (by decide) (show j < 4 by omega) (by decide)) dX11_cut_76 ?_
    rw [nI_clamp (by omega)]
    rw [(h1.bro hj4 hb).1]
    refine a_iload_n K dX11_cut_77 rfl ?_
    refine a_iload_n K dX11_cut_78 rfl ?_
    refine a_iconst K dX11_cut_79 (v := 1) (by decide) ?_
    first | refine a_aload_n K dX11_cut_80 rfl ?_ | refine a_aload_nN K dX11_cut_80 rfl ?_
    refine a_getRs K fd_X11_79 (by exact lm_o hM) (Or.inr ⟨_, rfl⟩) (by exact lm_r740 hM) dX11_cut_81 ?_
    refine a_iload_n K dX11_cut_84 rfl ?_
    refine a_iald K (by exact lm_kk hM (by decide) (by decide)) (by show vp_in _ (sN S1 (m 21)); exact lm_ix (z := 4) hM (by decide) (by decide) (show j < 4 by omega) (by decide)) dX11_cut_85 ?_
    rw [nI_clamp (by omega)]
    rw [(h1.bro hj4 hb).2.1]
    refine a_invV K (q_cuts (bt := true) (tk := b.2.1) (tk9 := pTk P) (w := pW P) (u := pU P) h1.1 h1.wid hw3 hw6 (h1.rep hbl) tz h1.N.1 h1.N.2.1 h1.N.2.2.1 (live_in hbl) (hP.2.2.1 j b hb).2.2.1 (by have h6 := hP.2.2.2; omega) (by omega)) my_X11_cuts ml_X11_377 im_X11_cuts se_X11_cuts (ci := 11) (by exact lm_o hM) (by decide) ⟨_, _, rfl⟩ rfl (by omega) (by omega) (by omega) rfl (Nat.le_of_ble_eq_true rfl) dX11_cut_86 ?_
    intro r9 W2 hp9
    obtain ⟨ρ3, Z3, W1, rfl, f4, ts3⟩ := hp9
    obtain ⟨h4, q4⟩ := h1.scr hP f4 (by decide) (by decide)
    rw [← cutE_tk] at ts3 ⊢
    obtain ⟨hF, qF⟩ := RM_bset h4 hP hb hj4 ts3
    have hM := ts3.1.lay h4.1
    refine a_iast K (by exact lm_kk hM (by decide) (by decide)) (by show vp_in _ (sN W2 (m 20)); exact lm_ix (z := 4) hM (by decide) (by decide) (show j < 4 by omega) (by decide)) dX11_cut_89 ?_
    rw [nI_clamp (by omega)]
    have hM := hF.1
    first | refine a_aload_n K dX11_cut_90 rfl ?_ | refine a_aload_nN K dX11_cut_90 rfl ?_
    refine a_getI K fd_X11_190 (by exact lm_o hM) (Or.inl rfl) dX11_cut_91 ?_
    rw [hF.N.2.2.2.2]
    refine a_iload K dX11_cut_94 rfl ?_
    refine a_isub K dX11_cut_96 ?_
    rw [show pMd (setT P j (cutE (pW P) b.2.1 a c (ent b.1.1 b.1.2) (b.1, pU P)) b.2.1 b.2.2) = pMd P + nI ((cutE (pW P) b.2.1 a c (ent b.1.1 b.1.2) (b.1, pU P)).2 - pU P) from rfl, md_sub]
    exact a_iret K EE rfl (by omega) (by omega) dX11_cut_97 ⟨ρ3, Z3, by rw [hE], by rw [hE]; exact hF, mQ_tr q0 (mQ_tr q1 (mQ_tr q4 qF))⟩
