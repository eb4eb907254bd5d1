/-! the model: digest, show -/
theorem nar6 : ∀ k, k < 128 → vp_nar .byte (nI k) = nI k := by decide +kernel
/-- what was shown last has changed -/
theorem RM_shw {S S2 : aw_S} {m ρ : Nat → Nat} {Z : List Nat × Nat} {mb : Nat} {P : PS} {B : List Nat} (h : RM S m ρ Z mb P) (f : frM S S2 m [30, 31] [757, 758]) (e758 : sI S2 758 (m 33) = nI B.length) (hl : B.length ≤ 1400) (h31 : ∀ i b, B[i]? = some b → sA S2 (m 31) i = nI b) : RM S2 m ρ Z mb (setS P B) ∧ frS S S2 (mQ m) := by
  obtain ⟨h1, h2, h3, h4, h5, h6, h7, h8⟩ := h
  obtain ⟨a1, a2, a3, a4, a5, a6, a7, a8, a9, a10⟩ := h2
  refine ⟨⟨f.lay h1, ⟨a1.fr h1 f (by decide) (by decide) (by decide), (f.2 713 (by decide)).trans a2, (f.2 723 (by decide)).trans a3, (f.2 725 (by decide)).trans a4, (f.2 745 (by decide)).trans a5, (f.2 746 (by decide)).trans a6, (f.2 747 (by decide)).trans a7, (f.2 748 (by decide)).trans a8, e758, hl⟩, h3.fr (P := P) h1 f (by decide) (by decide) (by decide) (by decide), h4.fr (P := P) h1 f (by decide) (by decide) (by decide) (by decide), ⟨fun k hk => ?_, fun i hi => ?_, fun i hi => ?_, h31⟩, h6.fr (P := P) h1 f (by decide) (by decide) (by decide), (h7.fr h1 f (by decide) (by decide) (by decide) (by decide) (by decide) (by decide) (by decide) (by decide) (by decide) (by decide)).sub (fun z hz => hz) rfl rfl, h8.fr h1 f (by decide) (by decide) (by decide)⟩, f.mq (by decide)⟩
  · rw [f.A h1 (by decide) (by decide) (by decide)]
    exact h5.1 k hk
  · rw [f.A h1 (by decide) (by decide) (by decide)]
    exact h5.2.1 i hi
  · rw [f.A h1 (by decide) (by decide) (by decide)]
    exact h5.2.2.1 i hi
set_option maxHeartbeats 4000000 in
set_option maxRecDepth 100000 in
theorem q_laysShown {S : aw_S} {m ρ : Nat → Nat} {Z : List Nat × Nat} {mb : Nat} {P : PS} (h : RM S m ρ Z mb P) (hP : PI P) {jm : Nat} {z : Tz} (hjm : jm < 999) (hz : rootP P (nI jm) = some z) : aw_M yX11_laysShown cX11_laysShown 2 (none : Option FieldType) 7 0 0 [.ref (m 33), .int (nI jm)] S (fun r S2 => r = none ∧ TxM S2 m (txt z.1 z.2) ∧ frM S S2 m [30] [757]) := by
  have hM := h.1
  have tz := hP.tz (rootP_live hz)
  have h4z := tz.h4 hP.1.1
  have e60z := tz.2.2.1
  have htl := txt_len z.1 z.2 tz.2.1
  refine aw_enter (by decide +kernel) (Nat.le_of_ble_eq_true rfl) (fun g K EE => ?_)
  first | refine a_aload_n K dX11_laysShown_0 rfl ?_ | refine a_aload_nN K dX11_laysShown_0 rfl ?_
  refine a_iconst K dX11_laysShown_1 (v := 0) (by decide) ?_
  refine a_putI K fd_X11_435 (by exact lm_o hM) rfl dX11_laysShown_2 ?_
  have fU : frM S (wI S 757 (m 33) 0) m [30] [757] := frM_wI (by decide) (by decide)
  obtain ⟨U, hU⟩ : ∃ U, U = wI S 757 (m 33) 0 := ⟨_, rfl⟩
  have hT0 : TxM U m [] := ⟨by rw [hU]; exact wI_at, Nat.zero_le _, fun i b hb => absurd hb (by simp)⟩
  rw [← hU] at fU ⊢
  have hM := fU.lay h.1
  first | refine a_aload_n K dX11_laysShown_5 rfl ?_ | refine a_aload_nN K dX11_laysShown_5 rfl ?_
  first | refine a_aload_n K dX11_laysShown_6 rfl ?_ | refine a_aload_nN K dX11_laysShown_6 rfl ?_
  refine a_getRs K fd_X11_67 (by exact lm_o hM) (Or.inr ⟨_, rfl⟩) (by exact lm_r736 hM) dX11_laysShown_7 ?_
  refine a_iload_n K dX11_laysShown_10 rfl ?_
  refine a_iald K (by exact lm_kk hM (by decide) (by decide)) (by show vp_in _ (sN U (m 17)); exact lm_ix (z := 999) hM (by decide) (by decide) (show jm < 999 by omega) (by decide)) dX11_laysShown_11 ?_
  rw [nI_clamp (by omega)]
  rw [show sA U (m 17) jm = nI (ρ z.2.1) from (congrFun (fU.A h.1 (by decide) (by decide) (by decide)) jm).trans (h.root2 hz (by omega))]
  refine a_invV K (m_writesNode z.1 z.2 U [] hM (fU.rep h.1 (by decide) (by decide) (by decide) (by decide) (by decide) (by decide) (h.rep (rootP_live hz))) hT0 tz.2.1 (by rw [List.length_nil]; omega)) my_X11_writesNode ml_X11_444 im_X11_writesNode se_X11_writesNode (ci := 11) (by exact lm_o hM) (by decide) ⟨_, _, rfl⟩ rfl (by omega) (by omega) (by omega) rfl (Nat.le_of_ble_eq_true rfl) dX11_laysShown_12 ?_
  intro r9 V hp9
  obtain ⟨rfl, hT, fV⟩ := hp9
  exact a_vret K EE (by omega) (by omega) dX11_laysShown_15 ⟨rfl, hT, fU.tr fV⟩
set_option maxHeartbeats 4000000 in
set_option maxRecDepth 100000 in
theorem q_digest {S : aw_S} {m ρ : Nat → Nat} {Z : List Nat × Nat} {mb n9 : Nat} {P : PS} (h0 : RM S m ρ Z mb P) (hJ : PJ n9 P) {i : Int32} : aw_M yX11_digest cX11_digest 4 (some FieldType.int) 8 0 0 [.ref (m 33), .int i] S (fun r S2 => r = some (.int (aDigest P i)) ∧ RM S2 m ρ Z mb P ∧ frS S S2 (mQ m)) := by
  have hP := hJ.1
  have hw3 := hP.1.1
  have hM := h0.1
  have hl9 := hJ.ln
  refine aw_enter (by decide +kernel) (Nat.le_of_ble_eq_true rfl) (fun g K EE => ?_)
  cases hz : rootP P i with
  | none =>
    first | refine a_aload_n K dX11_digest_0 rfl ?_ | refine a_aload_nN K dX11_digest_0 rfl ?_
    refine a_iconst K dX11_digest_1 (v := 0) (by decide) ?_
    refine a_putI K fd_X11_116 (by exact lm_o hM) rfl dX11_digest_2 ?_
    have f0 : frM S (wI S 704 (m 33) 0) m [] [704] := frM_wI (by decide) (by decide)
    obtain ⟨T, hT⟩ : ∃ T, T = wI S 704 (m 33) 0 := ⟨_, rfl⟩
    rw [← hT] at f0 ⊢
    obtain ⟨h, q0⟩ := h0.scr hP f0 (by decide) (by decide)
    have hM := h.1
    first | refine a_aload_n K dX11_digest_5 rfl ?_ | refine a_aload_nN K dX11_digest_5 rfl ?_
    refine a_iload_n K dX11_digest_6 rfl ?_
    refine a_invV K (q_mapN h hl9 hz) my_X11_isMap ml_X11_309 im_X11_isMap se_X11_isMap (ci := 11) (by exact lm_o hM) (by decide) ⟨_, _, rfl⟩ rfl (by omega) (by omega) (by omega) rfl (Nat.le_of_ble_eq_true rfl) dX11_digest_7 ?_
    intro r9 S9 hp9
    obtain ⟨rfl, hS9⟩ := hp9
    obtain rfl := hS9.symm
    refine a_if_ne K dX11_digest_10 (tgt := 15) (by decide) (fun c_10 => absurd c_10 (fun q => q rfl)) (fun c_10 => ?_)
    refine a_iconst K dX11_digest_13 (v := -1) (by decide) ?_
    exact a_iret K EE rfl (by omega) (by omega) dX11_digest_14 ⟨by unfold aDigest; rw [hz], h, q0⟩
  | some z =>
    obtain ⟨jm, hijm, hjm, -⟩ := h0.root hz
    subst hijm
    have tz := hP.tz (rootP_live hz)
    have h4z := tz.h4 hw3
    have e60z := tz.2.2.1
    first | refine a_aload_n K dX11_digest_0 rfl ?_ | refine a_aload_nN K dX11_digest_0 rfl ?_
    refine a_iconst K dX11_digest_1 (v := 0) (by decide) ?_
    refine a_putI K fd_X11_116 (by exact lm_o hM) rfl dX11_digest_2 ?_
    have f0 : frM S (wI S 704 (m 33) 0) m [] [704] := frM_wI (by decide) (by decide)
    obtain ⟨T, hT⟩ : ∃ T, T = wI S 704 (m 33) 0 := ⟨_, rfl⟩
    rw [← hT] at f0 ⊢
    obtain ⟨h, q0⟩ := h0.scr hP f0 (by decide) (by decide)
    have hM := h.1
    first | refine a_aload_n K dX11_digest_5 rfl ?_ | refine a_aload_nN K dX11_digest_5 rfl ?_
    refine a_iload_n K dX11_digest_6 rfl ?_
    refine a_invV K (q_mapY h hl9 hz) my_X11_isMap ml_X11_309 im_X11_isMap se_X11_isMap (ci := 11) (by exact lm_o hM) (by decide) ⟨_, _, rfl⟩ rfl (by omega) (by omega) (by omega) rfl (Nat.le_of_ble_eq_true rfl) dX11_digest_7 ?_
    intro r9 S9 hp9
    obtain ⟨rfl, hS9⟩ := hp9
    obtain rfl := hS9.symm
    refine a_if_ne K dX11_digest_10 (tgt := 15) (by decide) (fun c_10 => ?_) (fun c_10 => absurd c_10 (by decide))
    first | refine a_aload_n K dX11_digest_15 rfl ?_ | refine a_aload_nN K dX11_digest_15 rfl ?_
    refine a_iload_n K dX11_digest_16 rfl ?_
    refine a_invV K (q_laysShown h hP (by omega) hz) my_X11_laysShown ml_X11_459 im_X11_laysShown se_X11_laysShown (ci := 11) (by exact lm_o hM) (by decide) ⟨_, _, rfl⟩ rfl (by omega) (by omega) (by omega) rfl (Nat.le_of_ble_eq_true rfl) dX11_digest_17 ?_
    intro r9 S9 hp9
    obtain ⟨rfl, hT, f9⟩ := hp9
    obtain ⟨h9, q9⟩ := h.scr hP f9 (by decide) (by decide)
    have hM := h9.1
    refine a_iconst K dX11_digest_20 (v := 0) (by decide) ?_
    refine a_istore_n K dX11_digest_21 (by decide) ?_
    refine a_iconst K dX11_digest_22 (v := 0) (by decide) ?_
    refine a_istore_n K dX11_digest_23 (by decide) ?_
    have h128 := txt_128 z.1 z.2
    obtain ⟨B, hB⟩ : ∃ B, txt z.1 z.2 = B := ⟨_, rfl⟩
    rw [hB] at hT h128
    have hBl := hT.2.1
    obtain ⟨R, hRR⟩ : ∃ R, dgs B 0 = R := ⟨_, rfl⟩
    have loop : ∀ (n i v : Nat) (x b : Int32), x = nI i → b = nI v → i + n = B.length → v < 1000003 → dgs (B.drop i) v = R → aw g 4 S9 0 0 [(3, .int x), (2, .int b), (0, .ref (m 33))] [] 24 := by
      intro n
      induction n with
      | zero =>
        intro i v x b hx hb hn hv hR
        subst hx
        subst hb
        refine a_iload_n K dX11_digest_24 rfl ?_
        first | refine a_aload_n K dX11_digest_25 rfl ?_ | refine a_aload_nN K dX11_digest_25 rfl ?_
        refine a_getI K fd_X11_435 (by exact lm_o hM) (Or.inl rfl) dX11_digest_26 ?_
        rw [hT.1]
        refine a_icmp_ge K dX11_digest_29 (tgt := 54) (by decide) (fun c_29 => ?_) (fun c_29 => absurd c_29 (fun q => q (nI_le (a := B.length) (b := i) (by omega) (by omega))))
        refine a_iload_n K dX11_digest_54 rfl ?_
        exact a_iret K EE rfl (by omega) (by omega) dX11_digest_55 ⟨by unfold aDigest; rw [hz]; show some (Value.int (nI v)) = some (Value.int (nI (dgs (txt z.1 z.2) 0))); rw [hB, hRR, ← hR, show i = B.length by omega, List.drop_length]; rfl, h9, mQ_tr q0 q9⟩
      | succ n ih =>
        intro i v x9 b hx9 hb hn hv hR
        subst hx9
        subst hb
        have hi : i < B.length := by omega
        have hx := List.getElem?_eq_getElem hi
        have hc9 := h128 _ (List.getElem_mem hi)
        rw [dgs_at hi] at hR
        generalize B[i] = c9 at hx hc9 hR
        refine a_iload_n K dX11_digest_24 rfl ?_
        first | refine a_aload_n K dX11_digest_25 rfl ?_ | refine a_aload_nN K dX11_digest_25 rfl ?_
        refine a_getI K fd_X11_435 (by exact lm_o hM) (Or.inl rfl) dX11_digest_26 ?_
        rw [hT.1]
        refine a_icmp_ge K dX11_digest_29 (tgt := 54) (by decide) (fun c_29 => absurd c_29 (nI_ge (a := i) (b := B.length) (by omega) (by omega))) (fun c_29 => ?_)
        refine a_bipush K dX11_digest_32 (v := 31) (by decide) ?_
        refine a_iload_n K dX11_digest_34 rfl ?_
        refine a_imul K dX11_digest_35 ?_
        rw [show (31 : Int32) * nI v = nI (31 * v) from (Int32.ofNat_mul 31 v).symm]
        first | refine a_aload_n K dX11_digest_36 rfl ?_ | refine a_aload_nN K dX11_digest_36 rfl ?_
        refine a_getRs K fd_X11_107 (by exact lm_o hM) (Or.inr ⟨_, rfl⟩) (by exact lm_r755 hM) dX11_digest_37 ?_
        refine a_iload_n K dX11_digest_40 rfl ?_
        refine a_bald K (by exact lm_kk hM (by decide) (by decide)) (by show vp_in _ (sN S9 (m 30)); exact lm_ix (z := 1400) hM (by decide) (by decide) (show i < 1400 by omega) (by decide)) dX11_digest_41 ?_
        rw [nI_clamp (by omega)]
        rw [hT.2.2 i _ hx]
        refine a_iadd K dX11_digest_42 ?_
        rw [nI_add]
        refine a_ldcw K kc_X11_465 dX11_digest_43 ?_
        refine a_irem K dX11_digest_46 (by decide) ?_
        rw [show (1000003 : Int32) = nI 1000003 from by decide, pk_rem (by omega) (by decide) (by decide)]
        refine a_istore_n K dX11_digest_47 (by decide) ?_
        refine a_iinc K dX11_digest_48 (v := 1) rfl (by decide) (by decide) ?_
        refine a_goto K dX11_digest_51 (tgt := 24) (by decide) ?_
        exact aw_locl rfl (ih (i + 1) _ _ _ (nI_1 i) rfl (by omega) (Nat.mod_lt _ (by decide)) (by rw [Nat.mul_comm 31 v]; exact hR))
    exact aw_locl rfl (loop B.length 0 0 _ _ nI_0.symm nI_0.symm (Nat.zero_add _) (by decide) hRR)
set_option maxHeartbeats 4000000 in
set_option maxRecDepth 100000 in
theorem q_show {S : aw_S} {m ρ : Nat → Nat} {Z : List Nat × Nat} {mb n9 : Nat} {P : PS} (h0 : RM S m ρ Z mb P) (hJ : PJ n9 P) (hmb : mb + 1 < 2147483000) {i : Int32} : aw_M yX11_show cX11_show 3 (some FieldType.int) 8 0 0 [.ref (m 33), .int i] S (fun r S2 => ∃ ρ2 Z2, r = some (.int (((aShow P i, nShow P i) : Int32 × PS)).1) ∧ RM S2 m ρ2 Z2 (mb + 1) (((aShow P i, nShow P i) : Int32 × PS)).2 ∧ frS S S2 (mQ m)) := by
  have hP := hJ.1
  have hw3 := hP.1.1
  have hM := h0.1
  have hl9 := hJ.ln
  have hw6 := hP.1.2
  have hpH := hJ.2.2.2.2.2.1.1
  have hc16 := hJ.2.2.2.2.2.1.2.1
  refine aw_enter (by decide +kernel) (Nat.le_of_ble_eq_true rfl) (fun g K EE => ?_)
  cases hz : rootP P i with
  | none =>
    first | refine a_aload_n K dX11_show_0 rfl ?_ | refine a_aload_nN K dX11_show_0 rfl ?_
    refine a_iconst K dX11_show_1 (v := 0) (by decide) ?_
    refine a_putI K fd_X11_116 (by exact lm_o hM) rfl dX11_show_2 ?_
    have f0 : frM S (wI S 704 (m 33) 0) m [] [704] := frM_wI (by decide) (by decide)
    obtain ⟨T, hT⟩ : ∃ T, T = wI S 704 (m 33) 0 := ⟨_, rfl⟩
    rw [← hT] at f0 ⊢
    obtain ⟨h, q0⟩ := h0.scr hP f0 (by decide) (by decide)
    have hM := h.1
    first | refine a_aload_n K dX11_show_5 rfl ?_ | refine a_aload_nN K dX11_show_5 rfl ?_
    refine a_iload_n K dX11_show_6 rfl ?_
    refine a_invV K (q_mapN h hl9 hz) my_X11_isMap ml_X11_309 im_X11_isMap se_X11_isMap (ci := 11) (by exact lm_o hM) (by decide) ⟨_, _, rfl⟩ rfl (by omega) (by omega) (by omega) rfl (Nat.le_of_ble_eq_true rfl) dX11_show_7 ?_
    intro r9 S9 hp9
    obtain ⟨rfl, hS9⟩ := hp9
    obtain rfl := hS9.symm
    refine a_if_ne K dX11_show_10 (tgt := 15) (by decide) (fun c_10 => absurd c_10 (fun q => q rfl)) (fun c_10 => ?_)
    refine a_iconst K dX11_show_13 (v := -1) (by decide) ?_
    exact a_iret K EE rfl (by omega) (by omega) dX11_show_14 ⟨ρ, Z, by unfold aShow; rw [hz], by unfold nShow; rw [hz]; exact h.up (Nat.le_succ mb) (by omega), q0⟩
  | some z =>
    obtain ⟨jm, hijm, hjm, -⟩ := h0.root hz
    subst hijm
    have tz := hP.tz (rootP_live hz)
    have h4z := tz.h4 hw3
    have e60z := tz.2.2.1
    first | refine a_aload_n K dX11_show_0 rfl ?_ | refine a_aload_nN K dX11_show_0 rfl ?_
    refine a_iconst K dX11_show_1 (v := 0) (by decide) ?_
    refine a_putI K fd_X11_116 (by exact lm_o hM) rfl dX11_show_2 ?_
    have f0 : frM S (wI S 704 (m 33) 0) m [] [704] := frM_wI (by decide) (by decide)
    obtain ⟨T, hT⟩ : ∃ T, T = wI S 704 (m 33) 0 := ⟨_, rfl⟩
    rw [← hT] at f0 ⊢
    obtain ⟨h, q0⟩ := h0.scr hP f0 (by decide) (by decide)
    have hM := h.1
    first | refine a_aload_n K dX11_show_5 rfl ?_ | refine a_aload_nN K dX11_show_5 rfl ?_
    refine a_iload_n K dX11_show_6 rfl ?_
    refine a_invV K (q_mapY h hl9 hz) my_X11_isMap ml_X11_309 im_X11_isMap se_X11_isMap (ci := 11) (by exact lm_o hM) (by decide) ⟨_, _, rfl⟩ rfl (by omega) (by omega) (by omega) rfl (Nat.le_of_ble_eq_true rfl) dX11_show_7 ?_
    intro r9 S9 hp9
    obtain ⟨rfl, hS9⟩ := hp9
    obtain rfl := hS9.symm
    refine a_if_ne K dX11_show_10 (tgt := 15) (by decide) (fun c_10 => ?_) (fun c_10 => absurd c_10 (by decide))
    first | refine a_aload_n K dX11_show_15 rfl ?_ | refine a_aload_nN K dX11_show_15 rfl ?_
    refine a_iload_n K dX11_show_16 rfl ?_
    refine a_invV K (q_laysShown h hP (by omega) hz) my_X11_laysShown ml_X11_459 im_X11_laysShown se_X11_laysShown (ci := 11) (by exact lm_o hM) (by decide) ⟨_, _, rfl⟩ rfl (by omega) (by omega) (by omega) rfl (Nat.le_of_ble_eq_true rfl) dX11_show_17 ?_
    intro r9 S9 hp9
    obtain ⟨rfl, hT, f9⟩ := hp9
    obtain ⟨h9, q9⟩ := h.scr hP f9 (by decide) (by decide)
    have hM := h9.1
    refine a_iconst K dX11_show_20 (v := 0) (by decide) ?_
    refine a_istore_n K dX11_show_21 (by decide) ?_
    have h128 := txt_128 z.1 z.2
    obtain ⟨B, hB⟩ : ∃ B, txt z.1 z.2 = B := ⟨_, rfl⟩
    rw [hB] at hT h128
    have hBl := hT.2.1
    have hM9 := hM
    have loop : ∀ (n i : Nat) (x : Int32) (V : aw_S), x = nI i → i + n = B.length → frM S9 V m [31] [] → (∀ k b, k < i → B[k]? = some b → sA V (m 31) k = nI b) → aw g 3 V 0 0 [(2, .int x), (0, .ref (m 33))] [] 22 := by
      intro n
      induction n with
      | zero =>
        intro i x V hx hn f hA
        subst hx
        have hM := f.lay hM9
        have f1 : frM T (wI V 758 (m 33) (nI B.length)) m [30, 31] [757, 758] := (((f9.up (by decide) (by decide)).tr (f.up (by decide) (by decide)))).tr (frM_wI (by decide) (by decide))
        obtain ⟨hF, qF⟩ := RM_shw (B := B) h f1 wI_at (by omega) (fun k b hk => by rw [sA_wI]; exact hA k b (by have := (List.getElem?_eq_some_iff.mp hk).1; omega) hk)
        refine a_iload_n K dX11_show_22 rfl ?_
        first | refine a_aload_n K dX11_show_23 rfl ?_ | refine a_aload_nN K dX11_show_23 rfl ?_
        refine a_getI K fd_X11_435 (by exact lm_o hM) (Or.inl rfl) dX11_show_24 ?_
        rw [show sI V 757 (m 33) = nI B.length from (f.2 757 (by decide)).trans hT.1]
        refine a_icmp_ge K dX11_show_27 (tgt := 48) (by decide) (fun c_27 => ?_) (fun c_27 => absurd c_27 (fun q => q (nI_le (a := B.length) (b := i) (by omega) (by omega))))
        first | refine a_aload_n K dX11_show_48 rfl ?_ | refine a_aload_nN K dX11_show_48 rfl ?_
        first | refine a_aload_n K dX11_show_49 rfl ?_ | refine a_aload_nN K dX11_show_49 rfl ?_
        refine a_getI K fd_X11_435 (by exact lm_o hM) (Or.inl rfl) dX11_show_50 ?_
        rw [show sI V 757 (m 33) = nI B.length from (f.2 757 (by decide)).trans hT.1]
        refine a_putI K fd_X11_462 (by exact lm_o hM) rfl dX11_show_53 ?_
        have hM := hF.1
        first | refine a_aload_n K dX11_show_56 rfl ?_ | refine a_aload_nN K dX11_show_56 rfl ?_
        refine a_getI K fd_X11_462 (by exact lm_o hM) (Or.inl rfl) dX11_show_57 ?_
        rw [wI_at]
        exact a_iret K EE rfl (by omega) (by omega) dX11_show_60 ⟨ρ, Z, by unfold aShow; rw [hz]; show some (Value.int (nI B.length)) = some (Value.int (nI (txt z.1 z.2).length)); rw [hB], by unfold nShow; rw [hz]; show RM _ m ρ Z (mb + 1) (setS P (txt z.1 z.2)); rw [hB]; exact hF.up (Nat.le_succ mb) (by omega), mQ_tr q0 qF⟩
      | succ n ih =>
        intro i x V hx9 hn f hA
        subst hx9
        have hM := f.lay hM9
        have hi : i < B.length := by omega
        have hx := List.getElem?_eq_getElem hi
        have hc9 := h128 _ (List.getElem_mem hi)
        generalize B[i] = c9 at hx hc9
        have e30 : sA V (m 30) = sA S9 (m 30) := f.A hM9 (by decide) (by decide) (by decide)
        refine a_iload_n K dX11_show_22 rfl ?_
        first | refine a_aload_n K dX11_show_23 rfl ?_ | refine a_aload_nN K dX11_show_23 rfl ?_
        refine a_getI K fd_X11_435 (by exact lm_o hM) (Or.inl rfl) dX11_show_24 ?_
        rw [show sI V 757 (m 33) = nI B.length from (f.2 757 (by decide)).trans hT.1]
        refine a_icmp_ge K dX11_show_27 (tgt := 48) (by decide) (fun c_27 => absurd c_27 (nI_ge (a := i) (b := B.length) (by omega) (by omega))) (fun c_27 => ?_)
        first | refine a_aload_n K dX11_show_30 rfl ?_ | refine a_aload_nN K dX11_show_30 rfl ?_
        refine a_getRs K fd_X11_110 (by exact lm_o hM) (Or.inr ⟨_, rfl⟩) (by exact lm_r756 hM) dX11_show_31 ?_
        refine a_iload_n K dX11_show_34 rfl ?_
        first | refine a_aload_n K dX11_show_35 rfl ?_ | refine a_aload_nN K dX11_show_35 rfl ?_
        refine a_getRs K fd_X11_107 (by exact lm_o hM) (Or.inr ⟨_, rfl⟩) (by exact lm_r755 hM) dX11_show_36 ?_
        refine a_iload_n K dX11_show_39 rfl ?_
        refine a_bald K (by exact lm_kk hM (by decide) (by decide)) (by show vp_in _ (sN V (m 30)); exact lm_ix (z := 1400) hM (by decide) (by decide) (show i < 1400 by omega) (by decide)) dX11_show_40 ?_
        rw [nI_clamp (by omega)]
        rw [e30, hT.2.2 i _ hx]
        refine a_bast K (by exact lm_kk hM (by decide) (by decide)) (by show vp_in _ (sN V (m 31)); exact lm_ix (z := 1400) hM (by decide) (by decide) (show i < 1400 by omega) (by decide)) dX11_show_41 ?_
        rw [nI_clamp (by omega)]
        rw [nar6 _ hc9]
        refine a_iinc K dX11_show_42 (v := 1) rfl (by decide) (by decide) ?_
        refine a_goto K dX11_show_45 (tgt := 22) (by decide) ?_
        exact aw_locl rfl (ih (i + 1) _ _ (nI_1 i) (by omega) (f.tr (frM_wA (by decide))) (fun k b hk hb => by
          rw [sA_wA]
          by_cases c : k = i
          · rw [if_pos ⟨rfl, c⟩]
            rw [c, hx] at hb
            rw [Option.some.inj hb]
          · rw [if_neg (fun z => c z.2)]
            exact hA k b (by omega) hb))
    exact aw_locl rfl (loop B.length 0 _ S9 nI_0.symm (Nat.zero_add _) frM.rf (fun k b hk => absurd hk (Nat.not_lt_zero k)))
