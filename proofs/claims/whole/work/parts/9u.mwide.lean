/-! the model: fed, made wide -/
theorem feed_a (L : List Int32) (a b c d e : Int32) : L ++ byL a 4 ++ byL b 4 ++ byL c 4 ++ byL d 4 ++ byL e 4 = L ++ feedL a b c d e := by
  unfold feedL
  simp only [List.append_assoc]
set_option maxHeartbeats 4000000 in
set_option maxRecDepth 100000 in
theorem q_feed {S : aw_S} {m ρ : Nat → Nat} {Z : List Nat × Nat} {mb n9 : Nat} {P : PS} (h0 : RM S m ρ Z mb P) (hJ : PJ n9 P) (hmb : mb + 1 < 2147483000) {a b c d e : Int32} : aw_M yX11_feed cX11_feed 6 (some FieldType.int) 3 0 0 [.ref (m 33), .int a, .int b, .int c, .int d, .int e] S (fun r S2 => ∃ ρ2 Z2, r = some (.int (feedF P a b c d e).1) ∧ RM S2 m ρ2 Z2 (mb + 1) (feedF P a b c d e).2 ∧ frS S S2 (mQ m)) := by
  have hP := hJ.1
  have hw3 := hP.1.1
  have hM := h0.1
  have hl9 := hJ.ln
  have hw6 := hP.1.2
  have hpH := hJ.2.2.2.2.2.1.1
  have hc16 := hJ.2.2.2.2.2.1.2.1
  refine aw_enter (by decide +kernel) (Nat.le_of_ble_eq_true rfl) (fun g K EE => ?_)
  have ht9 := h0.2.1.1.2.1
  have la := byL_len a 4
  have lb := byL_len b 4
  have lc := byL_len c 4
  have ld := byL_len d 4
  have le := byL_len e 4
  by_cases hc : (pT P).length + (byL a 4).length + (byL b 4).length + (byL c 4).length + (byL d 4).length + (byL e 4).length ≤ 240
  · have hc9 : (pT P).length + (feedL a b c d e).length ≤ 240 := by rw [feedL_len]; omega
    first | refine a_aload_n K dX11_feed_0 rfl ?_ | refine a_aload_nN K dX11_feed_0 rfl ?_
    refine a_iconst K dX11_feed_1 (v := 0) (by decide) ?_
    refine a_putI K fd_X11_116 (by exact lm_o hM) rfl dX11_feed_2 ?_
    have f0 : frM S (wI S 704 (m 33) 0) m [] [704] := frM_wI (by decide) (by decide)
    obtain ⟨T, hT⟩ : ∃ T, T = wI S 704 (m 33) 0 := ⟨_, rfl⟩
    rw [← hT] at f0 ⊢
    obtain ⟨h, q0⟩ := h0.scr hP f0 (by decide) (by decide)
    have hM := h.1
    first | refine a_aload_n K dX11_feed_5 rfl ?_ | refine a_aload_nN K dX11_feed_5 rfl ?_
    refine a_getI K fd_X11_119 (by exact lm_o hM) (Or.inl rfl) dX11_feed_6 ?_
    rw [h.2.1.1.1]
    refine a_iload_n K dX11_feed_9 rfl ?_
    refine a_invS K (q_bytesOf (w := a)) my_X11_bytesOf ml_X11_122 st_X11_bytesOf rfl (by omega) (by omega) (by omega) rfl (Nat.le_of_ble_eq_true rfl) dX11_feed_10 ?_
    intro r9 S9 hp9
    obtain ⟨rfl, hS9⟩ := hp9
    obtain rfl := hS9.symm
    refine a_iadd K dX11_feed_13 ?_
    rw [nI_add]
    refine a_iload_n K dX11_feed_14 rfl ?_
    refine a_invS K (q_bytesOf (w := b)) my_X11_bytesOf ml_X11_122 st_X11_bytesOf rfl (by omega) (by omega) (by omega) rfl (Nat.le_of_ble_eq_true rfl) dX11_feed_15 ?_
    intro r9 S9 hp9
    obtain ⟨rfl, hS9⟩ := hp9
    obtain rfl := hS9.symm
    refine a_iadd K dX11_feed_18 ?_
    rw [nI_add]
    refine a_iload_n K dX11_feed_19 rfl ?_
    refine a_invS K (q_bytesOf (w := c)) my_X11_bytesOf ml_X11_122 st_X11_bytesOf rfl (by omega) (by omega) (by omega) rfl (Nat.le_of_ble_eq_true rfl) dX11_feed_20 ?_
    intro r9 S9 hp9
    obtain ⟨rfl, hS9⟩ := hp9
    obtain rfl := hS9.symm
    refine a_iadd K dX11_feed_23 ?_
    rw [nI_add]
    refine a_iload K dX11_feed_24 rfl ?_
    refine a_invS K (q_bytesOf (w := d)) my_X11_bytesOf ml_X11_122 st_X11_bytesOf rfl (by omega) (by omega) (by omega) rfl (Nat.le_of_ble_eq_true rfl) dX11_feed_26 ?_
    intro r9 S9 hp9
    obtain ⟨rfl, hS9⟩ := hp9
    obtain rfl := hS9.symm
    refine a_iadd K dX11_feed_29 ?_
    rw [nI_add]
    refine a_iload K dX11_feed_30 rfl ?_
    refine a_invS K (q_bytesOf (w := e)) my_X11_bytesOf ml_X11_122 st_X11_bytesOf rfl (by omega) (by omega) (by omega) rfl (Nat.le_of_ble_eq_true rfl) dX11_feed_32 ?_
    intro r9 S9 hp9
    obtain ⟨rfl, hS9⟩ := hp9
    obtain rfl := hS9.symm
    refine a_iadd K dX11_feed_35 ?_
    rw [nI_add]
    refine a_sipush K dX11_feed_36 (v := 240) (by decide) ?_
    refine a_icmp_le K dX11_feed_39 (tgt := 44) (by decide) (fun c_39 => ?_) (fun c_39 => absurd c_39 (fun q => q (nI_le (b := 240) hc (by decide))))
    first | refine a_aload_n K dX11_feed_44 rfl ?_ | refine a_aload_nN K dX11_feed_44 rfl ?_
    refine a_iload_n K dX11_feed_45 rfl ?_
    refine a_invV K (q_brings hM h.2.1.1 (by first | omega | (simp only [List.length_append]; omega))) my_X11_brings ml_X11_126 im_X11_brings se_X11_brings (ci := 11) (by exact lm_o hM) (by decide) ⟨_, _, rfl⟩ rfl (by omega) (by omega) (by omega) rfl (Nat.le_of_ble_eq_true rfl) dX11_feed_46 ?_
    intro r9 V1 hp9
    obtain ⟨rfl, hT1, f1⟩ := hp9
    have hM := f1.lay hM
    first | refine a_aload_n K dX11_feed_49 rfl ?_ | refine a_aload_nN K dX11_feed_49 rfl ?_
    refine a_iload_n K dX11_feed_50 rfl ?_
    refine a_invV K (q_brings hM hT1 (by first | omega | (simp only [List.length_append]; omega))) my_X11_brings ml_X11_126 im_X11_brings se_X11_brings (ci := 11) (by exact lm_o hM) (by decide) ⟨_, _, rfl⟩ rfl (by omega) (by omega) (by omega) rfl (Nat.le_of_ble_eq_true rfl) dX11_feed_51 ?_
    intro r9 V2 hp9
    obtain ⟨rfl, hT2, f2⟩ := hp9
    have hM := f2.lay hM
    first | refine a_aload_n K dX11_feed_54 rfl ?_ | refine a_aload_nN K dX11_feed_54 rfl ?_
    refine a_iload_n K dX11_feed_55 rfl ?_
    refine a_invV K (q_brings hM hT2 (by first | omega | (simp only [List.length_append]; omega))) my_X11_brings ml_X11_126 im_X11_brings se_X11_brings (ci := 11) (by exact lm_o hM) (by decide) ⟨_, _, rfl⟩ rfl (by omega) (by omega) (by omega) rfl (Nat.le_of_ble_eq_true rfl) dX11_feed_56 ?_
    intro r9 V3 hp9
    obtain ⟨rfl, hT3, f3⟩ := hp9
    have hM := f3.lay hM
    first | refine a_aload_n K dX11_feed_59 rfl ?_ | refine a_aload_nN K dX11_feed_59 rfl ?_
    refine a_iload K dX11_feed_60 rfl ?_
    refine a_invV K (q_brings hM hT3 (by first | omega | (simp only [List.length_append]; omega))) my_X11_brings ml_X11_126 im_X11_brings se_X11_brings (ci := 11) (by exact lm_o hM) (by decide) ⟨_, _, rfl⟩ rfl (by omega) (by omega) (by omega) rfl (Nat.le_of_ble_eq_true rfl) dX11_feed_62 ?_
    intro r9 V4 hp9
    obtain ⟨rfl, hT4, f4⟩ := hp9
    have hM := f4.lay hM
    first | refine a_aload_n K dX11_feed_65 rfl ?_ | refine a_aload_nN K dX11_feed_65 rfl ?_
    refine a_iload K dX11_feed_66 rfl ?_
    refine a_invV K (q_brings hM hT4 (by first | omega | (simp only [List.length_append]; omega))) my_X11_brings ml_X11_126 im_X11_brings se_X11_brings (ci := 11) (by exact lm_o hM) (by decide) ⟨_, _, rfl⟩ rfl (by omega) (by omega) (by omega) rfl (Nat.le_of_ble_eq_true rfl) dX11_feed_68 ?_
    intro r9 V5 hp9
    obtain ⟨rfl, hT5, f5⟩ := hp9
    have hM := f5.lay hM
    rw [feed_a] at hT5
    obtain ⟨hF, qF⟩ := RM_tp h ((((f1.tr f2).tr f3).tr f4).tr f5) hT5
    first | refine a_aload_n K dX11_feed_71 rfl ?_ | refine a_aload_nN K dX11_feed_71 rfl ?_
    refine a_getI K fd_X11_119 (by exact lm_o hM) (Or.inl rfl) dX11_feed_72 ?_
    rw [hT5.1]
    exact a_iret K EE rfl (by omega) (by omega) dX11_feed_75 ⟨ρ, Z, by unfold feedF; rw [if_pos hc9, List.length_append], by unfold feedF; rw [if_pos hc9]; exact hF.up (Nat.le_succ mb) (by omega), mQ_tr q0 qF⟩
  · have hc9 : ¬ (pT P).length + (feedL a b c d e).length ≤ 240 := by rw [feedL_len]; omega
    first | refine a_aload_n K dX11_feed_0 rfl ?_ | refine a_aload_nN K dX11_feed_0 rfl ?_
    refine a_iconst K dX11_feed_1 (v := 0) (by decide) ?_
    refine a_putI K fd_X11_116 (by exact lm_o hM) rfl dX11_feed_2 ?_
    have f0 : frM S (wI S 704 (m 33) 0) m [] [704] := frM_wI (by decide) (by decide)
    obtain ⟨T, hT⟩ : ∃ T, T = wI S 704 (m 33) 0 := ⟨_, rfl⟩
    rw [← hT] at f0 ⊢
    obtain ⟨h, q0⟩ := h0.scr hP f0 (by decide) (by decide)
    have hM := h.1
    first | refine a_aload_n K dX11_feed_5 rfl ?_ | refine a_aload_nN K dX11_feed_5 rfl ?_
    refine a_getI K fd_X11_119 (by exact lm_o hM) (Or.inl rfl) dX11_feed_6 ?_
    rw [h.2.1.1.1]
    refine a_iload_n K dX11_feed_9 rfl ?_
    refine a_invS K (q_bytesOf (w := a)) my_X11_bytesOf ml_X11_122 st_X11_bytesOf rfl (by omega) (by omega) (by omega) rfl (Nat.le_of_ble_eq_true rfl) dX11_feed_10 ?_
    intro r9 S9 hp9
    obtain ⟨rfl, hS9⟩ := hp9
    obtain rfl := hS9.symm
    refine a_iadd K dX11_feed_13 ?_
    rw [nI_add]
    refine a_iload_n K dX11_feed_14 rfl ?_
    refine a_invS K (q_bytesOf (w := b)) my_X11_bytesOf ml_X11_122 st_X11_bytesOf rfl (by omega) (by omega) (by omega) rfl (Nat.le_of_ble_eq_true rfl) dX11_feed_15 ?_
    intro r9 S9 hp9
    obtain ⟨rfl, hS9⟩ := hp9
    obtain rfl := hS9.symm
    refine a_iadd K dX11_feed_18 ?_
    rw [nI_add]
    refine a_iload_n K dX11_feed_19 rfl ?_
    refine a_invS K (q_bytesOf (w := c)) my_X11_bytesOf ml_X11_122 st_X11_bytesOf rfl (by omega) (by omega) (by omega) rfl (Nat.le_of_ble_eq_true rfl) dX11_feed_20 ?_
    intro r9 S9 hp9
    obtain ⟨rfl, hS9⟩ := hp9
    obtain rfl := hS9.symm
    refine a_iadd K dX11_feed_23 ?_
    rw [nI_add]
    refine a_iload K dX11_feed_24 rfl ?_
    refine a_invS K (q_bytesOf (w := d)) my_X11_bytesOf ml_X11_122 st_X11_bytesOf rfl (by omega) (by omega) (by omega) rfl (Nat.le_of_ble_eq_true rfl) dX11_feed_26 ?_
    intro r9 S9 hp9
    obtain ⟨rfl, hS9⟩ := hp9
    obtain rfl := hS9.symm
    refine a_iadd K dX11_feed_29 ?_
    rw [nI_add]
    refine a_iload K dX11_feed_30 rfl ?_
    refine a_invS K (q_bytesOf (w := e)) my_X11_bytesOf ml_X11_122 st_X11_bytesOf rfl (by omega) (by omega) (by omega) rfl (Nat.le_of_ble_eq_true rfl) dX11_feed_32 ?_
    intro r9 S9 hp9
    obtain ⟨rfl, hS9⟩ := hp9
    obtain rfl := hS9.symm
    refine a_iadd K dX11_feed_35 ?_
    rw [nI_add]
    refine a_sipush K dX11_feed_36 (v := 240) (by decide) ?_
    refine a_icmp_le K dX11_feed_39 (tgt := 44) (by decide) (fun c_39 => absurd c_39 (fun q => hc ((nI_leI (b := 240) (by omega) (by decide)).mp q))) (fun c_39 => ?_)
    refine a_iconst K dX11_feed_42 (v := -1) (by decide) ?_
    exact a_iret K EE rfl (by omega) (by omega) dX11_feed_43 ⟨ρ, Z, by unfold feedF; rw [if_neg hc9], by unfold feedF; rw [if_neg hc9]; exact h.up (Nat.le_succ mb) (by omega), q0⟩
theorem cw_no {P : PS} {w : Nat} : ∀ z, ¬ LvT (cloP (widP P w)) z := fun z hz => hz.elim (fun ⟨i, x, hx, _⟩ => absurd (show ([] : List MI)[i]? = some x from hx) (by simp)) (fun ⟨j, b, hj, hb, _⟩ => by
  rw [clo_no _ j hj] at hb
  exact absurd hb (by simp))
theorem RM_wide {S S2 : aw_S} {m ρ : Nat → Nat} {Z : List Nat × Nat} {mb w : Nat} {P : PS} (h : RM S m ρ Z mb P) (f : frM S S2 m [24] [721, 722, 723, 724, 745, 746, 747, 748]) (e723 : sI S2 723 (m 33) = nI w) (e721 : sI S2 721 (m 33) = 0) (e722 : sI S2 722 (m 33) = 0) (e724 : sI S2 724 (m 33) = 0) (e745 : sI S2 745 (m 33) = 0) (e746 : sI S2 746 (m 33) = 0) (e747 : sI S2 747 (m 33) = 0) (e748 : sI S2 748 (m 33) = 0) (h24 : ∀ i, i < 999 → sA S2 (m 24) i = 0) : RM S2 m ρ ([], 0) mb (cloP (widP P w)) ∧ frS S S2 (mQ m) := by
  obtain ⟨h1, h2, h3, h4, h5, h6, h7, h8⟩ := h
  obtain ⟨a1, a2, a3, a4, a5, a6, a7, a8, a9, a10⟩ := h2
  refine ⟨⟨f.lay h1, ⟨a1.fr h1 f (by decide) (by decide) (by decide), (f.2 713 (by decide)).trans a2, e723, (f.2 725 (by decide)).trans a4, e745, ?_, ?_, e748, (f.2 758 (by decide)).trans a9, a10⟩, fun i x hx => absurd (show ([] : List MI)[i]? = some x from hx) (by simp), fun j b hj hb => ?_, ⟨fun k hk => ?_, fun i hi => h24 i hi, fun i hi => absurd hi (Nat.not_lt_zero i), fun i b hb => ?_⟩, h6.fr (P := P) h1 f (by decide) (by decide) (by decide), ⟨⟨e721, e722, Nat.zero_le _, Nat.zero_le _, fun i r hi => absurd hi (by simp)⟩, List.nodup_nil, ⟨fun i hi => ?_, fun i j hi => ?_⟩, fun z hz => absurd hz (cw_no z), e724⟩, h8.fr h1 f (by decide) (by decide) (by decide)⟩, f.mq (by decide)⟩
  · rw [e746]
    show (0 : Int32) = nI (hcnt (fun _ => false))
    rw [hcnt_0]
    rfl
  · rw [e747, obN_0 (clo_no _)]
  · rw [clo_no _ j hj] at hb
    exact absurd hb (by simp)
  · rw [f.A h1 (by decide) (by decide) (by decide)]
    exact h5.1 k hk
  · rw [f.A h1 (by decide) (by decide) (by decide)]
    exact h5.2.2.2 i b hb
  · obtain ⟨z, hz, _⟩ := hi
    exact absurd hz (cw_no z)
  · obtain ⟨z, hz, _⟩ := hi
    exact absurd hz (cw_no z)
set_option maxHeartbeats 4000000 in
set_option maxRecDepth 100000 in
theorem q_wide {S : aw_S} {m ρ : Nat → Nat} {Z : List Nat × Nat} {mb n9 : Nat} {P : PS} (h0 : RM S m ρ Z mb P) (hJ : PJ n9 P) (hmb : mb + 1 < 2147483000) {i : Int32} : aw_M yX11_wide cX11_wide 3 (some FieldType.int) 3 0 0 [.ref (m 33), .int i] S (fun r S2 => ∃ ρ2 Z2, r = some (.int (widF P i).1) ∧ RM S2 m ρ2 Z2 (mb + 1) (widF P i).2 ∧ frS S S2 (mQ m)) := by
  have hP := hJ.1
  have hw3 := hP.1.1
  have hM := h0.1
  have hl9 := hJ.ln
  have hw6 := hP.1.2
  have hpH := hJ.2.2.2.2.2.1.1
  have hc16 := hJ.2.2.2.2.2.1.2.1
  refine aw_enter (by decide +kernel) (Nat.le_of_ble_eq_true rfl) (fun g K EE => ?_)
  by_cases hw : ¬ (3 ≤ i.toInt ∧ i.toInt ≤ 6)
  · first | refine a_aload_n K dX11_wide_0 rfl ?_ | refine a_aload_nN K dX11_wide_0 rfl ?_
    refine a_iconst K dX11_wide_1 (v := 0) (by decide) ?_
    refine a_putI K fd_X11_116 (by exact lm_o hM) rfl dX11_wide_2 ?_
    have f0 : frM S (wI S 704 (m 33) 0) m [] [704] := frM_wI (by decide) (by decide)
    obtain ⟨T, hT⟩ : ∃ T, T = wI S 704 (m 33) 0 := ⟨_, rfl⟩
    rw [← hT] at f0 ⊢
    obtain ⟨h, q0⟩ := h0.scr hP f0 (by decide) (by decide)
    have hM := h.1
    refine a_iload_n K dX11_wide_5 rfl ?_
    refine a_i2l K dX11_wide_6 ?_
    refine a_ldc2 K kc_X11_305 dX11_wide_7 ?_
    refine a_ldc2 K kc_X11_307 dX11_wide_10 ?_
    refine a_invS K (q_inN (p := 3) (q := 6) (by decide) (by decide) hw) my_X11_isIn ml_X11_174 st_X11_isIn rfl (by omega) (by omega) (by omega) rfl (Nat.le_of_ble_eq_true rfl) dX11_wide_13 ?_
    intro r9 S9 hp9
    obtain ⟨rfl, hS9⟩ := hp9
    obtain rfl := hS9.symm
    refine a_if_ne K dX11_wide_16 (tgt := 25) (by decide) (fun c_16 => absurd c_16 (fun q => q rfl)) (fun c_16 => ?_)
    first | refine a_aload_n K dX11_wide_19 rfl ?_ | refine a_aload_nN K dX11_wide_19 rfl ?_
    refine a_iconst K dX11_wide_20 (v := 1) (by decide) ?_
    rw [show (1 : Int32) = nI 1 from rfl]
    refine a_invV K (q_refP h (k := 1) (by decide)) my_X11_refused ml_X11_292 im_X11_refused se_X11_refused (ci := 11) (by exact lm_o hM) (by decide) ⟨_, _, rfl⟩ rfl (by omega) (by omega) (by omega) rfl (Nat.le_of_ble_eq_true rfl) dX11_wide_21 ?_
    intro r9 S9 hp9
    obtain ⟨rfl, hR, qR⟩ := hp9
    exact a_iret K EE rfl (by omega) (by omega) dX11_wide_24 ⟨ρ, Z, by unfold widF; rw [if_neg hw], by unfold widF; rw [if_neg hw]; exact hR.up (Nat.le_succ mb) (by omega), mQ_tr q0 qR⟩
  have hw := Classical.not_not.mp hw
  obtain ⟨w9, hw9, rfl⟩ : ∃ w9, w9 < 7 ∧ i = nI w9 := ⟨i.toInt.toNat, by omega, Int32.toInt_inj.mp (by rw [t_nI (by omega)]; omega)⟩
  first | refine a_aload_n K dX11_wide_0 rfl ?_ | refine a_aload_nN K dX11_wide_0 rfl ?_
  refine a_iconst K dX11_wide_1 (v := 0) (by decide) ?_
  refine a_putI K fd_X11_116 (by exact lm_o hM) rfl dX11_wide_2 ?_
  have f0 : frM S (wI S 704 (m 33) 0) m [] [704] := frM_wI (by decide) (by decide)
  obtain ⟨T, hT⟩ : ∃ T, T = wI S 704 (m 33) 0 := ⟨_, rfl⟩
  rw [← hT] at f0 ⊢
  obtain ⟨h, q0⟩ := h0.scr hP f0 (by decide) (by decide)
  have hM := h.1
  refine a_iload_n K dX11_wide_5 rfl ?_
  refine a_i2l K dX11_wide_6 ?_
  refine a_ldc2 K kc_X11_305 dX11_wide_7 ?_
  refine a_ldc2 K kc_X11_307 dX11_wide_10 ?_
  refine a_invS K (q_inY (p := 3) (q := 6) (by decide) (by decide) hw) my_X11_isIn ml_X11_174 st_X11_isIn rfl (by omega) (by omega) (by omega) rfl (Nat.le_of_ble_eq_true rfl) dX11_wide_13 ?_
  intro r9 S9 hp9
  obtain ⟨rfl, hS9⟩ := hp9
  obtain rfl := hS9.symm
  refine a_if_ne K dX11_wide_16 (tgt := 25) (by decide) (fun c_16 => ?_) (fun c_16 => absurd c_16 (by decide))
  first | refine a_aload_n K dX11_wide_25 rfl ?_ | refine a_aload_nN K dX11_wide_25 rfl ?_
  refine a_iload_n K dX11_wide_26 rfl ?_
  refine a_putI K fd_X11_45 (by exact lm_o hM) rfl dX11_wide_27 ?_
  refine a_iconst K dX11_wide_30 (v := 0) (by decide) ?_
  refine a_istore_n K dX11_wide_31 (by decide) ?_
  have fU : frM T (wI T 723 (m 33) (nI w9)) m [24] [721, 722, 723, 724, 745, 746, 747, 748] := frM_wI (by decide) (by decide)
  obtain ⟨U, hU⟩ : ∃ U, U = wI T 723 (m 33) (nI w9) := ⟨_, rfl⟩
  have e723 : sI U 723 (m 33) = nI w9 := by rw [hU]; exact wI_at
  have e745 : sI U 745 (m 33) = nI (pM P).length := by rw [hU, sI_wI, if_neg (fun z => absurd z.1 (by decide))]; exact h.nlen
  have e24 : sA U (m 24) = sA T (m 24) := by rw [hU]; rfl
  rw [← hU] at fU ⊢
  have hMU := fU.lay h.1
  have loop : ∀ (n i : Nat) (x : Int32) (V : aw_S), x = nI i → i + n = (pM P).length → frM U V m [24] [] → (∀ k, k < i → sA V (m 24) k = 0) → (∀ k, i ≤ k → sA V (m 24) k = sA U (m 24) k) → aw g 3 V 0 0 [(2, .int x), (1, .int (nI w9)), (0, .ref (m 33))] [] 32 := by
    intro n
    induction n with
    | zero =>
      intro i x V hx hn f hA hB
      subst hx
      have hM := f.lay hMU
      have fV : frM T V m [24] [721, 722, 723, 724, 745, 746, 747, 748] := fU.tr (f.up (by decide) (by decide))
      have hl9 : (pM P).length ≤ 999 := hJ.ln
      have f9 : frM T (wI (wI (wI (wI (wI (wI (wI V 745 (m 33) 0) 746 (m 33) 0) 747 (m 33) 0) 724 (m 33) 0) 748 (m 33) 0) 721 (m 33) 0) 722 (m 33) 0) m [24] [721, 722, 723, 724, 745, 746, 747, 748] := (((((((fV.tr (frM_wI (by decide) (by decide))).tr (frM_wI (by decide) (by decide))).tr (frM_wI (by decide) (by decide))).tr (frM_wI (by decide) (by decide))).tr (frM_wI (by decide) (by decide))).tr (frM_wI (by decide) (by decide))).tr (frM_wI (by decide) (by decide)))
      obtain ⟨hF, qF⟩ := RM_wide (w := w9) h f9 (by rw [sI_wI, if_neg (fun z => absurd z.1 (by decide))]; rw [sI_wI, if_neg (fun z => absurd z.1 (by decide))]; rw [sI_wI, if_neg (fun z => absurd z.1 (by decide))]; rw [sI_wI, if_neg (fun z => absurd z.1 (by decide))]; rw [sI_wI, if_neg (fun z => absurd z.1 (by decide))]; rw [sI_wI, if_neg (fun z => absurd z.1 (by decide))]; rw [sI_wI, if_neg (fun z => absurd z.1 (by decide))]; exact (f.2 723 (by decide)).trans e723) (by rw [sI_wI, if_neg (fun z => absurd z.1 (by decide))]; exact wI_at) (by exact wI_at) (by rw [sI_wI, if_neg (fun z => absurd z.1 (by decide))]; rw [sI_wI, if_neg (fun z => absurd z.1 (by decide))]; rw [sI_wI, if_neg (fun z => absurd z.1 (by decide))]; exact wI_at) (by rw [sI_wI, if_neg (fun z => absurd z.1 (by decide))]; rw [sI_wI, if_neg (fun z => absurd z.1 (by decide))]; rw [sI_wI, if_neg (fun z => absurd z.1 (by decide))]; rw [sI_wI, if_neg (fun z => absurd z.1 (by decide))]; rw [sI_wI, if_neg (fun z => absurd z.1 (by decide))]; rw [sI_wI, if_neg (fun z => absurd z.1 (by decide))]; exact wI_at) (by rw [sI_wI, if_neg (fun z => absurd z.1 (by decide))]; rw [sI_wI, if_neg (fun z => absurd z.1 (by decide))]; rw [sI_wI, if_neg (fun z => absurd z.1 (by decide))]; rw [sI_wI, if_neg (fun z => absurd z.1 (by decide))]; rw [sI_wI, if_neg (fun z => absurd z.1 (by decide))]; exact wI_at) (by rw [sI_wI, if_neg (fun z => absurd z.1 (by decide))]; rw [sI_wI, if_neg (fun z => absurd z.1 (by decide))]; rw [sI_wI, if_neg (fun z => absurd z.1 (by decide))]; rw [sI_wI, if_neg (fun z => absurd z.1 (by decide))]; exact wI_at) (by rw [sI_wI, if_neg (fun z => absurd z.1 (by decide))]; rw [sI_wI, if_neg (fun z => absurd z.1 (by decide))]; exact wI_at) (fun k hk => by
        rw [sA_wI, sA_wI, sA_wI, sA_wI, sA_wI, sA_wI, sA_wI]
        by_cases c : k < i
        · exact hA k c
        · rw [hB k (by omega), e24, h.hd k hk, (hpH k (by omega)).1]
          rfl)
      refine a_iload_n K dX11_wide_32 rfl ?_
      first | refine a_aload_n K dX11_wide_33 rfl ?_ | refine a_aload_nN K dX11_wide_33 rfl ?_
      refine a_getI K fd_X11_261 (by exact lm_o hM) (Or.inl rfl) dX11_wide_34 ?_
      rw [show sI V 745 (m 33) = nI (pM P).length from (f.2 745 (by decide)).trans e745]
      refine a_icmp_ge K dX11_wide_37 (tgt := 53) (by decide) (fun c_37 => ?_) (fun c_37 => absurd c_37 (fun z => z (nI_le (a := (pM P).length) (b := i) (by omega) (by omega))))
      first | refine a_aload_n K dX11_wide_53 rfl ?_ | refine a_aload_nN K dX11_wide_53 rfl ?_
      refine a_iconst K dX11_wide_54 (v := 0) (by decide) ?_
      refine a_putI K fd_X11_261 (by exact lm_o hM) rfl dX11_wide_55 ?_
      have hM : LM (wI V 745 (m 33) 0) m := ((fV.tr (frM_wI (by decide) (by decide) : frM _ _ m [24] [721, 722, 723, 724, 745, 746, 747, 748]))).lay h.1
      first | refine a_aload_n K dX11_wide_58 rfl ?_ | refine a_aload_nN K dX11_wide_58 rfl ?_
      refine a_iconst K dX11_wide_59 (v := 0) (by decide) ?_
      refine a_putI K fd_X11_275 (by exact lm_o hM) rfl dX11_wide_60 ?_
      have hM : LM (wI (wI V 745 (m 33) 0) 746 (m 33) 0) m := (((fV.tr (frM_wI (by decide) (by decide) : frM _ _ m [24] [721, 722, 723, 724, 745, 746, 747, 748])).tr (frM_wI (by decide) (by decide) : frM _ _ m [24] [721, 722, 723, 724, 745, 746, 747, 748]))).lay h.1
      first | refine a_aload_n K dX11_wide_63 rfl ?_ | refine a_aload_nN K dX11_wide_63 rfl ?_
      refine a_iconst K dX11_wide_64 (v := 0) (by decide) ?_
      refine a_putI K fd_X11_268 (by exact lm_o hM) rfl dX11_wide_65 ?_
      have hM : LM (wI (wI (wI V 745 (m 33) 0) 746 (m 33) 0) 747 (m 33) 0) m := ((((fV.tr (frM_wI (by decide) (by decide) : frM _ _ m [24] [721, 722, 723, 724, 745, 746, 747, 748])).tr (frM_wI (by decide) (by decide) : frM _ _ m [24] [721, 722, 723, 724, 745, 746, 747, 748])).tr (frM_wI (by decide) (by decide) : frM _ _ m [24] [721, 722, 723, 724, 745, 746, 747, 748]))).lay h.1
      first | refine a_aload_n K dX11_wide_68 rfl ?_ | refine a_aload_nN K dX11_wide_68 rfl ?_
      refine a_iconst K dX11_wide_69 (v := 0) (by decide) ?_
      refine a_putI K fd_X11_190 (by exact lm_o hM) rfl dX11_wide_70 ?_
      have hM : LM (wI (wI (wI (wI V 745 (m 33) 0) 746 (m 33) 0) 747 (m 33) 0) 724 (m 33) 0) m := (((((fV.tr (frM_wI (by decide) (by decide) : frM _ _ m [24] [721, 722, 723, 724, 745, 746, 747, 748])).tr (frM_wI (by decide) (by decide) : frM _ _ m [24] [721, 722, 723, 724, 745, 746, 747, 748])).tr (frM_wI (by decide) (by decide) : frM _ _ m [24] [721, 722, 723, 724, 745, 746, 747, 748])).tr (frM_wI (by decide) (by decide) : frM _ _ m [24] [721, 722, 723, 724, 745, 746, 747, 748]))).lay h.1
      first | refine a_aload_n K dX11_wide_73 rfl ?_ | refine a_aload_nN K dX11_wide_73 rfl ?_
      refine a_iconst K dX11_wide_74 (v := 0) (by decide) ?_
      refine a_putZ K fd_X11_264 (by exact lm_o hM) rfl (by decide) dX11_wide_75 ?_
      have hM : LM (wI (wI (wI (wI (wI V 745 (m 33) 0) 746 (m 33) 0) 747 (m 33) 0) 724 (m 33) 0) 748 (m 33) 0) m := ((((((fV.tr (frM_wI (by decide) (by decide) : frM _ _ m [24] [721, 722, 723, 724, 745, 746, 747, 748])).tr (frM_wI (by decide) (by decide) : frM _ _ m [24] [721, 722, 723, 724, 745, 746, 747, 748])).tr (frM_wI (by decide) (by decide) : frM _ _ m [24] [721, 722, 723, 724, 745, 746, 747, 748])).tr (frM_wI (by decide) (by decide) : frM _ _ m [24] [721, 722, 723, 724, 745, 746, 747, 748])).tr (frM_wI (by decide) (by decide) : frM _ _ m [24] [721, 722, 723, 724, 745, 746, 747, 748]))).lay h.1
      first | refine a_aload_n K dX11_wide_78 rfl ?_ | refine a_aload_nN K dX11_wide_78 rfl ?_
      refine a_iconst K dX11_wide_79 (v := 0) (by decide) ?_
      refine a_putI K fd_X11_184 (by exact lm_o hM) rfl dX11_wide_80 ?_
      have hM : LM (wI (wI (wI (wI (wI (wI V 745 (m 33) 0) 746 (m 33) 0) 747 (m 33) 0) 724 (m 33) 0) 748 (m 33) 0) 721 (m 33) 0) m := (((((((fV.tr (frM_wI (by decide) (by decide) : frM _ _ m [24] [721, 722, 723, 724, 745, 746, 747, 748])).tr (frM_wI (by decide) (by decide) : frM _ _ m [24] [721, 722, 723, 724, 745, 746, 747, 748])).tr (frM_wI (by decide) (by decide) : frM _ _ m [24] [721, 722, 723, 724, 745, 746, 747, 748])).tr (frM_wI (by decide) (by decide) : frM _ _ m [24] [721, 722, 723, 724, 745, 746, 747, 748])).tr (frM_wI (by decide) (by decide) : frM _ _ m [24] [721, 722, 723, 724, 745, 746, 747, 748])).tr (frM_wI (by decide) (by decide) : frM _ _ m [24] [721, 722, 723, 724, 745, 746, 747, 748]))).lay h.1
      first | refine a_aload_n K dX11_wide_83 rfl ?_ | refine a_aload_nN K dX11_wide_83 rfl ?_
      refine a_iconst K dX11_wide_84 (v := 0) (by decide) ?_
      refine a_putI K fd_X11_187 (by exact lm_o hM) rfl dX11_wide_85 ?_
      have hM : LM (wI (wI (wI (wI (wI (wI (wI V 745 (m 33) 0) 746 (m 33) 0) 747 (m 33) 0) 724 (m 33) 0) 748 (m 33) 0) 721 (m 33) 0) 722 (m 33) 0) m := ((((((((fV.tr (frM_wI (by decide) (by decide) : frM _ _ m [24] [721, 722, 723, 724, 745, 746, 747, 748])).tr (frM_wI (by decide) (by decide) : frM _ _ m [24] [721, 722, 723, 724, 745, 746, 747, 748])).tr (frM_wI (by decide) (by decide) : frM _ _ m [24] [721, 722, 723, 724, 745, 746, 747, 748])).tr (frM_wI (by decide) (by decide) : frM _ _ m [24] [721, 722, 723, 724, 745, 746, 747, 748])).tr (frM_wI (by decide) (by decide) : frM _ _ m [24] [721, 722, 723, 724, 745, 746, 747, 748])).tr (frM_wI (by decide) (by decide) : frM _ _ m [24] [721, 722, 723, 724, 745, 746, 747, 748])).tr (frM_wI (by decide) (by decide) : frM _ _ m [24] [721, 722, 723, 724, 745, 746, 747, 748]))).lay h.1
      refine a_iload_n K dX11_wide_88 rfl ?_
      exact a_iret K EE rfl (by omega) (by omega) dX11_wide_89 ⟨ρ, ([], 0), by unfold widF; rw [if_pos hw], by unfold widF; rw [if_pos hw, nI_clamp (by omega)]; exact hF.up (Nat.le_succ mb) (by omega), mQ_tr q0 qF⟩
    | succ n ih =>
      intro i x V hx hn f hA hB
      subst hx
      have hM := f.lay hMU
      have hl9 : (pM P).length ≤ 999 := hJ.ln
      refine a_iload_n K dX11_wide_32 rfl ?_
      first | refine a_aload_n K dX11_wide_33 rfl ?_ | refine a_aload_nN K dX11_wide_33 rfl ?_
      refine a_getI K fd_X11_261 (by exact lm_o hM) (Or.inl rfl) dX11_wide_34 ?_
      rw [show sI V 745 (m 33) = nI (pM P).length from (f.2 745 (by decide)).trans e745]
      refine a_icmp_ge K dX11_wide_37 (tgt := 53) (by decide) (fun c_37 => absurd c_37 (nI_ge (a := i) (b := (pM P).length) (by omega) (by omega))) (fun c_37 => ?_)
      first | refine a_aload_n K dX11_wide_40 rfl ?_ | refine a_aload_nN K dX11_wide_40 rfl ?_
      refine a_getRs K fd_X11_88 (by exact lm_o hM) (Or.inr ⟨_, rfl⟩) (by exact lm_r743 hM) dX11_wide_41 ?_
      refine a_iload_n K dX11_wide_44 rfl ?_
      refine a_iconst K dX11_wide_45 (v := 0) (by decide) ?_
      refine a_zast K (by exact lm_kk hM (by decide) (by decide)) (by show vp_in _ (sN V (m 24)); exact lm_ix (z := 999) hM (by decide) (by decide) (show i < 999 by omega) (by decide)) dX11_wide_46 ?_
      rw [nI_clamp (by omega)]
      refine a_iinc K dX11_wide_47 (v := 1) rfl (by decide) (by decide) ?_
      refine a_goto K dX11_wide_50 (tgt := 32) (by decide) ?_
      exact aw_locl rfl (ih (i + 1) _ _ (nI_1 i) (by omega) (f.tr (frM_wA (by decide))) (fun k hk => by
        rw [sA_wA]
        by_cases c : k = i
        · rw [if_pos ⟨rfl, c⟩]
          rfl
        · rw [if_neg (fun z => c z.2)]
          exact hA k (by omega)) (fun k hk => by
        rw [sA_wA, if_neg (fun z => absurd z.2 (by omega))]
        exact hB k (by omega)))
  exact aw_locl rfl (loop (pM P).length 0 _ U nI_0.symm (Nat.zero_add _) frM.rf (fun k hk => absurd hk (Nat.not_lt_zero k)) (fun k _ => rfl))
