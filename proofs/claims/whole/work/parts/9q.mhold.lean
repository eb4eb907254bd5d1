/-! the model: maps held and imaged -/
abbrev hdP (P : PS) (hd im : Nat → Bool) (yy : Bool) (bb : Nat → Option BI) : PS := (P.1, pM P, hd, im, yy, bb, pR P, pG P, pT P, pS P)
theorem RM_hold {S S2 : aw_S} {m ρ : Nat → Nat} {Z : List Nat × Nat} {mb : Nat} {P : PS} (h : RM S m ρ Z mb P) (f : frM S S2 m [24, 25] [746, 747, 748]) {hd im : Nat → Bool} {yy : Bool} {bb : Nat → Option BI} (e746 : sI S2 746 (m 33) = nI (hcnt hd)) (e747 : sI S2 747 (m 33) = obN (hdP P hd im yy bb) 4) (e748 : sI S2 748 (m 33) = (if yy = true then 1 else 0)) (h24 : ∀ i, i < 999 → sA S2 (m 24) i = (if hd i = true then 1 else 0)) (h25 : ∀ i, i < (pM P).length → sA S2 (m 25) i = (if im i = true then 1 else 0)) (hlv : ∀ i, hd i = true ∨ (yy = true ∧ im i = true) → pH P i = true ∨ (pY P = true ∧ pI P i = true)) (hB : ∀ j b, bb j = some b → pB P j = some b) : RM S2 m ρ Z mb (hdP P hd im yy bb) ∧ frS S S2 (mQ m) := by
  obtain ⟨h1, h2, h3, h4, h5, h6, h7, h8⟩ := h
  obtain ⟨a1, a2, a3, a4, a5, a6, a7, a8, a9, a10⟩ := h2
  have hT : ∀ z, LvT (hdP P hd im yy bb) z → LvT P z := fun z hz => hz.elim (fun ⟨i, x, hx, e, hh⟩ => Or.inl ⟨i, x, hx, e, hlv i hh⟩) (fun ⟨j, b, hj, hb, e⟩ => Or.inr ⟨j, b, hj, hB j b hb, e⟩)
  refine ⟨⟨f.lay h1, ⟨a1.fr h1 f (by decide) (by decide) (by decide), (f.2 713 (by decide)).trans a2, (f.2 723 (by decide)).trans a3, (f.2 725 (by decide)).trans a4, (f.2 745 (by decide)).trans a5, e746, e747, e748, (f.2 758 (by decide)).trans a9, a10⟩, h3.fr (P := P) h1 f (by decide) (by decide) (by decide) (by decide), fun j b hj hb => (h4.fr (P := P) h1 f (by decide) (by decide) (by decide) (by decide)) j b hj (hB j b hb), ⟨fun k hk => ?_, h24, h25, fun i b hb => ?_⟩, h6.fr (P := P) h1 f (by decide) (by decide) (by decide), (h7.fr h1 f (by decide) (by decide) (by decide) (by decide) (by decide) (by decide) (by decide) (by decide) (by decide) (by decide)).sub hT rfl rfl, h8.fr h1 f (by decide) (by decide) (by decide)⟩, f.mq (by decide)⟩
  · rw [f.A h1 (by decide) (by decide) (by decide)]
    exact h5.1 k hk
  · rw [f.A h1 (by decide) (by decide) (by decide)]
    exact h5.2.2.2 i b hb
theorem RM.hc {S : aw_S} {m ρ : Nat → Nat} {Z : List Nat × Nat} {mb : Nat} {P : PS} (h : RM S m ρ Z mb P) : sI S 746 (m 33) = nI (hcnt (pH P)) := h.2.1.2.2.2.2.2.1
theorem RM.ob9 {S : aw_S} {m ρ : Nat → Nat} {Z : List Nat × Nat} {mb : Nat} {P : PS} (h : RM S m ρ Z mb P) : sI S 747 (m 33) = obN P 4 := h.2.1.2.2.2.2.2.2.1
theorem RM.im {S : aw_S} {m ρ : Nat → Nat} {Z : List Nat × Nat} {mb : Nat} {P : PS} (h : RM S m ρ Z mb P) : sI S 748 (m 33) = (if pY P = true then 1 else 0) := h.2.1.2.2.2.2.2.2.2.1
theorem RM.hd {S : aw_S} {m ρ : Nat → Nat} {Z : List Nat × Nat} {mb : Nat} {P : PS} (h : RM S m ρ Z mb P) : ∀ i, i < 999 → sA S (m 24) i = (if pH P i = true then 1 else 0) := h.2.2.2.2.1.2.1
theorem RM.imd {S : aw_S} {m ρ : Nat → Nat} {Z : List Nat × Nat} {mb : Nat} {P : PS} (h : RM S m ρ Z mb P) : ∀ i, i < (pM P).length → sA S (m 25) i = (if pI P i = true then 1 else 0) := h.2.2.2.2.1.2.2.1
set_option maxHeartbeats 4000000 in
set_option maxRecDepth 100000 in
theorem q_drop {S : aw_S} {m ρ : Nat → Nat} {Z : List Nat × Nat} {mb n9 : Nat} {P : PS} (h0 : RM S m ρ Z mb P) (hJ : PJ n9 P) (hmb : mb + 1 < 2147483000) {i : Int32} : aw_M yX11_drop cX11_drop 2 (some FieldType.int) 9 0 0 [.ref (m 33), .int i] S (fun r S2 => ∃ ρ2 Z2, r = some (.int (drpF P i).1) ∧ RM S2 m ρ2 Z2 (mb + 1) (drpF P i).2 ∧ frS S S2 (mQ m)) := by
  have hP := hJ.1
  have hw3 := hP.1.1
  have hM := h0.1
  have hl9 := hJ.ln
  have hw6 := hP.1.2
  have hpH := hJ.2.2.2.2.2.1.1
  have hc16 := hJ.2.2.2.2.2.1.2.1
  refine aw_enter (by decide +kernel) (Nat.le_of_ble_eq_true rfl) (fun g K EE => ?_)
  cases hz : rootP P i with
  | none =>
    first | refine a_aload_n K dX11_drop_0 rfl ?_ | refine a_aload_nN K dX11_drop_0 rfl ?_
    refine a_iconst K dX11_drop_1 (v := 0) (by decide) ?_
    refine a_putI K fd_X11_116 (by exact lm_o hM) rfl dX11_drop_2 ?_
    have f0 : frM S (wI S 704 (m 33) 0) m [] [704] := frM_wI (by decide) (by decide)
    obtain ⟨T, hT⟩ : ∃ T, T = wI S 704 (m 33) 0 := ⟨_, rfl⟩
    rw [← hT] at f0 ⊢
    obtain ⟨h, q0⟩ := h0.scr hP f0 (by decide) (by decide)
    have hM := h.1
    first | refine a_aload_n K dX11_drop_5 rfl ?_ | refine a_aload_nN K dX11_drop_5 rfl ?_
    refine a_iload_n K dX11_drop_6 rfl ?_
    refine a_invV K (q_mapN h hl9 hz) my_X11_isMap ml_X11_309 im_X11_isMap se_X11_isMap (ci := 11) (by exact lm_o hM) (by decide) ⟨_, _, rfl⟩ rfl (by omega) (by omega) (by omega) rfl (Nat.le_of_ble_eq_true rfl) dX11_drop_7 ?_
    intro r9 S9 hp9
    obtain ⟨rfl, hS9⟩ := hp9
    obtain rfl := hS9.symm
    refine a_if_ne K dX11_drop_10 (tgt := 19) (by decide) (fun c_10 => absurd c_10 (fun q => q rfl)) (fun c_10 => ?_)
    first | refine a_aload_n K dX11_drop_13 rfl ?_ | refine a_aload_nN K dX11_drop_13 rfl ?_
    refine a_iconst K dX11_drop_14 (v := 0) (by decide) ?_
    rw [show (0 : Int32) = nI 0 from rfl]
    refine a_invV K (q_refP h (k := 0) (by decide)) my_X11_refused ml_X11_292 im_X11_refused se_X11_refused (ci := 11) (by exact lm_o hM) (by decide) ⟨_, _, rfl⟩ rfl (by omega) (by omega) (by omega) rfl (Nat.le_of_ble_eq_true rfl) dX11_drop_15 ?_
    intro r9 S9 hp9
    obtain ⟨rfl, hR, qR⟩ := hp9
    exact a_iret K EE rfl (by omega) (by omega) dX11_drop_18 ⟨ρ, Z, by unfold drpF; rw [hz], by unfold drpF; rw [hz]; exact hR.up (Nat.le_succ mb) (by omega), mQ_tr q0 qR⟩
  | some z =>
    obtain ⟨j, hij, hj, -⟩ := h0.root hz
    subst hij
    have tz := hP.tz (rootP_live hz)
    have h4z := tz.h4 hw3
    have e60z := tz.2.2.1
    first | refine a_aload_n K dX11_drop_0 rfl ?_ | refine a_aload_nN K dX11_drop_0 rfl ?_
    refine a_iconst K dX11_drop_1 (v := 0) (by decide) ?_
    refine a_putI K fd_X11_116 (by exact lm_o hM) rfl dX11_drop_2 ?_
    have f0 : frM S (wI S 704 (m 33) 0) m [] [704] := frM_wI (by decide) (by decide)
    obtain ⟨T, hT⟩ : ∃ T, T = wI S 704 (m 33) 0 := ⟨_, rfl⟩
    rw [← hT] at f0 ⊢
    obtain ⟨h, q0⟩ := h0.scr hP f0 (by decide) (by decide)
    have hM := h.1
    obtain ⟨x9, hx9, hxz, hpj⟩ := rootP_at (by omega) hz
    have hcr := hcnt_rel (hd := pH P) hpj 999 (by omega)
    have hcr : hcnt (fun i => if i = j then false else pH P i) + 1 = hcnt (pH P) := hcr
    have hj9 : (nI j).toNatClampNeg = j := nI_clamp (by omega)
    have f1 : frM T (wA T (m 24) j (vp_nar .boolean 0)) m [24, 25] [746, 747, 748] := frM_wA (by decide)
    have f2 : frM T (wI (wA T (m 24) j (vp_nar .boolean 0)) 746 (m 33) (nI (hcnt (fun i => if i = j then false else pH P i)))) m [24, 25] [746, 747, 748] := f1.tr (frM_wI (by decide) (by decide))
    obtain ⟨hF, qF⟩ := RM_hold h f2 (hd := fun i => if i = j then false else pH P i) (im := pI P) (yy := pY P) (bb := pB P) wI_at (by rw [sI_wI, if_neg (fun z => absurd z.1 (by decide))]; exact h.ob9) (by rw [sI_wI, if_neg (fun z => absurd z.1 (by decide))]; exact h.im) (fun i hi => by
      rw [sA_wI, sA_wA]
      by_cases c : i = j
      · rw [if_pos ⟨rfl, c⟩, if_pos c]
        rfl
      · rw [if_neg (fun z => c z.2), if_neg c]
        exact h.hd i hi) (fun i hi => by
      rw [sA_wI, sA_wA, if_neg (fun z => lm_ne hM (by decide) (by decide) (by decide) z.1)]
      exact h.imd i hi) (fun i hh => hh.imp (fun c => by
      by_cases e : i = j
      · rw [e]; exact hpj
      · exact (if_neg e).symm.trans c) id) (fun _ _ q => q)
    first | refine a_aload_n K dX11_drop_5 rfl ?_ | refine a_aload_nN K dX11_drop_5 rfl ?_
    refine a_iload_n K dX11_drop_6 rfl ?_
    refine a_invV K (q_mapY h hl9 hz) my_X11_isMap ml_X11_309 im_X11_isMap se_X11_isMap (ci := 11) (by exact lm_o hM) (by decide) ⟨_, _, rfl⟩ rfl (by omega) (by omega) (by omega) rfl (Nat.le_of_ble_eq_true rfl) dX11_drop_7 ?_
    intro r9 S9 hp9
    obtain ⟨rfl, hS9⟩ := hp9
    obtain rfl := hS9.symm
    refine a_if_ne K dX11_drop_10 (tgt := 19) (by decide) (fun c_10 => ?_) (fun c_10 => absurd c_10 (by decide))
    first | refine a_aload_n K dX11_drop_19 rfl ?_ | refine a_aload_nN K dX11_drop_19 rfl ?_
    refine a_getRs K fd_X11_88 (by exact lm_o hM) (Or.inr ⟨_, rfl⟩) (by exact lm_r743 hM) dX11_drop_20 ?_
    refine a_iload_n K dX11_drop_23 rfl ?_
    refine a_iconst K dX11_drop_24 (v := 0) (by decide) ?_
    refine a_zast K (by exact lm_kk hM (by decide) (by decide)) (by show vp_in _ (sN T (m 24)); exact lm_ix (z := 999) hM (by decide) (by decide) (show j < 999 by omega) (by decide)) dX11_drop_25 ?_
    rw [nI_clamp (by omega)]
    have hM := f1.lay hM
    first | refine a_aload_n K dX11_drop_26 rfl ?_ | refine a_aload_nN K dX11_drop_26 rfl ?_
    refine a_dup K dX11_drop_27 rfl ?_
    refine a_getI K fd_X11_275 (by exact lm_o hM) (Or.inl rfl) dX11_drop_28 ?_
    rw [show sI (wA T (m 24) j (vp_nar .boolean 0)) 746 (m 33) = nI (hcnt (pH P)) from h.hc]
    refine a_iconst K dX11_drop_31 (v := 1) (by decide) ?_
    refine a_isub K dX11_drop_32 ?_
    rw [show nI (hcnt (pH P)) - 1 = nI (hcnt (fun i => if i = j then false else pH P i)) from by rw [← hcr, show (1 : Int32) = nI 1 from rfl, nI_sub (by omega)]; rfl]
    refine a_putI K fd_X11_275 (by exact lm_o hM) rfl dX11_drop_33 ?_
    have hM := hF.1
    first | refine a_aload_n K dX11_drop_36 rfl ?_ | refine a_aload_nN K dX11_drop_36 rfl ?_
    refine a_getI K fd_X11_275 (by exact lm_o hM) (Or.inl rfl) dX11_drop_37 ?_
    rw [wI_at]
    exact a_iret K EE rfl (by omega) (by omega) dX11_drop_40 ⟨ρ, Z, by unfold drpF; rw [hz, hj9]; rfl, by unfold drpF; rw [hz, hj9]; exact hF.up (Nat.le_succ mb) (by omega), mQ_tr q0 qF⟩
set_option maxHeartbeats 4000000 in
set_option maxRecDepth 100000 in
theorem q_image {S : aw_S} {m ρ : Nat → Nat} {Z : List Nat × Nat} {mb n9 : Nat} {P : PS} (h0 : RM S m ρ Z mb P) (hJ : PJ n9 P) (hmb : mb + 1 < 2147483000)  : aw_M yX11_image cX11_image 2 (some FieldType.int) 3 0 0 [.ref (m 33)] S (fun r S2 => ∃ ρ2 Z2, r = some (.int (((nI (hcnt (pH P)), imgP P) : Int32 × PS)).1) ∧ RM S2 m ρ2 Z2 (mb + 1) (((nI (hcnt (pH P)), imgP P) : Int32 × PS)).2 ∧ frS S S2 (mQ m)) := by
  have hP := hJ.1
  have hw3 := hP.1.1
  have hM := h0.1
  have hl9 := hJ.ln
  have hw6 := hP.1.2
  have hpH := hJ.2.2.2.2.2.1.1
  have hc16 := hJ.2.2.2.2.2.1.2.1
  refine aw_enter (by decide +kernel) (Nat.le_of_ble_eq_true rfl) (fun g K EE => ?_)
  first | refine a_aload_n K dX11_image_0 rfl ?_ | refine a_aload_nN K dX11_image_0 rfl ?_
  refine a_iconst K dX11_image_1 (v := 0) (by decide) ?_
  refine a_putI K fd_X11_116 (by exact lm_o hM) rfl dX11_image_2 ?_
  have f0 : frM S (wI S 704 (m 33) 0) m [] [704] := frM_wI (by decide) (by decide)
  obtain ⟨T, hT⟩ : ∃ T, T = wI S 704 (m 33) 0 := ⟨_, rfl⟩
  rw [← hT] at f0 ⊢
  obtain ⟨h, q0⟩ := h0.scr hP f0 (by decide) (by decide)
  have hM := h.1
  refine a_iconst K dX11_image_5 (v := 0) (by decide) ?_
  refine a_istore_n K dX11_image_6 (by decide) ?_
  have loop : ∀ (n i : Nat) (x : Int32) (V : aw_S), x = nI i → i + n = (pM P).length → frM T V m [25] [] → (∀ k, k < i → sA V (m 25) k = (if pH P k = true then 1 else 0)) → aw g 2 V 0 0 [(1, .int x), (0, .ref (m 33))] [] 7 := by
    intro n
    induction n with
    | zero =>
      intro i x V hx hn f hA
      subst hx
      have hM := f.lay h.1
      have fV := f.up (ks2 := [24, 25]) (Fs2 := [746, 747, 748]) (by decide) (by decide)
      have f2 : frM T (wI V 748 (m 33) 1) m [24, 25] [746, 747, 748] := fV.tr (frM_wI (by decide) (by decide))
      have e24 : sA V (m 24) = sA T (m 24) := f.A h.1 (by decide) (by decide) (by decide)
      obtain ⟨hF, qF⟩ := RM_hold h f2 (hd := pH P) (im := pH P) (yy := true) (bb := pB P) (by rw [sI_wI, if_neg (fun z => absurd z.1 (by decide)), f.2 746 (by decide)]; exact h.hc) (by rw [sI_wI, if_neg (fun z => absurd z.1 (by decide)), f.2 747 (by decide)]; exact h.ob9) wI_at (fun k hk => by rw [sA_wI, e24]; exact h.hd k hk) (fun k hk => by rw [sA_wI]; exact hA k (by omega)) (fun k hh => Or.inl (hh.elim id (fun c => c.2))) (fun _ _ q => q)
      refine a_iload_n K dX11_image_7 rfl ?_
      first | refine a_aload_n K dX11_image_8 rfl ?_ | refine a_aload_nN K dX11_image_8 rfl ?_
      refine a_getI K fd_X11_261 (by exact lm_o hM) (Or.inl rfl) dX11_image_9 ?_
      rw [show sI V 745 (m 33) = nI (pM P).length from (f.2 745 (by decide)).trans h.nlen]
      refine a_icmp_ge K dX11_image_12 (tgt := 33) (by decide) (fun c_12 => ?_) (fun c_12 => absurd c_12 (fun z => z (nI_le (a := (pM P).length) (b := i) (by omega) (by omega))))
      first | refine a_aload_n K dX11_image_33 rfl ?_ | refine a_aload_nN K dX11_image_33 rfl ?_
      refine a_iconst K dX11_image_34 (v := 1) (by decide) ?_
      refine a_putZ K fd_X11_264 (by exact lm_o hM) rfl (by decide) dX11_image_35 ?_
      have hM := hF.1
      first | refine a_aload_n K dX11_image_38 rfl ?_ | refine a_aload_nN K dX11_image_38 rfl ?_
      refine a_getI K fd_X11_275 (by exact lm_o hM) (Or.inl rfl) dX11_image_39 ?_
      rw [show sI (wI V 748 (m 33) 1) 746 (m 33) = nI (hcnt (pH P)) from hF.hc]
      exact a_iret K EE rfl (by omega) (by omega) dX11_image_42 ⟨ρ, Z, rfl, hF.up (Nat.le_succ mb) (by omega), mQ_tr q0 qF⟩
    | succ n ih =>
      intro i x V hx hn f hA
      subst hx
      have hM := f.lay h.1
      have hi : i < (pM P).length := by omega
      have e24 : sA V (m 24) = sA T (m 24) := f.A h.1 (by decide) (by decide) (by decide)
      refine a_iload_n K dX11_image_7 rfl ?_
      first | refine a_aload_n K dX11_image_8 rfl ?_ | refine a_aload_nN K dX11_image_8 rfl ?_
      refine a_getI K fd_X11_261 (by exact lm_o hM) (Or.inl rfl) dX11_image_9 ?_
      rw [show sI V 745 (m 33) = nI (pM P).length from (f.2 745 (by decide)).trans h.nlen]
      refine a_icmp_ge K dX11_image_12 (tgt := 33) (by decide) (fun c_12 => absurd c_12 (nI_ge (a := i) (b := (pM P).length) (by omega) (by omega))) (fun c_12 => ?_)
      first | refine a_aload_n K dX11_image_15 rfl ?_ | refine a_aload_nN K dX11_image_15 rfl ?_
      refine a_getRs K fd_X11_92 (by exact lm_o hM) (Or.inr ⟨_, rfl⟩) (by exact lm_r744 hM) dX11_image_16 ?_
      refine a_iload_n K dX11_image_19 rfl ?_
      first | refine a_aload_n K dX11_image_20 rfl ?_ | refine a_aload_nN K dX11_image_20 rfl ?_
      refine a_getRs K fd_X11_88 (by exact lm_o hM) (Or.inr ⟨_, rfl⟩) (by exact lm_r743 hM) dX11_image_21 ?_
      refine a_iload_n K dX11_image_24 rfl ?_
      refine a_zald K (by exact lm_kk hM (by decide) (by decide)) (by show vp_in _ (sN V (m 24)); exact lm_ix (z := 999) hM (by decide) (by decide) (show i < 999 by omega) (by decide)) dX11_image_25 ?_
      rw [nI_clamp (by omega)]
      rw [e24, h.hd i (by omega)]
      refine a_zast K (by exact lm_kk hM (by decide) (by decide)) (by show vp_in _ (sN V (m 25)); exact lm_ix (z := 999) hM (by decide) (by decide) (show i < 999 by omega) (by decide)) dX11_image_26 ?_
      rw [nI_clamp (by omega)]
      rw [nar01]
      refine a_iinc K dX11_image_27 (v := 1) rfl (by decide) (by decide) ?_
      refine a_goto K dX11_image_30 (tgt := 7) (by decide) ?_
      exact aw_locl rfl (ih (i + 1) _ _ (nI_1 i) (by omega) (f.tr (frM_wA (by decide))) (fun k hk => by
        rw [sA_wA]
        by_cases c : k = i
        · rw [if_pos ⟨rfl, c⟩, c]
        · rw [if_neg (fun z => c z.2)]
          exact hA k (by omega)))
  exact aw_locl rfl (loop (pM P).length 0 _ T nI_0.symm (Nat.zero_add _) frM.rf (fun k hk => absurd hk (Nat.not_lt_zero k)))
theorem clo_sub {P : PS} {j : Nat} {b : BI} (h : pB (cloP P) j = some b) : pB P j = some b := by
  by_cases c : j < 4
  · rw [clo_no P j c] at h
    exact absurd h (by simp)
  · have e : pB (cloP P) j = pB P j := by
      show (if j = 3 then none else if j = 2 then none else if j = 1 then none else if j = 0 then none else pB P j) = _
      rw [if_neg (by omega), if_neg (by omega), if_neg (by omega), if_neg (by omega)]
    exact e.symm.trans h
theorem cnt_rng {p : Nat → Bool} {n : Nat} (h : ∀ i, n ≤ i → p i = false) : ∀ k, (List.range (n + k)).countP p = (List.range n).countP p
  | 0 => rfl
  | k + 1 => by
    rw [show n + (k + 1) = (n + k) + 1 from rfl, List.range_succ, List.countP_append, List.countP_singleton, h (n + k) (by omega), cnt_rng h k]
    rfl
theorem cnt_rs {p : Nat → Bool} {i : Nat} : (List.range (i + 1)).countP p = (List.range i).countP p + if p i = true then 1 else 0 := by
  rw [List.range_succ, List.countP_append, List.countP_singleton]
set_option maxHeartbeats 4000000 in
set_option maxRecDepth 100000 in
theorem q_back {S : aw_S} {m ρ : Nat → Nat} {Z : List Nat × Nat} {mb n9 : Nat} {P : PS} (h0 : RM S m ρ Z mb P) (hJ : PJ n9 P) (hmb : mb + 1 < 2147483000)  : aw_M yX11_back cX11_back 2 (some FieldType.int) 3 0 0 [.ref (m 33)] S (fun r S2 => ∃ ρ2 Z2, r = some (.int (bckF P).1) ∧ RM S2 m ρ2 Z2 (mb + 1) (bckF P).2 ∧ frS S S2 (mQ m)) := by
  have hP := hJ.1
  have hw3 := hP.1.1
  have hM := h0.1
  have hl9 := hJ.ln
  have hw6 := hP.1.2
  have hpH := hJ.2.2.2.2.2.1.1
  have hc16 := hJ.2.2.2.2.2.1.2.1
  refine aw_enter (by decide +kernel) (Nat.le_of_ble_eq_true rfl) (fun g K EE => ?_)
  by_cases hY : pY P = true
  · first | refine a_aload_n K dX11_back_0 rfl ?_ | refine a_aload_nN K dX11_back_0 rfl ?_
    refine a_iconst K dX11_back_1 (v := 0) (by decide) ?_
    refine a_putI K fd_X11_116 (by exact lm_o hM) rfl dX11_back_2 ?_
    have f0 : frM S (wI S 704 (m 33) 0) m [] [704] := frM_wI (by decide) (by decide)
    obtain ⟨T, hT⟩ : ∃ T, T = wI S 704 (m 33) 0 := ⟨_, rfl⟩
    rw [← hT] at f0 ⊢
    obtain ⟨h, q0⟩ := h0.scr hP f0 (by decide) (by decide)
    have hM := h.1
    first | refine a_aload_n K dX11_back_5 rfl ?_ | refine a_aload_nN K dX11_back_5 rfl ?_
    refine a_getI K fd_X11_264 (by exact lm_o hM) (Or.inr rfl) dX11_back_6 ?_
    rw [h.im, if_pos hY]
    refine a_if_ne K dX11_back_9 (tgt := 14) (by decide) (fun c_9 => ?_) (fun c_9 => absurd c_9 (by decide))
    first | refine a_aload_n K dX11_back_14 rfl ?_ | refine a_aload_nN K dX11_back_14 rfl ?_
    refine a_iconst K dX11_back_15 (v := 0) (by decide) ?_
    refine a_putI K fd_X11_275 (by exact lm_o hM) rfl dX11_back_16 ?_
    refine a_iconst K dX11_back_19 (v := 0) (by decide) ?_
    refine a_istore_n K dX11_back_20 (by decide) ?_
    have loop : ∀ (n i : Nat) (x : Int32) (V : aw_S), x = nI i → i + n = (pM P).length → frM T V m [24] [746] → sI V 746 (m 33) = nI ((List.range i).countP (pI P)) → (∀ k, k < i → sA V (m 24) k = (if pI P k = true then 1 else 0)) → (∀ k, i ≤ k → sA V (m 24) k = sA T (m 24) k) → aw g 2 V 0 0 [(1, .int x), (0, .ref (m 33))] [] 21 := by
      intro n
      induction n with
      | zero =>
        intro i x V hx hn f hc hA hB
        subst hx
        have hM := f.lay h.1
        have hl9 : (pM P).length ≤ 999 := hJ.ln
        have hI := fun k (hk : (pM P).length ≤ k) => (hpH k hk).2
        have hH := fun k (hk : (pM P).length ≤ k) => (hpH k hk).1
        have ec : hcnt (pI P) = (List.range i).countP (pI P) := by
          have h1 := cnt_rng hI (999 - (pM P).length)
          rw [show (pM P).length + (999 - (pM P).length) = 999 by omega] at h1
          rw [show i = (pM P).length by omega]
          exact h1
        have fV := f.up (ks2 := [24, 25]) (Fs2 := [746, 747, 748]) (by decide) (by decide)
        have f2 : frM T (wI V 747 (m 33) 0) m [24, 25] [746, 747, 748] := fV.tr (frM_wI (by decide) (by decide))
        have e25 : sA V (m 25) = sA T (m 25) := f.A h.1 (by decide) (by decide) (by decide)
        have hcl : obN (hdP P (pI P) (pI P) (pY P) (pB (cloP (bckP P)))) 4 = 0 := obN_0 (P := cloP (bckP P)) (clo_no (bckP P))
        obtain ⟨hF, qF⟩ := RM_hold h f2 (hd := pI P) (im := pI P) (yy := pY P) (bb := pB (cloP (bckP P))) (by rw [sI_wI, if_neg (fun z => absurd z.1 (by decide)), hc, ec]) (by rw [wI_at, hcl]) (by rw [sI_wI, if_neg (fun z => absurd z.1 (by decide)), f.2 748 (by decide)]; exact h.im) (fun k hk => by
          rw [sA_wI]
          by_cases c : k < i
          · exact hA k c
          · rw [hB k (by omega), h.hd k hk, hH k (by omega), hI k (by omega)]) (fun k hk => by rw [sA_wI, e25]; exact h.imd k hk) (fun k hh => Or.inr (hh.elim (fun c => ⟨hY, c⟩) id)) (fun k b hb => clo_sub (P := bckP P) hb)
        refine a_iload_n K dX11_back_21 rfl ?_
        first | refine a_aload_n K dX11_back_22 rfl ?_ | refine a_aload_nN K dX11_back_22 rfl ?_
        refine a_getI K fd_X11_261 (by exact lm_o hM) (Or.inl rfl) dX11_back_23 ?_
        rw [show sI V 745 (m 33) = nI (pM P).length from (f.2 745 (by decide)).trans h.nlen]
        refine a_icmp_ge K dX11_back_26 (tgt := 70) (by decide) (fun c_26 => ?_) (fun c_26 => absurd c_26 (fun z => z (nI_le (a := (pM P).length) (b := i) (by omega) (by omega))))
        first | refine a_aload_n K dX11_back_70 rfl ?_ | refine a_aload_nN K dX11_back_70 rfl ?_
        refine a_iconst K dX11_back_71 (v := 0) (by decide) ?_
        refine a_putI K fd_X11_268 (by exact lm_o hM) rfl dX11_back_72 ?_
        have hM := hF.1
        first | refine a_aload_n K dX11_back_75 rfl ?_ | refine a_aload_nN K dX11_back_75 rfl ?_
        refine a_getI K fd_X11_275 (by exact lm_o hM) (Or.inl rfl) dX11_back_76 ?_
        rw [show sI (wI V 747 (m 33) 0) 746 (m 33) = nI (hcnt (pI P)) from hF.hc]
        exact a_iret K EE rfl (by omega) (by omega) dX11_back_79 ⟨ρ, Z, by unfold bckF; rw [if_pos hY], by unfold bckF; rw [if_pos hY]; exact hF.up (Nat.le_succ mb) (by omega), mQ_tr q0 qF⟩
      | succ n ih =>
        intro i x V hx hn f hc hA hB
        subst hx
        have hM := f.lay h.1
        have hl9 : (pM P).length ≤ 999 := hJ.ln
        have hi : i < (pM P).length := by omega
        have e25 : sA V (m 25) = sA T (m 25) := f.A h.1 (by decide) (by decide) (by decide)
        by_cases hi9 : pI P i = true
        · refine a_iload_n K dX11_back_21 rfl ?_
          first | refine a_aload_n K dX11_back_22 rfl ?_ | refine a_aload_nN K dX11_back_22 rfl ?_
          refine a_getI K fd_X11_261 (by exact lm_o hM) (Or.inl rfl) dX11_back_23 ?_
          rw [show sI V 745 (m 33) = nI (pM P).length from (f.2 745 (by decide)).trans h.nlen]
          refine a_icmp_ge K dX11_back_26 (tgt := 70) (by decide) (fun c_26 => absurd c_26 (nI_ge (a := i) (b := (pM P).length) (by omega) (by omega))) (fun c_26 => ?_)
          first | refine a_aload_n K dX11_back_29 rfl ?_ | refine a_aload_nN K dX11_back_29 rfl ?_
          refine a_getRs K fd_X11_88 (by exact lm_o hM) (Or.inr ⟨_, rfl⟩) (by exact lm_r743 hM) dX11_back_30 ?_
          refine a_iload_n K dX11_back_33 rfl ?_
          first | refine a_aload_n K dX11_back_34 rfl ?_ | refine a_aload_nN K dX11_back_34 rfl ?_
          refine a_getRs K fd_X11_92 (by exact lm_o hM) (Or.inr ⟨_, rfl⟩) (by exact lm_r744 hM) dX11_back_35 ?_
          refine a_iload_n K dX11_back_38 rfl ?_
          refine a_zald K (by exact lm_kk hM (by decide) (by decide)) (by show vp_in _ (sN V (m 25)); exact lm_ix (z := 999) hM (by decide) (by decide) (show i < 999 by omega) (by decide)) dX11_back_39 ?_
          rw [nI_clamp (by omega)]
          rw [e25, h.imd i (by omega)]
          refine a_zast K (by exact lm_kk hM (by decide) (by decide)) (by show vp_in _ (sN V (m 24)); exact lm_ix (z := 999) hM (by decide) (by decide) (show i < 999 by omega) (by decide)) dX11_back_40 ?_
          rw [nI_clamp (by omega)]
          rw [nar01]
          have hM := (f.tr (frM_wA (k := 24) (i := i) (v := if pI P i = true then 1 else 0) (by decide))).lay h.1
          first | refine a_aload_n K dX11_back_41 rfl ?_ | refine a_aload_nN K dX11_back_41 rfl ?_
          refine a_dup K dX11_back_42 rfl ?_
          refine a_getI K fd_X11_275 (by exact lm_o hM) (Or.inl rfl) dX11_back_43 ?_
          rw [show sI (wA V (m 24) i (if pI P i = true then 1 else 0)) 746 (m 33) = nI ((List.range i).countP (pI P)) from hc]
          first | refine a_aload_n K dX11_back_46 rfl ?_ | refine a_aload_nN K dX11_back_46 rfl ?_
          refine a_getRs K fd_X11_88 (by exact lm_o hM) (Or.inr ⟨_, rfl⟩) (by exact lm_r743 hM) dX11_back_47 ?_
          refine a_iload_n K dX11_back_50 rfl ?_
          refine a_zald K (by exact lm_kk hM (by decide) (by decide)) (by show vp_in _ (sN (wA V (m 24) i (if pI P i = true then 1 else 0)) (m 24)); exact lm_ix (z := 999) hM (by decide) (by decide) (show i < 999 by omega) (by decide)) dX11_back_51 ?_
          rw [nI_clamp (by omega)]
          rw [show sA (wA V (m 24) i (if pI P i = true then 1 else 0)) (m 24) i = 1 from (by rw [sA_wA, if_pos ⟨rfl, rfl⟩]; exact if_pos hi9)]
          refine a_if_eq K dX11_back_52 (tgt := 59) (by decide) (fun c_52 => absurd c_52 (by decide)) (fun c_52 => ?_)
          refine a_iconst K dX11_back_55 (v := 1) (by decide) ?_
          refine a_goto K dX11_back_56 (tgt := 60) (by decide) ?_
          refine a_iadd K dX11_back_60 ?_
          rw [nI_1]
          refine a_putI K fd_X11_275 (by exact lm_o hM) rfl dX11_back_61 ?_
          refine a_iinc K dX11_back_64 (v := 1) rfl (by decide) (by decide) ?_
          refine a_goto K dX11_back_67 (tgt := 21) (by decide) ?_
          exact aw_locl rfl (ih (i + 1) _ _ (nI_1 i) (by omega) ((f.tr (frM_wA (by decide))).tr (frM_wI (by decide) (by decide))) (by rw [wI_at, cnt_rs, if_pos hi9]; first | done | rfl) (fun k hk => by
            rw [sA_wI, sA_wA]
            by_cases c : k = i
            · rw [if_pos ⟨rfl, c⟩, c]
            · rw [if_neg (fun z => c z.2)]
              exact hA k (by omega)) (fun k hk => by
            rw [sA_wI, sA_wA, if_neg (fun z => absurd z.2 (by omega))]
            exact hB k (by omega)))
        · refine a_iload_n K dX11_back_21 rfl ?_
          first | refine a_aload_n K dX11_back_22 rfl ?_ | refine a_aload_nN K dX11_back_22 rfl ?_
          refine a_getI K fd_X11_261 (by exact lm_o hM) (Or.inl rfl) dX11_back_23 ?_
          rw [show sI V 745 (m 33) = nI (pM P).length from (f.2 745 (by decide)).trans h.nlen]
          refine a_icmp_ge K dX11_back_26 (tgt := 70) (by decide) (fun c_26 => absurd c_26 (nI_ge (a := i) (b := (pM P).length) (by omega) (by omega))) (fun c_26 => ?_)
          first | refine a_aload_n K dX11_back_29 rfl ?_ | refine a_aload_nN K dX11_back_29 rfl ?_
          refine a_getRs K fd_X11_88 (by exact lm_o hM) (Or.inr ⟨_, rfl⟩) (by exact lm_r743 hM) dX11_back_30 ?_
          refine a_iload_n K dX11_back_33 rfl ?_
          first | refine a_aload_n K dX11_back_34 rfl ?_ | refine a_aload_nN K dX11_back_34 rfl ?_
          refine a_getRs K fd_X11_92 (by exact lm_o hM) (Or.inr ⟨_, rfl⟩) (by exact lm_r744 hM) dX11_back_35 ?_
          refine a_iload_n K dX11_back_38 rfl ?_
          refine a_zald K (by exact lm_kk hM (by decide) (by decide)) (by show vp_in _ (sN V (m 25)); exact lm_ix (z := 999) hM (by decide) (by decide) (show i < 999 by omega) (by decide)) dX11_back_39 ?_
          rw [nI_clamp (by omega)]
          rw [e25, h.imd i (by omega)]
          refine a_zast K (by exact lm_kk hM (by decide) (by decide)) (by show vp_in _ (sN V (m 24)); exact lm_ix (z := 999) hM (by decide) (by decide) (show i < 999 by omega) (by decide)) dX11_back_40 ?_
          rw [nI_clamp (by omega)]
          rw [nar01]
          have hM := (f.tr (frM_wA (k := 24) (i := i) (v := if pI P i = true then 1 else 0) (by decide))).lay h.1
          first | refine a_aload_n K dX11_back_41 rfl ?_ | refine a_aload_nN K dX11_back_41 rfl ?_
          refine a_dup K dX11_back_42 rfl ?_
          refine a_getI K fd_X11_275 (by exact lm_o hM) (Or.inl rfl) dX11_back_43 ?_
          rw [show sI (wA V (m 24) i (if pI P i = true then 1 else 0)) 746 (m 33) = nI ((List.range i).countP (pI P)) from hc]
          first | refine a_aload_n K dX11_back_46 rfl ?_ | refine a_aload_nN K dX11_back_46 rfl ?_
          refine a_getRs K fd_X11_88 (by exact lm_o hM) (Or.inr ⟨_, rfl⟩) (by exact lm_r743 hM) dX11_back_47 ?_
          refine a_iload_n K dX11_back_50 rfl ?_
          refine a_zald K (by exact lm_kk hM (by decide) (by decide)) (by show vp_in _ (sN (wA V (m 24) i (if pI P i = true then 1 else 0)) (m 24)); exact lm_ix (z := 999) hM (by decide) (by decide) (show i < 999 by omega) (by decide)) dX11_back_51 ?_
          rw [nI_clamp (by omega)]
          rw [show sA (wA V (m 24) i (if pI P i = true then 1 else 0)) (m 24) i = 0 from (by rw [sA_wA, if_pos ⟨rfl, rfl⟩]; exact if_neg hi9)]
          refine a_if_eq K dX11_back_52 (tgt := 59) (by decide) (fun c_52 => ?_) (fun c_52 => absurd c_52 (fun q => q rfl))
          refine a_iconst K dX11_back_59 (v := 0) (by decide) ?_
          refine a_iadd K dX11_back_60 ?_
          rw [Int32.add_zero]
          refine a_putI K fd_X11_275 (by exact lm_o hM) rfl dX11_back_61 ?_
          refine a_iinc K dX11_back_64 (v := 1) rfl (by decide) (by decide) ?_
          refine a_goto K dX11_back_67 (tgt := 21) (by decide) ?_
          exact aw_locl rfl (ih (i + 1) _ _ (nI_1 i) (by omega) ((f.tr (frM_wA (by decide))).tr (frM_wI (by decide) (by decide))) (by rw [wI_at, cnt_rs, if_neg hi9]; first | done | rfl) (fun k hk => by
            rw [sA_wI, sA_wA]
            by_cases c : k = i
            · rw [if_pos ⟨rfl, c⟩, c]
            · rw [if_neg (fun z => c z.2)]
              exact hA k (by omega)) (fun k hk => by
            rw [sA_wI, sA_wA, if_neg (fun z => absurd z.2 (by omega))]
            exact hB k (by omega)))
    exact aw_locl rfl (loop (pM P).length 0 _ (wI T 746 (m 33) 0) nI_0.symm (Nat.zero_add _) (frM_wI (by decide) (by decide)) wI_at (fun k hk => absurd hk (Nat.not_lt_zero k)) (fun k _ => rfl))
  · first | refine a_aload_n K dX11_back_0 rfl ?_ | refine a_aload_nN K dX11_back_0 rfl ?_
    refine a_iconst K dX11_back_1 (v := 0) (by decide) ?_
    refine a_putI K fd_X11_116 (by exact lm_o hM) rfl dX11_back_2 ?_
    have f0 : frM S (wI S 704 (m 33) 0) m [] [704] := frM_wI (by decide) (by decide)
    obtain ⟨T, hT⟩ : ∃ T, T = wI S 704 (m 33) 0 := ⟨_, rfl⟩
    rw [← hT] at f0 ⊢
    obtain ⟨h, q0⟩ := h0.scr hP f0 (by decide) (by decide)
    have hM := h.1
    first | refine a_aload_n K dX11_back_5 rfl ?_ | refine a_aload_nN K dX11_back_5 rfl ?_
    refine a_getI K fd_X11_264 (by exact lm_o hM) (Or.inr rfl) dX11_back_6 ?_
    rw [h.im, if_neg hY]
    refine a_if_ne K dX11_back_9 (tgt := 14) (by decide) (fun c_9 => absurd c_9 (fun q => q rfl)) (fun c_9 => ?_)
    refine a_iconst K dX11_back_12 (v := -1) (by decide) ?_
    exact a_iret K EE rfl (by omega) (by omega) dX11_back_13 ⟨ρ, Z, by unfold bckF; rw [if_neg hY], by unfold bckF; rw [if_neg hY]; exact h.up (Nat.le_succ mb) (by omega), q0⟩
