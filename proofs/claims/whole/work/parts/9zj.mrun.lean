/-! the model: programs run -/
theorem RM.pl {S : aw_S} {m ρ : Nat → Nat} {Z : List Nat × Nat} {mb : Nat} {P : PS} (h : RM S m ρ Z mb P) {p n : Nat} {gp : List ST} {s : ST} (hg : (pG P)[p]? = some gp) (hs : gp[n]? = some s) {k : Nat} (hk : k < 4) : sA S (m 2) (4 * (16 * p + n) + k) = s k := (h.2.2.2.2.2.1 p gp hg).2 n s hs k hk
set_option maxHeartbeats 4000000 in
set_option maxRecDepth 100000 in
theorem q_goesStep {S : aw_S} {m ρ : Nat → Nat} {Z : List Nat × Nat} {mb n9 p n j : Nat} {P : PS} {gp : List ST} {s : ST} {b : BI} (h : RM S m ρ Z mb P) (hJ : PJ n9 P) (hmb : mb + 1 < 2147483000) (hg : (pG P)[p]? = some gp) (hs : gp[n]? = some s) (hb : pB P j = some b) (hj : j < 4) (hrm : 1000 ≤ rmM Z) : aw_M yX11_goesStep cX11_goesStep 6 (some FieldType.boolean) 10 0 0 [.ref (m 33), .int (nI j), .int (nI (4 * (16 * p + n)))] S (fun r S2 => ∃ ρ2 Z2, r = some (.int (if (runB P j s b).1 = true then 1 else 0)) ∧ RM S2 m ρ2 Z2 (mb + 1) (runB P j s b).2 ∧ frS S S2 (mQ m) ∧ (rmM Z2 + (pU (runB P j s b).2 - pU P) = rmM Z ∨ 5000 < rmM Z2)) := by
  have hP := hJ.1
  have hM := h.1
  have hw3 := hP.1.1
  have hw6 := hP.1.2
  have hbl := bui_live hj hb
  have tz := hP.tz hbl
  have h4z := tz.h4 hw3
  have hl9 := hJ.ln
  have hc16 := hJ.2.2.2.2.2.1.2.1
  have hG := hJ.2.2.2.1
  have hpl := (List.getElem?_eq_some_iff.mp hg).1
  have hnl := (List.getElem?_eq_some_iff.mp hs).1
  have hp4 := hG.1
  have hn16 := (hG.2 gp (List.mem_of_getElem? hg)).1
  have hok := (hG.2 gp (List.mem_of_getElem? hg)).2 s (List.mem_of_getElem? hs)
  refine aw_enter (by decide +kernel) (Nat.le_of_ble_eq_true rfl) (fun g K EE => ?_)
  rcases hok with ⟨e0, -⟩ | ⟨e0, -⟩ | ⟨e0, -⟩ | ⟨e0, -⟩ | ⟨e0, -⟩ | ⟨e0, -⟩
  · by_cases hcp : (ent b.1.1 b.1.2).length < 60 ∨ ¬ valIn (ent b.1.1 b.1.2) (s 1) = -1000000
    · have hE : runB P j s b = (true, setT P j (putT (pW P) b.2.1 (pU P) (s 1) (s 2) b.1) b.2.1 b.2.2) := by
        unfold runB
        rw [if_pos e0]
        exact (if_pos (hcp.elim Or.inr Or.inl))
      first | refine a_aload_n K dX11_goesStep_0 rfl ?_ | refine a_aload_nN K dX11_goesStep_0 rfl ?_
      refine a_getRs K fd_X11_17 (by exact lm_o hM) (Or.inr ⟨_, rfl⟩) (by exact lm_r710 hM) dX11_goesStep_1 ?_
      refine a_iload_n K dX11_goesStep_4 rfl ?_
      refine a_iconst K dX11_goesStep_5 (v := 1) (by decide) ?_
      refine a_iadd K dX11_goesStep_6 ?_
      rw [show nI (4 * (16 * p + n)) + 1 = nI ((4 * (16 * p + n)) + 1) from by rw [show (1 : Int32) = nI 1 from rfl, nI_add]]
      refine a_iald K (by exact lm_kk hM (by decide) (by decide)) (by show vp_in _ (sN S (m 2)); exact lm_ix (z := 320) hM (by decide) (by decide) (show (4 * (16 * p + n)) + 1 < 320 by omega) (by decide)) dX11_goesStep_7 ?_
      rw [nI_clamp (by omega)]
      rw [show sA S (m 2) ((4 * (16 * p + n)) + 1) = s 1 from h.pl hg hs (by decide)]
      refine a_istore_n K dX11_goesStep_8 (by decide) ?_
      first | refine a_aload_n K dX11_goesStep_9 rfl ?_ | refine a_aload_nN K dX11_goesStep_9 rfl ?_
      refine a_getRs K fd_X11_17 (by exact lm_o hM) (Or.inr ⟨_, rfl⟩) (by exact lm_r710 hM) dX11_goesStep_10 ?_
      refine a_iload_n K dX11_goesStep_13 rfl ?_
      refine a_iconst K dX11_goesStep_14 (v := 2) (by decide) ?_
      refine a_iadd K dX11_goesStep_15 ?_
      rw [show nI (4 * (16 * p + n)) + 2 = nI ((4 * (16 * p + n)) + 2) from by rw [show (2 : Int32) = nI 2 from rfl, nI_add]]
      refine a_iald K (by exact lm_kk hM (by decide) (by decide)) (by show vp_in _ (sN S (m 2)); exact lm_ix (z := 320) hM (by decide) (by decide) (show (4 * (16 * p + n)) + 2 < 320 by omega) (by decide)) dX11_goesStep_16 ?_
      rw [nI_clamp (by omega)]
      rw [show sA S (m 2) ((4 * (16 * p + n)) + 2) = s 2 from h.pl hg hs (by decide)]
      refine a_istore K dX11_goesStep_17 (by decide) ?_
      first | refine a_aload_n K dX11_goesStep_19 rfl ?_ | refine a_aload_nN K dX11_goesStep_19 rfl ?_
      refine a_getRs K fd_X11_17 (by exact lm_o hM) (Or.inr ⟨_, rfl⟩) (by exact lm_r710 hM) dX11_goesStep_20 ?_
      refine a_iload_n K dX11_goesStep_23 rfl ?_
      refine a_iald K (by exact lm_kk hM (by decide) (by decide)) (by show vp_in _ (sN S (m 2)); exact lm_ix (z := 320) hM (by decide) (by decide) (show (4 * (16 * p + n)) < 320 by omega) (by decide)) dX11_goesStep_24 ?_
      rw [nI_clamp (by omega)]
      rw [show sA S (m 2) (4 * (16 * p + n)) = s 0 from h.pl hg hs (k := 0) (by decide)]
      rw [e0]
      refine a_tsIn K dX11_goesStep_25 (off := 35) (tgt := 60) (by decide) (by decide) rfl (by decide) ?_
      first | refine a_aload_n K dX11_goesStep_60 rfl ?_ | refine a_aload_nN K dX11_goesStep_60 rfl ?_
      refine a_iload_n K dX11_goesStep_61 rfl ?_
      refine a_iload_n K dX11_goesStep_62 rfl ?_
      refine a_invV K ((q_canPut h hP hb hj (k := s 1)).post (fun r S2 hp => (⟨bR_y hcp hp.1, hp.2⟩ : r = some (.int 1) ∧ RM S2 m ρ Z mb P ∧ frS S S2 (mQ m)))) my_X11_canPut ml_X11_397 im_X11_canPut se_X11_canPut (ci := 11) (by exact lm_o hM) (by decide) ⟨_, _, rfl⟩ rfl (by omega) (by omega) (by omega) rfl (Nat.le_of_ble_eq_true rfl) dX11_goesStep_63 ?_
      intro r9 S5 hp9
      obtain ⟨rfl, h5, q5⟩ := hp9
      have hM := h5.1
      refine a_if_ne K dX11_goesStep_66 (tgt := 71) (by decide) (fun c_66 => ?_) (fun c_66 => absurd c_66 (by decide))
      first | refine a_aload_n K dX11_goesStep_71 rfl ?_ | refine a_aload_nN K dX11_goesStep_71 rfl ?_
      refine a_getRs K fd_X11_17 (by exact lm_o hM) (Or.inr ⟨_, rfl⟩) (by exact lm_r710 hM) dX11_goesStep_72 ?_
      refine a_iload_n K dX11_goesStep_75 rfl ?_
      refine a_iald K (by exact lm_kk hM (by decide) (by decide)) (by show vp_in _ (sN S5 (m 2)); exact lm_ix (z := 320) hM (by decide) (by decide) (show (4 * (16 * p + n)) < 320 by omega) (by decide)) dX11_goesStep_76 ?_
      rw [nI_clamp (by omega)]
      rw [show sA S5 (m 2) (4 * (16 * p + n)) = s 0 from h5.pl hg hs (k := 0) (by decide)]
      rw [e0]
      refine a_if_ne K dX11_goesStep_77 (tgt := 91) (by decide) (fun c_77 => absurd c_77 (fun z => z rfl)) (fun c_77 => ?_)
      first | refine a_aload_n K dX11_goesStep_80 rfl ?_ | refine a_aload_nN K dX11_goesStep_80 rfl ?_
      refine a_iload_n K dX11_goesStep_81 rfl ?_
      refine a_iload_n K dX11_goesStep_82 rfl ?_
      refine a_iload K dX11_goesStep_83 rfl ?_
      refine a_invV K (q_bPutsR h5 hP hb hj (by omega)) my_X11_builderPuts ml_X11_384 im_X11_builderPuts se_X11_builderPuts (ci := 11) (by exact lm_o hM) (by decide) ⟨_, _, rfl⟩ rfl (by omega) (by omega) (by omega) rfl (Nat.le_of_ble_eq_true rfl) dX11_goesStep_85 ?_
      intro r9 S6 hp9
      obtain ⟨ρ3, Z3, rfl, hF, q6, o3, r3⟩ := hp9
      refine a_goto K dX11_goesStep_88 (tgt := 99) (by decide) ?_
      refine a_iconst K dX11_goesStep_99 (v := 1) (by decide) ?_
      exact a_iret K EE rfl (by omega) (by omega) dX11_goesStep_100 ⟨ρ3, Z3, by rw [hE]; rfl, by rw [hE]; exact hF.up (Nat.le_succ mb) (by omega), mQ_tr q5 q6, by rw [hE]; exact Or.inl r3⟩
    · have hE : runB P j s b = (false, P) := by
        unfold runB
        rw [if_pos e0]
        exact (if_neg (fun q => hcp (q.elim Or.inr Or.inl)))
      first | refine a_aload_n K dX11_goesStep_0 rfl ?_ | refine a_aload_nN K dX11_goesStep_0 rfl ?_
      refine a_getRs K fd_X11_17 (by exact lm_o hM) (Or.inr ⟨_, rfl⟩) (by exact lm_r710 hM) dX11_goesStep_1 ?_
      refine a_iload_n K dX11_goesStep_4 rfl ?_
      refine a_iconst K dX11_goesStep_5 (v := 1) (by decide) ?_
      refine a_iadd K dX11_goesStep_6 ?_
      rw [show nI (4 * (16 * p + n)) + 1 = nI ((4 * (16 * p + n)) + 1) from by rw [show (1 : Int32) = nI 1 from rfl, nI_add]]
      refine a_iald K (by exact lm_kk hM (by decide) (by decide)) (by show vp_in _ (sN S (m 2)); exact lm_ix (z := 320) hM (by decide) (by decide) (show (4 * (16 * p + n)) + 1 < 320 by omega) (by decide)) dX11_goesStep_7 ?_
      rw [nI_clamp (by omega)]
      rw [show sA S (m 2) ((4 * (16 * p + n)) + 1) = s 1 from h.pl hg hs (by decide)]
      refine a_istore_n K dX11_goesStep_8 (by decide) ?_
      first | refine a_aload_n K dX11_goesStep_9 rfl ?_ | refine a_aload_nN K dX11_goesStep_9 rfl ?_
      refine a_getRs K fd_X11_17 (by exact lm_o hM) (Or.inr ⟨_, rfl⟩) (by exact lm_r710 hM) dX11_goesStep_10 ?_
      refine a_iload_n K dX11_goesStep_13 rfl ?_
      refine a_iconst K dX11_goesStep_14 (v := 2) (by decide) ?_
      refine a_iadd K dX11_goesStep_15 ?_
      rw [show nI (4 * (16 * p + n)) + 2 = nI ((4 * (16 * p + n)) + 2) from by rw [show (2 : Int32) = nI 2 from rfl, nI_add]]
      refine a_iald K (by exact lm_kk hM (by decide) (by decide)) (by show vp_in _ (sN S (m 2)); exact lm_ix (z := 320) hM (by decide) (by decide) (show (4 * (16 * p + n)) + 2 < 320 by omega) (by decide)) dX11_goesStep_16 ?_
      rw [nI_clamp (by omega)]
      rw [show sA S (m 2) ((4 * (16 * p + n)) + 2) = s 2 from h.pl hg hs (by decide)]
      refine a_istore K dX11_goesStep_17 (by decide) ?_
      first | refine a_aload_n K dX11_goesStep_19 rfl ?_ | refine a_aload_nN K dX11_goesStep_19 rfl ?_
      refine a_getRs K fd_X11_17 (by exact lm_o hM) (Or.inr ⟨_, rfl⟩) (by exact lm_r710 hM) dX11_goesStep_20 ?_
      refine a_iload_n K dX11_goesStep_23 rfl ?_
      refine a_iald K (by exact lm_kk hM (by decide) (by decide)) (by show vp_in _ (sN S (m 2)); exact lm_ix (z := 320) hM (by decide) (by decide) (show (4 * (16 * p + n)) < 320 by omega) (by decide)) dX11_goesStep_24 ?_
      rw [nI_clamp (by omega)]
      rw [show sA S (m 2) (4 * (16 * p + n)) = s 0 from h.pl hg hs (k := 0) (by decide)]
      rw [e0]
      refine a_tsIn K dX11_goesStep_25 (off := 35) (tgt := 60) (by decide) (by decide) rfl (by decide) ?_
      first | refine a_aload_n K dX11_goesStep_60 rfl ?_ | refine a_aload_nN K dX11_goesStep_60 rfl ?_
      refine a_iload_n K dX11_goesStep_61 rfl ?_
      refine a_iload_n K dX11_goesStep_62 rfl ?_
      refine a_invV K ((q_canPut h hP hb hj (k := s 1)).post (fun r S2 hp => (⟨bR_n hcp hp.1, hp.2⟩ : r = some (.int 0) ∧ RM S2 m ρ Z mb P ∧ frS S S2 (mQ m)))) my_X11_canPut ml_X11_397 im_X11_canPut se_X11_canPut (ci := 11) (by exact lm_o hM) (by decide) ⟨_, _, rfl⟩ rfl (by omega) (by omega) (by omega) rfl (Nat.le_of_ble_eq_true rfl) dX11_goesStep_63 ?_
      intro r9 S5 hp9
      obtain ⟨rfl, h5, q5⟩ := hp9
      have hM := h5.1
      refine a_if_ne K dX11_goesStep_66 (tgt := 71) (by decide) (fun c_66 => absurd c_66 (fun z => z rfl)) (fun c_66 => ?_)
      refine a_iconst K dX11_goesStep_69 (v := 0) (by decide) ?_
      exact a_iret K EE rfl (by omega) (by omega) dX11_goesStep_70 ⟨ρ, Z, by rw [hE]; rfl, by rw [hE]; exact h5.up (Nat.le_succ mb) (by omega), q5, by rw [hE]; exact Or.inl (by show rmM Z + (pU P - pU P) = _; omega)⟩
  · have hE : runB P j s b = (true, setT P j (takT (pW P) b.2.1 (pU P) (s 1) b.1) b.2.1 b.2.2) := by
      unfold runB
      rw [if_neg (by rw [e0]; decide), if_pos e0]
      exact congrArg (fun q => stT P j b q) (cut1 hw3 tz)
    first | refine a_aload_n K dX11_goesStep_0 rfl ?_ | refine a_aload_nN K dX11_goesStep_0 rfl ?_
    refine a_getRs K fd_X11_17 (by exact lm_o hM) (Or.inr ⟨_, rfl⟩) (by exact lm_r710 hM) dX11_goesStep_1 ?_
    refine a_iload_n K dX11_goesStep_4 rfl ?_
    refine a_iconst K dX11_goesStep_5 (v := 1) (by decide) ?_
    refine a_iadd K dX11_goesStep_6 ?_
    rw [show nI (4 * (16 * p + n)) + 1 = nI ((4 * (16 * p + n)) + 1) from by rw [show (1 : Int32) = nI 1 from rfl, nI_add]]
    refine a_iald K (by exact lm_kk hM (by decide) (by decide)) (by show vp_in _ (sN S (m 2)); exact lm_ix (z := 320) hM (by decide) (by decide) (show (4 * (16 * p + n)) + 1 < 320 by omega) (by decide)) dX11_goesStep_7 ?_
    rw [nI_clamp (by omega)]
    rw [show sA S (m 2) ((4 * (16 * p + n)) + 1) = s 1 from h.pl hg hs (by decide)]
    refine a_istore_n K dX11_goesStep_8 (by decide) ?_
    first | refine a_aload_n K dX11_goesStep_9 rfl ?_ | refine a_aload_nN K dX11_goesStep_9 rfl ?_
    refine a_getRs K fd_X11_17 (by exact lm_o hM) (Or.inr ⟨_, rfl⟩) (by exact lm_r710 hM) dX11_goesStep_10 ?_
    refine a_iload_n K dX11_goesStep_13 rfl ?_
    refine a_iconst K dX11_goesStep_14 (v := 2) (by decide) ?_
    refine a_iadd K dX11_goesStep_15 ?_
    rw [show nI (4 * (16 * p + n)) + 2 = nI ((4 * (16 * p + n)) + 2) from by rw [show (2 : Int32) = nI 2 from rfl, nI_add]]
    refine a_iald K (by exact lm_kk hM (by decide) (by decide)) (by show vp_in _ (sN S (m 2)); exact lm_ix (z := 320) hM (by decide) (by decide) (show (4 * (16 * p + n)) + 2 < 320 by omega) (by decide)) dX11_goesStep_16 ?_
    rw [nI_clamp (by omega)]
    rw [show sA S (m 2) ((4 * (16 * p + n)) + 2) = s 2 from h.pl hg hs (by decide)]
    refine a_istore K dX11_goesStep_17 (by decide) ?_
    first | refine a_aload_n K dX11_goesStep_19 rfl ?_ | refine a_aload_nN K dX11_goesStep_19 rfl ?_
    refine a_getRs K fd_X11_17 (by exact lm_o hM) (Or.inr ⟨_, rfl⟩) (by exact lm_r710 hM) dX11_goesStep_20 ?_
    refine a_iload_n K dX11_goesStep_23 rfl ?_
    refine a_iald K (by exact lm_kk hM (by decide) (by decide)) (by show vp_in _ (sN S (m 2)); exact lm_ix (z := 320) hM (by decide) (by decide) (show (4 * (16 * p + n)) < 320 by omega) (by decide)) dX11_goesStep_24 ?_
    rw [nI_clamp (by omega)]
    rw [show sA S (m 2) (4 * (16 * p + n)) = s 0 from h.pl hg hs (k := 0) (by decide)]
    rw [e0]
    refine a_tsIn K dX11_goesStep_25 (off := 76) (tgt := 101) (by decide) (by decide) rfl (by decide) ?_
    first | refine a_aload_n K dX11_goesStep_101 rfl ?_ | refine a_aload_nN K dX11_goesStep_101 rfl ?_
    refine a_getRs K fd_X11_76 (by exact lm_o hM) (Or.inr ⟨_, rfl⟩) (by exact lm_r739 hM) dX11_goesStep_102 ?_
    refine a_iload_n K dX11_goesStep_105 rfl ?_
    first | refine a_aload_n K dX11_goesStep_106 rfl ?_ | refine a_aload_nN K dX11_goesStep_106 rfl ?_
    first | refine a_aload_n K dX11_goesStep_107 rfl ?_ | refine a_aload_nN K dX11_goesStep_107 rfl ?_
    refine a_getRs K fd_X11_76 (by exact lm_o hM) (Or.inr ⟨_, rfl⟩) (by exact lm_r739 hM) dX11_goesStep_108 ?_
    refine a_iload_n K dX11_goesStep_111 rfl ?_
    refine a_iald K (by exact lm_kk hM (by decide) (by decide)) (by show vp_in _ (sN S (m 20)); exact lm_ix (z := 4) hM (by decide) (by decide) (show j < 4 by omega) (by decide)) dX11_goesStep_112 ?_
    rw [nI_clamp (by omega)]
    rw [(h.bro hj hb).1]
    refine a_iload_n K dX11_goesStep_113 rfl ?_
    first | refine a_aload_n K dX11_goesStep_114 rfl ?_ | refine a_aload_nN K dX11_goesStep_114 rfl ?_
    refine a_getRs K fd_X11_79 (by exact lm_o hM) (Or.inr ⟨_, rfl⟩) (by exact lm_r740 hM) dX11_goesStep_115 ?_
    refine a_iload_n K dX11_goesStep_118 rfl ?_
    refine a_iald K (by exact lm_kk hM (by decide) (by decide)) (by show vp_in _ (sN S (m 21)); exact lm_ix (z := 4) hM (by decide) (by decide) (show j < 4 by omega) (by decide)) dX11_goesStep_119 ?_
    rw [nI_clamp (by omega)]
    rw [(h.bro hj hb).2.1]
    refine a_invV K ((TS.rf (tk := b.2.1) h.N.1 h.N.2.1 (h.rep hbl)).take (key := s 1) h.1 h.N.2.2.1 (live_in hbl) (tok.tk9 hP tz).1 (by have h5 := (hP.2.2.1 j b hb).2.2.1; have h6 := hP.2.2.2; omega) h.wid hw3 hw6 tz.1 tz.2.2.2.1 (by omega) (by omega)) my_X11_takes ml_X11_339 im_X11_takes se_X11_takes (ci := 11) (by exact lm_o hM) (by decide) ⟨_, _, rfl⟩ rfl (by omega) (by omega) (by omega) rfl (Nat.le_of_ble_eq_true rfl) dX11_goesStep_120 ?_
    intro r9 W2 hp9
    obtain ⟨ρ3, Z3, rfl, ts3⟩ := hp9
    obtain ⟨hF, qF⟩ := RM_bset h hP hb hj ts3
    have r3 := ts3.1.F.2.2.1
    have hM := ts3.1.lay h.1
    refine a_iast K (by exact lm_kk hM (by decide) (by decide)) (by show vp_in _ (sN W2 (m 20)); exact lm_ix (z := 4) hM (by decide) (by decide) (show j < 4 by omega) (by decide)) dX11_goesStep_123 ?_
    rw [nI_clamp (by omega)]
    have hM := hF.1
    refine a_iconst K dX11_goesStep_124 (v := 1) (by decide) ?_
    exact a_iret K EE rfl (by omega) (by omega) dX11_goesStep_125 ⟨ρ3, Z3, by rw [hE]; rfl, by rw [hE]; exact hF.up (Nat.le_succ mb) (by omega), qF, by rw [hE]; exact Or.inl r3⟩
  · by_cases hcp : (ent b.1.1 b.1.2).length < 60 ∨ ¬ valIn (ent b.1.1 b.1.2) (s 1) = -1000000
    · have hE : runB P j s b = (true, setT P j (putT (pW P) b.2.1 (pU P) (s 1) (addV (ent b.1.1 b.1.2) (s 1) (s 2)) b.1) b.2.1 b.2.2) := by
        unfold runB
        rw [if_neg (by rw [e0]; decide), if_neg (by rw [e0]; decide), if_pos e0]
        exact (if_pos (hcp.elim Or.inr Or.inl))
      first | refine a_aload_n K dX11_goesStep_0 rfl ?_ | refine a_aload_nN K dX11_goesStep_0 rfl ?_
      refine a_getRs K fd_X11_17 (by exact lm_o hM) (Or.inr ⟨_, rfl⟩) (by exact lm_r710 hM) dX11_goesStep_1 ?_
      refine a_iload_n K dX11_goesStep_4 rfl ?_
      refine a_iconst K dX11_goesStep_5 (v := 1) (by decide) ?_
      refine a_iadd K dX11_goesStep_6 ?_
      rw [show nI (4 * (16 * p + n)) + 1 = nI ((4 * (16 * p + n)) + 1) from by rw [show (1 : Int32) = nI 1 from rfl, nI_add]]
      refine a_iald K (by exact lm_kk hM (by decide) (by decide)) (by show vp_in _ (sN S (m 2)); exact lm_ix (z := 320) hM (by decide) (by decide) (show (4 * (16 * p + n)) + 1 < 320 by omega) (by decide)) dX11_goesStep_7 ?_
      rw [nI_clamp (by omega)]
      rw [show sA S (m 2) ((4 * (16 * p + n)) + 1) = s 1 from h.pl hg hs (by decide)]
      refine a_istore_n K dX11_goesStep_8 (by decide) ?_
      first | refine a_aload_n K dX11_goesStep_9 rfl ?_ | refine a_aload_nN K dX11_goesStep_9 rfl ?_
      refine a_getRs K fd_X11_17 (by exact lm_o hM) (Or.inr ⟨_, rfl⟩) (by exact lm_r710 hM) dX11_goesStep_10 ?_
      refine a_iload_n K dX11_goesStep_13 rfl ?_
      refine a_iconst K dX11_goesStep_14 (v := 2) (by decide) ?_
      refine a_iadd K dX11_goesStep_15 ?_
      rw [show nI (4 * (16 * p + n)) + 2 = nI ((4 * (16 * p + n)) + 2) from by rw [show (2 : Int32) = nI 2 from rfl, nI_add]]
      refine a_iald K (by exact lm_kk hM (by decide) (by decide)) (by show vp_in _ (sN S (m 2)); exact lm_ix (z := 320) hM (by decide) (by decide) (show (4 * (16 * p + n)) + 2 < 320 by omega) (by decide)) dX11_goesStep_16 ?_
      rw [nI_clamp (by omega)]
      rw [show sA S (m 2) ((4 * (16 * p + n)) + 2) = s 2 from h.pl hg hs (by decide)]
      refine a_istore K dX11_goesStep_17 (by decide) ?_
      first | refine a_aload_n K dX11_goesStep_19 rfl ?_ | refine a_aload_nN K dX11_goesStep_19 rfl ?_
      refine a_getRs K fd_X11_17 (by exact lm_o hM) (Or.inr ⟨_, rfl⟩) (by exact lm_r710 hM) dX11_goesStep_20 ?_
      refine a_iload_n K dX11_goesStep_23 rfl ?_
      refine a_iald K (by exact lm_kk hM (by decide) (by decide)) (by show vp_in _ (sN S (m 2)); exact lm_ix (z := 320) hM (by decide) (by decide) (show (4 * (16 * p + n)) < 320 by omega) (by decide)) dX11_goesStep_24 ?_
      rw [nI_clamp (by omega)]
      rw [show sA S (m 2) (4 * (16 * p + n)) = s 0 from h.pl hg hs (k := 0) (by decide)]
      rw [e0]
      refine a_tsIn K dX11_goesStep_25 (off := 35) (tgt := 60) (by decide) (by decide) rfl (by decide) ?_
      first | refine a_aload_n K dX11_goesStep_60 rfl ?_ | refine a_aload_nN K dX11_goesStep_60 rfl ?_
      refine a_iload_n K dX11_goesStep_61 rfl ?_
      refine a_iload_n K dX11_goesStep_62 rfl ?_
      refine a_invV K ((q_canPut h hP hb hj (k := s 1)).post (fun r S2 hp => (⟨bR_y hcp hp.1, hp.2⟩ : r = some (.int 1) ∧ RM S2 m ρ Z mb P ∧ frS S S2 (mQ m)))) my_X11_canPut ml_X11_397 im_X11_canPut se_X11_canPut (ci := 11) (by exact lm_o hM) (by decide) ⟨_, _, rfl⟩ rfl (by omega) (by omega) (by omega) rfl (Nat.le_of_ble_eq_true rfl) dX11_goesStep_63 ?_
      intro r9 S5 hp9
      obtain ⟨rfl, h5, q5⟩ := hp9
      have hM := h5.1
      refine a_if_ne K dX11_goesStep_66 (tgt := 71) (by decide) (fun c_66 => ?_) (fun c_66 => absurd c_66 (by decide))
      first | refine a_aload_n K dX11_goesStep_71 rfl ?_ | refine a_aload_nN K dX11_goesStep_71 rfl ?_
      refine a_getRs K fd_X11_17 (by exact lm_o hM) (Or.inr ⟨_, rfl⟩) (by exact lm_r710 hM) dX11_goesStep_72 ?_
      refine a_iload_n K dX11_goesStep_75 rfl ?_
      refine a_iald K (by exact lm_kk hM (by decide) (by decide)) (by show vp_in _ (sN S5 (m 2)); exact lm_ix (z := 320) hM (by decide) (by decide) (show (4 * (16 * p + n)) < 320 by omega) (by decide)) dX11_goesStep_76 ?_
      rw [nI_clamp (by omega)]
      rw [show sA S5 (m 2) (4 * (16 * p + n)) = s 0 from h5.pl hg hs (k := 0) (by decide)]
      rw [e0]
      refine a_if_ne K dX11_goesStep_77 (tgt := 91) (by decide) (fun c_77 => ?_) (fun c_77 => absurd c_77 (by decide))
      first | refine a_aload_n K dX11_goesStep_91 rfl ?_ | refine a_aload_nN K dX11_goesStep_91 rfl ?_
      refine a_iload_n K dX11_goesStep_92 rfl ?_
      refine a_iload_n K dX11_goesStep_93 rfl ?_
      refine a_iload K dX11_goesStep_94 rfl ?_
      refine a_invV K (q_bAddsR h5 hP hb hj (by omega)) my_X11_builderAdds ml_X11_387 im_X11_builderAdds se_X11_builderAdds (ci := 11) (by exact lm_o hM) (by decide) ⟨_, _, rfl⟩ rfl (by omega) (by omega) (by omega) rfl (Nat.le_of_ble_eq_true rfl) dX11_goesStep_96 ?_
      intro r9 S6 hp9
      obtain ⟨ρ3, Z3, rfl, hF, q6, o3, r3⟩ := hp9
      refine a_iconst K dX11_goesStep_99 (v := 1) (by decide) ?_
      exact a_iret K EE rfl (by omega) (by omega) dX11_goesStep_100 ⟨ρ3, Z3, by rw [hE]; rfl, by rw [hE]; exact hF.up (Nat.le_succ mb) (by omega), mQ_tr q5 q6, by rw [hE]; exact Or.inl r3⟩
    · have hE : runB P j s b = (false, P) := by
        unfold runB
        rw [if_neg (by rw [e0]; decide), if_neg (by rw [e0]; decide), if_pos e0]
        exact (if_neg (fun q => hcp (q.elim Or.inr Or.inl)))
      first | refine a_aload_n K dX11_goesStep_0 rfl ?_ | refine a_aload_nN K dX11_goesStep_0 rfl ?_
      refine a_getRs K fd_X11_17 (by exact lm_o hM) (Or.inr ⟨_, rfl⟩) (by exact lm_r710 hM) dX11_goesStep_1 ?_
      refine a_iload_n K dX11_goesStep_4 rfl ?_
      refine a_iconst K dX11_goesStep_5 (v := 1) (by decide) ?_
      refine a_iadd K dX11_goesStep_6 ?_
      rw [show nI (4 * (16 * p + n)) + 1 = nI ((4 * (16 * p + n)) + 1) from by rw [show (1 : Int32) = nI 1 from rfl, nI_add]]
      refine a_iald K (by exact lm_kk hM (by decide) (by decide)) (by show vp_in _ (sN S (m 2)); exact lm_ix (z := 320) hM (by decide) (by decide) (show (4 * (16 * p + n)) + 1 < 320 by omega) (by decide)) dX11_goesStep_7 ?_
      rw [nI_clamp (by omega)]
      rw [show sA S (m 2) ((4 * (16 * p + n)) + 1) = s 1 from h.pl hg hs (by decide)]
      refine a_istore_n K dX11_goesStep_8 (by decide) ?_
      first | refine a_aload_n K dX11_goesStep_9 rfl ?_ | refine a_aload_nN K dX11_goesStep_9 rfl ?_
      refine a_getRs K fd_X11_17 (by exact lm_o hM) (Or.inr ⟨_, rfl⟩) (by exact lm_r710 hM) dX11_goesStep_10 ?_
      refine a_iload_n K dX11_goesStep_13 rfl ?_
      refine a_iconst K dX11_goesStep_14 (v := 2) (by decide) ?_
      refine a_iadd K dX11_goesStep_15 ?_
      rw [show nI (4 * (16 * p + n)) + 2 = nI ((4 * (16 * p + n)) + 2) from by rw [show (2 : Int32) = nI 2 from rfl, nI_add]]
      refine a_iald K (by exact lm_kk hM (by decide) (by decide)) (by show vp_in _ (sN S (m 2)); exact lm_ix (z := 320) hM (by decide) (by decide) (show (4 * (16 * p + n)) + 2 < 320 by omega) (by decide)) dX11_goesStep_16 ?_
      rw [nI_clamp (by omega)]
      rw [show sA S (m 2) ((4 * (16 * p + n)) + 2) = s 2 from h.pl hg hs (by decide)]
      refine a_istore K dX11_goesStep_17 (by decide) ?_
      first | refine a_aload_n K dX11_goesStep_19 rfl ?_ | refine a_aload_nN K dX11_goesStep_19 rfl ?_
      refine a_getRs K fd_X11_17 (by exact lm_o hM) (Or.inr ⟨_, rfl⟩) (by exact lm_r710 hM) dX11_goesStep_20 ?_
      refine a_iload_n K dX11_goesStep_23 rfl ?_
      refine a_iald K (by exact lm_kk hM (by decide) (by decide)) (by show vp_in _ (sN S (m 2)); exact lm_ix (z := 320) hM (by decide) (by decide) (show (4 * (16 * p + n)) < 320 by omega) (by decide)) dX11_goesStep_24 ?_
      rw [nI_clamp (by omega)]
      rw [show sA S (m 2) (4 * (16 * p + n)) = s 0 from h.pl hg hs (k := 0) (by decide)]
      rw [e0]
      refine a_tsIn K dX11_goesStep_25 (off := 35) (tgt := 60) (by decide) (by decide) rfl (by decide) ?_
      first | refine a_aload_n K dX11_goesStep_60 rfl ?_ | refine a_aload_nN K dX11_goesStep_60 rfl ?_
      refine a_iload_n K dX11_goesStep_61 rfl ?_
      refine a_iload_n K dX11_goesStep_62 rfl ?_
      refine a_invV K ((q_canPut h hP hb hj (k := s 1)).post (fun r S2 hp => (⟨bR_n hcp hp.1, hp.2⟩ : r = some (.int 0) ∧ RM S2 m ρ Z mb P ∧ frS S S2 (mQ m)))) my_X11_canPut ml_X11_397 im_X11_canPut se_X11_canPut (ci := 11) (by exact lm_o hM) (by decide) ⟨_, _, rfl⟩ rfl (by omega) (by omega) (by omega) rfl (Nat.le_of_ble_eq_true rfl) dX11_goesStep_63 ?_
      intro r9 S5 hp9
      obtain ⟨rfl, h5, q5⟩ := hp9
      have hM := h5.1
      refine a_if_ne K dX11_goesStep_66 (tgt := 71) (by decide) (fun c_66 => absurd c_66 (fun z => z rfl)) (fun c_66 => ?_)
      refine a_iconst K dX11_goesStep_69 (v := 0) (by decide) ?_
      exact a_iret K EE rfl (by omega) (by omega) dX11_goesStep_70 ⟨ρ, Z, by rw [hE]; rfl, by rw [hE]; exact h5.up (Nat.le_succ mb) (by omega), q5, by rw [hE]; exact Or.inl (by show rmM Z + (pU P - pU P) = _; omega)⟩
  · have hE : runB P j s b = (true, setT P j (cutE (pW P) b.2.1 (s 1) (s 2) (ent b.1.1 b.1.2) (b.1, pU P)) b.2.1 b.2.2) := by
      unfold runB
      rw [if_neg (by rw [e0]; decide), if_neg (by rw [e0]; decide), if_neg (by rw [e0]; decide), if_pos e0]
      rfl
    first | refine a_aload_n K dX11_goesStep_0 rfl ?_ | refine a_aload_nN K dX11_goesStep_0 rfl ?_
    refine a_getRs K fd_X11_17 (by exact lm_o hM) (Or.inr ⟨_, rfl⟩) (by exact lm_r710 hM) dX11_goesStep_1 ?_
    refine a_iload_n K dX11_goesStep_4 rfl ?_
    refine a_iconst K dX11_goesStep_5 (v := 1) (by decide) ?_
    refine a_iadd K dX11_goesStep_6 ?_
    rw [show nI (4 * (16 * p + n)) + 1 = nI ((4 * (16 * p + n)) + 1) from by rw [show (1 : Int32) = nI 1 from rfl, nI_add]]
    refine a_iald K (by exact lm_kk hM (by decide) (by decide)) (by show vp_in _ (sN S (m 2)); exact lm_ix (z := 320) hM (by decide) (by decide) (show (4 * (16 * p + n)) + 1 < 320 by omega) (by decide)) dX11_goesStep_7 ?_
    rw [nI_clamp (by omega)]
    rw [show sA S (m 2) ((4 * (16 * p + n)) + 1) = s 1 from h.pl hg hs (by decide)]
    refine a_istore_n K dX11_goesStep_8 (by decide) ?_
    first | refine a_aload_n K dX11_goesStep_9 rfl ?_ | refine a_aload_nN K dX11_goesStep_9 rfl ?_
    refine a_getRs K fd_X11_17 (by exact lm_o hM) (Or.inr ⟨_, rfl⟩) (by exact lm_r710 hM) dX11_goesStep_10 ?_
    refine a_iload_n K dX11_goesStep_13 rfl ?_
    refine a_iconst K dX11_goesStep_14 (v := 2) (by decide) ?_
    refine a_iadd K dX11_goesStep_15 ?_
    rw [show nI (4 * (16 * p + n)) + 2 = nI ((4 * (16 * p + n)) + 2) from by rw [show (2 : Int32) = nI 2 from rfl, nI_add]]
    refine a_iald K (by exact lm_kk hM (by decide) (by decide)) (by show vp_in _ (sN S (m 2)); exact lm_ix (z := 320) hM (by decide) (by decide) (show (4 * (16 * p + n)) + 2 < 320 by omega) (by decide)) dX11_goesStep_16 ?_
    rw [nI_clamp (by omega)]
    rw [show sA S (m 2) ((4 * (16 * p + n)) + 2) = s 2 from h.pl hg hs (by decide)]
    refine a_istore K dX11_goesStep_17 (by decide) ?_
    first | refine a_aload_n K dX11_goesStep_19 rfl ?_ | refine a_aload_nN K dX11_goesStep_19 rfl ?_
    refine a_getRs K fd_X11_17 (by exact lm_o hM) (Or.inr ⟨_, rfl⟩) (by exact lm_r710 hM) dX11_goesStep_20 ?_
    refine a_iload_n K dX11_goesStep_23 rfl ?_
    refine a_iald K (by exact lm_kk hM (by decide) (by decide)) (by show vp_in _ (sN S (m 2)); exact lm_ix (z := 320) hM (by decide) (by decide) (show (4 * (16 * p + n)) < 320 by omega) (by decide)) dX11_goesStep_24 ?_
    rw [nI_clamp (by omega)]
    rw [show sA S (m 2) (4 * (16 * p + n)) = s 0 from h.pl hg hs (k := 0) (by decide)]
    rw [e0]
    refine a_tsIn K dX11_goesStep_25 (off := 101) (tgt := 126) (by decide) (by decide) rfl (by decide) ?_
    first | refine a_aload_n K dX11_goesStep_126 rfl ?_ | refine a_aload_nN K dX11_goesStep_126 rfl ?_
    refine a_getRs K fd_X11_76 (by exact lm_o hM) (Or.inr ⟨_, rfl⟩) (by exact lm_r739 hM) dX11_goesStep_127 ?_
    refine a_iload_n K dX11_goesStep_130 rfl ?_
    first | refine a_aload_n K dX11_goesStep_131 rfl ?_ | refine a_aload_nN K dX11_goesStep_131 rfl ?_
    first | refine a_aload_n K dX11_goesStep_132 rfl ?_ | refine a_aload_nN K dX11_goesStep_132 rfl ?_
    refine a_getRs K fd_X11_76 (by exact lm_o hM) (Or.inr ⟨_, rfl⟩) (by exact lm_r739 hM) dX11_goesStep_133 ?_
    refine a_iload_n K dX11_goesStep_136 rfl ?_
    refine a_iald K (by exact lm_kk hM (by decide) (by decide)) (by show vp_in _ (sN S (m 20)); exact lm_ix (z := 4) hM (by decide) (by decide) (show j < 4 by omega) (by decide)) dX11_goesStep_137 ?_
    rw [nI_clamp (by omega)]
    rw [(h.bro hj hb).1]
    refine a_iload_n K dX11_goesStep_138 rfl ?_
    refine a_iload K dX11_goesStep_139 rfl ?_
    refine a_iconst K dX11_goesStep_141 (v := 1) (by decide) ?_
    first | refine a_aload_n K dX11_goesStep_142 rfl ?_ | refine a_aload_nN K dX11_goesStep_142 rfl ?_
    refine a_getRs K fd_X11_79 (by exact lm_o hM) (Or.inr ⟨_, rfl⟩) (by exact lm_r740 hM) dX11_goesStep_143 ?_
    refine a_iload_n K dX11_goesStep_146 rfl ?_
    refine a_iald K (by exact lm_kk hM (by decide) (by decide)) (by show vp_in _ (sN S (m 21)); exact lm_ix (z := 4) hM (by decide) (by decide) (show j < 4 by omega) (by decide)) dX11_goesStep_147 ?_
    rw [nI_clamp (by omega)]
    rw [(h.bro hj hb).2.1]
    refine a_invV K (q_cuts (bt := true) (tk := b.2.1) (tk9 := pTk P) (w := pW P) (u := pU P) h.1 h.wid hw3 hw6 (h.rep hbl) tz h.N.1 h.N.2.1 h.N.2.2.1 (live_in hbl) (hP.2.2.1 j b hb).2.2.1 (by have h6 := hP.2.2.2; omega) (by omega)) my_X11_cuts ml_X11_377 im_X11_cuts se_X11_cuts (ci := 11) (by exact lm_o hM) (by decide) ⟨_, _, rfl⟩ rfl (by omega) (by omega) (by omega) rfl (Nat.le_of_ble_eq_true rfl) dX11_goesStep_148 ?_
    intro r9 W2 hp9
    obtain ⟨ρ3, Z3, W1, rfl, f4, ts3⟩ := hp9
    obtain ⟨h4, q4⟩ := h.scr hP f4 (by decide) (by decide)
    rw [← cutE_tk] at ts3 ⊢
    obtain ⟨hF, qF⟩ := RM_bset h4 hP hb hj ts3
    have r3 := ts3.1.F.2.2.1
    have hM := ts3.1.lay h4.1
    refine a_iast K (by exact lm_kk hM (by decide) (by decide)) (by show vp_in _ (sN W2 (m 20)); exact lm_ix (z := 4) hM (by decide) (by decide) (show j < 4 by omega) (by decide)) dX11_goesStep_151 ?_
    rw [nI_clamp (by omega)]
    have hM := hF.1
    refine a_iconst K dX11_goesStep_152 (v := 1) (by decide) ?_
    exact a_iret K EE rfl (by omega) (by omega) dX11_goesStep_153 ⟨ρ3, Z3, by rw [hE]; rfl, by rw [hE]; exact hF.up (Nat.le_succ mb) (by omega), mQ_tr q4 qF, by rw [hE]; exact Or.inl r3⟩
  · have hE : runB P j s b = (true, setT P j (raiE (pW P) b.2.1 (s 1) (s 2) (s 3) (ent b.1.1 b.1.2) (b.1, pU P)) b.2.1 b.2.2) := by
      unfold runB
      rw [if_neg (by rw [e0]; decide), if_neg (by rw [e0]; decide), if_neg (by rw [e0]; decide), if_neg (by rw [e0]; decide), if_pos e0]
      rfl
    first | refine a_aload_n K dX11_goesStep_0 rfl ?_ | refine a_aload_nN K dX11_goesStep_0 rfl ?_
    refine a_getRs K fd_X11_17 (by exact lm_o hM) (Or.inr ⟨_, rfl⟩) (by exact lm_r710 hM) dX11_goesStep_1 ?_
    refine a_iload_n K dX11_goesStep_4 rfl ?_
    refine a_iconst K dX11_goesStep_5 (v := 1) (by decide) ?_
    refine a_iadd K dX11_goesStep_6 ?_
    rw [show nI (4 * (16 * p + n)) + 1 = nI ((4 * (16 * p + n)) + 1) from by rw [show (1 : Int32) = nI 1 from rfl, nI_add]]
    refine a_iald K (by exact lm_kk hM (by decide) (by decide)) (by show vp_in _ (sN S (m 2)); exact lm_ix (z := 320) hM (by decide) (by decide) (show (4 * (16 * p + n)) + 1 < 320 by omega) (by decide)) dX11_goesStep_7 ?_
    rw [nI_clamp (by omega)]
    rw [show sA S (m 2) ((4 * (16 * p + n)) + 1) = s 1 from h.pl hg hs (by decide)]
    refine a_istore_n K dX11_goesStep_8 (by decide) ?_
    first | refine a_aload_n K dX11_goesStep_9 rfl ?_ | refine a_aload_nN K dX11_goesStep_9 rfl ?_
    refine a_getRs K fd_X11_17 (by exact lm_o hM) (Or.inr ⟨_, rfl⟩) (by exact lm_r710 hM) dX11_goesStep_10 ?_
    refine a_iload_n K dX11_goesStep_13 rfl ?_
    refine a_iconst K dX11_goesStep_14 (v := 2) (by decide) ?_
    refine a_iadd K dX11_goesStep_15 ?_
    rw [show nI (4 * (16 * p + n)) + 2 = nI ((4 * (16 * p + n)) + 2) from by rw [show (2 : Int32) = nI 2 from rfl, nI_add]]
    refine a_iald K (by exact lm_kk hM (by decide) (by decide)) (by show vp_in _ (sN S (m 2)); exact lm_ix (z := 320) hM (by decide) (by decide) (show (4 * (16 * p + n)) + 2 < 320 by omega) (by decide)) dX11_goesStep_16 ?_
    rw [nI_clamp (by omega)]
    rw [show sA S (m 2) ((4 * (16 * p + n)) + 2) = s 2 from h.pl hg hs (by decide)]
    refine a_istore K dX11_goesStep_17 (by decide) ?_
    first | refine a_aload_n K dX11_goesStep_19 rfl ?_ | refine a_aload_nN K dX11_goesStep_19 rfl ?_
    refine a_getRs K fd_X11_17 (by exact lm_o hM) (Or.inr ⟨_, rfl⟩) (by exact lm_r710 hM) dX11_goesStep_20 ?_
    refine a_iload_n K dX11_goesStep_23 rfl ?_
    refine a_iald K (by exact lm_kk hM (by decide) (by decide)) (by show vp_in _ (sN S (m 2)); exact lm_ix (z := 320) hM (by decide) (by decide) (show (4 * (16 * p + n)) < 320 by omega) (by decide)) dX11_goesStep_24 ?_
    rw [nI_clamp (by omega)]
    rw [show sA S (m 2) (4 * (16 * p + n)) = s 0 from h.pl hg hs (k := 0) (by decide)]
    rw [e0]
    refine a_tsIn K dX11_goesStep_25 (off := 129) (tgt := 154) (by decide) (by decide) rfl (by decide) ?_
    first | refine a_aload_n K dX11_goesStep_154 rfl ?_ | refine a_aload_nN K dX11_goesStep_154 rfl ?_
    refine a_iload_n K dX11_goesStep_155 rfl ?_
    refine a_iload_n K dX11_goesStep_156 rfl ?_
    refine a_iload K dX11_goesStep_157 rfl ?_
    first | refine a_aload_n K dX11_goesStep_159 rfl ?_ | refine a_aload_nN K dX11_goesStep_159 rfl ?_
    refine a_getRs K fd_X11_17 (by exact lm_o hM) (Or.inr ⟨_, rfl⟩) (by exact lm_r710 hM) dX11_goesStep_160 ?_
    refine a_iload_n K dX11_goesStep_163 rfl ?_
    refine a_iconst K dX11_goesStep_164 (v := 3) (by decide) ?_
    refine a_iadd K dX11_goesStep_165 ?_
    rw [show nI (4 * (16 * p + n)) + 3 = nI ((4 * (16 * p + n)) + 3) from by rw [show (3 : Int32) = nI 3 from rfl, nI_add]]
    refine a_iald K (by exact lm_kk hM (by decide) (by decide)) (by show vp_in _ (sN S (m 2)); exact lm_ix (z := 320) hM (by decide) (by decide) (show (4 * (16 * p + n)) + 3 < 320 by omega) (by decide)) dX11_goesStep_166 ?_
    rw [nI_clamp (by omega)]
    rw [show sA S (m 2) ((4 * (16 * p + n)) + 3) = s 3 from h.pl hg hs (by decide)]
    refine a_invV K (q_bIncs h hP hb hj (by omega)) my_X11_builderIncs ml_X11_404 im_X11_builderIncs se_X11_builderIncs (ci := 11) (by exact lm_o hM) (by decide) ⟨_, _, rfl⟩ rfl (by omega) (by omega) (by omega) rfl (Nat.le_of_ble_eq_true rfl) dX11_goesStep_167 ?_
    intro r9 W2 hp9
    obtain ⟨ρ3, Z3, rfl, hF, qF, r3⟩ := hp9
    have hM := hF.1
    refine a_iconst K dX11_goesStep_170 (v := 1) (by decide) ?_
    exact a_iret K EE rfl (by omega) (by omega) dX11_goesStep_171 ⟨ρ3, Z3, by rw [hE]; rfl, by rw [hE]; exact hF.up (Nat.le_succ mb) (by omega), qF, by rw [hE]; exact Or.inl r3⟩
  · by_cases hr : hcnt (pH P) < 16 ∧ (pM P).length < 999
    · have hE : runB P j s b = (true, snpP P j b) := by
        unfold runB
        rw [if_neg (by rw [e0]; decide), if_neg (by rw [e0]; decide), if_neg (by rw [e0]; decide), if_neg (by rw [e0]; decide), if_neg (by rw [e0]; decide)]
        exact if_pos hr
      first | refine a_aload_n K dX11_goesStep_0 rfl ?_ | refine a_aload_nN K dX11_goesStep_0 rfl ?_
      refine a_getRs K fd_X11_17 (by exact lm_o hM) (Or.inr ⟨_, rfl⟩) (by exact lm_r710 hM) dX11_goesStep_1 ?_
      refine a_iload_n K dX11_goesStep_4 rfl ?_
      refine a_iconst K dX11_goesStep_5 (v := 1) (by decide) ?_
      refine a_iadd K dX11_goesStep_6 ?_
      rw [show nI (4 * (16 * p + n)) + 1 = nI ((4 * (16 * p + n)) + 1) from by rw [show (1 : Int32) = nI 1 from rfl, nI_add]]
      refine a_iald K (by exact lm_kk hM (by decide) (by decide)) (by show vp_in _ (sN S (m 2)); exact lm_ix (z := 320) hM (by decide) (by decide) (show (4 * (16 * p + n)) + 1 < 320 by omega) (by decide)) dX11_goesStep_7 ?_
      rw [nI_clamp (by omega)]
      rw [show sA S (m 2) ((4 * (16 * p + n)) + 1) = s 1 from h.pl hg hs (by decide)]
      refine a_istore_n K dX11_goesStep_8 (by decide) ?_
      first | refine a_aload_n K dX11_goesStep_9 rfl ?_ | refine a_aload_nN K dX11_goesStep_9 rfl ?_
      refine a_getRs K fd_X11_17 (by exact lm_o hM) (Or.inr ⟨_, rfl⟩) (by exact lm_r710 hM) dX11_goesStep_10 ?_
      refine a_iload_n K dX11_goesStep_13 rfl ?_
      refine a_iconst K dX11_goesStep_14 (v := 2) (by decide) ?_
      refine a_iadd K dX11_goesStep_15 ?_
      rw [show nI (4 * (16 * p + n)) + 2 = nI ((4 * (16 * p + n)) + 2) from by rw [show (2 : Int32) = nI 2 from rfl, nI_add]]
      refine a_iald K (by exact lm_kk hM (by decide) (by decide)) (by show vp_in _ (sN S (m 2)); exact lm_ix (z := 320) hM (by decide) (by decide) (show (4 * (16 * p + n)) + 2 < 320 by omega) (by decide)) dX11_goesStep_16 ?_
      rw [nI_clamp (by omega)]
      rw [show sA S (m 2) ((4 * (16 * p + n)) + 2) = s 2 from h.pl hg hs (by decide)]
      refine a_istore K dX11_goesStep_17 (by decide) ?_
      first | refine a_aload_n K dX11_goesStep_19 rfl ?_ | refine a_aload_nN K dX11_goesStep_19 rfl ?_
      refine a_getRs K fd_X11_17 (by exact lm_o hM) (Or.inr ⟨_, rfl⟩) (by exact lm_r710 hM) dX11_goesStep_20 ?_
      refine a_iload_n K dX11_goesStep_23 rfl ?_
      refine a_iald K (by exact lm_kk hM (by decide) (by decide)) (by show vp_in _ (sN S (m 2)); exact lm_ix (z := 320) hM (by decide) (by decide) (show (4 * (16 * p + n)) < 320 by omega) (by decide)) dX11_goesStep_24 ?_
      rw [nI_clamp (by omega)]
      rw [show sA S (m 2) (4 * (16 * p + n)) = s 0 from h.pl hg hs (k := 0) (by decide)]
      rw [e0]
      refine a_tsOut K dX11_goesStep_25 (tgt := 172) (by decide) (by decide) ?_
      first | refine a_aload_n K dX11_goesStep_172 rfl ?_ | refine a_aload_nN K dX11_goesStep_172 rfl ?_
      refine a_invV K ((h.room hl9 hc16).1 hr) my_X11_hasRoom ml_X11_289 im_X11_hasRoom se_X11_hasRoom (ci := 11) (by exact lm_o hM) (by decide) ⟨_, _, rfl⟩ rfl (by omega) (by omega) (by omega) rfl (Nat.le_of_ble_eq_true rfl) dX11_goesStep_173 ?_
      intro r9 S9 hp9
      obtain ⟨rfl, hS9⟩ := hp9
      obtain rfl := hS9.symm
      refine a_if_ne K dX11_goesStep_176 (tgt := 181) (by decide) (fun c_176 => ?_) (fun c_176 => absurd c_176 (by decide))
      first | refine a_aload_n K dX11_goesStep_181 rfl ?_ | refine a_aload_nN K dX11_goesStep_181 rfl ?_
      refine a_iload_n K dX11_goesStep_182 rfl ?_
      refine a_invV K (q_snapped h hJ hmb hb hj hr) my_X11_snapped ml_X11_407 im_X11_snapped se_X11_snapped (ci := 11) (by exact lm_o hM) (by decide) ⟨_, _, rfl⟩ rfl (by omega) (by omega) (by omega) rfl (Nat.le_of_ble_eq_true rfl) dX11_goesStep_183 ?_
      intro r9 S6 hp9
      obtain ⟨Z3, rfl, hF, q6, r3⟩ := hp9
      refine a_istore K dX11_goesStep_186 (by decide) ?_
      refine a_iconst K dX11_goesStep_188 (v := 1) (by decide) ?_
      exact a_iret K EE rfl (by omega) (by omega) dX11_goesStep_189 ⟨ρ, Z3, by rw [hE]; rfl, by rw [hE]; exact hF, q6, Or.inr r3⟩
    · have hE : runB P j s b = (false, P) := by
        unfold runB
        rw [if_neg (by rw [e0]; decide), if_neg (by rw [e0]; decide), if_neg (by rw [e0]; decide), if_neg (by rw [e0]; decide), if_neg (by rw [e0]; decide)]
        exact if_neg hr
      first | refine a_aload_n K dX11_goesStep_0 rfl ?_ | refine a_aload_nN K dX11_goesStep_0 rfl ?_
      refine a_getRs K fd_X11_17 (by exact lm_o hM) (Or.inr ⟨_, rfl⟩) (by exact lm_r710 hM) dX11_goesStep_1 ?_
      refine a_iload_n K dX11_goesStep_4 rfl ?_
      refine a_iconst K dX11_goesStep_5 (v := 1) (by decide) ?_
      refine a_iadd K dX11_goesStep_6 ?_
      rw [show nI (4 * (16 * p + n)) + 1 = nI ((4 * (16 * p + n)) + 1) from by rw [show (1 : Int32) = nI 1 from rfl, nI_add]]
      refine a_iald K (by exact lm_kk hM (by decide) (by decide)) (by show vp_in _ (sN S (m 2)); exact lm_ix (z := 320) hM (by decide) (by decide) (show (4 * (16 * p + n)) + 1 < 320 by omega) (by decide)) dX11_goesStep_7 ?_
      rw [nI_clamp (by omega)]
      rw [show sA S (m 2) ((4 * (16 * p + n)) + 1) = s 1 from h.pl hg hs (by decide)]
      refine a_istore_n K dX11_goesStep_8 (by decide) ?_
      first | refine a_aload_n K dX11_goesStep_9 rfl ?_ | refine a_aload_nN K dX11_goesStep_9 rfl ?_
      refine a_getRs K fd_X11_17 (by exact lm_o hM) (Or.inr ⟨_, rfl⟩) (by exact lm_r710 hM) dX11_goesStep_10 ?_
      refine a_iload_n K dX11_goesStep_13 rfl ?_
      refine a_iconst K dX11_goesStep_14 (v := 2) (by decide) ?_
      refine a_iadd K dX11_goesStep_15 ?_
      rw [show nI (4 * (16 * p + n)) + 2 = nI ((4 * (16 * p + n)) + 2) from by rw [show (2 : Int32) = nI 2 from rfl, nI_add]]
      refine a_iald K (by exact lm_kk hM (by decide) (by decide)) (by show vp_in _ (sN S (m 2)); exact lm_ix (z := 320) hM (by decide) (by decide) (show (4 * (16 * p + n)) + 2 < 320 by omega) (by decide)) dX11_goesStep_16 ?_
      rw [nI_clamp (by omega)]
      rw [show sA S (m 2) ((4 * (16 * p + n)) + 2) = s 2 from h.pl hg hs (by decide)]
      refine a_istore K dX11_goesStep_17 (by decide) ?_
      first | refine a_aload_n K dX11_goesStep_19 rfl ?_ | refine a_aload_nN K dX11_goesStep_19 rfl ?_
      refine a_getRs K fd_X11_17 (by exact lm_o hM) (Or.inr ⟨_, rfl⟩) (by exact lm_r710 hM) dX11_goesStep_20 ?_
      refine a_iload_n K dX11_goesStep_23 rfl ?_
      refine a_iald K (by exact lm_kk hM (by decide) (by decide)) (by show vp_in _ (sN S (m 2)); exact lm_ix (z := 320) hM (by decide) (by decide) (show (4 * (16 * p + n)) < 320 by omega) (by decide)) dX11_goesStep_24 ?_
      rw [nI_clamp (by omega)]
      rw [show sA S (m 2) (4 * (16 * p + n)) = s 0 from h.pl hg hs (k := 0) (by decide)]
      rw [e0]
      refine a_tsOut K dX11_goesStep_25 (tgt := 172) (by decide) (by decide) ?_
      first | refine a_aload_n K dX11_goesStep_172 rfl ?_ | refine a_aload_nN K dX11_goesStep_172 rfl ?_
      refine a_invV K ((h.room hl9 hc16).2 hr) my_X11_hasRoom ml_X11_289 im_X11_hasRoom se_X11_hasRoom (ci := 11) (by exact lm_o hM) (by decide) ⟨_, _, rfl⟩ rfl (by omega) (by omega) (by omega) rfl (Nat.le_of_ble_eq_true rfl) dX11_goesStep_173 ?_
      intro r9 S9 hp9
      obtain ⟨rfl, hS9⟩ := hp9
      obtain rfl := hS9.symm
      refine a_if_ne K dX11_goesStep_176 (tgt := 181) (by decide) (fun c_176 => absurd c_176 (fun z => z rfl)) (fun c_176 => ?_)
      refine a_iconst K dX11_goesStep_179 (v := 0) (by decide) ?_
      exact a_iret K EE rfl (by omega) (by omega) dX11_goesStep_180 ⟨ρ, Z, by rw [hE]; rfl, by rw [hE]; exact h.up (Nat.le_succ mb) (by omega), frS.rf, by rw [hE]; exact Or.inl (by show rmM Z + (pU P - pU P) = _; omega)⟩
theorem runS_b {P : PS} {j : Nat} {s : ST} {b : BI} (hb : pB P j = some b) : runS P j s = runB P j s b := by
  unfold runS
  rw [hb]
theorem cst67 {P Q : PS} {b c : BI} (hP : PI P) (hb : LvT P b.1) (h : cstR P b Q c) : pU Q ≤ pU P + 67 := by
  have h1 := ((hP.tz hb).h4 hP.1.1).2.2
  have h2 := un_le b.2.1 (ndl b.1.1 b.1.2)
  rcases h with q | q
  · omega
  · omega
set_option maxHeartbeats 4000000 in
set_option maxRecDepth 100000 in
theorem q_run {S : aw_S} {m ρ : Nat → Nat} {Z : List Nat × Nat} {mb n9 : Nat} {P : PS} (h0 : RM S m ρ Z mb P) (hJ : PJ n9 P) (hmb : mb + 20 < 2147483000) (hn9 : n9 + 20 < 1000000000) {pp i : Int32} : aw_M yX11_run cX11_run 5 (some FieldType.int) 11 0 0 [.ref (m 33), .int pp, .int i] S (fun r S2 => ∃ ρ2 Z2, r = some (.int (runF P pp i).1) ∧ RM S2 m ρ2 Z2 (mb + 20) (runF P pp i).2 ∧ frS S S2 (mQ m)) := by
  have hP := hJ.1
  have hw3 := hP.1.1
  have hM := h0.1
  have hl9 := hJ.ln
  have hw6 := hP.1.2
  have hpH := hJ.2.2.2.2.2.1.1
  have hc16 := hJ.2.2.2.2.2.1.2.1
  refine aw_enter (by decide +kernel) (Nat.le_of_ble_eq_true rfl) (fun g K EE => ?_)
  have h4g := hJ.2.2.2.1
  have h4p := h4g.1
  by_cases hp : ¬ (0 ≤ pp.toInt ∧ pp.toInt ≤ ((pG P).length : Int) - 1)
  · have hE : runF P pp i = (-1, refP P 0) := by
      unfold runF prgA
      rw [if_neg (fun q => hp ⟨q.1, by have := q.2; omega⟩)]
    first | refine a_aload_n K dX11_run_0 rfl ?_ | refine a_aload_nN K dX11_run_0 rfl ?_
    refine a_iconst K dX11_run_1 (v := 0) (by decide) ?_
    refine a_putI K fd_X11_116 (by exact lm_o hM) rfl dX11_run_2 ?_
    have f0 : frM S (wI S 704 (m 33) 0) m [] [704] := frM_wI (by decide) (by decide)
    obtain ⟨T, hT⟩ : ∃ T, T = wI S 704 (m 33) 0 := ⟨_, rfl⟩
    rw [← hT] at f0 ⊢
    obtain ⟨h, q0⟩ := h0.scr hP f0 (by decide) (by decide)
    have hM := h.1
    refine a_iload_n K dX11_run_5 rfl ?_
    refine a_i2l K dX11_run_6 ?_
    refine a_lconst K dX11_run_7 (v := 0) (by decide) ?_
    first | refine a_aload_n K dX11_run_8 rfl ?_ | refine a_aload_nN K dX11_run_8 rfl ?_
    refine a_getI K fd_X11_286 (by exact lm_o hM) (Or.inl rfl) dX11_run_9 ?_
    rw [show sI T 713 (m 33) = nI (pG P).length from h.2.1.2.1]
    refine a_iconst K dX11_run_12 (v := 1) (by decide) ?_
    refine a_isub K dX11_run_13 ?_
    refine a_i2l K dX11_run_14 ?_
    refine a_invS K (q_inN (p := 0) (q := ((pG P).length : Int) - 1) (by decide) (i64_pm (by omega)) hp) my_X11_isIn ml_X11_174 st_X11_isIn rfl (by omega) (by omega) (by omega) rfl (Nat.le_of_ble_eq_true rfl) dX11_run_15 ?_
    intro r9 S9 hp9
    obtain ⟨rfl, hS9⟩ := hp9
    obtain rfl := hS9.symm
    refine a_if_eq K dX11_run_18 (tgt := 30) (by decide) (fun c_18 => ?_) (fun c_18 => absurd c_18 (fun z => z rfl))
    refine a_iconst K dX11_run_30 (v := 0) (by decide) ?_
    refine a_istore_n K dX11_run_31 (by decide) ?_
    refine a_iload_n K dX11_run_32 rfl ?_
    refine a_iconst K dX11_run_33 (v := -1) (by decide) ?_
    refine a_icmp_eq K dX11_run_34 (tgt := 43) (by decide) (fun c_34 => absurd c_34 (by decide)) (fun c_34 => ?_)
    first | refine a_aload_n K dX11_run_37 rfl ?_ | refine a_aload_nN K dX11_run_37 rfl ?_
    refine a_iload_n K dX11_run_38 rfl ?_
    rw [show (0 : Int32) = nI 0 from rfl]
    refine a_invV K (q_refP h (k := 0) (by decide)) my_X11_refused ml_X11_292 im_X11_refused se_X11_refused (ci := 11) (by exact lm_o hM) (by decide) ⟨_, _, rfl⟩ rfl (by omega) (by omega) (by omega) rfl (Nat.le_of_ble_eq_true rfl) dX11_run_39 ?_
    intro r9 S9 hp9
    obtain ⟨rfl, hR, qR⟩ := hp9
    exact a_iret K EE rfl (by omega) (by omega) dX11_run_42 ⟨ρ, Z, by rw [hE], by rw [hE]; exact hR.up (by omega) (by omega), mQ_tr q0 qR⟩
  have hp := Classical.not_not.mp hp
  obtain ⟨kp, hkp, e⟩ := i32_in (n := (pG P).length) (by omega) ⟨hp.1, by omega⟩
  subst e
  have hg := List.getElem?_eq_getElem hkp
  generalize (pG P)[kp]'hkp = gl at hg
  have h16 := (h4g.2 gl (List.mem_of_getElem? hg)).1
  have hsk := (h4g.2 gl (List.mem_of_getElem? hg)).2
  have hpa : prgA P (nI kp) = some gl := by
    unfold prgA
    rw [nI_toInt (by omega), nI_clamp (by omega), if_pos (by omega)]
    exact hg
  rcases stp_cs (P := P) (i := i) (ok := true) with ⟨hA, hv⟩ | ⟨j, hA, hob, hv⟩ | ⟨j, hA, hob, hb, hv⟩ | ⟨j, b, hA, hob, hb, hv⟩
  · have hE : runF P (nI kp) i = (-1, refP P 0) := by
      unfold runF
      rw [hpa, hA]
    first | refine a_aload_n K dX11_run_0 rfl ?_ | refine a_aload_nN K dX11_run_0 rfl ?_
    refine a_iconst K dX11_run_1 (v := 0) (by decide) ?_
    refine a_putI K fd_X11_116 (by exact lm_o hM) rfl dX11_run_2 ?_
    have f0 : frM S (wI S 704 (m 33) 0) m [] [704] := frM_wI (by decide) (by decide)
    obtain ⟨T, hT⟩ : ∃ T, T = wI S 704 (m 33) 0 := ⟨_, rfl⟩
    rw [← hT] at f0 ⊢
    obtain ⟨h, q0⟩ := h0.scr hP f0 (by decide) (by decide)
    have hM := h.1
    refine a_iload_n K dX11_run_5 rfl ?_
    refine a_i2l K dX11_run_6 ?_
    refine a_lconst K dX11_run_7 (v := 0) (by decide) ?_
    first | refine a_aload_n K dX11_run_8 rfl ?_ | refine a_aload_nN K dX11_run_8 rfl ?_
    refine a_getI K fd_X11_286 (by exact lm_o hM) (Or.inl rfl) dX11_run_9 ?_
    rw [show sI T 713 (m 33) = nI (pG P).length from h.2.1.2.1]
    refine a_iconst K dX11_run_12 (v := 1) (by decide) ?_
    refine a_isub K dX11_run_13 ?_
    refine a_i2l K dX11_run_14 ?_
    refine a_invS K (q_inY (p := 0) (q := ((pG P).length : Int) - 1) (by decide) (i64_pm (by omega)) hp) my_X11_isIn ml_X11_174 st_X11_isIn rfl (by omega) (by omega) (by omega) rfl (Nat.le_of_ble_eq_true rfl) dX11_run_15 ?_
    intro r9 S9 hp9
    obtain ⟨rfl, hS9⟩ := hp9
    obtain rfl := hS9.symm
    refine a_if_eq K dX11_run_18 (tgt := 30) (by decide) (fun c_18 => absurd c_18 (by decide)) (fun c_18 => ?_)
    first | refine a_aload_n K dX11_run_21 rfl ?_ | refine a_aload_nN K dX11_run_21 rfl ?_
    refine a_iload_n K dX11_run_22 rfl ?_
    refine a_iconst K dX11_run_23 (v := 1) (by decide) ?_
    refine a_invV K (q_stp1 (v := nI 0) h hv) my_X11_stops ml_X11_393 im_X11_stops se_X11_stops (ci := 11) (by exact lm_o hM) (by decide) ⟨_, _, rfl⟩ rfl (by omega) (by omega) (by omega) rfl (Nat.le_of_ble_eq_true rfl) dX11_run_24 ?_
    intro r9 S9 hp9
    obtain ⟨rfl, hS9⟩ := hp9
    obtain rfl := hS9.symm
    refine a_goto K dX11_run_27 (tgt := 31) (by decide) ?_
    refine a_istore_n K dX11_run_31 (by decide) ?_
    refine a_iload_n K dX11_run_32 rfl ?_
    refine a_iconst K dX11_run_33 (v := -1) (by decide) ?_
    refine a_icmp_eq K dX11_run_34 (tgt := 43) (by decide) (fun c_34 => absurd c_34 (by decide)) (fun c_34 => ?_)
    first | refine a_aload_n K dX11_run_37 rfl ?_ | refine a_aload_nN K dX11_run_37 rfl ?_
    refine a_iload_n K dX11_run_38 rfl ?_
    refine a_invV K (q_refP h (k := 0) (by decide)) my_X11_refused ml_X11_292 im_X11_refused se_X11_refused (ci := 11) (by exact lm_o hM) (by decide) ⟨_, _, rfl⟩ rfl (by omega) (by omega) (by omega) rfl (Nat.le_of_ble_eq_true rfl) dX11_run_39 ?_
    intro r9 S9 hp9
    obtain ⟨rfl, hR, qR⟩ := hp9
    exact a_iret K EE rfl (by omega) (by omega) dX11_run_42 ⟨ρ, Z, by rw [hE], by rw [hE]; exact hR.up (by omega) (by omega), mQ_tr q0 qR⟩
  · exact absurd hob (by decide)
  · have hE : runF P (nI kp) i = (-1, refP P 2) := by
      unfold runF
      rw [hpa, hA]
      show runC P gl j = _
      unfold runC
      rw [hb]
    first | refine a_aload_n K dX11_run_0 rfl ?_ | refine a_aload_nN K dX11_run_0 rfl ?_
    refine a_iconst K dX11_run_1 (v := 0) (by decide) ?_
    refine a_putI K fd_X11_116 (by exact lm_o hM) rfl dX11_run_2 ?_
    have f0 : frM S (wI S 704 (m 33) 0) m [] [704] := frM_wI (by decide) (by decide)
    obtain ⟨T, hT⟩ : ∃ T, T = wI S 704 (m 33) 0 := ⟨_, rfl⟩
    rw [← hT] at f0 ⊢
    obtain ⟨h, q0⟩ := h0.scr hP f0 (by decide) (by decide)
    have hM := h.1
    refine a_iload_n K dX11_run_5 rfl ?_
    refine a_i2l K dX11_run_6 ?_
    refine a_lconst K dX11_run_7 (v := 0) (by decide) ?_
    first | refine a_aload_n K dX11_run_8 rfl ?_ | refine a_aload_nN K dX11_run_8 rfl ?_
    refine a_getI K fd_X11_286 (by exact lm_o hM) (Or.inl rfl) dX11_run_9 ?_
    rw [show sI T 713 (m 33) = nI (pG P).length from h.2.1.2.1]
    refine a_iconst K dX11_run_12 (v := 1) (by decide) ?_
    refine a_isub K dX11_run_13 ?_
    refine a_i2l K dX11_run_14 ?_
    refine a_invS K (q_inY (p := 0) (q := ((pG P).length : Int) - 1) (by decide) (i64_pm (by omega)) hp) my_X11_isIn ml_X11_174 st_X11_isIn rfl (by omega) (by omega) (by omega) rfl (Nat.le_of_ble_eq_true rfl) dX11_run_15 ?_
    intro r9 S9 hp9
    obtain ⟨rfl, hS9⟩ := hp9
    obtain rfl := hS9.symm
    refine a_if_eq K dX11_run_18 (tgt := 30) (by decide) (fun c_18 => absurd c_18 (by decide)) (fun c_18 => ?_)
    first | refine a_aload_n K dX11_run_21 rfl ?_ | refine a_aload_nN K dX11_run_21 rfl ?_
    refine a_iload_n K dX11_run_22 rfl ?_
    refine a_iconst K dX11_run_23 (v := 1) (by decide) ?_
    refine a_invV K (q_stp1 (v := nI 2) h hv) my_X11_stops ml_X11_393 im_X11_stops se_X11_stops (ci := 11) (by exact lm_o hM) (by decide) ⟨_, _, rfl⟩ rfl (by omega) (by omega) (by omega) rfl (Nat.le_of_ble_eq_true rfl) dX11_run_24 ?_
    intro r9 S9 hp9
    obtain ⟨rfl, hS9⟩ := hp9
    obtain rfl := hS9.symm
    refine a_goto K dX11_run_27 (tgt := 31) (by decide) ?_
    refine a_istore_n K dX11_run_31 (by decide) ?_
    refine a_iload_n K dX11_run_32 rfl ?_
    refine a_iconst K dX11_run_33 (v := -1) (by decide) ?_
    refine a_icmp_eq K dX11_run_34 (tgt := 43) (by decide) (fun c_34 => absurd c_34 (by decide)) (fun c_34 => ?_)
    first | refine a_aload_n K dX11_run_37 rfl ?_ | refine a_aload_nN K dX11_run_37 rfl ?_
    refine a_iload_n K dX11_run_38 rfl ?_
    refine a_invV K (q_refP h (k := 2) (by decide)) my_X11_refused ml_X11_292 im_X11_refused se_X11_refused (ci := 11) (by exact lm_o hM) (by decide) ⟨_, _, rfl⟩ rfl (by omega) (by omega) (by omega) rfl (Nat.le_of_ble_eq_true rfl) dX11_run_39 ?_
    intro r9 S9 hp9
    obtain ⟨rfl, hR, qR⟩ := hp9
    exact a_iret K EE rfl (by omega) (by omega) dX11_run_42 ⟨ρ, Z, by rw [hE], by rw [hE]; exact hR.up (by omega) (by omega), mQ_tr q0 qR⟩
  · obtain ⟨rfl, hj⟩ := bAt_some hA
    have hE : runF P (nI kp) (nI j) = ((nI (0 + (runL j (gl.drop 0) P).1), (runL j (gl.drop 0) P).2) : Int32 × PS) := by
      unfold runF
      rw [hpa, hA]
      show runC P gl j = _
      unfold runC
      rw [hb, List.drop_zero, Nat.zero_add]
    obtain ⟨F, hF⟩ : ∃ F, ((nI (0 + (runL j (gl.drop 0) P).1), (runL j (gl.drop 0) P).2) : Int32 × PS) = F := ⟨_, rfl⟩
    rw [hF] at hE
    rw [hE] at EE
    obtain ⟨PG0, hPG0⟩ : ∃ G, pG P = G := ⟨_, rfl⟩
    rw [hPG0] at hg
    have loop : ∀ (n i : Nat) (x : Int32) (T : aw_S) (ρ : Nat → Nat) (Z : List Nat × Nat) (P : PS) (b : BI) (k : Nat), x = nI i → i + n = gl.length → RM T m ρ Z (mb + 1 + i) P → PJ k P → k + n < 1000000000 → pB P j = some b → pG P = PG0 → frS S T (mQ m) → 5000 < rmM Z + 67 * i → ((nI (i + (runL j (gl.drop i) P).1), (runL j (gl.drop i) P).2) : Int32 × PS) = F → aw g 5 T 0 0 [(4, .int x), (2, .int (nI j)), (1, .int (nI kp)), (0, .ref (m 33))] [] 50 := by
      intro n
      induction n with
      | zero =>
        intro i x T ρ Z P b k hx hi h hJ hk hb hPG hfr hrm hF
        subst hx
        have hM := h.1
        have hP := hJ.1
        refine a_iload K dX11_run_50 rfl ?_
        first | refine a_aload_n K dX11_run_52 rfl ?_ | refine a_aload_nN K dX11_run_52 rfl ?_
        refine a_getRs K fd_X11_20 (by exact lm_o hM) (Or.inr ⟨_, rfl⟩) (by exact lm_r711 hM) dX11_run_53 ?_
        refine a_iload_n K dX11_run_56 rfl ?_
        refine a_iald K (by exact lm_kk hM (by decide) (by decide)) (by show vp_in _ (sN T (m 3)); exact lm_ix (z := 5) hM (by decide) (by decide) (show kp < 5 by omega) (by decide)) dX11_run_57 ?_
        rw [nI_clamp (by omega)]
        rw [(h.2.2.2.2.2.1 kp gl (by rw [hPG]; exact hg)).1]
        refine a_icmp_ge K dX11_run_58 (tgt := 84) (by decide) (fun c_58 => ?_) (fun c_58 => absurd c_58 (fun z => z (nI_le (by omega) (by omega))))
        refine a_iload K dX11_run_84 rfl ?_
        exact a_iret K EE rfl (by omega) (by omega) dX11_run_86 ⟨ρ, Z, by rw [← hF, show i = gl.length by omega, List.drop_length]; rfl, by rw [← hF, show i = gl.length by omega, List.drop_length]; exact h.up (by omega) (by omega), hfr⟩
      | succ n ih =>
        intro i x T ρ Z P b k hx hi h hJ hk hb hPG hfr hrm hF
        subst hx
        have hM := h.1
        have hP := hJ.1
        have hil : i < gl.length := by omega
        have hdr : gl.drop i = gl[i] :: gl.drop (i + 1) := List.drop_eq_getElem_cons hil
        have hs := List.getElem?_eq_getElem hil
        generalize gl[i] = s at hs hdr
        have hsok := hsk s (List.mem_of_getElem? hs)
        obtain ⟨o1, o2, o3, c, hc, o4⟩ := runB_ok hJ (by omega) hb hsok
        have o5 := cst67 hP (bui_live hj hb) o4
        by_cases hy : (runB P j s b).1 = true
        · have hL := runL_y (l := gl.drop (i + 1)) (show runS P j s = (true, (runB P j s b).2) from (runS_b hb).trans (Prod.ext hy rfl))
          refine a_iload K dX11_run_50 rfl ?_
          first | refine a_aload_n K dX11_run_52 rfl ?_ | refine a_aload_nN K dX11_run_52 rfl ?_
          refine a_getRs K fd_X11_20 (by exact lm_o hM) (Or.inr ⟨_, rfl⟩) (by exact lm_r711 hM) dX11_run_53 ?_
          refine a_iload_n K dX11_run_56 rfl ?_
          refine a_iald K (by exact lm_kk hM (by decide) (by decide)) (by show vp_in _ (sN T (m 3)); exact lm_ix (z := 5) hM (by decide) (by decide) (show kp < 5 by omega) (by decide)) dX11_run_57 ?_
          rw [nI_clamp (by omega)]
          rw [(h.2.2.2.2.2.1 kp gl (by rw [hPG]; exact hg)).1]
          refine a_icmp_ge K dX11_run_58 (tgt := 84) (by decide) (fun c_58 => absurd c_58 (nI_ge (by omega) (by omega))) (fun c_58 => ?_)
          first | refine a_aload_n K dX11_run_61 rfl ?_ | refine a_aload_nN K dX11_run_61 rfl ?_
          refine a_iload_n K dX11_run_62 rfl ?_
          refine a_iconst K dX11_run_63 (v := 4) (by decide) ?_
          refine a_bipush K dX11_run_64 (v := 16) (by decide) ?_
          refine a_iload_n K dX11_run_66 rfl ?_
          refine a_imul K dX11_run_67 ?_
          rw [nI_16]
          refine a_iload K dX11_run_68 rfl ?_
          refine a_iadd K dX11_run_70 ?_
          rw [nI_add]
          refine a_imul K dX11_run_71 ?_
          rw [nI_4l]
          refine a_invV K (q_goesStep (p := kp) (n := i) (gp := gl) h hJ (by omega) (by rw [hPG]; exact hg) hs hb hj (by omega)) my_X11_goesStep ml_X11_429 im_X11_goesStep se_X11_goesStep (ci := 11) (by exact lm_o hM) (by decide) ⟨_, _, rfl⟩ rfl (by omega) (by omega) (by omega) rfl (Nat.le_of_ble_eq_true rfl) dX11_run_72 ?_
          intro r9 S9 hp9
          obtain ⟨ρ2, Z2, rfl, h2, q2, r2⟩ := hp9
          rw [if_pos hy]
          refine a_if_eq K dX11_run_75 (tgt := 84) (by decide) (fun c_75 => absurd c_75 (by decide)) (fun c_75 => ?_)
          refine a_iinc K dX11_run_78 (v := 1) rfl (by decide) (by decide) ?_
          refine a_goto K dX11_run_81 (tgt := 50) (by decide) ?_
          exact aw_locl rfl (ih (i + 1) _ S9 ρ2 Z2 (runB P j s b).2 c (k + 1) (nI_1 i) (by omega) h2 o1 (by omega) hc (o3.trans hPG) (mQ_tr hfr q2) (by omega) (by rw [hdr, hL, show i + ((runL j (gl.drop (i + 1)) (runB P j s b).2).1 + 1) = i + 1 + (runL j (gl.drop (i + 1)) (runB P j s b).2).1 by omega] at hF; exact hF))
        · have hL := runL_n (l := gl.drop (i + 1)) (show runS P j s = (false, (runB P j s b).2) from (runS_b hb).trans (Prod.ext (Bool.eq_false_iff.mpr hy) rfl))
          refine a_iload K dX11_run_50 rfl ?_
          first | refine a_aload_n K dX11_run_52 rfl ?_ | refine a_aload_nN K dX11_run_52 rfl ?_
          refine a_getRs K fd_X11_20 (by exact lm_o hM) (Or.inr ⟨_, rfl⟩) (by exact lm_r711 hM) dX11_run_53 ?_
          refine a_iload_n K dX11_run_56 rfl ?_
          refine a_iald K (by exact lm_kk hM (by decide) (by decide)) (by show vp_in _ (sN T (m 3)); exact lm_ix (z := 5) hM (by decide) (by decide) (show kp < 5 by omega) (by decide)) dX11_run_57 ?_
          rw [nI_clamp (by omega)]
          rw [(h.2.2.2.2.2.1 kp gl (by rw [hPG]; exact hg)).1]
          refine a_icmp_ge K dX11_run_58 (tgt := 84) (by decide) (fun c_58 => absurd c_58 (nI_ge (by omega) (by omega))) (fun c_58 => ?_)
          first | refine a_aload_n K dX11_run_61 rfl ?_ | refine a_aload_nN K dX11_run_61 rfl ?_
          refine a_iload_n K dX11_run_62 rfl ?_
          refine a_iconst K dX11_run_63 (v := 4) (by decide) ?_
          refine a_bipush K dX11_run_64 (v := 16) (by decide) ?_
          refine a_iload_n K dX11_run_66 rfl ?_
          refine a_imul K dX11_run_67 ?_
          rw [nI_16]
          refine a_iload K dX11_run_68 rfl ?_
          refine a_iadd K dX11_run_70 ?_
          rw [nI_add]
          refine a_imul K dX11_run_71 ?_
          rw [nI_4l]
          refine a_invV K (q_goesStep (p := kp) (n := i) (gp := gl) h hJ (by omega) (by rw [hPG]; exact hg) hs hb hj (by omega)) my_X11_goesStep ml_X11_429 im_X11_goesStep se_X11_goesStep (ci := 11) (by exact lm_o hM) (by decide) ⟨_, _, rfl⟩ rfl (by omega) (by omega) (by omega) rfl (Nat.le_of_ble_eq_true rfl) dX11_run_72 ?_
          intro r9 S9 hp9
          obtain ⟨ρ2, Z2, rfl, h2, q2, r2⟩ := hp9
          rw [if_neg hy]
          refine a_if_eq K dX11_run_75 (tgt := 84) (by decide) (fun c_75 => ?_) (fun c_75 => absurd c_75 (fun z => z rfl))
          refine a_iload K dX11_run_84 rfl ?_
          exact a_iret K EE rfl (by omega) (by omega) dX11_run_86 ⟨ρ2, Z2, by rw [← hF, hdr, hL]; rfl, by rw [← hF, hdr, hL]; exact h2.up (by omega) (by omega), mQ_tr hfr q2⟩
    first | refine a_aload_n K dX11_run_0 rfl ?_ | refine a_aload_nN K dX11_run_0 rfl ?_
    refine a_iconst K dX11_run_1 (v := 0) (by decide) ?_
    refine a_putI K fd_X11_116 (by exact lm_o hM) rfl dX11_run_2 ?_
    have f0 : frM S (wI S 704 (m 33) 0) m [] [704] := frM_wI (by decide) (by decide)
    obtain ⟨T, hT⟩ : ∃ T, T = wI S 704 (m 33) 0 := ⟨_, rfl⟩
    rw [← hT] at f0 ⊢
    obtain ⟨h, q0⟩ := h0.scr hP f0 (by decide) (by decide)
    have hM := h.1
    refine a_iload_n K dX11_run_5 rfl ?_
    refine a_i2l K dX11_run_6 ?_
    refine a_lconst K dX11_run_7 (v := 0) (by decide) ?_
    first | refine a_aload_n K dX11_run_8 rfl ?_ | refine a_aload_nN K dX11_run_8 rfl ?_
    refine a_getI K fd_X11_286 (by exact lm_o hM) (Or.inl rfl) dX11_run_9 ?_
    rw [show sI T 713 (m 33) = nI (pG P).length from h.2.1.2.1]
    refine a_iconst K dX11_run_12 (v := 1) (by decide) ?_
    refine a_isub K dX11_run_13 ?_
    refine a_i2l K dX11_run_14 ?_
    refine a_invS K (q_inY (p := 0) (q := ((pG P).length : Int) - 1) (by decide) (i64_pm (by omega)) hp) my_X11_isIn ml_X11_174 st_X11_isIn rfl (by omega) (by omega) (by omega) rfl (Nat.le_of_ble_eq_true rfl) dX11_run_15 ?_
    intro r9 S9 hp9
    obtain ⟨rfl, hS9⟩ := hp9
    obtain rfl := hS9.symm
    refine a_if_eq K dX11_run_18 (tgt := 30) (by decide) (fun c_18 => absurd c_18 (by decide)) (fun c_18 => ?_)
    first | refine a_aload_n K dX11_run_21 rfl ?_ | refine a_aload_nN K dX11_run_21 rfl ?_
    refine a_iload_n K dX11_run_22 rfl ?_
    refine a_iconst K dX11_run_23 (v := 1) (by decide) ?_
    refine a_invV K (q_stp1 (v := -1) h hv) my_X11_stops ml_X11_393 im_X11_stops se_X11_stops (ci := 11) (by exact lm_o hM) (by decide) ⟨_, _, rfl⟩ rfl (by omega) (by omega) (by omega) rfl (Nat.le_of_ble_eq_true rfl) dX11_run_24 ?_
    intro r9 S9 hp9
    obtain ⟨rfl, hS9⟩ := hp9
    obtain rfl := hS9.symm
    refine a_goto K dX11_run_27 (tgt := 31) (by decide) ?_
    refine a_istore_n K dX11_run_31 (by decide) ?_
    refine a_iload_n K dX11_run_32 rfl ?_
    refine a_iconst K dX11_run_33 (v := -1) (by decide) ?_
    refine a_icmp_eq K dX11_run_34 (tgt := 43) (by decide) (fun c_34 => ?_) (fun c_34 => absurd c_34 (fun z => z rfl))
    first | refine a_aload_n K dX11_run_43 rfl ?_ | refine a_aload_nN K dX11_run_43 rfl ?_
    refine a_invV K (q_swF h hJ (by omega)) my_X11_sweeps ml_X11_278 im_X11_sweeps se_X11_sweeps (ci := 11) (by exact lm_o hM) (by decide) ⟨_, _, rfl⟩ rfl (by omega) (by omega) (by omega) rfl (Nat.le_of_ble_eq_true rfl) dX11_run_44 ?_
    intro r9 S1 hp9
    obtain ⟨rfl, Z1, h1, hrm1, f1⟩ := hp9
    have q1 : frS T S1 (mQ m) := f1.mq (by decide)
    have hM := h1.1
    refine a_iconst K dX11_run_47 (v := 0) (by decide) ?_
    refine a_istore K dX11_run_48 (by decide) ?_
    exact aw_locl rfl (loop gl.length 0 _ S1 ρ Z1 P b n9 nI_0.symm (Nat.zero_add _) h1 hJ (by omega) hb hPG0 (mQ_tr q0 q1) (by omega) hF)
