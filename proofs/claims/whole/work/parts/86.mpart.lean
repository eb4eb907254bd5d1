/-! the model: a node parted -/
theorem lea_le {w : Nat} (h : w ≤ 6) : lea w ≤ 3 := by unfold lea; omega
theorem nI_half : ∀ {n : Nat}, n < 9 → nI n / 2 = nI (n / 2) := by
  intro n h
  rcases (by omega : n = 0 ∨ n = 1 ∨ n = 2 ∨ n = 3 ∨ n = 4 ∨ n = 5 ∨ n = 6 ∨ n = 7 ∨ n = 8) with rfl | rfl | rfl | rfl | rfl | rfl | rfl | rfl | rfl <;> decide
set_option maxHeartbeats 4000000 in
set_option maxRecDepth 100000 in
theorem q_parted {S : aw_S} {m : Nat → Nat} (hM : LM S m) {F F2 : List Nat} {u u2 r c w fo : Nat} {l : List KV} {t : Int32} (hw : sI S 723 (m 33) = nI w) (hw6 : w ≤ 6) (hF : FrM S m F u) (hroom : F.length = 0 → u < 12000) (hr : r < 12000) (hl : RwM S m r l) (h7 : l.length ≤ 7) (hlw : lea w ≤ l.length) (hfo : l.length - lea w = fo) (hcc : nxR F u = c) (hF2 : nxF F u = (F2, u2)) (hrc : ¬ r = c) (hc12 : c < 12000) : aw_M yX11_parted cX11_parted 7 (some FieldType.int) 1 0 0 [.ref (m 33), .int (nI r), .int t] S (fun q S2 => q = some (.int (nI c)) ∧ RwM S2 m r (l.take fo) ∧ RwM S2 m c (l.drop fo) ∧ gL S2 m r = gL S m r ∧ gT S2 m r = gT S m r ∧ gL S2 m c = gL S m r ∧ gT S2 m c = t ∧ FrM S2 m F2 u2 ∧ sI S2 724 (m 33) = sI S 724 (m 33) + 1 ∧ frR S S2 m (fun q => q = r ∨ q = c) [721, 722, 724]) := by
  have hl3 := lea_le hw6
  refine aw_enter (by decide +kernel) (Nat.le_of_ble_eq_true rfl) (fun g K EE => ?_)
  have loop : ∀ (n i : Nat) (x : Int32) (T : aw_S), x = nI i → i + n = lea w → LM T m → (∀ j, j < i → eM T m c j = eM S m r (fo + j)) → frR S T m (fun q => q = r ∨ q = c) [721, 722, 724] → (gL T m c = gL S m r ∧ gT T m c = t ∧ gL T m r = gL S m r ∧ gT T m r = gT S m r ∧ gN T m r = nI l.length ∧ ∀ j, j < 7 → eM T m r j = eM S m r j) ∧ FrM T m F2 u2 ∧ sI T 724 (m 33) = sI S 724 (m 33) + 1 → aw g 7 T 0 0 [(6, .int x), (5, .int (nI fo)), (4, .int (nI (lea w))), (3, .int (nI c)), (2, .int t), (1, .int (nI r)), (0, .ref (m 33))] [] 36 := by
    intro n
    induction n with
    | zero =>
      intro i x T hx hn hM he f hg
      subst hx
      refine a_iload K dX11_parted_36 rfl ?_
      refine a_iload K dX11_parted_38 rfl ?_
      refine a_icmp_ge K dX11_parted_40 (tgt := 103) (by decide) (fun c_40 => ?_) (fun c_40 => absurd c_40 (fun z => z (nI_le (a := lea w) (b := i) (by omega) (by omega))))
      first | refine a_aload_n K dX11_parted_103 rfl ?_ | refine a_aload_nN K dX11_parted_103 rfl ?_
      refine a_getRs K fd_X11_26 (by exact lm_o hM) (Or.inr ⟨_, rfl⟩) (by exact lm_r715 hM) dX11_parted_104 ?_
      refine a_iload_n K dX11_parted_107 rfl ?_
      refine a_iload K dX11_parted_108 rfl ?_
      refine a_iast K (by exact lm_kk hM (by decide) (by decide)) (by show vp_in _ (sN T (m 5)); exact lm_ix (z := 12000) hM (by decide) (by decide) (show c < 12000 by omega) (by decide)) dX11_parted_110 ?_
      rw [nI_clamp (by omega)]
      first | refine a_aload_n K dX11_parted_111 rfl ?_ | refine a_aload_nN K dX11_parted_111 rfl ?_
      refine a_getRs K fd_X11_26 (by exact lm_o hM) (Or.inr ⟨_, rfl⟩) (by exact lm_r715 hM) dX11_parted_112 ?_
      refine a_iload_n K dX11_parted_115 rfl ?_
      refine a_iload K dX11_parted_116 rfl ?_
      refine a_iast K (by exact lm_kk hM (by decide) (by decide)) (by show vp_in _ (sN T (m 5)); exact lm_ix (z := 12000) hM (by decide) (by decide) (show r < 12000 by omega) (by decide)) dX11_parted_118 ?_
      rw [nI_clamp (by omega)]
      refine a_iload_n K dX11_parted_119 rfl ?_
      exact a_iret K EE rfl (by omega) (by omega) dX11_parted_120 (by
        obtain ⟨a1, a2, a3, a4⟩ := n_fr (T := T) (r := c) (v := nI (lea w)) hM
        have hM2 := hM.fr a1.1.1
        obtain ⟨b1, b2, b3, b4⟩ := n_fr (T := wA T (m 5) c (nI (lea w))) (r := r) (v := nI fo) hM2
        have q1 := a1.2 r hr hrc
        have q2 := b1.2 c hc12 (fun z => hrc z.symm)
        refine ⟨rfl, ⟨b2.trans (congrArg nI (by rw [List.length_take]; omega)), fun k x hx => ?_⟩, ⟨q2.2.1.trans (a2.trans (congrArg nI (by rw [List.length_drop]; omega))), fun k x hx => ?_⟩, (b3 r).1.trans (q1.1.trans hg.1.2.2.1), (b3 r).2.trans (q1.2.2.1.trans hg.1.2.2.2.1), q2.1.trans ((a3 c).1.trans hg.1.1), q2.2.2.1.trans ((a3 c).2.trans hg.1.2.1), (hg.2.1.fr hM a1.1 (by decide) (by decide) (by decide) (by decide)).fr hM2 b1.1 (by decide) (by decide) (by decide) (by decide), (b1.1.2 724 (by decide)).trans ((a1.1.2 724 (by decide)).trans hg.2.2), (f.tr (a1.up (fun _ z => Or.inr z) (fun F hF => absurd hF (by simp)))).tr (b1.up (fun _ z => Or.inl z) (fun F hF => absurd hF (by simp)))⟩
        · rw [List.getElem?_take] at hx
          split at hx
          · have h9 := (List.getElem?_eq_some_iff.mp hx).1
            exact (b4 r k).trans ((a4 r k).trans ((hg.1.2.2.2.2.2 k (by omega)).trans (hl.2 k x hx)))
          · exact absurd hx (by simp)
        · rw [List.getElem?_drop] at hx
          have h9 := (List.getElem?_eq_some_iff.mp hx).1
          exact (b4 c k).trans ((a4 c k).trans ((he k (by omega)).trans (hl.2 (fo + k) x hx))))
    | succ n ih =>
      intro i x T hx hn hM he f hg
      subst hx
      refine a_iload K dX11_parted_36 rfl ?_
      refine a_iload K dX11_parted_38 rfl ?_
      refine a_icmp_ge K dX11_parted_40 (tgt := 103) (by decide) (fun c_40 => absurd c_40 (nI_ge (a := i) (b := lea w) (by omega) (by omega))) (fun c_40 => ?_)
      first | refine a_aload_n K dX11_parted_43 rfl ?_ | refine a_aload_nN K dX11_parted_43 rfl ?_
      refine a_getRs K fd_X11_39 (by exact lm_o hM) (Or.inr ⟨_, rfl⟩) (by exact lm_r719 hM) dX11_parted_44 ?_
      refine a_bipush K dX11_parted_47 (v := 7) (by decide) ?_
      refine a_iload_n K dX11_parted_49 rfl ?_
      refine a_imul K dX11_parted_50 ?_
      rw [nI_7]
      refine a_iload K dX11_parted_51 rfl ?_
      refine a_iadd K dX11_parted_53 ?_
      rw [nI_add]
      first | refine a_aload_n K dX11_parted_54 rfl ?_ | refine a_aload_nN K dX11_parted_54 rfl ?_
      refine a_getRs K fd_X11_39 (by exact lm_o hM) (Or.inr ⟨_, rfl⟩) (by exact lm_r719 hM) dX11_parted_55 ?_
      refine a_bipush K dX11_parted_58 (v := 7) (by decide) ?_
      refine a_iload_n K dX11_parted_60 rfl ?_
      refine a_imul K dX11_parted_61 ?_
      rw [nI_7]
      refine a_iload K dX11_parted_62 rfl ?_
      refine a_iadd K dX11_parted_64 ?_
      rw [nI_add]
      refine a_iload K dX11_parted_65 rfl ?_
      refine a_iadd K dX11_parted_67 ?_
      rw [nI_add]
      refine a_iald K (by exact lm_kk hM (by decide) (by decide)) (by show vp_in _ (sN T (m 9)); exact lm_ix (z := 84000) hM (by decide) (by decide) (show 7 * r + fo + i < 84000 by omega) (by decide)) dX11_parted_68 ?_
      rw [nI_clamp (by omega)]
      refine a_iast K (by exact lm_kk hM (by decide) (by decide)) (by show vp_in _ (sN T (m 9)); exact lm_ix (z := 84000) hM (by decide) (by decide) (show 7 * c + i < 84000 by omega) (by decide)) dX11_parted_69 ?_
      rw [nI_clamp (by omega)]
      first | refine a_aload_n K dX11_parted_70 rfl ?_ | refine a_aload_nN K dX11_parted_70 rfl ?_
      refine a_getRs K fd_X11_42 (by exact lm_o hM) (Or.inr ⟨_, rfl⟩) (by exact lm_r720 hM) dX11_parted_71 ?_
      refine a_bipush K dX11_parted_74 (v := 7) (by decide) ?_
      refine a_iload_n K dX11_parted_76 rfl ?_
      refine a_imul K dX11_parted_77 ?_
      rw [nI_7]
      refine a_iload K dX11_parted_78 rfl ?_
      refine a_iadd K dX11_parted_80 ?_
      rw [nI_add]
      first | refine a_aload_n K dX11_parted_81 rfl ?_ | refine a_aload_nN K dX11_parted_81 rfl ?_
      refine a_getRs K fd_X11_42 (by exact lm_o hM) (Or.inr ⟨_, rfl⟩) (by exact lm_r720 hM) dX11_parted_82 ?_
      refine a_bipush K dX11_parted_85 (v := 7) (by decide) ?_
      refine a_iload_n K dX11_parted_87 rfl ?_
      refine a_imul K dX11_parted_88 ?_
      rw [nI_7]
      refine a_iload K dX11_parted_89 rfl ?_
      refine a_iadd K dX11_parted_91 ?_
      rw [nI_add]
      refine a_iload K dX11_parted_92 rfl ?_
      refine a_iadd K dX11_parted_94 ?_
      rw [nI_add]
      refine a_iald K (by exact lm_kk hM (by decide) (by decide)) (by show vp_in _ (sN T (m 10)); exact lm_ix (z := 84000) hM (by decide) (by decide) (show 7 * r + fo + i < 84000 by omega) (by decide)) dX11_parted_95 ?_
      rw [nI_clamp (by omega)]
      rw [show sA (wA T (m 9) (7 * c + i) (sA T (m 9) (7 * r + fo + i))) (m 10) (7 * r + fo + i) = g2 T m r (fo + i) from by rw [sA_wA, if_neg (fun z => lm_ne hM (by decide) (by decide) (by decide) z.1)]; unfold g2; rw [Nat.add_assoc]]
      rw [show sA T (m 9) (7 * r + fo + i) = g1 T m r (fo + i) from by unfold g1; rw [Nat.add_assoc]]
      refine a_iast K (by exact lm_kk hM (by decide) (by decide)) (by show vp_in _ (sN T (m 10)); exact lm_ix (z := 84000) hM (by decide) (by decide) (show 7 * c + i < 84000 by omega) (by decide)) dX11_parted_96 ?_
      rw [nI_clamp (by omega)]
      refine a_iinc K dX11_parted_97 (v := 1) rfl (by decide) (by decide) ?_
      refine a_goto K dX11_parted_100 (tgt := 36) (by decide) ?_
      obtain ⟨s1, s2⟩ := st_fr (T := T) (r := c) (i := i) (a := g1 T m r (fo + i)) (b := g2 T m r (fo + i)) hM (by omega)
      have q1 := s1.2 r hr hrc
      exact aw_locl rfl (ih (i + 1) _ (stM T m c i (g1 T m r (fo + i)) (g2 T m r (fo + i))) (nI_1 i) (by omega) (hM.fr s1.1.1) (fun j hj => by
        rw [eM_st hM (by omega) (by omega)]
        by_cases e : j = i
        · rw [if_pos ⟨rfl, e⟩, e]
          exact hg.1.2.2.2.2.2 (fo + i) (by omega)
        · rw [if_neg (fun z => e z.2)]
          exact he j (by omega)) (f.tr (s1.up (fun _ z => Or.inr z) (fun F hF => absurd hF (by simp)))) ⟨⟨(s2 c).1.trans hg.1.1, (s2 c).2.2.trans hg.1.2.1, (s2 r).1.trans hg.1.2.2.1, (s2 r).2.2.trans hg.1.2.2.2.1, (s2 r).2.1.trans hg.1.2.2.2.2.1, fun j hj => (q1.2.2.2 j hj).trans (hg.1.2.2.2.2.2 j hj)⟩, hg.2.1.fr hM s1.1 (by decide) (by decide) (by decide) (by decide), (s1.1.2 724 (by decide)).trans hg.2.2⟩)
  first | refine a_aload_n K dX11_parted_0 rfl ?_ | refine a_aload_nN K dX11_parted_0 rfl ?_
  first | refine a_aload_n K dX11_parted_1 rfl ?_ | refine a_aload_nN K dX11_parted_1 rfl ?_
  refine a_getRs K fd_X11_23 (by exact lm_o hM) (Or.inr ⟨_, rfl⟩) (by exact lm_r714 hM) dX11_parted_2 ?_
  refine a_iload_n K dX11_parted_5 rfl ?_
  refine a_iald K (by exact lm_kk hM (by decide) (by decide)) (by show vp_in _ (sN S (m 4)); exact lm_ix (z := 12000) hM (by decide) (by decide) (show r < 12000 by omega) (by decide)) dX11_parted_6 ?_
  rw [nI_clamp (by omega)]
  refine a_iload_n K dX11_parted_7 rfl ?_
  refine a_invV K (m_fresh hM hF hroom (lf := sA S (m 4) r) (t := t)) my_X11_fresh ml_X11_193 im_X11_fresh se_X11_fresh (ci := 11) (by exact lm_o hM) (by decide) ⟨_, _, rfl⟩ rfl (by omega) (by omega) (by omega) rfl (Nat.le_of_ble_eq_true rfl) dX11_parted_8 ?_
  intro r9 S1 hp9
  obtain ⟨rfl, hF1, hL1, hN1, hT1, h7, f1⟩ := hp9
  rw [hcc] at hL1 hN1 hT1 f1
  rw [hF2] at hF1
  rw [hcc]
  have hM1 := f1.1.lay hM
  obtain ⟨gL1, gN1, gT1, gE1⟩ := f1.2 r hr hrc
  refine a_istore_n K dX11_parted_11 (by decide) ?_
  first | refine a_aload_n K dX11_parted_12 rfl ?_ | refine a_aload_nN K dX11_parted_12 rfl ?_
  refine a_getI K fd_X11_45 (by exact lm_o hM1) (Or.inl rfl) dX11_parted_13 ?_
  rw [show sI S1 723 (m 33) = nI w from (f1.1.2 723 (by decide)).trans hw]
  refine a_iconst K dX11_parted_16 (v := 1) (by decide) ?_
  refine a_iadd K dX11_parted_17 ?_
  rw [nI_1]
  refine a_iconst K dX11_parted_18 (v := 2) (by decide) ?_
  refine a_idiv K dX11_parted_19 (by decide) ?_
  rw [nI_half (by omega)]
  rw [show (w + 1) / 2 = lea w from rfl]
  refine a_istore K dX11_parted_20 (by decide) ?_
  first | refine a_aload_n K dX11_parted_22 rfl ?_ | refine a_aload_nN K dX11_parted_22 rfl ?_
  refine a_getRs K fd_X11_26 (by exact lm_o hM1) (Or.inr ⟨_, rfl⟩) (by exact lm_r715 hM1) dX11_parted_23 ?_
  refine a_iload_n K dX11_parted_26 rfl ?_
  refine a_iald K (by exact lm_kk hM1 (by decide) (by decide)) (by show vp_in _ (sN S1 (m 5)); exact lm_ix (z := 12000) hM1 (by decide) (by decide) (show r < 12000 by omega) (by decide)) dX11_parted_27 ?_
  rw [nI_clamp (by omega)]
  rw [show sA S1 (m 5) r = nI l.length from gN1.trans hl.1]
  refine a_iload K dX11_parted_28 rfl ?_
  refine a_isub K dX11_parted_30 ?_
  rw [nI_sub hlw]
  rw [hfo]
  refine a_istore K dX11_parted_31 (by decide) ?_
  refine a_iconst K dX11_parted_33 (v := 0) (by decide) ?_
  refine a_istore K dX11_parted_34 (by decide) ?_
  exact aw_locl rfl (loop (lea w) 0 _ S1 nI_0.symm (by omega) hM1 (fun j hj => absurd hj (Nat.not_lt_zero j)) (f1.up (fun _ z => Or.inr z) (fun _ z => z)) ⟨⟨hL1, hT1, gL1, gT1, gN1.trans hl.1, gE1⟩, hF1, h7⟩)
