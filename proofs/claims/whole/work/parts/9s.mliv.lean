/-! the model: live nodes, holders -/
theorem mpL_y {P : PS} {i : Nat} {z : Tz} (hz : rootP P (nI i) = some z) : mpL P i = sub z.1 z.2 := by
  unfold mpL
  rw [hz]
  rfl
theorem mpL_n {P : PS} {i : Nat} (hz : rootP P (nI i) = none) : mpL P i = [] := by
  unfold mpL
  rw [hz]
  rfl
theorem bdL_y {P : PS} {j : Nat} {b : BI} (hb : pB P j = some b) : bdL P j = sub b.1.1 b.1.2 := by
  unfold bdL
  rw [hb]
  rfl
theorem bdL_n {P : PS} {j : Nat} (hb : pB P j = none) : bdL P j = [] := by
  unfold bdL
  rw [hb]
  rfl
theorem mkS_nil {mk : Nat → Bool} {i : Nat} : mkS mk [] i = mk i := by
  unfold mkS
  rw [List.any_nil, Bool.or_false]
theorem rootP_h {P : PS} {i : Nat} (hi : i < (pM P).length) (hl : (pM P).length ≤ 999) : (pH P i = true ∧ ∃ z, rootP P (nI i) = some z) ∨ (¬ pH P i = true ∧ rootP P (nI i) = none) := by
  rw [rootP_nI hi hl]
  by_cases h : pH P i = true
  · rw [if_pos h, List.getElem?_eq_getElem hi]
    exact Or.inl ⟨h, _, rfl⟩
  · rw [if_neg h]
    exact Or.inr ⟨h, rfl⟩
/-- a stretch of marks: numbers and rows agree -/
def mkLN (P : PS) (ρ : Nat → Nat) (mk mi : Nat → Bool) : Prop := ∀ i, LvN P i → mk (ρ i) = mi i
theorem mkLN.add {S : aw_S} {m ρ : Nat → Nat} {Z : List Nat × Nat} {mb : Nat} {P : PS} (h : RM S m ρ Z mb P) {mk mi : Nat → Bool} (e : mkLN P ρ mk mi) {z : Tz} (hz : LvT P z) : mkLN P ρ (mrM mk (rwT ρ z.1 z.2)) (mkS mi (sub z.1 z.2)) ∧ mrC mk (rwT ρ z.1 z.2) = mkC mi (sub z.1 z.2) 0 := by
  rw [rwT_sub]
  refine ⟨mr_mkS h.Q e hz.sub, ?_⟩
  have h1 := mr_mkC h.Q (sub z.1 z.2) mk mi 0 e hz.sub
  rw [Nat.zero_add] at h1
  exact h1
theorem lvM_s (f : Nat → List Tz) (n : Nat) (s : (Nat → Bool) × Nat) : lvM f (n + 1) s = (mkS (lvM f n s).1 (f n), (lvM f n s).2 + mkC (lvM f n s).1 (f n) 0) := rfl
set_option maxHeartbeats 4000000 in
set_option maxRecDepth 100000 in
theorem q_live {S : aw_S} {m ρ : Nat → Nat} {Z : List Nat × Nat} {mb n9 : Nat} {P : PS} (h : RM S m ρ Z mb P) (hJ : PJ n9 P) (hmb : mb + 1 < 2147483000) : aw_M yX11_live cX11_live 3 (some FieldType.int) 7 0 0 [.ref (m 33)] S (fun r S2 => r = some (.int (nI (livA P))) ∧ RM S2 m ρ Z (mb + 1) P ∧ frS S S2 (mQ m)) := by
  have hP := hJ.1
  have hM := h.1
  have hl9 := hJ.ln
  refine aw_enter (by decide +kernel) (Nat.le_of_ble_eq_true rfl) (fun g K EE => ?_)
  obtain ⟨st, hst, hs1, hk0, hs2, hs4⟩ := h.stamp hmb
  first | refine a_aload_n K dX11_live_0 rfl ?_ | refine a_aload_nN K dX11_live_0 rfl ?_
  refine a_dup K dX11_live_1 rfl ?_
  refine a_getI K fd_X11_255 (by exact lm_o hM) (Or.inl rfl) dX11_live_2 ?_
  rw [hst]
  refine a_iconst K dX11_live_5 (v := 1) (by decide) ?_
  refine a_iadd K dX11_live_6 ?_
  rw [nI_1]
  refine a_putI K fd_X11_255 (by exact lm_o hM) rfl dX11_live_7 ?_
  have fW : frM S (wI S 726 (m 33) (nI (st + 1))) m [7] [726] := frM_wI (by decide) (by decide)
  have hMW := fW.lay h.1
  have hM := hMW
  refine a_iconst K dX11_live_10 (v := 0) (by decide) ?_
  refine a_istore_n K dX11_live_11 (by decide) ?_
  refine a_iconst K dX11_live_12 (v := 0) (by decide) ?_
  refine a_istore_n K dX11_live_13 (by decide) ?_
  have loop2 : ∀ (n i : Nat) (x : Int32) (V : aw_S) (mk : Nat → Bool), x = nI i → i + n = 4 → mkF (wI S 726 (m 33) (nI (st + 1))) V m (nI (st + 1)) → MkM V m (nI (st + 1)) mk → mkLN P ρ mk (lvM (bdL P) i (livM P)).1 → aw g 3 V 0 0 [(2, .int x), (1, .int (nI (lvM (bdL P) i (livM P)).2)), (0, .ref (m 33))] [] 52 := by
    intro n
    induction n with
    | zero =>
      intro i x V mk hx hn9 f hk hn
      subst hx
      have hM := f.lay hMW
      have fA : frM S V m [7] [726] := fW.tr (f.1.up (by decide) (by decide))
      obtain ⟨hF, qF⟩ := RM_marked h hP hmb hs2 hs4 hk f
      refine a_iload_n K dX11_live_52 rfl ?_
      refine a_iconst K dX11_live_53 (v := 4) (by decide) ?_
      refine a_icmp_ge K dX11_live_54 (tgt := 87) (by decide) (fun c_54 => ?_) (fun c_54 => absurd c_54 (fun q => q (by rw [show i = 4 by omega]; decide)))
      refine a_iload_n K dX11_live_87 rfl ?_
      exact a_iret K EE rfl (by omega) (by omega) dX11_live_88 ⟨by rw [show i = 4 by omega]; rfl, hF, qF⟩
    | succ n ih =>
      intro i x V mk hx hn9 f hk hn
      subst hx
      have hM := f.lay hMW
      have fA : frM S V m [7] [726] := fW.tr (f.1.up (by decide) (by decide))
      cases hb : pB P i with
      | none =>
        refine a_iload_n K dX11_live_52 rfl ?_
        refine a_iconst K dX11_live_53 (v := 4) (by decide) ?_
        refine a_icmp_ge K dX11_live_54 (tgt := 87) (by decide) (fun c_54 => absurd c_54 (nI_ge (a := i) (b := 4) (by omega) (by omega))) (fun c_54 => ?_)
        first | refine a_aload_n K dX11_live_57 rfl ?_ | refine a_aload_nN K dX11_live_57 rfl ?_
        refine a_getI K fd_X11_268 (by exact lm_o hM) (Or.inl rfl) dX11_live_58 ?_
        rw [show sI V 747 (m 33) = obN P 4 from (fA.2 747 (by decide)).trans h.2.1.2.2.2.2.2.2.1]
        refine a_iload_n K dX11_live_61 rfl ?_
        refine a_invS K (q_has.post (fun r S2 hp => (⟨bR_n (fun q => absurd ((ob_has i (by omega)).mp q) (by rw [hb]; decide)) hp.2, hp.1⟩ : r = some (.int 0) ∧ S2 = V))) my_X11_has ml_X11_271 st_X11_has rfl (by omega) (by omega) (by omega) rfl (Nat.le_of_ble_eq_true rfl) dX11_live_62 ?_
        intro r8 S8 hp8
        obtain ⟨rfl, hS8⟩ := hp8
        obtain rfl := hS8.symm
        refine a_if_eq K dX11_live_65 (tgt := 81) (by decide) (fun c_65 => ?_) (fun c_65 => absurd c_65 (fun q => q rfl))
        refine a_iinc K dX11_live_81 (v := 1) rfl (by decide) (by decide) ?_
        refine a_goto K dX11_live_84 (tgt := 52) (by decide) ?_
        exact aw_locl (by rw [nI_1 i]; first | rfl | (rw [lvM_s, bdL_n hb]; rfl)) (ih (i + 1) _ V mk rfl (by omega) f hk (by rw [lvM_s, bdL_n hb]; exact fun j hj => (hn j hj).trans mkS_nil.symm))
      | some b =>
        have h4b := (hP.tz (bui_live (show i < 4 by omega) hb)).h4 hP.1.1
        refine a_iload_n K dX11_live_52 rfl ?_
        refine a_iconst K dX11_live_53 (v := 4) (by decide) ?_
        refine a_icmp_ge K dX11_live_54 (tgt := 87) (by decide) (fun c_54 => absurd c_54 (nI_ge (a := i) (b := 4) (by omega) (by omega))) (fun c_54 => ?_)
        first | refine a_aload_n K dX11_live_57 rfl ?_ | refine a_aload_nN K dX11_live_57 rfl ?_
        refine a_getI K fd_X11_268 (by exact lm_o hM) (Or.inl rfl) dX11_live_58 ?_
        rw [show sI V 747 (m 33) = obN P 4 from (fA.2 747 (by decide)).trans h.2.1.2.2.2.2.2.2.1]
        refine a_iload_n K dX11_live_61 rfl ?_
        refine a_invS K (q_has.post (fun r S2 hp => (⟨bR_y ((ob_has i (by omega)).mpr (by rw [hb]; rfl)) hp.2, hp.1⟩ : r = some (.int 1) ∧ S2 = V))) my_X11_has ml_X11_271 st_X11_has rfl (by omega) (by omega) (by omega) rfl (Nat.le_of_ble_eq_true rfl) dX11_live_62 ?_
        intro r8 S8 hp8
        obtain ⟨rfl, hS8⟩ := hp8
        obtain rfl := hS8.symm
        refine a_if_eq K dX11_live_65 (tgt := 81) (by decide) (fun c_65 => absurd c_65 (by decide)) (fun c_65 => ?_)
        refine a_iload_n K dX11_live_68 rfl ?_
        first | refine a_aload_n K dX11_live_69 rfl ?_ | refine a_aload_nN K dX11_live_69 rfl ?_
        first | refine a_aload_n K dX11_live_70 rfl ?_ | refine a_aload_nN K dX11_live_70 rfl ?_
        refine a_getRs K fd_X11_76 (by exact lm_o hM) (Or.inr ⟨_, rfl⟩) (by exact lm_r739 hM) dX11_live_71 ?_
        refine a_iload_n K dX11_live_74 rfl ?_
        refine a_iald K (by exact lm_kk hM (by decide) (by decide)) (by show vp_in _ (sN V (m 20)); exact lm_ix (z := 4) hM (by decide) (by decide) (show i < 4 by omega) (by decide)) dX11_live_75 ?_
        rw [nI_clamp (by omega)]
        rw [show sA V (m 20) i = nI (ρ b.1.2.1) from (congrFun (fA.A h.1 (by decide) (by decide) (by decide)) i).trans (h.2.2.2.1 i b (by omega) hb).1]
        refine a_invV K (m_marks b.1.1 b.1.2 V mk (nI (st + 1)) hM (fA.rep h.1 (by decide) (by decide) (by decide) (by decide) (by decide) (by decide) (h.rep (bui_live (show i < 4 by omega) hb))) hk) my_X11_marks ml_X11_258 im_X11_marks se_X11_marks (ci := 11) (by exact lm_o hM) (by decide) ⟨_, _, rfl⟩ rfl (by omega) (by omega) (by omega) rfl (Nat.le_of_ble_eq_true rfl) dX11_live_76 ?_
        intro r9 V2 hp9
        obtain ⟨rfl, hk2, f2⟩ := hp9
        obtain ⟨a1, a2⟩ := mkLN.add h hn (bui_live (show i < 4 by omega) hb)
        have hM := f2.lay hM
        refine a_iadd K dX11_live_79 ?_
        refine a_istore_n K dX11_live_80 (by decide) ?_
        refine a_iinc K dX11_live_81 (v := 1) rfl (by decide) (by decide) ?_
        refine a_goto K dX11_live_84 (tgt := 52) (by decide) ?_
        exact aw_locl (by rw [a2, nI_add, nI_1 i]; first | rfl | (rw [lvM_s, bdL_y hb]; rfl)) (ih (i + 1) _ V2 _ rfl (by omega) (f.tr f2) hk2 (by rw [lvM_s, bdL_y hb]; exact a1))
  have loop1 : ∀ (n i : Nat) (x : Int32) (V : aw_S) (mk : Nat → Bool), x = nI i → i + n = (pM P).length → mkF (wI S 726 (m 33) (nI (st + 1))) V m (nI (st + 1)) → MkM V m (nI (st + 1)) mk → mkLN P ρ mk (lvM (mpL P) i ((fun _ => false, 0) : (Nat → Bool) × Nat)).1 → aw g 3 V 0 0 [(2, .int x), (1, .int (nI (lvM (mpL P) i ((fun _ => false, 0) : (Nat → Bool) × Nat)).2)), (0, .ref (m 33))] [] 14 := by
    intro n
    induction n with
    | zero =>
      intro i x V mk hx hn9 f hk hn
      subst hx
      have hM := f.lay hMW
      have fA : frM S V m [7] [726] := fW.tr (f.1.up (by decide) (by decide))
      refine a_iload_n K dX11_live_14 rfl ?_
      first | refine a_aload_n K dX11_live_15 rfl ?_ | refine a_aload_nN K dX11_live_15 rfl ?_
      refine a_getI K fd_X11_261 (by exact lm_o hM) (Or.inl rfl) dX11_live_16 ?_
      rw [show sI V 745 (m 33) = nI (pM P).length from (fA.2 745 (by decide)).trans h.nlen]
      refine a_icmp_ge K dX11_live_19 (tgt := 50) (by decide) (fun c_19 => ?_) (fun c_19 => absurd c_19 (fun q => q (nI_le (a := (pM P).length) (b := i) (by omega) (by omega))))
      refine a_iconst K dX11_live_50 (v := 0) (by decide) ?_
      refine a_istore_n K dX11_live_51 (by decide) ?_
      exact aw_locl (by rw [show i = (pM P).length by omega]; rfl) (loop2 4 0 _ V mk nI_0.symm (Nat.zero_add _) f hk (by rw [show i = (pM P).length by omega] at hn; exact hn))
    | succ n ih =>
      intro i x V mk hx hn9 f hk hn
      subst hx
      have hM := f.lay hMW
      have fA : frM S V m [7] [726] := fW.tr (f.1.up (by decide) (by decide))
      rcases rootP_h (show i < (pM P).length by omega) hl9 with ⟨hh, z, hz⟩ | ⟨hh, hz⟩
      · have h4z := (hP.tz (rootP_live hz)).h4 hP.1.1
        refine a_iload_n K dX11_live_14 rfl ?_
        first | refine a_aload_n K dX11_live_15 rfl ?_ | refine a_aload_nN K dX11_live_15 rfl ?_
        refine a_getI K fd_X11_261 (by exact lm_o hM) (Or.inl rfl) dX11_live_16 ?_
        rw [show sI V 745 (m 33) = nI (pM P).length from (fA.2 745 (by decide)).trans h.nlen]
        refine a_icmp_ge K dX11_live_19 (tgt := 50) (by decide) (fun c_19 => absurd c_19 (nI_ge (a := i) (b := (pM P).length) (by omega) (by omega))) (fun c_19 => ?_)
        first | refine a_aload_n K dX11_live_22 rfl ?_ | refine a_aload_nN K dX11_live_22 rfl ?_
        refine a_getRs K fd_X11_88 (by exact lm_o hM) (Or.inr ⟨_, rfl⟩) (by exact lm_r743 hM) dX11_live_23 ?_
        refine a_iload_n K dX11_live_26 rfl ?_
        refine a_zald K (by exact lm_kk hM (by decide) (by decide)) (by show vp_in _ (sN V (m 24)); exact lm_ix (z := 999) hM (by decide) (by decide) (show i < 999 by omega) (by decide)) dX11_live_27 ?_
        rw [nI_clamp (by omega)]
        rw [show sA V (m 24) i = 1 from ((congrFun (fA.A h.1 (by decide) (by decide) (by decide)) i).trans (h.2.2.2.2.1.2.1 i (by omega))).trans (if_pos hh)]
        refine a_if_eq K dX11_live_28 (tgt := 44) (by decide) (fun c_28 => absurd c_28 (by decide)) (fun c_28 => ?_)
        refine a_iload_n K dX11_live_31 rfl ?_
        first | refine a_aload_n K dX11_live_32 rfl ?_ | refine a_aload_nN K dX11_live_32 rfl ?_
        first | refine a_aload_n K dX11_live_33 rfl ?_ | refine a_aload_nN K dX11_live_33 rfl ?_
        refine a_getRs K fd_X11_67 (by exact lm_o hM) (Or.inr ⟨_, rfl⟩) (by exact lm_r736 hM) dX11_live_34 ?_
        refine a_iload_n K dX11_live_37 rfl ?_
        refine a_iald K (by exact lm_kk hM (by decide) (by decide)) (by show vp_in _ (sN V (m 17)); exact lm_ix (z := 999) hM (by decide) (by decide) (show i < 999 by omega) (by decide)) dX11_live_38 ?_
        rw [nI_clamp (by omega)]
        rw [show sA V (m 17) i = nI (ρ z.2.1) from (congrFun (fA.A h.1 (by decide) (by decide) (by decide)) i).trans (h.root2 hz (by omega))]
        refine a_invV K (m_marks z.1 z.2 V mk (nI (st + 1)) hM (fA.rep h.1 (by decide) (by decide) (by decide) (by decide) (by decide) (by decide) (h.rep (rootP_live hz))) hk) my_X11_marks ml_X11_258 im_X11_marks se_X11_marks (ci := 11) (by exact lm_o hM) (by decide) ⟨_, _, rfl⟩ rfl (by omega) (by omega) (by omega) rfl (Nat.le_of_ble_eq_true rfl) dX11_live_39 ?_
        intro r9 V2 hp9
        obtain ⟨rfl, hk2, f2⟩ := hp9
        obtain ⟨a1, a2⟩ := mkLN.add h hn (rootP_live hz)
        have hM := f2.lay hM
        refine a_iadd K dX11_live_42 ?_
        refine a_istore_n K dX11_live_43 (by decide) ?_
        refine a_iinc K dX11_live_44 (v := 1) rfl (by decide) (by decide) ?_
        refine a_goto K dX11_live_47 (tgt := 14) (by decide) ?_
        exact aw_locl (by rw [a2, nI_add, nI_1 i]; first | rfl | (rw [lvM_s, mpL_y hz]; rfl)) (ih (i + 1) _ V2 _ rfl (by omega) (f.tr f2) hk2 (by rw [lvM_s, mpL_y hz]; exact a1))
      · refine a_iload_n K dX11_live_14 rfl ?_
        first | refine a_aload_n K dX11_live_15 rfl ?_ | refine a_aload_nN K dX11_live_15 rfl ?_
        refine a_getI K fd_X11_261 (by exact lm_o hM) (Or.inl rfl) dX11_live_16 ?_
        rw [show sI V 745 (m 33) = nI (pM P).length from (fA.2 745 (by decide)).trans h.nlen]
        refine a_icmp_ge K dX11_live_19 (tgt := 50) (by decide) (fun c_19 => absurd c_19 (nI_ge (a := i) (b := (pM P).length) (by omega) (by omega))) (fun c_19 => ?_)
        first | refine a_aload_n K dX11_live_22 rfl ?_ | refine a_aload_nN K dX11_live_22 rfl ?_
        refine a_getRs K fd_X11_88 (by exact lm_o hM) (Or.inr ⟨_, rfl⟩) (by exact lm_r743 hM) dX11_live_23 ?_
        refine a_iload_n K dX11_live_26 rfl ?_
        refine a_zald K (by exact lm_kk hM (by decide) (by decide)) (by show vp_in _ (sN V (m 24)); exact lm_ix (z := 999) hM (by decide) (by decide) (show i < 999 by omega) (by decide)) dX11_live_27 ?_
        rw [nI_clamp (by omega)]
        rw [show sA V (m 24) i = 0 from ((congrFun (fA.A h.1 (by decide) (by decide) (by decide)) i).trans (h.2.2.2.2.1.2.1 i (by omega))).trans (if_neg hh)]
        refine a_if_eq K dX11_live_28 (tgt := 44) (by decide) (fun c_28 => ?_) (fun c_28 => absurd c_28 (fun q => q rfl))
        refine a_iinc K dX11_live_44 (v := 1) rfl (by decide) (by decide) ?_
        refine a_goto K dX11_live_47 (tgt := 14) (by decide) ?_
        exact aw_locl (by rw [nI_1 i]; first | rfl | (rw [lvM_s, mpL_n hz]; rfl)) (ih (i + 1) _ V mk rfl (by omega) f hk (by rw [lvM_s, mpL_n hz]; exact fun j hj => (hn j hj).trans mkS_nil.symm))
  exact aw_locl rfl (loop1 (pM P).length 0 _ (wI S 726 (m 33) (nI (st + 1))) (fun _ => false) nI_0.symm (Nat.zero_add _) ⟨frM.rf, fun _ _ => Or.inl rfl⟩ hk0 (fun _ _ => rfl))
set_option maxHeartbeats 4000000 in
set_option maxRecDepth 100000 in
theorem q_count {S : aw_S} {m ρ : Nat → Nat} {Z : List Nat × Nat} {mb n9 : Nat} {P : PS} (h0 : RM S m ρ Z mb P) (hJ : PJ n9 P) (hmb : mb + 1 < 2147483000) {w : Int32} : aw_M yX11_count cX11_count 2 (some FieldType.int) 8 0 0 [.ref (m 33), .int w] S (fun r S2 => r = some (.int (cntA P w)) ∧ RM S2 m ρ Z (mb + 1) P ∧ frS S S2 (mQ m)) := by
  have hP := hJ.1
  have hw3 := hP.1.1
  have hM := h0.1
  have hl9 := hJ.ln
  refine aw_enter (by decide +kernel) (Nat.le_of_ble_eq_true rfl) (fun g K EE => ?_)
  by_cases w0 : w = 0
  · subst w0
    first | refine a_aload_n K dX11_count_0 rfl ?_ | refine a_aload_nN K dX11_count_0 rfl ?_
    refine a_iconst K dX11_count_1 (v := 0) (by decide) ?_
    refine a_putI K fd_X11_116 (by exact lm_o hM) rfl dX11_count_2 ?_
    have f0 : frM S (wI S 704 (m 33) 0) m [] [704] := frM_wI (by decide) (by decide)
    obtain ⟨T, hT⟩ : ∃ T, T = wI S 704 (m 33) 0 := ⟨_, rfl⟩
    rw [← hT] at f0 ⊢
    obtain ⟨h, q0⟩ := h0.scr hP f0 (by decide) (by decide)
    have hM := h.1
    refine a_iload_n K dX11_count_5 rfl ?_
    refine a_tsIn K dX11_count_6 (off := 46) (tgt := 52) (by decide) (by decide) rfl (by decide) ?_
    first | refine a_aload_n K dX11_count_52 rfl ?_ | refine a_aload_nN K dX11_count_52 rfl ?_
    refine a_getI K fd_X11_45 (by exact lm_o hM) (Or.inl rfl) dX11_count_53 ?_
    rw [h.wid]
    exact a_iret K EE rfl (by omega) (by omega) dX11_count_56 ⟨by unfold cntA; rw [if_pos rfl], h.up (by omega) (by omega), q0⟩
  · by_cases w1 : w = 1
    · subst w1
      first | refine a_aload_n K dX11_count_0 rfl ?_ | refine a_aload_nN K dX11_count_0 rfl ?_
      refine a_iconst K dX11_count_1 (v := 0) (by decide) ?_
      refine a_putI K fd_X11_116 (by exact lm_o hM) rfl dX11_count_2 ?_
      have f0 : frM S (wI S 704 (m 33) 0) m [] [704] := frM_wI (by decide) (by decide)
      obtain ⟨T, hT⟩ : ∃ T, T = wI S 704 (m 33) 0 := ⟨_, rfl⟩
      rw [← hT] at f0 ⊢
      obtain ⟨h, q0⟩ := h0.scr hP f0 (by decide) (by decide)
      have hM := h.1
      refine a_iload_n K dX11_count_5 rfl ?_
      refine a_tsIn K dX11_count_6 (off := 51) (tgt := 57) (by decide) (by decide) rfl (by decide) ?_
      first | refine a_aload_n K dX11_count_57 rfl ?_ | refine a_aload_nN K dX11_count_57 rfl ?_
      refine a_getI K fd_X11_275 (by exact lm_o hM) (Or.inl rfl) dX11_count_58 ?_
      rw [h.2.1.2.2.2.2.2.1]
      exact a_iret K EE rfl (by omega) (by omega) dX11_count_61 ⟨by unfold cntA; rw [if_neg (by decide), if_pos rfl], h.up (by omega) (by omega), q0⟩
    · by_cases w2 : w = 2
      · subst w2
        first | refine a_aload_n K dX11_count_0 rfl ?_ | refine a_aload_nN K dX11_count_0 rfl ?_
        refine a_iconst K dX11_count_1 (v := 0) (by decide) ?_
        refine a_putI K fd_X11_116 (by exact lm_o hM) rfl dX11_count_2 ?_
        have f0 : frM S (wI S 704 (m 33) 0) m [] [704] := frM_wI (by decide) (by decide)
        obtain ⟨T, hT⟩ : ∃ T, T = wI S 704 (m 33) 0 := ⟨_, rfl⟩
        rw [← hT] at f0 ⊢
        obtain ⟨h, q0⟩ := h0.scr hP f0 (by decide) (by decide)
        have hM := h.1
        refine a_iload_n K dX11_count_5 rfl ?_
        refine a_tsIn K dX11_count_6 (off := 56) (tgt := 62) (by decide) (by decide) rfl (by decide) ?_
        first | refine a_aload_n K dX11_count_62 rfl ?_ | refine a_aload_nN K dX11_count_62 rfl ?_
        refine a_getI K fd_X11_261 (by exact lm_o hM) (Or.inl rfl) dX11_count_63 ?_
        rw [h.nlen]
        exact a_iret K EE rfl (by omega) (by omega) dX11_count_66 ⟨by unfold cntA; rw [if_neg (by decide), if_neg (by decide), if_pos rfl], h.up (by omega) (by omega), q0⟩
      · by_cases w3 : w = 3
        · subst w3
          first | refine a_aload_n K dX11_count_0 rfl ?_ | refine a_aload_nN K dX11_count_0 rfl ?_
          refine a_iconst K dX11_count_1 (v := 0) (by decide) ?_
          refine a_putI K fd_X11_116 (by exact lm_o hM) rfl dX11_count_2 ?_
          have f0 : frM S (wI S 704 (m 33) 0) m [] [704] := frM_wI (by decide) (by decide)
          obtain ⟨T, hT⟩ : ∃ T, T = wI S 704 (m 33) 0 := ⟨_, rfl⟩
          rw [← hT] at f0 ⊢
          obtain ⟨h, q0⟩ := h0.scr hP f0 (by decide) (by decide)
          have hM := h.1
          refine a_iload_n K dX11_count_5 rfl ?_
          refine a_tsIn K dX11_count_6 (off := 61) (tgt := 67) (by decide) (by decide) rfl (by decide) ?_
          first | refine a_aload_n K dX11_count_67 rfl ?_ | refine a_aload_nN K dX11_count_67 rfl ?_
          refine a_getI K fd_X11_190 (by exact lm_o hM) (Or.inl rfl) dX11_count_68 ?_
          rw [h.N.2.2.2.2]
          exact a_iret K EE rfl (by omega) (by omega) dX11_count_71 ⟨by unfold cntA; rw [if_neg (by decide), if_neg (by decide), if_neg (by decide), if_pos rfl], h.up (by omega) (by omega), q0⟩
        · by_cases w4 : w = 4
          · subst w4
            first | refine a_aload_n K dX11_count_0 rfl ?_ | refine a_aload_nN K dX11_count_0 rfl ?_
            refine a_iconst K dX11_count_1 (v := 0) (by decide) ?_
            refine a_putI K fd_X11_116 (by exact lm_o hM) rfl dX11_count_2 ?_
            have f0 : frM S (wI S 704 (m 33) 0) m [] [704] := frM_wI (by decide) (by decide)
            obtain ⟨T, hT⟩ : ∃ T, T = wI S 704 (m 33) 0 := ⟨_, rfl⟩
            rw [← hT] at f0 ⊢
            obtain ⟨h, q0⟩ := h0.scr hP f0 (by decide) (by decide)
            have hM := h.1
            refine a_iload_n K dX11_count_5 rfl ?_
            refine a_tsIn K dX11_count_6 (off := 66) (tgt := 72) (by decide) (by decide) rfl (by decide) ?_
            first | refine a_aload_n K dX11_count_72 rfl ?_ | refine a_aload_nN K dX11_count_72 rfl ?_
            refine a_invV K (q_live h hJ hmb) my_X11_live ml_X11_468 im_X11_live se_X11_live (ci := 11) (by exact lm_o hM) (by decide) ⟨_, _, rfl⟩ rfl (by omega) (by omega) (by omega) rfl (Nat.le_of_ble_eq_true rfl) dX11_count_73 ?_
            intro r9 S9 hp9
            obtain ⟨rfl, h9, q9⟩ := hp9
            exact a_iret K EE rfl (by omega) (by omega) dX11_count_76 ⟨by unfold cntA; rw [if_neg (by decide), if_neg (by decide), if_neg (by decide), if_neg (by decide), if_pos rfl], h9, mQ_tr q0 q9⟩
          · by_cases w5 : w = 5
            · subst w5
              first | refine a_aload_n K dX11_count_0 rfl ?_ | refine a_aload_nN K dX11_count_0 rfl ?_
              refine a_iconst K dX11_count_1 (v := 0) (by decide) ?_
              refine a_putI K fd_X11_116 (by exact lm_o hM) rfl dX11_count_2 ?_
              have f0 : frM S (wI S 704 (m 33) 0) m [] [704] := frM_wI (by decide) (by decide)
              obtain ⟨T, hT⟩ : ∃ T, T = wI S 704 (m 33) 0 := ⟨_, rfl⟩
              rw [← hT] at f0 ⊢
              obtain ⟨h, q0⟩ := h0.scr hP f0 (by decide) (by decide)
              have hM := h.1
              refine a_iload_n K dX11_count_5 rfl ?_
              refine a_tsIn K dX11_count_6 (off := 71) (tgt := 77) (by decide) (by decide) rfl (by decide) ?_
              first | refine a_aload_n K dX11_count_77 rfl ?_ | refine a_aload_nN K dX11_count_77 rfl ?_
              refine a_getI K fd_X11_286 (by exact lm_o hM) (Or.inl rfl) dX11_count_78 ?_
              rw [h.2.1.2.1]
              exact a_iret K EE rfl (by omega) (by omega) dX11_count_81 ⟨by unfold cntA; rw [if_neg (by decide), if_neg (by decide), if_neg (by decide), if_neg (by decide), if_neg (by decide), if_pos rfl], h.up (by omega) (by omega), q0⟩
            · by_cases w6 : w = 6
              · subst w6
                first | refine a_aload_n K dX11_count_0 rfl ?_ | refine a_aload_nN K dX11_count_0 rfl ?_
                refine a_iconst K dX11_count_1 (v := 0) (by decide) ?_
                refine a_putI K fd_X11_116 (by exact lm_o hM) rfl dX11_count_2 ?_
                have f0 : frM S (wI S 704 (m 33) 0) m [] [704] := frM_wI (by decide) (by decide)
                obtain ⟨T, hT⟩ : ∃ T, T = wI S 704 (m 33) 0 := ⟨_, rfl⟩
                rw [← hT] at f0 ⊢
                obtain ⟨h, q0⟩ := h0.scr hP f0 (by decide) (by decide)
                have hM := h.1
                refine a_iload_n K dX11_count_5 rfl ?_
                refine a_tsIn K dX11_count_6 (off := 76) (tgt := 82) (by decide) (by decide) rfl (by decide) ?_
                first | refine a_aload_n K dX11_count_82 rfl ?_ | refine a_aload_nN K dX11_count_82 rfl ?_
                refine a_getI K fd_X11_119 (by exact lm_o hM) (Or.inl rfl) dX11_count_83 ?_
                rw [h.2.1.1.1]
                exact a_iret K EE rfl (by omega) (by omega) dX11_count_86 ⟨by unfold cntA; rw [if_neg (by decide), if_neg (by decide), if_neg (by decide), if_neg (by decide), if_neg (by decide), if_neg (by decide), if_pos rfl], h.up (by omega) (by omega), q0⟩
              · by_cases w7 : w = 7
                · subst w7
                  first | refine a_aload_n K dX11_count_0 rfl ?_ | refine a_aload_nN K dX11_count_0 rfl ?_
                  refine a_iconst K dX11_count_1 (v := 0) (by decide) ?_
                  refine a_putI K fd_X11_116 (by exact lm_o hM) rfl dX11_count_2 ?_
                  have f0 : frM S (wI S 704 (m 33) 0) m [] [704] := frM_wI (by decide) (by decide)
                  obtain ⟨T, hT⟩ : ∃ T, T = wI S 704 (m 33) 0 := ⟨_, rfl⟩
                  rw [← hT] at f0 ⊢
                  obtain ⟨h, q0⟩ := h0.scr hP f0 (by decide) (by decide)
                  have hM := h.1
                  refine a_iload_n K dX11_count_5 rfl ?_
                  refine a_tsIn K dX11_count_6 (off := 81) (tgt := 87) (by decide) (by decide) rfl (by decide) ?_
                  first | refine a_aload_n K dX11_count_87 rfl ?_ | refine a_aload_nN K dX11_count_87 rfl ?_
                  refine a_getI K fd_X11_268 (by exact lm_o hM) (Or.inl rfl) dX11_count_88 ?_
                  rw [h.2.1.2.2.2.2.2.2.1]
                  exact a_iret K EE rfl (by omega) (by omega) dX11_count_91 ⟨by unfold cntA; rw [if_neg (by decide), if_neg (by decide), if_neg (by decide), if_neg (by decide), if_neg (by decide), if_neg (by decide), if_neg (by decide), if_pos rfl], h.up (by omega) (by omega), q0⟩
                · have hw : w.toInt < 0 ∨ 7 < w.toInt := tswn8 w0 w1 w2 w3 w4 w5 w6 w7
                  first | refine a_aload_n K dX11_count_0 rfl ?_ | refine a_aload_nN K dX11_count_0 rfl ?_
                  refine a_iconst K dX11_count_1 (v := 0) (by decide) ?_
                  refine a_putI K fd_X11_116 (by exact lm_o hM) rfl dX11_count_2 ?_
                  have f0 : frM S (wI S 704 (m 33) 0) m [] [704] := frM_wI (by decide) (by decide)
                  obtain ⟨T, hT⟩ : ∃ T, T = wI S 704 (m 33) 0 := ⟨_, rfl⟩
                  rw [← hT] at f0 ⊢
                  obtain ⟨h, q0⟩ := h0.scr hP f0 (by decide) (by decide)
                  have hM := h.1
                  refine a_iload_n K dX11_count_5 rfl ?_
                  refine a_tsOut K dX11_count_6 (tgt := 92) (hw) (by decide) ?_
                  refine a_ldc K kc_X11_170 dX11_count_92 ?_
                  exact a_iret K EE rfl (by omega) (by omega) dX11_count_94 ⟨by unfold cntA; rw [if_neg (fun y => by rw [y] at hw; revert hw; decide), if_neg (fun y => by rw [y] at hw; revert hw; decide), if_neg (fun y => by rw [y] at hw; revert hw; decide), if_neg (fun y => by rw [y] at hw; revert hw; decide), if_neg (fun y => by rw [y] at hw; revert hw; decide), if_neg (fun y => by rw [y] at hw; revert hw; decide), if_neg (fun y => by rw [y] at hw; revert hw; decide), if_neg (fun y => by rw [y] at hw; revert hw; decide)], h.up (by omega) (by omega), q0⟩
theorem hwN_y {P : PS} {id j : Nat} (q : (sbO (rootP P (nI j))).any (fun y => y.2.1 == id) = true) : hwN P id (j + 1) = hwN P id j + 1 := by
  unfold hwN
  rw [List.range_succ, List.countP_append, List.countP_singleton, q]
  rfl
theorem hwN_n {P : PS} {id j : Nat} (q : ¬ (sbO (rootP P (nI j))).any (fun y => y.2.1 == id) = true) : hwN P id (j + 1) = hwN P id j := by
  unfold hwN
  rw [List.range_succ, List.countP_append, List.countP_singleton, if_neg q]
  rfl
theorem any_id {P : PS} {id j : Nat} {z : Tz} (hz : rootP P (nI j) = some z) : (sbO (rootP P (nI j))).any (fun y => y.2.1 == id) = true ↔ mkS (fun _ => false) (sub z.1 z.2) id = true := by
  rw [hz, mkS_or, List.any_eq_true]
  exact ⟨fun ⟨w, hw, e⟩ => Or.inr ⟨w, hw, eq_of_beq e⟩, fun h => h.elim (fun z => absurd z (by decide)) (fun ⟨w, hw, e⟩ => ⟨w, hw, by rw [e]; exact beq_self_eq_true id⟩)⟩
theorem any_no {P : PS} {id j : Nat} (hz : rootP P (nI j) = none) : ¬ (sbO (rootP P (nI j))).any (fun y => y.2.1 == id) = true := by
  rw [hz]
  simp [sbO]
theorem len_flat {α β : Type} {f : α → List β} {c : α} : ∀ {l : List α}, c ∈ l → (f c).length ≤ (l.flatMap f).length
  | d :: l, h => by
    rw [List.flatMap_cons, List.length_append]
    rcases List.mem_cons.mp h with rfl | h
    · omega
    · have := len_flat (f := f) h
      omega
theorem sub_lens : ∀ (h : Nat) (t : Tr h), ∀ w ∈ sub h t, (ent w.1 w.2).length ≤ (ent h t).length ∧ (ndl w.1 w.2).length ≤ (ndl h t).length
  | 0, t, w, hw => by
    rw [List.mem_singleton.mp hw]
    exact ⟨Nat.le_refl _, Nat.le_refl _⟩
  | h + 1, t, w, hw => by
    have hw : w ∈ (⟨h + 1, t⟩ : Tz) :: (kds t).flatMap (sub h) := hw
    rcases List.mem_cons.mp hw with rfl | hw
    · exact ⟨Nat.le_refl _, Nat.le_refl _⟩
    · obtain ⟨c, hc, hx⟩ := List.mem_flatMap.mp hw
      have h1 := sub_lens h c w hx
      refine ⟨Nat.le_trans h1.1 (show _ ≤ ((kds t).flatMap (ent h)).length from len_flat hc), Nat.le_trans h1.2 ?_⟩
      show _ ≤ (_ :: (kds t).flatMap (ndl h)).length
      rw [List.length_cons]
      exact Nat.le_succ_of_le (len_flat hc)
theorem nodZ_no {P : PS} {z : Tz} {i w : Int32} (h : ¬ (0 ≤ i.toInt ∧ i.toInt < (sub z.1 z.2).length)) : nodZ P z i w = -1000000 := by
  unfold nodZ
  exact if_neg h
theorem nodZ_w {P : PS} {z : Tz} {i w : Int32} (h : ¬ (0 ≤ w.toInt ∧ w.toInt ≤ 5)) : nodZ P z i w = -1000000 := by
  unfold nodZ
  split
  · split
    · rw [if_neg (fun e => h (by rw [e]; decide)), if_neg (fun e => h (by rw [e]; decide)), if_neg (fun e => h (by rw [e]; decide)), if_neg (fun e => h (by rw [e]; decide)), if_neg (fun e => h (by rw [e]; decide)), if_neg (fun e => h (by rw [e]; decide))]
    · rfl
  · rfl
theorem nodZ_at {P : PS} {z y : Tz} {j : Nat} {w : Int32} (hy : (sub z.1 z.2)[j]? = some y) (hj : j < 2 ^ 31) : nodZ P z (nI j) w = if w = 0 then (if y.1 = 0 then 1 else 0) else if w = 1 then nI y.2.2.2.length else if w = 2 then low y.1 y.2 else if w = 3 then nI (z.1 - y.1) else if w = 4 then nI (hwN P y.2.1 (pM P).length) else if w = 5 then nI (cnt y.1 y.2) else -1000000 := by
  have hl := (List.getElem?_eq_some_iff.mp hy).1
  unfold nodZ
  rw [nI_toInt hj, if_pos (by omega), nI_clamp hj, hy]
set_option maxHeartbeats 4000000 in
set_option maxRecDepth 100000 in
theorem q_holders {S : aw_S} {m ρ : Nat → Nat} {Z : List Nat × Nat} {mb n9 : Nat} {P : PS} (h : RM S m ρ Z mb P) (hJ : PJ n9 P) (hmb : mb + 1000 < 2147483000) {id : Nat} (hid : LvN P id) : aw_M yX11_holders cX11_holders 5 (some FieldType.int) 7 0 0 [.ref (m 33), .int (nI (ρ id))] S (fun r S2 => r = some (.int (nI (hwN P id (pM P).length))) ∧ RM S2 m ρ Z (mb + 1000) P ∧ frS S S2 (mQ m)) := by
  have hP := hJ.1
  have hM := h.1
  have hl9 := hJ.ln
  refine aw_enter (by decide +kernel) (Nat.le_of_ble_eq_true rfl) (fun g K EE => ?_)
  have hr12 : ρ id < 12000 := by
    obtain ⟨z, hz, y, hy, e⟩ := hid
    obtain ⟨w, hw, e2⟩ := id_sub hy
    rw [← e, ← e2]
    exact ((h.rep hz).tks w hw).1
  refine a_iconst K dX11_holders_0 (v := 0) (by decide) ?_
  refine a_istore_n K dX11_holders_1 (by decide) ?_
  refine a_iconst K dX11_holders_2 (v := 0) (by decide) ?_
  refine a_istore_n K dX11_holders_3 (by decide) ?_
  have loop : ∀ (n j : Nat) (x : Int32) (V : aw_S), x = nI j → j + n = (pM P).length → RM V m ρ Z (mb + j) P → frS S V (mQ m) → aw g 5 V 0 0 [(3, .int x), (2, .int (nI (hwN P id j))), (1, .int (nI (ρ id))), (0, .ref (m 33))] [] 4 := by
    intro n
    induction n with
    | zero =>
      intro j x V hx hn hV qV
      subst hx
      have hM := hV.1
      refine a_iload_n K dX11_holders_4 rfl ?_
      first | refine a_aload_n K dX11_holders_5 rfl ?_ | refine a_aload_nN K dX11_holders_5 rfl ?_
      refine a_getI K fd_X11_261 (by exact lm_o hM) (Or.inl rfl) dX11_holders_6 ?_
      rw [hV.nlen]
      refine a_icmp_ge K dX11_holders_9 (tgt := 73) (by decide) (fun c_9 => ?_) (fun c_9 => absurd c_9 (fun q => q (nI_le (a := (pM P).length) (b := j) (by omega) (by omega))))
      refine a_iload_n K dX11_holders_73 rfl ?_
      exact a_iret K EE rfl (by omega) (by omega) dX11_holders_74 ⟨by rw [show j = (pM P).length by omega], hV.up (by omega) (by omega), qV⟩
    | succ n ih =>
      intro j x V hx hn hV qV
      subst hx
      rcases rootP_h (show j < (pM P).length by omega) hl9 with ⟨hh, z, hz⟩ | ⟨hh, hz⟩
      · have h4z := (hP.tz (rootP_live hz)).h4 hP.1.1
        obtain ⟨st, hst, hs1, hk0, hs2, hs4⟩ := hV.stamp (by omega)
        have hM := hV.1
        by_cases hsk : mkS (fun _ => false) (sub z.1 z.2) id = true
        · refine a_iload_n K dX11_holders_4 rfl ?_
          first | refine a_aload_n K dX11_holders_5 rfl ?_ | refine a_aload_nN K dX11_holders_5 rfl ?_
          refine a_getI K fd_X11_261 (by exact lm_o hM) (Or.inl rfl) dX11_holders_6 ?_
          rw [hV.nlen]
          refine a_icmp_ge K dX11_holders_9 (tgt := 73) (by decide) (fun c_9 => absurd c_9 (nI_ge (a := j) (b := (pM P).length) (by omega) (by omega))) (fun c_9 => ?_)
          first | refine a_aload_n K dX11_holders_12 rfl ?_ | refine a_aload_nN K dX11_holders_12 rfl ?_
          refine a_getRs K fd_X11_88 (by exact lm_o hM) (Or.inr ⟨_, rfl⟩) (by exact lm_r743 hM) dX11_holders_13 ?_
          refine a_iload_n K dX11_holders_16 rfl ?_
          refine a_zald K (by exact lm_kk hM (by decide) (by decide)) (by show vp_in _ (sN V (m 24)); exact lm_ix (z := 999) hM (by decide) (by decide) (show j < 999 by omega) (by decide)) dX11_holders_17 ?_
          rw [nI_clamp (by omega)]
          rw [show sA V (m 24) j = 1 from (hV.2.2.2.2.1.2.1 j (by omega)).trans (if_pos hh)]
          refine a_if_ne K dX11_holders_18 (tgt := 24) (by decide) (fun c_18 => ?_) (fun c_18 => absurd c_18 (by decide))
          first | refine a_aload_n K dX11_holders_24 rfl ?_ | refine a_aload_nN K dX11_holders_24 rfl ?_
          refine a_dup K dX11_holders_25 rfl ?_
          refine a_getI K fd_X11_255 (by exact lm_o hM) (Or.inl rfl) dX11_holders_26 ?_
          rw [hst]
          refine a_iconst K dX11_holders_29 (v := 1) (by decide) ?_
          refine a_iadd K dX11_holders_30 ?_
          rw [nI_1]
          refine a_putI K fd_X11_255 (by exact lm_o hM) rfl dX11_holders_31 ?_
          have fW : frM V (wI V 726 (m 33) (nI (st + 1))) m [7] [726] := frM_wI (by decide) (by decide)
          have hM := fW.lay hV.1
          first | refine a_aload_n K dX11_holders_34 rfl ?_ | refine a_aload_nN K dX11_holders_34 rfl ?_
          first | refine a_aload_n K dX11_holders_35 rfl ?_ | refine a_aload_nN K dX11_holders_35 rfl ?_
          refine a_getRs K fd_X11_67 (by exact lm_o hM) (Or.inr ⟨_, rfl⟩) (by exact lm_r736 hM) dX11_holders_36 ?_
          refine a_iload_n K dX11_holders_39 rfl ?_
          refine a_iald K (by exact lm_kk hM (by decide) (by decide)) (by show vp_in _ (sN (wI V 726 (m 33) (nI (st + 1))) (m 17)); exact lm_ix (z := 999) hM (by decide) (by decide) (show j < 999 by omega) (by decide)) dX11_holders_40 ?_
          rw [nI_clamp (by omega)]
          rw [show sA (wI V 726 (m 33) (nI (st + 1))) (m 17) j = nI (ρ z.2.1) from hV.root2 hz (by omega)]
          refine a_invV K (m_marks z.1 z.2 _ (fun _ => false) (nI (st + 1)) (by exact hM) (fW.rep hV.1 (by decide) (by decide) (by decide) (by decide) (by decide) (by decide) (hV.rep (rootP_live hz))) hk0) my_X11_marks ml_X11_258 im_X11_marks se_X11_marks (ci := 11) (by exact lm_o hM) (by decide) ⟨_, _, rfl⟩ rfl (by omega) (by omega) (by omega) rfl (Nat.le_of_ble_eq_true rfl) dX11_holders_41 ?_
          intro r9 V2 hp9
          obtain ⟨rfl, hk2, f2⟩ := hp9
          obtain ⟨h2, q2⟩ := RM_marked hV hP (by omega) hs2 hs4 hk2 f2
          have hM := h2.1
          have hms : mrM (fun _ => false) (rwT ρ z.1 z.2) (ρ id) = mkS (fun _ => false) (sub z.1 z.2) id := by rw [rwT_sub]; exact mr_mkS hV.Q (Q := LvN P) (mi := fun _ => false) (fun _ _ => rfl) (rootP_live hz).sub _ hid
          refine a_istore K dX11_holders_44 (by decide) ?_
          refine a_iload_n K dX11_holders_46 rfl ?_
          first | refine a_aload_n K dX11_holders_47 rfl ?_ | refine a_aload_nN K dX11_holders_47 rfl ?_
          refine a_getRs K fd_X11_32 (by exact lm_o hM) (Or.inr ⟨_, rfl⟩) (by exact lm_r717 hM) dX11_holders_48 ?_
          refine a_iload_n K dX11_holders_51 rfl ?_
          refine a_iald K (by exact lm_kk hM (by decide) (by decide)) (by show vp_in _ (sN V2 (m 7)); exact lm_ix (z := 12000) hM (by decide) (by decide) (show ρ id < 12000 by omega) (by decide)) dX11_holders_52 ?_
          rw [nI_clamp (by omega)]
          first | refine a_aload_n K dX11_holders_53 rfl ?_ | refine a_aload_nN K dX11_holders_53 rfl ?_
          refine a_getI K fd_X11_255 (by exact lm_o hM) (Or.inl rfl) dX11_holders_54 ?_
          rw [hk2.1]
          refine a_icmp_ne K dX11_holders_57 (tgt := 64) (by decide) (fun c_57 => absurd c_57 (fun q => q ((hk2.2 _ hr12).mpr (hms.trans hsk)))) (fun c_57 => ?_)
          refine a_iconst K dX11_holders_60 (v := 1) (by decide) ?_
          refine a_goto K dX11_holders_61 (tgt := 65) (by decide) ?_
          refine a_iadd K dX11_holders_65 ?_
          rw [nI_1]
          refine a_istore_n K dX11_holders_66 (by decide) ?_
          refine a_iinc K dX11_holders_67 (v := 1) rfl (by decide) (by decide) ?_
          refine a_goto K dX11_holders_70 (tgt := 4) (by decide) ?_
          exact aw_locl (by rw [nI_1 j, ← hwN_y ((any_id hz).mpr hsk)]; rfl) (ih (j + 1) _ V2 rfl (by omega) h2 (mQ_tr qV q2))
        · refine a_iload_n K dX11_holders_4 rfl ?_
          first | refine a_aload_n K dX11_holders_5 rfl ?_ | refine a_aload_nN K dX11_holders_5 rfl ?_
          refine a_getI K fd_X11_261 (by exact lm_o hM) (Or.inl rfl) dX11_holders_6 ?_
          rw [hV.nlen]
          refine a_icmp_ge K dX11_holders_9 (tgt := 73) (by decide) (fun c_9 => absurd c_9 (nI_ge (a := j) (b := (pM P).length) (by omega) (by omega))) (fun c_9 => ?_)
          first | refine a_aload_n K dX11_holders_12 rfl ?_ | refine a_aload_nN K dX11_holders_12 rfl ?_
          refine a_getRs K fd_X11_88 (by exact lm_o hM) (Or.inr ⟨_, rfl⟩) (by exact lm_r743 hM) dX11_holders_13 ?_
          refine a_iload_n K dX11_holders_16 rfl ?_
          refine a_zald K (by exact lm_kk hM (by decide) (by decide)) (by show vp_in _ (sN V (m 24)); exact lm_ix (z := 999) hM (by decide) (by decide) (show j < 999 by omega) (by decide)) dX11_holders_17 ?_
          rw [nI_clamp (by omega)]
          rw [show sA V (m 24) j = 1 from (hV.2.2.2.2.1.2.1 j (by omega)).trans (if_pos hh)]
          refine a_if_ne K dX11_holders_18 (tgt := 24) (by decide) (fun c_18 => ?_) (fun c_18 => absurd c_18 (by decide))
          first | refine a_aload_n K dX11_holders_24 rfl ?_ | refine a_aload_nN K dX11_holders_24 rfl ?_
          refine a_dup K dX11_holders_25 rfl ?_
          refine a_getI K fd_X11_255 (by exact lm_o hM) (Or.inl rfl) dX11_holders_26 ?_
          rw [hst]
          refine a_iconst K dX11_holders_29 (v := 1) (by decide) ?_
          refine a_iadd K dX11_holders_30 ?_
          rw [nI_1]
          refine a_putI K fd_X11_255 (by exact lm_o hM) rfl dX11_holders_31 ?_
          have fW : frM V (wI V 726 (m 33) (nI (st + 1))) m [7] [726] := frM_wI (by decide) (by decide)
          have hM := fW.lay hV.1
          first | refine a_aload_n K dX11_holders_34 rfl ?_ | refine a_aload_nN K dX11_holders_34 rfl ?_
          first | refine a_aload_n K dX11_holders_35 rfl ?_ | refine a_aload_nN K dX11_holders_35 rfl ?_
          refine a_getRs K fd_X11_67 (by exact lm_o hM) (Or.inr ⟨_, rfl⟩) (by exact lm_r736 hM) dX11_holders_36 ?_
          refine a_iload_n K dX11_holders_39 rfl ?_
          refine a_iald K (by exact lm_kk hM (by decide) (by decide)) (by show vp_in _ (sN (wI V 726 (m 33) (nI (st + 1))) (m 17)); exact lm_ix (z := 999) hM (by decide) (by decide) (show j < 999 by omega) (by decide)) dX11_holders_40 ?_
          rw [nI_clamp (by omega)]
          rw [show sA (wI V 726 (m 33) (nI (st + 1))) (m 17) j = nI (ρ z.2.1) from hV.root2 hz (by omega)]
          refine a_invV K (m_marks z.1 z.2 _ (fun _ => false) (nI (st + 1)) (by exact hM) (fW.rep hV.1 (by decide) (by decide) (by decide) (by decide) (by decide) (by decide) (hV.rep (rootP_live hz))) hk0) my_X11_marks ml_X11_258 im_X11_marks se_X11_marks (ci := 11) (by exact lm_o hM) (by decide) ⟨_, _, rfl⟩ rfl (by omega) (by omega) (by omega) rfl (Nat.le_of_ble_eq_true rfl) dX11_holders_41 ?_
          intro r9 V2 hp9
          obtain ⟨rfl, hk2, f2⟩ := hp9
          obtain ⟨h2, q2⟩ := RM_marked hV hP (by omega) hs2 hs4 hk2 f2
          have hM := h2.1
          have hms : mrM (fun _ => false) (rwT ρ z.1 z.2) (ρ id) = mkS (fun _ => false) (sub z.1 z.2) id := by rw [rwT_sub]; exact mr_mkS hV.Q (Q := LvN P) (mi := fun _ => false) (fun _ _ => rfl) (rootP_live hz).sub _ hid
          refine a_istore K dX11_holders_44 (by decide) ?_
          refine a_iload_n K dX11_holders_46 rfl ?_
          first | refine a_aload_n K dX11_holders_47 rfl ?_ | refine a_aload_nN K dX11_holders_47 rfl ?_
          refine a_getRs K fd_X11_32 (by exact lm_o hM) (Or.inr ⟨_, rfl⟩) (by exact lm_r717 hM) dX11_holders_48 ?_
          refine a_iload_n K dX11_holders_51 rfl ?_
          refine a_iald K (by exact lm_kk hM (by decide) (by decide)) (by show vp_in _ (sN V2 (m 7)); exact lm_ix (z := 12000) hM (by decide) (by decide) (show ρ id < 12000 by omega) (by decide)) dX11_holders_52 ?_
          rw [nI_clamp (by omega)]
          first | refine a_aload_n K dX11_holders_53 rfl ?_ | refine a_aload_nN K dX11_holders_53 rfl ?_
          refine a_getI K fd_X11_255 (by exact lm_o hM) (Or.inl rfl) dX11_holders_54 ?_
          rw [hk2.1]
          refine a_icmp_ne K dX11_holders_57 (tgt := 64) (by decide) (fun c_57 => ?_) (fun c_57 => absurd c_57 (fun q => hsk (hms.symm.trans ((hk2.2 _ hr12).mp q))))
          refine a_iconst K dX11_holders_64 (v := 0) (by decide) ?_
          refine a_iadd K dX11_holders_65 ?_
          rw [Int32.add_zero]
          refine a_istore_n K dX11_holders_66 (by decide) ?_
          refine a_iinc K dX11_holders_67 (v := 1) rfl (by decide) (by decide) ?_
          refine a_goto K dX11_holders_70 (tgt := 4) (by decide) ?_
          exact aw_locl (by rw [nI_1 j, ← hwN_n (fun q => hsk ((any_id hz).mp q))]; rfl) (ih (j + 1) _ V2 rfl (by omega) h2 (mQ_tr qV q2))
      · have hM := hV.1
        refine a_iload_n K dX11_holders_4 rfl ?_
        first | refine a_aload_n K dX11_holders_5 rfl ?_ | refine a_aload_nN K dX11_holders_5 rfl ?_
        refine a_getI K fd_X11_261 (by exact lm_o hM) (Or.inl rfl) dX11_holders_6 ?_
        rw [hV.nlen]
        refine a_icmp_ge K dX11_holders_9 (tgt := 73) (by decide) (fun c_9 => absurd c_9 (nI_ge (a := j) (b := (pM P).length) (by omega) (by omega))) (fun c_9 => ?_)
        first | refine a_aload_n K dX11_holders_12 rfl ?_ | refine a_aload_nN K dX11_holders_12 rfl ?_
        refine a_getRs K fd_X11_88 (by exact lm_o hM) (Or.inr ⟨_, rfl⟩) (by exact lm_r743 hM) dX11_holders_13 ?_
        refine a_iload_n K dX11_holders_16 rfl ?_
        refine a_zald K (by exact lm_kk hM (by decide) (by decide)) (by show vp_in _ (sN V (m 24)); exact lm_ix (z := 999) hM (by decide) (by decide) (show j < 999 by omega) (by decide)) dX11_holders_17 ?_
        rw [nI_clamp (by omega)]
        rw [show sA V (m 24) j = 0 from (hV.2.2.2.2.1.2.1 j (by omega)).trans (if_neg hh)]
        refine a_if_ne K dX11_holders_18 (tgt := 24) (by decide) (fun c_18 => absurd c_18 (fun q => q rfl)) (fun c_18 => ?_)
        refine a_goto K dX11_holders_21 (tgt := 67) (by decide) ?_
        refine a_iinc K dX11_holders_67 (v := 1) rfl (by decide) (by decide) ?_
        refine a_goto K dX11_holders_70 (tgt := 4) (by decide) ?_
        exact aw_locl (by rw [nI_1 j, ← hwN_n (any_no hz)]; rfl) (ih (j + 1) _ V rfl (by omega) (hV.up (by omega) (by omega)) qV)
  exact aw_locl rfl (loop (pM P).length 0 _ S nI_0.symm (Nat.zero_add _) h frS.rf)
theorem i32_six {w : Int32} (h : 0 ≤ w.toInt ∧ w.toInt ≤ 5) : w = 0 ∨ w = 1 ∨ w = 2 ∨ w = 3 ∨ w = 4 ∨ w = 5 := by
  obtain ⟨n, hn, rfl⟩ : ∃ n, n < 6 ∧ w = nI n := ⟨w.toInt.toNat, by omega, Int32.toInt_inj.mp (by rw [t_nI (by omega)]; omega)⟩
  have h6 : n = 0 ∨ n = 1 ∨ n = 2 ∨ n = 3 ∨ n = 4 ∨ n = 5 := by omega
  rcases h6 with rfl | rfl | rfl | rfl | rfl | rfl
  · exact Or.inl rfl
  · exact Or.inr (Or.inl rfl)
  · exact Or.inr (Or.inr (Or.inl rfl))
  · exact Or.inr (Or.inr (Or.inr (Or.inl rfl)))
  · exact Or.inr (Or.inr (Or.inr (Or.inr (Or.inl rfl))))
  · exact Or.inr (Or.inr (Or.inr (Or.inr (Or.inr rfl))))
set_option maxHeartbeats 4000000 in
set_option maxRecDepth 100000 in
theorem q_node {S : aw_S} {m ρ : Nat → Nat} {Z : List Nat × Nat} {mb n9 : Nat} {P : PS} (h0 : RM S m ρ Z mb P) (hJ : PJ n9 P) (hmb : mb + 1000 < 2147483000) {k9 i w : Int32} : aw_M yX11_node cX11_node 5 (some FieldType.int) 8 0 0 [.ref (m 33), .int k9, .int i, .int w] S (fun r S2 => r = some (.int (nodA P k9 i w)) ∧ RM S2 m ρ Z (mb + 1000) P ∧ frS S S2 (mQ m)) := by
  have hP := hJ.1
  have hw3 := hP.1.1
  have hM := h0.1
  have hl9 := hJ.ln
  refine aw_enter (by decide +kernel) (Nat.le_of_ble_eq_true rfl) (fun g K EE => ?_)
  cases hz : rootP P k9 with
  | none =>
    first | refine a_aload_n K dX11_node_0 rfl ?_ | refine a_aload_nN K dX11_node_0 rfl ?_
    refine a_iconst K dX11_node_1 (v := 0) (by decide) ?_
    refine a_putI K fd_X11_116 (by exact lm_o hM) rfl dX11_node_2 ?_
    have f0 : frM S (wI S 704 (m 33) 0) m [] [704] := frM_wI (by decide) (by decide)
    obtain ⟨T, hT⟩ : ∃ T, T = wI S 704 (m 33) 0 := ⟨_, rfl⟩
    rw [← hT] at f0 ⊢
    obtain ⟨h, q0⟩ := h0.scr hP f0 (by decide) (by decide)
    have hM := h.1
    first | refine a_aload_n K dX11_node_5 rfl ?_ | refine a_aload_nN K dX11_node_5 rfl ?_
    refine a_iload_n K dX11_node_6 rfl ?_
    refine a_invV K (q_mapN h hl9 hz) my_X11_isMap ml_X11_309 im_X11_isMap se_X11_isMap (ci := 11) (by exact lm_o hM) (by decide) ⟨_, _, rfl⟩ rfl (by omega) (by omega) (by omega) rfl (Nat.le_of_ble_eq_true rfl) dX11_node_7 ?_
    intro r9 S9 hp9
    obtain ⟨rfl, hS9⟩ := hp9
    obtain rfl := hS9.symm
    refine a_if_eq K dX11_node_10 (tgt := 29) (by decide) (fun c_10 => ?_) (fun c_10 => absurd c_10 (fun q => q rfl))
    refine a_ldc K kc_X11_170 dX11_node_29 ?_
    exact a_iret K EE rfl (by omega) (by omega) dX11_node_31 ⟨by unfold nodA; rw [hz], h.up (by omega) (by omega), q0⟩
  | some z =>
    obtain ⟨jm, hijm, hjm, -⟩ := h0.root hz
    subst hijm
    have tz := hP.tz (rootP_live hz)
    have h4z := tz.h4 hw3
    have e60z := tz.2.2.1
    by_cases hi : i < 0
    · first | refine a_aload_n K dX11_node_0 rfl ?_ | refine a_aload_nN K dX11_node_0 rfl ?_
      refine a_iconst K dX11_node_1 (v := 0) (by decide) ?_
      refine a_putI K fd_X11_116 (by exact lm_o hM) rfl dX11_node_2 ?_
      have f0 : frM S (wI S 704 (m 33) 0) m [] [704] := frM_wI (by decide) (by decide)
      obtain ⟨T, hT⟩ : ∃ T, T = wI S 704 (m 33) 0 := ⟨_, rfl⟩
      rw [← hT] at f0 ⊢
      obtain ⟨h, q0⟩ := h0.scr hP f0 (by decide) (by decide)
      have hM := h.1
      first | refine a_aload_n K dX11_node_5 rfl ?_ | refine a_aload_nN K dX11_node_5 rfl ?_
      refine a_iload_n K dX11_node_6 rfl ?_
      refine a_invV K (q_mapY h hl9 hz) my_X11_isMap ml_X11_309 im_X11_isMap se_X11_isMap (ci := 11) (by exact lm_o hM) (by decide) ⟨_, _, rfl⟩ rfl (by omega) (by omega) (by omega) rfl (Nat.le_of_ble_eq_true rfl) dX11_node_7 ?_
      intro r9 S9 hp9
      obtain ⟨rfl, hS9⟩ := hp9
      obtain rfl := hS9.symm
      refine a_if_eq K dX11_node_10 (tgt := 29) (by decide) (fun c_10 => absurd c_10 (by decide)) (fun c_10 => ?_)
      refine a_iload_n K dX11_node_13 rfl ?_
      refine a_if_lt K dX11_node_14 (tgt := 29) (by decide) (fun c_14 => ?_) (fun c_14 => absurd c_14 (fun q => q hi))
      refine a_ldc K kc_X11_170 dX11_node_29 ?_
      exact a_iret K EE rfl (by omega) (by omega) dX11_node_31 ⟨by unfold nodA; rw [hz]; exact congrArg (fun v => some (Value.int v)) (nodZ_no (fun q => by have h5 : i.toInt < 0 := i32_lt.mp hi; omega)).symm, h.up (by omega) (by omega), q0⟩
    by_cases hw : ¬ (0 ≤ w.toInt ∧ w.toInt ≤ 5)
    · first | refine a_aload_n K dX11_node_0 rfl ?_ | refine a_aload_nN K dX11_node_0 rfl ?_
      refine a_iconst K dX11_node_1 (v := 0) (by decide) ?_
      refine a_putI K fd_X11_116 (by exact lm_o hM) rfl dX11_node_2 ?_
      have f0 : frM S (wI S 704 (m 33) 0) m [] [704] := frM_wI (by decide) (by decide)
      obtain ⟨T, hT⟩ : ∃ T, T = wI S 704 (m 33) 0 := ⟨_, rfl⟩
      rw [← hT] at f0 ⊢
      obtain ⟨h, q0⟩ := h0.scr hP f0 (by decide) (by decide)
      have hM := h.1
      first | refine a_aload_n K dX11_node_5 rfl ?_ | refine a_aload_nN K dX11_node_5 rfl ?_
      refine a_iload_n K dX11_node_6 rfl ?_
      refine a_invV K (q_mapY h hl9 hz) my_X11_isMap ml_X11_309 im_X11_isMap se_X11_isMap (ci := 11) (by exact lm_o hM) (by decide) ⟨_, _, rfl⟩ rfl (by omega) (by omega) (by omega) rfl (Nat.le_of_ble_eq_true rfl) dX11_node_7 ?_
      intro r9 S9 hp9
      obtain ⟨rfl, hS9⟩ := hp9
      obtain rfl := hS9.symm
      refine a_if_eq K dX11_node_10 (tgt := 29) (by decide) (fun c_10 => absurd c_10 (by decide)) (fun c_10 => ?_)
      refine a_iload_n K dX11_node_13 rfl ?_
      refine a_if_lt K dX11_node_14 (tgt := 29) (by decide) (fun c_14 => absurd c_14 (hi)) (fun c_14 => ?_)
      refine a_iload_n K dX11_node_17 rfl ?_
      refine a_i2l K dX11_node_18 ?_
      refine a_lconst K dX11_node_19 (v := 0) (by decide) ?_
      refine a_ldc2 K kc_X11_327 dX11_node_20 ?_
      refine a_invS K (q_inN (p := 0) (q := 5) (by decide) (by decide) hw) my_X11_isIn ml_X11_174 st_X11_isIn rfl (by omega) (by omega) (by omega) rfl (Nat.le_of_ble_eq_true rfl) dX11_node_23 ?_
      intro r9 S9 hp9
      obtain ⟨rfl, hS9⟩ := hp9
      obtain rfl := hS9.symm
      refine a_if_ne K dX11_node_26 (tgt := 32) (by decide) (fun c_26 => absurd c_26 (fun q => q rfl)) (fun c_26 => ?_)
      refine a_ldc K kc_X11_170 dX11_node_29 ?_
      exact a_iret K EE rfl (by omega) (by omega) dX11_node_31 ⟨by unfold nodA; rw [hz]; exact congrArg (fun v => some (Value.int v)) (nodZ_w hw).symm, h.up (by omega) (by omega), q0⟩
    have hw := Classical.not_not.mp hw
    obtain ⟨j, hj31, rfl⟩ := nI_of hi
    by_cases hil : ¬ j < (sub z.1 z.2).length
    · first | refine a_aload_n K dX11_node_0 rfl ?_ | refine a_aload_nN K dX11_node_0 rfl ?_
      refine a_iconst K dX11_node_1 (v := 0) (by decide) ?_
      refine a_putI K fd_X11_116 (by exact lm_o hM) rfl dX11_node_2 ?_
      have f0 : frM S (wI S 704 (m 33) 0) m [] [704] := frM_wI (by decide) (by decide)
      obtain ⟨T, hT⟩ : ∃ T, T = wI S 704 (m 33) 0 := ⟨_, rfl⟩
      rw [← hT] at f0 ⊢
      obtain ⟨h, q0⟩ := h0.scr hP f0 (by decide) (by decide)
      have hM := h.1
      first | refine a_aload_n K dX11_node_5 rfl ?_ | refine a_aload_nN K dX11_node_5 rfl ?_
      refine a_iload_n K dX11_node_6 rfl ?_
      refine a_invV K (q_mapY h hl9 hz) my_X11_isMap ml_X11_309 im_X11_isMap se_X11_isMap (ci := 11) (by exact lm_o hM) (by decide) ⟨_, _, rfl⟩ rfl (by omega) (by omega) (by omega) rfl (Nat.le_of_ble_eq_true rfl) dX11_node_7 ?_
      intro r9 S9 hp9
      obtain ⟨rfl, hS9⟩ := hp9
      obtain rfl := hS9.symm
      refine a_if_eq K dX11_node_10 (tgt := 29) (by decide) (fun c_10 => absurd c_10 (by decide)) (fun c_10 => ?_)
      refine a_iload_n K dX11_node_13 rfl ?_
      refine a_if_lt K dX11_node_14 (tgt := 29) (by decide) (fun c_14 => absurd c_14 (hi)) (fun c_14 => ?_)
      refine a_iload_n K dX11_node_17 rfl ?_
      refine a_i2l K dX11_node_18 ?_
      refine a_lconst K dX11_node_19 (v := 0) (by decide) ?_
      refine a_ldc2 K kc_X11_327 dX11_node_20 ?_
      refine a_invS K (q_inY (p := 0) (q := 5) (by decide) (by decide) hw) my_X11_isIn ml_X11_174 st_X11_isIn rfl (by omega) (by omega) (by omega) rfl (Nat.le_of_ble_eq_true rfl) dX11_node_23 ?_
      intro r9 S9 hp9
      obtain ⟨rfl, hS9⟩ := hp9
      obtain rfl := hS9.symm
      refine a_if_ne K dX11_node_26 (tgt := 32) (by decide) (fun c_26 => ?_) (fun c_26 => absurd c_26 (by decide))
      first | refine a_aload_n K dX11_node_32 rfl ?_ | refine a_aload_nN K dX11_node_32 rfl ?_
      first | refine a_aload_n K dX11_node_33 rfl ?_ | refine a_aload_nN K dX11_node_33 rfl ?_
      refine a_getRs K fd_X11_67 (by exact lm_o hM) (Or.inr ⟨_, rfl⟩) (by exact lm_r736 hM) dX11_node_34 ?_
      refine a_iload_n K dX11_node_37 rfl ?_
      refine a_iald K (by exact lm_kk hM (by decide) (by decide)) (by show vp_in _ (sN T (m 17)); exact lm_ix (z := 999) hM (by decide) (by decide) (show jm < 999 by omega) (by decide)) dX11_node_38 ?_
      rw [nI_clamp (by omega)]
      rw [h.root2 hz (by omega)]
      refine a_invV K (m_laysTree hM (h.rep (rootP_live hz)) (by omega) (by omega) (by omega)) my_X11_laysTree ml_X11_252 im_X11_laysTree se_X11_laysTree (ci := 11) (by exact lm_o hM) (by decide) ⟨_, _, rfl⟩ rfl (by omega) (by omega) (by omega) rfl (Nat.le_of_ble_eq_true rfl) dX11_node_39 ?_
      intro r9 S9 hp9
      obtain ⟨rfl, hLy, f9⟩ := hp9
      obtain ⟨h9, q9⟩ := h.scr hP f9 (by decide) (by decide)
      have hM := h9.1
      have hN : (dpT z.1 z.2 0).length = (sub z.1 z.2).length := by rw [dpT_len, sub_len]
      refine a_iload_n K dX11_node_42 rfl ?_
      first | refine a_aload_n K dX11_node_43 rfl ?_ | refine a_aload_nN K dX11_node_43 rfl ?_
      refine a_getI K fd_X11_243 (by exact lm_o hM) (Or.inl rfl) dX11_node_44 ?_
      rw [hLy.2.1, hN]
      refine a_icmp_lt K dX11_node_47 (tgt := 53) (by decide) (fun c_47 => absurd c_47 (fun q => absurd ((nI_ltI (by omega) (by omega)).mp q) hil)) (fun c_47 => ?_)
      refine a_ldc K kc_X11_170 dX11_node_50 ?_
      exact a_iret K EE rfl (by omega) (by omega) dX11_node_52 ⟨by unfold nodA; rw [hz]; exact congrArg (fun v => some (Value.int v)) (nodZ_no (fun q => absurd q.2 (by rw [nI_toInt hj31]; omega))).symm, h9.up (by omega) (by omega), mQ_tr q0 q9⟩
    have hil := Classical.not_not.mp hil
    have hy := List.getElem?_eq_getElem hil
    generalize (sub z.1 z.2)[j] = y at hy
    have hym := List.mem_of_getElem? hy
    have hdx : (dpT z.1 z.2 0)[j]? = some (y.2.1, 0 + (z.1 - y.1)) := by rw [dpT_sub, List.getElem?_map, hy]; rfl
    have hsl := sub_lens z.1 z.2 y hym
    have hyl := sub_hl z.1 z.2 y hym
    have fy := sub_fan (show 1 ≤ lea (pW P) by unfold lea; omega) z.1 tz.1.ok y hym
    have ney : NeT y.1 y.2 := NeT_fan (show 1 ≤ lea (pW P) by unfold lea; omega) y.1 fy.1
    have hnz := fun w : Int32 => nodZ_at (P := P) (w := w) hy hj31
    by_cases w0 : w = 0
    · subst w0
      first | refine a_aload_n K dX11_node_0 rfl ?_ | refine a_aload_nN K dX11_node_0 rfl ?_
      refine a_iconst K dX11_node_1 (v := 0) (by decide) ?_
      refine a_putI K fd_X11_116 (by exact lm_o hM) rfl dX11_node_2 ?_
      have f0 : frM S (wI S 704 (m 33) 0) m [] [704] := frM_wI (by decide) (by decide)
      obtain ⟨T, hT⟩ : ∃ T, T = wI S 704 (m 33) 0 := ⟨_, rfl⟩
      rw [← hT] at f0 ⊢
      obtain ⟨h, q0⟩ := h0.scr hP f0 (by decide) (by decide)
      have hM := h.1
      first | refine a_aload_n K dX11_node_5 rfl ?_ | refine a_aload_nN K dX11_node_5 rfl ?_
      refine a_iload_n K dX11_node_6 rfl ?_
      refine a_invV K (q_mapY h hl9 hz) my_X11_isMap ml_X11_309 im_X11_isMap se_X11_isMap (ci := 11) (by exact lm_o hM) (by decide) ⟨_, _, rfl⟩ rfl (by omega) (by omega) (by omega) rfl (Nat.le_of_ble_eq_true rfl) dX11_node_7 ?_
      intro r9 S9 hp9
      obtain ⟨rfl, hS9⟩ := hp9
      obtain rfl := hS9.symm
      refine a_if_eq K dX11_node_10 (tgt := 29) (by decide) (fun c_10 => absurd c_10 (by decide)) (fun c_10 => ?_)
      refine a_iload_n K dX11_node_13 rfl ?_
      refine a_if_lt K dX11_node_14 (tgt := 29) (by decide) (fun c_14 => absurd c_14 (hi)) (fun c_14 => ?_)
      refine a_iload_n K dX11_node_17 rfl ?_
      refine a_i2l K dX11_node_18 ?_
      refine a_lconst K dX11_node_19 (v := 0) (by decide) ?_
      refine a_ldc2 K kc_X11_327 dX11_node_20 ?_
      refine a_invS K (q_inY (p := 0) (q := 5) (by decide) (by decide) hw) my_X11_isIn ml_X11_174 st_X11_isIn rfl (by omega) (by omega) (by omega) rfl (Nat.le_of_ble_eq_true rfl) dX11_node_23 ?_
      intro r9 S9 hp9
      obtain ⟨rfl, hS9⟩ := hp9
      obtain rfl := hS9.symm
      refine a_if_ne K dX11_node_26 (tgt := 32) (by decide) (fun c_26 => ?_) (fun c_26 => absurd c_26 (by decide))
      first | refine a_aload_n K dX11_node_32 rfl ?_ | refine a_aload_nN K dX11_node_32 rfl ?_
      first | refine a_aload_n K dX11_node_33 rfl ?_ | refine a_aload_nN K dX11_node_33 rfl ?_
      refine a_getRs K fd_X11_67 (by exact lm_o hM) (Or.inr ⟨_, rfl⟩) (by exact lm_r736 hM) dX11_node_34 ?_
      refine a_iload_n K dX11_node_37 rfl ?_
      refine a_iald K (by exact lm_kk hM (by decide) (by decide)) (by show vp_in _ (sN T (m 17)); exact lm_ix (z := 999) hM (by decide) (by decide) (show jm < 999 by omega) (by decide)) dX11_node_38 ?_
      rw [nI_clamp (by omega)]
      rw [h.root2 hz (by omega)]
      refine a_invV K (m_laysTree hM (h.rep (rootP_live hz)) (by omega) (by omega) (by omega)) my_X11_laysTree ml_X11_252 im_X11_laysTree se_X11_laysTree (ci := 11) (by exact lm_o hM) (by decide) ⟨_, _, rfl⟩ rfl (by omega) (by omega) (by omega) rfl (Nat.le_of_ble_eq_true rfl) dX11_node_39 ?_
      intro r9 S9 hp9
      obtain ⟨rfl, hLy, f9⟩ := hp9
      obtain ⟨h9, q9⟩ := h.scr hP f9 (by decide) (by decide)
      have hM := h9.1
      have hN : (dpT z.1 z.2 0).length = (sub z.1 z.2).length := by rw [dpT_len, sub_len]
      refine a_iload_n K dX11_node_42 rfl ?_
      first | refine a_aload_n K dX11_node_43 rfl ?_ | refine a_aload_nN K dX11_node_43 rfl ?_
      refine a_getI K fd_X11_243 (by exact lm_o hM) (Or.inl rfl) dX11_node_44 ?_
      rw [hLy.2.1, hN]
      refine a_icmp_lt K dX11_node_47 (tgt := 53) (by decide) (fun c_47 => ?_) (fun c_47 => absurd c_47 (fun q => q (nI_lt hil (by omega))))
      first | refine a_aload_n K dX11_node_53 rfl ?_ | refine a_aload_nN K dX11_node_53 rfl ?_
      refine a_getRs K fd_X11_61 (by exact lm_o hM) (Or.inr ⟨_, rfl⟩) (by exact lm_r732 hM) dX11_node_54 ?_
      refine a_iload_n K dX11_node_57 rfl ?_
      refine a_iald K (by exact lm_kk hM (by decide) (by decide)) (by show vp_in _ (sN S9 (m 15)); exact lm_ix (z := 240) hM (by decide) (by decide) (show j < 240 by omega) (by decide)) dX11_node_58 ?_
      rw [nI_clamp (by omega)]
      rw [show sA S9 (m 15) j = nI (ρ y.2.1) from (hLy.2.2.2 j _ hdx).1]
      have ry := sub_repM z.1 (h9.rep (rootP_live hz)) y hym
      have hr12 : ρ y.2.1 < 12000 := ry.own.1
      refine a_istore K dX11_node_59 (by decide) ?_
      refine a_iload_n K dX11_node_61 rfl ?_
      refine a_tsIn K dX11_node_62 (off := 34) (tgt := 96) (by decide) (by decide) rfl (by decide) ?_
      first | refine a_aload_n K dX11_node_96 rfl ?_ | refine a_aload_nN K dX11_node_96 rfl ?_
      refine a_getRs K fd_X11_23 (by exact lm_o hM) (Or.inr ⟨_, rfl⟩) (by exact lm_r714 hM) dX11_node_97 ?_
      refine a_iload K dX11_node_100 rfl ?_
      refine a_iald K (by exact lm_kk hM (by decide) (by decide)) (by show vp_in _ (sN S9 (m 4)); exact lm_ix (z := 12000) hM (by decide) (by decide) (show ρ y.2.1 < 12000 by omega) (by decide)) dX11_node_102 ?_
      rw [nI_clamp (by omega)]
      rw [show sA S9 (m 4) (ρ y.2.1) = (if y.1 = 0 then 1 else 0) from ry.own.2.1]
      exact a_iret K EE rfl (by omega) (by omega) dX11_node_103 ⟨by unfold nodA; rw [hz]; exact congrArg (fun v => some (Value.int v)) ((hnz _).trans (by rw [if_pos rfl])).symm, h9.up (by omega) (by omega), mQ_tr q0 q9⟩
    by_cases w1 : w = 1
    · subst w1
      first | refine a_aload_n K dX11_node_0 rfl ?_ | refine a_aload_nN K dX11_node_0 rfl ?_
      refine a_iconst K dX11_node_1 (v := 0) (by decide) ?_
      refine a_putI K fd_X11_116 (by exact lm_o hM) rfl dX11_node_2 ?_
      have f0 : frM S (wI S 704 (m 33) 0) m [] [704] := frM_wI (by decide) (by decide)
      obtain ⟨T, hT⟩ : ∃ T, T = wI S 704 (m 33) 0 := ⟨_, rfl⟩
      rw [← hT] at f0 ⊢
      obtain ⟨h, q0⟩ := h0.scr hP f0 (by decide) (by decide)
      have hM := h.1
      first | refine a_aload_n K dX11_node_5 rfl ?_ | refine a_aload_nN K dX11_node_5 rfl ?_
      refine a_iload_n K dX11_node_6 rfl ?_
      refine a_invV K (q_mapY h hl9 hz) my_X11_isMap ml_X11_309 im_X11_isMap se_X11_isMap (ci := 11) (by exact lm_o hM) (by decide) ⟨_, _, rfl⟩ rfl (by omega) (by omega) (by omega) rfl (Nat.le_of_ble_eq_true rfl) dX11_node_7 ?_
      intro r9 S9 hp9
      obtain ⟨rfl, hS9⟩ := hp9
      obtain rfl := hS9.symm
      refine a_if_eq K dX11_node_10 (tgt := 29) (by decide) (fun c_10 => absurd c_10 (by decide)) (fun c_10 => ?_)
      refine a_iload_n K dX11_node_13 rfl ?_
      refine a_if_lt K dX11_node_14 (tgt := 29) (by decide) (fun c_14 => absurd c_14 (hi)) (fun c_14 => ?_)
      refine a_iload_n K dX11_node_17 rfl ?_
      refine a_i2l K dX11_node_18 ?_
      refine a_lconst K dX11_node_19 (v := 0) (by decide) ?_
      refine a_ldc2 K kc_X11_327 dX11_node_20 ?_
      refine a_invS K (q_inY (p := 0) (q := 5) (by decide) (by decide) hw) my_X11_isIn ml_X11_174 st_X11_isIn rfl (by omega) (by omega) (by omega) rfl (Nat.le_of_ble_eq_true rfl) dX11_node_23 ?_
      intro r9 S9 hp9
      obtain ⟨rfl, hS9⟩ := hp9
      obtain rfl := hS9.symm
      refine a_if_ne K dX11_node_26 (tgt := 32) (by decide) (fun c_26 => ?_) (fun c_26 => absurd c_26 (by decide))
      first | refine a_aload_n K dX11_node_32 rfl ?_ | refine a_aload_nN K dX11_node_32 rfl ?_
      first | refine a_aload_n K dX11_node_33 rfl ?_ | refine a_aload_nN K dX11_node_33 rfl ?_
      refine a_getRs K fd_X11_67 (by exact lm_o hM) (Or.inr ⟨_, rfl⟩) (by exact lm_r736 hM) dX11_node_34 ?_
      refine a_iload_n K dX11_node_37 rfl ?_
      refine a_iald K (by exact lm_kk hM (by decide) (by decide)) (by show vp_in _ (sN T (m 17)); exact lm_ix (z := 999) hM (by decide) (by decide) (show jm < 999 by omega) (by decide)) dX11_node_38 ?_
      rw [nI_clamp (by omega)]
      rw [h.root2 hz (by omega)]
      refine a_invV K (m_laysTree hM (h.rep (rootP_live hz)) (by omega) (by omega) (by omega)) my_X11_laysTree ml_X11_252 im_X11_laysTree se_X11_laysTree (ci := 11) (by exact lm_o hM) (by decide) ⟨_, _, rfl⟩ rfl (by omega) (by omega) (by omega) rfl (Nat.le_of_ble_eq_true rfl) dX11_node_39 ?_
      intro r9 S9 hp9
      obtain ⟨rfl, hLy, f9⟩ := hp9
      obtain ⟨h9, q9⟩ := h.scr hP f9 (by decide) (by decide)
      have hM := h9.1
      have hN : (dpT z.1 z.2 0).length = (sub z.1 z.2).length := by rw [dpT_len, sub_len]
      refine a_iload_n K dX11_node_42 rfl ?_
      first | refine a_aload_n K dX11_node_43 rfl ?_ | refine a_aload_nN K dX11_node_43 rfl ?_
      refine a_getI K fd_X11_243 (by exact lm_o hM) (Or.inl rfl) dX11_node_44 ?_
      rw [hLy.2.1, hN]
      refine a_icmp_lt K dX11_node_47 (tgt := 53) (by decide) (fun c_47 => ?_) (fun c_47 => absurd c_47 (fun q => q (nI_lt hil (by omega))))
      first | refine a_aload_n K dX11_node_53 rfl ?_ | refine a_aload_nN K dX11_node_53 rfl ?_
      refine a_getRs K fd_X11_61 (by exact lm_o hM) (Or.inr ⟨_, rfl⟩) (by exact lm_r732 hM) dX11_node_54 ?_
      refine a_iload_n K dX11_node_57 rfl ?_
      refine a_iald K (by exact lm_kk hM (by decide) (by decide)) (by show vp_in _ (sN S9 (m 15)); exact lm_ix (z := 240) hM (by decide) (by decide) (show j < 240 by omega) (by decide)) dX11_node_58 ?_
      rw [nI_clamp (by omega)]
      rw [show sA S9 (m 15) j = nI (ρ y.2.1) from (hLy.2.2.2 j _ hdx).1]
      have ry := sub_repM z.1 (h9.rep (rootP_live hz)) y hym
      have hr12 : ρ y.2.1 < 12000 := ry.own.1
      refine a_istore K dX11_node_59 (by decide) ?_
      refine a_iload_n K dX11_node_61 rfl ?_
      refine a_tsIn K dX11_node_62 (off := 42) (tgt := 104) (by decide) (by decide) rfl (by decide) ?_
      first | refine a_aload_n K dX11_node_104 rfl ?_ | refine a_aload_nN K dX11_node_104 rfl ?_
      refine a_getRs K fd_X11_26 (by exact lm_o hM) (Or.inr ⟨_, rfl⟩) (by exact lm_r715 hM) dX11_node_105 ?_
      refine a_iload K dX11_node_108 rfl ?_
      refine a_iald K (by exact lm_kk hM (by decide) (by decide)) (by show vp_in _ (sN S9 (m 5)); exact lm_ix (z := 12000) hM (by decide) (by decide) (show ρ y.2.1 < 12000 by omega) (by decide)) dX11_node_110 ?_
      rw [nI_clamp (by omega)]
      rw [show sA S9 (m 5) (ρ y.2.1) = nI y.2.2.2.length from ry.own.2.2.1]
      exact a_iret K EE rfl (by omega) (by omega) dX11_node_111 ⟨by unfold nodA; rw [hz]; exact congrArg (fun v => some (Value.int v)) ((hnz _).trans (by rw [if_neg (by decide), if_pos rfl])).symm, h9.up (by omega) (by omega), mQ_tr q0 q9⟩
    by_cases w2 : w = 2
    · subst w2
      first | refine a_aload_n K dX11_node_0 rfl ?_ | refine a_aload_nN K dX11_node_0 rfl ?_
      refine a_iconst K dX11_node_1 (v := 0) (by decide) ?_
      refine a_putI K fd_X11_116 (by exact lm_o hM) rfl dX11_node_2 ?_
      have f0 : frM S (wI S 704 (m 33) 0) m [] [704] := frM_wI (by decide) (by decide)
      obtain ⟨T, hT⟩ : ∃ T, T = wI S 704 (m 33) 0 := ⟨_, rfl⟩
      rw [← hT] at f0 ⊢
      obtain ⟨h, q0⟩ := h0.scr hP f0 (by decide) (by decide)
      have hM := h.1
      first | refine a_aload_n K dX11_node_5 rfl ?_ | refine a_aload_nN K dX11_node_5 rfl ?_
      refine a_iload_n K dX11_node_6 rfl ?_
      refine a_invV K (q_mapY h hl9 hz) my_X11_isMap ml_X11_309 im_X11_isMap se_X11_isMap (ci := 11) (by exact lm_o hM) (by decide) ⟨_, _, rfl⟩ rfl (by omega) (by omega) (by omega) rfl (Nat.le_of_ble_eq_true rfl) dX11_node_7 ?_
      intro r9 S9 hp9
      obtain ⟨rfl, hS9⟩ := hp9
      obtain rfl := hS9.symm
      refine a_if_eq K dX11_node_10 (tgt := 29) (by decide) (fun c_10 => absurd c_10 (by decide)) (fun c_10 => ?_)
      refine a_iload_n K dX11_node_13 rfl ?_
      refine a_if_lt K dX11_node_14 (tgt := 29) (by decide) (fun c_14 => absurd c_14 (hi)) (fun c_14 => ?_)
      refine a_iload_n K dX11_node_17 rfl ?_
      refine a_i2l K dX11_node_18 ?_
      refine a_lconst K dX11_node_19 (v := 0) (by decide) ?_
      refine a_ldc2 K kc_X11_327 dX11_node_20 ?_
      refine a_invS K (q_inY (p := 0) (q := 5) (by decide) (by decide) hw) my_X11_isIn ml_X11_174 st_X11_isIn rfl (by omega) (by omega) (by omega) rfl (Nat.le_of_ble_eq_true rfl) dX11_node_23 ?_
      intro r9 S9 hp9
      obtain ⟨rfl, hS9⟩ := hp9
      obtain rfl := hS9.symm
      refine a_if_ne K dX11_node_26 (tgt := 32) (by decide) (fun c_26 => ?_) (fun c_26 => absurd c_26 (by decide))
      first | refine a_aload_n K dX11_node_32 rfl ?_ | refine a_aload_nN K dX11_node_32 rfl ?_
      first | refine a_aload_n K dX11_node_33 rfl ?_ | refine a_aload_nN K dX11_node_33 rfl ?_
      refine a_getRs K fd_X11_67 (by exact lm_o hM) (Or.inr ⟨_, rfl⟩) (by exact lm_r736 hM) dX11_node_34 ?_
      refine a_iload_n K dX11_node_37 rfl ?_
      refine a_iald K (by exact lm_kk hM (by decide) (by decide)) (by show vp_in _ (sN T (m 17)); exact lm_ix (z := 999) hM (by decide) (by decide) (show jm < 999 by omega) (by decide)) dX11_node_38 ?_
      rw [nI_clamp (by omega)]
      rw [h.root2 hz (by omega)]
      refine a_invV K (m_laysTree hM (h.rep (rootP_live hz)) (by omega) (by omega) (by omega)) my_X11_laysTree ml_X11_252 im_X11_laysTree se_X11_laysTree (ci := 11) (by exact lm_o hM) (by decide) ⟨_, _, rfl⟩ rfl (by omega) (by omega) (by omega) rfl (Nat.le_of_ble_eq_true rfl) dX11_node_39 ?_
      intro r9 S9 hp9
      obtain ⟨rfl, hLy, f9⟩ := hp9
      obtain ⟨h9, q9⟩ := h.scr hP f9 (by decide) (by decide)
      have hM := h9.1
      have hN : (dpT z.1 z.2 0).length = (sub z.1 z.2).length := by rw [dpT_len, sub_len]
      refine a_iload_n K dX11_node_42 rfl ?_
      first | refine a_aload_n K dX11_node_43 rfl ?_ | refine a_aload_nN K dX11_node_43 rfl ?_
      refine a_getI K fd_X11_243 (by exact lm_o hM) (Or.inl rfl) dX11_node_44 ?_
      rw [hLy.2.1, hN]
      refine a_icmp_lt K dX11_node_47 (tgt := 53) (by decide) (fun c_47 => ?_) (fun c_47 => absurd c_47 (fun q => q (nI_lt hil (by omega))))
      first | refine a_aload_n K dX11_node_53 rfl ?_ | refine a_aload_nN K dX11_node_53 rfl ?_
      refine a_getRs K fd_X11_61 (by exact lm_o hM) (Or.inr ⟨_, rfl⟩) (by exact lm_r732 hM) dX11_node_54 ?_
      refine a_iload_n K dX11_node_57 rfl ?_
      refine a_iald K (by exact lm_kk hM (by decide) (by decide)) (by show vp_in _ (sN S9 (m 15)); exact lm_ix (z := 240) hM (by decide) (by decide) (show j < 240 by omega) (by decide)) dX11_node_58 ?_
      rw [nI_clamp (by omega)]
      rw [show sA S9 (m 15) j = nI (ρ y.2.1) from (hLy.2.2.2 j _ hdx).1]
      have ry := sub_repM z.1 (h9.rep (rootP_live hz)) y hym
      have hr12 : ρ y.2.1 < 12000 := ry.own.1
      refine a_istore K dX11_node_59 (by decide) ?_
      refine a_iload_n K dX11_node_61 rfl ?_
      refine a_tsIn K dX11_node_62 (off := 50) (tgt := 112) (by decide) (by decide) rfl (by decide) ?_
      first | refine a_aload_n K dX11_node_112 rfl ?_ | refine a_aload_nN K dX11_node_112 rfl ?_
      refine a_iload K dX11_node_113 rfl ?_
      refine a_invV K (m_lowest hM ry ney) my_X11_lowest ml_X11_200 im_X11_lowest se_X11_lowest (ci := 11) (by exact lm_o hM) (by decide) ⟨_, _, rfl⟩ rfl (by omega) (by omega) (by omega) rfl (Nat.le_of_ble_eq_true rfl) dX11_node_115 ?_
      intro r9 S9 hp9
      obtain ⟨rfl, hS9⟩ := hp9
      obtain rfl := hS9.symm
      exact a_iret K EE rfl (by omega) (by omega) dX11_node_118 ⟨by unfold nodA; rw [hz]; exact congrArg (fun v => some (Value.int v)) ((hnz _).trans (by rw [if_neg (by decide), if_neg (by decide), if_pos rfl])).symm, h9.up (by omega) (by omega), mQ_tr q0 q9⟩
    by_cases w3 : w = 3
    · subst w3
      first | refine a_aload_n K dX11_node_0 rfl ?_ | refine a_aload_nN K dX11_node_0 rfl ?_
      refine a_iconst K dX11_node_1 (v := 0) (by decide) ?_
      refine a_putI K fd_X11_116 (by exact lm_o hM) rfl dX11_node_2 ?_
      have f0 : frM S (wI S 704 (m 33) 0) m [] [704] := frM_wI (by decide) (by decide)
      obtain ⟨T, hT⟩ : ∃ T, T = wI S 704 (m 33) 0 := ⟨_, rfl⟩
      rw [← hT] at f0 ⊢
      obtain ⟨h, q0⟩ := h0.scr hP f0 (by decide) (by decide)
      have hM := h.1
      first | refine a_aload_n K dX11_node_5 rfl ?_ | refine a_aload_nN K dX11_node_5 rfl ?_
      refine a_iload_n K dX11_node_6 rfl ?_
      refine a_invV K (q_mapY h hl9 hz) my_X11_isMap ml_X11_309 im_X11_isMap se_X11_isMap (ci := 11) (by exact lm_o hM) (by decide) ⟨_, _, rfl⟩ rfl (by omega) (by omega) (by omega) rfl (Nat.le_of_ble_eq_true rfl) dX11_node_7 ?_
      intro r9 S9 hp9
      obtain ⟨rfl, hS9⟩ := hp9
      obtain rfl := hS9.symm
      refine a_if_eq K dX11_node_10 (tgt := 29) (by decide) (fun c_10 => absurd c_10 (by decide)) (fun c_10 => ?_)
      refine a_iload_n K dX11_node_13 rfl ?_
      refine a_if_lt K dX11_node_14 (tgt := 29) (by decide) (fun c_14 => absurd c_14 (hi)) (fun c_14 => ?_)
      refine a_iload_n K dX11_node_17 rfl ?_
      refine a_i2l K dX11_node_18 ?_
      refine a_lconst K dX11_node_19 (v := 0) (by decide) ?_
      refine a_ldc2 K kc_X11_327 dX11_node_20 ?_
      refine a_invS K (q_inY (p := 0) (q := 5) (by decide) (by decide) hw) my_X11_isIn ml_X11_174 st_X11_isIn rfl (by omega) (by omega) (by omega) rfl (Nat.le_of_ble_eq_true rfl) dX11_node_23 ?_
      intro r9 S9 hp9
      obtain ⟨rfl, hS9⟩ := hp9
      obtain rfl := hS9.symm
      refine a_if_ne K dX11_node_26 (tgt := 32) (by decide) (fun c_26 => ?_) (fun c_26 => absurd c_26 (by decide))
      first | refine a_aload_n K dX11_node_32 rfl ?_ | refine a_aload_nN K dX11_node_32 rfl ?_
      first | refine a_aload_n K dX11_node_33 rfl ?_ | refine a_aload_nN K dX11_node_33 rfl ?_
      refine a_getRs K fd_X11_67 (by exact lm_o hM) (Or.inr ⟨_, rfl⟩) (by exact lm_r736 hM) dX11_node_34 ?_
      refine a_iload_n K dX11_node_37 rfl ?_
      refine a_iald K (by exact lm_kk hM (by decide) (by decide)) (by show vp_in _ (sN T (m 17)); exact lm_ix (z := 999) hM (by decide) (by decide) (show jm < 999 by omega) (by decide)) dX11_node_38 ?_
      rw [nI_clamp (by omega)]
      rw [h.root2 hz (by omega)]
      refine a_invV K (m_laysTree hM (h.rep (rootP_live hz)) (by omega) (by omega) (by omega)) my_X11_laysTree ml_X11_252 im_X11_laysTree se_X11_laysTree (ci := 11) (by exact lm_o hM) (by decide) ⟨_, _, rfl⟩ rfl (by omega) (by omega) (by omega) rfl (Nat.le_of_ble_eq_true rfl) dX11_node_39 ?_
      intro r9 S9 hp9
      obtain ⟨rfl, hLy, f9⟩ := hp9
      obtain ⟨h9, q9⟩ := h.scr hP f9 (by decide) (by decide)
      have hM := h9.1
      have hN : (dpT z.1 z.2 0).length = (sub z.1 z.2).length := by rw [dpT_len, sub_len]
      refine a_iload_n K dX11_node_42 rfl ?_
      first | refine a_aload_n K dX11_node_43 rfl ?_ | refine a_aload_nN K dX11_node_43 rfl ?_
      refine a_getI K fd_X11_243 (by exact lm_o hM) (Or.inl rfl) dX11_node_44 ?_
      rw [hLy.2.1, hN]
      refine a_icmp_lt K dX11_node_47 (tgt := 53) (by decide) (fun c_47 => ?_) (fun c_47 => absurd c_47 (fun q => q (nI_lt hil (by omega))))
      first | refine a_aload_n K dX11_node_53 rfl ?_ | refine a_aload_nN K dX11_node_53 rfl ?_
      refine a_getRs K fd_X11_61 (by exact lm_o hM) (Or.inr ⟨_, rfl⟩) (by exact lm_r732 hM) dX11_node_54 ?_
      refine a_iload_n K dX11_node_57 rfl ?_
      refine a_iald K (by exact lm_kk hM (by decide) (by decide)) (by show vp_in _ (sN S9 (m 15)); exact lm_ix (z := 240) hM (by decide) (by decide) (show j < 240 by omega) (by decide)) dX11_node_58 ?_
      rw [nI_clamp (by omega)]
      rw [show sA S9 (m 15) j = nI (ρ y.2.1) from (hLy.2.2.2 j _ hdx).1]
      have ry := sub_repM z.1 (h9.rep (rootP_live hz)) y hym
      have hr12 : ρ y.2.1 < 12000 := ry.own.1
      refine a_istore K dX11_node_59 (by decide) ?_
      refine a_iload_n K dX11_node_61 rfl ?_
      refine a_tsIn K dX11_node_62 (off := 57) (tgt := 119) (by decide) (by decide) rfl (by decide) ?_
      first | refine a_aload_n K dX11_node_119 rfl ?_ | refine a_aload_nN K dX11_node_119 rfl ?_
      refine a_getRs K fd_X11_64 (by exact lm_o hM) (Or.inr ⟨_, rfl⟩) (by exact lm_r733 hM) dX11_node_120 ?_
      refine a_iload_n K dX11_node_123 rfl ?_
      refine a_iald K (by exact lm_kk hM (by decide) (by decide)) (by show vp_in _ (sN S9 (m 16)); exact lm_ix (z := 240) hM (by decide) (by decide) (show j < 240 by omega) (by decide)) dX11_node_124 ?_
      rw [nI_clamp (by omega)]
      rw [show sA S9 (m 16) j = nI (z.1 - y.1) from (hLy.2.2.2 j _ hdx).2.trans (by show nI (0 + (z.1 - y.1)) = _; rw [Nat.zero_add])]
      exact a_iret K EE rfl (by omega) (by omega) dX11_node_125 ⟨by unfold nodA; rw [hz]; exact congrArg (fun v => some (Value.int v)) ((hnz _).trans (by rw [if_neg (by decide), if_neg (by decide), if_neg (by decide), if_pos rfl])).symm, h9.up (by omega) (by omega), mQ_tr q0 q9⟩
    by_cases w4 : w = 4
    · subst w4
      first | refine a_aload_n K dX11_node_0 rfl ?_ | refine a_aload_nN K dX11_node_0 rfl ?_
      refine a_iconst K dX11_node_1 (v := 0) (by decide) ?_
      refine a_putI K fd_X11_116 (by exact lm_o hM) rfl dX11_node_2 ?_
      have f0 : frM S (wI S 704 (m 33) 0) m [] [704] := frM_wI (by decide) (by decide)
      obtain ⟨T, hT⟩ : ∃ T, T = wI S 704 (m 33) 0 := ⟨_, rfl⟩
      rw [← hT] at f0 ⊢
      obtain ⟨h, q0⟩ := h0.scr hP f0 (by decide) (by decide)
      have hM := h.1
      first | refine a_aload_n K dX11_node_5 rfl ?_ | refine a_aload_nN K dX11_node_5 rfl ?_
      refine a_iload_n K dX11_node_6 rfl ?_
      refine a_invV K (q_mapY h hl9 hz) my_X11_isMap ml_X11_309 im_X11_isMap se_X11_isMap (ci := 11) (by exact lm_o hM) (by decide) ⟨_, _, rfl⟩ rfl (by omega) (by omega) (by omega) rfl (Nat.le_of_ble_eq_true rfl) dX11_node_7 ?_
      intro r9 S9 hp9
      obtain ⟨rfl, hS9⟩ := hp9
      obtain rfl := hS9.symm
      refine a_if_eq K dX11_node_10 (tgt := 29) (by decide) (fun c_10 => absurd c_10 (by decide)) (fun c_10 => ?_)
      refine a_iload_n K dX11_node_13 rfl ?_
      refine a_if_lt K dX11_node_14 (tgt := 29) (by decide) (fun c_14 => absurd c_14 (hi)) (fun c_14 => ?_)
      refine a_iload_n K dX11_node_17 rfl ?_
      refine a_i2l K dX11_node_18 ?_
      refine a_lconst K dX11_node_19 (v := 0) (by decide) ?_
      refine a_ldc2 K kc_X11_327 dX11_node_20 ?_
      refine a_invS K (q_inY (p := 0) (q := 5) (by decide) (by decide) hw) my_X11_isIn ml_X11_174 st_X11_isIn rfl (by omega) (by omega) (by omega) rfl (Nat.le_of_ble_eq_true rfl) dX11_node_23 ?_
      intro r9 S9 hp9
      obtain ⟨rfl, hS9⟩ := hp9
      obtain rfl := hS9.symm
      refine a_if_ne K dX11_node_26 (tgt := 32) (by decide) (fun c_26 => ?_) (fun c_26 => absurd c_26 (by decide))
      first | refine a_aload_n K dX11_node_32 rfl ?_ | refine a_aload_nN K dX11_node_32 rfl ?_
      first | refine a_aload_n K dX11_node_33 rfl ?_ | refine a_aload_nN K dX11_node_33 rfl ?_
      refine a_getRs K fd_X11_67 (by exact lm_o hM) (Or.inr ⟨_, rfl⟩) (by exact lm_r736 hM) dX11_node_34 ?_
      refine a_iload_n K dX11_node_37 rfl ?_
      refine a_iald K (by exact lm_kk hM (by decide) (by decide)) (by show vp_in _ (sN T (m 17)); exact lm_ix (z := 999) hM (by decide) (by decide) (show jm < 999 by omega) (by decide)) dX11_node_38 ?_
      rw [nI_clamp (by omega)]
      rw [h.root2 hz (by omega)]
      refine a_invV K (m_laysTree hM (h.rep (rootP_live hz)) (by omega) (by omega) (by omega)) my_X11_laysTree ml_X11_252 im_X11_laysTree se_X11_laysTree (ci := 11) (by exact lm_o hM) (by decide) ⟨_, _, rfl⟩ rfl (by omega) (by omega) (by omega) rfl (Nat.le_of_ble_eq_true rfl) dX11_node_39 ?_
      intro r9 S9 hp9
      obtain ⟨rfl, hLy, f9⟩ := hp9
      obtain ⟨h9, q9⟩ := h.scr hP f9 (by decide) (by decide)
      have hM := h9.1
      have hN : (dpT z.1 z.2 0).length = (sub z.1 z.2).length := by rw [dpT_len, sub_len]
      refine a_iload_n K dX11_node_42 rfl ?_
      first | refine a_aload_n K dX11_node_43 rfl ?_ | refine a_aload_nN K dX11_node_43 rfl ?_
      refine a_getI K fd_X11_243 (by exact lm_o hM) (Or.inl rfl) dX11_node_44 ?_
      rw [hLy.2.1, hN]
      refine a_icmp_lt K dX11_node_47 (tgt := 53) (by decide) (fun c_47 => ?_) (fun c_47 => absurd c_47 (fun q => q (nI_lt hil (by omega))))
      first | refine a_aload_n K dX11_node_53 rfl ?_ | refine a_aload_nN K dX11_node_53 rfl ?_
      refine a_getRs K fd_X11_61 (by exact lm_o hM) (Or.inr ⟨_, rfl⟩) (by exact lm_r732 hM) dX11_node_54 ?_
      refine a_iload_n K dX11_node_57 rfl ?_
      refine a_iald K (by exact lm_kk hM (by decide) (by decide)) (by show vp_in _ (sN S9 (m 15)); exact lm_ix (z := 240) hM (by decide) (by decide) (show j < 240 by omega) (by decide)) dX11_node_58 ?_
      rw [nI_clamp (by omega)]
      rw [show sA S9 (m 15) j = nI (ρ y.2.1) from (hLy.2.2.2 j _ hdx).1]
      have ry := sub_repM z.1 (h9.rep (rootP_live hz)) y hym
      have hr12 : ρ y.2.1 < 12000 := ry.own.1
      refine a_istore K dX11_node_59 (by decide) ?_
      refine a_iload_n K dX11_node_61 rfl ?_
      refine a_tsIn K dX11_node_62 (off := 64) (tgt := 126) (by decide) (by decide) rfl (by decide) ?_
      first | refine a_aload_n K dX11_node_126 rfl ?_ | refine a_aload_nN K dX11_node_126 rfl ?_
      refine a_iload K dX11_node_127 rfl ?_
      refine a_invV K (q_holders h9 hJ hmb ((rootP_live hz).sub y hym)) my_X11_holders ml_X11_329 im_X11_holders se_X11_holders (ci := 11) (by exact lm_o hM) (by decide) ⟨_, _, rfl⟩ rfl (by omega) (by omega) (by omega) rfl (Nat.le_of_ble_eq_true rfl) dX11_node_129 ?_
      intro r9 S8 hp9
      obtain ⟨rfl, h8, q8⟩ := hp9
      exact a_iret K EE rfl (by omega) (by omega) dX11_node_132 ⟨by unfold nodA; rw [hz]; exact congrArg (fun v => some (Value.int v)) ((hnz _).trans (by rw [if_neg (by decide), if_neg (by decide), if_neg (by decide), if_neg (by decide), if_pos rfl])).symm, h8, mQ_tr q0 (mQ_tr q9 q8)⟩
    by_cases w5 : w = 5
    · subst w5
      first | refine a_aload_n K dX11_node_0 rfl ?_ | refine a_aload_nN K dX11_node_0 rfl ?_
      refine a_iconst K dX11_node_1 (v := 0) (by decide) ?_
      refine a_putI K fd_X11_116 (by exact lm_o hM) rfl dX11_node_2 ?_
      have f0 : frM S (wI S 704 (m 33) 0) m [] [704] := frM_wI (by decide) (by decide)
      obtain ⟨T, hT⟩ : ∃ T, T = wI S 704 (m 33) 0 := ⟨_, rfl⟩
      rw [← hT] at f0 ⊢
      obtain ⟨h, q0⟩ := h0.scr hP f0 (by decide) (by decide)
      have hM := h.1
      first | refine a_aload_n K dX11_node_5 rfl ?_ | refine a_aload_nN K dX11_node_5 rfl ?_
      refine a_iload_n K dX11_node_6 rfl ?_
      refine a_invV K (q_mapY h hl9 hz) my_X11_isMap ml_X11_309 im_X11_isMap se_X11_isMap (ci := 11) (by exact lm_o hM) (by decide) ⟨_, _, rfl⟩ rfl (by omega) (by omega) (by omega) rfl (Nat.le_of_ble_eq_true rfl) dX11_node_7 ?_
      intro r9 S9 hp9
      obtain ⟨rfl, hS9⟩ := hp9
      obtain rfl := hS9.symm
      refine a_if_eq K dX11_node_10 (tgt := 29) (by decide) (fun c_10 => absurd c_10 (by decide)) (fun c_10 => ?_)
      refine a_iload_n K dX11_node_13 rfl ?_
      refine a_if_lt K dX11_node_14 (tgt := 29) (by decide) (fun c_14 => absurd c_14 (hi)) (fun c_14 => ?_)
      refine a_iload_n K dX11_node_17 rfl ?_
      refine a_i2l K dX11_node_18 ?_
      refine a_lconst K dX11_node_19 (v := 0) (by decide) ?_
      refine a_ldc2 K kc_X11_327 dX11_node_20 ?_
      refine a_invS K (q_inY (p := 0) (q := 5) (by decide) (by decide) hw) my_X11_isIn ml_X11_174 st_X11_isIn rfl (by omega) (by omega) (by omega) rfl (Nat.le_of_ble_eq_true rfl) dX11_node_23 ?_
      intro r9 S9 hp9
      obtain ⟨rfl, hS9⟩ := hp9
      obtain rfl := hS9.symm
      refine a_if_ne K dX11_node_26 (tgt := 32) (by decide) (fun c_26 => ?_) (fun c_26 => absurd c_26 (by decide))
      first | refine a_aload_n K dX11_node_32 rfl ?_ | refine a_aload_nN K dX11_node_32 rfl ?_
      first | refine a_aload_n K dX11_node_33 rfl ?_ | refine a_aload_nN K dX11_node_33 rfl ?_
      refine a_getRs K fd_X11_67 (by exact lm_o hM) (Or.inr ⟨_, rfl⟩) (by exact lm_r736 hM) dX11_node_34 ?_
      refine a_iload_n K dX11_node_37 rfl ?_
      refine a_iald K (by exact lm_kk hM (by decide) (by decide)) (by show vp_in _ (sN T (m 17)); exact lm_ix (z := 999) hM (by decide) (by decide) (show jm < 999 by omega) (by decide)) dX11_node_38 ?_
      rw [nI_clamp (by omega)]
      rw [h.root2 hz (by omega)]
      refine a_invV K (m_laysTree hM (h.rep (rootP_live hz)) (by omega) (by omega) (by omega)) my_X11_laysTree ml_X11_252 im_X11_laysTree se_X11_laysTree (ci := 11) (by exact lm_o hM) (by decide) ⟨_, _, rfl⟩ rfl (by omega) (by omega) (by omega) rfl (Nat.le_of_ble_eq_true rfl) dX11_node_39 ?_
      intro r9 S9 hp9
      obtain ⟨rfl, hLy, f9⟩ := hp9
      obtain ⟨h9, q9⟩ := h.scr hP f9 (by decide) (by decide)
      have hM := h9.1
      have hN : (dpT z.1 z.2 0).length = (sub z.1 z.2).length := by rw [dpT_len, sub_len]
      refine a_iload_n K dX11_node_42 rfl ?_
      first | refine a_aload_n K dX11_node_43 rfl ?_ | refine a_aload_nN K dX11_node_43 rfl ?_
      refine a_getI K fd_X11_243 (by exact lm_o hM) (Or.inl rfl) dX11_node_44 ?_
      rw [hLy.2.1, hN]
      refine a_icmp_lt K dX11_node_47 (tgt := 53) (by decide) (fun c_47 => ?_) (fun c_47 => absurd c_47 (fun q => q (nI_lt hil (by omega))))
      first | refine a_aload_n K dX11_node_53 rfl ?_ | refine a_aload_nN K dX11_node_53 rfl ?_
      refine a_getRs K fd_X11_61 (by exact lm_o hM) (Or.inr ⟨_, rfl⟩) (by exact lm_r732 hM) dX11_node_54 ?_
      refine a_iload_n K dX11_node_57 rfl ?_
      refine a_iald K (by exact lm_kk hM (by decide) (by decide)) (by show vp_in _ (sN S9 (m 15)); exact lm_ix (z := 240) hM (by decide) (by decide) (show j < 240 by omega) (by decide)) dX11_node_58 ?_
      rw [nI_clamp (by omega)]
      rw [show sA S9 (m 15) j = nI (ρ y.2.1) from (hLy.2.2.2 j _ hdx).1]
      have ry := sub_repM z.1 (h9.rep (rootP_live hz)) y hym
      have hr12 : ρ y.2.1 < 12000 := ry.own.1
      refine a_istore K dX11_node_59 (by decide) ?_
      refine a_iload_n K dX11_node_61 rfl ?_
      refine a_tsOut K dX11_node_62 (tgt := 133) (Or.inr (by decide)) (by decide) ?_
      first | refine a_aload_n K dX11_node_133 rfl ?_ | refine a_aload_nN K dX11_node_133 rfl ?_
      refine a_iload K dX11_node_134 rfl ?_
      refine a_invV K (m_keysOf hM ry (by omega) (by omega) (by omega)) my_X11_keysOf ml_X11_332 im_X11_keysOf se_X11_keysOf (ci := 11) (by exact lm_o hM) (by decide) ⟨_, _, rfl⟩ rfl (by omega) (by omega) (by omega) rfl (Nat.le_of_ble_eq_true rfl) dX11_node_136 ?_
      intro r9 S8 hp9
      obtain ⟨rfl, hLy8, f8⟩ := hp9
      obtain ⟨h8, q8⟩ := h9.scr hP f8 (by decide) (by decide)
      exact a_iret K EE rfl (by omega) (by omega) dX11_node_139 ⟨by rw [← cnt_ent]; unfold nodA; rw [hz]; exact congrArg (fun v => some (Value.int v)) ((hnz _).trans (by rw [if_neg (by decide), if_neg (by decide), if_neg (by decide), if_neg (by decide), if_neg (by decide), if_pos rfl])).symm, h8.up (by omega) (by omega), mQ_tr q0 (mQ_tr q9 q8)⟩
    exact absurd (i32_six hw) (fun q => q.elim w0 (fun q => q.elim w1 (fun q => q.elim w2 (fun q => q.elim w3 (fun q => q.elim w4 w5)))))
