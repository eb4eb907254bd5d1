/-- free rows: those that were given back, then those never used -/
def FrM (S : aw_S) (m : Nat → Nat) (F : List Nat) (u : Nat) : Prop := sI S 721 (m 33) = nI F.length ∧ sI S 722 (m 33) = nI u ∧ u ≤ 12000 ∧ F.length ≤ 12000 ∧ ∀ i r, F[i]? = some r → sA S (m 8) i = nI r ∧ r < u
/-- the row that is given next, and what is free then -/
def nxR (F : List Nat) (u : Nat) : Nat := if F.length = 0 then u else F.getD (F.length - 1) 0
def nxF (F : List Nat) (u : Nat) : List Nat × Nat := if F.length = 0 then (F, u + 1) else (F.dropLast, u)
theorem nxR_s {F : List Nat} {u : Nat} (h : 0 < F.length) : F[F.length - 1]? = some (nxR F u) := by
  unfold nxR
  rw [if_neg (by omega), List.getD_eq_getElem?_getD]
  have h1 := List.getElem?_eq_getElem (show F.length - 1 < F.length by omega)
  rw [h1]
  rfl
/-- a row begun: leaf or not, its token, nothing in it -/
def fsh (S : aw_S) (m : Nat → Nat) (r : Nat) (lf t : Int32) : aw_S := wA (wA (wA S (m 4) r lf) (m 5) r 0) (m 6) r t
theorem fsh_fr {T : aw_S} {m : Nat → Nat} (hM : LM T m) {r : Nat} {lf t : Int32} : frR T (fsh T m r lf t) m (fun q => q = r) [] ∧ gL (fsh T m r lf t) m r = lf ∧ gN (fsh T m r lf t) m r = 0 ∧ gT (fsh T m r lf t) m r = t := by
  have n45 := lm_ne hM (i := 4) (j := 5) (by decide) (by decide) (by decide)
  have n46 := lm_ne hM (i := 4) (j := 6) (by decide) (by decide) (by decide)
  have n56 := lm_ne hM (i := 5) (j := 6) (by decide) (by decide) (by decide)
  have n : ∀ j, j < 34 → j ≠ 4 → j ≠ 5 → j ≠ 6 → sA (fsh T m r lf t) (m j) = sA T (m j) := fun j hj h4 h5 h6 => by
    funext k
    unfold fsh
    rw [sA_wA, sA_wA, sA_wA, if_neg (fun z => lm_ne hM hj (by decide) h6 z.1), if_neg (fun z => lm_ne hM hj (by decide) h5 z.1), if_neg (fun z => lm_ne hM hj (by decide) h4 z.1)]
  have eL : ∀ q, gL (fsh T m r lf t) m q = if q = r then lf else gL T m q := fun q => by
    unfold gL fsh
    rw [sA_wA, sA_wA, sA_wA, if_neg (fun z => n46 z.1), if_neg (fun z => n45 z.1)]
    by_cases e : q = r
    · rw [if_pos ⟨rfl, e⟩, if_pos e]
    · rw [if_neg (fun z => e z.2), if_neg e]
  have eN : ∀ q, gN (fsh T m r lf t) m q = if q = r then 0 else gN T m q := fun q => by
    unfold gN fsh
    rw [sA_wA, sA_wA, sA_wA, if_neg (fun z => n56 z.1)]
    by_cases e : q = r
    · rw [if_pos ⟨rfl, e⟩, if_pos e]
    · rw [if_neg (fun z => e z.2), if_neg e, if_neg (fun z => n45 z.1.symm)]
  have eT : ∀ q, gT (fsh T m r lf t) m q = if q = r then t else gT T m q := fun q => by
    unfold gT fsh
    rw [sA_wA, sA_wA, sA_wA]
    by_cases e : q = r
    · rw [if_pos ⟨rfl, e⟩, if_pos e]
    · rw [if_neg (fun z => e z.2), if_neg e, if_neg (fun z => n56 z.1.symm), if_neg (fun z => n46 z.1.symm)]
  refine ⟨⟨((frM_wA (by decide)).tr (frM_wA (by decide))).tr (frM_wA (by decide)), fun q hq hR => ⟨by rw [eL, if_neg hR], by rw [eN, if_neg hR], by rw [eT, if_neg hR], fun k _ => by unfold eM g1 g2; rw [n 9 (by decide) (by decide) (by decide) (by decide), n 10 (by decide) (by decide) (by decide) (by decide)]⟩⟩, by rw [eL, if_pos rfl], by rw [eN, if_pos rfl], by rw [eT, if_pos rfl]⟩
theorem g_wI {S : aw_S} {m : Nat → Nat} {F a : Nat} {v : Int32} : (∀ q, gL (wI S F a v) m q = gL S m q) ∧ (∀ q, gN (wI S F a v) m q = gN S m q) ∧ (∀ q, gT (wI S F a v) m q = gT S m q) ∧ ∀ q k, eM (wI S F a v) m q k = eM S m q k := ⟨fun _ => rfl, fun _ => rfl, fun _ => rfl, fun _ _ => rfl⟩
theorem FrM.fr {S S2 : aw_S} {m : Nat → Nat} {F : List Nat} {u : Nat} {ks Fs : List Nat} (h : FrM S m F u) (hM : LM S m) (f : frM S S2 m ks Fs) (hk : ∀ k ∈ ks, k < 33) (n8 : 8 ∉ ks) (n1 : 721 ∉ Fs) (n2 : 722 ∉ Fs) : FrM S2 m F u := ⟨(f.2 _ n1).trans h.1, (f.2 _ n2).trans h.2.1, h.2.2.1, h.2.2.2.1, fun i r hr => by rw [f.A hM hk (by decide) n8]; exact h.2.2.2.2 i r hr⟩
theorem frR_wI {S : aw_S} {m : Nat → Nat} {R : Nat → Prop} {Fs : List Nat} {F : Nat} {v : Int32} (h : F ∈ Fs) (h7 : 704 ≤ F) : frR S (wI S F (m 33) v) m R Fs := ⟨frM_wI h h7, fun _ _ _ => ⟨rfl, rfl, rfl, fun _ _ => rfl⟩⟩
theorem sI_wI_ne {S : aw_S} {F G a b : Nat} {v : Int32} (h : G ≠ F) : sI (wI S F a v) G b = sI S G b := by rw [sI_wI, if_neg (fun z => h z.1)]
set_option maxHeartbeats 4000000 in
set_option maxRecDepth 100000 in
theorem m_fresh {S : aw_S} {m : Nat → Nat} (hM : LM S m) {F : List Nat} {u : Nat} (hF0 : FrM S m F u) (hroom : F.length = 0 → u < 12000) {lf t : Int32} : aw_M yX11_fresh cX11_fresh 4 (some FieldType.int) 0 0 0 [.ref (m 33), .int lf, .int t] S (fun q S2 => q = some (.int (nI (nxR F u))) ∧ FrM S2 m (nxF F u).1 (nxF F u).2 ∧ gL S2 m (nxR F u) = lf ∧ gN S2 m (nxR F u) = 0 ∧ gT S2 m (nxR F u) = t ∧ sI S2 724 (m 33) = sI S 724 (m 33) + 1 ∧ frR S S2 m (fun q => q = nxR F u) [721, 722, 724]) := by
  have hF12 := hF0.2.2.2.1
  have hr : nxR F u < 12000 := by
    by_cases h0 : F.length = 0
    · unfold nxR; rw [if_pos h0]; exact hroom h0
    · have h1 := (hF0.2.2.2.2 _ _ (nxR_s (u := u) (by omega))).2; have := hF0.2.2.1; omega
  refine aw_enter (by decide +kernel) (Nat.le_of_ble_eq_true rfl) (fun g K EE => ?_)
  have tail : ∀ (T : aw_S), LM T m → FrM T m (nxF F u).1 (nxF F u).2 → frR S T m (fun q => q = nxR F u) [721, 722, 724] → sI T 724 (m 33) = sI S 724 (m 33) → aw g 4 T 0 0 [(3, .int (nI (nxR F u))), (2, .int t), (1, .int lf), (0, .ref (m 33))] [] 45 := by
    intro T hM hF f e7
    first | refine a_aload_n K dX11_fresh_45 rfl ?_ | refine a_aload_nN K dX11_fresh_45 rfl ?_
    refine a_getRs K fd_X11_23 (by exact lm_o hM) (Or.inr ⟨_, rfl⟩) (by exact lm_r714 hM) dX11_fresh_46 ?_
    refine a_iload_n K dX11_fresh_49 rfl ?_
    refine a_iload_n K dX11_fresh_50 rfl ?_
    refine a_iast K (by exact lm_kk hM (by decide) (by decide)) (by show vp_in _ (sN T (m 4)); exact lm_ix (z := 12000) hM (by decide) (by decide) (show nxR F u < 12000 by omega) (by decide)) dX11_fresh_51 ?_
    rw [nI_clamp (by omega)]
    first | refine a_aload_n K dX11_fresh_52 rfl ?_ | refine a_aload_nN K dX11_fresh_52 rfl ?_
    refine a_getRs K fd_X11_26 (by exact lm_o hM) (Or.inr ⟨_, rfl⟩) (by exact lm_r715 hM) dX11_fresh_53 ?_
    refine a_iload_n K dX11_fresh_56 rfl ?_
    refine a_iconst K dX11_fresh_57 (v := 0) (by decide) ?_
    refine a_iast K (by exact lm_kk hM (by decide) (by decide)) (by show vp_in _ (sN T (m 5)); exact lm_ix (z := 12000) hM (by decide) (by decide) (show nxR F u < 12000 by omega) (by decide)) dX11_fresh_58 ?_
    rw [nI_clamp (by omega)]
    first | refine a_aload_n K dX11_fresh_59 rfl ?_ | refine a_aload_nN K dX11_fresh_59 rfl ?_
    refine a_getRs K fd_X11_29 (by exact lm_o hM) (Or.inr ⟨_, rfl⟩) (by exact lm_r716 hM) dX11_fresh_60 ?_
    refine a_iload_n K dX11_fresh_63 rfl ?_
    refine a_iload_n K dX11_fresh_64 rfl ?_
    refine a_iast K (by exact lm_kk hM (by decide) (by decide)) (by show vp_in _ (sN T (m 6)); exact lm_ix (z := 12000) hM (by decide) (by decide) (show nxR F u < 12000 by omega) (by decide)) dX11_fresh_65 ?_
    rw [nI_clamp (by omega)]
    first | refine a_aload_n K dX11_fresh_66 rfl ?_ | refine a_aload_nN K dX11_fresh_66 rfl ?_
    refine a_dup K dX11_fresh_67 rfl ?_
    refine a_getI K fd_X11_190 (by exact lm_o hM) (Or.inl rfl) dX11_fresh_68 ?_
    rw [show sI (wA (wA (wA T (m 4) (nxR F u) lf) (m 5) (nxR F u) 0) (m 6) (nxR F u) t) 724 (m 33) = sI S 724 (m 33) from e7]
    refine a_iconst K dX11_fresh_71 (v := 1) (by decide) ?_
    refine a_iadd K dX11_fresh_72 ?_
    refine a_putI K fd_X11_190 (by exact lm_o hM) rfl dX11_fresh_73 ?_
    refine a_iload_n K dX11_fresh_76 rfl ?_
    exact a_iret K EE rfl (by omega) (by omega) dX11_fresh_77 (by
      obtain ⟨s1, s2, s3, s4⟩ := fsh_fr (T := T) (r := nxR F u) (lf := lf) (t := t) hM
      have s1 := s1.up (fun _ z => z) (Fs2 := [721, 722, 724]) (fun F hF => absurd hF (by simp))
      have w1 : frM (fsh T m (nxR F u) lf t) (wI (fsh T m (nxR F u) lf t) 724 (m 33) (sI S 724 (m 33) + 1)) m ksN [724] := frM_wI (by decide) (by decide)
      have hM2 := hM.fr s1.1.1
      exact ⟨rfl, (hF.fr hM (fsh_fr (r := nxR F u) (lf := lf) (t := t) hM).1.1 (by decide) (by decide) (by decide) (by decide)).fr hM2 w1 (by decide) (by decide) (by decide) (by decide), (g_wI.1 _).trans s2, (g_wI.2.1 _).trans s3, (g_wI.2.2.1 _).trans s4, wI_at, (f.tr s1).tr (frR_wI (by decide) (by decide))⟩)
  by_cases h0 : F.length = 0
  · first | refine a_aload_n K dX11_fresh_0 rfl ?_ | refine a_aload_nN K dX11_fresh_0 rfl ?_
    refine a_getI K fd_X11_184 (by exact lm_o hM) (Or.inl rfl) dX11_fresh_1 ?_
    rw [hF0.1]
    rw [h0]
    refine a_if_le K dX11_fresh_4 (tgt := 30) (by decide) (fun c_4 => ?_) (fun c_4 => absurd c_4 (fun z => z (by decide)))
    first | refine a_aload_n K dX11_fresh_30 rfl ?_ | refine a_aload_nN K dX11_fresh_30 rfl ?_
    refine a_getI K fd_X11_187 (by exact lm_o hM) (Or.inl rfl) dX11_fresh_31 ?_
    rw [hF0.2.1]
    refine a_istore_n K dX11_fresh_34 (by decide) ?_
    first | refine a_aload_n K dX11_fresh_35 rfl ?_ | refine a_aload_nN K dX11_fresh_35 rfl ?_
    refine a_dup K dX11_fresh_36 rfl ?_
    refine a_getI K fd_X11_187 (by exact lm_o hM) (Or.inl rfl) dX11_fresh_37 ?_
    rw [hF0.2.1]
    refine a_iconst K dX11_fresh_40 (v := 1) (by decide) ?_
    refine a_iadd K dX11_fresh_41 ?_
    rw [nI_1]
    refine a_putI K fd_X11_187 (by exact lm_o hM) rfl dX11_fresh_42 ?_
    have eR : nxR F u = u := by unfold nxR; rw [if_pos h0]
    have eF : nxF F u = (F, u + 1) := by unfold nxF; rw [if_pos h0]
    rw [eR, eF] at tail
    exact aw_locl rfl (tail (wI S 722 (m 33) (nI (u + 1))) (hM.fr (frS_wI (by decide))) ⟨(sI_wI_ne (by decide)).trans hF0.1, wI_at, by show u + 1 ≤ 12000; have := hroom h0; omega, hF0.2.2.2.1, fun i r hr => ⟨(hF0.2.2.2.2 i r hr).1, Nat.lt_succ_of_lt (hF0.2.2.2.2 i r hr).2⟩⟩ (frR_wI (by decide) (by decide)) (sI_wI_ne (by decide)))
  · first | refine a_aload_n K dX11_fresh_0 rfl ?_ | refine a_aload_nN K dX11_fresh_0 rfl ?_
    refine a_getI K fd_X11_184 (by exact lm_o hM) (Or.inl rfl) dX11_fresh_1 ?_
    rw [hF0.1]
    refine a_if_le K dX11_fresh_4 (tgt := 30) (by decide) (fun c_4 => absurd c_4 (nI_nle (by omega) (by omega))) (fun c_4 => ?_)
    first | refine a_aload_n K dX11_fresh_7 rfl ?_ | refine a_aload_nN K dX11_fresh_7 rfl ?_
    refine a_dup K dX11_fresh_8 rfl ?_
    refine a_getI K fd_X11_184 (by exact lm_o hM) (Or.inl rfl) dX11_fresh_9 ?_
    rw [hF0.1]
    refine a_iconst K dX11_fresh_12 (v := 1) (by decide) ?_
    refine a_isub K dX11_fresh_13 ?_
    rw [show nI F.length - 1 = nI (F.length - 1) from by rw [show F.length = F.length - 1 + 1 by omega]; exact nI_pred _]
    refine a_putI K fd_X11_184 (by exact lm_o hM) rfl dX11_fresh_14 ?_
    first | refine a_aload_n K dX11_fresh_17 rfl ?_ | refine a_aload_nN K dX11_fresh_17 rfl ?_
    refine a_getRs K fd_X11_35 (by exact lm_o hM) (Or.inr ⟨_, rfl⟩) (by exact lm_r718 hM) dX11_fresh_18 ?_
    first | refine a_aload_n K dX11_fresh_21 rfl ?_ | refine a_aload_nN K dX11_fresh_21 rfl ?_
    refine a_getI K fd_X11_184 (by exact lm_o hM) (Or.inl rfl) dX11_fresh_22 ?_
    rw [wI_at]
    refine a_iald K (by exact lm_kk hM (by decide) (by decide)) (by show vp_in _ (sN S (m 8)); exact lm_ix (z := 12000) hM (by decide) (by decide) (show F.length - 1 < 12000 by omega) (by decide)) dX11_fresh_25 ?_
    rw [nI_clamp (by omega)]
    rw [show sA (wI S 721 (m 33) (nI (F.length - 1))) (m 8) (F.length - 1) = nI (nxR F u) from (hF0.2.2.2.2 _ _ (nxR_s (by omega))).1]
    refine a_istore_n K dX11_fresh_26 (by decide) ?_
    refine a_goto K dX11_fresh_27 (tgt := 45) (by decide) ?_
    have eF : nxF F u = (F.dropLast, u) := by unfold nxF; rw [if_neg h0]
    rw [eF] at tail
    exact aw_locl rfl (tail (wI S 721 (m 33) (nI (F.length - 1))) (hM.fr (frS_wI (by decide))) ⟨by rw [wI_at, List.length_dropLast], (sI_wI_ne (by decide)).trans hF0.2.1, hF0.2.2.1, by rw [List.length_dropLast]; have := hF0.2.2.2.1; omega, fun i r hr => hF0.2.2.2.2 i r (by rw [List.getElem?_dropLast] at hr; split at hr; exact hr; exact absurd hr (by simp))⟩ (frR_wI (by decide) (by decide)) (sI_wI_ne (by decide)))
