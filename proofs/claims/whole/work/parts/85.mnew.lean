/-- free rows: those that were given back, then those never used -/
def FrM (S : aw_S) (m : Nat → Nat) (F : List Nat) (u : Nat) : Prop := sI S 721 (m 33) = nI F.length ∧ sI S 722 (m 33) = nI u ∧ u ≤ 12000 ∧ F.length ≤ 12000 ∧ ∀ i r, F[i]? = some r → sA S (m 8) i = nI r ∧ r < u
/-- the row that is given next, and what is free then -/
def nxR (F : List Nat) (u : Nat) : Nat := if F.length = 0 then u else F.getD (F.length - 1) 0
def nxF (F : List Nat) (u : Nat) : List Nat × Nat := if F.length = 0 then (F, u + 1) else (F.dropLast, u)
theorem nxR_s {F : List Nat} {u : Nat} (h : 0 < F.length) : F[F.length - 1]? = some (nxR F u) := by
  unfold nxR
  rw [if_neg (by omega), List.getD_eq_getElem?_getD]
  have h1 := List.getElem?_eq_getElem (show F.length - 1 < F.length by omega)
  rw [h1]
  rfl
/-- a row begun: leaf or not, its token, nothing in it -/
def fsh (S : aw_S) (m : Nat → Nat) (r : Nat) (lf t : Int32) : aw_S := wA (wA (wA S (m 4) r lf) (m 5) r 0) (m 6) r t
theorem fsh_fr {T : aw_S} {m : Nat → Nat} (hM : LM T m) {r : Nat} {lf t : Int32} : frR T (fsh T m r lf t) m (fun q => q = r) [] ∧ gL (fsh T m r lf t) m r = lf ∧ gN (fsh T m r lf t) m r = 0 ∧ gT (fsh T m r lf t) m r = t := by
  have n45 := lm_ne hM (i := 4) (j := 5) (by decide) (by decide) (by decide)
  have n46 := lm_ne hM (i := 4) (j := 6) (by decide) (by decide) (by decide)
  have n56 := lm_ne hM (i := 5) (j := 6) (by decide) (by decide) (by decide)
  have n : ∀ j, j < 34 → j ≠ 4 → j ≠ 5 → j ≠ 6 → sA (fsh T m r lf t) (m j) = sA T (m j) := fun j hj h4 h5 h6 => by
    funext k
    unfold fsh
    rw [sA_wA, sA_wA, sA_wA, if_neg (fun z => lm_ne hM hj (by decide) h6 z.1), if_neg (fun z => lm_ne hM hj (by decide) h5 z.1), if_neg (fun z => lm_ne hM hj (by decide) h4 z.1)]
  have eL : ∀ q, gL (fsh T m r lf t) m q = if q = r then lf else gL T m q := fun q => by
    unfold gL fsh
    rw [sA_wA, sA_wA, sA_wA, if_neg (fun z => n46 z.1), if_neg (fun z => n45 z.1)]
    by_cases e : q = r
    · rw [if_pos ⟨rfl, e⟩, if_pos e]
    · rw [if_neg (fun z => e z.2), if_neg e]
  have eN : ∀ q, gN (fsh T m r lf t) m q = if q = r then 0 else gN T m q := fun q => by
    unfold gN fsh
    rw [sA_wA, sA_wA, sA_wA, if_neg (fun z => n56 z.1)]
    by_cases e : q = r
    · rw [if_pos ⟨rfl, e⟩, if_pos e]
    · rw [if_neg (fun z => e z.2), if_neg e, if_neg (fun z => n45 z.1.symm)]
  have eT : ∀ q, gT (fsh T m r lf t) m q = if q = r then t else gT T m q := fun q => by
    unfold gT fsh
    rw [sA_wA, sA_wA, sA_wA]
    by_cases e : q = r
    · rw [if_pos ⟨rfl, e⟩, if_pos e]
    · rw [if_neg (fun z => e z.2), if_neg e, if_neg (fun z => n56 z.1.symm), if_neg (fun z => n46 z.1.symm)]
  refine ⟨⟨((frM_wA (by decide)).tr (frM_wA (by decide))).tr (frM_wA (by decide)), fun q hq hR => ⟨by rw [eL, if_neg hR], by rw [eN, if_neg hR], by rw [eT, if_neg hR], fun k _ => by unfold eM g1 g2; rw [n 9 (by decide) (by decide) (by decide) (by decide), n 10 (by decide) (by decide) (by decide) (by decide)]⟩⟩, by rw [eL, if_pos rfl], by rw [eN, if_pos rfl], by rw [eT, if_pos rfl]⟩
theorem g_wI {S : aw_S} {m : Nat → Nat} {F a : Nat} {v : Int32} : (∀ q, gL (wI S F a v) m q = gL S m q) ∧ (∀ q, gN (wI S F a v) m q = gN S m q) ∧ (∀ q, gT (wI S F a v) m q = gT S m q) ∧ ∀ q k, eM (wI S F a v) m q k = eM S m q k := ⟨fun _ => rfl, fun _ => rfl, fun _ => rfl, fun _ _ => rfl⟩
theorem FrM.fr {S S2 : aw_S} {m : Nat → Nat} {F : List Nat} {u : Nat} {ks Fs : List Nat} (h : FrM S m F u) (hM : LM S m) (f : frM S S2 m ks Fs) (hk : ∀ k ∈ ks, k < 33) (n8 : 8 ∉ ks) (n1 : 721 ∉ Fs) (n2 : 722 ∉ Fs) : FrM S2 m F u := ⟨(f.2 _ n1).trans h.1, (f.2 _ n2).trans h.2.1, h.2.2.1, h.2.2.2.1, fun i r hr => by rw [f.A hM hk (by decide) n8]; exact h.2.2.2.2 i r hr⟩
theorem frR_wI {S : aw_S} {m : Nat → Nat} {R : Nat → Prop} {Fs : List Nat} {F : Nat} {v : Int32} (h : F ∈ Fs) (h7 : 704 ≤ F) : frR S (wI S F (m 33) v) m R Fs := ⟨frM_wI h h7, fun _ _ _ => ⟨rfl, rfl, rfl, fun _ _ => rfl⟩⟩
theorem sI_wI_ne {S : aw_S} {F G a b : Nat} {v : Int32} (h : G ≠ F) : sI (wI S F a v) G b = sI S G b := by rw [sI_wI, if_neg (fun z => h z.1)]
set_option maxHeartbeats 4000000 in
set_option maxRecDepth 100000 in
theorem m_fresh {S : aw_S} {m : Nat → Nat} (hM : LM S m) {F : List Nat} {u : Nat} (hF0 : FrM S m F u) (hroom : F.length = 0 → u < 12000) {lf t : Int32} : aw_M yX11_fresh cX11_fresh 4 (some FieldType.int) 0 0 0 [.ref (m 33), .int lf, .int t] S (fun q S2 => q = some (.int (nI (nxR F u))) ∧ FrM S2 m (nxF F u).1 (nxF F u).2 ∧ gL S2 m (nxR F u) = lf ∧ gN S2 m (nxR F u) = 0 ∧ gT S2 m (nxR F u) = t ∧ sI S2 724 (m 33) = sI S 724 (m 33) + 1 ∧ frR S S2 m (fun q => q = nxR F u) [721, 722, 724]) := by
  have hF12 := hF0.2.2.2.1
  have hr : nxR F u < 12000 := by
    by_cases h0 : F.length = 0
    · unfold nxR; rw [if_pos h0]; exact hroom h0
    · have h1 := (hF0.2.2.2.2 _ _ (nxR_s (u := u) (by omega))).2; have := hF0.2.2.1; omega
  refine aw_enter (by decide +kernel) (Nat.le_of_ble_eq_true rfl) (fun g K EE => ?_)
  have tail : ∀ (T : aw_S), LM T m → FrM T m (nxF F u).1 (nxF F u).2 → frR S T m (fun q => q = nxR F u) [721, 722, 724] → sI T 724 (m 33) = sI S 724 (m 33) → aw g 4 T 0 0 [(3, .int (nI (nxR F u))), (2, .int t), (1, .int lf), (0, .ref (m 33))] [] 45 := by
    intro T hM hF f e7
    first | refine a_aload_n K dX11_fresh_45 rfl ?_ | refine a_aload_nN K dX11_fresh_45 rfl ?_
    refine a_getRs K fd_X11_23 (by exact lm_o hM) (Or.inr ⟨_, rfl⟩) (by exact lm_r714 hM) dX11_fresh_46 ?_
    refine a_iload_n K dX11_fresh_49 rfl ?_
    refine a_iload_n K dX11_fresh_50 rfl ?_
    refine a_iast K (by exact lm_kk hM (by decide) (by decide)) (by show vp_in _ (sN T (m 4)); exact lm_ix (z := 12000) hM (by decide) (by decide) (show nxR F u < 12000 by omega) (by decide)) dX11_fresh_51 ?_
    rw [nI_clamp (by omega)]
    first | refine a_aload_n K dX11_fresh_52 rfl ?_ | refine a_aload_nN K dX11_fresh_52 rfl ?_
    refine a_getRs K fd_X11_26 (by exact lm_o hM) (Or.inr ⟨_, rfl⟩) (by exact lm_r715 hM) dX11_fresh_53 ?_
    refine a_iload_n K dX11_fresh_56 rfl ?_
    refine a_iconst K dX11_fresh_57 (v := 0) (by decide) ?_
    refine a_iast K (by exact lm_kk hM (by decide) (by decide)) (by show vp_in _ (sN T (m 5)); exact lm_ix (z := 12000) hM (by decide) (by decide) (show nxR F u < 12000 by omega) (by decide)) dX11_fresh_58 ?_
    rw [nI_clamp (by omega)]
    first | refine a_aload_n K dX11_fresh_59 rfl ?_ | refine a_aload_nN K dX11_fresh_59 rfl ?_
    refine a_getRs K fd_X11_29 (by exact lm_o hM) (Or.inr ⟨_, rfl⟩) (by exact lm_r716 hM) dX11_fresh_60 ?_
    refine a_iload_n K dX11_fresh_63 rfl ?_
    refine a_iload_n K dX11_fresh_64 rfl ?_
    refine a_iast K (by exact lm_kk hM (by decide) (by decide)) (by show vp_in _ (sN T (m 6)); exact lm_ix (z := 12000) hM (by decide) (by decide) (show nxR F u < 12000 by omega) (by decide)) dX11_fresh_65 ?_
    rw [nI_clamp (by omega)]
    first | refine a_aload_n K dX11_fresh_66 rfl ?_ | refine a_aload_nN K dX11_fresh_66 rfl ?_
    refine a_dup K dX11_fresh_67 rfl ?_
    refine a_getI K fd_X11_190 (by exact lm_o hM) (Or.inl rfl) dX11_fresh_68 ?_
    rw [show sI (wA (wA (wA T (m 4) (nxR F u) lf) (m 5) (nxR F u) 0) (m 6) (nxR F u) t) 724 (m 33) = sI S 724 (m 33) from e7]
    refine a_iconst K dX11_fresh_71 (v := 1) (by decide) ?_
    refine a_iadd K dX11_fresh_72 ?_
    refine a_putI K fd_X11_190 (by exact lm_o hM) rfl dX11_fresh_73 ?_
    refine a_iload_n K dX11_fresh_76 rfl ?_
    exact a_iret K EE rfl (by omega) (by omega) dX11_fresh_77 (by
      obtain ⟨s1, s2, s3, s4⟩ := fsh_fr (T := T) (r := nxR F u) (lf := lf) (t := t) hM
      have s1 := s1.up (fun _ z => z) (Fs2 := [721, 722, 724]) (fun F hF => absurd hF (by simp))
      have w1 : frM (fsh T m (nxR F u) lf t) (wI (fsh T m (nxR F u) lf t) 724 (m 33) (sI S 724 (m 33) + 1)) m ksN [724] := frM_wI (by decide) (by decide)
      have hM2 := hM.fr s1.1.1
      exact ⟨rfl, (hF.fr hM (fsh_fr (r := nxR F u) (lf := lf) (t := t) hM).1.1 (by decide) (by decide) (by decide) (by decide)).fr hM2 w1 (by decide) (by decide) (by decide) (by decide), (g_wI.1 _).trans s2, (g_wI.2.1 _).trans s3, (g_wI.2.2.1 _).trans s4, wI_at, (f.tr s1).tr (frR_wI (by decide) (by decide))⟩)
  by_cases h0 : F.length = 0
  · first | refine a_aload_n K dX11_fresh_0 rfl ?_ | refine a_aload_nN K dX11_fresh_0 rfl ?_
    refine a_getI K fd_X11_184 (by exact lm_o hM) (Or.inl rfl) dX11_fresh_1 ?_
    rw [hF0.1]
    rw [h0]
    refine a_if_le K dX11_fresh_4 (tgt := 30) (by decide) (fun c_4 => ?_) (fun c_4 => absurd c_4 (fun z => z (by decide)))
    first | refine a_aload_n K dX11_fresh_30 rfl ?_ | refine a_aload_nN K dX11_fresh_30 rfl ?_
    refine a_getI K fd_X11_187 (by exact lm_o hM) (Or.inl rfl) dX11_fresh_31 ?_
    rw [hF0.2.1]
    refine a_istore_n K dX11_fresh_34 (by decide) ?_
    first | refine a_aload_n K dX11_fresh_35 rfl ?_ | refine a_aload_nN K dX11_fresh_35 rfl ?_
    refine a_dup K dX11_fresh_36 rfl ?_
    refine a_getI K fd_X11_187 (by exact lm_o hM) (Or.inl rfl) dX11_fresh_37 ?_
    rw [hF0.2.1]
    refine a_iconst K dX11_fresh_40 (v := 1) (by decide) ?_
    refine a_iadd K dX11_fresh_41 ?_
    rw [nI_1]
    refine a_putI K fd_X11_187 (by exact lm_o hM) rfl dX11_fresh_42 ?_
    have eR : nxR F u = u := by unfold nxR; rw [if_pos h0]
    have eF : nxF F u = (F, u + 1) := by unfold nxF; rw [if_pos h0]
    rw [eR, eF] at tail
    exact aw_locl rfl (tail (wI S 722 (m 33) (nI (u + 1))) (hM.fr (frS_wI (by decide))) ⟨(sI_wI_ne (by decide)).trans hF0.1, wI_at, by show u + 1 ≤ 12000; have := hroom h0; omega, hF0.2.2.2.1, fun i r hr => ⟨(hF0.2.2.2.2 i r hr).1, Nat.lt_succ_of_lt (hF0.2.2.2.2 i r hr).2⟩⟩ (frR_wI (by decide) (by decide)) (sI_wI_ne (by decide)))
  · first | refine a_aload_n K dX11_fresh_0 rfl ?_ | refine a_aload_nN K dX11_fresh_0 rfl ?_
    refine a_getI K fd_X11_184 (by exact lm_o hM) (Or.inl rfl) dX11_fresh_1 ?_
    rw [hF0.1]
    refine a_if_le K dX11_fresh_4 (tgt := 30) (by decide) (fun c_4 => absurd c_4 (nI_nle (by omega) (by omega))) (fun c_4 => ?_)
    first | refine a_aload_n K dX11_fresh_7 rfl ?_ | refine a_aload_nN K dX11_fresh_7 rfl ?_
    refine a_dup K dX11_fresh_8 rfl ?_
    refine a_getI K fd_X11_184 (by exact lm_o hM) (Or.inl rfl) dX11_fresh_9 ?_
    rw [hF0.1]
    refine a_iconst K dX11_fresh_12 (v := 1) (by decide) ?_
    refine a_isub K dX11_fresh_13 ?_
    rw [show nI F.length - 1 = nI (F.length - 1) from by rw [show F.length = F.length - 1 + 1 by omega]; exact nI_pred _]
    refine a_putI K fd_X11_184 (by exact lm_o hM) rfl dX11_fresh_14 ?_
    first | refine a_aload_n K dX11_fresh_17 rfl ?_ | refine a_aload_nN K dX11_fresh_17 rfl ?_
    refine a_getRs K fd_X11_35 (by exact lm_o hM) (Or.inr ⟨_, rfl⟩) (by exact lm_r718 hM) dX11_fresh_18 ?_
    first | refine a_aload_n K dX11_fresh_21 rfl ?_ | refine a_aload_nN K dX11_fresh_21 rfl ?_
    refine a_getI K fd_X11_184 (by exact lm_o hM) (Or.inl rfl) dX11_fresh_22 ?_
    rw [wI_at]
    refine a_iald K (by exact lm_kk hM (by decide) (by decide)) (by show vp_in _ (sN S (m 8)); exact lm_ix (z := 12000) hM (by decide) (by decide) (show F.length - 1 < 12000 by omega) (by decide)) dX11_fresh_25 ?_
    rw [nI_clamp (by omega)]
    rw [show sA (wI S 721 (m 33) (nI (F.length - 1))) (m 8) (F.length - 1) = nI (nxR F u) from (hF0.2.2.2.2 _ _ (nxR_s (by omega))).1]
    refine a_istore_n K dX11_fresh_26 (by decide) ?_
    refine a_goto K dX11_fresh_27 (tgt := 45) (by decide) ?_
    have eF : nxF F u = (F.dropLast, u) := by unfold nxF; rw [if_neg h0]
    rw [eF] at tail
    exact aw_locl rfl (tail (wI S 721 (m 33) (nI (F.length - 1))) (hM.fr (frS_wI (by decide))) ⟨by rw [wI_at, List.length_dropLast], (sI_wI_ne (by decide)).trans hF0.2.1, hF0.2.2.1, by rw [List.length_dropLast]; have := hF0.2.2.2.1; omega, fun i r hr => hF0.2.2.2.2 i r (by rw [List.getElem?_dropLast] at hr; split at hr; exact hr; exact absurd hr (by simp))⟩ (frR_wI (by decide) (by decide)) (sI_wI_ne (by decide)))
set_option maxHeartbeats 4000000 in
set_option maxRecDepth 100000 in
theorem m_edited_s {S : aw_S} {m : Nat → Nat} (hM : LM S m) {r : Nat} {t : Int32} (hr : r < 12000) (ht : gT S m r = t) : aw_M yX11_edited cX11_edited 5 (some FieldType.int) 1 0 0 [.ref (m 33), .int (nI r), .int t] S (fun q S2 => q = some (.int (nI r)) ∧ S2 = S) := by
  refine aw_enter (by decide +kernel) (Nat.le_of_ble_eq_true rfl) (fun g K EE => ?_)
  first | refine a_aload_n K dX11_edited_0 rfl ?_ | refine a_aload_nN K dX11_edited_0 rfl ?_
  refine a_getRs K fd_X11_29 (by exact lm_o hM) (Or.inr ⟨_, rfl⟩) (by exact lm_r716 hM) dX11_edited_1 ?_
  refine a_iload_n K dX11_edited_4 rfl ?_
  refine a_iald K (by exact lm_kk hM (by decide) (by decide)) (by show vp_in _ (sN S (m 6)); exact lm_ix (z := 12000) hM (by decide) (by decide) (show r < 12000 by omega) (by decide)) dX11_edited_5 ?_
  rw [nI_clamp (by omega)]
  refine a_iload_n K dX11_edited_6 rfl ?_
  refine a_icmp_ne K dX11_edited_7 (tgt := 12) (by decide) (fun c_7 => absurd c_7 (fun z => z ht)) (fun c_7 => ?_)
  refine a_iload_n K dX11_edited_10 rfl ?_
  exact a_iret K EE rfl (by omega) (by omega) dX11_edited_11 ⟨rfl, rfl⟩
set_option maxHeartbeats 4000000 in
set_option maxRecDepth 100000 in
theorem m_edited_n {S : aw_S} {m : Nat → Nat} (hM : LM S m) {F F2 : List Nat} {u u2 r c : Nat} {l : List KV} {t : Int32} (hF : FrM S m F u) (hroom : F.length = 0 → u < 12000) (hr : r < 12000) (hl : RwM S m r l) (h7 : l.length ≤ 7) (ht : ¬ gT S m r = t) (hcc : nxR F u = c) (hF2 : nxF F u = (F2, u2)) (hrc : ¬ r = c) (hc12 : c < 12000) : aw_M yX11_edited cX11_edited 5 (some FieldType.int) 1 0 0 [.ref (m 33), .int (nI r), .int t] S (fun q S2 => q = some (.int (nI c)) ∧ RwM S2 m c l ∧ gL S2 m c = gL S m r ∧ gT S2 m c = t ∧ FrM S2 m F2 u2 ∧ sI S2 724 (m 33) = sI S 724 (m 33) + 1 ∧ frR S S2 m (fun q => q = c) [721, 722, 724]) := by
  refine aw_enter (by decide +kernel) (Nat.le_of_ble_eq_true rfl) (fun g K EE => ?_)
  have loop : ∀ (n i : Nat) (x : Int32) (T : aw_S), x = nI i → i + n = l.length → LM T m → (∀ j, j < i → eM T m c j = eM S m r j) → frR S T m (fun q => q = c) [721, 722, 724] → (gL T m c = gL S m r ∧ gT T m c = t ∧ gN T m c = nI l.length) ∧ FrM T m F2 u2 ∧ sI T 724 (m 33) = sI S 724 (m 33) + 1 → aw g 5 T 0 0 [(4, .int x), (3, .int (nI c)), (2, .int t), (1, .int (nI r)), (0, .ref (m 33))] [] 39 := by
    intro n
    induction n with
    | zero =>
      intro i x T hx hn hM he f hg
      subst hx
      obtain ⟨fL, fN, fT, fE⟩ := f.2 r hr hrc
      refine a_iload K dX11_edited_39 rfl ?_
      first | refine a_aload_n K dX11_edited_41 rfl ?_ | refine a_aload_nN K dX11_edited_41 rfl ?_
      refine a_getRs K fd_X11_26 (by exact lm_o hM) (Or.inr ⟨_, rfl⟩) (by exact lm_r715 hM) dX11_edited_42 ?_
      refine a_iload_n K dX11_edited_45 rfl ?_
      refine a_iald K (by exact lm_kk hM (by decide) (by decide)) (by show vp_in _ (sN T (m 5)); exact lm_ix (z := 12000) hM (by decide) (by decide) (show r < 12000 by omega) (by decide)) dX11_edited_46 ?_
      rw [nI_clamp (by omega)]
      rw [show sA T (m 5) r = nI l.length from fN.trans hl.1]
      refine a_icmp_ge K dX11_edited_47 (tgt := 104) (by decide) (fun c_47 => ?_) (fun c_47 => absurd c_47 (fun z => z (nI_le (a := l.length) (b := i) (by omega) (by omega))))
      refine a_iload_n K dX11_edited_104 rfl ?_
      exact a_iret K EE rfl (by omega) (by omega) dX11_edited_105 ⟨rfl, ⟨hg.1.2.2, fun k x hx => by have h9 := (List.getElem?_eq_some_iff.mp hx).1; rw [he k (by omega)]; exact hl.2 k x hx⟩, hg.1.1, hg.1.2.1, hg.2.1, hg.2.2, f⟩
    | succ n ih =>
      intro i x T hx hn hM he f hg
      subst hx
      obtain ⟨fL, fN, fT, fE⟩ := f.2 r hr hrc
      refine a_iload K dX11_edited_39 rfl ?_
      first | refine a_aload_n K dX11_edited_41 rfl ?_ | refine a_aload_nN K dX11_edited_41 rfl ?_
      refine a_getRs K fd_X11_26 (by exact lm_o hM) (Or.inr ⟨_, rfl⟩) (by exact lm_r715 hM) dX11_edited_42 ?_
      refine a_iload_n K dX11_edited_45 rfl ?_
      refine a_iald K (by exact lm_kk hM (by decide) (by decide)) (by show vp_in _ (sN T (m 5)); exact lm_ix (z := 12000) hM (by decide) (by decide) (show r < 12000 by omega) (by decide)) dX11_edited_46 ?_
      rw [nI_clamp (by omega)]
      rw [show sA T (m 5) r = nI l.length from fN.trans hl.1]
      refine a_icmp_ge K dX11_edited_47 (tgt := 104) (by decide) (fun c_47 => absurd c_47 (nI_ge (a := i) (b := l.length) (by omega) (by omega))) (fun c_47 => ?_)
      first | refine a_aload_n K dX11_edited_50 rfl ?_ | refine a_aload_nN K dX11_edited_50 rfl ?_
      refine a_getRs K fd_X11_39 (by exact lm_o hM) (Or.inr ⟨_, rfl⟩) (by exact lm_r719 hM) dX11_edited_51 ?_
      refine a_bipush K dX11_edited_54 (v := 7) (by decide) ?_
      refine a_iload_n K dX11_edited_56 rfl ?_
      refine a_imul K dX11_edited_57 ?_
      rw [nI_7]
      refine a_iload K dX11_edited_58 rfl ?_
      refine a_iadd K dX11_edited_60 ?_
      rw [nI_add]
      first | refine a_aload_n K dX11_edited_61 rfl ?_ | refine a_aload_nN K dX11_edited_61 rfl ?_
      refine a_getRs K fd_X11_39 (by exact lm_o hM) (Or.inr ⟨_, rfl⟩) (by exact lm_r719 hM) dX11_edited_62 ?_
      refine a_bipush K dX11_edited_65 (v := 7) (by decide) ?_
      refine a_iload_n K dX11_edited_67 rfl ?_
      refine a_imul K dX11_edited_68 ?_
      rw [nI_7]
      refine a_iload K dX11_edited_69 rfl ?_
      refine a_iadd K dX11_edited_71 ?_
      rw [nI_add]
      refine a_iald K (by exact lm_kk hM (by decide) (by decide)) (by show vp_in _ (sN T (m 9)); exact lm_ix (z := 84000) hM (by decide) (by decide) (show 7 * r + i < 84000 by omega) (by decide)) dX11_edited_72 ?_
      rw [nI_clamp (by omega)]
      refine a_iast K (by exact lm_kk hM (by decide) (by decide)) (by show vp_in _ (sN T (m 9)); exact lm_ix (z := 84000) hM (by decide) (by decide) (show 7 * c + i < 84000 by omega) (by decide)) dX11_edited_73 ?_
      rw [nI_clamp (by omega)]
      first | refine a_aload_n K dX11_edited_74 rfl ?_ | refine a_aload_nN K dX11_edited_74 rfl ?_
      refine a_getRs K fd_X11_42 (by exact lm_o hM) (Or.inr ⟨_, rfl⟩) (by exact lm_r720 hM) dX11_edited_75 ?_
      refine a_bipush K dX11_edited_78 (v := 7) (by decide) ?_
      refine a_iload_n K dX11_edited_80 rfl ?_
      refine a_imul K dX11_edited_81 ?_
      rw [nI_7]
      refine a_iload K dX11_edited_82 rfl ?_
      refine a_iadd K dX11_edited_84 ?_
      rw [nI_add]
      first | refine a_aload_n K dX11_edited_85 rfl ?_ | refine a_aload_nN K dX11_edited_85 rfl ?_
      refine a_getRs K fd_X11_42 (by exact lm_o hM) (Or.inr ⟨_, rfl⟩) (by exact lm_r720 hM) dX11_edited_86 ?_
      refine a_bipush K dX11_edited_89 (v := 7) (by decide) ?_
      refine a_iload_n K dX11_edited_91 rfl ?_
      refine a_imul K dX11_edited_92 ?_
      rw [nI_7]
      refine a_iload K dX11_edited_93 rfl ?_
      refine a_iadd K dX11_edited_95 ?_
      rw [nI_add]
      refine a_iald K (by exact lm_kk hM (by decide) (by decide)) (by show vp_in _ (sN T (m 10)); exact lm_ix (z := 84000) hM (by decide) (by decide) (show 7 * r + i < 84000 by omega) (by decide)) dX11_edited_96 ?_
      rw [nI_clamp (by omega)]
      rw [show sA (wA T (m 9) (7 * c + i) (sA T (m 9) (7 * r + i))) (m 10) (7 * r + i) = g2 T m r i from by rw [sA_wA, if_neg (fun z => lm_ne hM (by decide) (by decide) (by decide) z.1)]; rfl]
      refine a_iast K (by exact lm_kk hM (by decide) (by decide)) (by show vp_in _ (sN T (m 10)); exact lm_ix (z := 84000) hM (by decide) (by decide) (show 7 * c + i < 84000 by omega) (by decide)) dX11_edited_97 ?_
      rw [nI_clamp (by omega)]
      refine a_iinc K dX11_edited_98 (v := 1) rfl (by decide) (by decide) ?_
      refine a_goto K dX11_edited_101 (tgt := 39) (by decide) ?_
      obtain ⟨s1, s2⟩ := st_fr (T := T) (r := c) (i := i) (a := g1 T m r i) (b := g2 T m r i) hM (by omega)
      exact aw_locl rfl (ih (i + 1) _ (stM T m c i (g1 T m r i) (g2 T m r i)) (nI_1 i) (by omega) (hM.fr s1.1.1) (fun j hj => by
        rw [eM_st hM (by omega) (by omega)]
        by_cases e : j = i
        · rw [if_pos ⟨rfl, e⟩, e]
          exact fE i (by omega)
        · rw [if_neg (fun z => e z.2)]
          exact he j (by omega)) (f.tr (s1.up (fun _ z => z) (fun F hF => absurd hF (by simp)))) ⟨⟨(s2 c).1.trans hg.1.1, (s2 c).2.2.trans hg.1.2.1, (s2 c).2.1.trans hg.1.2.2⟩, hg.2.1.fr hM s1.1 (by decide) (by decide) (by decide) (by decide), (s1.1.2 724 (by decide)).trans hg.2.2⟩)
  first | refine a_aload_n K dX11_edited_0 rfl ?_ | refine a_aload_nN K dX11_edited_0 rfl ?_
  refine a_getRs K fd_X11_29 (by exact lm_o hM) (Or.inr ⟨_, rfl⟩) (by exact lm_r716 hM) dX11_edited_1 ?_
  refine a_iload_n K dX11_edited_4 rfl ?_
  refine a_iald K (by exact lm_kk hM (by decide) (by decide)) (by show vp_in _ (sN S (m 6)); exact lm_ix (z := 12000) hM (by decide) (by decide) (show r < 12000 by omega) (by decide)) dX11_edited_5 ?_
  rw [nI_clamp (by omega)]
  refine a_iload_n K dX11_edited_6 rfl ?_
  refine a_icmp_ne K dX11_edited_7 (tgt := 12) (by decide) (fun c_7 => ?_) (fun c_7 => absurd c_7 (ht))
  first | refine a_aload_n K dX11_edited_12 rfl ?_ | refine a_aload_nN K dX11_edited_12 rfl ?_
  first | refine a_aload_n K dX11_edited_13 rfl ?_ | refine a_aload_nN K dX11_edited_13 rfl ?_
  refine a_getRs K fd_X11_23 (by exact lm_o hM) (Or.inr ⟨_, rfl⟩) (by exact lm_r714 hM) dX11_edited_14 ?_
  refine a_iload_n K dX11_edited_17 rfl ?_
  refine a_iald K (by exact lm_kk hM (by decide) (by decide)) (by show vp_in _ (sN S (m 4)); exact lm_ix (z := 12000) hM (by decide) (by decide) (show r < 12000 by omega) (by decide)) dX11_edited_18 ?_
  rw [nI_clamp (by omega)]
  refine a_iload_n K dX11_edited_19 rfl ?_
  refine a_invV K (m_fresh hM hF hroom (lf := sA S (m 4) r) (t := t)) my_X11_fresh ml_X11_193 im_X11_fresh se_X11_fresh (ci := 11) (by exact lm_o hM) (by decide) ⟨_, _, rfl⟩ rfl (by omega) (by omega) (by omega) rfl (Nat.le_of_ble_eq_true rfl) dX11_edited_20 ?_
  intro r9 S1 hp9
  obtain ⟨rfl, hF1, hL1, hN1, hT1, h7, f1⟩ := hp9
  rw [hcc] at hL1 hN1 hT1 f1
  rw [hF2] at hF1
  rw [hcc]
  have hM1 := f1.1.lay hM
  obtain ⟨gL1, gN1, gT1, gE1⟩ := f1.2 r hr hrc
  refine a_istore_n K dX11_edited_23 (by decide) ?_
  first | refine a_aload_n K dX11_edited_24 rfl ?_ | refine a_aload_nN K dX11_edited_24 rfl ?_
  refine a_getRs K fd_X11_26 (by exact lm_o hM1) (Or.inr ⟨_, rfl⟩) (by exact lm_r715 hM1) dX11_edited_25 ?_
  refine a_iload_n K dX11_edited_28 rfl ?_
  first | refine a_aload_n K dX11_edited_29 rfl ?_ | refine a_aload_nN K dX11_edited_29 rfl ?_
  refine a_getRs K fd_X11_26 (by exact lm_o hM1) (Or.inr ⟨_, rfl⟩) (by exact lm_r715 hM1) dX11_edited_30 ?_
  refine a_iload_n K dX11_edited_33 rfl ?_
  refine a_iald K (by exact lm_kk hM1 (by decide) (by decide)) (by show vp_in _ (sN S1 (m 5)); exact lm_ix (z := 12000) hM1 (by decide) (by decide) (show r < 12000 by omega) (by decide)) dX11_edited_34 ?_
  rw [nI_clamp (by omega)]
  rw [show sA S1 (m 5) r = nI l.length from gN1.trans hl.1]
  refine a_iast K (by exact lm_kk hM1 (by decide) (by decide)) (by show vp_in _ (sN S1 (m 5)); exact lm_ix (z := 12000) hM1 (by decide) (by decide) (show c < 12000 by omega) (by decide)) dX11_edited_35 ?_
  rw [nI_clamp (by omega)]
  refine a_iconst K dX11_edited_36 (v := 0) (by decide) ?_
  refine a_istore K dX11_edited_37 (by decide) ?_
  obtain ⟨t1, t2, t3, t4⟩ := n_fr (T := S1) (r := c) (v := nI l.length) hM1
  exact aw_locl rfl (loop l.length 0 _ (wA S1 (m 5) c (nI l.length)) nI_0.symm (by omega) (hM1.fr t1.1.1) (fun j hj => absurd hj (Nat.not_lt_zero j)) (f1.tr (t1.up (fun _ z => z) (fun F hF => absurd hF (by simp)))) ⟨⟨(t3 c).1.trans hL1, (t3 c).2.trans hT1, t2⟩, hF1.fr hM1 t1.1 (by decide) (by decide) (by decide) (by decide), (t1.1.2 724 (by decide)).trans h7⟩)
