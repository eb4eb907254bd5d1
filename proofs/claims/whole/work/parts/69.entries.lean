/-! entries of a text -/
theorem skB_nb (L : List Int32) (p : Nat) : ¬ chr L (skB L p) = 32 := by
  have key : ∀ n p, L.length - p ≤ n → ¬ chr L (skB L p) = 32 := by
    intro n
    induction n with
    | zero =>
      intro p hp
      rw [skB_out (by omega), chr_out (by omega)]
      decide
    | succ n ih =>
      intro p hp
      by_cases h : chr L p = 32
      · rw [skB_y h]
        by_cases hl : p < L.length
        · exact ih (p + 1) (by omega)
        · rw [skB_out (by omega), chr_out (by omega)]
          decide
      · rw [skB_n h]
        exact h
  exact key _ p (Nat.le_refl _)
theorem skB_skB (L : List Int32) (p : Nat) : skB L (skB L p) = skB L p := skB_n (skB_nb L p)
def Q25 (v : Nat → Nat) (b : Nat) : Prop := b = v 2 ∨ Qro (v 25) (v 26) (v 27) b
theorem RdS.frQ {S S2 : aw_S} {v : Nat → Nat} {L : List Int32} {Q : Nat → Prop} (h : RdS S v L) (f : frS S S2 Q) (n0 : ¬ Q (v 0)) (n1 : ¬ Q (v 1)) (n13 : ¬ Q (v 13)) : RdS S2 v L := by
  obtain ⟨hL, h1, h2, h3⟩ := h
  exact ⟨LW_fr hL f.fr n13, by rw [(f.2.2.2.2.2.2.2 _ n0).1]; exact h1, h2, fun i x hx => by rw [(f.2.2.2.2.2.2.2 _ n1).2.1]; exact h3 i x hx⟩
theorem vqro25 {S : aw_S} {v : Nat → Nat} (hL : LW S v) {j : Nat} (hj : j < 25) : ¬ Qro (v 25) (v 26) (v 27) (v j) := fun z => by
  rcases z with z | z | z
  · have := lw_inj hL j 25 (by omega) (by decide) z; omega
  · have := lw_inj hL j 26 (by omega) (by decide) z; omega
  · have := lw_inj hL j 27 (by omega) (by decide) z; omega
theorem vq2 {S : aw_S} {v : Nat → Nat} (hL : LW S v) {j : Nat} (hj : j < 37) (h2 : j ≠ 2) : ¬ v j = v 2 := fun z => h2 (lw_inj hL j 2 hj (by decide) z)
theorem rd2 {S T : aw_S} {v : Nat → Nat} {E : List KV} (hL : LW S v) (f : frS S T (fun b => b = v 2)) (h : RoW S (v 25) (v 26) (v 27) E) : RoW T (v 25) (v 26) (v 27) E := h.fr f.fr (vq2 hL (by decide) (by decide)) (vq2 hL (by decide) (by decide)) (vq2 hL (by decide) (by decide))
set_option maxHeartbeats 4000000 in
set_option maxRecDepth 100000 in
theorem m_readEntry {S : aw_S} {v : Nat → Nat} {L : List Int32} (h0 : RdS S v L) {p : Nat} (hp : p ≤ L.length) (ha : sI S 385 (v 2) = nI p) {E : List KV} (hR : RoW S (v 25) (v 26) (v 27) E) (hE : ∀ x, (entR L p).2 = some x → E.length < 60) : aw_M yX6_readEntry cX6_readEntry 4 (some FieldType.boolean) 4 0 0 [.ref (v 2), .ref (v 25)] S (fun r S2 => ((∃ x, (entR L p).2 = some x ∧ r = some (.int 1) ∧ RoW S2 (v 25) (v 26) (v 27) (E ++ [x])) ∨ ((entR L p).2 = none ∧ r = some (.int 0) ∧ RoW S2 (v 25) (v 26) (v 27) E)) ∧ frS S S2 (Q25 v) ∧ sI S2 385 (v 2) = nI (entR L p).1) := by
  have hL0 := h0.1
  have o6 := lw_i2 hL0
  have h240 := h0.2.2.1
  have hr1 := numR_le (less := false) hp
  refine aw_enter (by decide +kernel) (Nat.le_of_ble_eq_true rfl) (fun g K EE => ?_)
  cases h1 : (numR L false p).2 with
  | none =>
    first | refine a_aload_n K dX6_readEntry_0 rfl ?_ | refine a_aload_nN K dX6_readEntry_0 rfl ?_
    refine a_iconst K dX6_readEntry_1 (v := 0) (by decide) ?_
    refine a_invV K (m_readNumber_0 h0 (p := p) (by omega) ha) my_X6_readNumber ml_X6_39 im_X6_readNumber se_X6_readNumber (ci := 6) (by assumption) (by decide) ⟨_, _, rfl⟩ rfl (by omega) (by omega) (by omega) rfl (Nat.le_of_ble_eq_true rfl) dX6_readEntry_2 ?_
    intro r9 S1 hp9
    obtain ⟨rfl, f1, a1⟩ := hp9
    have h := h0.fr f1
    have hR1 := rd2 hL0 f1 hR
    have hL := h.1
    have o6 := lw_i2 hL
    have r384 := lw_f384_2 hL
    have o9 := lw_i0 hL
    rw [h1]
    rw [show (Option.none : Option Int32).getD (-1000000) = -1000000 from rfl]
    refine a_istore_n K dX6_readEntry_5 (by decide) ?_
    refine a_iload_n K dX6_readEntry_6 rfl ?_
    refine a_ldc K kc_X6_43 dX6_readEntry_7 ?_
    refine a_icmp_eq K dX6_readEntry_9 (tgt := 21) (by decide) (fun c_9 => ?_) (fun c_9 => absurd c_9 (by decide))
    refine a_iconst K dX6_readEntry_21 (v := 0) (by decide) ?_
    exact a_iret K EE rfl (by omega) (by omega) dX6_readEntry_22 (by rw [show entR L p = ((numR L false p).1, none) from by unfold entR; rw [h1]]; exact ⟨Or.inr ⟨rfl, rfl, hR1⟩, f1.mono (fun _ z => Or.inl z), a1⟩)
  | some k =>
    have hk := hr1.2.2 k h1
    have hsk := skB_le hr1.2.1
    by_cases h2 : chr L (skB L (numR L false p).1) = 58
    · have hin : skB L (numR L false p).1 < L.length := Classical.byContradiction (fun z => by rw [chr_out (by omega)] at h2; exact absurd h2 (by decide))
      have hr3 := numR_le (L := L) (less := true) (p := skB L (numR L false p).1 + 1) (by omega)
      cases h3 : (numR L true (skB L (numR L false p).1 + 1)).2 with
      | none =>
        first | refine a_aload_n K dX6_readEntry_0 rfl ?_ | refine a_aload_nN K dX6_readEntry_0 rfl ?_
        refine a_iconst K dX6_readEntry_1 (v := 0) (by decide) ?_
        refine a_invV K (m_readNumber_0 h0 (p := p) (by omega) ha) my_X6_readNumber ml_X6_39 im_X6_readNumber se_X6_readNumber (ci := 6) (by assumption) (by decide) ⟨_, _, rfl⟩ rfl (by omega) (by omega) (by omega) rfl (Nat.le_of_ble_eq_true rfl) dX6_readEntry_2 ?_
        intro r9 S1 hp9
        obtain ⟨rfl, f1, a1⟩ := hp9
        have h := h0.fr f1
        have hR1 := rd2 hL0 f1 hR
        have hL := h.1
        have o6 := lw_i2 hL
        have r384 := lw_f384_2 hL
        have o9 := lw_i0 hL
        rw [h1]
        rw [show (some k : Option Int32).getD (-1000000) = k from rfl]
        refine a_istore_n K dX6_readEntry_5 (by decide) ?_
        refine a_iload_n K dX6_readEntry_6 rfl ?_
        refine a_ldc K kc_X6_43 dX6_readEntry_7 ?_
        refine a_icmp_eq K dX6_readEntry_9 (tgt := 21) (by decide) (fun c_9 => absurd c_9 (okV.ne hk.2.1)) (fun c_9 => ?_)
        first | refine a_aload_n K dX6_readEntry_12 rfl ?_ | refine a_aload_nN K dX6_readEntry_12 rfl ?_
        refine a_bipush K dX6_readEntry_13 (v := 58) (by decide) ?_
        refine a_invV K (m_passes (sg := 58) h (p := (numR L false p).1) (by omega) a1) my_X6_passes ml_X6_35 im_X6_passes se_X6_passes (ci := 6) (by assumption) (by decide) ⟨_, _, rfl⟩ rfl (by omega) (by omega) (by omega) rfl (Nat.le_of_ble_eq_true rfl) dX6_readEntry_15 ?_
        intro r9 S2 hp9
        obtain ⟨hb9, f2, a2⟩ := hp9
        have h := h.fr f2
        have hR2 := rd2 hL f2 hR1
        have hL := h.1
        have o6 := lw_i2 hL
        have r384 := lw_f384_2 hL
        have o9 := lw_i0 hL
        obtain rfl : r9 = some (.int 1) := hb9.elim (fun q => q.2) (fun q => absurd h2 q.1)
        rw [if_pos h2] at a2
        refine a_if_ne K dX6_readEntry_18 (tgt := 23) (by decide) (fun c_18 => ?_) (fun c_18 => absurd c_18 (by decide))
        first | refine a_aload_n K dX6_readEntry_23 rfl ?_ | refine a_aload_nN K dX6_readEntry_23 rfl ?_
        refine a_iconst K dX6_readEntry_24 (v := 1) (by decide) ?_
        refine a_invV K (m_readNumber_1 h (p := skB L (numR L false p).1 + 1) (by omega) a2) my_X6_readNumber ml_X6_39 im_X6_readNumber se_X6_readNumber (ci := 6) (by assumption) (by decide) ⟨_, _, rfl⟩ rfl (by omega) (by omega) (by omega) rfl (Nat.le_of_ble_eq_true rfl) dX6_readEntry_25 ?_
        intro r9 S3 hp9
        obtain ⟨rfl, f3, a3⟩ := hp9
        have h := h.fr f3
        have hR3 := rd2 hL f3 hR2
        have hL := h.1
        have o6 := lw_i2 hL
        have r384 := lw_f384_2 hL
        have o9 := lw_i0 hL
        rw [h3]
        rw [show (Option.none : Option Int32).getD (-1000000) = -1000000 from rfl]
        refine a_istore_n K dX6_readEntry_28 (by decide) ?_
        refine a_iload_n K dX6_readEntry_29 rfl ?_
        refine a_ldc K kc_X6_43 dX6_readEntry_30 ?_
        refine a_icmp_ne K dX6_readEntry_32 (tgt := 37) (by decide) (fun c_32 => absurd c_32 (fun z => z rfl)) (fun c_32 => ?_)
        refine a_iconst K dX6_readEntry_35 (v := 0) (by decide) ?_
        exact a_iret K EE rfl (by omega) (by omega) dX6_readEntry_36 (by rw [show entR L p = ((numR L true (skB L (numR L false p).1 + 1)).1, none) from by unfold entR; rw [h1]; show entK L k _ = _; unfold entK; rw [if_pos h2]; unfold entV; rw [h3]]; exact ⟨Or.inr ⟨rfl, rfl, hR3⟩, ((f1.st f2 (fun _ z => z)).st f3 (fun _ z => z)).mono (fun _ z => Or.inl z), a3⟩)
      | some w =>
        have hw := hr3.2.2 w h3
        first | refine a_aload_n K dX6_readEntry_0 rfl ?_ | refine a_aload_nN K dX6_readEntry_0 rfl ?_
        refine a_iconst K dX6_readEntry_1 (v := 0) (by decide) ?_
        refine a_invV K (m_readNumber_0 h0 (p := p) (by omega) ha) my_X6_readNumber ml_X6_39 im_X6_readNumber se_X6_readNumber (ci := 6) (by assumption) (by decide) ⟨_, _, rfl⟩ rfl (by omega) (by omega) (by omega) rfl (Nat.le_of_ble_eq_true rfl) dX6_readEntry_2 ?_
        intro r9 S1 hp9
        obtain ⟨rfl, f1, a1⟩ := hp9
        have h := h0.fr f1
        have hR1 := rd2 hL0 f1 hR
        have hL := h.1
        have o6 := lw_i2 hL
        have r384 := lw_f384_2 hL
        have o9 := lw_i0 hL
        rw [h1]
        rw [show (some k : Option Int32).getD (-1000000) = k from rfl]
        refine a_istore_n K dX6_readEntry_5 (by decide) ?_
        refine a_iload_n K dX6_readEntry_6 rfl ?_
        refine a_ldc K kc_X6_43 dX6_readEntry_7 ?_
        refine a_icmp_eq K dX6_readEntry_9 (tgt := 21) (by decide) (fun c_9 => absurd c_9 (okV.ne hk.2.1)) (fun c_9 => ?_)
        first | refine a_aload_n K dX6_readEntry_12 rfl ?_ | refine a_aload_nN K dX6_readEntry_12 rfl ?_
        refine a_bipush K dX6_readEntry_13 (v := 58) (by decide) ?_
        refine a_invV K (m_passes (sg := 58) h (p := (numR L false p).1) (by omega) a1) my_X6_passes ml_X6_35 im_X6_passes se_X6_passes (ci := 6) (by assumption) (by decide) ⟨_, _, rfl⟩ rfl (by omega) (by omega) (by omega) rfl (Nat.le_of_ble_eq_true rfl) dX6_readEntry_15 ?_
        intro r9 S2 hp9
        obtain ⟨hb9, f2, a2⟩ := hp9
        have h := h.fr f2
        have hR2 := rd2 hL f2 hR1
        have hL := h.1
        have o6 := lw_i2 hL
        have r384 := lw_f384_2 hL
        have o9 := lw_i0 hL
        obtain rfl : r9 = some (.int 1) := hb9.elim (fun q => q.2) (fun q => absurd h2 q.1)
        rw [if_pos h2] at a2
        refine a_if_ne K dX6_readEntry_18 (tgt := 23) (by decide) (fun c_18 => ?_) (fun c_18 => absurd c_18 (by decide))
        first | refine a_aload_n K dX6_readEntry_23 rfl ?_ | refine a_aload_nN K dX6_readEntry_23 rfl ?_
        refine a_iconst K dX6_readEntry_24 (v := 1) (by decide) ?_
        refine a_invV K (m_readNumber_1 h (p := skB L (numR L false p).1 + 1) (by omega) a2) my_X6_readNumber ml_X6_39 im_X6_readNumber se_X6_readNumber (ci := 6) (by assumption) (by decide) ⟨_, _, rfl⟩ rfl (by omega) (by omega) (by omega) rfl (Nat.le_of_ble_eq_true rfl) dX6_readEntry_25 ?_
        intro r9 S3 hp9
        obtain ⟨rfl, f3, a3⟩ := hp9
        have h := h.fr f3
        have hR3 := rd2 hL f3 hR2
        have hL := h.1
        have o6 := lw_i2 hL
        have r384 := lw_f384_2 hL
        have o9 := lw_i0 hL
        rw [h3]
        rw [show (some w : Option Int32).getD (-1000000) = w from rfl]
        refine a_istore_n K dX6_readEntry_28 (by decide) ?_
        refine a_iload_n K dX6_readEntry_29 rfl ?_
        refine a_ldc K kc_X6_43 dX6_readEntry_30 ?_
        refine a_icmp_ne K dX6_readEntry_32 (tgt := 37) (by decide) (fun c_32 => ?_) (fun c_32 => absurd c_32 (okV.ne hw.2.1))
        first | refine a_aload_n K dX6_readEntry_37 rfl ?_ | refine a_aload_nN K dX6_readEntry_37 rfl ?_
        refine a_iload_n K dX6_readEntry_38 rfl ?_
        refine a_iload_n K dX6_readEntry_39 rfl ?_
        refine a_invV K (m_R_append (k := k) (v := w) hR3 (hE (k, w) (by unfold entR; rw [h1]; show (entK L k _).2 = _; unfold entK; rw [if_pos h2]; unfold entV; rw [h3]))) my_X7_append ml_X6_44 im_X7_append se_X7_append (ci := 7) (by first | exact hR3.1 | assumption) (by decide) ⟨_, _, rfl⟩ rfl (by omega) (by omega) (by omega) rfl (Nat.le_of_ble_eq_true rfl) dX6_readEntry_40 ?_
        intro r9 S4 hp9
        obtain ⟨rfl, hR4, f4⟩ := hp9
        refine a_iconst K dX6_readEntry_43 (v := 1) (by decide) ?_
        exact a_iret K EE rfl (by omega) (by omega) dX6_readEntry_44 (by rw [show entR L p = ((numR L true (skB L (numR L false p).1 + 1)).1, some (k, w)) from by unfold entR; rw [h1]; show entK L k _ = _; unfold entK; rw [if_pos h2]; unfold entV; rw [h3]]; exact ⟨Or.inl ⟨(k, w), rfl, rfl, hR4⟩, (((f1.st f2 (fun _ z => z)).st f3 (fun _ z => z)).mono (fun _ z => Or.inl z)).st f4 (fun _ z => Or.inr z), by rw [(f4.2.2.2.2.2.2.2 _ (vqro25 hL (by decide))).1]; exact a3⟩)
    · first | refine a_aload_n K dX6_readEntry_0 rfl ?_ | refine a_aload_nN K dX6_readEntry_0 rfl ?_
      refine a_iconst K dX6_readEntry_1 (v := 0) (by decide) ?_
      refine a_invV K (m_readNumber_0 h0 (p := p) (by omega) ha) my_X6_readNumber ml_X6_39 im_X6_readNumber se_X6_readNumber (ci := 6) (by assumption) (by decide) ⟨_, _, rfl⟩ rfl (by omega) (by omega) (by omega) rfl (Nat.le_of_ble_eq_true rfl) dX6_readEntry_2 ?_
      intro r9 S1 hp9
      obtain ⟨rfl, f1, a1⟩ := hp9
      have h := h0.fr f1
      have hR1 := rd2 hL0 f1 hR
      have hL := h.1
      have o6 := lw_i2 hL
      have r384 := lw_f384_2 hL
      have o9 := lw_i0 hL
      rw [h1]
      rw [show (some k : Option Int32).getD (-1000000) = k from rfl]
      refine a_istore_n K dX6_readEntry_5 (by decide) ?_
      refine a_iload_n K dX6_readEntry_6 rfl ?_
      refine a_ldc K kc_X6_43 dX6_readEntry_7 ?_
      refine a_icmp_eq K dX6_readEntry_9 (tgt := 21) (by decide) (fun c_9 => absurd c_9 (okV.ne hk.2.1)) (fun c_9 => ?_)
      first | refine a_aload_n K dX6_readEntry_12 rfl ?_ | refine a_aload_nN K dX6_readEntry_12 rfl ?_
      refine a_bipush K dX6_readEntry_13 (v := 58) (by decide) ?_
      refine a_invV K (m_passes (sg := 58) h (p := (numR L false p).1) (by omega) a1) my_X6_passes ml_X6_35 im_X6_passes se_X6_passes (ci := 6) (by assumption) (by decide) ⟨_, _, rfl⟩ rfl (by omega) (by omega) (by omega) rfl (Nat.le_of_ble_eq_true rfl) dX6_readEntry_15 ?_
      intro r9 S2 hp9
      obtain ⟨hb9, f2, a2⟩ := hp9
      have h := h.fr f2
      have hR2 := rd2 hL f2 hR1
      have hL := h.1
      have o6 := lw_i2 hL
      have r384 := lw_f384_2 hL
      have o9 := lw_i0 hL
      obtain rfl : r9 = some (.int 0) := hb9.elim (fun q => absurd q.1 h2) (fun q => q.2)
      rw [if_neg h2] at a2
      refine a_if_ne K dX6_readEntry_18 (tgt := 23) (by decide) (fun c_18 => absurd c_18 (fun z => z rfl)) (fun c_18 => ?_)
      refine a_iconst K dX6_readEntry_21 (v := 0) (by decide) ?_
      exact a_iret K EE rfl (by omega) (by omega) dX6_readEntry_22 (by rw [show entR L p = (skB L (numR L false p).1, none) from by unfold entR; rw [h1]; show entK L k _ = _; unfold entK; rw [if_neg h2]]; exact ⟨Or.inr ⟨rfl, rfl, hR2⟩, (f1.st f2 (fun _ z => z)).mono (fun _ z => Or.inl z), a2⟩)
theorem q25 {S : aw_S} {v : Nat → Nat} (hL : LW S v) {j : Nat} (hj : j < 25) (h2 : j ≠ 2) : ¬ Q25 v (v j) := fun z => z.elim (vq2 hL (by omega) h2) (vqro25 hL hj)
theorem RdS.f25 {S S2 : aw_S} {v : Nat → Nat} {L : List Int32} (h : RdS S v L) (f : frS S S2 (Q25 v)) : RdS S2 v L := h.frQ f (q25 h.1 (by decide) (by decide)) (q25 h.1 (by decide) (by decide)) (q25 h.1 (by decide) (by decide))
set_option maxHeartbeats 4000000 in
set_option maxRecDepth 100000 in
theorem m_readEntries {S : aw_S} {v : Nat → Nat} {L : List Int32} (h0 : RdS S v L) : aw_M yX6_readEntries cX6_readEntries 3 (some FieldType.int) 5 0 0 [.ref (v 2), .ref (v 25)] S (fun r S2 => r = some (.int (fltV (redE L).1)) ∧ RoW S2 (v 25) (v 26) (v 27) (redE L).2 ∧ frS S S2 (Q25 v)) := by
  have hL0 := h0.1
  have o60 := lw_i2 hL0
  have h240 := h0.2.2.1
  have hs0 := skB_le (L := L) (Nat.zero_le _)
  obtain ⟨F, hF⟩ : ∃ F, redE L = F := ⟨_, rfl⟩
  rw [hF]
  refine aw_enter (by decide +kernel) (Nat.le_of_ble_eq_true rfl) (fun g K EE => ?_)
  have loop : ∀ (n i p : Nat) (x : Int32) (T : aw_S) (E : List KV), x = nI i → i + n = 240 → p ≤ L.length → 4 * E.length ≤ p → 4 * i ≤ p → RdS T v L → RoW T (v 25) (v 26) (v 27) E → frS S T (Q25 v) → sI T 385 (v 2) = nI p → etsR L n p E = F → aw g 3 T 0 0 [(2, .int x), (1, .ref (v 25)), (0, .ref (v 2))] [] 24 := by
    intro n
    induction n with
    | zero =>
      intro i p x T E hx hi hp h4 h4i h hR f ha hF
      subst hx
      have hL := h.1
      have o6 := lw_i2 hL
      have r384 := lw_f384_2 hL
      have o9 := lw_i0 hL
      have o7 := hR.1
      have h240 := h.2.2.1
      omega
    | succ n ih =>
      intro i p x T E hx hi hp h4 h4i h hR f ha hF
      subst hx
      have hL := h.1
      have o6 := lw_i2 hL
      have r384 := lw_f384_2 hL
      have o9 := lw_i0 hL
      have o7 := hR.1
      have h240 := h.2.2.1
      obtain ⟨b1, b2⟩ := entR_le hp
      cases hx9 : (entR L p).2 with
      | none =>
        refine a_iload_n K dX6_readEntries_24 rfl ?_
        refine a_sipush K dX6_readEntries_25 (v := 240) (by decide) ?_
        refine a_icmp_ge K dX6_readEntries_28 (tgt := 77) (by decide) (fun c_28 => absurd c_28 (nI_ge (a := i) (b := 240) (by omega) (by omega))) (fun c_28 => ?_)
        first | refine a_aload_n K dX6_readEntries_31 rfl ?_ | refine a_aload_nN K dX6_readEntries_31 rfl ?_
        first | refine a_aload_n K dX6_readEntries_32 rfl ?_ | refine a_aload_nN K dX6_readEntries_32 rfl ?_
        refine a_invV K (m_readEntry h hp ha hR (fun y hy => by have h9 := (b2 y hy).1; omega)) my_X6_readEntry ml_X6_31 im_X6_readEntry se_X6_readEntry (ci := 6) (by assumption) (by decide) ⟨_, _, rfl⟩ rfl (by omega) (by omega) (by omega) rfl (Nat.le_of_ble_eq_true rfl) dX6_readEntries_33 ?_
        intro r9 T1 hp9
        obtain ⟨hq9, f1, a1⟩ := hp9
        have h := h.f25 f1
        have hL := h.1
        have o6 := lw_i2 hL
        have r384 := lw_f384_2 hL
        have o9 := lw_i0 hL
        obtain ⟨rfl, hR1⟩ : r9 = some (.int 0) ∧ RoW T1 (v 25) (v 26) (v 27) E := hq9.elim (fun ⟨y, hy, _⟩ => absurd (hx9.symm.trans hy) (by simp)) (fun q => q.2)
        refine a_if_ne K dX6_readEntries_36 (tgt := 44) (by decide) (fun c_36 => absurd c_36 (fun z => z rfl)) (fun c_36 => ?_)
        first | refine a_aload_n K dX6_readEntries_39 rfl ?_ | refine a_aload_nN K dX6_readEntries_39 rfl ?_
        refine a_getI K fd_X6_20 (by assumption) (Or.inl rfl) dX6_readEntries_40 ?_
        rw [a1]
        exact a_iret K EE rfl (by omega) (by omega) dX6_readEntries_43 (by rw [← hF, etsR_f hx9]; exact ⟨rfl, hR1, f.st f1 (fun _ z => z)⟩)
      | some x =>
        obtain ⟨c1, -⟩ := b2 x hx9
        have hsk := skB_le b1
        by_cases he : L.length ≤ skB L (entR L p).1
        · refine a_iload_n K dX6_readEntries_24 rfl ?_
          refine a_sipush K dX6_readEntries_25 (v := 240) (by decide) ?_
          refine a_icmp_ge K dX6_readEntries_28 (tgt := 77) (by decide) (fun c_28 => absurd c_28 (nI_ge (a := i) (b := 240) (by omega) (by omega))) (fun c_28 => ?_)
          first | refine a_aload_n K dX6_readEntries_31 rfl ?_ | refine a_aload_nN K dX6_readEntries_31 rfl ?_
          first | refine a_aload_n K dX6_readEntries_32 rfl ?_ | refine a_aload_nN K dX6_readEntries_32 rfl ?_
          refine a_invV K (m_readEntry h hp ha hR (fun y hy => by have h9 := (b2 y hy).1; omega)) my_X6_readEntry ml_X6_31 im_X6_readEntry se_X6_readEntry (ci := 6) (by assumption) (by decide) ⟨_, _, rfl⟩ rfl (by omega) (by omega) (by omega) rfl (Nat.le_of_ble_eq_true rfl) dX6_readEntries_33 ?_
          intro r9 T1 hp9
          obtain ⟨hq9, f1, a1⟩ := hp9
          have h := h.f25 f1
          have hL := h.1
          have o6 := lw_i2 hL
          have r384 := lw_f384_2 hL
          have o9 := lw_i0 hL
          obtain ⟨rfl, hR1⟩ : r9 = some (.int 1) ∧ RoW T1 (v 25) (v 26) (v 27) (E ++ [x]) := hq9.elim (fun ⟨y, hy, e9, hRy⟩ => by rw [hx9] at hy; cases hy; exact ⟨e9, hRy⟩) (fun q => absurd (hx9.symm.trans q.1) (by simp))
          refine a_if_ne K dX6_readEntries_36 (tgt := 44) (by decide) (fun c_36 => ?_) (fun c_36 => absurd c_36 (by decide))
          first | refine a_aload_n K dX6_readEntries_44 rfl ?_ | refine a_aload_nN K dX6_readEntries_44 rfl ?_
          refine a_invV K (m_skipBlanks h (p := (entR L p).1) (by omega) a1) my_X6_skipBlanks ml_X6_24 im_X6_skipBlanks se_X6_skipBlanks (ci := 6) (by assumption) (by decide) ⟨_, _, rfl⟩ rfl (by omega) (by omega) (by omega) rfl (Nat.le_of_ble_eq_true rfl) dX6_readEntries_45 ?_
          intro r9 T2 hp9
          obtain ⟨rfl, f2, a2⟩ := hp9
          have hR2 := rd2 hL f2 hR1
          have h := h.fr f2
          have hL := h.1
          have o6 := lw_i2 hL
          have r384 := lw_f384_2 hL
          have o9 := lw_i0 hL
          first | refine a_aload_n K dX6_readEntries_48 rfl ?_ | refine a_aload_nN K dX6_readEntries_48 rfl ?_
          refine a_invV K (m_hasEnded h (p := skB L (entR L p).1) (by omega) a2) my_X6_hasEnded ml_X6_27 im_X6_hasEnded se_X6_hasEnded (ci := 6) (by assumption) (by decide) ⟨_, _, rfl⟩ rfl (by omega) (by omega) (by omega) rfl (Nat.le_of_ble_eq_true rfl) dX6_readEntries_49 ?_
          intro r9 S9 hp9
          obtain ⟨hS9, hb9⟩ := hp9
          obtain rfl := hS9.symm
          obtain rfl : r9 = some (.int 1) := hb9.elim (fun q => q.2) (fun q => absurd he q.1)
          refine a_if_eq K dX6_readEntries_52 (tgt := 57) (by decide) (fun c_52 => absurd c_52 (fun z => absurd z (by decide))) (fun c_52 => ?_)
          refine a_iconst K dX6_readEntries_55 (v := -1) (by decide) ?_
          exact a_iret K EE rfl (by omega) (by omega) dX6_readEntries_56 (by rw [← hF, etsR_s hx9, if_pos he]; exact ⟨rfl, hR2, (f.st f1 (fun _ z => z)).st (f2.mono (fun _ z => Or.inl z)) (fun _ z => z)⟩)
        · by_cases hm : chr L (skB L (entR L p).1) = 44
          · refine a_iload_n K dX6_readEntries_24 rfl ?_
            refine a_sipush K dX6_readEntries_25 (v := 240) (by decide) ?_
            refine a_icmp_ge K dX6_readEntries_28 (tgt := 77) (by decide) (fun c_28 => absurd c_28 (nI_ge (a := i) (b := 240) (by omega) (by omega))) (fun c_28 => ?_)
            first | refine a_aload_n K dX6_readEntries_31 rfl ?_ | refine a_aload_nN K dX6_readEntries_31 rfl ?_
            first | refine a_aload_n K dX6_readEntries_32 rfl ?_ | refine a_aload_nN K dX6_readEntries_32 rfl ?_
            refine a_invV K (m_readEntry h hp ha hR (fun y hy => by have h9 := (b2 y hy).1; omega)) my_X6_readEntry ml_X6_31 im_X6_readEntry se_X6_readEntry (ci := 6) (by assumption) (by decide) ⟨_, _, rfl⟩ rfl (by omega) (by omega) (by omega) rfl (Nat.le_of_ble_eq_true rfl) dX6_readEntries_33 ?_
            intro r9 T1 hp9
            obtain ⟨hq9, f1, a1⟩ := hp9
            have h := h.f25 f1
            have hL := h.1
            have o6 := lw_i2 hL
            have r384 := lw_f384_2 hL
            have o9 := lw_i0 hL
            obtain ⟨rfl, hR1⟩ : r9 = some (.int 1) ∧ RoW T1 (v 25) (v 26) (v 27) (E ++ [x]) := hq9.elim (fun ⟨y, hy, e9, hRy⟩ => by rw [hx9] at hy; cases hy; exact ⟨e9, hRy⟩) (fun q => absurd (hx9.symm.trans q.1) (by simp))
            refine a_if_ne K dX6_readEntries_36 (tgt := 44) (by decide) (fun c_36 => ?_) (fun c_36 => absurd c_36 (by decide))
            first | refine a_aload_n K dX6_readEntries_44 rfl ?_ | refine a_aload_nN K dX6_readEntries_44 rfl ?_
            refine a_invV K (m_skipBlanks h (p := (entR L p).1) (by omega) a1) my_X6_skipBlanks ml_X6_24 im_X6_skipBlanks se_X6_skipBlanks (ci := 6) (by assumption) (by decide) ⟨_, _, rfl⟩ rfl (by omega) (by omega) (by omega) rfl (Nat.le_of_ble_eq_true rfl) dX6_readEntries_45 ?_
            intro r9 T2 hp9
            obtain ⟨rfl, f2, a2⟩ := hp9
            have hR2 := rd2 hL f2 hR1
            have h := h.fr f2
            have hL := h.1
            have o6 := lw_i2 hL
            have r384 := lw_f384_2 hL
            have o9 := lw_i0 hL
            first | refine a_aload_n K dX6_readEntries_48 rfl ?_ | refine a_aload_nN K dX6_readEntries_48 rfl ?_
            refine a_invV K (m_hasEnded h (p := skB L (entR L p).1) (by omega) a2) my_X6_hasEnded ml_X6_27 im_X6_hasEnded se_X6_hasEnded (ci := 6) (by assumption) (by decide) ⟨_, _, rfl⟩ rfl (by omega) (by omega) (by omega) rfl (Nat.le_of_ble_eq_true rfl) dX6_readEntries_49 ?_
            intro r9 S9 hp9
            obtain ⟨hS9, hb9⟩ := hp9
            obtain rfl := hS9.symm
            obtain rfl : r9 = some (.int 0) := hb9.elim (fun q => absurd q.1 he) (fun q => q.2)
            refine a_if_eq K dX6_readEntries_52 (tgt := 57) (by decide) (fun c_52 => ?_) (fun c_52 => absurd c_52 (by decide))
            first | refine a_aload_n K dX6_readEntries_57 rfl ?_ | refine a_aload_nN K dX6_readEntries_57 rfl ?_
            refine a_bipush K dX6_readEntries_58 (v := 44) (by decide) ?_
            refine a_invV K (m_passes (sg := 44) h (p := skB L (entR L p).1) (by omega) a2) my_X6_passes ml_X6_35 im_X6_passes se_X6_passes (ci := 6) (by assumption) (by decide) ⟨_, _, rfl⟩ rfl (by omega) (by omega) (by omega) rfl (Nat.le_of_ble_eq_true rfl) dX6_readEntries_60 ?_
            intro r9 T3 hp9
            obtain ⟨hb9, f3, a3⟩ := hp9
            rw [skB_skB] at hb9 a3
            have hR3 := rd2 hL f3 hR2
            have h := h.fr f3
            have hL := h.1
            have o6 := lw_i2 hL
            have r384 := lw_f384_2 hL
            have o9 := lw_i0 hL
            obtain rfl : r9 = some (.int 1) := hb9.elim (fun q => q.2) (fun q => absurd hm q.1)
            rw [if_pos hm] at a3
            refine a_if_ne K dX6_readEntries_63 (tgt := 71) (by decide) (fun c_63 => ?_) (fun c_63 => absurd c_63 (by decide))
            refine a_iinc K dX6_readEntries_71 (v := 1) rfl (by decide) (by decide) ?_
            refine a_goto K dX6_readEntries_74 (tgt := 24) (by decide) ?_
            exact aw_locl rfl (ih (i + 1) (skB L (entR L p).1 + 1) _ T3 (E ++ [x]) (nI_1 i) (by omega) (by omega) (by rw [List.length_append, List.length_singleton]; omega) (by omega) h hR3 (((f.st f1 (fun _ z => z)).st (f2.mono (fun _ z => Or.inl z)) (fun _ z => z)).st (f3.mono (fun _ z => Or.inl z)) (fun _ z => z)) a3 (by rw [← hF, etsR_s hx9, if_neg he, if_pos hm]))
          · refine a_iload_n K dX6_readEntries_24 rfl ?_
            refine a_sipush K dX6_readEntries_25 (v := 240) (by decide) ?_
            refine a_icmp_ge K dX6_readEntries_28 (tgt := 77) (by decide) (fun c_28 => absurd c_28 (nI_ge (a := i) (b := 240) (by omega) (by omega))) (fun c_28 => ?_)
            first | refine a_aload_n K dX6_readEntries_31 rfl ?_ | refine a_aload_nN K dX6_readEntries_31 rfl ?_
            first | refine a_aload_n K dX6_readEntries_32 rfl ?_ | refine a_aload_nN K dX6_readEntries_32 rfl ?_
            refine a_invV K (m_readEntry h hp ha hR (fun y hy => by have h9 := (b2 y hy).1; omega)) my_X6_readEntry ml_X6_31 im_X6_readEntry se_X6_readEntry (ci := 6) (by assumption) (by decide) ⟨_, _, rfl⟩ rfl (by omega) (by omega) (by omega) rfl (Nat.le_of_ble_eq_true rfl) dX6_readEntries_33 ?_
            intro r9 T1 hp9
            obtain ⟨hq9, f1, a1⟩ := hp9
            have h := h.f25 f1
            have hL := h.1
            have o6 := lw_i2 hL
            have r384 := lw_f384_2 hL
            have o9 := lw_i0 hL
            obtain ⟨rfl, hR1⟩ : r9 = some (.int 1) ∧ RoW T1 (v 25) (v 26) (v 27) (E ++ [x]) := hq9.elim (fun ⟨y, hy, e9, hRy⟩ => by rw [hx9] at hy; cases hy; exact ⟨e9, hRy⟩) (fun q => absurd (hx9.symm.trans q.1) (by simp))
            refine a_if_ne K dX6_readEntries_36 (tgt := 44) (by decide) (fun c_36 => ?_) (fun c_36 => absurd c_36 (by decide))
            first | refine a_aload_n K dX6_readEntries_44 rfl ?_ | refine a_aload_nN K dX6_readEntries_44 rfl ?_
            refine a_invV K (m_skipBlanks h (p := (entR L p).1) (by omega) a1) my_X6_skipBlanks ml_X6_24 im_X6_skipBlanks se_X6_skipBlanks (ci := 6) (by assumption) (by decide) ⟨_, _, rfl⟩ rfl (by omega) (by omega) (by omega) rfl (Nat.le_of_ble_eq_true rfl) dX6_readEntries_45 ?_
            intro r9 T2 hp9
            obtain ⟨rfl, f2, a2⟩ := hp9
            have hR2 := rd2 hL f2 hR1
            have h := h.fr f2
            have hL := h.1
            have o6 := lw_i2 hL
            have r384 := lw_f384_2 hL
            have o9 := lw_i0 hL
            first | refine a_aload_n K dX6_readEntries_48 rfl ?_ | refine a_aload_nN K dX6_readEntries_48 rfl ?_
            refine a_invV K (m_hasEnded h (p := skB L (entR L p).1) (by omega) a2) my_X6_hasEnded ml_X6_27 im_X6_hasEnded se_X6_hasEnded (ci := 6) (by assumption) (by decide) ⟨_, _, rfl⟩ rfl (by omega) (by omega) (by omega) rfl (Nat.le_of_ble_eq_true rfl) dX6_readEntries_49 ?_
            intro r9 S9 hp9
            obtain ⟨hS9, hb9⟩ := hp9
            obtain rfl := hS9.symm
            obtain rfl : r9 = some (.int 0) := hb9.elim (fun q => absurd q.1 he) (fun q => q.2)
            refine a_if_eq K dX6_readEntries_52 (tgt := 57) (by decide) (fun c_52 => ?_) (fun c_52 => absurd c_52 (by decide))
            first | refine a_aload_n K dX6_readEntries_57 rfl ?_ | refine a_aload_nN K dX6_readEntries_57 rfl ?_
            refine a_bipush K dX6_readEntries_58 (v := 44) (by decide) ?_
            refine a_invV K (m_passes (sg := 44) h (p := skB L (entR L p).1) (by omega) a2) my_X6_passes ml_X6_35 im_X6_passes se_X6_passes (ci := 6) (by assumption) (by decide) ⟨_, _, rfl⟩ rfl (by omega) (by omega) (by omega) rfl (Nat.le_of_ble_eq_true rfl) dX6_readEntries_60 ?_
            intro r9 T3 hp9
            obtain ⟨hb9, f3, a3⟩ := hp9
            rw [skB_skB] at hb9 a3
            have hR3 := rd2 hL f3 hR2
            have h := h.fr f3
            have hL := h.1
            have o6 := lw_i2 hL
            have r384 := lw_f384_2 hL
            have o9 := lw_i0 hL
            obtain rfl : r9 = some (.int 0) := hb9.elim (fun q => absurd q.1 hm) (fun q => q.2)
            rw [if_neg hm] at a3
            refine a_if_ne K dX6_readEntries_63 (tgt := 71) (by decide) (fun c_63 => absurd c_63 (fun z => z rfl)) (fun c_63 => ?_)
            first | refine a_aload_n K dX6_readEntries_66 rfl ?_ | refine a_aload_nN K dX6_readEntries_66 rfl ?_
            refine a_getI K fd_X6_20 (by assumption) (Or.inl rfl) dX6_readEntries_67 ?_
            rw [a3]
            exact a_iret K EE rfl (by omega) (by omega) dX6_readEntries_70 (by rw [← hF, etsR_s hx9, if_neg he, if_neg hm]; exact ⟨rfl, hR3, ((f.st f1 (fun _ z => z)).st (f2.mono (fun _ z => Or.inl z)) (fun _ z => z)).st (f3.mono (fun _ z => Or.inl z)) (fun _ z => z)⟩)
  by_cases he : L.length ≤ skB L 0
  · first | refine a_aload_n K dX6_readEntries_0 rfl ?_ | refine a_aload_nN K dX6_readEntries_0 rfl ?_
    refine a_invV K (m_X7_clear (lw_i25 h0.1)) my_X7_clear ml_X6_15 im_X7_clear se_X7_clear (ci := 7) (by first | exact lw_i25 h0.1 | assumption) (by decide) ⟨_, _, rfl⟩ rfl (by omega) (by omega) (by omega) rfl (Nat.le_of_ble_eq_true rfl) dX6_readEntries_1 ?_
    intro r9 T0 hp9
    obtain ⟨rfl, hT0⟩ := hp9
    obtain ⟨hR0, f0⟩ := (lw_Ro25 h0.1).clear
    rw [← hT0] at hR0 f0
    have f0 : frS S T0 (Q25 v) := f0.mono (fun _ z => Or.inr z)
    have h := h0.f25 f0
    have hL := h.1
    have o6 := lw_i2 hL
    have r384 := lw_f384_2 hL
    have o9 := lw_i0 hL
    have fA : frS T0 (wI T0 385 (v 2) 0) (fun b => b = v 2) := frS_wI (by decide)
    have hA := h.fr fA
    have hRA := rd2 hL fA hR0
    first | refine a_aload_n K dX6_readEntries_4 rfl ?_ | refine a_aload_nN K dX6_readEntries_4 rfl ?_
    refine a_iconst K dX6_readEntries_5 (v := 0) (by decide) ?_
    refine a_putI K fd_X6_20 (by assumption) rfl dX6_readEntries_6 ?_
    first | refine a_aload_n K dX6_readEntries_9 rfl ?_ | refine a_aload_nN K dX6_readEntries_9 rfl ?_
    refine a_invV K (m_skipBlanks hA (p := 0) (by omega) wI_at) my_X6_skipBlanks ml_X6_24 im_X6_skipBlanks se_X6_skipBlanks (ci := 6) (by assumption) (by decide) ⟨_, _, rfl⟩ rfl (by omega) (by omega) (by omega) rfl (Nat.le_of_ble_eq_true rfl) dX6_readEntries_10 ?_
    intro r9 T2 hp9
    obtain ⟨rfl, f2, a2⟩ := hp9
    have hR2 := rd2 hA.1 f2 hRA
    have h := hA.fr f2
    have hL := h.1
    have o6 := lw_i2 hL
    have r384 := lw_f384_2 hL
    have o9 := lw_i0 hL
    have fB : frS S T2 (Q25 v) := (f0.st (fA.mono (fun _ z => Or.inl z)) (fun _ z => z)).st (f2.mono (fun _ z => Or.inl z)) (fun _ z => z)
    first | refine a_aload_n K dX6_readEntries_13 rfl ?_ | refine a_aload_nN K dX6_readEntries_13 rfl ?_
    refine a_invV K (m_hasEnded h (p := skB L 0) (by omega) a2) my_X6_hasEnded ml_X6_27 im_X6_hasEnded se_X6_hasEnded (ci := 6) (by assumption) (by decide) ⟨_, _, rfl⟩ rfl (by omega) (by omega) (by omega) rfl (Nat.le_of_ble_eq_true rfl) dX6_readEntries_14 ?_
    intro r9 S9 hp9
    obtain ⟨hS9, hb9⟩ := hp9
    obtain rfl := hS9.symm
    obtain rfl : r9 = some (.int 1) := hb9.elim (fun q => q.2) (fun q => absurd he q.1)
    refine a_if_eq K dX6_readEntries_17 (tgt := 22) (by decide) (fun c_17 => absurd c_17 (fun z => absurd z (by decide))) (fun c_17 => ?_)
    refine a_iconst K dX6_readEntries_20 (v := -1) (by decide) ?_
    exact a_iret K EE rfl (by omega) (by omega) dX6_readEntries_21 (by rw [← hF, show redE L = (none, []) from by unfold redE; rw [if_pos he]]; exact ⟨rfl, hR2, fB⟩)
  · first | refine a_aload_n K dX6_readEntries_0 rfl ?_ | refine a_aload_nN K dX6_readEntries_0 rfl ?_
    refine a_invV K (m_X7_clear (lw_i25 h0.1)) my_X7_clear ml_X6_15 im_X7_clear se_X7_clear (ci := 7) (by first | exact lw_i25 h0.1 | assumption) (by decide) ⟨_, _, rfl⟩ rfl (by omega) (by omega) (by omega) rfl (Nat.le_of_ble_eq_true rfl) dX6_readEntries_1 ?_
    intro r9 T0 hp9
    obtain ⟨rfl, hT0⟩ := hp9
    obtain ⟨hR0, f0⟩ := (lw_Ro25 h0.1).clear
    rw [← hT0] at hR0 f0
    have f0 : frS S T0 (Q25 v) := f0.mono (fun _ z => Or.inr z)
    have h := h0.f25 f0
    have hL := h.1
    have o6 := lw_i2 hL
    have r384 := lw_f384_2 hL
    have o9 := lw_i0 hL
    have fA : frS T0 (wI T0 385 (v 2) 0) (fun b => b = v 2) := frS_wI (by decide)
    have hA := h.fr fA
    have hRA := rd2 hL fA hR0
    first | refine a_aload_n K dX6_readEntries_4 rfl ?_ | refine a_aload_nN K dX6_readEntries_4 rfl ?_
    refine a_iconst K dX6_readEntries_5 (v := 0) (by decide) ?_
    refine a_putI K fd_X6_20 (by assumption) rfl dX6_readEntries_6 ?_
    first | refine a_aload_n K dX6_readEntries_9 rfl ?_ | refine a_aload_nN K dX6_readEntries_9 rfl ?_
    refine a_invV K (m_skipBlanks hA (p := 0) (by omega) wI_at) my_X6_skipBlanks ml_X6_24 im_X6_skipBlanks se_X6_skipBlanks (ci := 6) (by assumption) (by decide) ⟨_, _, rfl⟩ rfl (by omega) (by omega) (by omega) rfl (Nat.le_of_ble_eq_true rfl) dX6_readEntries_10 ?_
    intro r9 T2 hp9
    obtain ⟨rfl, f2, a2⟩ := hp9
    have hR2 := rd2 hA.1 f2 hRA
    have h := hA.fr f2
    have hL := h.1
    have o6 := lw_i2 hL
    have r384 := lw_f384_2 hL
    have o9 := lw_i0 hL
    have fB : frS S T2 (Q25 v) := (f0.st (fA.mono (fun _ z => Or.inl z)) (fun _ z => z)).st (f2.mono (fun _ z => Or.inl z)) (fun _ z => z)
    first | refine a_aload_n K dX6_readEntries_13 rfl ?_ | refine a_aload_nN K dX6_readEntries_13 rfl ?_
    refine a_invV K (m_hasEnded h (p := skB L 0) (by omega) a2) my_X6_hasEnded ml_X6_27 im_X6_hasEnded se_X6_hasEnded (ci := 6) (by assumption) (by decide) ⟨_, _, rfl⟩ rfl (by omega) (by omega) (by omega) rfl (Nat.le_of_ble_eq_true rfl) dX6_readEntries_14 ?_
    intro r9 S9 hp9
    obtain ⟨hS9, hb9⟩ := hp9
    obtain rfl := hS9.symm
    obtain rfl : r9 = some (.int 0) := hb9.elim (fun q => absurd q.1 he) (fun q => q.2)
    refine a_if_eq K dX6_readEntries_17 (tgt := 22) (by decide) (fun c_17 => ?_) (fun c_17 => absurd c_17 (by decide))
    refine a_iconst K dX6_readEntries_22 (v := 0) (by decide) ?_
    refine a_istore_n K dX6_readEntries_23 (by decide) ?_
    exact aw_locl rfl (loop 240 0 (skB L 0) _ T2 [] nI_0.symm (by omega) hs0.2 (by simp) (by omega) h hR2 fB a2 (by rw [← hF]; unfold redE; rw [if_neg he]))
