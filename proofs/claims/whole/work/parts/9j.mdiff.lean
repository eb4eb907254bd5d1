/-! the model: what differs -/
theorem q_unlY {S : aw_S} {m : Nat → Nat} (hM : LM S m) {V : Nat → Nat → Int32} (hTh : ThS S m V) {q a b : Nat} (hq : q < 1000) (ha : a < 3) (hb : b < 3) (y : ¬ V a q = V b q) : aw_M yX11_isUnlike cX11_isUnlike 4 (some FieldType.boolean) 1 0 0 [.ref (m 33), .int (nI q), .int (nI a), .int (nI b)] S (fun r S2 => r = some (.int 1) ∧ S2 = S) := (q_isUnlike hM hTh hq ha hb).post (fun r S2 hp => ⟨bR_y y hp.2, hp.1⟩)
theorem q_unlN {S : aw_S} {m : Nat → Nat} (hM : LM S m) {V : Nat → Nat → Int32} (hTh : ThS S m V) {q a b : Nat} (hq : q < 1000) (ha : a < 3) (hb : b < 3) (y : V a q = V b q) : aw_M yX11_isUnlike cX11_isUnlike 4 (some FieldType.boolean) 1 0 0 [.ref (m 33), .int (nI q), .int (nI a), .int (nI b)] S (fun r S2 => r = some (.int 0) ∧ S2 = S) := (q_isUnlike hM hTh hq ha hb).post (fun r S2 hp => ⟨bR_n (fun z => z y) hp.2, hp.1⟩)
def noV : Nat → Nat → Int32 := fun _ _ => -1000000
def vTwo (E F : List KV) : Nat → Nat → Int32 := thU (thU noV 0 (fun k => valIn E (nI k))) 1 (fun k => valIn F (nI k))
def vThr (B E F : List KV) : Nat → Nat → Int32 := thU (thU (thU noV 0 (fun k => valIn B (nI k))) 1 (fun k => valIn E (nI k))) 2 (fun k => valIn F (nI k))
theorem ThS_no {S : aw_S} {m : Nat → Nat} (h : ∀ k, k < 1000 → sA S (m 26) k = 0) : ThS S m noV := ⟨fun k hk => by rw [h k hk]; show (0 : Int32) = bt3 (-1000000) (-1000000) (-1000000); decide, fun w _ k _ hn => absurd rfl hn⟩
theorem ThS.fr {S S2 : aw_S} {m : Nat → Nat} {V : Nat → Nat → Int32} {ks Fs : List Nat} (h : ThS S m V) (hM : LM S m) (f : frM S S2 m ks Fs) (hk3 : ∀ k ∈ ks, k < 33) (n1 : 26 ∉ ks) (n2 : 27 ∉ ks) : ThS S2 m V := by
  unfold ThS
  rw [f.A hM hk3 (by decide) n1, f.A hM hk3 (by decide) n2]
  exact h
/-- a tree whose keys can be laid -/
def LyT (S : aw_S) (m ρ : Nat → Nat) (z : Tz) : Prop := RepM S m ρ z.1 z.2 ∧ (ent z.1 z.2).length ≤ 60 ∧ (ndl z.1 z.2).length ≤ 61 ∧ z.1 ≤ 4 ∧ srt (ent z.1 z.2) ∧ ∀ x ∈ ent z.1 z.2, okE x
theorem LyT.fr {S S2 : aw_S} {m ρ : Nat → Nat} {z : Tz} (h : LyT S m ρ z) (hM : LM S m) (f : frM S S2 m ksT [734, 735]) : LyT S2 m ρ z := ⟨f.rep hM (by decide) (by decide) (by decide) (by decide) (by decide) (by decide) h.1, h.2⟩
theorem LyT_of {S : aw_S} {m ρ : Nat → Nat} {Z : List Nat × Nat} {mb : Nat} {P : PS} (h : RM S m ρ Z mb P) (hP : PI P) {i : Int32} {z : Tz} (hz : rootP P i = some z) : LyT S m ρ z := by
  have t := hP.tz (rootP_live hz)
  have h4 := t.h4 hP.1.1
  exact ⟨h.rep (rootP_live hz), t.2.2.1, h4.2.2, h4.1, t.hs, t.2.1⟩
set_option maxHeartbeats 4000000 in
set_option maxRecDepth 100000 in
theorem q_laysTwo {S : aw_S} {m ρ : Nat → Nat} (hM : LM S m) {z y : Tz} (lz0 : LyT S m ρ z) (ly0 : LyT S m ρ y) : aw_M yX11_laysTwo cX11_laysTwo 4 (none : Option FieldType) 8 0 0 [.ref (m 33), .int (nI (ρ z.2.1)), .int (nI (ρ y.2.1))] S (fun r S2 => r = none ∧ ThS S2 m (vTwo (ent z.1 z.2) (ent y.1 y.2)) ∧ frM S S2 m ksT [734, 735]) := by
  refine aw_enter (by decide +kernel) (Nat.le_of_ble_eq_true rfl) (fun g K EE => ?_)
  have hM0 := hM
  have loop : ∀ (n i : Nat) (x : Int32) (T : aw_S), x = nI i → i + n = 1000 → LM T m → frM S T m [26] [] → (∀ k, k < i → sA T (m 26) k = 0) → aw g 4 T 0 0 [(3, .int x), (2, .int (nI (ρ y.2.1))), (1, .int (nI (ρ z.2.1))), (0, .ref (m 33))] [] 2 := by
    intro n
    induction n with
    | zero =>
      intro i x T hx hn hM f h0
      subst hx
      refine a_iload_n K dX11_laysTwo_2 rfl ?_
      refine a_sipush K dX11_laysTwo_3 (v := 999) (by decide) ?_
      refine a_icmp_gt K dX11_laysTwo_6 (tgt := 22) (by decide) (fun c_6 => ?_) (fun c_6 => absurd c_6 (fun q => q (by rw [show i = 1000 by omega]; decide)))
      have lz := lz0.fr hM0 (f.up (by decide) (by decide))
      have ly := ly0.fr hM0 (f.up (by decide) (by decide))
      have tN := ThS_no (S := T) (m := m) (fun k hk => h0 k (by omega))
      first | refine a_aload_n K dX11_laysTwo_22 rfl ?_ | refine a_aload_nN K dX11_laysTwo_22 rfl ?_
      refine a_iload_n K dX11_laysTwo_23 rfl ?_
      refine a_iconst K dX11_laysTwo_24 (v := 0) (by decide) ?_
      rw [show (0 : Int32) = nI 0 from rfl]
      refine a_invV K (q_laysThere hM lz.1 lz.2.1 lz.2.2.1 lz.2.2.2.1 lz.2.2.2.2.1 lz.2.2.2.2.2 (w := 0) (V := noV) (by decide) tN (fun k => rfl)) my_X11_laysThere ml_X11_342 im_X11_laysThere se_X11_laysThere (ci := 11) (by exact lm_o hM) (by decide) ⟨_, _, rfl⟩ rfl (by omega) (by omega) (by omega) rfl (Nat.le_of_ble_eq_true rfl) dX11_laysTwo_25 ?_
      intro r9 U0 hp9
      obtain ⟨rfl, t0, g0⟩ := hp9
      have hM9 := hM
      have hM := g0.lay hM9
      first | refine a_aload_n K dX11_laysTwo_28 rfl ?_ | refine a_aload_nN K dX11_laysTwo_28 rfl ?_
      refine a_iload_n K dX11_laysTwo_29 rfl ?_
      refine a_iconst K dX11_laysTwo_30 (v := 1) (by decide) ?_
      rw [show (1 : Int32) = nI 1 from rfl]
      have ly := ly.fr hM9 g0
      refine a_invV K (q_laysThere hM ly.1 ly.2.1 ly.2.2.1 ly.2.2.2.1 ly.2.2.2.2.1 ly.2.2.2.2.2 (w := 1) (V := thU noV 0 (fun k => valIn (ent z.1 z.2) (nI k))) (by decide) t0 (fun k => rfl)) my_X11_laysThere ml_X11_342 im_X11_laysThere se_X11_laysThere (ci := 11) (by exact lm_o hM) (by decide) ⟨_, _, rfl⟩ rfl (by omega) (by omega) (by omega) rfl (Nat.le_of_ble_eq_true rfl) dX11_laysTwo_31 ?_
      intro r9 U1 hp9
      obtain ⟨rfl, t1, g1⟩ := hp9
      have hM9 := hM
      have hM := g1.lay hM9
      exact a_vret K EE (by omega) (by omega) dX11_laysTwo_34 ⟨rfl, t1, (f.up (by decide) (by decide)).tr (g0.tr g1)⟩
    | succ n ih =>
      intro i x T hx hn hM f h0
      subst hx
      refine a_iload_n K dX11_laysTwo_2 rfl ?_
      refine a_sipush K dX11_laysTwo_3 (v := 999) (by decide) ?_
      refine a_icmp_gt K dX11_laysTwo_6 (tgt := 22) (by decide) (fun c_6 => absurd c_6 ((Int32.not_lt.mpr (show nI i ≤ 999 from nI_le (b := 999) (by omega) (by decide))))) (fun c_6 => ?_)
      first | refine a_aload_n K dX11_laysTwo_9 rfl ?_ | refine a_aload_nN K dX11_laysTwo_9 rfl ?_
      refine a_getRs K fd_X11_95 (by exact lm_o hM) (Or.inr ⟨_, rfl⟩) (by exact lm_r749 hM) dX11_laysTwo_10 ?_
      refine a_iload_n K dX11_laysTwo_13 rfl ?_
      refine a_iconst K dX11_laysTwo_14 (v := 0) (by decide) ?_
      refine a_iast K (by exact lm_kk hM (by decide) (by decide)) (by show vp_in _ (sN T (m 26)); exact lm_ix (z := 1000) hM (by decide) (by decide) (show i < 1000 by omega) (by decide)) dX11_laysTwo_15 ?_
      rw [nI_clamp (by omega)]
      refine a_iinc K dX11_laysTwo_16 (v := 1) rfl (by decide) (by decide) ?_
      refine a_goto K dX11_laysTwo_19 (tgt := 2) (by decide) ?_
      obtain ⟨T3, hT3⟩ : ∃ T3, T3 = wA T (m 26) i 0 := ⟨_, rfl⟩
      rw [← hT3]
      have f3 : frM T T3 m [26] [] := by rw [hT3]; exact frM_wA (by decide)
      exact aw_locl rfl (ih (i + 1) _ T3 (nI_1 i) (by omega) (f3.lay hM) (f.tr f3) (fun k hk => by
        rw [hT3, sA_wA]
        by_cases c : k = i
        · rw [if_pos ⟨rfl, c⟩]
        · rw [if_neg (fun z => c z.2)]
          exact h0 k (by omega)))
  refine a_iconst K dX11_laysTwo_0 (v := 0) (by decide) ?_
  refine a_istore_n K dX11_laysTwo_1 (by decide) ?_
  exact aw_locl rfl (loop 1000 0 _ S nI_0.symm (Nat.zero_add _) hM frM.rf (fun k hk => absurd hk (Nat.not_lt_zero k)))
set_option maxHeartbeats 4000000 in
set_option maxRecDepth 100000 in
theorem q_isConflict {S : aw_S} {m : Nat → Nat} (hM : LM S m) {V : Nat → Nat → Int32} (hTh : ThS S m V) {q : Nat} (hq : q < 1000)  : aw_M yX11_isConflict cX11_isConflict 2 (some FieldType.boolean) 2 0 0 [.ref (m 33), .int (nI q)] S (fun r S2 => S2 = S ∧ bR (¬ V 2 q = V 0 q ∧ ¬ V 2 q = V 1 q ∧ ¬ V 1 q = V 0 q) r) := by
  refine aw_enter (by decide +kernel) (Nat.le_of_ble_eq_true rfl) (fun g K EE => ?_)
  by_cases h20 : V 2 q = V 0 q
  · first | refine a_aload_n K dX11_isConflict_0 rfl ?_ | refine a_aload_nN K dX11_isConflict_0 rfl ?_
    refine a_iload_n K dX11_isConflict_1 rfl ?_
    refine a_iconst K dX11_isConflict_2 (v := 2) (by decide) ?_
    refine a_iconst K dX11_isConflict_3 (v := 0) (by decide) ?_
    refine a_invV K (q_unlN hM hTh hq (a := 2) (b := 0) (by decide) (by decide) h20) my_X11_isUnlike ml_X11_362 im_X11_isUnlike se_X11_isUnlike (ci := 11) (by exact lm_o hM) (by decide) ⟨_, _, rfl⟩ rfl (by omega) (by omega) (by omega) rfl (Nat.le_of_ble_eq_true rfl) dX11_isConflict_4 ?_
    intro r9 S9 hp9
    obtain ⟨rfl, hS9⟩ := hp9
    obtain rfl := hS9.symm
    refine a_if_eq K dX11_isConflict_7 (tgt := 34) (by decide) (fun c_7 => ?_) (fun c_7 => absurd c_7 (fun z => z rfl))
    refine a_iconst K dX11_isConflict_34 (v := 0) (by decide) ?_
    exact a_iret K EE rfl (by omega) (by omega) dX11_isConflict_35 ⟨rfl, Or.inr ⟨fun z => z.1 h20, rfl⟩⟩
  by_cases h21 : V 2 q = V 1 q
  · first | refine a_aload_n K dX11_isConflict_0 rfl ?_ | refine a_aload_nN K dX11_isConflict_0 rfl ?_
    refine a_iload_n K dX11_isConflict_1 rfl ?_
    refine a_iconst K dX11_isConflict_2 (v := 2) (by decide) ?_
    refine a_iconst K dX11_isConflict_3 (v := 0) (by decide) ?_
    refine a_invV K (q_unlY hM hTh hq (a := 2) (b := 0) (by decide) (by decide) h20) my_X11_isUnlike ml_X11_362 im_X11_isUnlike se_X11_isUnlike (ci := 11) (by exact lm_o hM) (by decide) ⟨_, _, rfl⟩ rfl (by omega) (by omega) (by omega) rfl (Nat.le_of_ble_eq_true rfl) dX11_isConflict_4 ?_
    intro r9 S9 hp9
    obtain ⟨rfl, hS9⟩ := hp9
    obtain rfl := hS9.symm
    refine a_if_eq K dX11_isConflict_7 (tgt := 34) (by decide) (fun c_7 => absurd c_7 (by decide)) (fun c_7 => ?_)
    first | refine a_aload_n K dX11_isConflict_10 rfl ?_ | refine a_aload_nN K dX11_isConflict_10 rfl ?_
    refine a_iload_n K dX11_isConflict_11 rfl ?_
    refine a_iconst K dX11_isConflict_12 (v := 2) (by decide) ?_
    refine a_iconst K dX11_isConflict_13 (v := 1) (by decide) ?_
    refine a_invV K (q_unlN hM hTh hq (a := 2) (b := 1) (by decide) (by decide) h21) my_X11_isUnlike ml_X11_362 im_X11_isUnlike se_X11_isUnlike (ci := 11) (by exact lm_o hM) (by decide) ⟨_, _, rfl⟩ rfl (by omega) (by omega) (by omega) rfl (Nat.le_of_ble_eq_true rfl) dX11_isConflict_14 ?_
    intro r9 S9 hp9
    obtain ⟨rfl, hS9⟩ := hp9
    obtain rfl := hS9.symm
    refine a_if_eq K dX11_isConflict_17 (tgt := 34) (by decide) (fun c_17 => ?_) (fun c_17 => absurd c_17 (fun z => z rfl))
    refine a_iconst K dX11_isConflict_34 (v := 0) (by decide) ?_
    exact a_iret K EE rfl (by omega) (by omega) dX11_isConflict_35 ⟨rfl, Or.inr ⟨fun z => z.2.1 h21, rfl⟩⟩
  by_cases h10 : V 1 q = V 0 q
  · first | refine a_aload_n K dX11_isConflict_0 rfl ?_ | refine a_aload_nN K dX11_isConflict_0 rfl ?_
    refine a_iload_n K dX11_isConflict_1 rfl ?_
    refine a_iconst K dX11_isConflict_2 (v := 2) (by decide) ?_
    refine a_iconst K dX11_isConflict_3 (v := 0) (by decide) ?_
    refine a_invV K (q_unlY hM hTh hq (a := 2) (b := 0) (by decide) (by decide) h20) my_X11_isUnlike ml_X11_362 im_X11_isUnlike se_X11_isUnlike (ci := 11) (by exact lm_o hM) (by decide) ⟨_, _, rfl⟩ rfl (by omega) (by omega) (by omega) rfl (Nat.le_of_ble_eq_true rfl) dX11_isConflict_4 ?_
    intro r9 S9 hp9
    obtain ⟨rfl, hS9⟩ := hp9
    obtain rfl := hS9.symm
    refine a_if_eq K dX11_isConflict_7 (tgt := 34) (by decide) (fun c_7 => absurd c_7 (by decide)) (fun c_7 => ?_)
    first | refine a_aload_n K dX11_isConflict_10 rfl ?_ | refine a_aload_nN K dX11_isConflict_10 rfl ?_
    refine a_iload_n K dX11_isConflict_11 rfl ?_
    refine a_iconst K dX11_isConflict_12 (v := 2) (by decide) ?_
    refine a_iconst K dX11_isConflict_13 (v := 1) (by decide) ?_
    refine a_invV K (q_unlY hM hTh hq (a := 2) (b := 1) (by decide) (by decide) h21) my_X11_isUnlike ml_X11_362 im_X11_isUnlike se_X11_isUnlike (ci := 11) (by exact lm_o hM) (by decide) ⟨_, _, rfl⟩ rfl (by omega) (by omega) (by omega) rfl (Nat.le_of_ble_eq_true rfl) dX11_isConflict_14 ?_
    intro r9 S9 hp9
    obtain ⟨rfl, hS9⟩ := hp9
    obtain rfl := hS9.symm
    refine a_if_eq K dX11_isConflict_17 (tgt := 34) (by decide) (fun c_17 => absurd c_17 (by decide)) (fun c_17 => ?_)
    first | refine a_aload_n K dX11_isConflict_20 rfl ?_ | refine a_aload_nN K dX11_isConflict_20 rfl ?_
    refine a_iload_n K dX11_isConflict_21 rfl ?_
    refine a_iconst K dX11_isConflict_22 (v := 1) (by decide) ?_
    refine a_iconst K dX11_isConflict_23 (v := 0) (by decide) ?_
    refine a_invV K (q_unlN hM hTh hq (a := 1) (b := 0) (by decide) (by decide) h10) my_X11_isUnlike ml_X11_362 im_X11_isUnlike se_X11_isUnlike (ci := 11) (by exact lm_o hM) (by decide) ⟨_, _, rfl⟩ rfl (by omega) (by omega) (by omega) rfl (Nat.le_of_ble_eq_true rfl) dX11_isConflict_24 ?_
    intro r9 S9 hp9
    obtain ⟨rfl, hS9⟩ := hp9
    obtain rfl := hS9.symm
    refine a_if_eq K dX11_isConflict_27 (tgt := 34) (by decide) (fun c_27 => ?_) (fun c_27 => absurd c_27 (fun z => z rfl))
    refine a_iconst K dX11_isConflict_34 (v := 0) (by decide) ?_
    exact a_iret K EE rfl (by omega) (by omega) dX11_isConflict_35 ⟨rfl, Or.inr ⟨fun z => z.2.2 h10, rfl⟩⟩
  first | refine a_aload_n K dX11_isConflict_0 rfl ?_ | refine a_aload_nN K dX11_isConflict_0 rfl ?_
  refine a_iload_n K dX11_isConflict_1 rfl ?_
  refine a_iconst K dX11_isConflict_2 (v := 2) (by decide) ?_
  refine a_iconst K dX11_isConflict_3 (v := 0) (by decide) ?_
  refine a_invV K (q_unlY hM hTh hq (a := 2) (b := 0) (by decide) (by decide) h20) my_X11_isUnlike ml_X11_362 im_X11_isUnlike se_X11_isUnlike (ci := 11) (by exact lm_o hM) (by decide) ⟨_, _, rfl⟩ rfl (by omega) (by omega) (by omega) rfl (Nat.le_of_ble_eq_true rfl) dX11_isConflict_4 ?_
  intro r9 S9 hp9
  obtain ⟨rfl, hS9⟩ := hp9
  obtain rfl := hS9.symm
  refine a_if_eq K dX11_isConflict_7 (tgt := 34) (by decide) (fun c_7 => absurd c_7 (by decide)) (fun c_7 => ?_)
  first | refine a_aload_n K dX11_isConflict_10 rfl ?_ | refine a_aload_nN K dX11_isConflict_10 rfl ?_
  refine a_iload_n K dX11_isConflict_11 rfl ?_
  refine a_iconst K dX11_isConflict_12 (v := 2) (by decide) ?_
  refine a_iconst K dX11_isConflict_13 (v := 1) (by decide) ?_
  refine a_invV K (q_unlY hM hTh hq (a := 2) (b := 1) (by decide) (by decide) h21) my_X11_isUnlike ml_X11_362 im_X11_isUnlike se_X11_isUnlike (ci := 11) (by exact lm_o hM) (by decide) ⟨_, _, rfl⟩ rfl (by omega) (by omega) (by omega) rfl (Nat.le_of_ble_eq_true rfl) dX11_isConflict_14 ?_
  intro r9 S9 hp9
  obtain ⟨rfl, hS9⟩ := hp9
  obtain rfl := hS9.symm
  refine a_if_eq K dX11_isConflict_17 (tgt := 34) (by decide) (fun c_17 => absurd c_17 (by decide)) (fun c_17 => ?_)
  first | refine a_aload_n K dX11_isConflict_20 rfl ?_ | refine a_aload_nN K dX11_isConflict_20 rfl ?_
  refine a_iload_n K dX11_isConflict_21 rfl ?_
  refine a_iconst K dX11_isConflict_22 (v := 1) (by decide) ?_
  refine a_iconst K dX11_isConflict_23 (v := 0) (by decide) ?_
  refine a_invV K (q_unlY hM hTh hq (a := 1) (b := 0) (by decide) (by decide) h10) my_X11_isUnlike ml_X11_362 im_X11_isUnlike se_X11_isUnlike (ci := 11) (by exact lm_o hM) (by decide) ⟨_, _, rfl⟩ rfl (by omega) (by omega) (by omega) rfl (Nat.le_of_ble_eq_true rfl) dX11_isConflict_24 ?_
  intro r9 S9 hp9
  obtain ⟨rfl, hS9⟩ := hp9
  obtain rfl := hS9.symm
  refine a_if_eq K dX11_isConflict_27 (tgt := 34) (by decide) (fun c_27 => absurd c_27 (by decide)) (fun c_27 => ?_)
  refine a_iconst K dX11_isConflict_30 (v := 1) (by decide) ?_
  refine a_goto K dX11_isConflict_31 (tgt := 35) (by decide) ?_
  exact a_iret K EE rfl (by omega) (by omega) dX11_isConflict_35 ⟨rfl, Or.inl ⟨⟨h20, h21, h10⟩, rfl⟩⟩
/-- as which of the three a key is at the end -/
def asW (V : Nat → Nat → Int32) (q : Nat) (r : Int32) : Nat := if V 2 q = V 0 q ∨ V 2 q = V 1 q then 1 else if V 1 q = V 0 q then 2 else if r = 0 then 1 else if r = 1 then 2 else 0
theorem q_cflY {S : aw_S} {m : Nat → Nat} (hM : LM S m) {V : Nat → Nat → Int32} (hTh : ThS S m V) {q : Nat} (hq : q < 1000) (y : ¬ V 2 q = V 0 q ∧ ¬ V 2 q = V 1 q ∧ ¬ V 1 q = V 0 q) : aw_M yX11_isConflict cX11_isConflict 2 (some FieldType.boolean) 2 0 0 [.ref (m 33), .int (nI q)] S (fun r S2 => r = some (.int 1) ∧ S2 = S) := (q_isConflict hM hTh hq).post (fun r S2 hp => ⟨bR_y y hp.2, hp.1⟩)
theorem q_cflN {S : aw_S} {m : Nat → Nat} (hM : LM S m) {V : Nat → Nat → Int32} (hTh : ThS S m V) {q : Nat} (hq : q < 1000) (y : ¬ (¬ V 2 q = V 0 q ∧ ¬ V 2 q = V 1 q ∧ ¬ V 1 q = V 0 q)) : aw_M yX11_isConflict cX11_isConflict 2 (some FieldType.boolean) 2 0 0 [.ref (m 33), .int (nI q)] S (fun r S2 => r = some (.int 0) ∧ S2 = S) := (q_isConflict hM hTh hq).post (fun r S2 hp => ⟨bR_n y hp.2, hp.1⟩)
set_option maxHeartbeats 4000000 in
set_option maxRecDepth 100000 in
theorem q_asWhich {S : aw_S} {m : Nat → Nat} (hM : LM S m) {V : Nat → Nat → Int32} (hTh : ThS S m V) {q : Nat} (hq : q < 1000) {r : Int32} : aw_M yX11_asWhich cX11_asWhich 3 (some FieldType.int) 3 0 0 [.ref (m 33), .int (nI q), .int r] S (fun r2 S2 => r2 = some (.int (nI (asW V q r))) ∧ S2 = S) := by
  refine aw_enter (by decide +kernel) (Nat.le_of_ble_eq_true rfl) (fun g K EE => ?_)
  by_cases h20 : V 2 q = V 0 q
  · first | refine a_aload_n K dX11_asWhich_0 rfl ?_ | refine a_aload_nN K dX11_asWhich_0 rfl ?_
    refine a_iload_n K dX11_asWhich_1 rfl ?_
    refine a_iconst K dX11_asWhich_2 (v := 2) (by decide) ?_
    refine a_iconst K dX11_asWhich_3 (v := 0) (by decide) ?_
    refine a_invV K (q_unlN hM hTh hq (a := 2) (b := 0) (by decide) (by decide) h20) my_X11_isUnlike ml_X11_362 im_X11_isUnlike se_X11_isUnlike (ci := 11) (by exact lm_o hM) (by decide) ⟨_, _, rfl⟩ rfl (by omega) (by omega) (by omega) rfl (Nat.le_of_ble_eq_true rfl) dX11_asWhich_4 ?_
    intro r9 S9 hp9
    obtain ⟨rfl, hS9⟩ := hp9
    obtain rfl := hS9.symm
    refine a_if_eq K dX11_asWhich_7 (tgt := 20) (by decide) (fun c_7 => ?_) (fun c_7 => absurd c_7 (fun z => z rfl))
    refine a_iconst K dX11_asWhich_20 (v := 1) (by decide) ?_
    exact a_iret K EE rfl (by omega) (by omega) dX11_asWhich_21 ⟨by unfold asW; rw [if_pos (Or.inl h20)]; rfl, rfl⟩
  by_cases h21 : V 2 q = V 1 q
  · first | refine a_aload_n K dX11_asWhich_0 rfl ?_ | refine a_aload_nN K dX11_asWhich_0 rfl ?_
    refine a_iload_n K dX11_asWhich_1 rfl ?_
    refine a_iconst K dX11_asWhich_2 (v := 2) (by decide) ?_
    refine a_iconst K dX11_asWhich_3 (v := 0) (by decide) ?_
    refine a_invV K (q_unlY hM hTh hq (a := 2) (b := 0) (by decide) (by decide) h20) my_X11_isUnlike ml_X11_362 im_X11_isUnlike se_X11_isUnlike (ci := 11) (by exact lm_o hM) (by decide) ⟨_, _, rfl⟩ rfl (by omega) (by omega) (by omega) rfl (Nat.le_of_ble_eq_true rfl) dX11_asWhich_4 ?_
    intro r9 S9 hp9
    obtain ⟨rfl, hS9⟩ := hp9
    obtain rfl := hS9.symm
    refine a_if_eq K dX11_asWhich_7 (tgt := 20) (by decide) (fun c_7 => absurd c_7 (by decide)) (fun c_7 => ?_)
    first | refine a_aload_n K dX11_asWhich_10 rfl ?_ | refine a_aload_nN K dX11_asWhich_10 rfl ?_
    refine a_iload_n K dX11_asWhich_11 rfl ?_
    refine a_iconst K dX11_asWhich_12 (v := 2) (by decide) ?_
    refine a_iconst K dX11_asWhich_13 (v := 1) (by decide) ?_
    refine a_invV K (q_unlN hM hTh hq (a := 2) (b := 1) (by decide) (by decide) h21) my_X11_isUnlike ml_X11_362 im_X11_isUnlike se_X11_isUnlike (ci := 11) (by exact lm_o hM) (by decide) ⟨_, _, rfl⟩ rfl (by omega) (by omega) (by omega) rfl (Nat.le_of_ble_eq_true rfl) dX11_asWhich_14 ?_
    intro r9 S9 hp9
    obtain ⟨rfl, hS9⟩ := hp9
    obtain rfl := hS9.symm
    refine a_if_ne K dX11_asWhich_17 (tgt := 22) (by decide) (fun c_17 => absurd c_17 (fun z => z rfl)) (fun c_17 => ?_)
    refine a_iconst K dX11_asWhich_20 (v := 1) (by decide) ?_
    exact a_iret K EE rfl (by omega) (by omega) dX11_asWhich_21 ⟨by unfold asW; rw [if_pos (Or.inr h21)]; rfl, rfl⟩
  by_cases h10 : V 1 q = V 0 q
  · first | refine a_aload_n K dX11_asWhich_0 rfl ?_ | refine a_aload_nN K dX11_asWhich_0 rfl ?_
    refine a_iload_n K dX11_asWhich_1 rfl ?_
    refine a_iconst K dX11_asWhich_2 (v := 2) (by decide) ?_
    refine a_iconst K dX11_asWhich_3 (v := 0) (by decide) ?_
    refine a_invV K (q_unlY hM hTh hq (a := 2) (b := 0) (by decide) (by decide) h20) my_X11_isUnlike ml_X11_362 im_X11_isUnlike se_X11_isUnlike (ci := 11) (by exact lm_o hM) (by decide) ⟨_, _, rfl⟩ rfl (by omega) (by omega) (by omega) rfl (Nat.le_of_ble_eq_true rfl) dX11_asWhich_4 ?_
    intro r9 S9 hp9
    obtain ⟨rfl, hS9⟩ := hp9
    obtain rfl := hS9.symm
    refine a_if_eq K dX11_asWhich_7 (tgt := 20) (by decide) (fun c_7 => absurd c_7 (by decide)) (fun c_7 => ?_)
    first | refine a_aload_n K dX11_asWhich_10 rfl ?_ | refine a_aload_nN K dX11_asWhich_10 rfl ?_
    refine a_iload_n K dX11_asWhich_11 rfl ?_
    refine a_iconst K dX11_asWhich_12 (v := 2) (by decide) ?_
    refine a_iconst K dX11_asWhich_13 (v := 1) (by decide) ?_
    refine a_invV K (q_unlY hM hTh hq (a := 2) (b := 1) (by decide) (by decide) h21) my_X11_isUnlike ml_X11_362 im_X11_isUnlike se_X11_isUnlike (ci := 11) (by exact lm_o hM) (by decide) ⟨_, _, rfl⟩ rfl (by omega) (by omega) (by omega) rfl (Nat.le_of_ble_eq_true rfl) dX11_asWhich_14 ?_
    intro r9 S9 hp9
    obtain ⟨rfl, hS9⟩ := hp9
    obtain rfl := hS9.symm
    refine a_if_ne K dX11_asWhich_17 (tgt := 22) (by decide) (fun c_17 => ?_) (fun c_17 => absurd c_17 (by decide))
    first | refine a_aload_n K dX11_asWhich_22 rfl ?_ | refine a_aload_nN K dX11_asWhich_22 rfl ?_
    refine a_iload_n K dX11_asWhich_23 rfl ?_
    refine a_invV K (q_cflN hM hTh hq (fun z => z.2.2 h10)) my_X11_isConflict ml_X11_366 im_X11_isConflict se_X11_isConflict (ci := 11) (by exact lm_o hM) (by decide) ⟨_, _, rfl⟩ rfl (by omega) (by omega) (by omega) rfl (Nat.le_of_ble_eq_true rfl) dX11_asWhich_24 ?_
    intro r9 S9 hp9
    obtain ⟨rfl, hS9⟩ := hp9
    obtain rfl := hS9.symm
    refine a_if_ne K dX11_asWhich_27 (tgt := 32) (by decide) (fun c_27 => absurd c_27 (fun z => z rfl)) (fun c_27 => ?_)
    refine a_iconst K dX11_asWhich_30 (v := 2) (by decide) ?_
    exact a_iret K EE rfl (by omega) (by omega) dX11_asWhich_31 ⟨by unfold asW; rw [if_neg (fun z => z.elim h20 h21), if_pos h10]; rfl, rfl⟩
  by_cases h0 : r = 0
  · first | refine a_aload_n K dX11_asWhich_0 rfl ?_ | refine a_aload_nN K dX11_asWhich_0 rfl ?_
    refine a_iload_n K dX11_asWhich_1 rfl ?_
    refine a_iconst K dX11_asWhich_2 (v := 2) (by decide) ?_
    refine a_iconst K dX11_asWhich_3 (v := 0) (by decide) ?_
    refine a_invV K (q_unlY hM hTh hq (a := 2) (b := 0) (by decide) (by decide) h20) my_X11_isUnlike ml_X11_362 im_X11_isUnlike se_X11_isUnlike (ci := 11) (by exact lm_o hM) (by decide) ⟨_, _, rfl⟩ rfl (by omega) (by omega) (by omega) rfl (Nat.le_of_ble_eq_true rfl) dX11_asWhich_4 ?_
    intro r9 S9 hp9
    obtain ⟨rfl, hS9⟩ := hp9
    obtain rfl := hS9.symm
    refine a_if_eq K dX11_asWhich_7 (tgt := 20) (by decide) (fun c_7 => absurd c_7 (by decide)) (fun c_7 => ?_)
    first | refine a_aload_n K dX11_asWhich_10 rfl ?_ | refine a_aload_nN K dX11_asWhich_10 rfl ?_
    refine a_iload_n K dX11_asWhich_11 rfl ?_
    refine a_iconst K dX11_asWhich_12 (v := 2) (by decide) ?_
    refine a_iconst K dX11_asWhich_13 (v := 1) (by decide) ?_
    refine a_invV K (q_unlY hM hTh hq (a := 2) (b := 1) (by decide) (by decide) h21) my_X11_isUnlike ml_X11_362 im_X11_isUnlike se_X11_isUnlike (ci := 11) (by exact lm_o hM) (by decide) ⟨_, _, rfl⟩ rfl (by omega) (by omega) (by omega) rfl (Nat.le_of_ble_eq_true rfl) dX11_asWhich_14 ?_
    intro r9 S9 hp9
    obtain ⟨rfl, hS9⟩ := hp9
    obtain rfl := hS9.symm
    refine a_if_ne K dX11_asWhich_17 (tgt := 22) (by decide) (fun c_17 => ?_) (fun c_17 => absurd c_17 (by decide))
    first | refine a_aload_n K dX11_asWhich_22 rfl ?_ | refine a_aload_nN K dX11_asWhich_22 rfl ?_
    refine a_iload_n K dX11_asWhich_23 rfl ?_
    refine a_invV K (q_cflY hM hTh hq ⟨h20, h21, h10⟩) my_X11_isConflict ml_X11_366 im_X11_isConflict se_X11_isConflict (ci := 11) (by exact lm_o hM) (by decide) ⟨_, _, rfl⟩ rfl (by omega) (by omega) (by omega) rfl (Nat.le_of_ble_eq_true rfl) dX11_asWhich_24 ?_
    intro r9 S9 hp9
    obtain ⟨rfl, hS9⟩ := hp9
    obtain rfl := hS9.symm
    refine a_if_ne K dX11_asWhich_27 (tgt := 32) (by decide) (fun c_27 => ?_) (fun c_27 => absurd c_27 (by decide))
    refine a_iload_n K dX11_asWhich_32 rfl ?_
    refine a_if_ne K dX11_asWhich_33 (tgt := 40) (by decide) (fun c_33 => absurd c_33 (fun z => z h0)) (fun c_33 => ?_)
    refine a_iconst K dX11_asWhich_36 (v := 1) (by decide) ?_
    refine a_goto K dX11_asWhich_37 (tgt := 50) (by decide) ?_
    exact a_iret K EE rfl (by omega) (by omega) dX11_asWhich_50 ⟨by unfold asW; rw [if_neg (fun z => z.elim h20 h21), if_neg h10, if_pos h0]; rfl, rfl⟩
  by_cases h1 : r = 1
  · first | refine a_aload_n K dX11_asWhich_0 rfl ?_ | refine a_aload_nN K dX11_asWhich_0 rfl ?_
    refine a_iload_n K dX11_asWhich_1 rfl ?_
    refine a_iconst K dX11_asWhich_2 (v := 2) (by decide) ?_
    refine a_iconst K dX11_asWhich_3 (v := 0) (by decide) ?_
    refine a_invV K (q_unlY hM hTh hq (a := 2) (b := 0) (by decide) (by decide) h20) my_X11_isUnlike ml_X11_362 im_X11_isUnlike se_X11_isUnlike (ci := 11) (by exact lm_o hM) (by decide) ⟨_, _, rfl⟩ rfl (by omega) (by omega) (by omega) rfl (Nat.le_of_ble_eq_true rfl) dX11_asWhich_4 ?_
    intro r9 S9 hp9
    obtain ⟨rfl, hS9⟩ := hp9
    obtain rfl := hS9.symm
    refine a_if_eq K dX11_asWhich_7 (tgt := 20) (by decide) (fun c_7 => absurd c_7 (by decide)) (fun c_7 => ?_)
    first | refine a_aload_n K dX11_asWhich_10 rfl ?_ | refine a_aload_nN K dX11_asWhich_10 rfl ?_
    refine a_iload_n K dX11_asWhich_11 rfl ?_
    refine a_iconst K dX11_asWhich_12 (v := 2) (by decide) ?_
    refine a_iconst K dX11_asWhich_13 (v := 1) (by decide) ?_
    refine a_invV K (q_unlY hM hTh hq (a := 2) (b := 1) (by decide) (by decide) h21) my_X11_isUnlike ml_X11_362 im_X11_isUnlike se_X11_isUnlike (ci := 11) (by exact lm_o hM) (by decide) ⟨_, _, rfl⟩ rfl (by omega) (by omega) (by omega) rfl (Nat.le_of_ble_eq_true rfl) dX11_asWhich_14 ?_
    intro r9 S9 hp9
    obtain ⟨rfl, hS9⟩ := hp9
    obtain rfl := hS9.symm
    refine a_if_ne K dX11_asWhich_17 (tgt := 22) (by decide) (fun c_17 => ?_) (fun c_17 => absurd c_17 (by decide))
    first | refine a_aload_n K dX11_asWhich_22 rfl ?_ | refine a_aload_nN K dX11_asWhich_22 rfl ?_
    refine a_iload_n K dX11_asWhich_23 rfl ?_
    refine a_invV K (q_cflY hM hTh hq ⟨h20, h21, h10⟩) my_X11_isConflict ml_X11_366 im_X11_isConflict se_X11_isConflict (ci := 11) (by exact lm_o hM) (by decide) ⟨_, _, rfl⟩ rfl (by omega) (by omega) (by omega) rfl (Nat.le_of_ble_eq_true rfl) dX11_asWhich_24 ?_
    intro r9 S9 hp9
    obtain ⟨rfl, hS9⟩ := hp9
    obtain rfl := hS9.symm
    refine a_if_ne K dX11_asWhich_27 (tgt := 32) (by decide) (fun c_27 => ?_) (fun c_27 => absurd c_27 (by decide))
    refine a_iload_n K dX11_asWhich_32 rfl ?_
    refine a_if_ne K dX11_asWhich_33 (tgt := 40) (by decide) (fun c_33 => ?_) (fun c_33 => absurd c_33 (h0))
    refine a_iload_n K dX11_asWhich_40 rfl ?_
    refine a_iconst K dX11_asWhich_41 (v := 1) (by decide) ?_
    refine a_icmp_ne K dX11_asWhich_42 (tgt := 49) (by decide) (fun c_42 => absurd c_42 (fun z => z h1)) (fun c_42 => ?_)
    refine a_iconst K dX11_asWhich_45 (v := 2) (by decide) ?_
    refine a_goto K dX11_asWhich_46 (tgt := 50) (by decide) ?_
    exact a_iret K EE rfl (by omega) (by omega) dX11_asWhich_50 ⟨by unfold asW; rw [if_neg (fun z => z.elim h20 h21), if_neg h10, if_neg h0, if_pos h1]; rfl, rfl⟩
  first | refine a_aload_n K dX11_asWhich_0 rfl ?_ | refine a_aload_nN K dX11_asWhich_0 rfl ?_
  refine a_iload_n K dX11_asWhich_1 rfl ?_
  refine a_iconst K dX11_asWhich_2 (v := 2) (by decide) ?_
  refine a_iconst K dX11_asWhich_3 (v := 0) (by decide) ?_
  refine a_invV K (q_unlY hM hTh hq (a := 2) (b := 0) (by decide) (by decide) h20) my_X11_isUnlike ml_X11_362 im_X11_isUnlike se_X11_isUnlike (ci := 11) (by exact lm_o hM) (by decide) ⟨_, _, rfl⟩ rfl (by omega) (by omega) (by omega) rfl (Nat.le_of_ble_eq_true rfl) dX11_asWhich_4 ?_
  intro r9 S9 hp9
  obtain ⟨rfl, hS9⟩ := hp9
  obtain rfl := hS9.symm
  refine a_if_eq K dX11_asWhich_7 (tgt := 20) (by decide) (fun c_7 => absurd c_7 (by decide)) (fun c_7 => ?_)
  first | refine a_aload_n K dX11_asWhich_10 rfl ?_ | refine a_aload_nN K dX11_asWhich_10 rfl ?_
  refine a_iload_n K dX11_asWhich_11 rfl ?_
  refine a_iconst K dX11_asWhich_12 (v := 2) (by decide) ?_
  refine a_iconst K dX11_asWhich_13 (v := 1) (by decide) ?_
  refine a_invV K (q_unlY hM hTh hq (a := 2) (b := 1) (by decide) (by decide) h21) my_X11_isUnlike ml_X11_362 im_X11_isUnlike se_X11_isUnlike (ci := 11) (by exact lm_o hM) (by decide) ⟨_, _, rfl⟩ rfl (by omega) (by omega) (by omega) rfl (Nat.le_of_ble_eq_true rfl) dX11_asWhich_14 ?_
  intro r9 S9 hp9
  obtain ⟨rfl, hS9⟩ := hp9
  obtain rfl := hS9.symm
  refine a_if_ne K dX11_asWhich_17 (tgt := 22) (by decide) (fun c_17 => ?_) (fun c_17 => absurd c_17 (by decide))
  first | refine a_aload_n K dX11_asWhich_22 rfl ?_ | refine a_aload_nN K dX11_asWhich_22 rfl ?_
  refine a_iload_n K dX11_asWhich_23 rfl ?_
  refine a_invV K (q_cflY hM hTh hq ⟨h20, h21, h10⟩) my_X11_isConflict ml_X11_366 im_X11_isConflict se_X11_isConflict (ci := 11) (by exact lm_o hM) (by decide) ⟨_, _, rfl⟩ rfl (by omega) (by omega) (by omega) rfl (Nat.le_of_ble_eq_true rfl) dX11_asWhich_24 ?_
  intro r9 S9 hp9
  obtain ⟨rfl, hS9⟩ := hp9
  obtain rfl := hS9.symm
  refine a_if_ne K dX11_asWhich_27 (tgt := 32) (by decide) (fun c_27 => ?_) (fun c_27 => absurd c_27 (by decide))
  refine a_iload_n K dX11_asWhich_32 rfl ?_
  refine a_if_ne K dX11_asWhich_33 (tgt := 40) (by decide) (fun c_33 => ?_) (fun c_33 => absurd c_33 (h0))
  refine a_iload_n K dX11_asWhich_40 rfl ?_
  refine a_iconst K dX11_asWhich_41 (v := 1) (by decide) ?_
  refine a_icmp_ne K dX11_asWhich_42 (tgt := 49) (by decide) (fun c_42 => ?_) (fun c_42 => absurd c_42 (h1))
  refine a_iconst K dX11_asWhich_49 (v := 0) (by decide) ?_
  exact a_iret K EE rfl (by omega) (by omega) dX11_asWhich_50 ⟨by unfold asW; rw [if_neg (fun z => z.elim h20 h21), if_neg h10, if_neg h0, if_neg h1]; rfl, rfl⟩
set_option maxHeartbeats 4000000 in
set_option maxRecDepth 100000 in
theorem q_laysThree {S : aw_S} {m ρ : Nat → Nat} (hM : LM S m) {xx z y : Tz} {jb jm jo : Nat} (lx0 : LyT S m ρ xx) (lz0 : LyT S m ρ z) (ly0 : LyT S m ρ y) (hjb : jb < 999) (hjm : jm < 999) (hjo : jo < 999) (ex : sA S (m 17) jb = nI (ρ xx.2.1)) (ez : sA S (m 17) jm = nI (ρ z.2.1)) (ey : sA S (m 17) jo = nI (ρ y.2.1)) : aw_M yX11_laysThree cX11_laysThree 5 (none : Option FieldType) 8 0 0 [.ref (m 33), .int (nI jb), .int (nI jm), .int (nI jo)] S (fun r S2 => r = none ∧ ThS S2 m (vThr (ent xx.1 xx.2) (ent z.1 z.2) (ent y.1 y.2)) ∧ frM S S2 m ksT [734, 735]) := by
  refine aw_enter (by decide +kernel) (Nat.le_of_ble_eq_true rfl) (fun g K EE => ?_)
  have hM0 := hM
  have loop : ∀ (n i : Nat) (x : Int32) (T : aw_S), x = nI i → i + n = 1000 → LM T m → frM S T m [26] [] → (∀ k, k < i → sA T (m 26) k = 0) → aw g 5 T 0 0 [(4, .int x), (3, .int (nI jo)), (2, .int (nI jm)), (1, .int (nI jb)), (0, .ref (m 33))] [] 3 := by
    intro n
    induction n with
    | zero =>
      intro i x T hx hn hM f h0
      subst hx
      refine a_iload K dX11_laysThree_3 rfl ?_
      refine a_sipush K dX11_laysThree_5 (v := 999) (by decide) ?_
      refine a_icmp_gt K dX11_laysThree_8 (tgt := 25) (by decide) (fun c_8 => ?_) (fun c_8 => absurd c_8 (fun q => q (by rw [show i = 1000 by omega]; decide)))
      have lz := lz0.fr hM0 (f.up (by decide) (by decide))
      have ly := ly0.fr hM0 (f.up (by decide) (by decide))
      have lx := lx0.fr hM0 (f.up (by decide) (by decide))
      have tN := ThS_no (S := T) (m := m) (fun k hk => h0 k (by omega))
      have e17 : sA T (m 17) = sA S (m 17) := f.A hM0 (by decide) (by decide) (by decide)
      first | refine a_aload_n K dX11_laysThree_25 rfl ?_ | refine a_aload_nN K dX11_laysThree_25 rfl ?_
      first | refine a_aload_n K dX11_laysThree_26 rfl ?_ | refine a_aload_nN K dX11_laysThree_26 rfl ?_
      refine a_getRs K fd_X11_67 (by exact lm_o hM) (Or.inr ⟨_, rfl⟩) (by exact lm_r736 hM) dX11_laysThree_27 ?_
      refine a_iload_n K dX11_laysThree_30 rfl ?_
      refine a_iald K (by exact lm_kk hM (by decide) (by decide)) (by show vp_in _ (sN T (m 17)); exact lm_ix (z := 999) hM (by decide) (by decide) (show jb < 999 by omega) (by decide)) dX11_laysThree_31 ?_
      rw [nI_clamp (by omega)]
      rw [e17, ex]
      refine a_iconst K dX11_laysThree_32 (v := 0) (by decide) ?_
      rw [show (0 : Int32) = nI 0 from rfl]
      refine a_invV K (q_laysThere hM lx.1 lx.2.1 lx.2.2.1 lx.2.2.2.1 lx.2.2.2.2.1 lx.2.2.2.2.2 (w := 0) (V := noV) (by decide) tN (fun k => rfl)) my_X11_laysThere ml_X11_342 im_X11_laysThere se_X11_laysThere (ci := 11) (by exact lm_o hM) (by decide) ⟨_, _, rfl⟩ rfl (by omega) (by omega) (by omega) rfl (Nat.le_of_ble_eq_true rfl) dX11_laysThree_33 ?_
      intro r9 U0 hp9
      obtain ⟨rfl, t0, g0⟩ := hp9
      have hM9 := hM
      have hM := g0.lay hM9
      have lz := lz.fr hM9 g0
      have ly := ly.fr hM9 g0
      have e17a : sA U0 (m 17) = sA S (m 17) := (g0.A hM9 (by decide) (by decide) (by decide)).trans e17
      first | refine a_aload_n K dX11_laysThree_36 rfl ?_ | refine a_aload_nN K dX11_laysThree_36 rfl ?_
      first | refine a_aload_n K dX11_laysThree_37 rfl ?_ | refine a_aload_nN K dX11_laysThree_37 rfl ?_
      refine a_getRs K fd_X11_67 (by exact lm_o hM) (Or.inr ⟨_, rfl⟩) (by exact lm_r736 hM) dX11_laysThree_38 ?_
      refine a_iload_n K dX11_laysThree_41 rfl ?_
      refine a_iald K (by exact lm_kk hM (by decide) (by decide)) (by show vp_in _ (sN U0 (m 17)); exact lm_ix (z := 999) hM (by decide) (by decide) (show jm < 999 by omega) (by decide)) dX11_laysThree_42 ?_
      rw [nI_clamp (by omega)]
      rw [e17a, ez]
      refine a_iconst K dX11_laysThree_43 (v := 1) (by decide) ?_
      rw [show (1 : Int32) = nI 1 from rfl]
      refine a_invV K (q_laysThere hM lz.1 lz.2.1 lz.2.2.1 lz.2.2.2.1 lz.2.2.2.2.1 lz.2.2.2.2.2 (w := 1) (V := thU noV 0 (fun k => valIn (ent xx.1 xx.2) (nI k))) (by decide) t0 (fun k => rfl)) my_X11_laysThere ml_X11_342 im_X11_laysThere se_X11_laysThere (ci := 11) (by exact lm_o hM) (by decide) ⟨_, _, rfl⟩ rfl (by omega) (by omega) (by omega) rfl (Nat.le_of_ble_eq_true rfl) dX11_laysThree_44 ?_
      intro r9 U1 hp9
      obtain ⟨rfl, t1, g1⟩ := hp9
      have hM9 := hM
      have hM := g1.lay hM9
      have ly := ly.fr hM9 g1
      have e17b : sA U1 (m 17) = sA S (m 17) := (g1.A hM9 (by decide) (by decide) (by decide)).trans e17a
      first | refine a_aload_n K dX11_laysThree_47 rfl ?_ | refine a_aload_nN K dX11_laysThree_47 rfl ?_
      first | refine a_aload_n K dX11_laysThree_48 rfl ?_ | refine a_aload_nN K dX11_laysThree_48 rfl ?_
      refine a_getRs K fd_X11_67 (by exact lm_o hM) (Or.inr ⟨_, rfl⟩) (by exact lm_r736 hM) dX11_laysThree_49 ?_
      refine a_iload_n K dX11_laysThree_52 rfl ?_
      refine a_iald K (by exact lm_kk hM (by decide) (by decide)) (by show vp_in _ (sN U1 (m 17)); exact lm_ix (z := 999) hM (by decide) (by decide) (show jo < 999 by omega) (by decide)) dX11_laysThree_53 ?_
      rw [nI_clamp (by omega)]
      rw [e17b, ey]
      refine a_iconst K dX11_laysThree_54 (v := 2) (by decide) ?_
      rw [show (2 : Int32) = nI 2 from rfl]
      refine a_invV K (q_laysThere hM ly.1 ly.2.1 ly.2.2.1 ly.2.2.2.1 ly.2.2.2.2.1 ly.2.2.2.2.2 (w := 2) (V := thU (thU noV 0 (fun k => valIn (ent xx.1 xx.2) (nI k))) 1 (fun k => valIn (ent z.1 z.2) (nI k))) (by decide) t1 (fun k => rfl)) my_X11_laysThere ml_X11_342 im_X11_laysThere se_X11_laysThere (ci := 11) (by exact lm_o hM) (by decide) ⟨_, _, rfl⟩ rfl (by omega) (by omega) (by omega) rfl (Nat.le_of_ble_eq_true rfl) dX11_laysThree_55 ?_
      intro r9 U2 hp9
      obtain ⟨rfl, t2, g2⟩ := hp9
      have hM9 := hM
      have hM := g2.lay hM9
      exact a_vret K EE (by omega) (by omega) dX11_laysThree_58 ⟨rfl, t2, (f.up (by decide) (by decide)).tr (g0.tr (g1.tr g2))⟩
    | succ n ih =>
      intro i x T hx hn hM f h0
      subst hx
      refine a_iload K dX11_laysThree_3 rfl ?_
      refine a_sipush K dX11_laysThree_5 (v := 999) (by decide) ?_
      refine a_icmp_gt K dX11_laysThree_8 (tgt := 25) (by decide) (fun c_8 => absurd c_8 ((Int32.not_lt.mpr (show nI i ≤ 999 from nI_le (b := 999) (by omega) (by decide))))) (fun c_8 => ?_)
      first | refine a_aload_n K dX11_laysThree_11 rfl ?_ | refine a_aload_nN K dX11_laysThree_11 rfl ?_
      refine a_getRs K fd_X11_95 (by exact lm_o hM) (Or.inr ⟨_, rfl⟩) (by exact lm_r749 hM) dX11_laysThree_12 ?_
      refine a_iload K dX11_laysThree_15 rfl ?_
      refine a_iconst K dX11_laysThree_17 (v := 0) (by decide) ?_
      refine a_iast K (by exact lm_kk hM (by decide) (by decide)) (by show vp_in _ (sN T (m 26)); exact lm_ix (z := 1000) hM (by decide) (by decide) (show i < 1000 by omega) (by decide)) dX11_laysThree_18 ?_
      rw [nI_clamp (by omega)]
      refine a_iinc K dX11_laysThree_19 (v := 1) rfl (by decide) (by decide) ?_
      refine a_goto K dX11_laysThree_22 (tgt := 3) (by decide) ?_
      obtain ⟨T3, hT3⟩ : ∃ T3, T3 = wA T (m 26) i 0 := ⟨_, rfl⟩
      rw [← hT3]
      have f3 : frM T T3 m [26] [] := by rw [hT3]; exact frM_wA (by decide)
      exact aw_locl rfl (ih (i + 1) _ T3 (nI_1 i) (by omega) (f3.lay hM) (f.tr f3) (fun k hk => by
        rw [hT3, sA_wA]
        by_cases c : k = i
        · rw [if_pos ⟨rfl, c⟩]
        · rw [if_neg (fun z => c z.2)]
          exact h0 k (by omega)))
  refine a_iconst K dX11_laysThree_0 (v := 0) (by decide) ?_
  refine a_istore K dX11_laysThree_1 (by decide) ?_
  exact aw_locl rfl (loop 1000 0 _ S nI_0.symm (Nat.zero_add _) hM frM.rf (fun k hk => absurd hk (Nat.not_lt_zero k)))
set_option maxHeartbeats 4000000 in
set_option maxRecDepth 100000 in
theorem q_conflicts {S : aw_S} {m ρ : Nat → Nat} {Z : List Nat × Nat} {mb n9 : Nat} {P : PS} (h0 : RM S m ρ Z mb P) (hJ : PJ n9 P) {b i k : Int32} : aw_M yX11_conflicts cX11_conflicts 6 (some FieldType.int) 9 0 0 [.ref (m 33), .int b, .int i, .int k] S (fun r S2 => r = some (.int (aConf P b i k)) ∧ RM S2 m ρ Z mb P ∧ frS S S2 (mQ m)) := by
  have hP := hJ.1
  have hw3 := hP.1.1
  have hM := h0.1
  have hl9 := hJ.ln
  refine aw_enter (by decide +kernel) (Nat.le_of_ble_eq_true rfl) (fun g K EE => ?_)
  cases hx : rootP P b with
  | none =>
    first | refine a_aload_n K dX11_conflicts_0 rfl ?_ | refine a_aload_nN K dX11_conflicts_0 rfl ?_
    refine a_iconst K dX11_conflicts_1 (v := 0) (by decide) ?_
    refine a_putI K fd_X11_116 (by exact lm_o hM) rfl dX11_conflicts_2 ?_
    have f0 : frM S (wI S 704 (m 33) 0) m [] [704] := frM_wI (by decide) (by decide)
    obtain ⟨T, hT⟩ : ∃ T, T = wI S 704 (m 33) 0 := ⟨_, rfl⟩
    rw [← hT] at f0 ⊢
    obtain ⟨h, q0⟩ := h0.scr hP f0 (by decide) (by decide)
    have hM := h.1
    first | refine a_aload_n K dX11_conflicts_5 rfl ?_ | refine a_aload_nN K dX11_conflicts_5 rfl ?_
    refine a_iload_n K dX11_conflicts_6 rfl ?_
    refine a_invV K (q_mapN h hl9 hx) my_X11_isMap ml_X11_309 im_X11_isMap se_X11_isMap (ci := 11) (by exact lm_o hM) (by decide) ⟨_, _, rfl⟩ rfl (by omega) (by omega) (by omega) rfl (Nat.le_of_ble_eq_true rfl) dX11_conflicts_7 ?_
    intro r9 S9 hp9
    obtain ⟨rfl, hS9⟩ := hp9
    obtain rfl := hS9.symm
    refine a_if_eq K dX11_conflicts_10 (tgt := 29) (by decide) (fun c_10 => ?_) (fun c_10 => absurd c_10 (fun z => z rfl))
    refine a_iconst K dX11_conflicts_29 (v := -1) (by decide) ?_
    exact a_iret K EE rfl (by omega) (by omega) dX11_conflicts_30 ⟨by unfold aConf; rw [hx], h, q0⟩
  | some xx =>
    cases hz : rootP P i with
    | none =>
      first | refine a_aload_n K dX11_conflicts_0 rfl ?_ | refine a_aload_nN K dX11_conflicts_0 rfl ?_
      refine a_iconst K dX11_conflicts_1 (v := 0) (by decide) ?_
      refine a_putI K fd_X11_116 (by exact lm_o hM) rfl dX11_conflicts_2 ?_
      have f0 : frM S (wI S 704 (m 33) 0) m [] [704] := frM_wI (by decide) (by decide)
      obtain ⟨T, hT⟩ : ∃ T, T = wI S 704 (m 33) 0 := ⟨_, rfl⟩
      rw [← hT] at f0 ⊢
      obtain ⟨h, q0⟩ := h0.scr hP f0 (by decide) (by decide)
      have hM := h.1
      first | refine a_aload_n K dX11_conflicts_5 rfl ?_ | refine a_aload_nN K dX11_conflicts_5 rfl ?_
      refine a_iload_n K dX11_conflicts_6 rfl ?_
      refine a_invV K (q_mapY h hl9 hx) my_X11_isMap ml_X11_309 im_X11_isMap se_X11_isMap (ci := 11) (by exact lm_o hM) (by decide) ⟨_, _, rfl⟩ rfl (by omega) (by omega) (by omega) rfl (Nat.le_of_ble_eq_true rfl) dX11_conflicts_7 ?_
      intro r9 S9 hp9
      obtain ⟨rfl, hS9⟩ := hp9
      obtain rfl := hS9.symm
      refine a_if_eq K dX11_conflicts_10 (tgt := 29) (by decide) (fun c_10 => absurd c_10 (by decide)) (fun c_10 => ?_)
      first | refine a_aload_n K dX11_conflicts_13 rfl ?_ | refine a_aload_nN K dX11_conflicts_13 rfl ?_
      refine a_iload_n K dX11_conflicts_14 rfl ?_
      refine a_invV K (q_mapN h hl9 hz) my_X11_isMap ml_X11_309 im_X11_isMap se_X11_isMap (ci := 11) (by exact lm_o hM) (by decide) ⟨_, _, rfl⟩ rfl (by omega) (by omega) (by omega) rfl (Nat.le_of_ble_eq_true rfl) dX11_conflicts_15 ?_
      intro r9 S9 hp9
      obtain ⟨rfl, hS9⟩ := hp9
      obtain rfl := hS9.symm
      refine a_if_eq K dX11_conflicts_18 (tgt := 29) (by decide) (fun c_18 => ?_) (fun c_18 => absurd c_18 (fun z => z rfl))
      refine a_iconst K dX11_conflicts_29 (v := -1) (by decide) ?_
      exact a_iret K EE rfl (by omega) (by omega) dX11_conflicts_30 ⟨by unfold aConf; rw [hx, hz], h, q0⟩
    | some z =>
      cases hy : rootP P k with
      | none =>
        first | refine a_aload_n K dX11_conflicts_0 rfl ?_ | refine a_aload_nN K dX11_conflicts_0 rfl ?_
        refine a_iconst K dX11_conflicts_1 (v := 0) (by decide) ?_
        refine a_putI K fd_X11_116 (by exact lm_o hM) rfl dX11_conflicts_2 ?_
        have f0 : frM S (wI S 704 (m 33) 0) m [] [704] := frM_wI (by decide) (by decide)
        obtain ⟨T, hT⟩ : ∃ T, T = wI S 704 (m 33) 0 := ⟨_, rfl⟩
        rw [← hT] at f0 ⊢
        obtain ⟨h, q0⟩ := h0.scr hP f0 (by decide) (by decide)
        have hM := h.1
        first | refine a_aload_n K dX11_conflicts_5 rfl ?_ | refine a_aload_nN K dX11_conflicts_5 rfl ?_
        refine a_iload_n K dX11_conflicts_6 rfl ?_
        refine a_invV K (q_mapY h hl9 hx) my_X11_isMap ml_X11_309 im_X11_isMap se_X11_isMap (ci := 11) (by exact lm_o hM) (by decide) ⟨_, _, rfl⟩ rfl (by omega) (by omega) (by omega) rfl (Nat.le_of_ble_eq_true rfl) dX11_conflicts_7 ?_
        intro r9 S9 hp9
        obtain ⟨rfl, hS9⟩ := hp9
        obtain rfl := hS9.symm
        refine a_if_eq K dX11_conflicts_10 (tgt := 29) (by decide) (fun c_10 => absurd c_10 (by decide)) (fun c_10 => ?_)
        first | refine a_aload_n K dX11_conflicts_13 rfl ?_ | refine a_aload_nN K dX11_conflicts_13 rfl ?_
        refine a_iload_n K dX11_conflicts_14 rfl ?_
        refine a_invV K (q_mapY h hl9 hz) my_X11_isMap ml_X11_309 im_X11_isMap se_X11_isMap (ci := 11) (by exact lm_o hM) (by decide) ⟨_, _, rfl⟩ rfl (by omega) (by omega) (by omega) rfl (Nat.le_of_ble_eq_true rfl) dX11_conflicts_15 ?_
        intro r9 S9 hp9
        obtain ⟨rfl, hS9⟩ := hp9
        obtain rfl := hS9.symm
        refine a_if_eq K dX11_conflicts_18 (tgt := 29) (by decide) (fun c_18 => absurd c_18 (by decide)) (fun c_18 => ?_)
        first | refine a_aload_n K dX11_conflicts_21 rfl ?_ | refine a_aload_nN K dX11_conflicts_21 rfl ?_
        refine a_iload_n K dX11_conflicts_22 rfl ?_
        refine a_invV K (q_mapN h hl9 hy) my_X11_isMap ml_X11_309 im_X11_isMap se_X11_isMap (ci := 11) (by exact lm_o hM) (by decide) ⟨_, _, rfl⟩ rfl (by omega) (by omega) (by omega) rfl (Nat.le_of_ble_eq_true rfl) dX11_conflicts_23 ?_
        intro r9 S9 hp9
        obtain ⟨rfl, hS9⟩ := hp9
        obtain rfl := hS9.symm
        refine a_if_ne K dX11_conflicts_26 (tgt := 31) (by decide) (fun c_26 => absurd c_26 (fun z => z rfl)) (fun c_26 => ?_)
        refine a_iconst K dX11_conflicts_29 (v := -1) (by decide) ?_
        exact a_iret K EE rfl (by omega) (by omega) dX11_conflicts_30 ⟨by unfold aConf; rw [hx, hz, hy], h, q0⟩
      | some y =>
        obtain ⟨jb, hijb, hjb, -⟩ := h0.root hx
        subst hijb
        obtain ⟨jm, hijm, hjm, -⟩ := h0.root hz
        subst hijm
        obtain ⟨jo, hijo, hjo, -⟩ := h0.root hy
        subst hijo
        first | refine a_aload_n K dX11_conflicts_0 rfl ?_ | refine a_aload_nN K dX11_conflicts_0 rfl ?_
        refine a_iconst K dX11_conflicts_1 (v := 0) (by decide) ?_
        refine a_putI K fd_X11_116 (by exact lm_o hM) rfl dX11_conflicts_2 ?_
        have f0 : frM S (wI S 704 (m 33) 0) m [] [704] := frM_wI (by decide) (by decide)
        obtain ⟨T, hT⟩ : ∃ T, T = wI S 704 (m 33) 0 := ⟨_, rfl⟩
        rw [← hT] at f0 ⊢
        obtain ⟨h, q0⟩ := h0.scr hP f0 (by decide) (by decide)
        have hM := h.1
        first | refine a_aload_n K dX11_conflicts_5 rfl ?_ | refine a_aload_nN K dX11_conflicts_5 rfl ?_
        refine a_iload_n K dX11_conflicts_6 rfl ?_
        refine a_invV K (q_mapY h hl9 hx) my_X11_isMap ml_X11_309 im_X11_isMap se_X11_isMap (ci := 11) (by exact lm_o hM) (by decide) ⟨_, _, rfl⟩ rfl (by omega) (by omega) (by omega) rfl (Nat.le_of_ble_eq_true rfl) dX11_conflicts_7 ?_
        intro r9 S9 hp9
        obtain ⟨rfl, hS9⟩ := hp9
        obtain rfl := hS9.symm
        refine a_if_eq K dX11_conflicts_10 (tgt := 29) (by decide) (fun c_10 => absurd c_10 (by decide)) (fun c_10 => ?_)
        first | refine a_aload_n K dX11_conflicts_13 rfl ?_ | refine a_aload_nN K dX11_conflicts_13 rfl ?_
        refine a_iload_n K dX11_conflicts_14 rfl ?_
        refine a_invV K (q_mapY h hl9 hz) my_X11_isMap ml_X11_309 im_X11_isMap se_X11_isMap (ci := 11) (by exact lm_o hM) (by decide) ⟨_, _, rfl⟩ rfl (by omega) (by omega) (by omega) rfl (Nat.le_of_ble_eq_true rfl) dX11_conflicts_15 ?_
        intro r9 S9 hp9
        obtain ⟨rfl, hS9⟩ := hp9
        obtain rfl := hS9.symm
        refine a_if_eq K dX11_conflicts_18 (tgt := 29) (by decide) (fun c_18 => absurd c_18 (by decide)) (fun c_18 => ?_)
        first | refine a_aload_n K dX11_conflicts_21 rfl ?_ | refine a_aload_nN K dX11_conflicts_21 rfl ?_
        refine a_iload_n K dX11_conflicts_22 rfl ?_
        refine a_invV K (q_mapY h hl9 hy) my_X11_isMap ml_X11_309 im_X11_isMap se_X11_isMap (ci := 11) (by exact lm_o hM) (by decide) ⟨_, _, rfl⟩ rfl (by omega) (by omega) (by omega) rfl (Nat.le_of_ble_eq_true rfl) dX11_conflicts_23 ?_
        intro r9 S9 hp9
        obtain ⟨rfl, hS9⟩ := hp9
        obtain rfl := hS9.symm
        refine a_if_ne K dX11_conflicts_26 (tgt := 31) (by decide) (fun c_26 => ?_) (fun c_26 => absurd c_26 (by decide))
        first | refine a_aload_n K dX11_conflicts_31 rfl ?_ | refine a_aload_nN K dX11_conflicts_31 rfl ?_
        refine a_iload_n K dX11_conflicts_32 rfl ?_
        refine a_iload_n K dX11_conflicts_33 rfl ?_
        refine a_iload_n K dX11_conflicts_34 rfl ?_
        refine a_invV K (q_laysThree hM (LyT_of h hP hx) (LyT_of h hP hz) (LyT_of h hP hy) (by omega) (by omega) (by omega) (h.root2 hx (by omega)) (h.root2 hz (by omega)) (h.root2 hy (by omega))) my_X11_laysThree ml_X11_371 im_X11_laysThree se_X11_laysThree (ci := 11) (by exact lm_o hM) (by decide) ⟨_, _, rfl⟩ rfl (by omega) (by omega) (by omega) rfl (Nat.le_of_ble_eq_true rfl) dX11_conflicts_35 ?_
        intro r9 S9 hp9
        obtain ⟨rfl, hTh, f9⟩ := hp9
        obtain ⟨h9, q9⟩ := h.scr hP f9 (by decide) (by decide)
        have hM := h9.1
        refine a_iconst K dX11_conflicts_38 (v := 0) (by decide) ?_
        refine a_istore K dX11_conflicts_39 (by decide) ?_
        refine a_iconst K dX11_conflicts_41 (v := 0) (by decide) ?_
        refine a_istore K dX11_conflicts_42 (by decide) ?_
        obtain ⟨R, hRR⟩ : ∃ R, cntU (cfl (ent z.1 z.2) (ent xx.1 xx.2) (ent y.1 y.2)) 1000 0 = R := ⟨_, rfl⟩
        have loop : ∀ (n i a : Nat) (x c : Int32), x = nI i → c = nI a → i + n = 1000 → a ≤ i → cntU (cfl (ent z.1 z.2) (ent xx.1 xx.2) (ent y.1 y.2)) n a = R → aw g 6 S9 0 0 [(5, .int x), (4, .int c), (0, .ref (m 33))] [] 44 := by
          intro n
          induction n with
          | zero =>
            intro i a x c hx9 hc hn ha hR
            subst hx9
            subst hc
            refine a_iload K dX11_conflicts_44 rfl ?_
            refine a_sipush K dX11_conflicts_46 (v := 999) (by decide) ?_
            refine a_icmp_gt K dX11_conflicts_49 (tgt := 77) (by decide) (fun c_49 => ?_) (fun c_49 => absurd c_49 (fun q => q (by rw [show i = 1000 by omega]; decide)))
            refine a_iload K dX11_conflicts_77 rfl ?_
            exact a_iret K EE rfl (by omega) (by omega) dX11_conflicts_79 ⟨by unfold aConf; rw [hx, hz, hy]; show some (Value.int (nI a)) = some (Value.int (nI _)); rw [hRR, ← hR]; rfl, h9, mQ_tr q0 q9⟩
          | succ n ih =>
            intro i a x c hx9 hc hn ha hR
            subst hx9
            subst hc
            by_cases hcf : cflP (ent z.1 z.2) (ent xx.1 xx.2) (ent y.1 y.2) (nI i)
            · refine a_iload K dX11_conflicts_44 rfl ?_
              refine a_sipush K dX11_conflicts_46 (v := 999) (by decide) ?_
              refine a_icmp_gt K dX11_conflicts_49 (tgt := 77) (by decide) (fun c_49 => absurd c_49 ((Int32.not_lt.mpr (show nI i ≤ 999 from nI_le (b := 999) (by omega) (by decide))))) (fun c_49 => ?_)
              refine a_iload K dX11_conflicts_52 rfl ?_
              first | refine a_aload_n K dX11_conflicts_54 rfl ?_ | refine a_aload_nN K dX11_conflicts_54 rfl ?_
              refine a_iload K dX11_conflicts_55 rfl ?_
              refine a_invV K (q_cflY hM hTh (q := i) (by omega) ⟨hcf.1.1, hcf.1.2, hcf.2⟩) my_X11_isConflict ml_X11_366 im_X11_isConflict se_X11_isConflict (ci := 11) (by exact lm_o hM) (by decide) ⟨_, _, rfl⟩ rfl (by omega) (by omega) (by omega) rfl (Nat.le_of_ble_eq_true rfl) dX11_conflicts_57 ?_
              intro r8 S8 hp8
              obtain ⟨rfl, hS8⟩ := hp8
              obtain rfl := hS8.symm
              refine a_if_eq K dX11_conflicts_60 (tgt := 67) (by decide) (fun c_60 => absurd c_60 (by decide)) (fun c_60 => ?_)
              refine a_iconst K dX11_conflicts_63 (v := 1) (by decide) ?_
              refine a_goto K dX11_conflicts_64 (tgt := 68) (by decide) ?_
              refine a_iadd K dX11_conflicts_68 ?_
              rw [nI_1]
              refine a_istore K dX11_conflicts_69 (by decide) ?_
              refine a_iinc K dX11_conflicts_71 (v := 1) rfl (by decide) (by decide) ?_
              refine a_goto K dX11_conflicts_74 (tgt := 44) (by decide) ?_
              exact aw_locl rfl (ih (i + 1) (a + 1) _ _ (nI_1 i) rfl (by omega) (by omega) (by rw [cntU, show 999 - n = i by omega] at hR; rw [if_pos (show cfl (ent z.1 z.2) (ent xx.1 xx.2) (ent y.1 y.2) i = true from decide_eq_true hcf)] at hR; exact hR))
            · refine a_iload K dX11_conflicts_44 rfl ?_
              refine a_sipush K dX11_conflicts_46 (v := 999) (by decide) ?_
              refine a_icmp_gt K dX11_conflicts_49 (tgt := 77) (by decide) (fun c_49 => absurd c_49 ((Int32.not_lt.mpr (show nI i ≤ 999 from nI_le (b := 999) (by omega) (by decide))))) (fun c_49 => ?_)
              refine a_iload K dX11_conflicts_52 rfl ?_
              first | refine a_aload_n K dX11_conflicts_54 rfl ?_ | refine a_aload_nN K dX11_conflicts_54 rfl ?_
              refine a_iload K dX11_conflicts_55 rfl ?_
              refine a_invV K (q_cflN hM hTh (q := i) (by omega) (fun z => hcf ⟨⟨z.1, z.2.1⟩, z.2.2⟩)) my_X11_isConflict ml_X11_366 im_X11_isConflict se_X11_isConflict (ci := 11) (by exact lm_o hM) (by decide) ⟨_, _, rfl⟩ rfl (by omega) (by omega) (by omega) rfl (Nat.le_of_ble_eq_true rfl) dX11_conflicts_57 ?_
              intro r8 S8 hp8
              obtain ⟨rfl, hS8⟩ := hp8
              obtain rfl := hS8.symm
              refine a_if_eq K dX11_conflicts_60 (tgt := 67) (by decide) (fun c_60 => ?_) (fun c_60 => absurd c_60 (fun z => z rfl))
              refine a_iconst K dX11_conflicts_67 (v := 0) (by decide) ?_
              refine a_iadd K dX11_conflicts_68 ?_
              rw [Int32.add_zero]
              refine a_istore K dX11_conflicts_69 (by decide) ?_
              refine a_iinc K dX11_conflicts_71 (v := 1) rfl (by decide) (by decide) ?_
              refine a_goto K dX11_conflicts_74 (tgt := 44) (by decide) ?_
              exact aw_locl rfl (ih (i + 1) a _ _ (nI_1 i) rfl (by omega) (by omega) (by rw [cntU, show 999 - n = i by omega] at hR; rw [if_neg (show ¬ cfl (ent z.1 z.2) (ent xx.1 xx.2) (ent y.1 y.2) i = true from fun w => hcf (of_decide_eq_true w))] at hR; exact hR))
        exact aw_locl rfl (loop 1000 0 0 _ _ nI_0.symm nI_0.symm (Nat.zero_add _) (Nat.le_refl _) hRR)
theorem ent_ext {w u tk w2 u2 tk2 : Nat} {z y : Tz} (tz : tok w u tk z) (ty : tok w2 u2 tk2 y) (h : ∀ k, k < 1000 → valIn (ent z.1 z.2) (nI k) = valIn (ent y.1 y.2) (nI k)) : ent z.1 z.2 = ent y.1 y.2 := by
  refine srt_ext tz.hs ty.hs (fun x hx => okE_ne (tz.2.1 x hx)) (fun x hx => okE_ne (ty.2.1 x hx)) (fun k => ?_)
  by_cases hk : ∃ n, n < 1000 ∧ k = nI n
  · obtain ⟨n, hn, e⟩ := hk
    rw [e]
    exact h n hn
  · have no : ∀ E : List KV, (∀ x ∈ E, okE x) → valIn E k = -1000000 := fun E hE => valIn_none (fun x hx e => hk (by
      obtain ⟨⟨n, hn, e9⟩, -⟩ := hE x hx
      exact ⟨n, hn, by rw [← e]; exact e9⟩))
    rw [no _ tz.2.1, no _ ty.2.1]
set_option maxHeartbeats 4000000 in
set_option maxRecDepth 100000 in
theorem q_holdSame {S : aw_S} {m ρ : Nat → Nat} {Z : List Nat × Nat} {mb : Nat} {P : PS} (h : RM S m ρ Z mb P) (hP : PI P) {jm jo : Nat} {z y : Tz} (hjm : jm < 999) (hjo : jo < 999) (hz : rootP P (nI jm) = some z) (hy : rootP P (nI jo) = some y) : aw_M yX11_holdSame cX11_holdSame 4 (some FieldType.boolean) 9 0 0 [.ref (m 33), .int (nI jm), .int (nI jo)] S (fun r S2 => bR (ent z.1 z.2 = ent y.1 y.2) r ∧ RM S2 m ρ Z mb P ∧ frS S S2 (mQ m)) := by
  have hM := h.1
  have tz := hP.tz (rootP_live hz)
  have ty := hP.tz (rootP_live hy)
  refine aw_enter (by decide +kernel) (Nat.le_of_ble_eq_true rfl) (fun g K EE => ?_)
  first | refine a_aload_n K dX11_holdSame_0 rfl ?_ | refine a_aload_nN K dX11_holdSame_0 rfl ?_
  first | refine a_aload_n K dX11_holdSame_1 rfl ?_ | refine a_aload_nN K dX11_holdSame_1 rfl ?_
  refine a_getRs K fd_X11_67 (by exact lm_o hM) (Or.inr ⟨_, rfl⟩) (by exact lm_r736 hM) dX11_holdSame_2 ?_
  refine a_iload_n K dX11_holdSame_5 rfl ?_
  refine a_iald K (by exact lm_kk hM (by decide) (by decide)) (by show vp_in _ (sN S (m 17)); exact lm_ix (z := 999) hM (by decide) (by decide) (show jm < 999 by omega) (by decide)) dX11_holdSame_6 ?_
  rw [nI_clamp (by omega)]
  rw [h.root2 hz (by omega)]
  first | refine a_aload_n K dX11_holdSame_7 rfl ?_ | refine a_aload_nN K dX11_holdSame_7 rfl ?_
  refine a_getRs K fd_X11_67 (by exact lm_o hM) (Or.inr ⟨_, rfl⟩) (by exact lm_r736 hM) dX11_holdSame_8 ?_
  refine a_iload_n K dX11_holdSame_11 rfl ?_
  refine a_iald K (by exact lm_kk hM (by decide) (by decide)) (by show vp_in _ (sN S (m 17)); exact lm_ix (z := 999) hM (by decide) (by decide) (show jo < 999 by omega) (by decide)) dX11_holdSame_12 ?_
  rw [nI_clamp (by omega)]
  rw [h.root2 hy (by omega)]
  refine a_invV K (q_laysTwo hM (LyT_of h hP hz) (LyT_of h hP hy)) my_X11_laysTwo ml_X11_356 im_X11_laysTwo se_X11_laysTwo (ci := 11) (by exact lm_o hM) (by decide) ⟨_, _, rfl⟩ rfl (by omega) (by omega) (by omega) rfl (Nat.le_of_ble_eq_true rfl) dX11_holdSame_13 ?_
  intro r9 S9 hp9
  obtain ⟨rfl, hTh, f9⟩ := hp9
  obtain ⟨h9, q9⟩ := h.scr hP f9 (by decide) (by decide)
  have hM := h9.1
  refine a_iconst K dX11_holdSame_16 (v := 0) (by decide) ?_
  refine a_istore_n K dX11_holdSame_17 (by decide) ?_
  have loop : ∀ (n i : Nat) (x : Int32), x = nI i → i + n = 1000 → (∀ k, k < i → valIn (ent z.1 z.2) (nI k) = valIn (ent y.1 y.2) (nI k)) → aw g 4 S9 0 0 [(3, .int x), (0, .ref (m 33))] [] 18 := by
    intro n
    induction n with
    | zero =>
      intro i x hx9 hn hA
      subst hx9
      refine a_iload_n K dX11_holdSame_18 rfl ?_
      refine a_sipush K dX11_holdSame_19 (v := 999) (by decide) ?_
      refine a_icmp_gt K dX11_holdSame_22 (tgt := 43) (by decide) (fun c_22 => ?_) (fun c_22 => absurd c_22 (fun q => q (by rw [show i = 1000 by omega]; decide)))
      refine a_iconst K dX11_holdSame_43 (v := 1) (by decide) ?_
      exact a_iret K EE rfl (by omega) (by omega) dX11_holdSame_44 ⟨Or.inl ⟨ent_ext tz ty (fun k hk => hA k (by omega)), rfl⟩, h9, q9⟩
    | succ n ih =>
      intro i x hx9 hn hA
      subst hx9
      by_cases e : valIn (ent z.1 z.2) (nI i) = valIn (ent y.1 y.2) (nI i)
      · refine a_iload_n K dX11_holdSame_18 rfl ?_
        refine a_sipush K dX11_holdSame_19 (v := 999) (by decide) ?_
        refine a_icmp_gt K dX11_holdSame_22 (tgt := 43) (by decide) (fun c_22 => absurd c_22 ((Int32.not_lt.mpr (show nI i ≤ 999 from nI_le (b := 999) (by omega) (by decide))))) (fun c_22 => ?_)
        first | refine a_aload_n K dX11_holdSame_25 rfl ?_ | refine a_aload_nN K dX11_holdSame_25 rfl ?_
        refine a_iload_n K dX11_holdSame_26 rfl ?_
        refine a_iconst K dX11_holdSame_27 (v := 0) (by decide) ?_
        refine a_iconst K dX11_holdSame_28 (v := 1) (by decide) ?_
        refine a_invV K (q_unlN hM hTh (q := i) (by omega) (a := 0) (b := 1) (by decide) (by decide) e) my_X11_isUnlike ml_X11_362 im_X11_isUnlike se_X11_isUnlike (ci := 11) (by exact lm_o hM) (by decide) ⟨_, _, rfl⟩ rfl (by omega) (by omega) (by omega) rfl (Nat.le_of_ble_eq_true rfl) dX11_holdSame_29 ?_
        intro r8 S8 hp8
        obtain ⟨rfl, hS8⟩ := hp8
        obtain rfl := hS8.symm
        refine a_if_eq K dX11_holdSame_32 (tgt := 37) (by decide) (fun c_32 => ?_) (fun c_32 => absurd c_32 (fun q => q rfl))
        refine a_iinc K dX11_holdSame_37 (v := 1) rfl (by decide) (by decide) ?_
        refine a_goto K dX11_holdSame_40 (tgt := 18) (by decide) ?_
        exact aw_locl rfl (ih (i + 1) _ (nI_1 i) (by omega) (fun k hk => if c : k = i then (by rw [c]; exact e) else hA k (by omega)))
      · refine a_iload_n K dX11_holdSame_18 rfl ?_
        refine a_sipush K dX11_holdSame_19 (v := 999) (by decide) ?_
        refine a_icmp_gt K dX11_holdSame_22 (tgt := 43) (by decide) (fun c_22 => absurd c_22 ((Int32.not_lt.mpr (show nI i ≤ 999 from nI_le (b := 999) (by omega) (by decide))))) (fun c_22 => ?_)
        first | refine a_aload_n K dX11_holdSame_25 rfl ?_ | refine a_aload_nN K dX11_holdSame_25 rfl ?_
        refine a_iload_n K dX11_holdSame_26 rfl ?_
        refine a_iconst K dX11_holdSame_27 (v := 0) (by decide) ?_
        refine a_iconst K dX11_holdSame_28 (v := 1) (by decide) ?_
        refine a_invV K (q_unlY hM hTh (q := i) (by omega) (a := 0) (b := 1) (by decide) (by decide) e) my_X11_isUnlike ml_X11_362 im_X11_isUnlike se_X11_isUnlike (ci := 11) (by exact lm_o hM) (by decide) ⟨_, _, rfl⟩ rfl (by omega) (by omega) (by omega) rfl (Nat.le_of_ble_eq_true rfl) dX11_holdSame_29 ?_
        intro r8 S8 hp8
        obtain ⟨rfl, hS8⟩ := hp8
        obtain rfl := hS8.symm
        refine a_if_eq K dX11_holdSame_32 (tgt := 37) (by decide) (fun c_32 => absurd c_32 (by decide)) (fun c_32 => ?_)
        refine a_iconst K dX11_holdSame_35 (v := 0) (by decide) ?_
        exact a_iret K EE rfl (by omega) (by omega) dX11_holdSame_36 ⟨Or.inr ⟨fun q => e (by rw [q]), rfl⟩, h9, q9⟩
  exact aw_locl rfl (loop 1000 0 _ nI_0.symm (Nat.zero_add _) (fun k hk => absurd hk (Nat.not_lt_zero k)))
