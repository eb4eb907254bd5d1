/-! text: a map or a program told -/
def txtF (P : PS) (w : Int32) : Int32 × PS := if w = 0 then txtM P else if w = 1 then txtP P else (-1, P)
set_option maxHeartbeats 4000000 in
set_option maxRecDepth 100000 in
theorem c_text {S : aw_S} {v ad ar : Nat → Nat} {PA : List (Nat × Nat)} {X : List Nat} {mb : Nat} {P : PS} (h : RC S v ad ar PA X mb P) (hP : PI P) {w : Int32} : aw_M yX10_text cX10_text 2 (some FieldType.int) 13 842 7999 [.ref (v 4), .int w] S (mutR X v mb S (txtF P w)) := by
  have hL := h.L
  have o10 := lw_i4 hL
  by_cases hw0 : w = 0
  · subst hw0
    refine aw_enter (by decide +kernel) (Nat.le_of_ble_eq_true rfl) (fun g K EE => ?_)
    refine a_iload_n K dX10_text_0 rfl ?_
    refine a_if_ne K dX10_text_1 (tgt := 9) (by decide) (fun c_1 => absurd c_1 (fun z => z rfl)) (fun c_1 => ?_)
    first | refine a_aload_n K dX10_text_4 rfl ?_ | refine a_aload_nN K dX10_text_4 rfl ?_
    refine a_invV K (c_mapTold h hP) my_X10_mapTold ml_X10_118 im_X10_mapTold se_X10_mapTold (ci := 10) (lw_i4 hL) (by decide) ⟨_, _, rfl⟩ rfl (by omega) (by omega) (by omega) rfl (Nat.le_of_ble_eq_true rfl) dX10_text_5 ?_
    intro r9 S9 hp9
    obtain ⟨ad2, ar2, rfl, h2, k2⟩ := hp9
    exact a_iret K EE rfl (by omega) (by omega) dX10_text_8 (by unfold txtF; rw [if_pos rfl]; exact ⟨ad2, ar2, PA, rfl, h2, k2⟩)
  · by_cases hw1 : w = 1
    · subst hw1
      refine aw_enter (by decide +kernel) (Nat.le_of_ble_eq_true rfl) (fun g K EE => ?_)
      refine a_iload_n K dX10_text_0 rfl ?_
      refine a_if_ne K dX10_text_1 (tgt := 9) (by decide) (fun c_1 => ?_) (fun c_1 => absurd c_1 (hw0))
      refine a_iload_n K dX10_text_9 rfl ?_
      refine a_iconst K dX10_text_10 (v := 1) (by decide) ?_
      refine a_icmp_ne K dX10_text_11 (tgt := 19) (by decide) (fun c_11 => absurd c_11 (fun z => z rfl)) (fun c_11 => ?_)
      first | refine a_aload_n K dX10_text_14 rfl ?_ | refine a_aload_nN K dX10_text_14 rfl ?_
      refine a_invV K (c_programTold h) my_X10_programTold ml_X10_121 im_X10_programTold se_X10_programTold (ci := 10) (lw_i4 hL) (by decide) ⟨_, _, rfl⟩ rfl (by omega) (by omega) (by omega) rfl (Nat.le_of_ble_eq_true rfl) dX10_text_15 ?_
      intro r9 S9 hp9
      obtain ⟨ad2, ar2, PA2, rfl, h2, k2⟩ := hp9
      exact a_iret K EE rfl (by omega) (by omega) dX10_text_18 (by unfold txtF; rw [if_neg hw0, if_pos rfl]; exact ⟨ad2, ar2, PA2, rfl, h2, k2⟩)
    · refine aw_enter (by decide +kernel) (Nat.le_of_ble_eq_true rfl) (fun g K EE => ?_)
      refine a_iload_n K dX10_text_0 rfl ?_
      refine a_if_ne K dX10_text_1 (tgt := 9) (by decide) (fun c_1 => ?_) (fun c_1 => absurd c_1 (hw0))
      refine a_iload_n K dX10_text_9 rfl ?_
      refine a_iconst K dX10_text_10 (v := 1) (by decide) ?_
      refine a_icmp_ne K dX10_text_11 (tgt := 19) (by decide) (fun c_11 => ?_) (fun c_11 => absurd c_11 (hw1))
      refine a_iconst K dX10_text_19 (v := -1) (by decide) ?_
      exact a_iret K EE rfl (by omega) (by omega) dX10_text_20 (by unfold txtF; rw [if_neg hw0, if_neg hw1]; exact ⟨ad, ar, PA, rfl, h, h.X⟩)
theorem nmsR_ok {L : List Int32} {ks : Nat} : ∀ (n i p : Nat) (s r : ST), p ≤ L.length → (nmsR L ks n i p s).2 = some r → ∀ j, (j < i ∨ i + n ≤ j → r j = s j) ∧ (i ≤ j → j < i + n → okV (r j) ∧ (j ≤ ks → okK (r j)))
  | 0, i, p, s, r, hp, h, j => by
    have h : some s = some r := h
    cases h
    exact ⟨fun _ => rfl, fun a b => absurd b (by omega)⟩
  | n + 1, i, p, s, r, hp, h, j => by
    obtain ⟨a1, a2, a3⟩ := numR_le (less := decide (ks < i)) hp
    cases hx : (numR L (decide (ks < i)) p).2 with
    | none =>
      rw [nmsR_n rfl hx] at h
      exact absurd h (by simp)
    | some x =>
      rw [nmsR_s rfl hx] at h
      obtain ⟨b1, b2⟩ := nmsR_ok n (i + 1) _ (setN s i x) r a2 h j
      obtain ⟨-, d2, d3⟩ := a3 x hx
      refine ⟨fun hj => ?_, fun h1 h2 => ?_⟩
      · rw [b1 (by omega)]
        exact if_neg (by omega)
      · by_cases e : j = i
        · subst e
          rw [b1 (by omega)]
          have e1 : setN s j x j = x := if_pos rfl
          rw [e1]
          exact ⟨d2, fun hk => d3 (decide_eq_false (by omega))⟩
        · exact b2 (by omega) (by omega)
theorem ostR_ok {L : List Int32} {p : Nat} {s : ST} (hp : p ≤ L.length) (h : (ostR L p).2 = some s) : okS9 s := by
  obtain ⟨a1, a2, a3⟩ := wrdR_le hp
  cases hw : (wrdR L p).2 with
  | none =>
    rw [ostR_n hw] at h
    exact absurd h (by simp)
  | some w =>
    have hw6 := (a3 w hw).1
    rw [ostR_s hw] at h
    have k := nmsR_ok _ 1 _ _ s a1 h
    have k0 : s 0 = nI w := (k 0).1 (by omega)
    have k1 := k 1
    have k2 := k 2
    have k3 := k 3
    unfold okS9
    rcases (by omega : w = 0 ∨ w = 1 ∨ w = 2 ∨ w = 3 ∨ w = 4 ∨ w = 5) with rfl | rfl | rfl | rfl | rfl | rfl
    · exact Or.inl ⟨k0, (k1.2 (by decide) (by decide)).2 (by decide), (k2.2 (by decide) (by decide)).1, k3.1 (by decide)⟩
    · exact Or.inr (Or.inl ⟨k0, (k1.2 (by decide) (by decide)).2 (by decide), k2.1 (by decide), k3.1 (by decide)⟩)
    · exact Or.inr (Or.inr (Or.inl ⟨k0, (k1.2 (by decide) (by decide)).2 (by decide), (k2.2 (by decide) (by decide)).1, k3.1 (by decide)⟩))
    · exact Or.inr (Or.inr (Or.inr (Or.inl ⟨k0, (k1.2 (by decide) (by decide)).2 (by decide), (k2.2 (by decide) (by decide)).2 (by decide), k3.1 (by decide)⟩)))
    · exact Or.inr (Or.inr (Or.inr (Or.inr (Or.inl ⟨k0, (k1.2 (by decide) (by decide)).2 (by decide), (k2.2 (by decide) (by decide)).2 (by decide), (k3.2 (by decide) (by decide)).1⟩))))
    · exact Or.inr (Or.inr (Or.inr (Or.inr (Or.inr ⟨k0, k1.1 (by decide), k2.1 (by decide), k3.1 (by decide)⟩))))
theorem stsR_ok {L : List Int32} : ∀ n p E, p ≤ L.length → E.length + n ≤ 16 → (∀ s ∈ E, okS9 s) → (stsR L n p E).2.length ≤ 16 ∧ ∀ s ∈ (stsR L n p E).2, okS9 s
  | 0, p, E, hp, hn, hE => ⟨hn, hE⟩
  | n + 1, p, E, hp, hn, hE => by
    obtain ⟨a1, a2⟩ := ostR_le hp
    cases h : (ostR L p).2 with
    | none =>
      rw [stsR_f h]
      exact ⟨by show E.length ≤ 16; omega, hE⟩
    | some s =>
      obtain ⟨c1, c2⟩ := skB_le a2
      have hl : (E ++ [s]).length = E.length + 1 := by rw [List.length_append, List.length_singleton]
      have hE2 : ∀ y ∈ E ++ [s], okS9 y := fun y hy => (List.mem_append.mp hy).elim (hE y) (fun z => by rw [List.mem_singleton.mp z]; exact ostR_ok hp h)
      rw [stsR_s h]
      by_cases e1 : L.length ≤ skB L (ostR L p).1
      · rw [if_pos e1]
        exact ⟨by show (E ++ [s]).length ≤ 16; omega, hE2⟩
      · rw [if_neg e1]
        by_cases e2 : n = 0
        · rw [if_pos e2]
          exact ⟨by show (E ++ [s]).length ≤ 16; omega, hE2⟩
        · rw [if_neg e2]
          by_cases e3 : chr L (skB L (ostR L p).1) = 59
          · rw [if_pos e3]
            exact stsR_ok n _ _ (by omega) (by omega) hE2
          · rw [if_neg e3]
            exact ⟨by show (E ++ [s]).length ≤ 16; omega, hE2⟩
theorem redP_ok (L : List Int32) : (redP L).2.length ≤ 16 ∧ ∀ s ∈ (redP L).2, okS9 s := stsR_ok 16 0 [] (Nat.zero_le _) (by decide) (fun s hs => absurd hs (by simp))
theorem PJ_txtM {n : Nat} {P : PS} (h : PJ n P) (hn : n + 20 < 1000000000) : PJ (n + 20) (txtM P).2 := by
  unfold txtM
  split
  · exact h.up (Nat.le_add_right _ _)
  · split
    · rename_i c
      have s := tldM_stn h.1 h.2.2.2.2.1.1
      have e : ndl (lf0 (pU P) (pTk P)).1 (lf0 (pU P) (pTk P)).2 = [(pU P, pTk P)] := by simp [lf0, ndl]
      have hy : ∀ y ∈ ndl (tldM P).1.1 (tldM P).1.2, (∃ x ∈ pM P, y ∈ ndl x.1.1 x.1.2) ∨ y.2 = pTk P := fun y hy => (s.2.2.2 y hy).elim (fun z => by
        have z : y ∈ ndl (lf0 (pU P) (pTk P)).1 (lf0 (pU P) (pTk P)).2 := z
        rw [e] at z
        rw [List.mem_singleton.mp z]
        exact Or.inr rfl) Or.inr
      have hu : pU P ≤ (tldM P).2 := Nat.le_trans (Nat.le_succ _) s.2.1
      have k := h.addm hn (s.1.tok s.1.2.2.1) hu hy (a := -1) (b := -1) (Or.inl rfl) (Or.inl rfl) c
      exact PJ_tp k (L := []) (Nat.zero_le _) (fun x hx => absurd hx (by simp))
    · exact h.ref 4
theorem PJ_txtP {n : Nat} {P : PS} (h : PJ n P) : PJ (n + 20) (txtP P).2 := by
  unfold txtP
  split
  · exact h.up (Nat.le_add_right _ _)
  · split
    · rename_i c
      obtain ⟨h1, h2, h3, h4, h5, h6, h7⟩ := h
      obtain ⟨r1, r2⟩ := redP_ok (pT P)
      have k : PJ n (addG P (redP (pT P)).2) := ⟨h1.cg rfl rfl rfl rfl rfl, h2, h3, ⟨by show (pG P ++ [_]).length ≤ 4; rw [List.length_append, List.length_singleton]; omega, fun p hp => by
        have hp : p ∈ pG P ++ [(redP (pT P)).2] := hp
        rcases List.mem_append.mp hp with hp | hp
        · exact h4.2 p hp
        · rw [List.mem_singleton.mp hp]
          exact ⟨r1, r2⟩⟩, h5, h6, h7⟩
      exact (PJ_tp k (L := []) (Nat.zero_le _) (fun x hx => absurd hx (by simp))).up (Nat.le_add_right _ _)
    · exact h.up (Nat.le_add_right _ _)
theorem PJ_txt {n : Nat} {P : PS} (h : PJ n P) (hn : n + 20 < 1000000000) (w : Int32) : PJ (n + 20) (txtF P w).2 := by
  unfold txtF
  split
  · exact PJ_txtM h hn
  · split
    · exact PJ_txtP h
    · exact h.up (Nat.le_add_right _ _)
