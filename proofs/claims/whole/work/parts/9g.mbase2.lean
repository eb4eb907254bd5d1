/-! the model: the base changed -/
theorem RBa.fr {S S2 : aw_S} {m : Nat → Nat} {P : PS} {ks Fs : List Nat} (a : RBa S m P) (hM : LM S m) (f : frM S S2 m ks Fs) (hk3 : ∀ k ∈ ks, k < 33) (n0 : 0 ∉ ks) (hF : ∀ F ∈ [706, 713, 723, 725, 745, 746, 747, 748, 758], F ∉ Fs) : RBa S2 m P := by
  obtain ⟨a1, a2, a3, a4, a5, a6, a7, a8, a9, a10⟩ := a
  exact ⟨a1.fr hM f hk3 n0 (hF _ (by decide)), (f.2 _ (hF _ (by decide))).trans a2, (f.2 _ (hF _ (by decide))).trans a3, (f.2 _ (hF _ (by decide))).trans a4, (f.2 _ (hF _ (by decide))).trans a5, (f.2 _ (hF _ (by decide))).trans a6, (f.2 _ (hF _ (by decide))).trans a7, (f.2 _ (hF _ (by decide))).trans a8, (f.2 _ (hF _ (by decide))).trans a9, a10⟩
theorem RBm.fr {S S2 : aw_S} {m ρ : Nat → Nat} {P : PS} {ks Fs : List Nat} (a : RBm S m ρ P) (hM : LM S m) (f : frM S S2 m ks Fs) (hk3 : ∀ k ∈ ks, k < 33) (h1 : 17 ∉ ks) (h2 : 18 ∉ ks) (h3 : 19 ∉ ks) : RBm S2 m ρ P := fun i x hx => by
  rw [f.A hM hk3 (by decide) h1, f.A hM hk3 (by decide) h2, f.A hM hk3 (by decide) h3]
  exact a i x hx
theorem RBb.fr {S S2 : aw_S} {m ρ : Nat → Nat} {P : PS} {ks Fs : List Nat} (a : RBb S m ρ P) (hM : LM S m) (f : frM S S2 m ks Fs) (hk3 : ∀ k ∈ ks, k < 33) (h1 : 20 ∉ ks) (h2 : 21 ∉ ks) (h3 : 22 ∉ ks) : RBb S2 m ρ P := fun j b hj hb => by
  rw [f.A hM hk3 (by decide) h1, f.A hM hk3 (by decide) h2, f.A hM hk3 (by decide) h3]
  exact a j b hj hb
theorem RBr.fr {S S2 : aw_S} {m : Nat → Nat} {P : PS} {ks Fs : List Nat} (a : RBr S m P) (hM : LM S m) (f : frM S S2 m ks Fs) (hk3 : ∀ k ∈ ks, k < 33) (h1 : 23 ∉ ks) (h2 : 24 ∉ ks) (h3 : 25 ∉ ks) (h4 : 31 ∉ ks) : RBr S2 m P := by
  unfold RBr
  rw [f.A hM hk3 (by decide) h1, f.A hM hk3 (by decide) h2, f.A hM hk3 (by decide) h3, f.A hM hk3 (by decide) h4]
  exact a
theorem RBg.fr {S S2 : aw_S} {m : Nat → Nat} {P : PS} {ks Fs : List Nat} (a : RBg S m P) (hM : LM S m) (f : frM S S2 m ks Fs) (hk3 : ∀ k ∈ ks, k < 33) (h1 : 2 ∉ ks) (h2 : 3 ∉ ks) : RBg S2 m P := fun i p hp => by
  rw [f.A hM hk3 (by decide) h1, f.A hM hk3 (by decide) h2]
  exact a i p hp
theorem RN.sub {S : aw_S} {m ρ : Nat → Nat} {Z : List Nat × Nat} {P P2 : PS} (h : RN S m ρ Z P) (hT : ∀ z, LvT P2 z → LvT P z) (eU : pU P2 = pU P) (eM : pMd P2 = pMd P) : RN S m ρ Z P2 := ⟨h.1, h.2.1, by rw [eU]; exact h.2.2.1.sub (fun i ⟨z, hz, y⟩ => ⟨z, hT z hz, y⟩), fun z hz => h.2.2.2.1 z (hT z hz), by rw [eM]; exact h.2.2.2.2⟩
/-- refused, over states -/
theorem q_refP {S : aw_S} {m ρ : Nat → Nat} {Z : List Nat × Nat} {mb : Nat} {P : PS} (h : RM S m ρ Z mb P) {k : Nat} (hk : k < 5) : aw_M yX11_refused cX11_refused 2 (some FieldType.int) 0 0 0 [.ref (m 33), .int (nI k)] S (fun r S2 => r = some (.int (-1)) ∧ RM S2 m ρ Z mb (refP P k) ∧ frS S S2 (mQ m)) := (q_refused h.1 hk).post (fun r S2 hp => by
  obtain ⟨hr, e⟩ := hp
  have f : frM S S2 m [23] [] := by rw [e]; exact frM_wA (by decide)
  obtain ⟨h1, h2, h3, h4, h5, h6, h7, h8⟩ := h
  have e24 : sA S2 (m 24) = sA S (m 24) := by rw [e]; funext i; rw [sA_wA, if_neg (fun z => lm_ne h1 (by decide) (by decide) (by decide) z.1)]
  have e25 : sA S2 (m 25) = sA S (m 25) := by rw [e]; funext i; rw [sA_wA, if_neg (fun z => lm_ne h1 (by decide) (by decide) (by decide) z.1)]
  have e31 : sA S2 (m 31) = sA S (m 31) := by rw [e]; funext i; rw [sA_wA, if_neg (fun z => lm_ne h1 (by decide) (by decide) (by decide) z.1)]
  refine ⟨hr, ⟨f.lay h1, h2.fr h1 f (by decide) (by decide) (by decide), h3.fr h1 f (by decide) (by decide) (by decide) (by decide), h4.fr h1 f (by decide) (by decide) (by decide) (by decide), ⟨fun j hj => ?_, fun i hi => ?_, fun i hi => ?_, fun i b hb => ?_⟩, h6.fr h1 f (by decide) (by decide) (by decide), (h7.fr h1 f (by decide) (by decide) (by decide) (by decide) (by decide) (by decide) (by decide) (by decide) (by decide) (by decide)).sub (P2 := refP P k) (fun z hz => hz) rfl rfl, h8.fr h1 f (by decide) (by decide) (by decide)⟩, f.mq (by decide)⟩
  · rw [e, sA_wA]
    show _ = if j = k then pR P j + 1 else pR P j
    by_cases c : j = k
    · rw [if_pos ⟨rfl, c⟩, if_pos c, h5.1 k hk, c]
    · rw [if_neg (fun z => c z.2), if_neg c]
      exact h5.1 j hj
  · rw [e24]; exact h5.2.1 i hi
  · rw [e25]; exact h5.2.2.1 i hi
  · rw [e31]; exact h5.2.2.2 i b hb)
theorem obN_0 {P : PS} (h : ∀ j, j < 4 → pB P j = none) : obN P 4 = 0 := by
  have e : ∀ n, n ≤ 4 → obN P n = 0 := fun n => by
    induction n with
    | zero => exact fun _ => rfl
    | succ n ih =>
      intro hn
      rw [obN, h n (by omega)]
      exact ih (by omega)
  exact e 4 (Nat.le_refl _)
theorem clo_no (P : PS) : ∀ j, j < 4 → pB (cloP P) j = none := by
  intro j hj
  have h4 : j = 0 ∨ j = 1 ∨ j = 2 ∨ j = 3 := by omega
  rcases h4 with e | e | e | e <;> rw [e] <;> rfl
theorem PJ.szs {n : Nat} {P : PS} (h : PJ n P) : ∀ z, LvT P z → (ndl z.1 z.2).length ≤ 61 ∧ z.1 ≤ 4 := fun z hz => ⟨((h.1.tz hz).h4 h.1.1.1).2.2, ((h.1.tz hz).h4 h.1.1.1).1⟩
/-- sweeps, over states -/
theorem q_swR {S : aw_S} {m ρ : Nat → Nat} {Z : List Nat × Nat} {mb n9 : Nat} {P : PS} (h : RM S m ρ Z mb P) (hJ : PJ n9 P) (hmb : mb + 1 < 2147483000) : aw_M yX11_sweeps cX11_sweeps 3 (none : Option FieldType) 7 0 0 [.ref (m 33)] S (fun r S2 => r = none ∧ ∃ Z2, RM S2 m ρ Z2 (mb + 1) P ∧ 5000 < rmM Z2 ∧ frS S S2 (mQ m)) := by
  obtain ⟨h1, h2, h3, h4, h5, h6, h7, h8⟩ := h
  refine (q_sweeps h1 h7 h8 hmb (fun i x hx => (h3 i x hx).1) (fun j b hj hb => (h4 j b hj hb).1) h5.2.1 h5.2.2.1 h2.2.2.2.2.1 h2.2.2.2.2.2.2.1 h2.2.2.2.2.2.2.2.1 hJ.szs hJ.2.2.2.2.2.1.2.1 hJ.2.2.2.2.2.1.2.2.1 hJ.ln).post (fun r S2 hp => ?_)
  obtain ⟨hr, Z2, hN, hK, hrm, f⟩ := hp
  exact ⟨hr, Z2, ⟨f.lay h1, h2.fr h1 f (by decide) (by decide) (by decide), h3.fr h1 f (by decide) (by decide) (by decide) (by decide), h4.fr h1 f (by decide) (by decide) (by decide) (by decide), h5.fr h1 f (by decide) (by decide) (by decide) (by decide) (by decide), h6.fr h1 f (by decide) (by decide) (by decide), hN, hK⟩, hrm, f.mq (by decide)⟩
/-- one token more -/
theorem RM_incT {S : aw_S} {m ρ : Nat → Nat} {Z : List Nat × Nat} {mb : Nat} {P : PS} (h : RM S m ρ Z mb P) : RM (wI S 725 (m 33) (nI (pTk P + 1))) m ρ Z mb (incT P) ∧ frS S (wI S 725 (m 33) (nI (pTk P + 1))) (mQ m) := by
  obtain ⟨h1, h2, h3, h4, h5, h6, h7, h8⟩ := h
  have f : frM S (wI S 725 (m 33) (nI (pTk P + 1))) m [] [725] := frM_wI (by decide) (by decide)
  obtain ⟨a1, a2, a3, a4, a5, a6, a7, a8, a9, a10⟩ := h2
  refine ⟨⟨f.lay h1, ⟨a1.fr h1 f (by decide) (by decide) (by decide), (f.2 _ (by decide)).trans a2, (f.2 _ (by decide)).trans a3, wI_at, (f.2 _ (by decide)).trans a5, (f.2 _ (by decide)).trans a6, (f.2 _ (by decide)).trans a7, (f.2 _ (by decide)).trans a8, (f.2 _ (by decide)).trans a9, a10⟩, h3.fr (P := P) h1 f (by decide) (by decide) (by decide) (by decide), h4.fr (P := P) h1 f (by decide) (by decide) (by decide) (by decide), h5.fr (P := P) h1 f (by decide) (by decide) (by decide) (by decide) (by decide), h6.fr (P := P) h1 f (by decide) (by decide) (by decide), (h7.fr h1 f (by decide) (by decide) (by decide) (by decide) (by decide) (by decide) (by decide) (by decide) (by decide) (by decide)).sub (P2 := incT P) (fun z hz => hz) rfl rfl, h8.fr h1 f (by decide) (by decide) (by decide)⟩, f.mq (by decide)⟩
theorem sA_wI_ {S : aw_S} {F a : Nat} {v : Int32} : sA (wI S F a v) = sA S := rfl
theorem sI_wA_ {S : aw_S} {a k : Nat} {v : Int32} : sI (wA S a k v) = sI S := rfl
theorem nmS_r {S : aw_S} {m : Nat → Nat} {n : Nat} {ro a b hd : Int32} (hM : LM S m) : (∀ i, sA (nmS S m n ro a b hd) (m 17) i = if i = n then ro else sA S (m 17) i) ∧ (∀ i, sA (nmS S m n ro a b hd) (m 18) i = if i = n then a else sA S (m 18) i) ∧ (∀ i, sA (nmS S m n ro a b hd) (m 19) i = if i = n then b else sA S (m 19) i) ∧ (∀ i, sA (nmS S m n ro a b hd) (m 24) i = if i = n then 1 else sA S (m 24) i) ∧ (∀ i, sA (nmS S m n ro a b hd) (m 25) i = if i = n then 0 else sA S (m 25) i) := by
  refine ⟨fun i => ?_, fun i => ?_, fun i => ?_, fun i => ?_, fun i => ?_⟩
  · unfold nmS
    rw [sA_wI_, sA_wI_, sA_wA, if_neg (fun w => lm_ne hM (i := 17) (j := 25) (by decide) (by decide) (by decide) w.1), sA_wA, if_neg (fun w => lm_ne hM (i := 17) (j := 24) (by decide) (by decide) (by decide) w.1), sA_wA, if_neg (fun w => lm_ne hM (i := 17) (j := 19) (by decide) (by decide) (by decide) w.1), sA_wA, if_neg (fun w => lm_ne hM (i := 17) (j := 18) (by decide) (by decide) (by decide) w.1), sA_wA]
    by_cases c : i = n
    · rw [if_pos ⟨rfl, c⟩, if_pos c]
    · rw [if_neg (fun w => c w.2), if_neg c]
  · unfold nmS
    rw [sA_wI_, sA_wI_, sA_wA, if_neg (fun w => lm_ne hM (i := 18) (j := 25) (by decide) (by decide) (by decide) w.1), sA_wA, if_neg (fun w => lm_ne hM (i := 18) (j := 24) (by decide) (by decide) (by decide) w.1), sA_wA, if_neg (fun w => lm_ne hM (i := 18) (j := 19) (by decide) (by decide) (by decide) w.1), sA_wA]
    by_cases c : i = n
    · rw [if_pos ⟨rfl, c⟩, if_pos c]
    · rw [if_neg (fun w => c w.2), if_neg c, sA_wA, if_neg (fun w => lm_ne hM (i := 18) (j := 17) (by decide) (by decide) (by decide) w.1)]
  · unfold nmS
    rw [sA_wI_, sA_wI_, sA_wA, if_neg (fun w => lm_ne hM (i := 19) (j := 25) (by decide) (by decide) (by decide) w.1), sA_wA, if_neg (fun w => lm_ne hM (i := 19) (j := 24) (by decide) (by decide) (by decide) w.1), sA_wA]
    by_cases c : i = n
    · rw [if_pos ⟨rfl, c⟩, if_pos c]
    · rw [if_neg (fun w => c w.2), if_neg c, sA_wA, if_neg (fun w => lm_ne hM (i := 19) (j := 18) (by decide) (by decide) (by decide) w.1), sA_wA, if_neg (fun w => lm_ne hM (i := 19) (j := 17) (by decide) (by decide) (by decide) w.1)]
  · unfold nmS
    rw [sA_wI_, sA_wI_, sA_wA, if_neg (fun w => lm_ne hM (i := 24) (j := 25) (by decide) (by decide) (by decide) w.1), sA_wA]
    by_cases c : i = n
    · rw [if_pos ⟨rfl, c⟩, if_pos c]; decide
    · rw [if_neg (fun w => c w.2), if_neg c, sA_wA, if_neg (fun w => lm_ne hM (i := 24) (j := 19) (by decide) (by decide) (by decide) w.1), sA_wA, if_neg (fun w => lm_ne hM (i := 24) (j := 18) (by decide) (by decide) (by decide) w.1), sA_wA, if_neg (fun w => lm_ne hM (i := 24) (j := 17) (by decide) (by decide) (by decide) w.1)]
  · unfold nmS
    rw [sA_wI_, sA_wI_, sA_wA]
    by_cases c : i = n
    · rw [if_pos ⟨rfl, c⟩, if_pos c]; decide
    · rw [if_neg (fun w => c w.2), if_neg c, sA_wA, if_neg (fun w => lm_ne hM (i := 25) (j := 24) (by decide) (by decide) (by decide) w.1), sA_wA, if_neg (fun w => lm_ne hM (i := 25) (j := 19) (by decide) (by decide) (by decide) w.1), sA_wA, if_neg (fun w => lm_ne hM (i := 25) (j := 18) (by decide) (by decide) (by decide) w.1), sA_wA, if_neg (fun w => lm_ne hM (i := 25) (j := 17) (by decide) (by decide) (by decide) w.1)]
/-- a new map whose tree stands -/
theorem RM_addM {S : aw_S} {m ρ : Nat → Nat} {Z : List Nat × Nat} {mb n9 : Nat} {P : PS} (h : RM S m ρ Z mb P) (hpH : ∀ i, (pM P).length ≤ i → pH P i = false ∧ pI P i = false) (hl : (pM P).length < 999) {z : Tz} {a b : Int32} (rp : RepM S m ρ z.1 z.2) (hz : ∃ Q : Nat → Prop, AL ρ (pU P) Z Q ∧ (∀ i, LvN P i → Q i) ∧ ∀ x ∈ ndl z.1 z.2, Q x.1) : RM (nmS S m (pM P).length (nI (ρ z.2.1)) a b (sI S 746 (m 33))) m ρ Z mb (addM P z a b) ∧ frS S (nmS S m (pM P).length (nI (ρ z.2.1)) a b (sI S 746 (m 33))) (mQ m) := by
  obtain ⟨h1, h2, h3, h4, h5, h6, h7, h8⟩ := h
  have f : frM S (nmS S m (pM P).length (nI (ρ z.2.1)) a b (sI S 746 (m 33))) m [17, 18, 19, 24, 25] [745, 746] := nmS_fr
  obtain ⟨a1, a2, a3, a4, a5, a6, a7, a8, a9, a10⟩ := h2
  obtain ⟨Q, q1, q2, q3⟩ := hz
  obtain ⟨r17, r18, r19, r24, r25⟩ := nmS_r (n := (pM P).length) (ro := nI (ρ z.2.1)) (a := a) (b := b) (hd := sI S 746 (m 33)) h1
  have r31 : sA (nmS S m (pM P).length (nI (ρ z.2.1)) a b (sI S 746 (m 33))) (m 31) = sA S (m 31) := f.A h1 (by decide) (by decide) (by decide)
  have r23 : sA (nmS S m (pM P).length (nI (ρ z.2.1)) a b (sI S 746 (m 33))) (m 23) = sA S (m 23) := f.A h1 (by decide) (by decide) (by decide)
  have e745 : sI (nmS S m (pM P).length (nI (ρ z.2.1)) a b (sI S 746 (m 33))) 745 (m 33) = nI ((pM P).length + 1) := wI_at
  have e746 : sI (nmS S m (pM P).length (nI (ρ z.2.1)) a b (sI S 746 (m 33))) 746 (m 33) = sI S 746 (m 33) + 1 := by
    unfold nmS
    rw [sI_wI_ne (by decide), wI_at]
  have eL : (pM P ++ [(z, a, b)]).length = (pM P).length + 1 := by rw [List.length_append]; rfl
  refine ⟨⟨f.lay h1, ⟨a1.fr h1 f (by decide) (by decide) (by decide), (f.2 _ (by decide)).trans a2, (f.2 _ (by decide)).trans a3, (f.2 _ (by decide)).trans a4, ?_, ?_, (f.2 _ (by decide)).trans a7, (f.2 _ (by decide)).trans a8, (f.2 _ (by decide)).trans a9, a10⟩, fun i x hx => ?_, h4.fr (P := P) h1 f (by decide) (by decide) (by decide) (by decide), ⟨fun k hk => ?_, fun i hi => ?_, fun i hi => ?_, fun i w hw => ?_⟩, h6.fr (P := P) h1 f (by decide) (by decide) (by decide), ?_, h8.fr h1 f (by decide) (by decide) (by decide)⟩, f.mq (by decide)⟩
  · rw [e745]
    show _ = nI (pM P ++ [(z, a, b)]).length
    rw [eL]
  · rw [e746, a6, nI_1]
    show _ = nI ((List.range 999).countP (fun i => i == (pM P).length || pH P i))
    rw [hcnt_add (hpH _ (Nat.le_refl _)).1 999 hl]
    rfl
  · have hx : (pM P ++ [(z, a, b)])[i]? = some x := hx
    rw [r17, r18, r19]
    rcases get_app1 hx with ⟨c1, c2⟩ | ⟨c1, c2⟩
    · rw [if_neg (by omega), if_neg (by omega), if_neg (by omega)]
      exact h3 i x c2
    · rw [if_pos c1, if_pos c1, if_pos c1, c2]
      exact ⟨rfl, rfl, rfl⟩
  · rw [r23]; exact h5.1 k hk
  · rw [r24]
    show _ = if (i == (pM P).length || pH P i) = true then 1 else 0
    by_cases c : i = (pM P).length
    · rw [if_pos c, if_pos (by rw [c]; simp)]
    · rw [if_neg c, h5.2.1 i hi]
      have e9 : (i == (pM P).length || pH P i) = pH P i := by simp [c]
      rw [e9]
  · have hi : i < (pM P ++ [(z, a, b)]).length := hi
    rw [eL] at hi
    rw [r25]
    show _ = if pI P i = true then 1 else 0
    by_cases c : i = (pM P).length
    · rw [if_pos c, if_neg (by rw [c, (hpH _ (Nat.le_refl _)).2]; decide)]
    · rw [if_neg c]
      exact h5.2.2.1 i (by omega)
  · rw [r31]
    exact h5.2.2.2 i w hw
  · have h7 := h7.fr h1 f (by decide) (by decide) (by decide) (by decide) (by decide) (by decide) (by decide) (by decide) (by decide) (by decide)
    have hT : ∀ w, LvT (addM P z a b) w → LvT P w ∨ w = z := fun w hw => by
      rcases hw with ⟨i, x, c1, c2, c3⟩ | c
      · have c1 : (pM P ++ [(z, a, b)])[i]? = some x := c1
        rcases get_app1 c1 with ⟨d1, d2⟩ | ⟨d1, d2⟩
        · refine Or.inl (Or.inl ⟨i, x, d2, c2, c3.imp (fun y => ?_) id⟩)
          have y : (i == (pM P).length || pH P i) = true := y
          have e9 : (i == (pM P).length) = false := by simp; omega
          rw [e9] at y
          exact y
        · rw [d2] at c2
          exact Or.inr c2.symm
      · exact Or.inl (Or.inr c)
    refine ⟨h7.1, h7.2.1, q1.sub (fun i hi => ?_), fun w hw => ?_, h7.2.2.2.2⟩
    · obtain ⟨w, hw, y, hy, e⟩ := hi
      rcases hT w hw with c | c
      · exact q2 i ⟨w, c, y, hy, e⟩
      · rw [← e]
        rw [c] at hy
        exact q3 y hy
    · rcases hT w hw with c | c
      · exact h7.2.2.2.1 w c
      · rw [c]
        exact f.rep h1 (by decide) (by decide) (by decide) (by decide) (by decide) (by decide) rp
/-- newMap over states -/
theorem q_newMapR {S : aw_S} {m ρ : Nat → Nat} {Z : List Nat × Nat} {mb : Nat} {P : PS} (h : RM S m ρ Z mb P) (hpH : ∀ i, (pM P).length ≤ i → pH P i = false ∧ pI P i = false) (hl : (pM P).length < 999) {z : Tz} {a b : Int32} (rp : RepM S m ρ z.1 z.2) (hz : ∃ Q : Nat → Prop, AL ρ (pU P) Z Q ∧ (∀ i, LvN P i → Q i) ∧ ∀ x ∈ ndl z.1 z.2, Q x.1) : aw_M yX11_newMap cX11_newMap 4 (some FieldType.int) 0 0 0 [.ref (m 33), .int (nI (ρ z.2.1)), .int a, .int b] S (fun r S2 => r = some (.int (nI (pM P).length)) ∧ RM S2 m ρ Z mb (addM P z a b) ∧ frS S S2 (mQ m)) := (q_newMap h.1 h.nlen hl).post (fun r S2 hp => by
  have k := RM_addM (n9 := 0) (a := a) (b := b) h hpH hl rp hz
  rw [hp.2]
  exact ⟨hp.1, k.1, k.2⟩)
theorem RM.room {S : aw_S} {m ρ : Nat → Nat} {Z : List Nat × Nat} {mb : Nat} {P : PS} (h : RM S m ρ Z mb P) (hl : (pM P).length ≤ 999) (hc : hcnt (pH P) ≤ 16) : (hcnt (pH P) < 16 ∧ (pM P).length < 999 → aw_M yX11_hasRoom cX11_hasRoom 1 (some FieldType.boolean) 0 0 0 [.ref (m 33)] S (fun r S2 => r = some (.int 1) ∧ S2 = S)) ∧ (¬ (hcnt (pH P) < 16 ∧ (pM P).length < 999) → aw_M yX11_hasRoom cX11_hasRoom 1 (some FieldType.boolean) 0 0 0 [.ref (m 33)] S (fun r S2 => r = some (.int 0) ∧ S2 = S)) := ⟨fun y => (q_hasRoom h.1 h.2.1.2.2.2.2.2.1 h.nlen (by omega) (by omega)).post (fun r S2 hp => ⟨bR_y y hp.2, hp.1⟩), fun y => (q_hasRoom h.1 h.2.1.2.2.2.2.2.1 h.nlen (by omega) (by omega)).post (fun r S2 hp => ⟨bR_n y hp.2, hp.1⟩)⟩
set_option maxHeartbeats 4000000 in
set_option maxRecDepth 100000 in
theorem q_newTk {S : aw_S} {m ρ : Nat → Nat} {Z : List Nat × Nat} {mb n9 : Nat} {P : PS} (h0 : RM S m ρ Z mb P) (hJ : PJ n9 P) (hmb : mb + 1 < 2147483000) : aw_M yX11_newToken cX11_newToken 1 (some FieldType.int) 8 0 0 [.ref (m 33)] S (fun r S2 => r = some (.int (nI (pTk P + 1))) ∧ ∃ Z2, RM S2 m ρ Z2 (mb + 1) (incT P) ∧ 5000 < rmM Z2 ∧ frS S S2 (mQ m)) := by
  have hM := h0.1
  refine aw_enter (by decide +kernel) (Nat.le_of_ble_eq_true rfl) (fun g K EE => ?_)
  first | refine a_aload_n K dX11_newToken_0 rfl ?_ | refine a_aload_nN K dX11_newToken_0 rfl ?_
  refine a_invV K (q_swR h0 hJ hmb) my_X11_sweeps ml_X11_278 im_X11_sweeps se_X11_sweeps (ci := 11) (by exact lm_o hM) (by decide) ⟨_, _, rfl⟩ rfl (by omega) (by omega) (by omega) rfl (Nat.le_of_ble_eq_true rfl) dX11_newToken_1 ?_
  intro r9 T hp9
  obtain ⟨rfl, Z2, h, hrm, q9⟩ := hp9
  have hM := h.1
  first | refine a_aload_n K dX11_newToken_4 rfl ?_ | refine a_aload_nN K dX11_newToken_4 rfl ?_
  refine a_dup K dX11_newToken_5 rfl ?_
  refine a_getI K fd_X11_281 (by exact lm_o hM) (Or.inl rfl) dX11_newToken_6 ?_
  rw [show sI T 725 (m 33) = nI (pTk P) from h.2.1.2.2.2.1]
  refine a_iconst K dX11_newToken_9 (v := 1) (by decide) ?_
  refine a_iadd K dX11_newToken_10 ?_
  rw [nI_1]
  refine a_putI K fd_X11_281 (by exact lm_o hM) rfl dX11_newToken_11 ?_
  first | refine a_aload_n K dX11_newToken_14 rfl ?_ | refine a_aload_nN K dX11_newToken_14 rfl ?_
  refine a_getI K fd_X11_281 (by exact lm_o hM) (Or.inl rfl) dX11_newToken_15 ?_
  rw [wI_at]
  exact a_iret K EE rfl (by omega) (by omega) dX11_newToken_18 ⟨rfl, Z2, (RM_incT h).1, hrm, mQ_tr q9 (RM_incT h).2⟩
