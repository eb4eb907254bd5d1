theorem Qk37 {v : Nat → Nat} {ks : List Nat} (hk : ∀ k ∈ ks, k < 37) : ∀ b, Qk v ks b → ∃ k, k < 37 ∧ b = v k := fun b ⟨k, h, e⟩ => ⟨k, hk k h, e⟩
def incT (P : PS) : PS := ((pW P, pMd P, pTk P + 1, pU P), pM P, pH P, pI P, pY P, pB P, pR P, pG P, pT P, pS P)
def refP (P : PS) (k : Nat) : PS := (P.1, pM P, pH P, pI P, pY P, pB P, fun i => if i = k then pR P i + 1 else pR P i, pG P, pT P, pS P)
def addM (P : PS) (z : Tz) (a b : Int32) : PS := (P.1, pM P ++ [(z, a, b)], fun i => i == (pM P).length || pH P i, pI P, pY P, pB P, pR P, pG P, pT P, pS P)
theorem c_newToken {S : aw_S} {v ad ar : Nat → Nat} {PA : List (Nat × Nat)} {X : List Nat} {mb : Nat} {P : PS} (h : RC S v ad ar PA X mb P) : aw_M yX1_newToken cX1_newToken 1 (some FieldType.int) 0 0 0 [.ref (v 5)] S (fun r S2 => r = some (.int (nI (pTk P))) ∧ RC S2 v ad ar PA X mb (incT P) ∧ keepX X S S2) := by
  have hL := h.L
  refine (m_X1_newToken (lw_i5 hL)).post (fun r S2 hp => ?_)
  obtain ⟨hr, hS⟩ := hp
  have e := h.2.1.2.2
  rw [e] at hr hS
  rw [nI_1] at hS
  subst hS
  have f : frS S (wI S 66 (v 5) (nI (pTk P + 1))) (Qk v [5]) := (frS_wI (by decide)).mono (fun b z => ⟨5, by decide, z⟩)
  have no : ∀ j, j < 37 → j ≠ 5 → ¬ Qk v [5] (v j) := fun j hj h5 => Qk_no hL (by decide) hj (by simp; exact h5)
  have ei : ∀ F b, F ≠ 66 → sI (wI S 66 (v 5) (nI (pTk P + 1))) F b = sI S F b := fun F b hF => by rw [sI_wI, if_neg (fun z => hF z.1)]
  obtain ⟨a, b⟩ := RC.gen (P2 := incT P) h f (Qk37 (by decide)) (no 13 (by decide) (by decide)) (no 3 (by decide) (by decide)) (ei _ _ (by decide)) (ei _ _ (by decide)) rfl rfl ⟨(ei _ _ (by decide)).trans h.2.1.1, (ei _ _ (by decide)).trans h.2.1.2.1, wI_at⟩ (MaW.fr h.2.2.1 f (fun j h1 hj => no j (by omega) (by omega)) rfl rfl rfl rfl) (BuW.fr h.2.2.2.1 f (fun j hj => no _ (by omega) (by omega)) rfl) (ReW.fr h.2.2.2.2.1 f (no 18 (by decide) (by decide)) rfl) (TaW.fr h.2.2.2.2.2.2.1 f (no 0 (by decide) (by decide)) (no 1 (by decide) (by decide)) rfl) (h.2.2.2.2.2.2.2.1.fr f.fr (no 19 (by decide) (by decide)) (no 20 (by decide) (by decide))) h.2.2.2.2.2.2.2.2.1.2.1 h.2.2.2.2.2.2.2.2.1.2.2
  exact ⟨hr, a, b⟩
theorem c_refused {S : aw_S} {v ad ar : Nat → Nat} {PA : List (Nat × Nat)} {X : List Nat} {mb : Nat} {P : PS} (h : RC S v ad ar PA X mb P) (k : Nat) (hk : k < 5) : aw_M yX10_refused cX10_refused 2 (some FieldType.int) 0 0 0 [.ref (v 4), .int (nI k)] S (fun r S2 => r = some (.int (-1)) ∧ RC S2 v ad ar PA X mb (refP P k) ∧ keepX X S S2) := by
  have hL := h.L
  refine (w_refused hL k hk).post (fun r S2 hp => ?_)
  obtain ⟨hr, hS⟩ := hp
  subst hS
  have f : frS S (wA S (v 18) k (sA S (v 18) k + 1)) (Qk v [18]) := frS_wA.mono (fun b z => ⟨18, by decide, z⟩)
  have no : ∀ j, j < 37 → j ≠ 18 → ¬ Qk v [18] (v j) := fun j hj h5 => Qk_no hL (by decide) hj (by simp; exact h5)
  obtain ⟨a, b⟩ := RC.gen (P2 := refP P k) h f (Qk37 (by decide)) (no 13 (by decide) (by decide)) (no 3 (by decide) (by decide)) rfl rfl rfl rfl (GrW.fr h.2.1 f (no 5 (by decide) (by decide)) rfl rfl rfl) (MaW.fr h.2.2.1 f (fun j h1 hj => no j (by omega) (by omega)) rfl rfl rfl rfl) (BuW.fr h.2.2.2.1 f (fun j hj => no _ (by omega) (by omega)) rfl) (fun i hi => by
      show sA (wA S (v 18) k _) (v 18) i = if i = k then pR P i + 1 else pR P i
      rw [sA_wA, h.2.2.2.2.1 k hk]
      by_cases e : i = k
      · rw [if_pos ⟨rfl, e⟩, if_pos e, e]
      · rw [if_neg (fun z => e z.2), if_neg e]
        exact h.2.2.2.2.1 i hi) (TaW.fr h.2.2.2.2.2.2.1 f (no 0 (by decide) (by decide)) (no 1 (by decide) (by decide)) rfl) (h.2.2.2.2.2.2.2.1.fr f.fr (no 19 (by decide) (by decide)) (no 20 (by decide) (by decide))) h.2.2.2.2.2.2.2.2.1.2.1 h.2.2.2.2.2.2.2.2.1.2.2
  exact ⟨hr, a, b⟩
theorem hcnt_add {hd : Nat → Bool} {g : Nat} (h0 : hd g = false) : ∀ n, g < n → (List.range n).countP (fun i => i == g || hd i) = (List.range n).countP hd + 1
  | 0, h => absurd h (Nat.not_lt_zero _)
  | n + 1, h => by
    rw [List.range_succ, List.countP_append, List.countP_append, List.countP_singleton, List.countP_singleton]
    by_cases e : g = n
    · subst e
      have e1 : (List.range g).countP (fun i => i == g || hd i) = (List.range g).countP hd := List.countP_congr (fun i hi => by
        have h1 : i ≠ g := Nat.ne_of_lt (List.mem_range.mp hi)
        rw [show (i == g) = false from by simp [h1], Bool.false_or])
      rw [e1, h0]
      simp
    · have ih := hcnt_add h0 n (by omega)
      rw [ih, show (n == g) = false from by simp; exact fun z => e z.symm, Bool.false_or]
      omega
