/-! the model holds the state -/
def LvT (P : PS) (z : Tz) : Prop := (∃ (i : Nat) (x : MI), (pM P)[i]? = some x ∧ x.1 = z ∧ (pH P i = true ∨ (pY P = true ∧ pI P i = true))) ∨ ∃ (j : Nat) (b : BI), j < 4 ∧ pB P j = some b ∧ b.1 = z
def LvN (P : PS) (i : Nat) : Prop := ∃ z : Tz, LvT P z ∧ ∃ y ∈ ndl z.1 z.2, y.1 = i
/-- nodes, what is free, how many were made -/
def RN (S : aw_S) (m ρ : Nat → Nat) (Z : List Nat × Nat) (P : PS) : Prop := FrM S m Z.1 Z.2 ∧ Z.1.Nodup ∧ AL ρ (pU P) Z (LvN P) ∧ (∀ z, LvT P z → RepM S m ρ z.1 z.2) ∧ sI S 724 (m 33) = pMd P
/-- fields -/
def RBa (S : aw_S) (m : Nat → Nat) (P : PS) : Prop := TpM S m (pT P) ∧ sI S 713 (m 33) = nI (pG P).length ∧ sI S 723 (m 33) = nI (pW P) ∧ sI S 725 (m 33) = nI (pTk P) ∧ sI S 745 (m 33) = nI (pM P).length ∧ sI S 746 (m 33) = nI (hcnt (pH P)) ∧ sI S 747 (m 33) = obN P 4 ∧ sI S 748 (m 33) = (if pY P = true then 1 else 0) ∧ sI S 758 (m 33) = nI (pS P).length ∧ (pS P).length ≤ 1400
/-- rows -/
def RBm (S : aw_S) (m ρ : Nat → Nat) (P : PS) : Prop := ∀ (i : Nat) (x : MI), (pM P)[i]? = some x → sA S (m 17) i = nI (ρ x.1.2.1) ∧ sA S (m 18) i = x.2.1 ∧ sA S (m 19) i = x.2.2
def RBb (S : aw_S) (m ρ : Nat → Nat) (P : PS) : Prop := ∀ (j : Nat) (b : BI), j < 4 → pB P j = some b → sA S (m 20) j = nI (ρ b.1.2.1) ∧ sA S (m 21) j = nI (b.2.1 + 1) ∧ sA S (m 22) j = b.2.2
def RBr (S : aw_S) (m : Nat → Nat) (P : PS) : Prop := (∀ k, k < 5 → sA S (m 23) k = pR P k) ∧ (∀ i, i < 999 → sA S (m 24) i = (if pH P i = true then 1 else 0)) ∧ (∀ i, i < (pM P).length → sA S (m 25) i = (if pI P i = true then 1 else 0)) ∧ ∀ i b, (pS P)[i]? = some b → sA S (m 31) i = nI b
def RBg (S : aw_S) (m : Nat → Nat) (P : PS) : Prop := ∀ (i : Nat) (p : List ST), (pG P)[i]? = some p → sA S (m 3) i = nI p.length ∧ ∀ (k : Nat) (s : ST), p[k]? = some s → ∀ w, w < 4 → sA S (m 2) (4 * (16 * i + k) + w) = s w
/-- marks -/
def RK (S : aw_S) (m : Nat → Nat) (mb : Nat) : Prop := mb < 2147483000 ∧ ∃ st, st ≤ mb ∧ sI S 726 (m 33) = nI st ∧ ∀ r, r < 12000 → ∃ x, x ≤ st ∧ sA S (m 7) r = nI x
def RM (S : aw_S) (m ρ : Nat → Nat) (Z : List Nat × Nat) (mb : Nat) (P : PS) : Prop := LM S m ∧ RBa S m P ∧ RBm S m ρ P ∧ RBb S m ρ P ∧ RBr S m P ∧ RBg S m P ∧ RN S m ρ Z P ∧ RK S m mb
def mQ (m : Nat → Nat) (b : Nat) : Prop := ∃ k, k < 34 ∧ b = m k
theorem frM.mq {S S2 : aw_S} {m : Nat → Nat} {ks Fs : List Nat} (f : frM S S2 m ks Fs) (hk : ∀ k ∈ ks, k < 33) : frS S S2 (mQ m) := f.1.mono (fun b ⟨k, h, e⟩ => ⟨k, (List.mem_cons.mp h).elim (fun z => by omega) (fun z => by have := hk k z; omega), e⟩)
theorem mQ_tr {S A B : aw_S} {m : Nat → Nat} (h : frS S A (mQ m)) (k : frS A B (mQ m)) : frS S B (mQ m) := h.st k (fun _ z => z)
abbrev scK : List Nat := [1, 11, 12, 13, 14, 15, 16, 26, 27, 28, 29, 30, 32]
abbrev scF : List Nat := [704, 707, 708, 712, 729, 734, 735, 753, 754, 757]
abbrev bsK : List Nat := [1, 4, 5, 6, 7, 8, 9, 10, 11, 12, 13, 14, 15, 16, 26, 27, 28, 29, 30, 32]
abbrev bsF : List Nat := [704, 707, 708, 712, 721, 722, 724, 726, 729, 734, 735, 753, 754, 757]
theorem PI.idm {P : PS} (hP : PI P) {i : Nat} {x : MI} (hx : (pM P)[i]? = some x) : x.1.2.1 < pU P := (hP.2.1 x (List.mem_of_getElem? hx)).2.2.2.1.1 _ (ndl_top x.1.2)
theorem PI.idb {P : PS} (hP : PI P) {j : Nat} {b : BI} (hb : pB P j = some b) : b.1.2.1 < pU P := (hP.2.2.1 j b hb).2.1.2.2.2.1.1 _ (ndl_top b.1.2)
/-- fields and rows of the base stay -/
theorem RM.base {S S2 : aw_S} {m ρ ρ2 : Nat → Nat} {Z : List Nat × Nat} {mb : Nat} {P : PS} {ks Fs : List Nat} (h : RM S m ρ Z mb P) (hP : PI P) (f : frM S S2 m ks Fs) (hk : ∀ k ∈ ks, k ∈ bsK) (hF : ∀ F ∈ Fs, F ∈ bsF) (er : ∀ i, i < pU P → ρ2 i = ρ i) : LM S2 m ∧ RBa S2 m P ∧ RBm S2 m ρ2 P ∧ RBb S2 m ρ2 P ∧ RBr S2 m P ∧ RBg S2 m P := by
  obtain ⟨hM, ⟨a1, a2, a3, a4, a5, a6, a7, a8, a9, a10⟩, b1, b2, ⟨c1, c2, c3, c4⟩, d1, -, -⟩ := h
  have hk3 : ∀ k ∈ ks, k < 33 := fun k z => (show ∀ k ∈ bsK, k < 33 by decide) k (hk k z)
  have nF : ∀ F, F ∉ bsF → F ∉ Fs := fun F n z => n (hF F z)
  have nK : ∀ k, k ∉ bsK → k ∉ ks := fun F n z => n (hk F z)
  have eA : ∀ k, k < 33 → k ∉ bsK → sA S2 (m k) = sA S (m k) := fun k h1 h2 => f.A hM hk3 h1 (nK k h2)
  refine ⟨f.lay hM, ⟨a1.fr hM f hk3 (nK _ (by decide)) (nF _ (by decide)), (f.2 _ (nF _ (by decide))).trans a2, (f.2 _ (nF _ (by decide))).trans a3, (f.2 _ (nF _ (by decide))).trans a4, (f.2 _ (nF _ (by decide))).trans a5, (f.2 _ (nF _ (by decide))).trans a6, (f.2 _ (nF _ (by decide))).trans a7, (f.2 _ (nF _ (by decide))).trans a8, (f.2 _ (nF _ (by decide))).trans a9, a10⟩, fun i x hx => ?_, fun j b hj hb => ?_, ⟨fun k hk => ?_, fun i hi => ?_, fun i hi => ?_, fun i b hb => ?_⟩, fun i p hp => ?_⟩
  · rw [eA 17 (by decide) (by decide), eA 18 (by decide) (by decide), eA 19 (by decide) (by decide), er _ (hP.idm hx)]
    exact b1 i x hx
  · rw [eA 20 (by decide) (by decide), eA 21 (by decide) (by decide), eA 22 (by decide) (by decide), er _ (hP.idb hb)]
    exact b2 j b hj hb
  · rw [eA 23 (by decide) (by decide)]
    exact c1 k hk
  · rw [eA 24 (by decide) (by decide)]
    exact c2 i hi
  · rw [eA 25 (by decide) (by decide)]
    exact c3 i hi
  · rw [eA 31 (by decide) (by decide)]
    exact c4 i b hb
  · rw [eA 3 (by decide) (by decide), eA 2 (by decide) (by decide)]
    exact d1 i p hp
theorem RN.fr {S S2 : aw_S} {m ρ : Nat → Nat} {Z : List Nat × Nat} {P : PS} {ks Fs : List Nat} (h : RN S m ρ Z P) (hM : LM S m) (f : frM S S2 m ks Fs) (hk3 : ∀ k ∈ ks, k < 33) (n4 : 4 ∉ ks) (n5 : 5 ∉ ks) (n6 : 6 ∉ ks) (n8 : 8 ∉ ks) (n9 : 9 ∉ ks) (n10 : 10 ∉ ks) (f1 : 721 ∉ Fs) (f2 : 722 ∉ Fs) (f4 : 724 ∉ Fs) : RN S2 m ρ Z P := ⟨h.1.fr hM f hk3 n8 f1 f2, h.2.1, h.2.2.1, fun z hz => f.rep hM hk3 n4 n5 n6 n9 n10 (h.2.2.2.1 z hz), (f.2 _ f4).trans h.2.2.2.2⟩
theorem RK.fr {S S2 : aw_S} {m : Nat → Nat} {mb : Nat} {ks Fs : List Nat} (h : RK S m mb) (hM : LM S m) (f : frM S S2 m ks Fs) (hk3 : ∀ k ∈ ks, k < 33) (n7 : 7 ∉ ks) (f1 : 726 ∉ Fs) : RK S2 m mb := by
  obtain ⟨h1, st, h2, h3, h4⟩ := h
  exact ⟨h1, st, h2, (f.2 _ f1).trans h3, fun r hr => by rw [f.A hM hk3 (by decide) n7]; exact h4 r hr⟩
theorem RK.up {S : aw_S} {m : Nat → Nat} {mb m2 : Nat} (h : RK S m mb) (hm : mb ≤ m2) (h2 : m2 < 2147483000) : RK S m m2 := by
  obtain ⟨h1, st, h3, h4⟩ := h
  exact ⟨h2, st, Nat.le_trans h3 hm, h4⟩
/-- scratch rows and fields alone have changed -/
theorem RM.scr {S S2 : aw_S} {m ρ : Nat → Nat} {Z : List Nat × Nat} {mb : Nat} {P : PS} {ks Fs : List Nat} (h : RM S m ρ Z mb P) (hP : PI P) (f : frM S S2 m ks Fs) (hk : ∀ k ∈ ks, k ∈ scK) (hF : ∀ F ∈ Fs, F ∈ scF) : RM S2 m ρ Z mb P ∧ frS S S2 (mQ m) := by
  have hk3 : ∀ k ∈ ks, k < 33 := fun k z => (show ∀ k ∈ scK, k < 33 by decide) k (hk k z)
  have nK : ∀ k, k ∉ scK → k ∉ ks := fun F n z => n (hk F z)
  have nF : ∀ F, F ∉ scF → F ∉ Fs := fun F n z => n (hF F z)
  obtain ⟨h1, h2, h3, h4, h5, h6⟩ := h.base hP f (fun k z => (show ∀ k ∈ scK, k ∈ bsK by decide) k (hk k z)) (fun F z => (show ∀ F ∈ scF, F ∈ bsF by decide) F (hF F z)) (fun _ _ => rfl)
  exact ⟨⟨h1, h2, h3, h4, h5, h6, h.2.2.2.2.2.2.1.fr h.1 f hk3 (nK _ (by decide)) (nK _ (by decide)) (nK _ (by decide)) (nK _ (by decide)) (nK _ (by decide)) (nK _ (by decide)) (nF _ (by decide)) (nF _ (by decide)) (nF _ (by decide)), h.2.2.2.2.2.2.2.fr h.1 f hk3 (nK _ (by decide)) (nF _ (by decide))⟩, f.mq hk3⟩
/-- marks have changed -/
theorem RM.mks {S S2 : aw_S} {m ρ : Nat → Nat} {Z : List Nat × Nat} {mb m2 : Nat} {P : PS} {ks Fs : List Nat} (h : RM S m ρ Z mb P) (hP : PI P) (f : frM S S2 m ks Fs) (hk : ∀ k ∈ ks, k = 7 ∨ k ∈ scK) (hF : ∀ F ∈ Fs, F = 726 ∨ F ∈ scF) (k9 : RK S2 m m2) : RM S2 m ρ Z m2 P ∧ frS S S2 (mQ m) := by
  have hk3 : ∀ k ∈ ks, k < 33 := fun k z => (hk k z).elim (fun e => by omega) (fun z => (show ∀ k ∈ scK, k < 33 by decide) k z)
  have nK : ∀ k, k ≠ 7 → k ∉ scK → k ∉ ks := fun F n7 n z => (hk F z).elim n7 n
  have nF : ∀ F, F ≠ 726 → F ∉ scF → F ∉ Fs := fun F n7 n z => (hF F z).elim n7 n
  obtain ⟨h1, h2, h3, h4, h5, h6⟩ := h.base hP f (fun k z => (hk k z).elim (fun e => by rw [e]; decide) (fun z => (show ∀ k ∈ scK, k ∈ bsK by decide) k z)) (fun F z => (hF F z).elim (fun e => by rw [e]; decide) (fun z => (show ∀ F ∈ scF, F ∈ bsF by decide) F z)) (fun _ _ => rfl)
  exact ⟨⟨h1, h2, h3, h4, h5, h6, h.2.2.2.2.2.2.1.fr h.1 f hk3 (nK _ (by decide) (by decide)) (nK _ (by decide) (by decide)) (nK _ (by decide) (by decide)) (nK _ (by decide) (by decide)) (nK _ (by decide) (by decide)) (nK _ (by decide) (by decide)) (nF _ (by decide) (by decide)) (nF _ (by decide) (by decide)) (nF _ (by decide) (by decide)), k9⟩, f.mq hk3⟩
/-- a new stamp: no row has it -/
theorem RM.stamp {S : aw_S} {m ρ : Nat → Nat} {Z : List Nat × Nat} {mb : Nat} {P : PS} (h : RM S m ρ Z mb P) (hm : mb + 1 < 2147483000) : ∃ st, sI S 726 (m 33) = nI st ∧ st + 1 < 2147483000 ∧ MkM (wI S 726 (m 33) (nI (st + 1))) m (nI (st + 1)) (fun _ => false) ∧ st + 1 ≤ mb + 1 ∧ ∀ r, r < 12000 → ∃ x, x ≤ st ∧ sA S (m 7) r = nI x := by
  obtain ⟨h1, st, h2, h3, h4⟩ := h.2.2.2.2.2.2.2
  refine ⟨st, h3, by omega, ⟨wI_at, fun r hr => ⟨fun e => ?_, fun e => absurd e (show ¬ (false = true) by decide)⟩⟩, by omega, h4⟩
  obtain ⟨x, hx, ex⟩ := h4 r hr
  have e : sA S (m 7) r = nI (st + 1) := e
  rw [ex] at e
  have := nI_inj (by omega) (by omega) e
  omega
/-- marks by a stamp: every row has an elder one or this -/
theorem RK_mk {S S2 : aw_S} {m : Nat → Nat} {st mb : Nat} {mk : Nat → Bool} (h4 : ∀ r, r < 12000 → ∃ x, x ≤ st ∧ sA S (m 7) r = nI x) (k : MkM S2 m (nI st) mk) (e : ∀ r, r < 12000 → sA S2 (m 7) r = sA S (m 7) r ∨ sA S2 (m 7) r = nI st) (h1 : mb < 2147483000) (h2 : st ≤ mb) : RK S2 m mb := ⟨h1, st, h2, k.1, fun r hr => (e r hr).elim (fun z => by rw [z]; exact h4 r hr) (fun z => ⟨st, Nat.le_refl _, z⟩)⟩
theorem RM.up {S : aw_S} {m ρ : Nat → Nat} {Z : List Nat × Nat} {mb m2 : Nat} {P : PS} (h : RM S m ρ Z mb P) (hm : mb ≤ m2) (h2 : m2 < 2147483000) : RM S m ρ Z m2 P := ⟨h.1, h.2.1, h.2.2.1, h.2.2.2.1, h.2.2.2.2.1, h.2.2.2.2.2.1, h.2.2.2.2.2.2.1, h.2.2.2.2.2.2.2.up hm h2⟩
/-- a map that is held: its number, its root -/
theorem rootP_some {P : PS} {i : Int32} {z : Tz} (h : rootP P i = some z) : ∃ (j : Nat) (x : MI), i = nI j ∧ j < (pM P).length ∧ (pM P)[j]? = some x ∧ x.1 = z ∧ pH P j = true := rootP_mem h
theorem rootP_live {P : PS} {i : Int32} {z : Tz} (h : rootP P i = some z) : LvT P z := by
  obtain ⟨j, x, -, -, h3, h4, h5⟩ := rootP_mem h
  exact Or.inl ⟨j, x, h3, h4, Or.inl h5⟩
theorem rootP_is {P : PS} {i : Int32} : isMapP (pH P) (pM P).length i ↔ ∃ z, rootP P i = some z := by
  unfold isMapP rootP
  constructor
  · rintro ⟨h1, h2, h3⟩
    rw [if_pos ⟨h1, h2⟩, if_pos h3]
    have hl : i.toNatClampNeg < (pM P).length := by
      have : i.toNatClampNeg = i.toInt.toNat := rfl
      omega
    rw [List.getElem?_eq_getElem hl]
    exact ⟨_, rfl⟩
  · rintro ⟨z, h⟩
    by_cases c : 0 ≤ i.toInt ∧ i.toInt < (pM P).length
    · rw [if_pos c] at h
      by_cases c2 : pH P i.toNatClampNeg = true
      · exact ⟨c.1, c.2, c2⟩
      · rw [if_neg c2] at h
        exact absurd h (by simp)
    · rw [if_neg c] at h
      exact absurd h (by simp)
theorem RM.nlen {S : aw_S} {m ρ : Nat → Nat} {Z : List Nat × Nat} {mb : Nat} {P : PS} (h : RM S m ρ Z mb P) : sI S 745 (m 33) = nI (pM P).length := h.2.1.2.2.2.2.1
theorem RM.rep {S : aw_S} {m ρ : Nat → Nat} {Z : List Nat × Nat} {mb : Nat} {P : PS} (h : RM S m ρ Z mb P) {z : Tz} (hz : LvT P z) : RepM S m ρ z.1 z.2 := h.2.2.2.2.2.2.1.2.2.2.1 z hz
theorem RM.root {S : aw_S} {m ρ : Nat → Nat} {Z : List Nat × Nat} {mb : Nat} {P : PS} (h : RM S m ρ Z mb P) {i : Int32} {z : Tz} (hz : rootP P i = some z) : ∃ j, i = nI j ∧ j < (pM P).length ∧ sA S (m 17) j = nI (ρ z.2.1) := by
  obtain ⟨j, x, h1, h2, h3, h4, -⟩ := rootP_mem hz
  exact ⟨j, h1, h2, by rw [← h4]; exact (h.2.2.1 j x h3).1⟩
theorem PI.tz {P : PS} (hP : PI P) {z : Tz} (hz : LvT P z) : tok (pW P) (pU P) (pTk P) z := by
  rcases hz with ⟨i, x, h1, h2, -⟩ | ⟨j, b, -, h2, h3⟩
  · rw [← h2]
    exact hP.2.1 x (List.mem_of_getElem? h1)
  · rw [← h3]
    exact (hP.2.2.1 j b h2).2.1
/-- nodes that grow -/
theorem RN.gm {S S2 : aw_S} {m ρ ρ2 : Nat → Nat} {Z Z2 : List Nat × Nat} {u2 tk : Nat} {L : List (Nat × Nat)} {P P2 : PS} (h : RN S m ρ Z P) (g : GM S S2 m ρ ρ2 (pU P) u2 Z Z2 tk L) (hLP : ∀ y ∈ L, y.2 = tk → LvN P y.1) (hT : ∀ z, LvT P2 z → (LvT P z ∧ ∀ x ∈ ndl z.1 z.2, ∀ y ∈ L, y.2 = tk → x.1 ≠ y.1) ∨ (RepM S2 m ρ2 z.1 z.2 ∧ ∀ x ∈ ndl z.1 z.2, PN (LvN P) (pU P) u2 x.1)) (eU : pU P2 = u2) (eM : pMd P2 = pMd P + nI (u2 - pU P)) : RN S2 m ρ2 Z2 P2 := by
  obtain ⟨h1, h2, h3, h4, h5⟩ := h
  have gF := g.F
  refine ⟨gF.1, gF.2.1, ?_, fun z hz => ?_, ?_⟩
  · rw [eU]
    refine (g.al h3).sub (fun i hi => ?_)
    obtain ⟨z, hz, y, hy, e⟩ := hi
    rcases hT z hz with ⟨h9, -⟩ | ⟨-, h9⟩
    · exact Or.inl ⟨z, h9, y, hy, e⟩
    · rw [← e]; exact h9 y hy
  · rcases hT z hz with ⟨h9, h8⟩ | ⟨h9, -⟩
    · exact g.rp h3 (h4 z h9) (fun x hx => ⟨z, h9, x, hx, rfl⟩) hLP h8
    · exact h9
  · rw [eM, ← h5]
    exact g.2.2.2.2.2.2.2.2.1
