/-! the state changes in the class's own fixed cells -/
theorem RC.gen {S S2 : aw_S} {v ad ar : Nat → Nat} {PA : List (Nat × Nat)} {X : List Nat} {mb : Nat} {P P2 : PS} {Q : Nat → Prop} (h : RC S v ad ar PA X mb P) (f : frS S S2 Q) (hQ : ∀ b, Q b → ∃ k, k < 37 ∧ b = v k) (n13 : ¬ Q (v 13)) (n3 : ¬ Q (v 3)) (e644 : sI S2 644 (v 4) = sI S 644 (v 4)) (e656 : sI S2 656 (v 4) = sI S 656 (v 4)) (eU : pU P2 = pU P) (eG : pG P2 = pG P) (g : GrW S2 v P2) (m : MaW S2 v ad P2) (b : BuW S2 v ad P2) (r : ReW S2 v P2) (t : TaW S2 v P2) (s : ShW S2 (v 19) (v 20) (pS P2)) (tm : ∀ x ∈ pM P2, TrW S ad ar (pU P) x.1) (tb : ∀ j b, pB P2 j = some b → TrW S ad ar (pU P) b.1) : RC S2 v ad ar PA X mb P2 ∧ keepX X S S2 := by
  obtain ⟨hL, hG, hM, hB, hR, hP, hT, hS, hN, hK, hV⟩ := h
  obtain ⟨f1, f2, f3, f4, f5, f6, f7, f8⟩ := id f
  obtain ⟨v1, v2, v3, v4⟩ := hV
  have np : ∀ q ∈ PA, ¬ Q q.1 ∧ ¬ Q q.2 := fun q hq => ⟨fun z => by obtain ⟨k, hk, e⟩ := hQ _ z; exact (v1 q hq k hk).1 e, fun z => by obtain ⟨k, hk, e⟩ := hQ _ z; exact (v1 q hq k hk).2 e⟩
  have nn : ∀ i, i < pU P → ¬ Q (ad i) ∧ ¬ Q (ar i) := fun i hi => ⟨fun z => by obtain ⟨k, hk, e⟩ := hQ _ z; exact ((v4 i hi).1 k hk).1 e, fun z => by obtain ⟨k, hk, e⟩ := hQ _ z; exact ((v4 i hi).1 k hk).2 e⟩
  have rep : ∀ z : Tz, TrW S ad ar (pU P) z → TrW S2 ad ar (pU P2) z := fun z r => ⟨RepW_fr f.fr z.1 r.1 (fun x hx => ⟨(nn x.1 (r.2 x hx)).1, (nn x.1 (r.2 x hx)).2, rfl, rfl⟩), by rw [eU]; exact r.2⟩
  refine ⟨⟨LW_eq hL f1 f2 f3 f4 (f8 _ n13).2.2, g, m, b, r, ?_, t, s, ⟨by rw [eU]; exact hN.1.frn f.fr, fun x hx => rep _ (tm x hx), fun j b hb => rep _ (tb j b hb)⟩, ?_, ⟨v1, v2, fun b hb => ⟨by rw [f1]; exact (v3 b hb).1, (v3 b hb).2⟩, by rw [eU]; exact v4⟩⟩, fun b hb => ⟨by rw [f1]; exact (v3 b hb).1, frS_cell f (fun z => by obtain ⟨k, hk, e⟩ := hQ _ z; exact (v3 b hb).2.1 k hk e)⟩⟩
  · obtain ⟨p1, p2, p3, p4, ⟨q, p, p5, p6, p7⟩, p8⟩ := hP
    unfold PrW
    rw [eG]
    refine ⟨e644.trans p1, p2, p3, fun i p hp => ?_, ⟨q, p, p5, by rw [f3]; exact p6, p7.fr f.fr (np q (List.mem_of_getElem? p5)).1 (np q (List.mem_of_getElem? p5)).2⟩, by rw [(f8 _ n3).2.2]; exact p8⟩
    obtain ⟨q, h1, h2, h3⟩ := p4 i p hp
    exact ⟨q, h1, by rw [(f8 _ n3).2.2]; exact h2, h3.fr f.fr (np q (List.mem_of_getElem? h1)).1 (np q (List.mem_of_getElem? h1)).2⟩
  · obtain ⟨k0, mr, k1, k2, k3⟩ := hK
    refine ⟨k0, mr, k1, e656.trans k2, fun i hi => ?_⟩
    rw [f7 _ 260 (Or.inl rfl)]
    exact k3 i (by rw [← eU]; exact hi)
theorem GrW.fr {S S2 : aw_S} {v : Nat → Nat} {P P2 : PS} {Q : Nat → Prop} (h : GrW S v P) (f : frS S S2 Q) (n : ¬ Q (v 5)) (e1 : pW P2 = pW P) (e2 : pMd P2 = pMd P) (e3 : pTk P2 = pTk P) : GrW S2 v P2 := by
  obtain ⟨a, -⟩ := f.2.2.2.2.2.2.2 _ n
  unfold GrW
  rw [a, a, a, e1, e2, e3]
  exact h
theorem MaW.fr {S S2 : aw_S} {v ad : Nat → Nat} {P P2 : PS} {Q : Nat → Prop} (h : MaW S v ad P) (f : frS S S2 Q) (n : ∀ j, 6 ≤ j → j ≤ 11 → ¬ Q (v j)) (e1 : pM P2 = pM P) (e2 : pH P2 = pH P) (e3 : pI P2 = pI P) (e4 : pY P2 = pY P) : MaW S2 v ad P2 := by
  have g := f.2.2.2.2.2.2.2
  unfold MaW
  rw [(g _ (n 6 (by decide) (by decide))).1, (g _ (n 6 (by decide) (by decide))).1, (g _ (n 6 (by decide) (by decide))).1, (g _ (n 7 (by decide) (by decide))).2.2, (g _ (n 8 (by decide) (by decide))).2.1, (g _ (n 9 (by decide) (by decide))).2.1, (g _ (n 10 (by decide) (by decide))).2.1, (g _ (n 11 (by decide) (by decide))).2.1, e1, e2, e3, e4]
  exact h
theorem BuW.fr {S S2 : aw_S} {v ad : Nat → Nat} {P P2 : PS} {Q : Nat → Prop} (h : BuW S v ad P) (f : frS S S2 Q) (n : ∀ j, j < 4 → ¬ Q (v (14 + j))) (e1 : pB P2 = pB P) : BuW S2 v ad P2 := by
  have g := f.2.2.2.2.2.2.2
  intro j hj
  rw [f.2.2.1, (g _ (n j hj)).1, (g _ (n j hj)).1, e1]
  exact h j hj
theorem ReW.fr {S S2 : aw_S} {v : Nat → Nat} {P P2 : PS} {Q : Nat → Prop} (h : ReW S v P) (f : frS S S2 Q) (n : ¬ Q (v 18)) (e1 : pR P2 = pR P) : ReW S2 v P2 := by
  unfold ReW
  rw [(f.2.2.2.2.2.2.2 _ n).2.1, e1]
  exact h
theorem TaW.fr {S S2 : aw_S} {v : Nat → Nat} {P P2 : PS} {Q : Nat → Prop} (h : TaW S v P) (f : frS S S2 Q) (n0 : ¬ Q (v 0)) (n1 : ¬ Q (v 1)) (e1 : pT P2 = pT P) : TaW S2 v P2 := by
  unfold TaW
  rw [(f.2.2.2.2.2.2.2 _ n0).1, (f.2.2.2.2.2.2.2 _ n1).2.1, e1]
  exact h
/-- cells told by their places -/
def Qk (v : Nat → Nat) (ks : List Nat) (b : Nat) : Prop := ∃ k ∈ ks, b = v k
theorem Qk_no {S : aw_S} {v : Nat → Nat} (hL : LW S v) {ks : List Nat} {j : Nat} (hk : ∀ k ∈ ks, k < 37) (hj : j < 37) (hn : j ∉ ks) : ¬ Qk v ks (v j) := fun ⟨k, h1, e⟩ => hn (by rw [lw_inj hL j k hj (hk k h1) e]; exact h1)
/-- what was shown latest is another text -/
def setS (P : PS) (B : List Nat) : PS := (P.1, pM P, pH P, pI P, pY P, pB P, pR P, pG P, pT P, B)
theorem RC.shown {S S2 : aw_S} {v ad ar : Nat → Nat} {PA : List (Nat × Nat)} {X : List Nat} {mb : Nat} {P : PS} {B : List Nat} (h : RC S v ad ar PA X mb P) (f : frS S S2 (Qsh (v 19) (v 20))) (s : ShW S2 (v 19) (v 20) B) : RC S2 v ad ar PA X mb (setS P B) ∧ keepX X S S2 := by
  have hL := h.L
  have f2 : frS S S2 (Qk v [19, 20]) := f.mono (fun b z => z.elim (fun y => ⟨19, by decide, y⟩) (fun y => ⟨20, by decide, y⟩))
  have no : ∀ j, j < 19 → ¬ Qk v [19, 20] (v j) := fun j hj => Qk_no hL (by decide) (by omega) (by simp; omega)
  refine RC.gen (P2 := setS P B) h f2 (fun b ⟨k, hk, e⟩ => ⟨k, (by decide : ∀ k ∈ ([19, 20] : List Nat), k < 37) k hk, e⟩) (no 13 (by decide)) (no 3 (by decide)) ((f2.2.2.2.2.2.2.2 _ (no 4 (by decide))).1 _) ((f2.2.2.2.2.2.2.2 _ (no 4 (by decide))).1 _) rfl rfl (GrW.fr h.2.1 f2 (no 5 (by decide)) rfl rfl rfl) (MaW.fr h.2.2.1 f2 (fun j _ hj => no j (by omega)) rfl rfl rfl rfl) (BuW.fr h.2.2.2.1 f2 (fun j hj => no _ (by omega)) rfl) (ReW.fr h.2.2.2.2.1 f2 (no 18 (by decide)) rfl) (TaW.fr h.2.2.2.2.2.2.1 f2 (no 0 (by decide)) (no 1 (by decide)) rfl) s h.2.2.2.2.2.2.2.2.1.2.1 h.2.2.2.2.2.2.2.2.1.2.2
