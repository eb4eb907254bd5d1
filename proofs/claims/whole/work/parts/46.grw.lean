theorem lw_in {S : aw_S} {v : Nat → Nat} (hL : LW S v) : ∀ k, k < 37 → v k ∈ sL S := by
  intro k hk
  match k, hk with
  | 0, _ => exact (lw_i0 hL).1
  | 1, _ => exact (lw_i1 hL).1
  | 2, _ => exact (lw_i2 hL).1
  | 3, _ => exact (lw_i3 hL).1
  | 4, _ => exact (lw_i4 hL).1
  | 5, _ => exact (lw_i5 hL).1
  | 6, _ => exact (lw_i6 hL).1
  | 7, _ => exact (lw_i7 hL).1
  | 8, _ => exact (lw_i8 hL).1
  | 9, _ => exact (lw_i9 hL).1
  | 10, _ => exact (lw_i10 hL).1
  | 11, _ => exact (lw_i11 hL).1
  | 12, _ => exact (lw_i12 hL).1
  | 13, _ => exact (lw_i13 hL).1
  | 14, _ => exact (lw_i14 hL).1
  | 15, _ => exact (lw_i15 hL).1
  | 16, _ => exact (lw_i16 hL).1
  | 17, _ => exact (lw_i17 hL).1
  | 18, _ => exact (lw_i18 hL).1
  | 19, _ => exact (lw_i19 hL).1
  | 20, _ => exact (lw_i20 hL).1
  | 21, _ => exact (lw_i21 hL).1
  | 22, _ => exact (lw_i22 hL).1
  | 23, _ => exact (lw_i23 hL).1
  | 24, _ => exact (lw_i24 hL).1
  | 25, _ => exact (lw_i25 hL).1
  | 26, _ => exact (lw_i26 hL).1
  | 27, _ => exact (lw_i27 hL).1
  | 28, _ => exact (lw_i28 hL).1
  | 29, _ => exact (lw_i29 hL).1
  | 30, _ => exact (lw_i30 hL).1
  | 31, _ => exact (lw_i31 hL).1
  | 32, _ => exact (lw_i32 hL).1
  | 33, _ => exact (lw_i33 hL).1
  | 34, _ => exact (lw_i34 hL).1
  | 35, _ => exact (lw_i35 hL).1
  | 36, _ => exact (lw_i36 hL).1
  | k + 37, h => exact absurd h (by omega)
theorem LW_fr {S S2 : aw_S} {v : Nat → Nat} {Q : Nat → Prop} (hL : LW S v) (f : fr S S2 Q) (n13 : ¬ Q (v 13)) : LW S2 v := by
  have I := lw_in hL
  obtain ⟨c0, c1, c2, c3, c4, c5, c6, c7, c8, c9, c10, c11, c12, c13, c14, c15, c16, c17, c18, c19, c20, c21, c22, c23, c24, c25, c26, c27, c28, c29, c30, c31, c32, c33, c34, c35, c36, c37, c38, c39, c40, c41, c42, c43, c44, c45, c46, c47, c48, c49, c50, c51, c52, c53, c54, c55, c56, c57, c58, c59, c60, c61, c62, c63, c64, c65, c66, c67, c68, c69, c70, c71, c72, c73, c74, c75, c76, c77, c78, c79, c80, c81, c82, c83, c84, c85, c86, c87, c88, c89, c90, c91, c92, c93, c94, c95⟩ := hL
  exact ⟨f.is c0, ((f _ (I 4 (by decide))).1.2.2.2.1 640).trans c1, ((f _ (I 4 (by decide))).1.2.2.2.1 641).trans c2, ((f _ (I 4 (by decide))).1.2.2.2.1 642).trans c3, ((f _ (I 4 (by decide))).1.2.2.2.1 645).trans c4, ((f _ (I 4 (by decide))).1.2.2.2.1 646).trans c5, ((f _ (I 4 (by decide))).1.2.2.2.1 647).trans c6, ((f _ (I 4 (by decide))).1.2.2.2.1 648).trans c7, ((f _ (I 4 (by decide))).1.2.2.2.1 649).trans c8, ((f _ (I 4 (by decide))).1.2.2.2.1 650).trans c9, ((f _ (I 4 (by decide))).1.2.2.2.1 651).trans c10, ((f _ (I 4 (by decide))).1.2.2.2.1 652).trans c11, ((f _ (I 4 (by decide))).1.2.2.2.1 653).trans c12, ((f _ (I 4 (by decide))).1.2.2.2.1 654).trans c13, ((f _ (I 4 (by decide))).1.2.2.2.1 655).trans c14, f.is c15, ((f _ (I 0 (by decide))).1.2.2.2.1 576).trans c16, f.is c17, ((f _ (I 2 (by decide))).1.2.2.2.1 384).trans c18, f.is c19, f.is c20, ((f _ (I 6 (by decide))).1.2.2.2.1 192).trans c21, ((f _ (I 6 (by decide))).1.2.2.2.1 193).trans c22, ((f _ (I 6 (by decide))).1.2.2.2.1 194).trans c23, ((f _ (I 6 (by decide))).1.2.2.2.1 195).trans c24, ((f _ (I 6 (by decide))).1.2.2.2.1 196).trans c25, ((f _ (I 6 (by decide))).1.2.2.2.1 197).trans c26, f.is c27, f.is c28, f.is c29, f.is c30, f.is c31, ((f _ (I 19 (by decide))).1.2.2.2.1 512).trans c32, f.is c33, ((f _ (I 21 (by decide))).1.2.2.2.1 512).trans c34, f.is c35, ((f _ (I 23 (by decide))).1.2.2.2.1 512).trans c36, f.is c37, ((f _ (I 25 (by decide))).1.2.2.2.1 448).trans c38, ((f _ (I 25 (by decide))).1.2.2.2.1 449).trans c39, f.is c40, ((f _ (I 28 (by decide))).1.2.2.2.1 448).trans c41, ((f _ (I 28 (by decide))).1.2.2.2.1 449).trans c42, f.is c43, ((f _ (I 31 (by decide))).1.2.2.2.1 448).trans c44, ((f _ (I 31 (by decide))).1.2.2.2.1 449).trans c45, f.is c46, ((f _ (I 34 (by decide))).1.2.2.2.1 128).trans c47, ((f _ (I 34 (by decide))).1.2.2.2.1 129).trans c48, f.is c49, (f _ (I 1 (by decide))).1.2.2.1.trans c50, f.is c51, (f _ (I 3 (by decide))).1.2.2.1.trans c52, f.is c53, (f _ (I 7 (by decide))).1.2.2.1.trans c54, f.is c55, (f _ (I 8 (by decide))).1.2.2.1.trans c56, f.is c57, (f _ (I 9 (by decide))).1.2.2.1.trans c58, f.is c59, (f _ (I 10 (by decide))).1.2.2.1.trans c60, f.is c61, (f _ (I 11 (by decide))).1.2.2.1.trans c62, f.is c63, (f _ (I 12 (by decide))).1.2.2.1.trans c64, f.is c65, (f _ (I 13 (by decide))).1.2.2.1.trans c66, f.is c67, (f _ (I 18 (by decide))).1.2.2.1.trans c68, f.is c69, (f _ (I 20 (by decide))).1.2.2.1.trans c70, f.is c71, (f _ (I 22 (by decide))).1.2.2.1.trans c72, f.is c73, (f _ (I 24 (by decide))).1.2.2.1.trans c74, f.is c75, (f _ (I 26 (by decide))).1.2.2.1.trans c76, f.is c77, (f _ (I 27 (by decide))).1.2.2.1.trans c78, f.is c79, (f _ (I 29 (by decide))).1.2.2.1.trans c80, f.is c81, (f _ (I 30 (by decide))).1.2.2.1.trans c82, f.is c83, (f _ (I 32 (by decide))).1.2.2.1.trans c84, f.is c85, (f _ (I 33 (by decide))).1.2.2.1.trans c86, f.is c87, (f _ (I 35 (by decide))).1.2.2.1.trans c88, f.is c89, (f _ (I 36 (by decide))).1.2.2.1.trans c90, by rw [((f _ (I 13 (by decide))).2 n13).2.2]; exact c91, by rw [((f _ (I 13 (by decide))).2 n13).2.2]; exact c92, by rw [((f _ (I 13 (by decide))).2 n13).2.2]; exact c93, by rw [((f _ (I 13 (by decide))).2 n13).2.2]; exact c94, c95⟩
theorem fr_cell {S S2 : aw_S} {Q : Nat → Prop} (f : fr S S2 Q) {b : Nat} (hb : b ∈ sL S) (n : ¬ Q b) : b ∈ sL S2 ∧ cell S2 b = cell S b := by
  obtain ⟨⟨h1, h2, h3, h4, h5, h6, h7⟩, h8⟩ := f b hb
  obtain ⟨e1, e2, e3⟩ := h8 n
  refine ⟨h1, ?_⟩
  unfold cell
  rw [h2, h3, h6, e2, e3]
  exact congrArg (Prod.mk _) (congr (congrArg Prod.mk (funext e1)) (congr (congrArg Prod.mk (funext h4)) (congrArg (fun x => (x, _)) (funext h5))))
/-- nodes made and changed by a token -/
theorem RC.genF {S S2 : aw_S} {v ad ar ad2 ar2 : Nat → Nat} {PA : List (Nat × Nat)} {X : List Nat} {mb u2 tk : Nat} {L : List (Nat × Nat)} {P P2 : PS} (h : RC S v ad ar PA X mb P) (G : GR S S2 ad ar ad2 ar2 (pU P) u2 (v 5) tk L) (hLu : ∀ y ∈ L, y.1 < pU P) (eU : pU P2 = u2) (eG : pG P2 = pG P) (eT : pT P2 = pT P) (eR : pR P2 = pR P) (eS : pS P2 = pS P) (eW : pW P2 = pW P) (eK : pTk P2 = pTk P) (eD : pMd P2 = pMd P + nI (u2 - pU P)) (eM : pM P2 = pM P) (eH : pH P2 = pH P) (eI : pI P2 = pI P) (eY : pY P2 = pY P) (b : BuW S2 v ad2 P2) (tm : ∀ x ∈ pM P, ∀ y ∈ ndl x.1.1 x.1.2, ∀ q ∈ L, q.2 = tk → q.1 ≠ y.1) (tb : ∀ j b, pB P2 j = some b → TrW S2 ad2 ar2 u2 b.1) : RC S2 v ad2 ar2 PA X mb P2 ∧ keepX X S S2 := by
  obtain ⟨hL, hG, hM, hB, hR, hP, hT, hS, hN, hK, hV⟩ := h
  obtain ⟨g1, g2, g3, g4, g5, f⟩ := id G
  obtain ⟨v1, v2, v3, v4⟩ := hV
  have og := lw_i5 hL
  have I := lw_in hL
  have nv : ∀ j, j < 37 → j ≠ 5 → ¬ GP ad ar (v 5) tk L (v j) := fun j hj h5 z => by
    rcases z with z | ⟨y, hy, -, z | z⟩
    · exact h5 (lw_inj hL j 5 hj (by decide) z)
    · exact ((v4 y.1 (hLu y hy)).1 j hj).1 z.symm
    · exact ((v4 y.1 (hLu y hy)).1 j hj).2 z.symm
  have nq : ∀ q ∈ PA, (q.1 ∈ sL S → ¬ GP ad ar (v 5) tk L q.1) ∧ (q.2 ∈ sL S → ¬ GP ad ar (v 5) tk L q.2) := fun q hq => ⟨fun _ z => by
    rcases z with z | ⟨y, hy, -, z | z⟩
    · exact (v1 q hq 5 (by decide)).1 z
    · exact ((v4 y.1 (hLu y hy)).2.1 q hq).1.1 z.symm
    · exact ((v4 y.1 (hLu y hy)).2.1 q hq).2.1 z.symm, fun _ z => by
    rcases z with z | ⟨y, hy, -, z | z⟩
    · exact (v1 q hq 5 (by decide)).2 z
    · exact ((v4 y.1 (hLu y hy)).2.1 q hq).1.2 z.symm
    · exact ((v4 y.1 (hLu y hy)).2.1 q hq).2.2 z.symm⟩
  have pg : ∀ q ∈ PA, ∀ {p : List ST}, PgW S q p → PgW S2 q p := fun q hq p h => h.fr f ((nq q hq).1 h.1.1) ((nq q hq).2 h.2.2.1.1)
  have fi : ∀ j, j < 37 → j ≠ 5 → ∀ F, sI S2 F (v j) = sI S F (v j) := fun j hj h5 => ((f _ (I j hj)).2 (nv j hj h5)).1
  have fa : ∀ j, j < 37 → j ≠ 5 → sA S2 (v j) = sA S (v j) := fun j hj h5 => ((f _ (I j hj)).2 (nv j hj h5)).2.1
  have fq : ∀ j, j < 37 → j ≠ 5 → sQ S2 (v j) = sQ S (v j) := fun j hj h5 => ((f _ (I j hj)).2 (nv j hj h5)).2.2
  have fR : ∀ j, j < 37 → ∀ F, sR S2 F (v j) = sR S F (v j) := fun j hj => (f _ (I j hj)).1.2.2.2.1
  refine ⟨⟨LW_fr hL f (nv 13 (by decide) (by decide)), ⟨?_, ?_, ?_⟩, ?_, b, ?_, ?_, ?_, ?_, ⟨by rw [eU]; exact g3, fun x hx => ?_, fun j b hb => by rw [eU]; exact tb j b hb⟩, ?_, v1, v2, fun b hb => ⟨(f _ (v3 b hb).1).1.1, (v3 b hb).2⟩, fun i hi => ?_⟩, fun b hb => fr_cell f (v3 b hb).1 (fun z => ?_)⟩
  · rw [g5.2.1, eW]; exact hG.1
  · rw [g5.1, eD, hG.2.1]
  · rw [g5.2.2, eK]; exact hG.2.2
  · obtain ⟨m1, m2, m3, m4, m5, m6, m7⟩ := hM
    unfold MaW
    rw [fi 6 (by decide) (by decide), fi 6 (by decide) (by decide), fi 6 (by decide) (by decide), fq 7 (by decide) (by decide), fa 8 (by decide) (by decide), fa 9 (by decide) (by decide), fa 10 (by decide) (by decide), fa 11 (by decide) (by decide), eM, eH, eI, eY]
    refine ⟨m1, m2, m3, m4, fun i x hx => ?_, m6, m7⟩
    obtain ⟨q1, q2, q3⟩ := m5 i x hx
    exact ⟨by rw [q1, (g2 _ ((hN.2.1 x (List.mem_of_getElem? hx)).2 _ (mem_own _))).1], q2, q3⟩
  · unfold ReW
    rw [fa 18 (by decide) (by decide), eR]
    exact hR
  · obtain ⟨p1, p2, p3, p4, ⟨q, p, p5, p6, p7⟩, p8⟩ := hP
    unfold PrW
    rw [eG]
    refine ⟨(fi 4 (by decide) (by decide) 644).trans p1, p2, p3, fun i p hp => ?_, ⟨q, p, p5, (fR 4 (by decide) 643).trans p6, pg q (List.mem_of_getElem? p5) p7⟩, by rw [fq 3 (by decide) (by decide)]; exact p8⟩
    obtain ⟨q, h1, h2, h3⟩ := p4 i p hp
    exact ⟨q, h1, by rw [fq 3 (by decide) (by decide)]; exact h2, pg q (List.mem_of_getElem? h1) h3⟩
  · unfold TaW
    rw [fi 0 (by decide) (by decide), fa 1 (by decide) (by decide), eT]
    exact hT
  · rw [eS]
    exact hS.fr f (nv 19 (by decide) (by decide)) (nv 20 (by decide) (by decide))
  · rw [eM] at hx
    refine ⟨RepW.gr hN.1 og G (hN.2.1 x hx).1 (fun y hy => ⟨(hN.2.1 x hx).2 y hy, fun q hq hk => ⟨hLu q hq, tm x hx y hy q hq hk⟩⟩), fun y hy => ?_⟩
    rw [eU]
    exact Nat.lt_of_lt_of_le ((hN.2.1 x hx).2 y hy) g1
  · obtain ⟨k0, mr, k1, k2, k3⟩ := hK
    refine ⟨k0, mr, k1, (fi 4 (by decide) (by decide) 656).trans k2, fun i hi => ?_⟩
    rw [eU] at hi
    by_cases hiu : i < pU P
    · obtain ⟨m, q1, q2⟩ := k3 i hiu
      rw [(g2 i hiu).1, (f _ (hN.1 i hiu).1.1.1).1.2.2.2.2.2.2 260 (Or.inl rfl)]
      exact ⟨m, q1, q2⟩
    · exact ⟨0, Nat.zero_le _, by rw [(g4 i (Nat.le_of_not_lt hiu) hi).2.2, nI_0]⟩
  · rw [eU] at hi
    by_cases hiu : i < pU P
    · rw [(g2 i hiu).1, (g2 i hiu).2]
      exact v4 i hiu
    · obtain ⟨q1, q2, -⟩ := g4 i (Nat.le_of_not_lt hiu) hi
      have pin : ∀ q ∈ PA, q.1 ∈ sL S ∧ q.2 ∈ sL S := fun q hq => by
        obtain ⟨p1, p2, p3, p4, ⟨qd, p, p5, p6, p7⟩, p8⟩ := hP
        obtain ⟨k, hk, e⟩ := List.mem_iff_getElem.mp hq
        by_cases hkl : k < (pG P).length
        · obtain ⟨q0, h1, h2, h3⟩ := p4 k _ (List.getElem?_eq_getElem hkl)
          rw [List.getElem?_eq_getElem hk, e] at h1
          cases h1
          exact ⟨h3.1.1, h3.2.2.1.1⟩
        · have hk2 : k = (pG P).length := by omega
          subst hk2
          rw [List.getElem?_eq_getElem hk, e] at p5
          cases p5
          exact ⟨p7.1.1, p7.2.2.1.1⟩
      exact ⟨fun k hk => ⟨fun z => q1 (z ▸ I k hk), fun z => q2 (z ▸ I k hk)⟩, fun q hq => ⟨⟨fun z => q1 (z ▸ (pin q hq).1), fun z => q1 (z ▸ (pin q hq).2)⟩, fun z => q2 (z ▸ (pin q hq).1), fun z => q2 (z ▸ (pin q hq).2)⟩, fun b hb => ⟨fun z => q1 (z ▸ (v3 b hb).1), fun z => q2 (z ▸ (v3 b hb).1)⟩⟩
  · rcases z with z | ⟨y, hy, -, z | z⟩
    · exact (v3 b hb).2.1 5 (by decide) z
    · exact ((v4 y.1 (hLu y hy)).2.2 b hb).1 z.symm
    · exact ((v4 y.1 (hLu y hy)).2.2 b hb).2 z.symm
/-- more nodes were made -/
def setU (P : PS) (u : Nat) : PS := ((pW P, pMd P + nI (u - pU P), pTk P, u), pM P, pH P, pI P, pY P, pB P, pR P, pG P, pT P, pS P)
theorem TrW.gr {S S2 : aw_S} {ad ar ad2 ar2 : Nat → Nat} {u u2 g tk : Nat} {L : List (Nat × Nat)} {z : Tz} (hA : AD S ad ar u) (og : aw_is S g 1) (G : GR S S2 ad ar ad2 ar2 u u2 g tk L) (hLu : ∀ y ∈ L, y.1 < u) (t : TrW S ad ar u z) (hn : ∀ y ∈ ndl z.1 z.2, ∀ q ∈ L, q.2 = tk → q.1 ≠ y.1) : TrW S2 ad2 ar2 u2 z := ⟨RepW.gr hA og G t.1 (fun y hy => ⟨t.2 y hy, fun q hq hk => ⟨hLu q hq, hn y hy q hq hk⟩⟩), fun y hy => Nat.lt_of_lt_of_le (t.2 y hy) G.1⟩
/-- a token that no map's and no builder's node has -/
theorem RC.grow {S S2 : aw_S} {v ad ar ad2 ar2 : Nat → Nat} {PA : List (Nat × Nat)} {X : List Nat} {mb u2 tk : Nat} {L : List (Nat × Nat)} {P : PS} (h : RC S v ad ar PA X mb P) (G : GR S S2 ad ar ad2 ar2 (pU P) u2 (v 5) tk L) (hLu : ∀ y ∈ L, y.1 < pU P) (tm : ∀ x ∈ pM P, ∀ y ∈ ndl x.1.1 x.1.2, ∀ q ∈ L, q.2 = tk → q.1 ≠ y.1) (tb : ∀ j b, pB P j = some b → ∀ y ∈ ndl b.1.1 b.1.2, ∀ q ∈ L, q.2 = tk → q.1 ≠ y.1) : RC S2 v ad2 ar2 PA X mb (setU P u2) ∧ keepX X S S2 := by
  have hN := h.2.2.2.2.2.2.2.2.1
  have hL := h.L
  have I := lw_in hL
  have v4 := h.2.2.2.2.2.2.2.2.2.2.2.2.2
  refine RC.genF (P2 := setU P u2) h G hLu rfl rfl rfl rfl rfl rfl rfl rfl rfl rfl rfl rfl ?_ tm (fun j b hb => TrW.gr hN.1 (lw_i5 hL) G hLu (hN.2.2 j b hb) (tb j b hb))
  intro j hj
  have f := G.2.2.2.2.2
  have nv : ¬ GP ad ar (v 5) tk L (v (14 + j)) := fun z => by
    rcases z with z | ⟨y, hy, -, z | z⟩
    · have := lw_inj hL (14 + j) 5 (by omega) (by decide) z
      omega
    · exact ((v4 y.1 (hLu y hy)).1 (14 + j) (by omega)).1 z.symm
    · exact ((v4 y.1 (hLu y hy)).1 (14 + j) (by omega)).2 z.symm
  obtain ⟨⟨-, -, -, e1, -⟩, e2⟩ := f _ (I (14 + j) (by omega))
  refine ⟨fun hb => (e1 0).trans ((h.2.2.2.1 j hj).1 hb), fun b hb => ?_⟩
  obtain ⟨q1, q2, q3⟩ := (h.2.2.2.1 j hj).2 b hb
  refine ⟨(e1 0).trans ?_, ((e2 nv).1 1).trans q2, ((e2 nv).1 2).trans q3⟩
  rw [q1, (G.2.1 _ ((hN.2.2 j b hb).2 _ (mem_own _))).1]
