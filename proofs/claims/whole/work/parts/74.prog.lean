/-! a program told -/
theorem in_eq {L : List Nat} {x y : Nat} (h : x ∈ L) (e : y = x) : y ∈ L := by rw [e]; exact h
theorem fr_keeps {S S1 S2 : aw_S} {P : Nat → Prop} {a : Nat} (h : fr S S1 P) (k : keeps S1 S2 (fun b => b = a)) (n : a ∉ sL S) : fr S S2 P := fun b hb => by
  obtain ⟨⟨h1, h2, h3, h4, h5, h6, h7⟩, h8⟩ := h b hb
  obtain ⟨k1, k2⟩ := k b h1
  have e := k2 (fun z => n (z ▸ hb))
  have e1 : sK S2 b = sK S1 b := congrArg cK e
  have e2 : ∀ F, sI S2 F b = sI S1 F b := fun F => congrFun (congrArg cI e) F
  have e3 : ∀ F, sR S2 F b = sR S1 F b := fun F => congrFun (congrArg cR e) F
  have e4 : ∀ F, sJ S2 F b = sJ S1 F b := fun F => congrFun (congrArg (fun c : aw_C => c.2.2.2.1) e) F
  have e5 : sN S2 b = sN S1 b := congrArg cN e
  have e6 : sA S2 b = sA S1 b := congrArg cA e
  have e7 : sQ S2 b = sQ S1 b := congrArg cQ e
  have e8 : sB S2 b = sB S1 b := congrArg (fun c : aw_C => c.2.2.2.2.2.2.2) e
  exact ⟨⟨k1, e1.trans h2, e5.trans h3, fun F => (e3 F).trans (h4 F), fun F => (e4 F).trans (h5 F), e8.trans h6, fun F hF => (e2 F).trans (h7 F hF)⟩, fun hn => ⟨fun F => (e2 F).trans ((h8 hn).1 F), e6.trans (h8 hn).2.1, e7.trans (h8 hn).2.2⟩⟩
theorem made_pg {S S2 : aw_S} {a q7 : Nat} (m : made S S2 a ((a, pO 5 [] [(320, some q7)]) :: [(q7, pA 13 64)])) (ha : a ∈ sL S) : PgW S2 (a, q7) [] ∧ a ≠ q7 ∧ q7 ∉ sL S := by
  have i5 : aw_is S2 a 5 := made_is m
  obtain ⟨i13, n64⟩ := made_arr (L1 := []) (L2 := []) (kd := 13) (N := 64) m (fun c z => ⟨z.1, z.2.1⟩)
  have ne : a ≠ q7 := ne_of_kind i5 i13 (by decide)
  have h0 := (m.2.1.in (a := a) List.mem_cons_self).2
  refine ⟨⟨i5, made_at (G := 320) m rfl, i13, n64, ?_, Nat.zero_le _, fun i s hs => absurd hs (by simp)⟩, ne, ?_⟩
  · exact h0.2.1 321
  · exact (m.2.2 (q7, pA 13 64) (List.mem_cons_of_mem _ List.mem_cons_self)).elim (fun z => absurd z.symm ne) id
/-- the heap behind a program told -/
def npH (S : aw_S) (v : Nat → Nat) (a n : Nat) : aw_S := wI (wI (wR S 643 (v 4) (some a)) 577 (v 0) 0) 644 (v 4) (nI (n + 1))
theorem RepW_np {S : aw_S} {v ad ar : Nat → Nat} {a n : Nat} : ∀ (h : Nat) {t : Tr h}, RepW S ad ar h t → RepW (npH S v a n) ad ar h t
  | 0, _, r => r
  | h + 1, _, r => ⟨r.1, fun c hc => RepW_np h (r.2 c hc)⟩
theorem LW_np {S : aw_S} {v : Nat → Nat} {a n : Nat} (hL : LW S v) : LW (npH S v a n) v := hL
def addG (P : PS) (g : List ST) : PS := (P.1, pM P, pH P, pI P, pY P, pB P, pR P, pG P ++ [g], pT P, pS P)
theorem RC.pin {S : aw_S} {v ad ar : Nat → Nat} {PA : List (Nat × Nat)} {X : List Nat} {mb : Nat} {P : PS} (h : RC S v ad ar PA X mb P) : ∀ q ∈ PA, q.1 ∈ sL S ∧ q.2 ∈ sL S := fun q hq => by
  obtain ⟨p1, p2, p3, p4, ⟨q5, p, p5, p6, p7⟩, p8⟩ := h.2.2.2.2.2.1
  obtain ⟨i, hi⟩ := List.mem_iff_getElem?.mp hq
  have hl := (List.getElem?_eq_some_iff.mp hi).1
  by_cases hn : i < (pG P).length
  · obtain ⟨r, h1, h2, h3⟩ := p4 i _ (List.getElem?_eq_getElem hn)
    cases h1.symm.trans hi
    exact ⟨h3.1.1, h3.2.2.1.1⟩
  · have e : i = (pG P).length := by omega
    subst e
    cases p5.symm.trans hi
    exact ⟨p7.1.1, p7.2.2.1.1⟩
theorem RC_np {S S5 : aw_S} {v ad ar : Nat → Nat} {PA : List (Nat × Nat)} {X : List Nat} {mb : Nat} {P : PS} {q : Nat × Nat} {g : List ST} {a q7 : Nat} (h : RC S v ad ar PA X mb P) (hn : (pG P).length < 4) (hq : PA[(pG P).length]? = some q) (hg : PgW S q g) (f : fr S S5 (fun b => b = v 3)) (eQ : ∀ j, sQ S5 (v 3) j = if j = (pG P).length then some q.1 else sQ S (v 3) j) (hp : PgW S5 (a, q7) []) (ha : a ∉ sL S) (h7 : q7 ∉ sL S) (hne : a ≠ q7) : RC (npH S5 v a (pG P).length) v ad ar (PA ++ [(a, q7)]) X mb (setTp (addG P g) []) ∧ keepX X S (npH S5 v a (pG P).length) := by
  have hpin := h.pin
  obtain ⟨hL, hG, hM, hB, hR, hP, hT, hS, hN, hK, hV⟩ := h
  obtain ⟨v1, v2, v3, v4⟩ := hV
  have I := lw_in hL
  have n3 : ∀ j, j < 37 → j ≠ 3 → ¬ v j = v 3 := fun j hj h3 z => h3 (lw_inj hL j 3 hj (by decide) z)
  have fi : ∀ j, j < 37 → j ≠ 3 → ∀ F, sI S5 F (v j) = sI S F (v j) := fun j hj h3 => ((f _ (I j hj)).2 (n3 j hj h3)).1
  have fa : ∀ j, j < 37 → j ≠ 3 → sA S5 (v j) = sA S (v j) := fun j hj h3 => ((f _ (I j hj)).2 (n3 j hj h3)).2.1
  have fq : ∀ j, j < 37 → j ≠ 3 → sQ S5 (v j) = sQ S (v j) := fun j hj h3 => ((f _ (I j hj)).2 (n3 j hj h3)).2.2
  have fR : ∀ j, j < 37 → ∀ F, sR S5 F (v j) = sR S F (v j) := fun j hj => (f _ (I j hj)).1.2.2.2.1
  have iT : ∀ F b, F ≠ 577 → F ≠ 644 → sI (npH S5 v a (pG P).length) F b = sI S5 F b := fun F b e1 e2 => by
    unfold npH
    rw [sI_wI, if_neg (fun z => e2 z.1), sI_wI, if_neg (fun z => e1 z.1)]
    rfl
  have pg : ∀ {q : Nat × Nat} {p : List ST}, q ∈ PA → PgW S q p → PgW (npH S5 v a (pG P).length) q p := fun {q p} hq h => (PgW.fr h f (v1 q hq 3 (by decide)).1 (v1 q hq 3 (by decide)).2 : PgW S5 q p)
  have rep : ∀ z : Tz, TrW S ad ar (pU P) z → TrW (npH S5 v a (pG P).length) ad ar (pU P) z := fun z r => ⟨RepW_np z.1 (RepW_fr f z.1 r.1 (fun x hx => ⟨((v4 x.1 (r.2 x hx)).1 3 (by decide)).1, ((v4 x.1 (r.2 x hx)).1 3 (by decide)).2, rfl, rfl⟩)), r.2⟩
  have hA := hN.1
  have hA5 : AD S5 ad ar (pU P) := hA.frn f
  have hS5 : ShW S5 (v 19) (v 20) (pS P) := hS.fr f (n3 19 (by decide) (by decide)) (n3 20 (by decide) (by decide))
  refine ⟨⟨LW_np (LW_fr hL f (n3 13 (by decide) (by decide))), ⟨?_, ?_, ?_⟩, ?_, fun j hj => ?_, fun k hk => ?_, ?_, ⟨?_, Nat.zero_le _, fun i x hx => absurd hx (by simp [setTp, pT])⟩, hS5, ⟨hA5, fun x hx => rep _ (hN.2.1 x hx), fun j b hb => rep _ (hN.2.2 j b hb)⟩, ?_, ?_⟩, fun b hb => ?_⟩
  · rw [iT _ _ (by decide) (by decide), fi 5 (by decide) (by decide)]; exact hG.1
  · rw [iT _ _ (by decide) (by decide), fi 5 (by decide) (by decide)]; exact hG.2.1
  · rw [iT _ _ (by decide) (by decide), fi 5 (by decide) (by decide)]; exact hG.2.2
  · unfold MaW
    rw [iT _ _ (by decide) (by decide), iT _ _ (by decide) (by decide), iT _ _ (by decide) (by decide), fi 6 (by decide) (by decide), fi 6 (by decide) (by decide), fi 6 (by decide) (by decide)]
    show _ ∧ _ ∧ _ ∧ _ ∧ (∀ i x, _ → sQ S5 (v 7) i = _ ∧ sA S5 (v 8) i = _ ∧ sA S5 (v 9) i = _) ∧ (∀ i, _ → sA S5 (v 10) i = _ ∧ sA S5 (v 11) i = _) ∧ _
    rw [fq 7 (by decide) (by decide), fa 8 (by decide) (by decide), fa 9 (by decide) (by decide), fa 10 (by decide) (by decide), fa 11 (by decide) (by decide)]
    exact hM
  · rw [iT _ _ (by decide) (by decide), iT _ _ (by decide) (by decide), fi (14 + j) (by omega) (by omega), fi (14 + j) (by omega) (by omega)]
    show (_ → sR S5 0 (v (14 + j)) = none) ∧ ∀ b, _ → sR S5 0 (v (14 + j)) = _ ∧ _
    rw [fR (14 + j) (by omega)]
    exact hB j hj
  · show sA S5 (v 18) k = _
    rw [fa 18 (by decide) (by decide)]
    exact hR k hk
  · obtain ⟨p1, p2, p3, p4, ⟨q5, p, p5, p6, p7⟩, p8⟩ := hP
    have eG : pG (setTp (addG P g) []) = pG P ++ [g] := rfl
    unfold PrW
    rw [eG, List.length_append, List.length_singleton]
    refine ⟨wI_at, by omega, by rw [List.length_append, List.length_singleton]; omega, fun i p hp => ?_, ⟨(a, q7), [], ?_, ?_, hp⟩, fun i h1 h2 => ?_⟩
    · by_cases hi : i < (pG P).length
      · rw [List.getElem?_append_left hi] at hp
        obtain ⟨r, h1, h2, h3⟩ := p4 i p hp
        exact ⟨r, by rw [List.getElem?_append_left (by omega)]; exact h1, by show sQ S5 (v 3) i = _; rw [eQ, if_neg (by omega)]; exact h2, pg (List.mem_of_getElem? h1) h3⟩
      · have hi2 : i = (pG P).length := by
          have h12 := (List.getElem?_eq_some_iff.mp hp).1
          rw [List.length_append, List.length_singleton] at h12
          omega
        subst hi2
        rw [List.getElem?_append_right (Nat.le_refl _), Nat.sub_self] at hp
        have hp2 : g = p := Option.some.inj hp
        subst hp2
        exact ⟨q, by rw [List.getElem?_append_left (by omega)]; exact hq, by show sQ S5 (v 3) _ = _; rw [eQ, if_pos rfl], pg (List.mem_of_getElem? hq) hg⟩
    · rw [List.getElem?_append_right (by omega), show (pG P).length + 1 - PA.length = 0 by omega]
      rfl
    · show sR (wR S5 643 (v 4) (some a)) 643 (v 4) = some a
      rw [sR_wR, if_pos ⟨rfl, rfl⟩]
    · show sQ S5 (v 3) i = none
      rw [eQ, if_neg (by omega)]
      exact p8 i (by omega) h2
  · show sI (npH S5 v a (pG P).length) 577 (v 0) = nI 0
    unfold npH
    rw [sI_wI, if_neg (fun z => absurd z.1 (by decide)), wI_at]
    rfl
  · obtain ⟨k0, mr, k1, k2, k3⟩ := hK
    refine ⟨k0, mr, k1, by rw [iT _ _ (by decide) (by decide), fi 4 (by decide) (by decide)]; exact k2, fun i hi => ?_⟩
    rw [iT _ _ (by decide) (by decide), (f _ (hA i hi).1.1.1).1.2.2.2.2.2.2 260 (Or.inl rfl)]
    exact k3 i hi
  · refine ⟨fun r hr k hk => ?_, ?_, fun b hb => ⟨(f _ (v3 b hb).1).1.1, (v3 b hb).2.1, fun r hr => ?_⟩, fun i hi => ⟨(v4 i hi).1, fun r hr => ?_, (v4 i hi).2.2⟩⟩
    · rcases List.mem_append.mp hr with hr | hr
      · exact v1 r hr k hk
      · rw [List.mem_singleton.mp hr]
        exact ⟨fun z => ha (in_eq (I k hk) z), fun z => h7 (in_eq (I k hk) z)⟩
    · rw [List.flatMap_append, List.nodup_append]
      refine ⟨v2, by simp [hne], fun x hx y hy z => ?_⟩
      subst z
      obtain ⟨r, hr, hx⟩ := List.mem_flatMap.mp hx
      have hxs : x ∈ sL S := by
        simp at hx
        rcases hx with rfl | rfl
        · exact (hpin r hr).1
        · exact (hpin r hr).2
      simp at hy
      rcases hy with rfl | rfl
      · exact ha hxs
      · exact h7 hxs
    · rcases List.mem_append.mp hr with hr | hr
      · exact (v3 b hb).2.2 r hr
      · rw [List.mem_singleton.mp hr]
        exact ⟨fun z => ha (in_eq (v3 b hb).1 z.symm), fun z => h7 (in_eq (v3 b hb).1 z.symm)⟩
    · rcases List.mem_append.mp hr with hr | hr
      · exact (v4 i hi).2.1 r hr
      · rw [List.mem_singleton.mp hr]
        have m1 := (hA i hi).1.1.1
        have m2 := (hA i hi).1.2.1
        exact ⟨⟨fun z => ha (in_eq m1 z.symm), fun z => h7 (in_eq m1 z.symm)⟩, fun z => ha (in_eq m2 z.symm), fun z => h7 (in_eq m2 z.symm)⟩
  · obtain ⟨c1, c2⟩ := fr_cell f (v3 b hb).1 ((v3 b hb).2.1 3 (by decide))
    refine ⟨c1, Eq.trans ?_ c2⟩
    have n4 := (v3 b hb).2.1 4 (by decide)
    have n0 := (v3 b hb).2.1 0 (by decide)
    unfold npH
    exact ((keeps_wI (S := wI (wR S5 643 (v 4) (some a)) 577 (v 0) 0) b c1).2 n4).trans (((keeps_wI (S := wR S5 643 (v 4) (some a)) b c1).2 n0).trans ((keeps_wR b c1).2 n4))
def txtP (P : PS) : Int32 × PS := match (redP (pT P)).1 with
  | some _ => (-1, P)
  | none => if (pG P).length < 4 then (nI (pG P).length, setTp (addG P (redP (pT P)).2) []) else (-1, P)
theorem stsR_le {L : List Int32} : ∀ n p E, p ≤ L.length → ∀ q, (stsR L n p E).1 = some q → q ≤ L.length
  | 0, p, E, hp, q, hq => by
    have hq : some p = some q := hq
    cases hq
    exact hp
  | n + 1, p, E, hp, q, hq => by
    obtain ⟨a1, a2⟩ := ostR_le hp
    cases h : (ostR L p).2 with
    | none =>
      rw [stsR_f h] at hq
      have hq : some (ostR L p).1 = some q := hq
      cases hq
      exact a2
    | some s =>
      obtain ⟨c1, c2⟩ := skB_le a2
      rw [stsR_s h] at hq
      by_cases e1 : L.length ≤ skB L (ostR L p).1
      · rw [if_pos e1] at hq
        exact absurd hq (by simp)
      · rw [if_neg e1] at hq
        by_cases e2 : n = 0
        · rw [if_pos e2] at hq
          have hq : some (skB L (ostR L p).1) = some q := hq
          cases hq
          exact c2
        · rw [if_neg e2] at hq
          by_cases e3 : chr L (skB L (ostR L p).1) = 59
          · rw [if_pos e3] at hq
            exact stsR_le n _ _ (by omega) q hq
          · rw [if_neg e3] at hq
            have hq : some (skB L (ostR L p).1) = some q := hq
            cases hq
            exact c2
theorem redP_le {L : List Int32} {q : Nat} (h : (redP L).1 = some q) : q ≤ L.length := stsR_le 16 0 [] (Nat.zero_le _) q h
set_option maxHeartbeats 4000000 in
set_option maxRecDepth 100000 in
theorem c_programTold {S : aw_S} {v ad ar : Nat → Nat} {PA : List (Nat × Nat)} {X : List Nat} {mb : Nat} {P : PS} (h : RC S v ad ar PA X mb P)  : aw_M yX10_programTold cX10_programTold 1 (some FieldType.int) 8 2 66 [.ref (v 4)] S (mutR X v mb S (txtP P)) := by
  have hL := h.L
  have o10 := lw_i4 hL
  obtain ⟨q, g0, h1, r643, h3, h4⟩ := h.dra
  have r641 := lw_f641 hL
  have i6 := lw_i2 hL
  have h240 := h.2.2.2.2.2.2.1.2.1
  have hn4 := h.2.2.2.2.2.1.2.1
  cases hx : (redP (pT P)).1 with
  | some p0 =>
    have hp0 := redP_le hx
    refine aw_enter (by decide +kernel) (Nat.le_of_ble_eq_true rfl) (fun g K EE => ?_)
    first | refine a_aload_n K dX10_programTold_0 rfl ?_ | refine a_aload_nN K dX10_programTold_0 rfl ?_
    refine a_getRs K fd_X10_21 (lw_i4 hL) (Or.inl ⟨_, rfl⟩) (lw_f641 hL) dX10_programTold_1 ?_
    first | refine a_aload_n K dX10_programTold_4 rfl ?_ | refine a_aload_nN K dX10_programTold_4 rfl ?_
    refine a_getRs K fd_X10_32 (by assumption) (Or.inl ⟨_, rfl⟩) (by assumption) dX10_programTold_5 ?_
    refine a_invV K (m_readSteps h4 h.rds h3) my_X6_readSteps ml_X10_114 im_X6_readSteps se_X6_readSteps (ci := 6) (lw_i2 hL) (by decide) ⟨_, _, rfl⟩ rfl (by omega) (by omega) (by omega) rfl (Nat.le_of_ble_eq_true rfl) dX10_programTold_8 ?_
    intro r9 S1 hp9
    obtain ⟨rfl, ⟨E2, hE2, hE3⟩, f9⟩ := hp9
    obtain ⟨h2, k2⟩ := RC_rp h h1 f9 hE2
    rw [hx]
    have hL := h2.L
    have o10 := lw_i4 hL
    have r642 := lw_f642 hL
    have r640 := lw_f640 hL
    have i3 := lw_i3 hL
    have hN : sN S1 (v 3) = 4 := lw_n3 hL
    have c644 := h2.2.2.2.2.2.1.1
    have r643 : sR S1 643 (v 4) = some q.1 := by rw [f9.2.2.1]; exact r643
    have i5 : aw_is S1 q.1 5 := hE2.1
    refine a_iconst K dX10_programTold_11 (v := -1) (by decide) ?_
    refine a_icmp_ne K dX10_programTold_12 (tgt := 34) (by decide) (fun c_12 => ?_) (fun c_12 => absurd c_12 (nI_m1n (n := p0) (by omega)))
    refine a_iconst K dX10_programTold_34 (v := -1) (by decide) ?_
    exact a_iret K EE rfl (by omega) (by omega) dX10_programTold_35 (by unfold txtP; rw [hx]; exact ⟨ad, ar, PA, rfl, h2, k2⟩)
  | none =>
    by_cases hr : (pG P).length < 4
    · refine aw_enter (by decide +kernel) (Nat.le_of_ble_eq_true rfl) (fun g K EE => ?_)
      first | refine a_aload_n K dX10_programTold_0 rfl ?_ | refine a_aload_nN K dX10_programTold_0 rfl ?_
      refine a_getRs K fd_X10_21 (by assumption) (Or.inl ⟨_, rfl⟩) (by assumption) dX10_programTold_1 ?_
      first | refine a_aload_n K dX10_programTold_4 rfl ?_ | refine a_aload_nN K dX10_programTold_4 rfl ?_
      refine a_getRs K fd_X10_32 (by assumption) (Or.inl ⟨_, rfl⟩) (by assumption) dX10_programTold_5 ?_
      refine a_invV K (m_readSteps h4 h.rds h3) my_X6_readSteps ml_X10_114 im_X6_readSteps se_X6_readSteps (ci := 6) (by assumption) (by decide) ⟨_, _, rfl⟩ rfl (by omega) (by omega) (by omega) rfl (Nat.le_of_ble_eq_true rfl) dX10_programTold_8 ?_
      intro r9 S1 hp9
      obtain ⟨rfl, ⟨E2, hE2, hE3⟩, f9⟩ := hp9
      obtain ⟨h2, k2⟩ := RC_rp h h1 f9 hE2
      rw [hx]
      have hL := h2.L
      have o10 := lw_i4 hL
      have r642 := lw_f642 hL
      have r640 := lw_f640 hL
      have i3 := lw_i3 hL
      have hN : sN S1 (v 3) = 4 := lw_n3 hL
      have c644 := h2.2.2.2.2.2.1.1
      have r643 : sR S1 643 (v 4) = some q.1 := by rw [f9.2.2.1]; exact r643
      have i5 : aw_is S1 q.1 5 := hE2.1
      refine a_iconst K dX10_programTold_11 (v := -1) (by decide) ?_
      refine a_icmp_ne K dX10_programTold_12 (tgt := 34) (by decide) (fun c_12 => absurd c_12 (fun z => z rfl)) (fun c_12 => ?_)
      first | refine a_aload_n K dX10_programTold_15 rfl ?_ | refine a_aload_nN K dX10_programTold_15 rfl ?_
      refine a_getI K fd_X10_153 (by assumption) (Or.inl rfl) dX10_programTold_16 ?_
      rw [c644]
      refine a_if_lt K dX10_programTold_19 (tgt := 34) (by decide) (fun c_19 => absurd c_19 (nI_pos (n := (pG P).length) (by omega))) (fun c_19 => ?_)
      first | refine a_aload_n K dX10_programTold_22 rfl ?_ | refine a_aload_nN K dX10_programTold_22 rfl ?_
      refine a_getI K fd_X10_153 (by assumption) (Or.inl rfl) dX10_programTold_23 ?_
      rw [c644]
      first | refine a_aload_n K dX10_programTold_26 rfl ?_ | refine a_aload_nN K dX10_programTold_26 rfl ?_
      refine a_getRs K fd_X10_27 (by assumption) (Or.inr ⟨_, rfl⟩) (by assumption) dX10_programTold_27 ?_
      refine a_alen K (v := nI 4) (by assumption) (by decide) (by decide) (by rw [hN]; rfl) dX10_programTold_30 ?_
      refine a_icmp_lt K dX10_programTold_31 (tgt := 36) (by decide) (fun c_31 => ?_) (fun c_31 => absurd c_31 (fun z => z (nI_lt (b := 4) hr (by decide))))
      first | refine a_aload_n K dX10_programTold_36 rfl ?_ | refine a_aload_nN K dX10_programTold_36 rfl ?_
      refine a_getRs K fd_X10_27 (by assumption) (Or.inr ⟨_, rfl⟩) (by assumption) dX10_programTold_37 ?_
      first | refine a_aload_n K dX10_programTold_40 rfl ?_ | refine a_aload_nN K dX10_programTold_40 rfl ?_
      refine a_getI K fd_X10_153 (by assumption) (Or.inl rfl) dX10_programTold_41 ?_
      rw [c644]
      first | refine a_aload_n K dX10_programTold_44 rfl ?_ | refine a_aload_nN K dX10_programTold_44 rfl ?_
      refine a_getRs K fd_X10_32 (by assumption) (Or.inl ⟨_, rfl⟩) (by assumption) dX10_programTold_45 ?_
      refine a_aastP K (by assumption) (by assumption) (by show vp_in _ (sN S1 (v 3)); rw [hN]; exact vp_in_nI hr (by omega)) dX10_programTold_48 ?_
      rw [nI_clamp (by omega)]
      first | refine a_aload_n K dX10_programTold_49 rfl ?_ | refine a_aload_nN K dX10_programTold_49 rfl ?_
      refine a_new K (ci := 5) (N := 2) kl_X10_25 in_X5 ini_X5 rfl (by decide) rfl (by omega) (by omega) dX10_programTold_50 (fun q_50 f_50 => ?_)
      refine a_dup K dX10_programTold_53 rfl ?_
      refine a_invI K (m_X5_init (S := nO (wQ S1 (v 3) (pG P).length (some q.1)) q_50 5) (a := q_50) pO_new) my_X5_init rfl ml_X10_31 im_X5_init rfl (by omega) (by omega) (by omega) rfl (Nat.le_of_ble_eq_true rfl) dX10_programTold_54 ?_
      intro r9 S5 hp9
      obtain ⟨rfl, q7, m9⟩ := hp9
      have hf5 : q_50 ∉ sL S1 := f_50
      obtain ⟨pg5, ne5, n7⟩ := made_pg m9 in_nO
      have n7 : q7 ∉ sL S1 := fun z => n7 (List.mem_append_left _ z)
      have fF : fr S1 S5 (fun b => b = v 3) := fr_keeps ((frS_wQ.fr).o_ hf5) m9.1 hf5
      have n43 : ¬ v 4 = v 3 := fun z => absurd (lw_inj hL 4 3 (by decide) (by decide) z) (by decide)
      have n03 : ¬ v 0 = v 3 := fun z => absurd (lw_inj hL 0 3 (by decide) (by decide) z) (by decide)
      have hv3 : v 3 ∈ sL S1 := lw_in hL 3 (by decide)
      have n3q : v 3 ≠ q_50 := fun z => hf5 (z ▸ hv3)
      have eQ : ∀ j, sQ S5 (v 3) j = if j = (pG P).length then some q.1 else sQ S1 (v 3) j := fun j => by
        have e := congrArg cQ ((m9.1 (v 3) (List.mem_append_left _ hv3)).2 n3q)
        have e : sQ S5 (v 3) = sQ (wQ S1 (v 3) (pG P).length (some q.1)) (v 3) := e
        rw [e, sQ_wQ]
        by_cases ej : j = (pG P).length
        · rw [if_pos ⟨rfl, ej⟩, if_pos ej]
        · rw [if_neg (fun z => ej z.2), if_neg ej]
      obtain ⟨h6, k6⟩ := RC_np h2 hr h1 (show PgW S1 q (redP (pT P)).2 from hE3 hx ▸ hE2) fF eQ pg5 hf5 n7 ne5
      have hL5 : LW S5 v := LW_fr hL fF (fun z => absurd (lw_inj hL 13 3 (by decide) (by decide) z) (by decide))
      have o10 := lw_i4 hL5
      have r640 := lw_f640 hL5
      have c644 : sI S5 644 (v 4) = nI (pG P).length := (((fF _ (lw_in hL 4 (by decide))).2 n43).1 644).trans c644
      have c577 : sI S5 577 (v 0) = nI (pT P).length := (((fF _ (lw_in hL 0 (by decide))).2 n03).1 577).trans h2.2.2.2.2.2.2.1.1
      have i9 := lw_i0 hL5
      refine a_putR K fd_X10_32 (v := some _) (by assumption) (Or.inl ⟨_, rfl⟩) dX10_programTold_57 ?_
      first | refine a_aload_n K dX10_programTold_60 rfl ?_ | refine a_aload_nN K dX10_programTold_60 rfl ?_
      refine a_getRs K fd_X10_10 (by assumption) (Or.inl ⟨_, rfl⟩) (by assumption) dX10_programTold_61 ?_
      refine a_iconst K dX10_programTold_64 (v := 0) (by decide) ?_
      refine a_invV K (m_X9_shorten (S := wR S5 643 (v 4) (some q_50)) (i := 0) i9 c577 h240) my_X9_shorten ml_X10_106 im_X9_shorten se_X9_shorten (ci := 9) (by assumption) (by decide) ⟨_, _, rfl⟩ rfl (by omega) (by omega) (by omega) rfl (Nat.le_of_ble_eq_true rfl) dX10_programTold_65 ?_
      intro r9 S9 hq9
      obtain ⟨rfl, rfl⟩ : r9 = some (.int 1) ∧ S9 = wI (wR S5 643 (v 4) (some q_50)) 577 (v 0) 0 := hq9.elim (fun q => q.2.2) (fun q => absurd ⟨by decide, Int.natCast_nonneg _⟩ q.1)
      refine a_pop K dX10_programTold_68 rfl ?_
      first | refine a_aload_n K dX10_programTold_69 rfl ?_ | refine a_aload_nN K dX10_programTold_69 rfl ?_
      refine a_dup K dX10_programTold_70 rfl ?_
      refine a_getI K fd_X10_153 (by assumption) (Or.inl rfl) dX10_programTold_71 ?_
      rw [show sI (wI (wR S5 643 (v 4) (some q_50)) 577 (v 0) 0) 644 (v 4) = nI (pG P).length from by rw [sI_wI, if_neg (fun z => absurd z.1 (by decide))]; exact c644]
      refine a_dup_x1 K dX10_programTold_74 rfl rfl ?_
      refine a_iconst K dX10_programTold_75 (v := 1) (by decide) ?_
      refine a_iadd K dX10_programTold_76 ?_
      rw [nI_1]
      refine a_putI K fd_X10_153 (by assumption) rfl dX10_programTold_77 ?_
      exact a_iret K EE rfl (by omega) (by omega) dX10_programTold_80 (by unfold txtP; rw [hx]; show mutR X v mb S (ite _ _ _) _ _; rw [if_pos hr]; exact ⟨ad, ar, _, rfl, h6, k2.tr k6⟩)
    · refine aw_enter (by decide +kernel) (Nat.le_of_ble_eq_true rfl) (fun g K EE => ?_)
      first | refine a_aload_n K dX10_programTold_0 rfl ?_ | refine a_aload_nN K dX10_programTold_0 rfl ?_
      refine a_getRs K fd_X10_21 (lw_i4 hL) (Or.inl ⟨_, rfl⟩) (lw_f641 hL) dX10_programTold_1 ?_
      first | refine a_aload_n K dX10_programTold_4 rfl ?_ | refine a_aload_nN K dX10_programTold_4 rfl ?_
      refine a_getRs K fd_X10_32 (by assumption) (Or.inl ⟨_, rfl⟩) (by assumption) dX10_programTold_5 ?_
      refine a_invV K (m_readSteps h4 h.rds h3) my_X6_readSteps ml_X10_114 im_X6_readSteps se_X6_readSteps (ci := 6) (lw_i2 hL) (by decide) ⟨_, _, rfl⟩ rfl (by omega) (by omega) (by omega) rfl (Nat.le_of_ble_eq_true rfl) dX10_programTold_8 ?_
      intro r9 S1 hp9
      obtain ⟨rfl, ⟨E2, hE2, hE3⟩, f9⟩ := hp9
      obtain ⟨h2, k2⟩ := RC_rp h h1 f9 hE2
      rw [hx]
      have hL := h2.L
      have o10 := lw_i4 hL
      have r642 := lw_f642 hL
      have r640 := lw_f640 hL
      have i3 := lw_i3 hL
      have hN : sN S1 (v 3) = 4 := lw_n3 hL
      have c644 := h2.2.2.2.2.2.1.1
      have r643 : sR S1 643 (v 4) = some q.1 := by rw [f9.2.2.1]; exact r643
      have i5 : aw_is S1 q.1 5 := hE2.1
      refine a_iconst K dX10_programTold_11 (v := -1) (by decide) ?_
      refine a_icmp_ne K dX10_programTold_12 (tgt := 34) (by decide) (fun c_12 => absurd c_12 (fun z => z rfl)) (fun c_12 => ?_)
      first | refine a_aload_n K dX10_programTold_15 rfl ?_ | refine a_aload_nN K dX10_programTold_15 rfl ?_
      refine a_getI K fd_X10_153 (lw_i4 hL) (Or.inl rfl) dX10_programTold_16 ?_
      rw [c644]
      refine a_if_lt K dX10_programTold_19 (tgt := 34) (by decide) (fun c_19 => absurd c_19 (nI_pos (n := (pG P).length) (by omega))) (fun c_19 => ?_)
      first | refine a_aload_n K dX10_programTold_22 rfl ?_ | refine a_aload_nN K dX10_programTold_22 rfl ?_
      refine a_getI K fd_X10_153 (lw_i4 hL) (Or.inl rfl) dX10_programTold_23 ?_
      rw [c644]
      first | refine a_aload_n K dX10_programTold_26 rfl ?_ | refine a_aload_nN K dX10_programTold_26 rfl ?_
      refine a_getRs K fd_X10_27 (lw_i4 hL) (Or.inr ⟨_, rfl⟩) (lw_f642 hL) dX10_programTold_27 ?_
      refine a_alen K (v := nI 4) (by assumption) (by decide) (by decide) (by rw [hN]; rfl) dX10_programTold_30 ?_
      refine a_icmp_lt K dX10_programTold_31 (tgt := 36) (by decide) (fun c_31 => absurd c_31 (nI_nlt (a := (pG P).length) (b := 4) (by omega) (by omega))) (fun c_31 => ?_)
      refine a_iconst K dX10_programTold_34 (v := -1) (by decide) ?_
      exact a_iret K EE rfl (by omega) (by omega) dX10_programTold_35 (by unfold txtP; rw [hx]; show mutR X v mb S (ite _ _ _) _ _; rw [if_neg hr]; exact ⟨ad, ar, PA, rfl, h2, k2⟩)
