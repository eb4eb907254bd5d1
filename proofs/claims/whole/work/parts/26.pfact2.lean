/-! taken out: entries, fullness, numbers, how many are made -/
theorem refZ_elim {h w tk u : Nat} {P : List (Tr h) × Nat → Prop} (A : List (Tr h)) (k : Tr h) (B : List (Tr h))
    (h1 : ∀ a A2, A = a :: A2 → lea w < a.2.2.length → P (A2.reverse ++ ((edt tk u a).1.1, tk, a.2.2.take (a.2.2.length - 1)) :: (k.1, k.2.1, a.2.2.drop (a.2.2.length - 1) ++ k.2.2) :: B, (edt tk u a).2))
    (h2 : ∀ b B2, B = b :: B2 → lea w < b.2.2.length → (∀ a A2, A = a :: A2 → ¬ lea w < a.2.2.length) → P (A.reverse ++ (k.1, k.2.1, k.2.2 ++ b.2.2.take 1) :: ((edt tk u b).1.1, tk, b.2.2.drop 1) :: B2, (edt tk u b).2))
    (h3 : ∀ a A2, A = a :: A2 → ¬ lea w < a.2.2.length → (∀ b B2, B = b :: B2 → ¬ lea w < b.2.2.length) → P (A2.reverse ++ ((edt tk u a).1.1, tk, a.2.2 ++ k.2.2) :: B, (edt tk u a).2))
    (h4 : ∀ b B2, A = [] → B = b :: B2 → ¬ lea w < b.2.2.length → P ((k.1, k.2.1, k.2.2 ++ b.2.2) :: B2, u))
    (h5 : A = [] → B = [] → P ([k], u)) : P (refZ w tk u A k B) := by
  cases A with
  | nil =>
    cases B with
    | nil => exact h5 rfl rfl
    | cons b B2 =>
      by_cases hb : lea w < b.2.2.length
      · have e : refZ w tk u [] k (b :: B2) = ((k.1, k.2.1, k.2.2 ++ b.2.2.take 1) :: ((edt tk u b).1.1, tk, b.2.2.drop 1) :: B2, (edt tk u b).2) := if_pos hb
        rw [e]
        exact h2 b B2 rfl hb (fun a A2 z => absurd z (by simp))
      · have e : refZ w tk u [] k (b :: B2) = ((k.1, k.2.1, k.2.2 ++ b.2.2) :: B2, u) := if_neg hb
        rw [e]
        exact h4 b B2 rfl rfl hb
  | cons a A2 =>
    by_cases ha : lea w < a.2.2.length
    · have e : refZ w tk u (a :: A2) k B = (A2.reverse ++ ((edt tk u a).1.1, tk, a.2.2.take (a.2.2.length - 1)) :: (k.1, k.2.1, a.2.2.drop (a.2.2.length - 1) ++ k.2.2) :: B, (edt tk u a).2) := if_pos ha
      rw [e]
      exact h1 a A2 rfl ha
    · cases B with
      | nil =>
        have e : refZ w tk u (a :: A2) k [] = (A2.reverse ++ [((edt tk u a).1.1, tk, a.2.2 ++ k.2.2)], (edt tk u a).2) := if_neg ha
        rw [e]
        exact h3 a A2 rfl ha (fun b B2 z => absurd z (by simp))
      | cons b B2 =>
        by_cases hb : lea w < b.2.2.length
        · have e : refZ w tk u (a :: A2) k (b :: B2) = (A2.reverse ++ a :: (k.1, k.2.1, k.2.2 ++ b.2.2.take 1) :: ((edt tk u b).1.1, tk, b.2.2.drop 1) :: B2, (edt tk u b).2) := (if_neg ha).trans (if_pos hb)
          have h0 := h2 b B2 rfl hb (fun a2 A3 z => by rw [(List.cons.inj z).1] at ha; exact ha)
          rw [e]
          rw [List.reverse_cons, List.append_assoc] at h0
          exact h0
        · have e : refZ w tk u (a :: A2) k (b :: B2) = (A2.reverse ++ ((edt tk u a).1.1, tk, a.2.2 ++ k.2.2) :: b :: B2, (edt tk u a).2) := (if_neg ha).trans (if_neg hb)
          rw [e]
          exact h3 a A2 rfl ha (fun b3 B3 z => by rw [(List.cons.inj z).1] at hb; exact hb)
theorem refZ_ent {h w tk u : Nat} (A : List (Tr h)) (k : Tr h) (B : List (Tr h)) : (refZ w tk u A k B).1.flatMap (ent h) = (A.reverse ++ k :: B).flatMap (ent h) := by
  refine refZ_elim (P := fun r => r.1.flatMap (ent h) = (A.reverse ++ k :: B).flatMap (ent h)) A k B ?_ ?_ ?_ ?_ ?_
  · intro a A2 e _
    subst e
    have e1 : entL h a.2.2 = entL h (a.2.2.take (a.2.2.length - 1)) ++ entL h (a.2.2.drop (a.2.2.length - 1)) := by rw [← entL_app, List.take_append_drop]
    simp only [List.reverse_cons, List.append_assoc, List.flatMap_append, List.flatMap_cons, List.flatMap_nil, List.append_nil, ent_L, entL_app, e1]
  · intro b B2 e _ _
    subst e
    have e1 : entL h b.2.2 = entL h (b.2.2.take 1) ++ entL h (b.2.2.drop 1) := by rw [← entL_app, List.take_append_drop]
    simp only [List.append_assoc, List.flatMap_append, List.flatMap_cons, ent_L, entL_app, e1]
  · intro a A2 e _ _
    subst e
    simp only [List.reverse_cons, List.append_assoc, List.flatMap_append, List.flatMap_cons, List.flatMap_nil, List.append_nil, ent_L, entL_app]
  · intro b B2 e e2 _
    subst e e2
    simp only [List.reverse_nil, List.nil_append, List.append_assoc, List.flatMap_cons, ent_L, entL_app]
  · intro e e2
    subst e e2
    rfl
theorem take_len1 {α : Type} {l : List α} (h : 1 ≤ l.length) : (l.take 1).length = 1 := by rw [List.length_take]; omega
theorem refZ_fan {h w tk u : Nat} {A B : List (Tr h)} {k : Tr h} (hw : 3 ≤ w) (fA : ∀ c ∈ A, fan (lea w) w h c) (fB : ∀ c ∈ B, fan (lea w) w h c) (fk : fanL (lea w) w h k.2.2) (hk : k.2.2.length + 1 = lea w) (hne : A ≠ [] ∨ B ≠ []) : (∀ c ∈ (refZ w tk u A k B).1, fan (lea w) w h c) ∧ A.length + B.length ≤ (refZ w tk u A k B).1.length ∧ (refZ w tk u A k B).1.length ≤ A.length + B.length + 1 := by
  have l1 : lea w + lea w ≤ w + 1 := by unfold lea; omega
  have l2 : 2 ≤ lea w := by unfold lea; omega
  refine refZ_elim (P := fun r => (∀ c ∈ r.1, fan (lea w) w h c) ∧ A.length + B.length ≤ r.1.length ∧ r.1.length ≤ A.length + B.length + 1) A k B ?_ ?_ ?_ ?_ ?_
  · intro a A2 e ha
    subst e
    obtain ⟨⟨a1, a2⟩, a3⟩ := fan_L.mp (fA a List.mem_cons_self)
    have a4 : fanL (lea w) w h (a.2.2.take (a.2.2.length - 1) ++ a.2.2.drop (a.2.2.length - 1)) := by rw [List.take_append_drop]; exact a3
    obtain ⟨a5, a6⟩ := fanL_app.mp a4
    refine ⟨fun c hc => ?_, ?_, ?_⟩
    · rcases List.mem_append.mp hc with hc | hc
      · exact fA c (List.mem_cons_of_mem _ (List.mem_reverse.mp hc))
      · rcases List.mem_cons.mp hc with rfl | hc
        · refine fan_L.mpr ⟨?_, a5⟩
          show lea w ≤ (a.2.2.take (a.2.2.length - 1)).length ∧ (a.2.2.take (a.2.2.length - 1)).length ≤ w
          rw [List.length_take]; omega
        · rcases List.mem_cons.mp hc with rfl | hc
          · refine fan_L.mpr ⟨?_, fanL_app.mpr ⟨a6, fk⟩⟩
            show lea w ≤ (a.2.2.drop (a.2.2.length - 1) ++ k.2.2).length ∧ (a.2.2.drop (a.2.2.length - 1) ++ k.2.2).length ≤ w
            rw [List.length_append, List.length_drop]; omega
          · exact fB c hc
    · simp only [List.length_append, List.length_reverse, List.length_cons]; omega
    · simp only [List.length_append, List.length_reverse, List.length_cons]; omega
  · intro b B2 e hb _
    subst e
    obtain ⟨⟨a1, a2⟩, a3⟩ := fan_L.mp (fB b List.mem_cons_self)
    have a4 : fanL (lea w) w h (b.2.2.take 1 ++ b.2.2.drop 1) := by rw [List.take_append_drop]; exact a3
    obtain ⟨a5, a6⟩ := fanL_app.mp a4
    refine ⟨fun c hc => ?_, ?_, ?_⟩
    · rcases List.mem_append.mp hc with hc | hc
      · exact fA c (List.mem_reverse.mp hc)
      · rcases List.mem_cons.mp hc with rfl | hc
        · refine fan_L.mpr ⟨?_, fanL_app.mpr ⟨fk, a5⟩⟩
          show lea w ≤ (k.2.2 ++ b.2.2.take 1).length ∧ (k.2.2 ++ b.2.2.take 1).length ≤ w
          rw [List.length_append, List.length_take]; omega
        · rcases List.mem_cons.mp hc with rfl | hc
          · refine fan_L.mpr ⟨?_, a6⟩
            show lea w ≤ (b.2.2.drop 1).length ∧ (b.2.2.drop 1).length ≤ w
            rw [List.length_drop]; omega
          · exact fB c (List.mem_cons_of_mem _ hc)
    · simp only [List.length_append, List.length_reverse, List.length_cons]; omega
    · simp only [List.length_append, List.length_reverse, List.length_cons]; omega
  · intro a A2 e ha _
    subst e
    obtain ⟨⟨a1, a2⟩, a3⟩ := fan_L.mp (fA a List.mem_cons_self)
    refine ⟨fun c hc => ?_, ?_, ?_⟩
    · rcases List.mem_append.mp hc with hc | hc
      · exact fA c (List.mem_cons_of_mem _ (List.mem_reverse.mp hc))
      · rcases List.mem_cons.mp hc with rfl | hc
        · refine fan_L.mpr ⟨?_, fanL_app.mpr ⟨a3, fk⟩⟩
          show lea w ≤ (a.2.2 ++ k.2.2).length ∧ (a.2.2 ++ k.2.2).length ≤ w
          rw [List.length_append]; omega
        · exact fB c hc
    · simp only [List.length_append, List.length_reverse, List.length_cons]; omega
    · simp only [List.length_append, List.length_reverse, List.length_cons]; omega
  · intro b B2 e e2 hb
    subst e e2
    obtain ⟨⟨a1, a2⟩, a3⟩ := fan_L.mp (fB b List.mem_cons_self)
    refine ⟨fun c hc => ?_, ?_, ?_⟩
    · rcases List.mem_cons.mp hc with rfl | hc
      · refine fan_L.mpr ⟨?_, fanL_app.mpr ⟨fk, a3⟩⟩
        show lea w ≤ (k.2.2 ++ b.2.2).length ∧ (k.2.2 ++ b.2.2).length ≤ w
        rw [List.length_append]; omega
      · exact fB c (List.mem_cons_of_mem _ hc)
    · simp only [List.length_nil, List.length_cons]; omega
    · simp only [List.length_nil, List.length_cons]; omega
  · intro e e2
    exact absurd hne (by simp [e, e2])
/-- a list of nodes made of another one, no more made than were owned anew -/
def gru (u u2 tk : Nat) (L L2 : List (Nat × Nat)) : Prop := grw u u2 tk L L2 ∧ u2 + un tk L2 ≤ u + un tk L
theorem gru.rf {u tk : Nat} {L : List (Nat × Nat)} (b : bdd u L) : gru u u tk L L := ⟨grw.rf b, Nat.le_refl _⟩
theorem gru.tr {u u2 u3 tk : Nat} {L L2 L3 : List (Nat × Nat)} (h : gru u u2 tk L L2) (h2 : gru u2 u3 tk L2 L3) : gru u u3 tk L L3 := ⟨h.1.tr h2.1, Nat.le_trans h2.2 h.2⟩
theorem gru.perm {u u2 tk : Nat} {L L2 L3 : List (Nat × Nat)} (h : gru u u2 tk L L2) (p : List.Perm L2 L3) : gru u u2 tk L L3 := ⟨h.1.perm p, by rw [← un_perm p]; exact h.2⟩
theorem gru.sub {u u2 tk : Nat} {L L2 L3 : List (Nat × Nat)} (h : gru u u2 tk L L2) (p : List.Sublist L3 L2) : gru u u2 tk L L3 := ⟨h.1.sub p, Nat.le_trans (Nat.add_le_add_left p.countP_le _) h.2⟩
theorem gru.ctx {u u2 tk : Nat} {C X : List (Nat × Nat)} (P Q : List (Nat × Nat)) (b : bdd u (P ++ (C ++ Q))) (h : gru u u2 tk C X) : gru u u2 tk (P ++ (C ++ Q)) (P ++ (X ++ Q)) := ⟨h.1.ctx P Q b, by have := h.2; simp only [un_app]; omega⟩
theorem gru.con {u u2 tk : Nat} {C X : List (Nat × Nat)} (n : Nat × Nat) (b : bdd u (n :: C)) (h : gru u u2 tk C X) : gru u u2 tk (n :: C) (n :: X) := ⟨h.1.con n b, by have := h.2; simp only [un_cons]; omega⟩
theorem edt_gru {h tk u : Nat} {t : Tr h} (b : bdd u (ndl h t)) : gru u (edt tk u t).2 tk (ndl h t) (ndl h (edt tk u t).1) := ⟨edt_grw b, Nat.le_of_eq (edt_un tk u t)⟩
theorem edt_nd {h tk u : Nat} (t : Tr h) : ndl h (edt tk u t).1 = ((edt tk u t).1.1, tk) :: blw h t.2.2 := by rw [ndl_L, edt_tk, edt_it]
theorem refZ_gru {h w tk u : Nat} {A B : List (Tr h)} {k : Tr h} (b : bdd u ((A.reverse ++ k :: B).flatMap (ndl h))) : gru u (refZ w tk u A k B).2 tk ((A.reverse ++ k :: B).flatMap (ndl h)) ((refZ w tk u A k B).1.flatMap (ndl h)) := by
  refine refZ_elim (P := fun r => gru u r.2 tk ((A.reverse ++ k :: B).flatMap (ndl h)) (r.1.flatMap (ndl h))) A k B ?_ ?_ ?_ ?_ ?_
  · intro a A2 e _
    subst e
    rw [List.reverse_cons, List.append_assoc, List.flatMap_append] at b ⊢
    have g := gru.ctx (A2.reverse.flatMap (ndl h)) (ndl h k ++ B.flatMap (ndl h)) b (edt_gru (tk := tk) (t := a) b.mid)
    refine g.perm ?_
    rw [List.flatMap_append, List.flatMap_cons, List.flatMap_cons, edt_nd, ndl_L, ndl_L, ndl_L]
    refine List.Perm.append_left _ ?_
    show List.Perm (((edt tk u a).1.1, tk) :: (blw h a.2.2 ++ ((k.1, k.2.1) :: (blw h k.2.2 ++ _)))) (((edt tk u a).1.1, tk) :: (blw h (a.2.2.take (a.2.2.length - 1)) ++ ((k.1, k.2.1) :: (blw h (a.2.2.drop (a.2.2.length - 1) ++ k.2.2) ++ _))))
    refine List.Perm.cons _ ?_
    refine List.Perm.trans (?_ : List.Perm _ ((k.1, k.2.1) :: (blw h a.2.2 ++ (blw h k.2.2 ++ B.flatMap (ndl h))))) ?_
    · exact List.perm_middle
    · refine List.Perm.trans ?_ List.perm_middle.symm
      have e1 : blw h a.2.2 = blw h (a.2.2.take (a.2.2.length - 1)) ++ blw h (a.2.2.drop (a.2.2.length - 1)) := by rw [← blw_app, List.take_append_drop]
      refine List.Perm.of_eq ?_
      rw [blw_app (a.2.2.drop (a.2.2.length - 1)), e1, List.append_assoc, List.append_assoc]
  · intro c B2 e _ _
    subst e
    rw [List.flatMap_append, List.flatMap_cons, List.flatMap_cons] at b ⊢
    have g0 := gru.ctx (ndl h k) (B2.flatMap (ndl h)) (b.sub (List.sublist_append_right _ _)) (edt_gru (tk := tk) (t := c) (bdd.mid (P := ndl h k) (b.sub (List.sublist_append_right _ _))))
    have g := gru.ctx (A.reverse.flatMap (ndl h)) [] (by rw [List.append_nil]; exact b) g0
    rw [List.append_nil, List.append_nil] at g
    refine g.perm ?_
    rw [List.flatMap_append, List.flatMap_cons, List.flatMap_cons, edt_nd, ndl_L, ndl_L, ndl_L]
    refine List.Perm.append_left _ ?_
    show List.Perm ((k.1, k.2.1) :: (blw h k.2.2 ++ (((edt tk u c).1.1, tk) :: (blw h c.2.2 ++ _)))) ((k.1, k.2.1) :: (blw h (k.2.2 ++ c.2.2.take 1) ++ (((edt tk u c).1.1, tk) :: (blw h (c.2.2.drop 1) ++ _))))
    refine List.Perm.cons _ ?_
    refine List.Perm.trans List.perm_middle (List.Perm.trans ?_ List.perm_middle.symm)
    have e1 : blw h c.2.2 = blw h (c.2.2.take 1) ++ blw h (c.2.2.drop 1) := by rw [← blw_app, List.take_append_drop]
    refine List.Perm.of_eq ?_
    rw [blw_app k.2.2, e1, List.append_assoc, List.append_assoc]
  · intro a A2 e _ _
    subst e
    rw [List.reverse_cons, List.append_assoc, List.flatMap_append] at b ⊢
    have g := gru.ctx (A2.reverse.flatMap (ndl h)) (ndl h k ++ B.flatMap (ndl h)) b (edt_gru (tk := tk) (t := a) b.mid)
    refine g.sub ?_
    rw [List.flatMap_append, List.flatMap_cons, edt_nd, ndl_L, ndl_L]
    refine (List.Sublist.refl _).append ?_
    show List.Sublist (((edt tk u a).1.1, tk) :: (blw h (a.2.2 ++ k.2.2) ++ _)) (((edt tk u a).1.1, tk) :: (blw h a.2.2 ++ ((k.1, k.2.1) :: (blw h k.2.2 ++ _))))
    refine List.Sublist.cons_cons _ ?_
    rw [blw_app, List.append_assoc]
    exact (List.Sublist.refl _).append (List.sublist_cons_self _ _)
  · intro c B2 e e2 _
    subst e e2
    rw [List.reverse_nil, List.nil_append, List.flatMap_cons, List.flatMap_cons] at b ⊢
    refine (gru.rf b).sub ?_
    rw [List.flatMap_cons, ndl_L, ndl_L, ndl_L]
    show List.Sublist ((k.1, k.2.1) :: (blw h (k.2.2 ++ c.2.2) ++ _)) ((k.1, k.2.1) :: (blw h k.2.2 ++ ((c.1, c.2.1) :: (blw h c.2.2 ++ _))))
    refine List.Sublist.cons_cons _ ?_
    rw [blw_app, List.append_assoc]
    exact (List.Sublist.refl _).append (List.sublist_cons_self _ _)
  · intro e e2
    subst e e2
    exact gru.rf b
theorem remB_no {w tk : Nat} {key : Int32} {h u : Nat} {t : Tr (h + 1)} (hc : (kds t)[place key (kds t)]? = none) : remB w tk key (h + 1) u t = (t, u) := by rw [remB, hc]
theorem remB_lt {w tk : Nat} {key : Int32} {h u : Nat} {t : Tr (h + 1)} {c : Tr h} (hc : (kds t)[place key (kds t)]? = some c) (hl : (remB w tk key h (edt tk u c).2 (edt tk u c).1).1.2.2.length < lea w) : remB w tk key (h + 1) u t = ((nod t.1 t.2.1 ((refZ w tk (remB w tk key h (edt tk u c).2 (edt tk u c).1).2 ((kds t).take (place key (kds t))).reverse (remB w tk key h (edt tk u c).2 (edt tk u c).1).1 ((kds t).drop (place key (kds t) + 1))).1)), (refZ w tk (remB w tk key h (edt tk u c).2 (edt tk u c).1).2 ((kds t).take (place key (kds t))).reverse (remB w tk key h (edt tk u c).2 (edt tk u c).1).1 ((kds t).drop (place key (kds t) + 1))).2) := by
  rw [remB, hc]
  exact if_pos hl
theorem remB_ge {w tk : Nat} {key : Int32} {h u : Nat} {t : Tr (h + 1)} {c : Tr h} (hc : (kds t)[place key (kds t)]? = some c) (hl : ¬ (remB w tk key h (edt tk u c).2 (edt tk u c).1).1.2.2.length < lea w) : remB w tk key (h + 1) u t = ((nod t.1 t.2.1 ((kds t).take (place key (kds t)) ++ (remB w tk key h (edt tk u c).2 (edt tk u c).1).1 :: (kds t).drop (place key (kds t) + 1))), (remB w tk key h (edt tk u c).2 (edt tk u c).1).2) := by
  rw [remB, hc]
  exact if_neg hl
theorem remB_ent {w tk : Nat} {key : Int32} (hw : 3 ≤ w) : ∀ (h : Nat) {u : Nat} {t : Tr h}, okT (lea w) w h t → srt (ent h t) → ent h (remB w tk key h u t).1 = remE (ent h t) key := by
  have hl : 1 ≤ lea w := by unfold lea; omega
  intro h
  induction h with
  | zero => intro u t o hs; rfl
  | succ h ih =>
    intro u t o hs
    obtain ⟨c, hc, hd, hA, hB⟩ := place_split (key := key) hl (okT_k o) (okT_ne o) hs
    have i := ih (u := (edt tk u c).2) (t := (edt tk u c).1) (edt_ok (okT_fan hl (okT_k o c (List.mem_of_getElem? hc)))) (by rw [edt_ent]; rw [ent_kds hd] at hs; exact srt_mid hs)
    rw [edt_ent] at i
    rw [ent_kds hd, remE_app_l _ hA, remE_app_r _ hB, ← i]
    by_cases hq : (remB w tk key h (edt tk u c).2 (edt tk u c).1).1.2.2.length < lea w
    · rw [remB_lt hc hq]
      rw [ent_nod, refZ_ent, List.reverse_reverse, List.flatMap_append, List.flatMap_cons]
    · rw [remB_ge hc hq]
      rw [ent_nod, List.flatMap_append, List.flatMap_cons]
theorem remB_fan {w tk : Nat} {key : Int32} (hw : 3 ≤ w) : ∀ (h : Nat) {u : Nat} {t : Tr h}, okT (lea w) w h t → t.2.2.length ≤ w → (0 < h → 2 ≤ t.2.2.length) → fanL (lea w) w h (remB w tk key h u t).1.2.2 ∧ t.2.2.length ≤ (remB w tk key h u t).1.2.2.length + 1 ∧ (remB w tk key h u t).1.2.2.length ≤ t.2.2.length := by
  have hl : 2 ≤ lea w := by unfold lea; omega
  intro h
  induction h with
  | zero =>
    intro u t o hn _
    exact ⟨trivial, (remE_len2 (ets t) key).2, (remE_len2 (ets t) key).1⟩
  | succ h ih =>
    intro u t o hn h2
    have h3 : 2 ≤ (kds t).length := h2 (Nat.succ_pos _)
    have hnl : (kds t).length ≤ w := hn
    have hp : place key (kds t) < (kds t).length := place_lt (okT_ne o)
    have hc := List.getElem?_eq_getElem hp
    have hd := get_split hc
    have hfc := okT_k o _ (List.getElem_mem hp)
    have hfl := (fan_L.mp hfc).1
    obtain ⟨i1, i2, i3⟩ := ih (u := (edt tk u (kds t)[place key (kds t)]).2) (t := (edt tk u (kds t)[place key (kds t)]).1) (edt_ok (okT_fan (by omega) hfc)) (by rw [edt_it]; exact hfl.2) (fun _ => by rw [edt_it]; omega)
    rw [edt_it] at i2 i3
    by_cases hq : (remB w tk key h (edt tk u (kds t)[place key (kds t)]).2 (edt tk u (kds t)[place key (kds t)]).1).1.2.2.length < lea w
    · rw [remB_lt hc hq]
      obtain ⟨a, b, c⟩ := refZ_fan (tk := tk) (u := (remB w tk key h (edt tk u (kds t)[place key (kds t)]).2 (edt tk u (kds t)[place key (kds t)]).1).2) (A := ((kds t).take (place key (kds t))).reverse) (B := (kds t).drop (place key (kds t) + 1)) (k := (remB w tk key h (edt tk u (kds t)[place key (kds t)]).2 (edt tk u (kds t)[place key (kds t)]).1).1) hw (fun c hc => okT_k o c (List.mem_of_mem_take (List.mem_reverse.mp hc))) (fun c hc => okT_k o c (List.mem_of_mem_drop hc)) i1 (by omega) (by
        by_cases h0 : 0 < place key (kds t)
        · refine Or.inl (fun z => ?_)
          have h1 := congrArg List.length z
          rw [List.length_reverse, List.length_take, List.length_nil] at h1
          omega
        · refine Or.inr (fun z => ?_)
          have h1 := congrArg List.length z
          rw [List.length_drop, List.length_nil] at h1
          omega)
      rw [List.length_reverse, List.length_take, List.length_drop] at b c
      exact ⟨a, by rw [len_nod]; show (kds t).length ≤ _; omega, by rw [len_nod]; show _ ≤ (kds t).length; omega⟩
    · rw [remB_ge hc hq]
      have el : ((kds t).take (place key (kds t)) ++ (remB w tk key h (edt tk u (kds t)[place key (kds t)]).2 (edt tk u (kds t)[place key (kds t)]).1).1 :: (kds t).drop (place key (kds t) + 1)).length = (kds t).length := by
        rw [List.length_append, List.length_cons, List.length_take, List.length_drop]
        omega
      refine ⟨fun x hx => ?_, by rw [len_nod, el]; exact Nat.le_succ _, by rw [len_nod, el]; exact Nat.le_refl _⟩
      rcases List.mem_append.mp hx with hx | hx
      · exact okT_k o x (List.mem_of_mem_take hx)
      · rcases List.mem_cons.mp hx with rfl | hx
        · exact fan_L.mpr ⟨⟨by omega, by omega⟩, i1⟩
        · exact okT_k o x (List.mem_of_mem_drop hx)
theorem remB_gru {w tk : Nat} {key : Int32} : ∀ (h : Nat) {u : Nat} {t : Tr h}, bdd u (ndl h t) → ((remB w tk key h u t).1.1 = t.1 ∧ (remB w tk key h u t).1.2.1 = t.2.1) ∧ gru u (remB w tk key h u t).2 tk (ndl h t) (ndl h (remB w tk key h u t).1) := by
  intro h
  induction h with
  | zero => intro u t b; exact ⟨⟨rfl, rfl⟩, gru.rf b⟩
  | succ h ih =>
    intro u t b
    cases hc : (kds t)[place key (kds t)]? with
    | none =>
      rw [remB_no hc]
      exact ⟨⟨rfl, rfl⟩, gru.rf b⟩
    | some c =>
      have hd := get_split hc
      have b0 := b
      rw [ndl_kds hd] at b
      have g1 := edt_gru (tk := tk) (t := c) b.tl.mid
      obtain ⟨-, g2⟩ := ih (u := (edt tk u c).2) (t := (edt tk u c).1) (g1.1.bd b.tl.mid)
      have g3 := gru.ctx _ _ b.tl (g1.tr g2)
      have e : ((kds t).take (place key (kds t)) ++ (remB w tk key h (edt tk u c).2 (edt tk u c).1).1 :: (kds t).drop (place key (kds t) + 1)).flatMap (ndl h) = ((kds t).take (place key (kds t))).flatMap (ndl h) ++ (ndl h (remB w tk key h (edt tk u c).2 (edt tk u c).1).1 ++ ((kds t).drop (place key (kds t) + 1)).flatMap (ndl h)) := by rw [List.flatMap_append, List.flatMap_cons]
      by_cases hq : (remB w tk key h (edt tk u c).2 (edt tk u c).1).1.2.2.length < lea w
      · rw [remB_lt hc hq]
        refine ⟨⟨rfl, rfl⟩, ?_⟩
        have g4 := refZ_gru (w := w) (tk := tk) (u := (remB w tk key h (edt tk u c).2 (edt tk u c).1).2) (A := ((kds t).take (place key (kds t))).reverse) (B := (kds t).drop (place key (kds t) + 1)) (k := (remB w tk key h (edt tk u c).2 (edt tk u c).1).1)
        rw [List.reverse_reverse, e] at g4
        rw [ndl_kds hd]
        exact gru.con _ b (g3.tr (g4 (g3.1.bd b.tl)))
      · rw [remB_ge hc hq]
        refine ⟨⟨rfl, rfl⟩, ?_⟩
        rw [ndl_kds hd]
        have g5 := gru.con _ b g3
        rw [← e] at g5
        exact g5
/-- a whole tree: its root at most w, two or more where it isn't a leaf -/
def rok (w : Nat) (z : Tz) : Prop := z.2.2.2.length ≤ w ∧ fanL (lea w) w z.1 z.2.2.2 ∧ (0 < z.1 → 2 ≤ z.2.2.2.length) ∧ srt (ent z.1 z.2) ∧ vok (ent z.1 z.2)
theorem rok.ok {w : Nat} {z : Tz} (r : rok w z) : okT (lea w) w z.1 z.2 := ⟨r.2.1, fun h => by have := r.2.2.1 h; omega⟩
theorem rok.val {w : Nat} {z : Tz} (hw : 3 ≤ w) (r : rok w z) (key : Int32) : val z.1 z.2 key = valIn (ent z.1 z.2) key := val_ent (by unfold lea; omega) z.1 r.ok r.2.2.2.1
theorem rok.ne {w : Nat} {z : Tz} (hw : 3 ≤ w) (r : rok w z) : NeT z.1 z.2 := NeT_fan (by unfold lea; omega) z.1 r.ok
theorem setE_same {es : List KV} {key v : Int32} (h : valIn es key = v) (hv : ¬ v = -1000000) : setE es key v = es := by
  induction es with
  | nil => exact absurd h.symm hv
  | cons y r ih =>
    rw [valIn_cons] at h
    rw [setE_cons]
    split
    · rename_i hy
      rw [if_pos hy] at h
      rw [ih h]
    · rename_i hy
      rw [if_neg hy] at h
      split
      · rename_i hz
        rw [if_pos hz] at h
        rw [← hz, ← h]
      · rename_i hz
        rw [if_neg hz] at h
        exact absurd h.symm hv
theorem remE_same {es : List KV} {key : Int32} (h : valIn es key = -1000000) (hv : vok es) : remE es key = es := by
  induction es with
  | nil => rfl
  | cons y r ih =>
    rw [valIn_cons] at h
    rw [remE_cons]
    split
    · rename_i hy
      rw [if_pos hy] at h
      rw [ih h (fun x hx => hv x (List.mem_cons_of_mem _ hx))]
    · rename_i hy
      rw [if_neg hy] at h
      split
      · rename_i hz
        rw [if_pos hz] at h
        exact absurd h (hv y List.mem_cons_self)
      · rfl
theorem vok_setE {es : List KV} {key v : Int32} (h : vok es) (hv : ¬ v = -1000000) : vok (setE es key v) := fun x hx => (mem_setE hx).elim (fun z => by rw [z]; exact hv) (h x)
theorem vok_remE {es : List KV} {key : Int32} (h : vok es) : vok (remE es key) := fun x hx => h x (mem_remE hx)
theorem putT_same {w tk u : Nat} {key v : Int32} {z : Tz} (h : val z.1 z.2 key = v) : putT w tk u key v z = (z, u) := if_pos h
theorem putT_cases {w tk u : Nat} {key v : Int32} {z : Tz} : (val z.1 z.2 key = v ∧ putT w tk u key v z = (z, u)) ∨ (¬ val z.1 z.2 key = v ∧ (((insB w tk key v z.1 (edt tk u z.2).2 (edt tk u z.2).1).2.1 = none ∧ putT w tk u key v z = (⟨z.1, (insB w tk key v z.1 (edt tk u z.2).2 (edt tk u z.2).1).1⟩, (insB w tk key v z.1 (edt tk u z.2).2 (edt tk u z.2).1).2.2)) ∨ ∃ b, (insB w tk key v z.1 (edt tk u z.2).2 (edt tk u z.2).1).2.1 = some b ∧ putT w tk u key v z = (⟨z.1 + 1, nod (insB w tk key v z.1 (edt tk u z.2).2 (edt tk u z.2).1).2.2 tk [(insB w tk key v z.1 (edt tk u z.2).2 (edt tk u z.2).1).1, b]⟩, (insB w tk key v z.1 (edt tk u z.2).2 (edt tk u z.2).1).2.2 + 1))) := by
  by_cases h : val z.1 z.2 key = v
  · exact Or.inl ⟨h, if_pos h⟩
  · refine Or.inr ⟨h, ?_⟩
    cases hq : (insB w tk key v z.1 (edt tk u z.2).2 (edt tk u z.2).1).2.1 with
    | none =>
      refine Or.inl ⟨rfl, ?_⟩
      unfold putT
      rw [if_neg h, hq]
    | some b =>
      refine Or.inr ⟨b, rfl, ?_⟩
      unfold putT
      rw [if_neg h, hq]
theorem putT_ent {w tk u : Nat} {key v : Int32} {z : Tz} (hw : 3 ≤ w) (r : rok w z) (hv : ¬ v = -1000000) : ent (putT w tk u key v z).1.1 (putT w tk u key v z).1.2 = setE (ent z.1 z.2) key v := by
  have i := insB_ent (w := w) (tk := tk) (key := key) (v := v) hw z.1 (u := (edt tk u z.2).2) (t := (edt tk u z.2).1) (edt_ok r.ok) (by rw [edt_ent]; exact r.2.2.2.1)
  rw [edt_ent] at i
  rcases putT_cases (w := w) (tk := tk) (u := u) (key := key) (v := v) (z := z) with ⟨h, e⟩ | ⟨h, ⟨hq, e⟩ | ⟨b, hq, e⟩⟩
  · rw [e]
    rw [r.val hw] at h
    exact (setE_same h hv).symm
  · rw [e, ← i, hq]
    exact (List.append_nil _).symm
  · rw [e, ← i, hq, ent_nod]
    rfl
theorem rok_putT {w tk u : Nat} {key v : Int32} {z : Tz} (hw : 3 ≤ w) (r : rok w z) (hv : ¬ v = -1000000) : rok w (putT w tk u key v z).1 := by
  have e0 := putT_ent (tk := tk) (u := u) (key := key) hw r hv
  obtain ⟨i1, i2, i3, i4⟩ := insB_fan (w := w) (tk := tk) (key := key) (v := v) hw z.1 (u := (edt tk u z.2).2) (t := (edt tk u z.2).1) (edt_ok r.ok) (by rw [edt_it]; exact r.1)
  rw [edt_it] at i3
  have k : (putT w tk u key v z).1.2.2.2.length ≤ w ∧ fanL (lea w) w (putT w tk u key v z).1.1 (putT w tk u key v z).1.2.2.2 ∧ (0 < (putT w tk u key v z).1.1 → 2 ≤ (putT w tk u key v z).1.2.2.2.length) := by
    rcases putT_cases (w := w) (tk := tk) (u := u) (key := key) (v := v) (z := z) with ⟨h, e⟩ | ⟨h, ⟨hq, e⟩ | ⟨b, hq, e⟩⟩
    · rw [e]
      exact ⟨r.1, r.2.1, r.2.2.1⟩
    · rw [e]
      exact ⟨i2, i1.1, fun h0 => Nat.le_trans (r.2.2.1 h0) (i3 hq)⟩
    · rw [e]
      refine ⟨by show 2 ≤ w; omega, fun c hc => ?_, fun _ => Nat.le_refl 2⟩
      rcases List.mem_cons.mp hc with rfl | hc
      · exact fan_L.mpr ⟨⟨(i4 b hq).1, i2⟩, i1.1⟩
      · rw [List.mem_singleton.mp hc]
        exact (i4 b hq).2
  exact ⟨k.1, k.2.1, k.2.2, by rw [e0]; exact srt_setE r.2.2.2.1, by rw [e0]; exact vok_setE r.2.2.2.2 hv⟩
theorem putT_grw {w tk u : Nat} {key v : Int32} {z : Tz} (b : bdd u (ndl z.1 z.2)) : grw u (putT w tk u key v z).2 tk (ndl z.1 z.2) (ndl (putT w tk u key v z).1.1 (putT w tk u key v z).1.2) := by
  have g1 := edt_grw (tk := tk) b
  have g2 := (insB_grw (w := w) (tk := tk) (key := key) (v := v) z.1 (g1.bd b)).2
  have g3 := g1.tr g2
  rcases putT_cases (w := w) (tk := tk) (u := u) (key := key) (v := v) (z := z) with ⟨h, e⟩ | ⟨h, ⟨hq, e⟩ | ⟨c, hq, e⟩⟩
  · rw [e]
    exact grw.rf b
  · rw [e]
    exact g3.sub (List.sublist_append_left _ _)
  · rw [e]
    have g4 := g3.tr (grw_new (tk := tk) (g3.bd b))
    rw [hq] at g4
    exact g4
theorem putT_un {w tk u : Nat} {key v : Int32} {z : Tz} : (putT w tk u key v z).2 + un tk (ndl (putT w tk u key v z).1.1 (putT w tk u key v z).1.2) ≤ u + un tk (ndl z.1 z.2) + (z.1 + 2) := by
  have g1 := edt_un tk u z.2
  have g2 := insB_un (w := w) (tk := tk) (key := key) (v := v) z.1 (edt tk u z.2).2 (edt tk u z.2).1
  rcases putT_cases (w := w) (tk := tk) (u := u) (key := key) (v := v) (z := z) with ⟨h, e⟩ | ⟨h, ⟨hq, e⟩ | ⟨c, hq, e⟩⟩
  · rw [e]
    show u + un tk (ndl z.1 z.2) ≤ _
    omega
  · rw [e]
    rw [un_app] at g2
    show (insB w tk key v z.1 (edt tk u z.2).2 (edt tk u z.2).1).2.2 + un tk (ndl z.1 (insB w tk key v z.1 (edt tk u z.2).2 (edt tk u z.2).1).1) ≤ _
    omega
  · rw [e]
    rw [hq] at g2
    show (insB w tk key v z.1 (edt tk u z.2).2 (edt tk u z.2).1).2.2 + 1 + un tk (ndl (z.1 + 1) (nod (insB w tk key v z.1 (edt tk u z.2).2 (edt tk u z.2).1).2.2 tk [(insB w tk key v z.1 (edt tk u z.2).2 (edt tk u z.2).1).1, c])) ≤ _
    have e2 : ndl (z.1 + 1) (nod (insB w tk key v z.1 (edt tk u z.2).2 (edt tk u z.2).1).2.2 tk [(insB w tk key v z.1 (edt tk u z.2).2 (edt tk u z.2).1).1, c]) = ((insB w tk key v z.1 (edt tk u z.2).2 (edt tk u z.2).1).2.2, tk) :: (ndl z.1 (insB w tk key v z.1 (edt tk u z.2).2 (edt tk u z.2).1).1 ++ (Option.some c).toList.flatMap (ndl z.1)) := rfl
    rw [e2, un_cons, if_pos rfl]
    omega
theorem putT_old {w tk u : Nat} {key v : Int32} {z : Tz} (hw : 3 ≤ w) (r : rok w z) (hk : ¬ valIn (ent z.1 z.2) key = -1000000) : (putT w tk u key v z).2 + un tk (ndl (putT w tk u key v z).1.1 (putT w tk u key v z).1.2) = u + un tk (ndl z.1 z.2) := by
  have g1 := edt_un tk u z.2
  obtain ⟨g2, g3⟩ := insB_old (w := w) (tk := tk) (key := key) (v := v) hw z.1 (u := (edt tk u z.2).2) (t := (edt tk u z.2).1) (edt_ok r.ok) (by rw [edt_it]; exact r.1) (by rw [edt_ent]; exact r.2.2.2.1) (by rw [edt_ent]; exact r.2.2.2.2) (by rw [edt_ent]; exact hk)
  rcases putT_cases (w := w) (tk := tk) (u := u) (key := key) (v := v) (z := z) with ⟨h, e⟩ | ⟨h, ⟨hq, e⟩ | ⟨c, hq, e⟩⟩
  · rw [e]
  · rw [e]
    show (insB w tk key v z.1 (edt tk u z.2).2 (edt tk u z.2).1).2.2 + un tk (ndl z.1 (insB w tk key v z.1 (edt tk u z.2).2 (edt tk u z.2).1).1) = _
    omega
  · rw [g2] at hq
    exact absurd hq (by simp)
theorem dwn_cases (z : Tz) : dwn z = z ∧ (0 < z.1 → z.2.2.2.length ≠ 1) ∨ ∃ (h : Nat) (t : Tr (h + 1)) (c : Tr h), z = ⟨h + 1, t⟩ ∧ kds t = [c] ∧ dwn z = ⟨h, c⟩ := by
  obtain ⟨h, t⟩ := z
  cases h with
  | zero => exact Or.inl ⟨rfl, fun z => absurd z (Nat.lt_irrefl 0)⟩
  | succ h =>
    cases hq : kds t with
    | nil =>
      refine Or.inl ⟨?_, fun _ z => ?_⟩
      · show (match kds t with | [c] => (⟨h, c⟩ : Tz) | _ => ⟨h + 1, t⟩) = _
        rw [hq]
      · have z2 : (kds t).length = 1 := z
        rw [hq] at z2
        exact absurd z2 (by simp)
    | cons c r =>
      cases r with
      | nil =>
        refine Or.inr ⟨h, t, c, rfl, hq, ?_⟩
        show (match kds t with | [c] => (⟨h, c⟩ : Tz) | _ => ⟨h + 1, t⟩) = _
        rw [hq]
      | cons d r =>
        refine Or.inl ⟨?_, fun _ z => ?_⟩
        · show (match kds t with | [c] => (⟨h, c⟩ : Tz) | _ => ⟨h + 1, t⟩) = _
          rw [hq]
        · have z2 : (kds t).length = 1 := z
          rw [hq] at z2
          simp at z2
theorem dwn_ent (z : Tz) : ent (dwn z).1 (dwn z).2 = ent z.1 z.2 := by
  rcases dwn_cases z with ⟨e, -⟩ | ⟨h, t, c, rfl, hq, e⟩
  · rw [e]
  · rw [e]
    show ent h c = (kds t).flatMap (ent h)
    rw [hq, List.flatMap_cons, List.flatMap_nil, List.append_nil]
theorem dwn_nd (z : Tz) : List.Sublist (ndl (dwn z).1 (dwn z).2) (ndl z.1 z.2) := by
  rcases dwn_cases z with ⟨e, -⟩ | ⟨h, t, c, rfl, hq, e⟩
  · rw [e]
    exact List.Sublist.refl _
  · rw [e]
    show List.Sublist (ndl h c) (_ :: (kds t).flatMap (ndl h))
    rw [hq, List.flatMap_cons, List.flatMap_nil, List.append_nil]
    exact List.sublist_cons_self _ _
theorem takT_cases {w tk u : Nat} {key : Int32} {z : Tz} : (val z.1 z.2 key = -1000000 ∧ takT w tk u key z = (z, u)) ∨ (¬ val z.1 z.2 key = -1000000 ∧ takT w tk u key z = (dwn ⟨z.1, (remB w tk key z.1 (edt tk u z.2).2 (edt tk u z.2).1).1⟩, (remB w tk key z.1 (edt tk u z.2).2 (edt tk u z.2).1).2)) := by
  by_cases h : val z.1 z.2 key = -1000000
  · exact Or.inl ⟨h, if_pos h⟩
  · exact Or.inr ⟨h, if_neg h⟩
theorem takT_ent {w tk u : Nat} {key : Int32} {z : Tz} (hw : 3 ≤ w) (r : rok w z) : ent (takT w tk u key z).1.1 (takT w tk u key z).1.2 = remE (ent z.1 z.2) key := by
  rcases takT_cases (w := w) (tk := tk) (u := u) (key := key) (z := z) with ⟨h, e⟩ | ⟨h, e⟩
  · rw [e]
    rw [r.val hw] at h
    exact (remE_same h r.2.2.2.2).symm
  · rw [e]
    have i := remB_ent (w := w) (tk := tk) (key := key) hw z.1 (u := (edt tk u z.2).2) (t := (edt tk u z.2).1) (edt_ok r.ok) (by rw [edt_ent]; exact r.2.2.2.1)
    rw [edt_ent] at i
    exact (dwn_ent _).trans i
theorem rok_takT {w tk u : Nat} {key : Int32} {z : Tz} (hw : 3 ≤ w) (r : rok w z) : rok w (takT w tk u key z).1 := by
  have e0 := takT_ent (tk := tk) (u := u) (key := key) hw r
  obtain ⟨i1, i2, i3⟩ := remB_fan (w := w) (tk := tk) (key := key) hw z.1 (u := (edt tk u z.2).2) (t := (edt tk u z.2).1) (edt_ok r.ok) (by rw [edt_it]; exact r.1) (by rw [edt_it]; exact r.2.2.1)
  rw [edt_it] at i2 i3
  have k : (takT w tk u key z).1.2.2.2.length ≤ w ∧ fanL (lea w) w (takT w tk u key z).1.1 (takT w tk u key z).1.2.2.2 ∧ (0 < (takT w tk u key z).1.1 → 2 ≤ (takT w tk u key z).1.2.2.2.length) := by
    rcases takT_cases (w := w) (tk := tk) (u := u) (key := key) (z := z) with ⟨h, e⟩ | ⟨h, e⟩
    · rw [e]
      exact ⟨r.1, r.2.1, r.2.2.1⟩
    · rw [e]
      rcases dwn_cases ⟨z.1, (remB w tk key z.1 (edt tk u z.2).2 (edt tk u z.2).1).1⟩ with ⟨e2, hn⟩ | ⟨h2, t2, c, ez, hq, e2⟩
      · show (dwn ⟨z.1, (remB w tk key z.1 (edt tk u z.2).2 (edt tk u z.2).1).1⟩).2.2.2.length ≤ w ∧ fanL (lea w) w (dwn ⟨z.1, (remB w tk key z.1 (edt tk u z.2).2 (edt tk u z.2).1).1⟩).1 (dwn ⟨z.1, (remB w tk key z.1 (edt tk u z.2).2 (edt tk u z.2).1).1⟩).2.2.2 ∧ (0 < (dwn ⟨z.1, (remB w tk key z.1 (edt tk u z.2).2 (edt tk u z.2).1).1⟩).1 → 2 ≤ (dwn ⟨z.1, (remB w tk key z.1 (edt tk u z.2).2 (edt tk u z.2).1).1⟩).2.2.2.length)
        rw [e2]
        refine ⟨Nat.le_trans i3 r.1, i1, fun h0 => ?_⟩
        have h4 := hn h0
        have h5 := r.2.2.1 h0
        show 2 ≤ (remB w tk key z.1 (edt tk u z.2).2 (edt tk u z.2).1).1.2.2.length
        have h6 : ¬ (remB w tk key z.1 (edt tk u z.2).2 (edt tk u z.2).1).1.2.2.length = 1 := h4
        omega
      · show (dwn ⟨z.1, (remB w tk key z.1 (edt tk u z.2).2 (edt tk u z.2).1).1⟩).2.2.2.length ≤ w ∧ fanL (lea w) w (dwn ⟨z.1, (remB w tk key z.1 (edt tk u z.2).2 (edt tk u z.2).1).1⟩).1 (dwn ⟨z.1, (remB w tk key z.1 (edt tk u z.2).2 (edt tk u z.2).1).1⟩).2.2.2 ∧ (0 < (dwn ⟨z.1, (remB w tk key z.1 (edt tk u z.2).2 (edt tk u z.2).1).1⟩).1 → 2 ≤ (dwn ⟨z.1, (remB w tk key z.1 (edt tk u z.2).2 (edt tk u z.2).1).1⟩).2.2.2.length)
        rw [e2]
        have f : ∀ y : Tz, y = ⟨h2 + 1, t2⟩ → fanL (lea w) w y.1 y.2.2.2 → fan (lea w) w h2 c := fun y hy f => by
          subst hy
          exact f c (by show c ∈ kds t2; rw [hq]; exact List.mem_cons_self)
        have f2 := fan_L.mp (f _ ez i1)
        refine ⟨f2.1.2, f2.2, fun _ => Nat.le_trans (by unfold lea; omega) f2.1.1⟩
  exact ⟨k.1, k.2.1, k.2.2, by rw [e0]; exact srt_remE r.2.2.2.1, by rw [e0]; exact vok_remE r.2.2.2.2⟩
theorem takT_gru {w tk u : Nat} {key : Int32} {z : Tz} (b : bdd u (ndl z.1 z.2)) : gru u (takT w tk u key z).2 tk (ndl z.1 z.2) (ndl (takT w tk u key z).1.1 (takT w tk u key z).1.2) := by
  rcases takT_cases (w := w) (tk := tk) (u := u) (key := key) (z := z) with ⟨h, e⟩ | ⟨h, e⟩
  · rw [e]
    exact gru.rf b
  · rw [e]
    have g1 := edt_gru (tk := tk) b
    have g2 := (remB_gru (w := w) (tk := tk) (key := key) z.1 (g1.1.bd b)).2
    exact (g1.tr g2).sub (dwn_nd _)
/-- how many entries, how many nodes -/
theorem fan_cnt {lo hi : Nat} (hl : 2 ≤ lo) : ∀ (h : Nat) {t : Tr h}, fan lo hi h t → 2 ^ (h + 1) ≤ (ent h t).length ∧ (ndl h t).length + 1 ≤ (ent h t).length := by
  intro h
  induction h with
  | zero =>
    intro t f
    have f1 : lo ≤ (ets t).length := f.1
    exact ⟨by show 2 ≤ (ets t).length; omega, by show 1 + 1 ≤ (ets t).length; omega⟩
  | succ h ih =>
    intro t f
    have f1 : lo ≤ (kds t).length := f.1.1
    have f2 : ∀ c ∈ kds t, fan lo hi h c := f.2
    have key : ∀ l : List (Tr h), (∀ c ∈ l, fan lo hi h c) → l.length * 2 ^ (h + 1) ≤ (l.flatMap (ent h)).length ∧ (l.flatMap (ndl h)).length + l.length ≤ (l.flatMap (ent h)).length := by
      intro l
      induction l with
      | nil => intro _; simp
      | cons c l il =>
        intro hc
        obtain ⟨a1, a2⟩ := ih (hc c List.mem_cons_self)
        obtain ⟨b1, b2⟩ := il (fun x hx => hc x (List.mem_cons_of_mem _ hx))
        rw [List.flatMap_cons, List.flatMap_cons, List.length_append, List.length_append, List.length_cons, Nat.add_mul]
        omega
    obtain ⟨k1, k2⟩ := key (kds t) f2
    refine ⟨?_, ?_⟩
    · show 2 ^ (h + 2) ≤ ((kds t).flatMap (ent h)).length
      have h2 : 2 * 2 ^ (h + 1) ≤ (kds t).length * 2 ^ (h + 1) := Nat.mul_le_mul_right _ (by omega)
      rw [Nat.pow_succ]
      omega
    · show (_ :: (kds t).flatMap (ndl h)).length + 1 ≤ ((kds t).flatMap (ent h)).length
      rw [List.length_cons]
      omega
theorem rok.cnt {w : Nat} {z : Tz} (hw : 3 ≤ w) (r : rok w z) : (0 < z.1 → 2 ^ (z.1 + 1) ≤ (ent z.1 z.2).length) ∧ (ndl z.1 z.2).length ≤ (ent z.1 z.2).length + 1 ∧ (0 < z.1 → (ndl z.1 z.2).length + 1 ≤ (ent z.1 z.2).length) := by
  obtain ⟨h, t⟩ := z
  cases h with
  | zero => exact ⟨fun z => absurd z (Nat.lt_irrefl 0), by show 1 ≤ _; omega, fun z => absurd z (Nat.lt_irrefl 0)⟩
  | succ h =>
    have f : fan 2 w (h + 1) t := by
      have mono : ∀ (k : Nat) {s : Tr k}, fan (lea w) w k s → fan 2 w k s := by
        intro k
        induction k with
        | zero => intro s f; exact ⟨Nat.le_trans (by unfold lea; omega) f.1, f.2⟩
        | succ k ik => intro s f; exact ⟨⟨Nat.le_trans (by unfold lea; omega) f.1.1, f.1.2⟩, fun c hc => ik (f.2 c hc)⟩
      exact ⟨⟨r.2.2.1 (Nat.succ_pos _), r.1⟩, fun c hc => mono h (r.2.1 c hc)⟩
    obtain ⟨a, b⟩ := fan_cnt (Nat.le_refl 2) (h + 1) f
    exact ⟨fun _ => a, by show (ndl (h + 1) t).length ≤ (ent (h + 1) t).length + 1; omega, fun _ => b⟩
theorem cnt_ent : ∀ (h : Nat) (t : Tr h), cnt h t = (ent h t).length
  | 0, _ => rfl
  | h + 1, t => by
    show ((kds t).map (cnt h)).sum = ((kds t).flatMap (ent h)).length
    rw [List.length_flatMap]
    congr 1
    exact List.map_congr_left (fun c _ => cnt_ent h c)
