/-! put, taken out: entries, fullness, numbers, how many are made -/
theorem edt_it {h : Nat} (tk u : Nat) (t : Tr h) : (edt tk u t).1.2.2 = t.2.2 := by unfold edt; split <;> rfl
theorem edt_tk {h : Nat} (tk u : Nat) (t : Tr h) : (edt tk u t).1.2.1 = tk := by
  unfold edt
  split
  · assumption
  · rfl
theorem edt_ent {h : Nat} (tk u : Nat) (t : Tr h) : ent h (edt tk u t).1 = ent h t := by rw [ent_L, ent_L, edt_it]
theorem edt_ok {lo hi h : Nat} {tk u : Nat} {t : Tr h} (o : okT lo hi h t) : okT lo hi h (edt tk u t).1 := by unfold okT; rw [edt_it]; exact o
theorem spl_ent {h : Nat} (w tk u : Nat) (t : Tr h) : ent h (spl w tk u t).1 ++ (spl w tk u t).2.1.toList.flatMap (ent h) = ent h t := by
  unfold spl
  split
  · show ent h _ ++ (([_] : List (Tr h)).flatMap (ent h)) = _
    rw [List.flatMap_cons, List.flatMap_nil, List.append_nil, ent_L, ent_L, ent_L t, ← entL_app, List.take_append_drop]
  · show ent h t ++ ([] : List (Tr h)).flatMap (ent h) = _
    rw [List.flatMap_nil, List.append_nil]
theorem insB_s {w tk : Nat} {key v : Int32} {h u : Nat} {t : Tr (h + 1)} {c : Tr h} (hc : (kds t)[place key (kds t)]? = some c) : insB w tk key v (h + 1) u t = spl (h := h + 1) w tk (insB w tk key v h (edt tk u c).2 (edt tk u c).1).2.2 (nod t.1 t.2.1 ((kds t).take (place key (kds t)) ++ ((insB w tk key v h (edt tk u c).2 (edt tk u c).1).1 :: (insB w tk key v h (edt tk u c).2 (edt tk u c).1).2.1.toList ++ (kds t).drop (place key (kds t) + 1)))) := by
  rw [insB, hc]
theorem insB_ent {w tk : Nat} {key v : Int32} (hw : 3 ≤ w) : ∀ (h : Nat) {u : Nat} {t : Tr h}, okT (lea w) w h t → srt (ent h t) → ent h (insB w tk key v h u t).1 ++ (insB w tk key v h u t).2.1.toList.flatMap (ent h) = setE (ent h t) key v := by
  have hl : 1 ≤ lea w := by unfold lea; omega
  intro h
  induction h with
  | zero =>
    intro u t o hs
    exact spl_ent (h := 0) w tk u (t.1, t.2.1, setE (ets t) key v)
  | succ h ih =>
    intro u t o hs
    obtain ⟨c, hc, hd, hA, hB⟩ := place_split (key := key) hl (okT_k o) (okT_ne o) hs
    rw [insB_s hc, spl_ent]
    rw [ent_kds hd] at hs ⊢
    rw [setE_app_l _ hA, setE_app_r _ hB]
    have i := ih (u := (edt tk u c).2) (t := (edt tk u c).1) (edt_ok (okT_fan hl (okT_k o c (List.mem_of_getElem? hc)))) (by rw [edt_ent]; exact srt_mid hs)
    rw [edt_ent] at i
    rw [← i, ent_nod, List.flatMap_append, List.flatMap_append, List.flatMap_cons]
theorem spl_fan {w tk u h : Nat} {t : Tr h} (hw : 3 ≤ w) (hf : fanL (lea w) w h t.2.2) (hn : t.2.2.length ≤ w + 1) (hp : 0 < h → 0 < t.2.2.length) : okT (lea w) w h (spl w tk u t).1 ∧ (spl w tk u t).1.2.2.length ≤ w ∧ ((spl w tk u t).2.1 = none → t.2.2.length = (spl w tk u t).1.2.2.length) ∧ ∀ b, (spl w tk u t).2.1 = some b → lea w ≤ (spl w tk u t).1.2.2.length ∧ fan (lea w) w h b := by
  unfold spl
  by_cases hl : w < t.2.2.length
  · rw [if_pos hl]
    have e1 : (t.2.2.take (t.2.2.length - lea w)).length = t.2.2.length - lea w := by rw [List.length_take]; omega
    have e2 : (t.2.2.drop (t.2.2.length - lea w)).length = lea w := by rw [List.length_drop]; unfold lea; omega
    have h3 : lea w + lea w ≤ w + 1 := by unfold lea; omega
    have h4 : 1 ≤ lea w := by unfold lea; omega
    have hf2 : fanL (lea w) w h (t.2.2.take (t.2.2.length - lea w) ++ t.2.2.drop (t.2.2.length - lea w)) := by rw [List.take_append_drop]; exact hf
    obtain ⟨f1, f2⟩ := fanL_app.mp hf2
    refine ⟨⟨f1, fun _ => ?_⟩, ?_, fun z => absurd z (by simp), fun b hb => ?_⟩
    · show 0 < (t.2.2.take (t.2.2.length - lea w)).length
      rw [e1]; omega
    · show (t.2.2.take (t.2.2.length - lea w)).length ≤ w
      rw [e1]; omega
    · cases hb
      refine ⟨?_, fan_L.mpr ⟨⟨?_, ?_⟩, f2⟩⟩
      · show lea w ≤ (t.2.2.take (t.2.2.length - lea w)).length
        rw [e1]; omega
      · show lea w ≤ (t.2.2.drop (t.2.2.length - lea w)).length
        rw [e2]; exact Nat.le_refl _
      · show (t.2.2.drop (t.2.2.length - lea w)).length ≤ w
        rw [e2]; omega
  · rw [if_neg hl]
    exact ⟨⟨hf, hp⟩, Nat.le_of_not_lt hl, fun _ => rfl, fun b hb => absurd hb (by simp)⟩
theorem setE_len2 (es : List KV) (key v : Int32) : es.length ≤ (setE es key v).length ∧ (setE es key v).length ≤ es.length + 1 := by
  induction es with
  | nil => exact ⟨Nat.zero_le _, Nat.le_refl _⟩
  | cons y r ih =>
    rw [setE_cons]
    split
    · simp only [List.length_cons]; omega
    · split
      · simp only [List.length_cons]; omega
      · simp only [List.length_cons]; omega
theorem remE_len2 (es : List KV) (key : Int32) : (remE es key).length ≤ es.length ∧ es.length ≤ (remE es key).length + 1 := by
  induction es with
  | nil => exact ⟨Nat.zero_le _, Nat.zero_le _⟩
  | cons y r ih =>
    rw [remE_cons]
    split
    · simp only [List.length_cons]; omega
    · split
      · simp only [List.length_cons]; omega
      · simp only [List.length_cons]; omega
theorem opt_len {α : Type} (o : Option α) : o.toList.length ≤ 1 := by cases o <;> simp
theorem insB_fan {w tk : Nat} {key v : Int32} (hw : 3 ≤ w) : ∀ (h : Nat) {u : Nat} {t : Tr h}, okT (lea w) w h t → t.2.2.length ≤ w → okT (lea w) w h (insB w tk key v h u t).1 ∧ (insB w tk key v h u t).1.2.2.length ≤ w ∧ ((insB w tk key v h u t).2.1 = none → t.2.2.length ≤ (insB w tk key v h u t).1.2.2.length) ∧ ∀ b, (insB w tk key v h u t).2.1 = some b → lea w ≤ (insB w tk key v h u t).1.2.2.length ∧ fan (lea w) w h b := by
  have hl : 1 ≤ lea w := by unfold lea; omega
  intro h
  induction h with
  | zero =>
    intro u t o hn
    obtain ⟨s1, s2⟩ := setE_len2 (ets t) key v
    have hn2 : (ets t).length ≤ w := hn
    obtain ⟨a, b, c, d⟩ := spl_fan (h := 0) (tk := tk) (u := u) (t := (t.1, t.2.1, setE (ets t) key v)) hw trivial (by show (setE (ets t) key v).length ≤ _; omega) (fun z => absurd z (by omega))
    exact ⟨a, b, fun z => Nat.le_trans s1 (Nat.le_of_eq (c z)), d⟩
  | succ h ih =>
    intro u t o hn
    have hp : place key (kds t) < (kds t).length := place_lt (okT_ne o)
    have hc := List.getElem?_eq_getElem hp
    have hd := get_split hc
    have hfc := okT_k o _ (List.getElem_mem hp)
    obtain ⟨i1, i2, i3, i4⟩ := ih (u := (edt tk u (kds t)[place key (kds t)]).2) (t := (edt tk u (kds t)[place key (kds t)]).1) (edt_ok (okT_fan hl hfc)) (by rw [edt_it]; exact (fan_L.mp hfc).1.2)
    rw [edt_it] at i3
    rw [insB_s hc]
    have hnl : (kds t).length ≤ w := hn
    have ol := opt_len (insB w tk key v h (edt tk u (kds t)[place key (kds t)]).2 (edt tk u (kds t)[place key (kds t)]).1).2.1
    have el : ((kds t).take (place key (kds t)) ++ ((insB w tk key v h (edt tk u (kds t)[place key (kds t)]).2 (edt tk u (kds t)[place key (kds t)]).1).1 :: (insB w tk key v h (edt tk u (kds t)[place key (kds t)]).2 (edt tk u (kds t)[place key (kds t)]).1).2.1.toList ++ (kds t).drop (place key (kds t) + 1))).length = (kds t).length + (insB w tk key v h (edt tk u (kds t)[place key (kds t)]).2 (edt tk u (kds t)[place key (kds t)]).1).2.1.toList.length := by
      rw [List.length_append, List.length_append, List.length_cons, List.length_take, List.length_drop]
      omega
    obtain ⟨a, b, c, d⟩ := spl_fan (h := h + 1) (tk := tk) (u := (insB w tk key v h (edt tk u (kds t)[place key (kds t)]).2 (edt tk u (kds t)[place key (kds t)]).1).2.2) (t := (nod t.1 t.2.1 ((kds t).take (place key (kds t)) ++ ((insB w tk key v h (edt tk u (kds t)[place key (kds t)]).2 (edt tk u (kds t)[place key (kds t)]).1).1 :: (insB w tk key v h (edt tk u (kds t)[place key (kds t)]).2 (edt tk u (kds t)[place key (kds t)]).1).2.1.toList ++ (kds t).drop (place key (kds t) + 1))))) hw (fun x hx => by
      rcases List.mem_append.mp hx with hx | hx
      · exact okT_k o x (List.mem_of_mem_take hx)
      · rcases List.mem_append.mp hx with hx | hx
        · rcases List.mem_cons.mp hx with rfl | hx
          · refine fan_L.mpr ⟨⟨?_, i2⟩, i1.1⟩
            cases hq : (insB w tk key v h (edt tk u (kds t)[place key (kds t)]).2 (edt tk u (kds t)[place key (kds t)]).1).2.1 with
            | none => exact Nat.le_trans (fan_L.mp hfc).1.1 (i3 hq)
            | some b => exact (i4 b hq).1
          · exact (i4 x (Option.mem_toList.mp hx)).2
        · exact okT_k o x (List.mem_of_mem_drop hx)) (by rw [len_nod, el]; omega) (fun _ => by rw [len_nod, el]; omega)
    rw [len_nod, el] at c
    exact ⟨a, b, fun z => by have h1 := c z; show (kds t).length ≤ _; omega, d⟩
/-- a list of nodes made of another one: old ones, and new ones of this token -/
def bdd (u : Nat) (L : List (Nat × Nat)) : Prop := (∀ x ∈ L, x.1 < u) ∧ (L.map Prod.fst).Nodup
def grw (u u2 tk : Nat) (L L2 : List (Nat × Nat)) : Prop := u ≤ u2 ∧ (∀ x ∈ L2, x ∈ L ∨ (u ≤ x.1 ∧ x.1 < u2 ∧ x.2 = tk)) ∧ (L2.map Prod.fst).Nodup
theorem grw.bd {u u2 tk : Nat} {L L2 : List (Nat × Nat)} (h : grw u u2 tk L L2) (b : bdd u L) : bdd u2 L2 := ⟨fun x hx => (h.2.1 x hx).elim (fun z => Nat.lt_of_lt_of_le (b.1 x z) h.1) (fun z => z.2.1), h.2.2⟩
theorem grw.rf {u tk : Nat} {L : List (Nat × Nat)} (b : bdd u L) : grw u u tk L L := ⟨Nat.le_refl _, fun _ h => Or.inl h, b.2⟩
theorem grw.tr {u u2 u3 tk : Nat} {L L2 L3 : List (Nat × Nat)} (h : grw u u2 tk L L2) (h2 : grw u2 u3 tk L2 L3) : grw u u3 tk L L3 := ⟨Nat.le_trans h.1 h2.1, fun x hx => (h2.2.1 x hx).elim (fun z => (h.2.1 x z).imp id (fun y => ⟨y.1, Nat.lt_of_lt_of_le y.2.1 h2.1, y.2.2⟩)) (fun z => Or.inr ⟨Nat.le_trans h.1 z.1, z.2⟩), h2.2.2⟩
theorem grw.perm {u u2 tk : Nat} {L L2 L3 : List (Nat × Nat)} (h : grw u u2 tk L L2) (p : List.Perm L2 L3) : grw u u2 tk L L3 := ⟨h.1, fun x hx => h.2.1 x (p.mem_iff.mpr hx), (p.map Prod.fst).nodup_iff.mp h.2.2⟩
theorem grw.perm0 {u u2 tk : Nat} {L L0 L2 : List (Nat × Nat)} (h : grw u u2 tk L L2) (p : List.Perm L L0) : grw u u2 tk L0 L2 := ⟨h.1, fun x hx => (h.2.1 x hx).imp p.mem_iff.mp id, h.2.2⟩
theorem bdd.perm {u : Nat} {L L2 : List (Nat × Nat)} (h : bdd u L) (p : List.Perm L L2) : bdd u L2 := ⟨fun x hx => h.1 x (p.mem_iff.mpr hx), (p.map Prod.fst).nodup_iff.mp h.2⟩
theorem bdd.sub {u : Nat} {L L2 : List (Nat × Nat)} (h : bdd u L) (p : List.Sublist L2 L) : bdd u L2 := ⟨fun x hx => h.1 x (p.subset hx), h.2.sublist (p.map Prod.fst)⟩
theorem grw.sub {u u2 tk : Nat} {L L2 L3 : List (Nat × Nat)} (h : grw u u2 tk L L2) (p : List.Sublist L3 L2) : grw u u2 tk L L3 := ⟨h.1, fun x hx => h.2.1 x (p.subset hx), h.2.2.sublist (p.map Prod.fst)⟩
theorem bdd.mid {u : Nat} {P C Q : List (Nat × Nat)} (b : bdd u (P ++ (C ++ Q))) : bdd u C := b.sub ((List.sublist_append_left C Q).trans (List.sublist_append_right P _))
/-- in its place among others -/
theorem grw.ctx {u u2 tk : Nat} {C X : List (Nat × Nat)} (P Q : List (Nat × Nat)) (b : bdd u (P ++ (C ++ Q))) (h : grw u u2 tk C X) : grw u u2 tk (P ++ (C ++ Q)) (P ++ (X ++ Q)) := by
  obtain ⟨b1, b2⟩ := b
  obtain ⟨h1, h2, h3⟩ := h
  refine ⟨h1, fun x hx => ?_, ?_⟩
  · rcases List.mem_append.mp hx with hx | hx
    · exact Or.inl (List.mem_append_left _ hx)
    · rcases List.mem_append.mp hx with hx | hx
      · exact (h2 x hx).imp (fun z => List.mem_append_right _ (List.mem_append_left _ z)) id
      · exact Or.inl (List.mem_append_right _ (List.mem_append_right _ hx))
  · rw [List.map_append, List.map_append] at b2 ⊢
    obtain ⟨c1, c2, c3⟩ := List.nodup_append.mp b2
    obtain ⟨d1, d2, d3⟩ := List.nodup_append.mp c2
    refine List.nodup_append.mpr ⟨c1, List.nodup_append.mpr ⟨h3, d2, fun a ha y hy => ?_⟩, fun a ha y hy => ?_⟩
    · obtain ⟨x, hx, rfl⟩ := List.mem_map.mp ha
      obtain ⟨z, hz, rfl⟩ := List.mem_map.mp hy
      rcases h2 x hx with h4 | h4
      · exact d3 _ (List.mem_map_of_mem h4) _ hy
      · have h5 := b1 z (List.mem_append_right _ (List.mem_append_right _ hz))
        omega
    · rcases List.mem_append.mp hy with hy | hy
      · obtain ⟨x, hx, rfl⟩ := List.mem_map.mp ha
        obtain ⟨z, hz, rfl⟩ := List.mem_map.mp hy
        rcases h2 z hz with h4 | h4
        · exact c3 _ ha _ (List.mem_append_left _ (List.mem_map_of_mem h4))
        · have h5 := b1 x (List.mem_append_left _ hx)
          omega
      · exact c3 _ ha _ (List.mem_append_right _ hy)
theorem grw.con {u u2 tk : Nat} {C X : List (Nat × Nat)} (n : Nat × Nat) (b : bdd u (n :: C)) (h : grw u u2 tk C X) : grw u u2 tk (n :: C) (n :: X) := by
  have h1 := grw.ctx (u := u) (u2 := u2) (tk := tk) (C := C) (X := X) [n] [] (by rw [List.append_nil]; exact b) h
  rwa [List.append_nil, List.append_nil] at h1
theorem bdd.tl {u : Nat} {n : Nat × Nat} {C : List (Nat × Nat)} (b : bdd u (n :: C)) : bdd u C := b.sub (List.sublist_cons_self _ _)
/-- a new node's number comes in -/
theorem grw_new {u tk : Nat} {L : List (Nat × Nat)} (b : bdd u L) : grw u (u + 1) tk L ((u, tk) :: L) := ⟨Nat.le_succ _, fun x hx => (List.mem_cons.mp hx).elim (fun z => Or.inr (by rw [z]; exact ⟨Nat.le_refl _, Nat.lt_succ_self _, rfl⟩)) Or.inl, List.nodup_cons.mpr ⟨fun z => by
  obtain ⟨x, hx, e⟩ := List.mem_map.mp z
  have h1 := b.1 x hx
  have e2 : x.1 = u := e
  omega, b.2⟩⟩
theorem edt_grw {h tk u : Nat} {t : Tr h} (b : bdd u (ndl h t)) : grw u (edt tk u t).2 tk (ndl h t) (ndl h (edt tk u t).1) := by
  unfold edt
  split
  · exact grw.rf b
  · rw [ndl_L] at b ⊢
    rw [ndl_L]
    exact (grw_new (u := u) (tk := tk) b).sub ((List.sublist_cons_self _ _).cons_cons _)
theorem spl_grw {w tk u h : Nat} {t : Tr h} (b : bdd u (ndl h t)) : grw u (spl w tk u t).2.2 tk (ndl h t) (ndl h (spl w tk u t).1 ++ (spl w tk u t).2.1.toList.flatMap (ndl h)) := by
  unfold spl
  split
  · show grw u (u + 1) tk _ (ndl h _ ++ ([_] : List (Tr h)).flatMap (ndl h))
    rw [List.flatMap_cons, List.flatMap_nil, List.append_nil, ndl_L, ndl_L, ndl_L]
    rw [ndl_L] at b
    refine (grw_new (u := u) (tk := tk) b).perm ?_
    show List.Perm ((u, tk) :: (t.1, t.2.1) :: blw h t.2.2) ((t.1, t.2.1) :: (blw h (t.2.2.take (t.2.2.length - lea w)) ++ (u, tk) :: blw h (t.2.2.drop (t.2.2.length - lea w))))
    refine (List.Perm.swap _ _ _).trans (List.Perm.cons _ ?_)
    refine List.Perm.trans ?_ List.perm_middle.symm
    rw [← blw_app, List.take_append_drop]
  · show grw u u tk _ (ndl h t ++ ([] : List (Tr h)).flatMap (ndl h))
    rw [List.flatMap_nil, List.append_nil]
    exact grw.rf b
theorem insB_no {w tk : Nat} {key v : Int32} {h u : Nat} {t : Tr (h + 1)} (hc : (kds t)[place key (kds t)]? = none) : insB w tk key v (h + 1) u t = (t, none, u) := by rw [insB, hc]
theorem spl_id {w tk u h : Nat} (t : Tr h) : (spl w tk u t).1.1 = t.1 ∧ (spl w tk u t).1.2.1 = t.2.1 := by unfold spl; split <;> exact ⟨rfl, rfl⟩
theorem insB_grw {w tk : Nat} {key v : Int32} : ∀ (h : Nat) {u : Nat} {t : Tr h}, bdd u (ndl h t) → ((insB w tk key v h u t).1.1 = t.1 ∧ (insB w tk key v h u t).1.2.1 = t.2.1) ∧ grw u (insB w tk key v h u t).2.2 tk (ndl h t) (ndl h (insB w tk key v h u t).1 ++ (insB w tk key v h u t).2.1.toList.flatMap (ndl h)) := by
  intro h
  induction h with
  | zero =>
    intro u t b
    exact ⟨spl_id (h := 0) (t.1, t.2.1, setE (ets t) key v), spl_grw (h := 0) (t := (t.1, t.2.1, setE (ets t) key v)) b⟩
  | succ h ih =>
    intro u t b
    cases hc : (kds t)[place key (kds t)]? with
    | none =>
      rw [insB_no hc]
      refine ⟨⟨rfl, rfl⟩, ?_⟩
      show grw u u tk _ (_ ++ ([] : List (Tr (h + 1))).flatMap (ndl (h + 1)))
      rw [List.flatMap_nil, List.append_nil]
      exact grw.rf b
    | some c =>
      rw [insB_s hc]
      refine ⟨spl_id (h := h + 1) _, ?_⟩
      have hd := get_split hc
      have b0 := b
      rw [ndl_kds hd] at b
      have g1 := edt_grw (tk := tk) (t := c) b.tl.mid
      obtain ⟨-, g2⟩ := ih (u := (edt tk u c).2) (t := (edt tk u c).1) (g1.bd b.tl.mid)
      have g3 := grw.con _ b (grw.ctx _ _ b.tl (g1.tr g2))
      have g4 := spl_grw (h := h + 1) (w := w) (tk := tk) (u := (insB w tk key v h (edt tk u c).2 (edt tk u c).1).2.2) (t := (nod t.1 t.2.1 ((kds t).take (place key (kds t)) ++ ((insB w tk key v h (edt tk u c).2 (edt tk u c).1).1 :: (insB w tk key v h (edt tk u c).2 (edt tk u c).1).2.1.toList ++ (kds t).drop (place key (kds t) + 1)))))
      have e : ndl (h + 1) (nod t.1 t.2.1 ((kds t).take (place key (kds t)) ++ ((insB w tk key v h (edt tk u c).2 (edt tk u c).1).1 :: (insB w tk key v h (edt tk u c).2 (edt tk u c).1).2.1.toList ++ (kds t).drop (place key (kds t) + 1)))) = (t.1, t.2.1) :: (((kds t).take (place key (kds t))).flatMap (ndl h) ++ ((ndl h (insB w tk key v h (edt tk u c).2 (edt tk u c).1).1 ++ (insB w tk key v h (edt tk u c).2 (edt tk u c).1).2.1.toList.flatMap (ndl h)) ++ ((kds t).drop (place key (kds t) + 1)).flatMap (ndl h))) := by
        rw [ndl_nod, List.flatMap_append, List.flatMap_append, List.flatMap_cons]
      rw [e] at g4
      rw [ndl_kds hd]
      exact g3.tr (g4 (g3.bd b))
/-- how many have another token -/
def un (tk : Nat) (L : List (Nat × Nat)) : Nat := L.countP (fun x => !(x.2 == tk))
theorem un_nil (tk : Nat) : un tk [] = 0 := rfl
theorem un_cons (tk : Nat) (x : Nat × Nat) (L : List (Nat × Nat)) : un tk (x :: L) = un tk L + if x.2 = tk then 0 else 1 := by
  unfold un
  rw [List.countP_cons]
  by_cases h : x.2 = tk
  · rw [if_pos h, if_neg (by simp [h])]
  · rw [if_neg h, if_pos (by simp [h])]
theorem un_app (tk : Nat) (a b : List (Nat × Nat)) : un tk (a ++ b) = un tk a + un tk b := List.countP_append
theorem un_perm {tk : Nat} {a b : List (Nat × Nat)} (p : List.Perm a b) : un tk a = un tk b := p.countP_eq _
theorem un_le (tk : Nat) (L : List (Nat × Nat)) : un tk L ≤ L.length := List.countP_le_length
theorem edt_un {h : Nat} (tk u : Nat) (t : Tr h) : (edt tk u t).2 + un tk (ndl h (edt tk u t).1) = u + un tk (ndl h t) := by
  unfold edt
  split
  · rfl
  · rename_i hk
    rw [ndl_L, ndl_L, un_cons, un_cons]
    show u + 1 + (_ + if tk = tk then 0 else 1) = u + (_ + if t.2.1 = tk then 0 else 1)
    rw [if_pos rfl, if_neg hk]
    show u + 1 + (un tk (blw h t.2.2) + 0) = _
    omega
theorem spl_un {w tk u h : Nat} (t : Tr h) : (spl w tk u t).2.2 + un tk (ndl h (spl w tk u t).1 ++ (spl w tk u t).2.1.toList.flatMap (ndl h)) ≤ u + un tk (ndl h t) + 1 ∧ ((spl w tk u t).2.1 = none → (spl w tk u t).2.2 + un tk (ndl h (spl w tk u t).1) = u + un tk (ndl h t)) := by
  unfold spl
  split
  · refine ⟨?_, fun z => absurd z (by simp)⟩
    show u + 1 + un tk (ndl h _ ++ ([_] : List (Tr h)).flatMap (ndl h)) ≤ _
    rw [List.flatMap_cons, List.flatMap_nil, List.append_nil, ndl_L, ndl_L, ndl_L, un_app, un_cons, un_cons, un_cons]
    show u + 1 + (un tk (blw h (t.2.2.take (t.2.2.length - lea w))) + (if t.2.1 = tk then 0 else 1) + (un tk (blw h (t.2.2.drop (t.2.2.length - lea w))) + if tk = tk then 0 else 1)) ≤ u + (un tk (blw h t.2.2) + if t.2.1 = tk then 0 else 1) + 1
    have e : un tk (blw h t.2.2) = un tk (blw h (t.2.2.take (t.2.2.length - lea w))) + un tk (blw h (t.2.2.drop (t.2.2.length - lea w))) := by rw [← un_app, ← blw_app, List.take_append_drop]
    rw [if_pos rfl, e]
    omega
  · refine ⟨?_, fun _ => rfl⟩
    show u + un tk (ndl h t ++ ([] : List (Tr h)).flatMap (ndl h)) ≤ _
    rw [List.flatMap_nil, List.append_nil]
    omega
theorem insB_un {w tk : Nat} {key v : Int32} : ∀ (h : Nat) (u : Nat) (t : Tr h), (insB w tk key v h u t).2.2 + un tk (ndl h (insB w tk key v h u t).1 ++ (insB w tk key v h u t).2.1.toList.flatMap (ndl h)) ≤ u + un tk (ndl h t) + (h + 1) := by
  intro h
  induction h with
  | zero =>
    intro u t
    exact (spl_un (h := 0) (w := w) (tk := tk) (u := u) (t.1, t.2.1, setE (ets t) key v)).1
  | succ h ih =>
    intro u t
    cases hc : (kds t)[place key (kds t)]? with
    | none =>
      rw [insB_no hc]
      show u + un tk (ndl (h + 1) t ++ ([] : List (Tr (h + 1))).flatMap (ndl (h + 1))) ≤ _
      rw [List.flatMap_nil, List.append_nil]
      omega
    | some c =>
      rw [insB_s hc]
      have hd := get_split hc
      have g1 := edt_un tk u c
      have g2 := ih (edt tk u c).2 (edt tk u c).1
      have g4 := (spl_un (h := h + 1) (w := w) (tk := tk) (u := (insB w tk key v h (edt tk u c).2 (edt tk u c).1).2.2) (nod t.1 t.2.1 ((kds t).take (place key (kds t)) ++ ((insB w tk key v h (edt tk u c).2 (edt tk u c).1).1 :: (insB w tk key v h (edt tk u c).2 (edt tk u c).1).2.1.toList ++ (kds t).drop (place key (kds t) + 1))))).1
      have e : ndl (h + 1) (nod t.1 t.2.1 ((kds t).take (place key (kds t)) ++ ((insB w tk key v h (edt tk u c).2 (edt tk u c).1).1 :: (insB w tk key v h (edt tk u c).2 (edt tk u c).1).2.1.toList ++ (kds t).drop (place key (kds t) + 1)))) = (t.1, t.2.1) :: (((kds t).take (place key (kds t))).flatMap (ndl h) ++ ((ndl h (insB w tk key v h (edt tk u c).2 (edt tk u c).1).1 ++ (insB w tk key v h (edt tk u c).2 (edt tk u c).1).2.1.toList.flatMap (ndl h)) ++ ((kds t).drop (place key (kds t) + 1)).flatMap (ndl h))) := by
        rw [ndl_nod, List.flatMap_append, List.flatMap_append, List.flatMap_cons]
      refine Nat.le_trans g4 ?_
      rw [e, ndl_kds hd, un_cons, un_cons]
      simp only [un_app] at g2 ⊢
      omega
/-- a key that is there: no node is parted -/
theorem insB_old {w tk : Nat} {key v : Int32} (hw : 3 ≤ w) : ∀ (h : Nat) {u : Nat} {t : Tr h}, okT (lea w) w h t → t.2.2.length ≤ w → srt (ent h t) → vok (ent h t) → ¬ valIn (ent h t) key = -1000000 → (insB w tk key v h u t).2.1 = none ∧ (insB w tk key v h u t).2.2 + un tk (ndl h (insB w tk key v h u t).1) = u + un tk (ndl h t) := by
  have hl : 1 ≤ lea w := by unfold lea; omega
  intro h
  induction h with
  | zero =>
    intro u t o hn hs hv hi
    have hv : vok (ets t) := hv
    have hi : ¬ valIn (ets t) key = -1000000 := hi
    have e : (setE (ets t) key v).length = (ets t).length := by rw [setE_length v hv, if_neg hi]
    have e2 : insB w tk key v 0 u t = ((t.1, t.2.1, setE (ets t) key v), none, u) := by
      show spl (h := 0) w tk u (t.1, t.2.1, setE (ets t) key v) = _
      unfold spl
      exact if_neg (by show ¬ w < (setE (ets t) key v).length; rw [e]; exact Nat.not_lt.mpr hn)
    rw [e2]
    exact ⟨rfl, rfl⟩
  | succ h ih =>
    intro u t o hn hs hv hi
    obtain ⟨c, hc, hd, hA, hB⟩ := place_split (key := key) hl (okT_k o) (okT_ne o) hs
    have hfc := okT_k o c (List.mem_of_getElem? hc)
    rw [ent_kds hd] at hs hi hv
    rw [valIn_app_l _ hA, valIn_app_r _ hB] at hi
    obtain ⟨i1, i2⟩ := ih (u := (edt tk u c).2) (t := (edt tk u c).1) (edt_ok (okT_fan hl hfc)) (by rw [edt_it]; exact (fan_L.mp hfc).1.2) (by rw [edt_ent]; exact srt_mid hs) (by rw [edt_ent]; exact fun x hx => hv x (List.mem_append_right _ (List.mem_append_left _ hx))) (by rw [edt_ent]; exact hi)
    have hnl : (kds t).length ≤ w := hn
    have hp := (List.getElem?_eq_some_iff.mp hc).1
    have e2 : insB w tk key v (h + 1) u t = ((nod t.1 t.2.1 ((kds t).take (place key (kds t)) ++ ((insB w tk key v h (edt tk u c).2 (edt tk u c).1).1 :: (insB w tk key v h (edt tk u c).2 (edt tk u c).1).2.1.toList ++ (kds t).drop (place key (kds t) + 1)))), none, (insB w tk key v h (edt tk u c).2 (edt tk u c).1).2.2) := by
      rw [insB_s hc]
      unfold spl
      refine if_neg ?_
      rw [len_nod, i1, List.length_append, List.length_append, List.length_cons, List.length_take, List.length_drop]
      show ¬ w < _ + (0 + 1 + _)
      omega
    rw [e2]
    refine ⟨rfl, ?_⟩
    have g1 := edt_un tk u c
    rw [ndl_kds hd]
    rw [ndl_nod, i1, List.flatMap_append, List.flatMap_append, List.flatMap_cons]
    show (insB w tk key v h (edt tk u c).2 (edt tk u c).1).2.2 + un tk (_ :: (_ ++ ((_ ++ ([] : List (Tr h)).flatMap (ndl h)) ++ _))) = _
    rw [List.flatMap_nil, List.append_nil, un_cons, un_cons]
    simp only [un_app]
    show _ + (_ + (if t.2.1 = tk then 0 else 1)) = _ + (_ + (if t.2.1 = tk then 0 else 1))
    omega
