/-- nodes changed in their own cells alone: the tree behind it -/
theorem rf_fin {S Sf : aw_S} {ad ar : Nat → Nat} {u gw h tk id : Nat} {l l2 : List (Tr h)} {W : List (Nat × Nat)} {Q : Nat → Prop} (o : aw_is S gw 1) (hA : AD S ad ar u) (r : RepW S ad ar (h + 1) (nod id tk l)) (hb : bdd u (ndl (h + 1) (nod id tk l))) (f : frS S Sf Q) (hQ : ∀ b, Q b → ∃ x ∈ (id, tk) :: W, b = ad x.1 ∨ b = ar x.1) (hW : ∀ x ∈ W, x.2 = tk ∧ x.1 < u) (nl : NL Sf (ad id) false (ar id) (ksS (l2.map (fun c => ad c.1)))) (hl : ∀ c ∈ l2, (c ∈ l ∧ ∀ x ∈ ndl h c, ∀ y ∈ W, y.1 ≠ x.1) ∨ (OwnW Sf ad ar h c ∧ RepL S ad ar h c.2.2 ∧ ∀ x ∈ blw h c.2.2, x.1 < u ∧ x.1 ≠ id ∧ ∀ y ∈ W, y.1 ≠ x.1)) : RepW Sf ad ar (h + 1) (nod id tk l2) ∧ GR S Sf ad ar ad ar u u gw tk ((id, tk) :: W) := by
  have hu : id < u := hb.1 _ List.mem_cons_self
  have hW2 : ∀ x ∈ (id, tk) :: W, x.2 = tk ∧ x.1 < u := fun x hx => (List.mem_cons.mp hx).elim (fun z => by rw [z]; exact ⟨rfl, hu⟩) (hW x)
  have G : GR S Sf ad ar ad ar u u gw tk ((id, tk) :: W) := f.gr hA o (fun x hx => (hW2 x hx).2) (fun b hb2 => by
    obtain ⟨x, hx, hz⟩ := hQ b hb2
    exact ⟨x, hx, (hW2 x hx).1, hz⟩)
  refine ⟨⟨OwnW_k ?_ r.1.1.2 nl, fun c hc => ?_⟩, G⟩
  · rw [f.2.2.2.2.2.2.1 _ 256 (Or.inr rfl)]
    exact r.1.1.1
  · rcases hl c hc with ⟨h1, h2⟩ | ⟨h1, h2, h3⟩
    · refine RepW.gr hA o G (r.2 c h1) (fun x hx => ⟨hb.1 x (List.mem_cons_of_mem _ (List.mem_flatMap.mpr ⟨c, h1, hx⟩)), fun y hy _ => ⟨(hW2 y hy).2, fun z => ?_⟩⟩)
      rcases List.mem_cons.mp hy with rfl | hy
      · exact hb.hd (List.mem_flatMap.mpr ⟨c, h1, hx⟩) z.symm
      · exact h2 x hx y hy z
    · refine RepW_L.mpr ⟨h1, RepL.gr hA o G h2 (fun x hx => ⟨(h3 x hx).1, fun y hy _ => ⟨(hW2 y hy).2, fun z => ?_⟩⟩)⟩
      rcases List.mem_cons.mp hy with rfl | hy
      · exact (h3 x hx).2.1 z.symm
      · exact (h3 x hx).2.2 y hy z
/-- own cells of a node that was changed in place -/
theorem own_chg {S Sf : aw_S} {ad ar : Nat → Nat} {h : Nat} {Q : Nat → Prop} {t : Tr h} {l : List (Ct h)} (f : frS S Sf Q) (w : OwnW S ad ar h t) (nl : NL Sf (ad t.1) (lfB h) (ar t.1) (l.map (rawC ad h))) : OwnW Sf ad ar h (t.1, t.2.1, l) := ⟨⟨by
  show sI Sf 256 (ad t.1) = _
  rw [f.2.2.2.2.2.2.1 _ 256 (Or.inr rfl)]
  exact w.1.1, w.1.2⟩, nl⟩
theorem lastL {α : Type} {m : List α} {x : α} (hx : m[m.length - 1]? = some x) : m.drop (m.length - 1) = [x] ∧ m.eraseIdx (m.length - 1) = m.take (m.length - 1) := by
  obtain ⟨h1, h2⟩ := List.getElem?_eq_some_iff.mp hx
  refine ⟨?_, ?_⟩
  · rw [List.drop_eq_getElem_cons h1, h2, show m.length - 1 + 1 = m.length by omega, List.drop_length]
  · rw [List.eraseIdx_eq_take_drop_succ, show m.length - 1 + 1 = m.length by omega, List.drop_length, List.append_nil]
theorem firstL {α : Type} {m : List α} {x : α} (hx : m[0]? = some x) : m.take 1 = [x] ∧ m.eraseIdx 0 = m.drop 1 := by
  cases m with
  | nil => exact absurd hx (by simp)
  | cons y m => exact ⟨by simpa using hx, rfl⟩
theorem kset2 {f : Nat → Nat} {h : Nat} {P : List (Tr h)} {a e : Tr h} {R : List (Tr h)} : ((P ++ a :: R).map (fun c => f c.1)).set P.length (f e.1) = (P ++ e :: R).map (fun c => f c.1) := by
  rw [List.map_append, List.map_cons, List.map_append, List.map_cons, List.set_append_right (h := by rw [List.length_map]; exact Nat.le_refl _), List.length_map, Nat.sub_self]
  rfl
theorem kera2 {f : Nat → Nat} {h : Nat} {P : List (Tr h)} {a : Tr h} {R : List (Tr h)} : ((P ++ a :: R).map (fun c => f c.1)).eraseIdx P.length = (P ++ R).map (fun c => f c.1) := by
  rw [List.map_append, List.map_cons, List.map_append, List.eraseIdx_append_of_length_le (by rw [List.length_map]; exact Nat.le_refl _), List.length_map, Nat.sub_self]
  rfl
theorem get_mid {α : Type} (P : List α) (x : α) (R : List α) : (P ++ x :: R)[P.length]? = some x := by
  rw [List.getElem?_append_right (Nat.le_refl _), Nat.sub_self]
  rfl
theorem get_mid1 {α : Type} (P : List α) (x : α) (R : List α) : (P ++ x :: R)[P.length + 1]? = R[0]? := by
  rw [List.getElem?_append_right (Nat.le_succ _), show P.length + 1 - P.length = 1 by omega]
  rfl
theorem get_mid2 {α : Type} (P : List α) (x y : α) (R : List α) : (P ++ x :: y :: R)[P.length + 1 + 1]? = R[0]? := by
  rw [List.getElem?_append_right (by omega), show P.length + 1 + 1 - P.length = 2 by omega]
  rfl
theorem tak_mid {α : Type} (P : List α) (x : α) (R : List α) : (P ++ x :: R).take P.length = P ∧ (P ++ x :: R).drop (P.length + 1) = R := by
  refine ⟨List.take_left, ?_⟩
  rw [show P.length + 1 = (P ++ [x]).length by simp, show P ++ x :: R = (P ++ [x]) ++ R by simp]
  exact List.drop_left
theorem ndl_two {h id tk : Nat} {P B : List (Tr h)} {X Y : Tr h} : ndl (h + 1) (nod id tk (P ++ X :: Y :: B)) = (id, tk) :: (P.flatMap (ndl h) ++ (ndl h X ++ (ndl h Y ++ B.flatMap (ndl h)))) := by rw [ndl_nod, List.flatMap_append, List.flatMap_cons, List.flatMap_cons]
theorem in_P {h : Nat} {P : List (Tr h)} {c : Tr h} (hc : c ∈ P) {x : Nat × Nat} (hx : x ∈ ndl h c) : x ∈ P.flatMap (ndl h) := List.mem_flatMap.mpr ⟨c, hc, hx⟩
theorem bdd.dis2 {u : Nat} {n : Nat × Nat} {A X Y B : List (Nat × Nat)} (b : bdd u (n :: (A ++ (X ++ (Y ++ B))))) : (∀ x ∈ A ++ (X ++ (Y ++ B)), x.1 ≠ n.1) ∧ (∀ y ∈ X, (∀ x ∈ A, x.1 ≠ y.1) ∧ (∀ x ∈ Y, x.1 ≠ y.1) ∧ ∀ x ∈ B, x.1 ≠ y.1) ∧ (∀ y ∈ Y, (∀ x ∈ A, x.1 ≠ y.1) ∧ (∀ x ∈ X, x.1 ≠ y.1) ∧ ∀ x ∈ B, x.1 ≠ y.1) := by
  have h2 := b.2
  simp only [List.map_cons, List.map_append] at h2
  obtain ⟨-, a2⟩ := List.nodup_cons.mp h2
  obtain ⟨-, b2, b3⟩ := List.nodup_append.mp a2
  obtain ⟨-, c2, c3⟩ := List.nodup_append.mp b2
  obtain ⟨-, -, d3⟩ := List.nodup_append.mp c2
  have m : ∀ {L : List (Nat × Nat)} {x : Nat × Nat}, x ∈ L → x.1 ∈ L.map Prod.fst := fun h => List.mem_map_of_mem h
  refine ⟨fun x hx => b.hd hx, fun y hy => ⟨fun x hx => b3 _ (m hx) _ (List.mem_append_left _ (m hy)), fun x hx z => c3 _ (m hy) _ (List.mem_append_left _ (m hx)) z.symm, fun x hx z => c3 _ (m hy) _ (List.mem_append_right _ (m hx)) z.symm⟩, fun y hy => ⟨fun x hx => b3 _ (m hx) _ (List.mem_append_right _ (List.mem_append_left _ (m hy))), fun x hx => c3 _ (m hx) _ (List.mem_append_left _ (m hy)), fun x hx z => d3 _ (m hy) _ (m hx) z.symm⟩⟩
/-- two children beside each other, changed in their own cells -/
theorem two_fin {S Sf : aw_S} {ad ar : Nat → Nat} {u gw h tk id : Nat} {P B : List (Tr h)} {X Y : Tr h} {lX lY : List (Ct h)} {Q : Nat → Prop} (o : aw_is S gw 1) (hA : AD S ad ar u) (r : RepW S ad ar (h + 1) (nod id tk (P ++ X :: Y :: B))) (hb : bdd u (ndl (h + 1) (nod id tk (P ++ X :: Y :: B)))) (hX : X.2.1 = tk) (hY : Y.2.1 = tk) (f : frS S Sf Q) (hQ : ∀ b, Q b → (b = ad X.1 ∨ b = ar X.1) ∨ b = ad Y.1 ∨ b = ar Y.1) (n1 : NL Sf (ad X.1) (lfB h) (ar X.1) (lX.map (rawC ad h))) (n2 : NL Sf (ad Y.1) (lfB h) (ar Y.1) (lY.map (rawC ad h))) (rX : RepL S ad ar h lX) (rY : RepL S ad ar h lY) (hx : ∀ x ∈ blw h lX, x ∈ blw h X.2.2 ∨ x ∈ blw h Y.2.2) (hy : ∀ x ∈ blw h lY, x ∈ blw h X.2.2 ∨ x ∈ blw h Y.2.2) : RepW Sf ad ar (h + 1) (nod id tk (P ++ (X.1, tk, lX) :: (Y.1, tk, lY) :: B)) ∧ GR S Sf ad ar ad ar u u gw tk [(id, tk), (X.1, tk), (Y.1, tk)] := by
  have b := hb
  rw [ndl_two] at b
  obtain ⟨d0, d1, d2⟩ := b.dis2
  have eX : (X.1, tk) ∈ ndl h X := by rw [← hX]; exact mem_own X
  have eY : (Y.1, tk) ∈ ndl h Y := by rw [← hY]; exact mem_own Y
  have mX : ∀ x ∈ ndl h X, x ∈ P.flatMap (ndl h) ++ (ndl h X ++ (ndl h Y ++ B.flatMap (ndl h))) := fun x hx => List.mem_append_right _ (List.mem_append_left _ hx)
  have mY : ∀ x ∈ ndl h Y, x ∈ P.flatMap (ndl h) ++ (ndl h X ++ (ndl h Y ++ B.flatMap (ndl h))) := fun x hx => List.mem_append_right _ (List.mem_append_right _ (List.mem_append_left _ hx))
  have oX : OwnW S ad ar h X := (r.2 X (List.mem_append_right _ List.mem_cons_self)).own
  have oY : OwnW S ad ar h Y := (r.2 Y (List.mem_append_right _ (List.mem_cons_of_mem _ List.mem_cons_self))).own
  have uX : X.1 < u := b.1 _ (List.mem_cons_of_mem _ (mX _ eX))
  have uY : Y.1 < u := b.1 _ (List.mem_cons_of_mem _ (mY _ eY))
  have bXs : bdd u (ndl h X) := b.tl.mid
  have bYs : bdd u (ndl h Y) := bdd.mid (P := ndl h X) (b.tl.sub (List.sublist_append_right _ _))
  have items : ∀ x, (x ∈ blw h X.2.2 ∨ x ∈ blw h Y.2.2) → x.1 < u ∧ x.1 ≠ id ∧ ∀ y ∈ [((X.1, tk) : Nat × Nat), (Y.1, tk)], y.1 ≠ x.1 := fun x hx => by
    rcases hx with hx | hx
    · refine ⟨b.1 _ (List.mem_cons_of_mem _ (mX x (mem_blw hx))), d0 x (mX x (mem_blw hx)), fun y hy z => ?_⟩
      rcases List.mem_cons.mp hy with rfl | hy
      · exact nd_own bXs x hx z.symm
      · rw [List.mem_singleton.mp hy] at z
        exact (d2 _ eY).2.1 x (mem_blw hx) z.symm
    · refine ⟨b.1 _ (List.mem_cons_of_mem _ (mY x (mem_blw hx))), d0 x (mY x (mem_blw hx)), fun y hy z => ?_⟩
      rcases List.mem_cons.mp hy with rfl | hy
      · exact (d1 _ eX).2.1 x (mem_blw hx) z.symm
      · rw [List.mem_singleton.mp hy] at z
        exact nd_own bYs x hx z.symm
  have hu : id < u := b.1 _ List.mem_cons_self
  refine rf_fin (W := [(X.1, tk), (Y.1, tk)]) o hA r hb f (fun b hb2 => ?_) (fun x hx => ?_) ?_ (fun c hc => ?_)
  · rcases hQ b hb2 with h1 | h1
    · exact ⟨_, List.mem_cons_of_mem _ List.mem_cons_self, h1⟩
    · exact ⟨_, List.mem_cons_of_mem _ (List.mem_cons_of_mem _ List.mem_cons_self), h1⟩
  · rcases List.mem_cons.mp hx with rfl | hx
    · exact ⟨rfl, uX⟩
    · rw [List.mem_singleton.mp hx]; exact ⟨rfl, uY⟩
  · have e : (P ++ (X.1, tk, lX) :: (Y.1, tk, lY) :: B).map (fun c : Tr h => ad c.1) = (P ++ X :: Y :: B).map (fun c => ad c.1) := by
      rw [List.map_append, List.map_append, List.map_cons, List.map_cons, List.map_cons, List.map_cons]
    rw [e]
    have nk := r.own.k
    have nX : ∀ {y : Nat}, y < u → y ≠ id → (ad id ≠ ad y ∧ ad id ≠ ar y) ∧ ar id ≠ ad y ∧ ar id ≠ ar y := fun hy hn => ⟨⟨fun z => hn (((hA id hu).2 _ hy).1 z).symm, hA.ne hu hy⟩, fun z => hA.ne hy hu z.symm, fun z => hn (((hA id hu).2 _ hy).2 z).symm⟩
    have p1 := nX uX (d0 _ (mX _ eX))
    have p2 := nX uY (d0 _ (mY _ eY))
    exact nk.fr f (fun z => (hQ _ z).elim (fun y => y.elim p1.1.1 p1.1.2) (fun y => y.elim p2.1.1 p2.1.2)) (fun z => (hQ _ z).elim (fun y => y.elim p1.2.1 p1.2.2) (fun y => y.elim p2.2.1 p2.2.2))
  · rcases List.mem_append.mp hc with hc | hc
    · refine Or.inl ⟨List.mem_append_left _ hc, fun x hx y hy z => ?_⟩
      rcases List.mem_cons.mp hy with rfl | hy
      · exact (d1 _ eX).1 x (in_P hc hx) z.symm
      · rw [List.mem_singleton.mp hy] at z
        exact (d2 _ eY).1 x (in_P hc hx) z.symm
    · rcases List.mem_cons.mp hc with rfl | hc
      · refine Or.inr ⟨?_, rX, fun x hx2 => items x (hx x hx2)⟩
        have h1 := own_chg f oX n1
        rw [hX] at h1
        exact h1
      · rcases List.mem_cons.mp hc with rfl | hc
        · refine Or.inr ⟨?_, rY, fun x hx2 => items x (hy x hx2)⟩
          have h1 := own_chg f oY n2
          rw [hY] at h1
          exact h1
        · refine Or.inl ⟨List.mem_append_right _ (List.mem_cons_of_mem _ (List.mem_cons_of_mem _ hc)), fun x hx y hy z => ?_⟩
          rcases List.mem_cons.mp hy with rfl | hy
          · exact (d1 _ eX).2.2 x (in_P hc hx) z.symm
          · rw [List.mem_singleton.mp hy] at z
            exact (d2 _ eY).2.2 x (in_P hc hx) z.symm
/-- two children beside each other become one, with the cells of number m -/
theorem one_fin {S Sf : aw_S} {ad ar : Nat → Nat} {u gw h tk id m : Nat} {P B : List (Tr h)} {X Y : Tr h} {Q : Nat → Prop} (o : aw_is S gw 1) (hA : AD S ad ar u) (r : RepW S ad ar (h + 1) (nod id tk (P ++ X :: Y :: B))) (hb : bdd u (ndl (h + 1) (nod id tk (P ++ X :: Y :: B)))) (f : frS S Sf Q) (hQ : ∀ b, Q b → (b = ad id ∨ b = ar id) ∨ b = ad m ∨ b = ar m) (hm : m < u) (hmn : ∀ x ∈ P.flatMap (ndl h) ++ ((blw h X.2.2 ++ blw h Y.2.2) ++ B.flatMap (ndl h)), x.1 ≠ m) (ow : OwnW Sf ad ar h (m, tk, X.2.2 ++ Y.2.2)) (nl : NL Sf (ad id) false (ar id) (ksS ((P ++ ((m, tk, X.2.2 ++ Y.2.2) : Tr h) :: B).map (fun c => ad c.1)))) : RepW Sf ad ar (h + 1) (nod id tk (P ++ (m, tk, X.2.2 ++ Y.2.2) :: B)) ∧ GR S Sf ad ar ad ar u u gw tk [(id, tk), (m, tk)] := by
  have b := hb
  rw [ndl_two] at b
  obtain ⟨d0, d1, d2⟩ := b.dis2
  have mX : ∀ x ∈ ndl h X, x ∈ P.flatMap (ndl h) ++ (ndl h X ++ (ndl h Y ++ B.flatMap (ndl h))) := fun x hx => List.mem_append_right _ (List.mem_append_left _ hx)
  have mY : ∀ x ∈ ndl h Y, x ∈ P.flatMap (ndl h) ++ (ndl h X ++ (ndl h Y ++ B.flatMap (ndl h))) := fun x hx => List.mem_append_right _ (List.mem_append_right _ (List.mem_append_left _ hx))
  refine rf_fin (W := [(m, tk)]) o hA r hb f (fun b hb2 => ?_) (fun x hx => by rw [List.mem_singleton.mp hx]; exact ⟨rfl, hm⟩) nl (fun c hc => ?_)
  · rcases hQ b hb2 with h1 | h1
    · exact ⟨_, List.mem_cons_self, h1⟩
    · exact ⟨_, List.mem_cons_of_mem _ List.mem_cons_self, h1⟩
  · rcases List.mem_append.mp hc with hc | hc
    · exact Or.inl ⟨List.mem_append_left _ hc, fun x hx y hy z => by
        rw [List.mem_singleton.mp hy] at z
        exact hmn x (List.mem_append_left _ (in_P hc hx)) z.symm⟩
    · rcases List.mem_cons.mp hc with rfl | hc
      · refine Or.inr ⟨ow, RepL_app.mpr ⟨(RepW_L.mp (r.2 X (List.mem_append_right _ List.mem_cons_self))).2, (RepW_L.mp (r.2 Y (List.mem_append_right _ (List.mem_cons_of_mem _ List.mem_cons_self)))).2⟩, fun x hx => ?_⟩
        have hx2 : x ∈ blw h X.2.2 ++ blw h Y.2.2 := by rw [← blw_app]; exact hx
        have h3 : x ∈ P.flatMap (ndl h) ++ (ndl h X ++ (ndl h Y ++ B.flatMap (ndl h))) := (List.mem_append.mp hx2).elim (fun z => mX x (mem_blw z)) (fun z => mY x (mem_blw z))
        exact ⟨b.1 _ (List.mem_cons_of_mem _ h3), d0 x h3, fun y hy z => by
          rw [List.mem_singleton.mp hy] at z
          exact hmn x (List.mem_append_right _ (List.mem_append_left _ hx2)) z.symm⟩
      · exact Or.inl ⟨List.mem_append_right _ (List.mem_cons_of_mem _ (List.mem_cons_of_mem _ hc)), fun x hx y hy z => by
          rw [List.mem_singleton.mp hy] at z
          exact hmn x (List.mem_append_right _ (List.mem_append_right _ (in_P hc hx))) z.symm⟩
theorem edt_id {h tk u : Nat} {a : Tr h} (b : bdd u (ndl h a)) : (∀ x ∈ blw h a.2.2, x.1 ≠ (edt tk u a).1.1) ∧ (∀ x : Nat × Nat, x.1 < u → x.1 ≠ a.1 → x.1 ≠ (edt tk u a).1.1) ∧ (edt tk u a).1.1 < (edt tk u a).2 := by
  have hu := b.1 _ (mem_own a)
  rcases edt_c (tk := tk) (u := u) a with ⟨h1, h2⟩ | ⟨h1, h2⟩
  · rw [h1, h2]
    exact ⟨nd_own b, fun x _ h => h, hu⟩
  · rw [h1, h2]
    refine ⟨fun x hx z => ?_, fun x hx _ z => ?_, Nat.lt_succ_self u⟩
    · have h3 := b.1 x (mem_blw hx)
      have z2 : x.1 = u := z
      omega
    · have z2 : x.1 = u := z
      omega
def RQ (S : aw_S) (ad ar : Nat → Nat) (gw u h tk id : Nat) (L : List (Nat × Nat)) (R : List (Tr h) × Nat) (r : Option Value) (S2 : aw_S) : Prop := r = none ∧ ∃ ad2 ar2, GR S S2 ad ar ad2 ar2 u R.2 gw tk L ∧ RepW S2 ad2 ar2 (h + 1) (nod id tk R.1)
