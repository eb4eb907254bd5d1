theorem tak_mid1 {α : Type} (P : List α) (x y : α) (R : List α) : (P ++ x :: y :: R).take (P.length + 1) = P ++ [x] ∧ (P ++ x :: y :: R).drop (P.length + 1 + 1) = R := by
  have h := tak_mid (P ++ [x]) y R
  rw [List.length_append, List.append_assoc] at h
  exact h
theorem get_last {α : Type} (P : List α) (a : α) (R : List α) : ((P ++ [a]) ++ R)[P.length]? = some a := by
  rw [List.append_assoc]
  exact get_mid P a R
theorem bdd.up {u u2 : Nat} {L : List (Nat × Nat)} (b : bdd u L) (h : u ≤ u2) : bdd u2 L := ⟨fun x hx => Nat.lt_of_lt_of_le (b.1 x hx) h, b.2⟩
theorem pos_get {α : Type} {m : List α} (h : 0 < m.length) : (∃ x, m[m.length - 1]? = some x) ∧ ∃ x, m[0]? = some x := ⟨⟨_, List.getElem?_eq_getElem (by omega)⟩, ⟨_, List.getElem?_eq_getElem h⟩⟩
/-- first case: the last one of the one ahead comes over -/
theorem c1_fin {S S10 S11 : aw_S} {ad ar ad2 ar2 : Nat → Nat} {u gw h tk id : Nat} {P R : List (Tr h)} {a k : Tr h} {x : SD} (o : aw_is S gw 1) (hb : bdd u (ndl (h + 1) (nod id tk (P ++ a :: k :: R)))) (hkt : k.2.1 = tk) (G10 : GR S S10 ad ar ad2 ar2 u (edt tk u a).2 gw tk [(id, tk)]) (r10 : RepW S10 ad2 ar2 (h + 1) (nod id tk (P ++ (edt tk u a).1 :: k :: R))) (b10 : bdd (edt tk u a).2 (ndl (h + 1) (nod id tk (P ++ (edt tk u a).1 :: k :: R)))) (hx : (a.2.2.map (rawC ad2 h))[(a.2.2.map (rawC ad2 h)).length - 1]? = some x) (n1 : NL S11 (ad2 k.1) (lfB h) (ar2 k.1) (x :: k.2.2.map (rawC ad2 h))) (n2 : NL S11 (ad2 (edt tk u a).1.1) (lfB h) (ar2 (edt tk u a).1.1) ((a.2.2.map (rawC ad2 h)).eraseIdx ((a.2.2.map (rawC ad2 h)).length - 1))) (f11 : frS S10 S11 (fun b => b = ad2 k.1 ∨ b = ar2 k.1 ∨ b = ad2 (edt tk u a).1.1 ∨ b = ar2 (edt tk u a).1.1)) : RQ S ad ar gw u h tk id (ndl (h + 1) (nod id tk (P ++ a :: k :: R))) (P ++ ((edt tk u a).1.1, tk, a.2.2.take (a.2.2.length - 1)) :: (k.1, k.2.1, a.2.2.drop (a.2.2.length - 1) ++ k.2.2) :: R, (edt tk u a).2) none S11 := by
  have re := r10.2 _ (List.mem_append_right _ List.mem_cons_self)
  have rk := r10.2 _ (List.mem_append_right _ (List.mem_cons_of_mem _ List.mem_cons_self))
  have Le := (RepW_L.mp re).2
  rw [edt_it] at Le
  have Lk := (RepW_L.mp rk).2
  obtain ⟨q1, q2⟩ := lastL hx
  rw [q2] at n2
  rw [List.length_map] at q1 n2
  have e1 : x :: k.2.2.map (rawC ad2 h) = (a.2.2.drop (a.2.2.length - 1) ++ k.2.2).map (rawC ad2 h) := by
    rw [List.map_append, List.map_drop, q1]
    rfl
  rw [e1] at n1
  rw [← List.map_take] at n2
  obtain ⟨rf, G11⟩ := two_fin (X := (edt tk u a).1) (Y := k) (G10.is o) G10.2.2.1 r10 b10 (edt_tk tk u a) hkt f11 (fun b z => by
    rcases z with z | z | z | z
    · exact Or.inr (Or.inl z)
    · exact Or.inr (Or.inr z)
    · exact Or.inl (Or.inl z)
    · exact Or.inl (Or.inr z)) n2 n1 (RepL_take _ Le).1 (RepL_app.mpr ⟨(RepL_take _ Le).2, Lk⟩) (fun y hy => Or.inl (by rw [edt_it]; exact blw_take hy)) (fun y hy => by
    rw [blw_app] at hy
    rcases List.mem_append.mp hy with hy | hy
    · exact Or.inl (by rw [edt_it]; exact blw_drop hy)
    · exact Or.inr hy)
  refine ⟨rfl, ad2, ar2, ?_, by rw [hkt]; exact rf⟩
  have hu : id < u := hb.1 _ List.mem_cons_self
  have gE := edk_grw (tk := tk) (p := P.length) (t := nod id tk (P ++ a :: k :: R)) (c := a) hb (get_mid P a _)
  refine (G10.mono (fun x hx _ => by rw [List.mem_singleton.mp hx]; exact List.mem_cons_self)).tr G11 (fun y hy _ => ?_)
  have inb : ∀ y ∈ ndl (h + 1) (nod id tk (P ++ a :: k :: R)), (y ∈ ndl (h + 1) (nod id tk (P ++ a :: k :: R)) ∧ y.1 < u) ∨ (u ≤ y.1 ∧ y.1 < (edt tk u a).2) := fun y hy => Or.inl ⟨hy, hb.1 y hy⟩
  rcases List.mem_cons.mp hy with rfl | hy
  · exact inb _ List.mem_cons_self
  · rcases List.mem_cons.mp hy with rfl | hy
    · rcases gE.2.1 ((edt tk u a).1.1, tk) (List.mem_cons_of_mem _ (List.mem_append_right _ (List.mem_append_left _ (by rw [edt_nd]; exact List.mem_cons_self)))) with h1 | h1
      · exact inb _ h1
      · exact Or.inr ⟨h1.1, h1.2.1⟩
    · rw [List.mem_singleton.mp hy]
      exact inb _ (List.mem_cons_of_mem _ (List.mem_flatMap.mpr ⟨k, List.mem_append_right _ (List.mem_cons_of_mem _ List.mem_cons_self), hkt ▸ mem_own k⟩))
/-- second case: the first one of the one behind comes over -/
theorem c2_fin {S S10 S11 : aw_S} {ad ar ad2 ar2 : Nat → Nat} {u gw h tk id : Nat} {P R : List (Tr h)} {a k : Tr h} {x : SD} (o : aw_is S gw 1) (hb : bdd u (ndl (h + 1) (nod id tk (P ++ k :: a :: R)))) (hkt : k.2.1 = tk) (G10 : GR S S10 ad ar ad2 ar2 u (edt tk u a).2 gw tk [(id, tk)]) (r10 : RepW S10 ad2 ar2 (h + 1) (nod id tk (P ++ k :: (edt tk u a).1 :: R))) (b10 : bdd (edt tk u a).2 (ndl (h + 1) (nod id tk (P ++ k :: (edt tk u a).1 :: R)))) (hx : (a.2.2.map (rawC ad2 h))[0]? = some x) (n1 : NL S11 (ad2 k.1) (lfB h) (ar2 k.1) (k.2.2.map (rawC ad2 h) ++ [x])) (n2 : NL S11 (ad2 (edt tk u a).1.1) (lfB h) (ar2 (edt tk u a).1.1) ((a.2.2.map (rawC ad2 h)).eraseIdx 0)) (f11 : frS S10 S11 (fun b => b = ad2 k.1 ∨ b = ar2 k.1 ∨ b = ad2 (edt tk u a).1.1 ∨ b = ar2 (edt tk u a).1.1)) : RQ S ad ar gw u h tk id (ndl (h + 1) (nod id tk (P ++ k :: a :: R))) (P ++ (k.1, k.2.1, k.2.2 ++ a.2.2.take 1) :: ((edt tk u a).1.1, tk, a.2.2.drop 1) :: R, (edt tk u a).2) none S11 := by
  have rk := r10.2 _ (List.mem_append_right _ List.mem_cons_self)
  have re := r10.2 _ (List.mem_append_right _ (List.mem_cons_of_mem _ List.mem_cons_self))
  have Le := (RepW_L.mp re).2
  rw [edt_it] at Le
  have Lk := (RepW_L.mp rk).2
  obtain ⟨q1, q2⟩ := firstL hx
  rw [q2, ← List.map_drop] at n2
  have e1 : k.2.2.map (rawC ad2 h) ++ [x] = (k.2.2 ++ a.2.2.take 1).map (rawC ad2 h) := by
    rw [List.map_append, List.map_take, q1]
  rw [e1] at n1
  obtain ⟨rf, G11⟩ := two_fin (X := k) (Y := (edt tk u a).1) (G10.is o) G10.2.2.1 r10 b10 hkt (edt_tk tk u a) f11 (fun b z => by
    rcases z with z | z | z | z
    · exact Or.inl (Or.inl z)
    · exact Or.inl (Or.inr z)
    · exact Or.inr (Or.inl z)
    · exact Or.inr (Or.inr z)) n1 n2 (RepL_app.mpr ⟨Lk, (RepL_take _ Le).1⟩) (RepL_take _ Le).2 (fun y hy => by
    rw [blw_app] at hy
    rcases List.mem_append.mp hy with hy | hy
    · exact Or.inl hy
    · exact Or.inr (by rw [edt_it]; exact blw_take hy)) (fun y hy => Or.inr (by rw [edt_it]; exact blw_drop hy))
  refine ⟨rfl, ad2, ar2, ?_, by rw [hkt]; exact rf⟩
  have gE := edk_grw (tk := tk) (p := P.length + 1) (t := nod id tk (P ++ k :: a :: R)) (c := a) hb (get_mid1 P k _)
  refine (G10.mono (fun x hx _ => by rw [List.mem_singleton.mp hx]; exact List.mem_cons_self)).tr G11 (fun y hy _ => ?_)
  have inb : ∀ y ∈ ndl (h + 1) (nod id tk (P ++ k :: a :: R)), (y ∈ ndl (h + 1) (nod id tk (P ++ k :: a :: R)) ∧ y.1 < u) ∨ (u ≤ y.1 ∧ y.1 < (edt tk u a).2) := fun y hy => Or.inl ⟨hy, hb.1 y hy⟩
  rcases List.mem_cons.mp hy with rfl | hy
  · exact inb _ List.mem_cons_self
  · rcases List.mem_cons.mp hy with rfl | hy
    · exact inb _ (List.mem_cons_of_mem _ (List.mem_flatMap.mpr ⟨k, List.mem_append_right _ List.mem_cons_self, hkt ▸ mem_own k⟩))
    · rw [List.mem_singleton.mp hy]
      rcases gE.2.1 ((edt tk u a).1.1, tk) (List.mem_cons_of_mem _ (List.mem_append_right _ (List.mem_append_left _ (by rw [edt_nd]; exact List.mem_cons_self)))) with h1 | h1
      · exact inb _ h1
      · exact Or.inr ⟨h1.1, h1.2.1⟩
/-- third case: all of it goes into the one ahead -/
theorem c3_fin {S S9 Sf : aw_S} {ad ar ad2 ar2 : Nat → Nat} {u gw h tk id : Nat} {P R : List (Tr h)} {a k : Tr h} {Q : Nat → Prop} (o : aw_is S gw 1) (hA : AD S ad ar u) (r : RepW S ad ar (h + 1) (nod id tk (P ++ a :: k :: R))) (hb : bdd u (ndl (h + 1) (nod id tk (P ++ a :: k :: R)))) (G1 : GR S S9 ad ar ad2 ar2 u (edt tk u a).2 gw tk []) (wE : OwnW S9 ad2 ar2 h (edt tk u a).1) (f : frS S9 Sf Q) (hQ : ∀ b, Q b → (b = ad2 id ∨ b = ar2 id) ∨ b = ad2 (edt tk u a).1.1 ∨ b = ar2 (edt tk u a).1.1) (n1 : NL Sf (ad2 (edt tk u a).1.1) (lfB h) (ar2 (edt tk u a).1.1) ((a.2.2 ++ k.2.2).map (rawC ad2 h))) (nl : NL Sf (ad2 id) false (ar2 id) (ksS ((P ++ (edt tk u a).1 :: R).map (fun c => ad2 c.1)))) : RQ S ad ar gw u h tk id (ndl (h + 1) (nod id tk (P ++ a :: k :: R))) (P ++ ((edt tk u a).1.1, tk, a.2.2 ++ k.2.2) :: R, (edt tk u a).2) none Sf := by
  have hle := edt_le (tk := tk) (u := u) a
  have b := hb
  rw [ndl_two] at b
  obtain ⟨d0, d1, d2⟩ := b.dis2
  have ba : bdd u (ndl h a) := b.tl.mid
  obtain ⟨i1, i2, i3⟩ := edt_id (tk := tk) ba
  have r9 : RepW S9 ad2 ar2 (h + 1) (nod id tk (P ++ a :: k :: R)) := RepW.gr hA o G1 r (fun x hx => ⟨hb.1 x hx, fun y hy => absurd hy (by simp)⟩)
  have ow := own_chg f wE n1
  rw [edt_tk] at ow
  obtain ⟨rf, G2⟩ := one_fin (m := (edt tk u a).1.1) (X := a) (Y := k) (G1.is o) G1.2.2.1 r9 (hb.up hle) f hQ i3 (fun x hx => by
    rcases List.mem_append.mp hx with hx | hx
    · exact i2 x (b.1 _ (List.mem_cons_of_mem _ (List.mem_append_left _ hx))) ((d1 _ (mem_own a)).1 x hx)
    · rcases List.mem_append.mp hx with hx | hx
      · rcases List.mem_append.mp hx with hx | hx
        · exact i1 x hx
        · exact i2 x (b.1 _ (List.mem_cons_of_mem _ (List.mem_append_right _ (List.mem_append_right _ (List.mem_append_left _ (mem_blw hx)))))) ((d1 _ (mem_own a)).2.1 x (mem_blw hx))
      · exact i2 x (b.1 _ (List.mem_cons_of_mem _ (List.mem_append_right _ (List.mem_append_right _ (List.mem_append_right _ hx))))) ((d1 _ (mem_own a)).2.2 x hx)) ow (by
    have e : (P ++ (((edt tk u a).1.1, tk, a.2.2 ++ k.2.2) : Tr h) :: R).map (fun c => ad2 c.1) = (P ++ (edt tk u a).1 :: R).map (fun c => ad2 c.1) := by rw [List.map_append, List.map_append, List.map_cons, List.map_cons]
    rw [e]
    exact nl)
  refine ⟨rfl, ad2, ar2, ?_, rf⟩
  refine (G1.mono (fun x hx => absurd hx (by simp))).tr G2 (fun y hy _ => ?_)
  rcases List.mem_cons.mp hy with rfl | hy
  · exact Or.inl ⟨List.mem_cons_self, hb.1 _ List.mem_cons_self⟩
  · rw [List.mem_singleton.mp hy]
    rcases edt_c (tk := tk) (u := u) a with ⟨h1, h2⟩ | ⟨h1, h2⟩
    · have e4 := edt_tk tk u a
      rw [h1] at e4
      rw [h1, ← e4]
      have m4 : ((a.1, a.2.1) : Nat × Nat) ∈ ndl (h + 1) (nod id a.2.1 (P ++ a :: k :: R)) := List.mem_cons_of_mem _ (List.mem_flatMap.mpr ⟨a, List.mem_append_right _ List.mem_cons_self, mem_own a⟩)
      exact Or.inl ⟨m4, ba.1 _ (mem_own a)⟩
    · rw [h1, h2]
      exact Or.inr ⟨Nat.le_refl _, Nat.lt_succ_self u⟩
/-- fourth case: all of the one behind comes in -/
theorem c4_fin {S Sf : aw_S} {ad ar : Nat → Nat} {u gw h tk id : Nat} {P R : List (Tr h)} {a k : Tr h} {Q : Nat → Prop} (o : aw_is S gw 1) (hA : AD S ad ar u) (r : RepW S ad ar (h + 1) (nod id tk (P ++ k :: a :: R))) (hb : bdd u (ndl (h + 1) (nod id tk (P ++ k :: a :: R)))) (hkt : k.2.1 = tk) (f : frS S Sf Q) (hQ : ∀ b, Q b → (b = ad id ∨ b = ar id) ∨ b = ad k.1 ∨ b = ar k.1) (n1 : NL Sf (ad k.1) (lfB h) (ar k.1) ((k.2.2 ++ a.2.2).map (rawC ad h))) (nl : NL Sf (ad id) false (ar id) (ksS ((P ++ k :: R).map (fun c => ad c.1)))) : RQ S ad ar gw u h tk id (ndl (h + 1) (nod id tk (P ++ k :: a :: R))) (P ++ (k.1, k.2.1, k.2.2 ++ a.2.2) :: R, u) none Sf := by
  have b := hb
  rw [ndl_two] at b
  obtain ⟨d0, d1, d2⟩ := b.dis2
  have bk : bdd u (ndl h k) := b.tl.mid
  have rk := r.2 k (List.mem_append_right _ List.mem_cons_self)
  have ow := own_chg f rk.own n1
  rw [hkt] at ow
  obtain ⟨rf, G2⟩ := one_fin (m := k.1) (X := k) (Y := a) o hA r hb f hQ (bk.1 _ (mem_own k)) (fun x hx => by
    rcases List.mem_append.mp hx with hx | hx
    · exact (d1 _ (mem_own k)).1 x hx
    · rcases List.mem_append.mp hx with hx | hx
      · rcases List.mem_append.mp hx with hx | hx
        · exact nd_own bk x hx
        · exact (d1 _ (mem_own k)).2.1 x (mem_blw hx)
      · exact (d1 _ (mem_own k)).2.2 x hx) ow (by
    have e : (P ++ ((k.1, tk, k.2.2 ++ a.2.2) : Tr h) :: R).map (fun c => ad c.1) = (P ++ k :: R).map (fun c => ad c.1) := by rw [List.map_append, List.map_append, List.map_cons, List.map_cons]
    rw [e]
    exact nl)
  refine ⟨rfl, ad, ar, G2.mono (fun y hy _ => ?_), by rw [hkt]; exact rf⟩
  rcases List.mem_cons.mp hy with rfl | hy
  · exact List.mem_cons_self
  · rw [List.mem_singleton.mp hy, ← hkt]
    exact List.mem_cons_of_mem _ (List.mem_flatMap.mpr ⟨k, List.mem_append_right _ List.mem_cons_self, mem_own k⟩)
set_option maxHeartbeats 4000000 in
set_option maxRecDepth 100000 in
theorem m_refill_1b {w tk : Nat} {S : aw_S} {ad ar : Nat → Nat} {gw u h id : Nat} {P B : List (Tr h)} {a b k : Tr h} (hw3 : 3 ≤ w) (hw6 : w ≤ 6) (o : aw_is S gw 1) (hwd : sI S 64 gw = nI w) (hA : AD S ad ar u) (r : RepW S ad ar (h + 1) (nod id tk (P ++ a :: k :: b :: B))) (hb : bdd u (ndl (h + 1) (nod id tk (P ++ a :: k :: b :: B)))) (ht : tk < 2147483648) (hkt : k.2.1 = tk) (hkl : k.2.2.length + 1 ≤ lea w) (qa : lea w < a.2.2.length) : aw_M yX1_refill cX1_refill 8 (none : Option FieldType) 4 (2 * ((edt tk u a).2 - u)) (19 * ((edt tk u a).2 - u)) [.ref gw, .ref (ad id), .int (nI (P.length + 1)), .ref (ad k.1), .int (nI tk)] S (RQ S ad ar gw u h tk id (ndl (h + 1) (nod id tk (P ++ a :: k :: b :: B))) (P ++ ((edt tk u a).1.1, tk, a.2.2.take (a.2.2.length - 1)) :: (k.1, k.2.1, a.2.2.drop (a.2.2.length - 1) ++ k.2.2) :: b :: B, (edt tk u a).2)) := by
  have hlw : lea w + lea w ≤ w + 1 := by unfold lea; omega
  have oT : aw_is S (ad id) 4 := r.is
  have hu : id < u := hb.1 _ List.mem_cons_self
  have nk0 := r.own.k
  rw [kds_nod] at nk0
  have nk : NL S (ad id) false (ar id) (ksS ((P ++ a :: k :: b :: B).map (fun c => ad c.1))) := nk0
  clear nk0
  have h7 : (P ++ a :: k :: b :: B).length ≤ 7 := r.own.le7
  simp only [List.length_append, List.length_cons, List.length_nil] at h7
  have rk : RepW S ad ar h k := r.2 k (by show k ∈ (P ++ a :: k :: b :: B); simp)
  have ok_ := rk.is
  have am : a ∈ (P ++ a :: k :: b :: B) := by simp
  have ra : RepW S ad ar h a := r.2 a am
  have oa := ra.is
  have la7 := ra.own.le7
  have bm : b ∈ (P ++ a :: k :: b :: B) := by simp
  have rb : RepW S ad ar h b := r.2 b bm
  have ob := rb.is
  have lb7 := rb.own.le7
  refine aw_enter (by decide +kernel) (Nat.le_of_ble_eq_true rfl) (fun g K E => ?_)
  first | refine a_aload_n K dX1_refill_0 rfl ?_ | refine a_aload_nN K dX1_refill_0 rfl ?_
  refine a_iload_n K dX1_refill_1 rfl ?_
  refine a_iconst K dX1_refill_2 (v := 1) (by decide) ?_
  refine a_isub K dX1_refill_3 ?_
  rw [nI_pred]
  refine a_invV K (m_X4_kidAt (k := P.length) nk (by omega)) my_X4_kidAt ml_X1_33 im_X4_kidAt se_X4_kidAt (ci := 4) (by assumption) (by decide) ⟨_, _, rfl⟩ rfl (by omega) (by omega) (by omega) rfl (Nat.le_of_ble_eq_true rfl) dX1_refill_4 ?_
  intro r9 S9 hp9
  obtain ⟨rfl, hS9⟩ := hp9
  obtain rfl := hS9.symm
  rw [List.getElem?_map, get_mid]
  first | refine a_astore K dX1_refill_7 (by decide) ?_ | refine a_astoreN K dX1_refill_7 (by decide) ?_
  first | refine a_aload_n K dX1_refill_9 rfl ?_ | refine a_aload_nN K dX1_refill_9 rfl ?_
  refine a_iload_n K dX1_refill_10 rfl ?_
  refine a_iconst K dX1_refill_11 (v := 1) (by decide) ?_
  refine a_iadd K dX1_refill_12 ?_
  rw [nI_1]
  refine a_invV K (m_X4_kidAt (k := P.length + 1 + 1) nk (by omega)) my_X4_kidAt ml_X1_33 im_X4_kidAt se_X4_kidAt (ci := 4) (by assumption) (by decide) ⟨_, _, rfl⟩ rfl (by omega) (by omega) (by omega) rfl (Nat.le_of_ble_eq_true rfl) dX1_refill_13 ?_
  intro r9 S9 hp9
  obtain ⟨rfl, hS9⟩ := hp9
  obtain rfl := hS9.symm
  rw [List.getElem?_map, get_mid2]
  first | refine a_astore K dX1_refill_16 (by decide) ?_ | refine a_astoreN K dX1_refill_16 (by decide) ?_
  first | refine a_aload K dX1_refill_18 rfl ?_ | refine a_aloadN K dX1_refill_18 rfl ?_
  refine a_ifnull K dX1_refill_20 ?_
  first | refine a_aload K dX1_refill_23 rfl ?_ | refine a_aloadN K dX1_refill_23 rfl ?_
  refine a_invV K (m_X4_size oa) my_X4_size ml_X1_76 im_X4_size se_X4_size (ci := 4) (by assumption) (by decide) ⟨_, _, rfl⟩ rfl (by omega) (by omega) (by omega) rfl (Nat.le_of_ble_eq_true rfl) dX1_refill_25 ?_
  intro r9 S9 hp9
  obtain ⟨rfl, hS9⟩ := hp9
  obtain rfl := hS9.symm
  first | refine a_aload_n K dX1_refill_28 rfl ?_ | refine a_aload_nN K dX1_refill_28 rfl ?_
  refine a_invV K (m_X1_least (w := w) o hwd (by omega)) my_X1_least ml_X1_82 im_X1_least se_X1_least (ci := 1) (by assumption) (by decide) ⟨_, _, rfl⟩ rfl (by omega) (by omega) (by omega) rfl (Nat.le_of_ble_eq_true rfl) dX1_refill_29 ?_
  intro r9 S9 hp9
  obtain ⟨rfl, hS9⟩ := hp9
  obtain rfl := hS9.symm
  rw [ra.own.sz]
  refine a_icmp_le K dX1_refill_32 (tgt := 63) (by decide) (fun c_32 => absurd c_32 (fun z => absurd ((nI_leI (by omega) (by omega)).mp z) (Nat.not_le.mpr qa))) (fun c_32 => ?_)
  first | refine a_aload_n K dX1_refill_35 rfl ?_ | refine a_aload_nN K dX1_refill_35 rfl ?_
  first | refine a_aload K dX1_refill_36 rfl ?_ | refine a_aloadN K dX1_refill_36 rfl ?_
  refine a_iload K dX1_refill_38 rfl ?_
  refine a_invV K (m_edited (t := a) o hA ra.own (fun x hx => hb.1 x (mem_kd (t := (nod id tk (P ++ a :: k :: b :: B))) am (mem_blw hx))) ht) my_X1_edited ml_X1_37 im_X1_edited se_X1_edited (ci := 1) (by assumption) (by decide) ⟨_, _, rfl⟩ rfl (by omega) (by omega) (by omega) rfl (Nat.le_of_ble_eq_true rfl) dX1_refill_40 ?_
  intro r9 S9 hp9
  obtain ⟨ad2, ar2, rfl, wE, G1⟩ := hp9
  have reE := edt_rep o hA ra (fun x hx => hb.1 x (mem_kd (t := (nod id tk (P ++ a :: k :: b :: B))) am hx)) wE G1
  have o9 := G1.is o
  have ow9 : OwnW S9 ad2 ar2 (h + 1) (nod id tk (P ++ a :: k :: b :: B)) := OwnW.gr hA o G1 r.own hu (fun x hx => hb.1 x (mem_blw (t := (nod id tk (P ++ a :: k :: b :: B))) hx)) (fun y hy => absurd hy (by simp))
  have oT9 : aw_is S9 (ad id) 4 := G1.is oT
  have eT : ad2 id = ad id := (G1.2.1 id hu).1
  have nk9 := ow9.k
  rw [kds_nod] at nk9
  have nk91 : NL S9 (ad2 id) false (ar2 id) (ksS ((P ++ a :: k :: b :: B).map (fun c => ad2 c.1))) := nk9
  rw [eT] at nk91
  have hc : (kds (nod id tk (P ++ a :: k :: b :: B)))[P.length]? = some a := get_mid P a _
  have hpl := (List.getElem?_eq_some_iff.mp hc).1
  first | refine a_astore K dX1_refill_43 (by decide) ?_ | refine a_astoreN K dX1_refill_43 (by decide) ?_
  first | refine a_aload_n K dX1_refill_45 rfl ?_ | refine a_aload_nN K dX1_refill_45 rfl ?_
  refine a_iload_n K dX1_refill_46 rfl ?_
  refine a_iconst K dX1_refill_47 (v := 1) (by decide) ?_
  refine a_isub K dX1_refill_48 ?_
  first | refine a_aload K dX1_refill_49 rfl ?_ | refine a_aloadN K dX1_refill_49 rfl ?_
  rw [nI_pred]
  refine a_invV K (m_X4_setKid (p := P.length) (b := ad2 (edt tk u a).1.1) nk91 (by rw [List.length_map]; exact hpl) reE.is) my_X4_setKid ml_X1_41 im_X4_setKid se_X4_setKid (ci := 4) (by assumption) (by decide) ⟨_, _, rfl⟩ rfl (by omega) (by omega) (by omega) rfl (Nat.le_of_ble_eq_true rfl) dX1_refill_51 ?_
  intro r9 S10 hp9
  obtain ⟨rfl, nl, f10⟩ := hp9
  rw [← eT] at nl
  obtain ⟨G10, r10⟩ := ek_ret o hA r hb ht rfl hpl am reE G1 ow9 nl f10
  rw [kds_nod, (tak_mid _ _ _).1, (tak_mid _ _ _).2] at r10
  have b10 := (edk_grw (tk := tk) hb hc).bd hb
  rw [kds_nod, (tak_mid _ _ _).1, (tak_mid _ _ _).2] at b10
  have hid : (nod id tk (P ++ (edt tk u a).1 :: k :: b :: B)).1 = id := rfl
  have b11 : bdd (edt tk u a).2 (ndl (h + 1) (nod id tk (P ++ (edt tk u a).1 :: k :: b :: B))) := by rw [ndl_nod, List.flatMap_append, List.flatMap_cons]; exact b10
  have r11 : RepW S10 ad2 ar2 (h + 1) (nod id tk (P ++ (edt tk u a).1 :: k :: b :: B)) := r10
  clear b10 r10
  have rk10 := r11.2 k (by show k ∈ P ++ (edt tk u a).1 :: k :: b :: B; simp)
  have re10 := r11.2 (edt tk u a).1 (by show (edt tk u a).1 ∈ P ++ (edt tk u a).1 :: k :: b :: B; simp)
  have hk2 := rk10.own.2
  have he2 := re10.own.2
  rw [edt_it] at he2
  have A10 := G10.2.2.1
  have dk := (b11.perm (L2 := _) (by rw [ndl_two])).dis2
  have uk := b11.1 _ (by rw [ndl_two]; simp only [List.mem_cons, List.mem_append]; exact Or.inr (Or.inr (Or.inr (Or.inl (mem_own k)))))
  have ue := b11.1 _ (by rw [ndl_two]; simp only [List.mem_cons, List.mem_append]; exact Or.inr (Or.inr (Or.inl (mem_own (edt tk u a).1))))
  have nke : k.1 ≠ (edt tk u a).1.1 := (dk.2.1 _ (mem_own _)).2.1 _ (mem_own k)
  have ek : ad2 k.1 = ad k.1 := (G1.2.1 k.1 (hb.1 _ (mem_kd (t := (nod id tk (P ++ a :: k :: b :: B))) (by show k ∈ (P ++ a :: k :: b :: B); simp) (mem_own k)))).1
  have ok10 := rk10.is
  rw [← ek]
  obtain ⟨⟨xl, hxl⟩, xf, hxf⟩ := pos_get (m := a.2.2.map (rawC ad2 h)) (by rw [List.length_map]; omega)
  first | refine a_aload_n K dX1_refill_54 rfl ?_ | refine a_aload_nN K dX1_refill_54 rfl ?_
  first | refine a_aload K dX1_refill_55 rfl ?_ | refine a_aloadN K dX1_refill_55 rfl ?_
  refine a_invV K (m_X4_moveLastToFirst hk2 he2 (fun z => nke (((A10 _ uk).2 _ ue).1 z)) (fun z => nke (((A10 _ uk).2 _ ue).2 z)) (by rw [List.length_map]; omega) hxl) my_X4_moveLastToFirst ml_X1_101 im_X4_moveLastToFirst se_X4_moveLastToFirst (ci := 4) (by assumption) (by decide) ⟨_, _, rfl⟩ rfl (by omega) (by omega) (by omega) rfl (Nat.le_of_ble_eq_true rfl) dX1_refill_57 ?_
  intro r9 S11 hp9
  obtain ⟨rfl, n1, n2, f11⟩ := hp9
  refine a_goto K dX1_refill_60 (tgt := 164) (by decide) ?_
  exact a_vret K E (by omega) (by omega) dX1_refill_164 (c1_fin o hb hkt G10 r11 b11 hxl n1 n2 f11)
set_option maxHeartbeats 4000000 in
set_option maxRecDepth 100000 in
theorem m_refill_1 {w tk : Nat} {S : aw_S} {ad ar : Nat → Nat} {gw u h id : Nat} {P B : List (Tr h)} {a b k : Tr h} (hw3 : 3 ≤ w) (hw6 : w ≤ 6) (o : aw_is S gw 1) (hwd : sI S 64 gw = nI w) (hA : AD S ad ar u) (r : RepW S ad ar (h + 1) (nod id tk (P ++ a :: k :: []))) (hb : bdd u (ndl (h + 1) (nod id tk (P ++ a :: k :: [])))) (ht : tk < 2147483648) (hkt : k.2.1 = tk) (hkl : k.2.2.length + 1 ≤ lea w) (qa : lea w < a.2.2.length) : aw_M yX1_refill cX1_refill 8 (none : Option FieldType) 4 (2 * ((edt tk u a).2 - u)) (19 * ((edt tk u a).2 - u)) [.ref gw, .ref (ad id), .int (nI (P.length + 1)), .ref (ad k.1), .int (nI tk)] S (RQ S ad ar gw u h tk id (ndl (h + 1) (nod id tk (P ++ a :: k :: []))) (P ++ ((edt tk u a).1.1, tk, a.2.2.take (a.2.2.length - 1)) :: (k.1, k.2.1, a.2.2.drop (a.2.2.length - 1) ++ k.2.2) :: [], (edt tk u a).2)) := by
  have hlw : lea w + lea w ≤ w + 1 := by unfold lea; omega
  have oT : aw_is S (ad id) 4 := r.is
  have hu : id < u := hb.1 _ List.mem_cons_self
  have nk0 := r.own.k
  rw [kds_nod] at nk0
  have nk : NL S (ad id) false (ar id) (ksS ((P ++ a :: k :: []).map (fun c => ad c.1))) := nk0
  clear nk0
  have h7 : (P ++ a :: k :: []).length ≤ 7 := r.own.le7
  simp only [List.length_append, List.length_cons, List.length_nil] at h7
  have rk : RepW S ad ar h k := r.2 k (by show k ∈ (P ++ a :: k :: []); simp)
  have ok_ := rk.is
  have am : a ∈ (P ++ a :: k :: []) := by simp
  have ra : RepW S ad ar h a := r.2 a am
  have oa := ra.is
  have la7 := ra.own.le7
  refine aw_enter (by decide +kernel) (Nat.le_of_ble_eq_true rfl) (fun g K E => ?_)
  first | refine a_aload_n K dX1_refill_0 rfl ?_ | refine a_aload_nN K dX1_refill_0 rfl ?_
  refine a_iload_n K dX1_refill_1 rfl ?_
  refine a_iconst K dX1_refill_2 (v := 1) (by decide) ?_
  refine a_isub K dX1_refill_3 ?_
  rw [nI_pred]
  refine a_invV K (m_X4_kidAt (k := P.length) nk (by omega)) my_X4_kidAt ml_X1_33 im_X4_kidAt se_X4_kidAt (ci := 4) (by assumption) (by decide) ⟨_, _, rfl⟩ rfl (by omega) (by omega) (by omega) rfl (Nat.le_of_ble_eq_true rfl) dX1_refill_4 ?_
  intro r9 S9 hp9
  obtain ⟨rfl, hS9⟩ := hp9
  obtain rfl := hS9.symm
  rw [List.getElem?_map, get_mid]
  first | refine a_astore K dX1_refill_7 (by decide) ?_ | refine a_astoreN K dX1_refill_7 (by decide) ?_
  first | refine a_aload_n K dX1_refill_9 rfl ?_ | refine a_aload_nN K dX1_refill_9 rfl ?_
  refine a_iload_n K dX1_refill_10 rfl ?_
  refine a_iconst K dX1_refill_11 (v := 1) (by decide) ?_
  refine a_iadd K dX1_refill_12 ?_
  rw [nI_1]
  refine a_invV K (m_X4_kidAt (k := P.length + 1 + 1) nk (by omega)) my_X4_kidAt ml_X1_33 im_X4_kidAt se_X4_kidAt (ci := 4) (by assumption) (by decide) ⟨_, _, rfl⟩ rfl (by omega) (by omega) (by omega) rfl (Nat.le_of_ble_eq_true rfl) dX1_refill_13 ?_
  intro r9 S9 hp9
  obtain ⟨rfl, hS9⟩ := hp9
  obtain rfl := hS9.symm
  rw [List.getElem?_map, get_mid2]
  first | refine a_astore K dX1_refill_16 (by decide) ?_ | refine a_astoreN K dX1_refill_16 (by decide) ?_
  first | refine a_aload K dX1_refill_18 rfl ?_ | refine a_aloadN K dX1_refill_18 rfl ?_
  refine a_ifnull K dX1_refill_20 ?_
  first | refine a_aload K dX1_refill_23 rfl ?_ | refine a_aloadN K dX1_refill_23 rfl ?_
  refine a_invV K (m_X4_size oa) my_X4_size ml_X1_76 im_X4_size se_X4_size (ci := 4) (by assumption) (by decide) ⟨_, _, rfl⟩ rfl (by omega) (by omega) (by omega) rfl (Nat.le_of_ble_eq_true rfl) dX1_refill_25 ?_
  intro r9 S9 hp9
  obtain ⟨rfl, hS9⟩ := hp9
  obtain rfl := hS9.symm
  first | refine a_aload_n K dX1_refill_28 rfl ?_ | refine a_aload_nN K dX1_refill_28 rfl ?_
  refine a_invV K (m_X1_least (w := w) o hwd (by omega)) my_X1_least ml_X1_82 im_X1_least se_X1_least (ci := 1) (by assumption) (by decide) ⟨_, _, rfl⟩ rfl (by omega) (by omega) (by omega) rfl (Nat.le_of_ble_eq_true rfl) dX1_refill_29 ?_
  intro r9 S9 hp9
  obtain ⟨rfl, hS9⟩ := hp9
  obtain rfl := hS9.symm
  rw [ra.own.sz]
  refine a_icmp_le K dX1_refill_32 (tgt := 63) (by decide) (fun c_32 => absurd c_32 (fun z => absurd ((nI_leI (by omega) (by omega)).mp z) (Nat.not_le.mpr qa))) (fun c_32 => ?_)
  first | refine a_aload_n K dX1_refill_35 rfl ?_ | refine a_aload_nN K dX1_refill_35 rfl ?_
  first | refine a_aload K dX1_refill_36 rfl ?_ | refine a_aloadN K dX1_refill_36 rfl ?_
  refine a_iload K dX1_refill_38 rfl ?_
  refine a_invV K (m_edited (t := a) o hA ra.own (fun x hx => hb.1 x (mem_kd (t := (nod id tk (P ++ a :: k :: []))) am (mem_blw hx))) ht) my_X1_edited ml_X1_37 im_X1_edited se_X1_edited (ci := 1) (by assumption) (by decide) ⟨_, _, rfl⟩ rfl (by omega) (by omega) (by omega) rfl (Nat.le_of_ble_eq_true rfl) dX1_refill_40 ?_
  intro r9 S9 hp9
  obtain ⟨ad2, ar2, rfl, wE, G1⟩ := hp9
  have reE := edt_rep o hA ra (fun x hx => hb.1 x (mem_kd (t := (nod id tk (P ++ a :: k :: []))) am hx)) wE G1
  have o9 := G1.is o
  have ow9 : OwnW S9 ad2 ar2 (h + 1) (nod id tk (P ++ a :: k :: [])) := OwnW.gr hA o G1 r.own hu (fun x hx => hb.1 x (mem_blw (t := (nod id tk (P ++ a :: k :: []))) hx)) (fun y hy => absurd hy (by simp))
  have oT9 : aw_is S9 (ad id) 4 := G1.is oT
  have eT : ad2 id = ad id := (G1.2.1 id hu).1
  have nk9 := ow9.k
  rw [kds_nod] at nk9
  have nk91 : NL S9 (ad2 id) false (ar2 id) (ksS ((P ++ a :: k :: []).map (fun c => ad2 c.1))) := nk9
  rw [eT] at nk91
  have hc : (kds (nod id tk (P ++ a :: k :: [])))[P.length]? = some a := get_mid P a _
  have hpl := (List.getElem?_eq_some_iff.mp hc).1
  first | refine a_astore K dX1_refill_43 (by decide) ?_ | refine a_astoreN K dX1_refill_43 (by decide) ?_
  first | refine a_aload_n K dX1_refill_45 rfl ?_ | refine a_aload_nN K dX1_refill_45 rfl ?_
  refine a_iload_n K dX1_refill_46 rfl ?_
  refine a_iconst K dX1_refill_47 (v := 1) (by decide) ?_
  refine a_isub K dX1_refill_48 ?_
  first | refine a_aload K dX1_refill_49 rfl ?_ | refine a_aloadN K dX1_refill_49 rfl ?_
  rw [nI_pred]
  refine a_invV K (m_X4_setKid (p := P.length) (b := ad2 (edt tk u a).1.1) nk91 (by rw [List.length_map]; exact hpl) reE.is) my_X4_setKid ml_X1_41 im_X4_setKid se_X4_setKid (ci := 4) (by assumption) (by decide) ⟨_, _, rfl⟩ rfl (by omega) (by omega) (by omega) rfl (Nat.le_of_ble_eq_true rfl) dX1_refill_51 ?_
  intro r9 S10 hp9
  obtain ⟨rfl, nl, f10⟩ := hp9
  rw [← eT] at nl
  obtain ⟨G10, r10⟩ := ek_ret o hA r hb ht rfl hpl am reE G1 ow9 nl f10
  rw [kds_nod, (tak_mid _ _ _).1, (tak_mid _ _ _).2] at r10
  have b10 := (edk_grw (tk := tk) hb hc).bd hb
  rw [kds_nod, (tak_mid _ _ _).1, (tak_mid _ _ _).2] at b10
  have hid : (nod id tk (P ++ (edt tk u a).1 :: k :: [])).1 = id := rfl
  have b11 : bdd (edt tk u a).2 (ndl (h + 1) (nod id tk (P ++ (edt tk u a).1 :: k :: []))) := by rw [ndl_nod, List.flatMap_append, List.flatMap_cons]; exact b10
  have r11 : RepW S10 ad2 ar2 (h + 1) (nod id tk (P ++ (edt tk u a).1 :: k :: [])) := r10
  clear b10 r10
  have rk10 := r11.2 k (by show k ∈ P ++ (edt tk u a).1 :: k :: []; simp)
  have re10 := r11.2 (edt tk u a).1 (by show (edt tk u a).1 ∈ P ++ (edt tk u a).1 :: k :: []; simp)
  have hk2 := rk10.own.2
  have he2 := re10.own.2
  rw [edt_it] at he2
  have A10 := G10.2.2.1
  have dk := (b11.perm (L2 := _) (by rw [ndl_two])).dis2
  have uk := b11.1 _ (by rw [ndl_two]; simp only [List.mem_cons, List.mem_append]; exact Or.inr (Or.inr (Or.inr (Or.inl (mem_own k)))))
  have ue := b11.1 _ (by rw [ndl_two]; simp only [List.mem_cons, List.mem_append]; exact Or.inr (Or.inr (Or.inl (mem_own (edt tk u a).1))))
  have nke : k.1 ≠ (edt tk u a).1.1 := (dk.2.1 _ (mem_own _)).2.1 _ (mem_own k)
  have ek : ad2 k.1 = ad k.1 := (G1.2.1 k.1 (hb.1 _ (mem_kd (t := (nod id tk (P ++ a :: k :: []))) (by show k ∈ (P ++ a :: k :: []); simp) (mem_own k)))).1
  have ok10 := rk10.is
  rw [← ek]
  obtain ⟨⟨xl, hxl⟩, xf, hxf⟩ := pos_get (m := a.2.2.map (rawC ad2 h)) (by rw [List.length_map]; omega)
  first | refine a_aload_n K dX1_refill_54 rfl ?_ | refine a_aload_nN K dX1_refill_54 rfl ?_
  first | refine a_aload K dX1_refill_55 rfl ?_ | refine a_aloadN K dX1_refill_55 rfl ?_
  refine a_invV K (m_X4_moveLastToFirst hk2 he2 (fun z => nke (((A10 _ uk).2 _ ue).1 z)) (fun z => nke (((A10 _ uk).2 _ ue).2 z)) (by rw [List.length_map]; omega) hxl) my_X4_moveLastToFirst ml_X1_101 im_X4_moveLastToFirst se_X4_moveLastToFirst (ci := 4) (by assumption) (by decide) ⟨_, _, rfl⟩ rfl (by omega) (by omega) (by omega) rfl (Nat.le_of_ble_eq_true rfl) dX1_refill_57 ?_
  intro r9 S11 hp9
  obtain ⟨rfl, n1, n2, f11⟩ := hp9
  refine a_goto K dX1_refill_60 (tgt := 164) (by decide) ?_
  exact a_vret K E (by omega) (by omega) dX1_refill_164 (c1_fin o hb hkt G10 r11 b11 hxl n1 n2 f11)
set_option maxHeartbeats 4000000 in
set_option maxRecDepth 100000 in
theorem m_refill_2a {w tk : Nat} {S : aw_S} {ad ar : Nat → Nat} {gw u h id : Nat} {P B : List (Tr h)} {a b k : Tr h} (hw3 : 3 ≤ w) (hw6 : w ≤ 6) (o : aw_is S gw 1) (hwd : sI S 64 gw = nI w) (hA : AD S ad ar u) (r : RepW S ad ar (h + 1) (nod id tk ((P ++ [a]) ++ k :: b :: B))) (hb : bdd u (ndl (h + 1) (nod id tk ((P ++ [a]) ++ k :: b :: B)))) (ht : tk < 2147483648) (hkt : k.2.1 = tk) (hkl : k.2.2.length + 1 ≤ lea w) (qa : ¬ lea w < a.2.2.length) (qb : lea w < b.2.2.length) : aw_M yX1_refill cX1_refill 8 (none : Option FieldType) 4 (2 * ((edt tk u b).2 - u)) (19 * ((edt tk u b).2 - u)) [.ref gw, .ref (ad id), .int (nI (P.length + 1)), .ref (ad k.1), .int (nI tk)] S (RQ S ad ar gw u h tk id (ndl (h + 1) (nod id tk ((P ++ [a]) ++ k :: b :: B))) ((P ++ [a]) ++ (k.1, k.2.1, k.2.2 ++ b.2.2.take 1) :: ((edt tk u b).1.1, tk, b.2.2.drop 1) :: B, (edt tk u b).2)) := by
  have hlw : lea w + lea w ≤ w + 1 := by unfold lea; omega
  have oT : aw_is S (ad id) 4 := r.is
  have hu : id < u := hb.1 _ List.mem_cons_self
  have nk0 := r.own.k
  rw [kds_nod] at nk0
  have nk : NL S (ad id) false (ar id) (ksS (((P ++ [a]) ++ k :: b :: B).map (fun c => ad c.1))) := nk0
  clear nk0
  have h7 : ((P ++ [a]) ++ k :: b :: B).length ≤ 7 := r.own.le7
  simp only [List.length_append, List.length_cons, List.length_nil] at h7
  have rk : RepW S ad ar h k := r.2 k (by show k ∈ ((P ++ [a]) ++ k :: b :: B); simp)
  have ok_ := rk.is
  have am : a ∈ ((P ++ [a]) ++ k :: b :: B) := by simp
  have ra : RepW S ad ar h a := r.2 a am
  have oa := ra.is
  have la7 := ra.own.le7
  have bm : b ∈ ((P ++ [a]) ++ k :: b :: B) := by simp
  have rb : RepW S ad ar h b := r.2 b bm
  have ob := rb.is
  have lb7 := rb.own.le7
  refine aw_enter (by decide +kernel) (Nat.le_of_ble_eq_true rfl) (fun g K E => ?_)
  first | refine a_aload_n K dX1_refill_0 rfl ?_ | refine a_aload_nN K dX1_refill_0 rfl ?_
  refine a_iload_n K dX1_refill_1 rfl ?_
  refine a_iconst K dX1_refill_2 (v := 1) (by decide) ?_
  refine a_isub K dX1_refill_3 ?_
  rw [nI_pred]
  refine a_invV K (m_X4_kidAt (k := P.length) nk (by omega)) my_X4_kidAt ml_X1_33 im_X4_kidAt se_X4_kidAt (ci := 4) (by assumption) (by decide) ⟨_, _, rfl⟩ rfl (by omega) (by omega) (by omega) rfl (Nat.le_of_ble_eq_true rfl) dX1_refill_4 ?_
  intro r9 S9 hp9
  obtain ⟨rfl, hS9⟩ := hp9
  obtain rfl := hS9.symm
  rw [List.getElem?_map, get_last]
  first | refine a_astore K dX1_refill_7 (by decide) ?_ | refine a_astoreN K dX1_refill_7 (by decide) ?_
  first | refine a_aload_n K dX1_refill_9 rfl ?_ | refine a_aload_nN K dX1_refill_9 rfl ?_
  refine a_iload_n K dX1_refill_10 rfl ?_
  refine a_iconst K dX1_refill_11 (v := 1) (by decide) ?_
  refine a_iadd K dX1_refill_12 ?_
  rw [nI_1]
  refine a_invV K (m_X4_kidAt (k := P.length + 1 + 1) nk (by omega)) my_X4_kidAt ml_X1_33 im_X4_kidAt se_X4_kidAt (ci := 4) (by assumption) (by decide) ⟨_, _, rfl⟩ rfl (by omega) (by omega) (by omega) rfl (Nat.le_of_ble_eq_true rfl) dX1_refill_13 ?_
  intro r9 S9 hp9
  obtain ⟨rfl, hS9⟩ := hp9
  obtain rfl := hS9.symm
  rw [List.getElem?_map, show P.length + 1 + 1 = (P ++ [a]).length + 1 from by simp, get_mid1]
  first | refine a_astore K dX1_refill_16 (by decide) ?_ | refine a_astoreN K dX1_refill_16 (by decide) ?_
  first | refine a_aload K dX1_refill_18 rfl ?_ | refine a_aloadN K dX1_refill_18 rfl ?_
  refine a_ifnull K dX1_refill_20 ?_
  first | refine a_aload K dX1_refill_23 rfl ?_ | refine a_aloadN K dX1_refill_23 rfl ?_
  refine a_invV K (m_X4_size oa) my_X4_size ml_X1_76 im_X4_size se_X4_size (ci := 4) (by assumption) (by decide) ⟨_, _, rfl⟩ rfl (by omega) (by omega) (by omega) rfl (Nat.le_of_ble_eq_true rfl) dX1_refill_25 ?_
  intro r9 S9 hp9
  obtain ⟨rfl, hS9⟩ := hp9
  obtain rfl := hS9.symm
  first | refine a_aload_n K dX1_refill_28 rfl ?_ | refine a_aload_nN K dX1_refill_28 rfl ?_
  refine a_invV K (m_X1_least (w := w) o hwd (by omega)) my_X1_least ml_X1_82 im_X1_least se_X1_least (ci := 1) (by assumption) (by decide) ⟨_, _, rfl⟩ rfl (by omega) (by omega) (by omega) rfl (Nat.le_of_ble_eq_true rfl) dX1_refill_29 ?_
  intro r9 S9 hp9
  obtain ⟨rfl, hS9⟩ := hp9
  obtain rfl := hS9.symm
  rw [ra.own.sz]
  refine a_icmp_le K dX1_refill_32 (tgt := 63) (by decide) (fun c_32 => ?_) (fun c_32 => absurd c_32 (fun z => z (nI_le (Nat.le_of_not_lt qa) (Nat.lt_of_lt_of_le (show lea w < 8 by omega) (by decide)))))
  first | refine a_aload K dX1_refill_63 rfl ?_ | refine a_aloadN K dX1_refill_63 rfl ?_
  refine a_ifnull K dX1_refill_65 ?_
  first | refine a_aload K dX1_refill_68 rfl ?_ | refine a_aloadN K dX1_refill_68 rfl ?_
  refine a_invV K (m_X4_size ob) my_X4_size ml_X1_76 im_X4_size se_X4_size (ci := 4) (by assumption) (by decide) ⟨_, _, rfl⟩ rfl (by omega) (by omega) (by omega) rfl (Nat.le_of_ble_eq_true rfl) dX1_refill_70 ?_
  intro r9 S9 hp9
  obtain ⟨rfl, hS9⟩ := hp9
  obtain rfl := hS9.symm
  first | refine a_aload_n K dX1_refill_73 rfl ?_ | refine a_aload_nN K dX1_refill_73 rfl ?_
  refine a_invV K (m_X1_least (w := w) o hwd (by omega)) my_X1_least ml_X1_82 im_X1_least se_X1_least (ci := 1) (by assumption) (by decide) ⟨_, _, rfl⟩ rfl (by omega) (by omega) (by omega) rfl (Nat.le_of_ble_eq_true rfl) dX1_refill_74 ?_
  intro r9 S9 hp9
  obtain ⟨rfl, hS9⟩ := hp9
  obtain rfl := hS9.symm
  rw [rb.own.sz]
  refine a_icmp_le K dX1_refill_77 (tgt := 108) (by decide) (fun c_77 => absurd c_77 (fun z => absurd ((nI_leI (by omega) (by omega)).mp z) (Nat.not_le.mpr qb))) (fun c_77 => ?_)
  first | refine a_aload_n K dX1_refill_80 rfl ?_ | refine a_aload_nN K dX1_refill_80 rfl ?_
  first | refine a_aload K dX1_refill_81 rfl ?_ | refine a_aloadN K dX1_refill_81 rfl ?_
  refine a_iload K dX1_refill_83 rfl ?_
  refine a_invV K (m_edited (t := b) o hA rb.own (fun x hx => hb.1 x (mem_kd (t := (nod id tk ((P ++ [a]) ++ k :: b :: B))) bm (mem_blw hx))) ht) my_X1_edited ml_X1_37 im_X1_edited se_X1_edited (ci := 1) (by assumption) (by decide) ⟨_, _, rfl⟩ rfl (by omega) (by omega) (by omega) rfl (Nat.le_of_ble_eq_true rfl) dX1_refill_85 ?_
  intro r9 S9 hp9
  obtain ⟨ad2, ar2, rfl, wE, G1⟩ := hp9
  have reE := edt_rep o hA rb (fun x hx => hb.1 x (mem_kd (t := (nod id tk ((P ++ [a]) ++ k :: b :: B))) bm hx)) wE G1
  have o9 := G1.is o
  have ow9 : OwnW S9 ad2 ar2 (h + 1) (nod id tk ((P ++ [a]) ++ k :: b :: B)) := OwnW.gr hA o G1 r.own hu (fun x hx => hb.1 x (mem_blw (t := (nod id tk ((P ++ [a]) ++ k :: b :: B))) hx)) (fun y hy => absurd hy (by simp))
  have oT9 : aw_is S9 (ad id) 4 := G1.is oT
  have eT : ad2 id = ad id := (G1.2.1 id hu).1
  have nk9 := ow9.k
  rw [kds_nod] at nk9
  have nk91 : NL S9 (ad2 id) false (ar2 id) (ksS (((P ++ [a]) ++ k :: b :: B).map (fun c => ad2 c.1))) := nk9
  rw [eT] at nk91
  have hc : (kds (nod id tk ((P ++ [a]) ++ k :: b :: B)))[(P ++ [a]).length + 1]? = some b := get_mid1 (P ++ [a]) k _
  have hpl := (List.getElem?_eq_some_iff.mp hc).1
  first | refine a_astore K dX1_refill_88 (by decide) ?_ | refine a_astoreN K dX1_refill_88 (by decide) ?_
  first | refine a_aload_n K dX1_refill_90 rfl ?_ | refine a_aload_nN K dX1_refill_90 rfl ?_
  refine a_iload_n K dX1_refill_91 rfl ?_
  refine a_iconst K dX1_refill_92 (v := 1) (by decide) ?_
  refine a_iadd K dX1_refill_93 ?_
  first | refine a_aload K dX1_refill_94 rfl ?_ | refine a_aloadN K dX1_refill_94 rfl ?_
  rw [nI_1, show P.length + 1 + 1 = (P ++ [a]).length + 1 from by simp]
  refine a_invV K (m_X4_setKid (p := (P ++ [a]).length + 1) (b := ad2 (edt tk u b).1.1) nk91 (by rw [List.length_map]; exact hpl) reE.is) my_X4_setKid ml_X1_41 im_X4_setKid se_X4_setKid (ci := 4) (by assumption) (by decide) ⟨_, _, rfl⟩ rfl (by omega) (by omega) (by omega) rfl (Nat.le_of_ble_eq_true rfl) dX1_refill_96 ?_
  intro r9 S10 hp9
  obtain ⟨rfl, nl, f10⟩ := hp9
  rw [← eT] at nl
  obtain ⟨G10, r10⟩ := ek_ret o hA r hb ht rfl hpl bm reE G1 ow9 nl f10
  rw [kds_nod, (tak_mid1 _ _ _ _).1, (tak_mid1 _ _ _ _).2] at r10
  have b10 := (edk_grw (tk := tk) hb hc).bd hb
  rw [kds_nod, (tak_mid1 _ _ _ _).1, (tak_mid1 _ _ _ _).2] at b10
  have hid : (nod id tk ((P ++ [a]) ++ k :: (edt tk u b).1 :: B)).1 = id := rfl
  have b11 : bdd (edt tk u b).2 (ndl (h + 1) (nod id tk ((P ++ [a]) ++ k :: (edt tk u b).1 :: B))) := by
    have e5 : (P ++ [a]) ++ k :: (edt tk u b).1 :: B = ((P ++ [a]) ++ [k]) ++ (edt tk u b).1 :: B := by simp
    rw [e5, ndl_nod, List.flatMap_append, List.flatMap_cons]; exact b10
  have r11 : RepW S10 ad2 ar2 (h + 1) (nod id tk ((P ++ [a]) ++ k :: (edt tk u b).1 :: B)) := by
    have e5 : (P ++ [a]) ++ k :: (edt tk u b).1 :: B = ((P ++ [a]) ++ [k]) ++ (edt tk u b).1 :: B := by simp
    rw [e5]; exact r10
  clear b10 r10
  have rk10 := r11.2 k (by show k ∈ (P ++ [a]) ++ k :: (edt tk u b).1 :: B; simp)
  have re10 := r11.2 (edt tk u b).1 (by show (edt tk u b).1 ∈ (P ++ [a]) ++ k :: (edt tk u b).1 :: B; simp)
  have hk2 := rk10.own.2
  have he2 := re10.own.2
  rw [edt_it] at he2
  have A10 := G10.2.2.1
  have dk := (b11.perm (L2 := _) (by rw [ndl_two])).dis2
  have uk := b11.1 _ (by rw [ndl_two]; simp only [List.mem_cons, List.mem_append]; exact Or.inr (Or.inr (Or.inl (mem_own k))))
  have ue := b11.1 _ (by rw [ndl_two]; simp only [List.mem_cons, List.mem_append]; exact Or.inr (Or.inr (Or.inr (Or.inl (mem_own (edt tk u b).1)))))
  have nke : k.1 ≠ (edt tk u b).1.1 := (dk.2.2 _ (mem_own _)).2.1 _ (mem_own k)
  have ek : ad2 k.1 = ad k.1 := (G1.2.1 k.1 (hb.1 _ (mem_kd (t := (nod id tk ((P ++ [a]) ++ k :: b :: B))) (by show k ∈ ((P ++ [a]) ++ k :: b :: B); simp) (mem_own k)))).1
  have ok10 := rk10.is
  rw [← ek]
  obtain ⟨⟨xl, hxl⟩, xf, hxf⟩ := pos_get (m := b.2.2.map (rawC ad2 h)) (by rw [List.length_map]; omega)
  first | refine a_aload_n K dX1_refill_99 rfl ?_ | refine a_aload_nN K dX1_refill_99 rfl ?_
  first | refine a_aload K dX1_refill_100 rfl ?_ | refine a_aloadN K dX1_refill_100 rfl ?_
  refine a_invV K (m_X4_moveFirstToLast hk2 he2 (fun z => nke (((A10 _ uk).2 _ ue).1 z)) (fun z => nke (((A10 _ uk).2 _ ue).2 z)) (by rw [List.length_map]; omega) hxf) my_X4_moveFirstToLast ml_X1_105 im_X4_moveFirstToLast se_X4_moveFirstToLast (ci := 4) (by assumption) (by decide) ⟨_, _, rfl⟩ rfl (by omega) (by omega) (by omega) rfl (Nat.le_of_ble_eq_true rfl) dX1_refill_102 ?_
  intro r9 S11 hp9
  obtain ⟨rfl, n1, n2, f11⟩ := hp9
  refine a_goto K dX1_refill_105 (tgt := 164) (by decide) ?_
  exact a_vret K E (by omega) (by omega) dX1_refill_164 (c2_fin o hb hkt G10 r11 b11 hxf n1 n2 f11)
set_option maxHeartbeats 4000000 in
set_option maxRecDepth 100000 in
theorem m_refill_2 {w tk : Nat} {S : aw_S} {ad ar : Nat → Nat} {gw u h id : Nat} {P B : List (Tr h)} {a b k : Tr h} (hw3 : 3 ≤ w) (hw6 : w ≤ 6) (o : aw_is S gw 1) (hwd : sI S 64 gw = nI w) (hA : AD S ad ar u) (r : RepW S ad ar (h + 1) (nod id tk (k :: b :: B))) (hb : bdd u (ndl (h + 1) (nod id tk (k :: b :: B)))) (ht : tk < 2147483648) (hkt : k.2.1 = tk) (hkl : k.2.2.length + 1 ≤ lea w) (qb : lea w < b.2.2.length) : aw_M yX1_refill cX1_refill 8 (none : Option FieldType) 4 (2 * ((edt tk u b).2 - u)) (19 * ((edt tk u b).2 - u)) [.ref gw, .ref (ad id), .int (nI 0), .ref (ad k.1), .int (nI tk)] S (RQ S ad ar gw u h tk id (ndl (h + 1) (nod id tk (k :: b :: B))) ([] ++ (k.1, k.2.1, k.2.2 ++ b.2.2.take 1) :: ((edt tk u b).1.1, tk, b.2.2.drop 1) :: B, (edt tk u b).2)) := by
  have hlw : lea w + lea w ≤ w + 1 := by unfold lea; omega
  have oT : aw_is S (ad id) 4 := r.is
  have hu : id < u := hb.1 _ List.mem_cons_self
  have nk0 := r.own.k
  rw [kds_nod] at nk0
  have nk : NL S (ad id) false (ar id) (ksS ((k :: b :: B).map (fun c => ad c.1))) := nk0
  clear nk0
  have h7 : (k :: b :: B).length ≤ 7 := r.own.le7
  simp only [List.length_append, List.length_cons, List.length_nil] at h7
  have rk : RepW S ad ar h k := r.2 k (by show k ∈ (k :: b :: B); simp)
  have ok_ := rk.is
  have bm : b ∈ (k :: b :: B) := by simp
  have rb : RepW S ad ar h b := r.2 b bm
  have ob := rb.is
  have lb7 := rb.own.le7
  refine aw_enter (by decide +kernel) (Nat.le_of_ble_eq_true rfl) (fun g K E => ?_)
  first | refine a_aload_n K dX1_refill_0 rfl ?_ | refine a_aload_nN K dX1_refill_0 rfl ?_
  refine a_iload_n K dX1_refill_1 rfl ?_
  refine a_iconst K dX1_refill_2 (v := 1) (by decide) ?_
  refine a_isub K dX1_refill_3 ?_
  rw [show nI 0 - 1 = -1 from by decide]
  refine a_invV K (m_X4_kidAt_m nk) my_X4_kidAt ml_X1_33 im_X4_kidAt se_X4_kidAt (ci := 4) (by assumption) (by decide) ⟨_, _, rfl⟩ rfl (by omega) (by omega) (by omega) rfl (Nat.le_of_ble_eq_true rfl) dX1_refill_4 ?_
  intro r9 S9 hp9
  obtain ⟨rfl, hS9⟩ := hp9
  obtain rfl := hS9.symm
  first | refine a_astore K dX1_refill_7 (by decide) ?_ | refine a_astoreN K dX1_refill_7 (by decide) ?_
  first | refine a_aload_n K dX1_refill_9 rfl ?_ | refine a_aload_nN K dX1_refill_9 rfl ?_
  refine a_iload_n K dX1_refill_10 rfl ?_
  refine a_iconst K dX1_refill_11 (v := 1) (by decide) ?_
  refine a_iadd K dX1_refill_12 ?_
  rw [nI_1]
  refine a_invV K (m_X4_kidAt (k := 0 + 1) nk (by omega)) my_X4_kidAt ml_X1_33 im_X4_kidAt se_X4_kidAt (ci := 4) (by assumption) (by decide) ⟨_, _, rfl⟩ rfl (by omega) (by omega) (by omega) rfl (Nat.le_of_ble_eq_true rfl) dX1_refill_13 ?_
  intro r9 S9 hp9
  obtain ⟨rfl, hS9⟩ := hp9
  obtain rfl := hS9.symm
  first | refine a_astore K dX1_refill_16 (by decide) ?_ | refine a_astoreN K dX1_refill_16 (by decide) ?_
  first | refine a_aload K dX1_refill_18 rfl ?_ | refine a_aloadN K dX1_refill_18 rfl ?_
  refine a_ifnullN K dX1_refill_20 (tgt := 63) (by decide) ?_
  first | refine a_aload K dX1_refill_63 rfl ?_ | refine a_aloadN K dX1_refill_63 rfl ?_
  refine a_ifnull K dX1_refill_65 ?_
  first | refine a_aload K dX1_refill_68 rfl ?_ | refine a_aloadN K dX1_refill_68 rfl ?_
  refine a_invV K (m_X4_size ob) my_X4_size ml_X1_76 im_X4_size se_X4_size (ci := 4) (by assumption) (by decide) ⟨_, _, rfl⟩ rfl (by omega) (by omega) (by omega) rfl (Nat.le_of_ble_eq_true rfl) dX1_refill_70 ?_
  intro r9 S9 hp9
  obtain ⟨rfl, hS9⟩ := hp9
  obtain rfl := hS9.symm
  first | refine a_aload_n K dX1_refill_73 rfl ?_ | refine a_aload_nN K dX1_refill_73 rfl ?_
  refine a_invV K (m_X1_least (w := w) o hwd (by omega)) my_X1_least ml_X1_82 im_X1_least se_X1_least (ci := 1) (by assumption) (by decide) ⟨_, _, rfl⟩ rfl (by omega) (by omega) (by omega) rfl (Nat.le_of_ble_eq_true rfl) dX1_refill_74 ?_
  intro r9 S9 hp9
  obtain ⟨rfl, hS9⟩ := hp9
  obtain rfl := hS9.symm
  rw [rb.own.sz]
  refine a_icmp_le K dX1_refill_77 (tgt := 108) (by decide) (fun c_77 => absurd c_77 (fun z => absurd ((nI_leI (by omega) (by omega)).mp z) (Nat.not_le.mpr qb))) (fun c_77 => ?_)
  first | refine a_aload_n K dX1_refill_80 rfl ?_ | refine a_aload_nN K dX1_refill_80 rfl ?_
  first | refine a_aload K dX1_refill_81 rfl ?_ | refine a_aloadN K dX1_refill_81 rfl ?_
  refine a_iload K dX1_refill_83 rfl ?_
  refine a_invV K (m_edited (t := b) o hA rb.own (fun x hx => hb.1 x (mem_kd (t := (nod id tk (k :: b :: B))) bm (mem_blw hx))) ht) my_X1_edited ml_X1_37 im_X1_edited se_X1_edited (ci := 1) (by assumption) (by decide) ⟨_, _, rfl⟩ rfl (by omega) (by omega) (by omega) rfl (Nat.le_of_ble_eq_true rfl) dX1_refill_85 ?_
  intro r9 S9 hp9
  obtain ⟨ad2, ar2, rfl, wE, G1⟩ := hp9
  have reE := edt_rep o hA rb (fun x hx => hb.1 x (mem_kd (t := (nod id tk (k :: b :: B))) bm hx)) wE G1
  have o9 := G1.is o
  have ow9 : OwnW S9 ad2 ar2 (h + 1) (nod id tk (k :: b :: B)) := OwnW.gr hA o G1 r.own hu (fun x hx => hb.1 x (mem_blw (t := (nod id tk (k :: b :: B))) hx)) (fun y hy => absurd hy (by simp))
  have oT9 : aw_is S9 (ad id) 4 := G1.is oT
  have eT : ad2 id = ad id := (G1.2.1 id hu).1
  have nk9 := ow9.k
  rw [kds_nod] at nk9
  have nk91 : NL S9 (ad2 id) false (ar2 id) (ksS ((k :: b :: B).map (fun c => ad2 c.1))) := nk9
  rw [eT] at nk91
  have hc : (kds (nod id tk (k :: b :: B)))[[].length + 1]? = some b := get_mid1 [] k _
  have hpl := (List.getElem?_eq_some_iff.mp hc).1
  first | refine a_astore K dX1_refill_88 (by decide) ?_ | refine a_astoreN K dX1_refill_88 (by decide) ?_
  first | refine a_aload_n K dX1_refill_90 rfl ?_ | refine a_aload_nN K dX1_refill_90 rfl ?_
  refine a_iload_n K dX1_refill_91 rfl ?_
  refine a_iconst K dX1_refill_92 (v := 1) (by decide) ?_
  refine a_iadd K dX1_refill_93 ?_
  first | refine a_aload K dX1_refill_94 rfl ?_ | refine a_aloadN K dX1_refill_94 rfl ?_
  rw [nI_1]
  refine a_invV K (m_X4_setKid (p := [].length + 1) (b := ad2 (edt tk u b).1.1) nk91 (by rw [List.length_map]; exact hpl) reE.is) my_X4_setKid ml_X1_41 im_X4_setKid se_X4_setKid (ci := 4) (by assumption) (by decide) ⟨_, _, rfl⟩ rfl (by omega) (by omega) (by omega) rfl (Nat.le_of_ble_eq_true rfl) dX1_refill_96 ?_
  intro r9 S10 hp9
  obtain ⟨rfl, nl, f10⟩ := hp9
  rw [← eT] at nl
  obtain ⟨G10, r10⟩ := ek_ret o hA r hb ht rfl hpl bm reE G1 ow9 nl f10
  replace r10 : RepW S10 ad2 ar2 (h + 1) (nod id tk ([k] ++ (edt tk u b).1 :: B)) := r10
  have b10 : bdd (edt tk u b).2 ((id, tk) :: (([k] : List (Tr h)).flatMap (ndl h) ++ (ndl h (edt tk u b).1 ++ B.flatMap (ndl h)))) := (edk_grw (tk := tk) hb hc).bd hb
  have hid : (nod id tk ([] ++ k :: (edt tk u b).1 :: B)).1 = id := rfl
  have b11 : bdd (edt tk u b).2 (ndl (h + 1) (nod id tk ([] ++ k :: (edt tk u b).1 :: B))) := by
    have e5 : [] ++ k :: (edt tk u b).1 :: B = ([] ++ [k]) ++ (edt tk u b).1 :: B := by simp
    rw [e5, ndl_nod, List.flatMap_append, List.flatMap_cons]; exact b10
  have r11 : RepW S10 ad2 ar2 (h + 1) (nod id tk ([] ++ k :: (edt tk u b).1 :: B)) := by
    have e5 : [] ++ k :: (edt tk u b).1 :: B = ([] ++ [k]) ++ (edt tk u b).1 :: B := by simp
    rw [e5]; exact r10
  clear b10 r10
  have rk10 := r11.2 k (by show k ∈ [] ++ k :: (edt tk u b).1 :: B; simp)
  have re10 := r11.2 (edt tk u b).1 (by show (edt tk u b).1 ∈ [] ++ k :: (edt tk u b).1 :: B; simp)
  have hk2 := rk10.own.2
  have he2 := re10.own.2
  rw [edt_it] at he2
  have A10 := G10.2.2.1
  have dk := (b11.perm (L2 := _) (by rw [ndl_two])).dis2
  have uk := b11.1 _ (by rw [ndl_two]; simp only [List.mem_cons, List.mem_append]; exact Or.inr (Or.inr (Or.inl (mem_own k))))
  have ue := b11.1 _ (by rw [ndl_two]; simp only [List.mem_cons, List.mem_append]; exact Or.inr (Or.inr (Or.inr (Or.inl (mem_own (edt tk u b).1)))))
  have nke : k.1 ≠ (edt tk u b).1.1 := (dk.2.2 _ (mem_own _)).2.1 _ (mem_own k)
  have ek : ad2 k.1 = ad k.1 := (G1.2.1 k.1 (hb.1 _ (mem_kd (t := (nod id tk (k :: b :: B))) (by show k ∈ (k :: b :: B); simp) (mem_own k)))).1
  have ok10 := rk10.is
  rw [← ek]
  obtain ⟨⟨xl, hxl⟩, xf, hxf⟩ := pos_get (m := b.2.2.map (rawC ad2 h)) (by rw [List.length_map]; omega)
  first | refine a_aload_n K dX1_refill_99 rfl ?_ | refine a_aload_nN K dX1_refill_99 rfl ?_
  first | refine a_aload K dX1_refill_100 rfl ?_ | refine a_aloadN K dX1_refill_100 rfl ?_
  refine a_invV K (m_X4_moveFirstToLast hk2 he2 (fun z => nke (((A10 _ uk).2 _ ue).1 z)) (fun z => nke (((A10 _ uk).2 _ ue).2 z)) (by rw [List.length_map]; omega) hxf) my_X4_moveFirstToLast ml_X1_105 im_X4_moveFirstToLast se_X4_moveFirstToLast (ci := 4) (by assumption) (by decide) ⟨_, _, rfl⟩ rfl (by omega) (by omega) (by omega) rfl (Nat.le_of_ble_eq_true rfl) dX1_refill_102 ?_
  intro r9 S11 hp9
  obtain ⟨rfl, n1, n2, f11⟩ := hp9
  refine a_goto K dX1_refill_105 (tgt := 164) (by decide) ?_
  exact a_vret K E (by omega) (by omega) dX1_refill_164 (c2_fin o hb hkt G10 r11 b11 hxf n1 n2 f11)
set_option maxHeartbeats 4000000 in
set_option maxRecDepth 100000 in
theorem m_refill_3b {w tk : Nat} {S : aw_S} {ad ar : Nat → Nat} {gw u h id : Nat} {P B : List (Tr h)} {a b k : Tr h} (hw3 : 3 ≤ w) (hw6 : w ≤ 6) (o : aw_is S gw 1) (hwd : sI S 64 gw = nI w) (hA : AD S ad ar u) (r : RepW S ad ar (h + 1) (nod id tk (P ++ a :: k :: b :: B))) (hb : bdd u (ndl (h + 1) (nod id tk (P ++ a :: k :: b :: B)))) (ht : tk < 2147483648) (hkt : k.2.1 = tk) (hkl : k.2.2.length + 1 ≤ lea w) (qa : ¬ lea w < a.2.2.length) (qb : ¬ lea w < b.2.2.length) : aw_M yX1_refill cX1_refill 8 (none : Option FieldType) 4 (2 * ((edt tk u a).2 - u)) (19 * ((edt tk u a).2 - u)) [.ref gw, .ref (ad id), .int (nI (P.length + 1)), .ref (ad k.1), .int (nI tk)] S (RQ S ad ar gw u h tk id (ndl (h + 1) (nod id tk (P ++ a :: k :: b :: B))) (P ++ ((edt tk u a).1.1, tk, a.2.2 ++ k.2.2) :: b :: B, (edt tk u a).2)) := by
  have hlw : lea w + lea w ≤ w + 1 := by unfold lea; omega
  have oT : aw_is S (ad id) 4 := r.is
  have hu : id < u := hb.1 _ List.mem_cons_self
  have nk0 := r.own.k
  rw [kds_nod] at nk0
  have nk : NL S (ad id) false (ar id) (ksS ((P ++ a :: k :: b :: B).map (fun c => ad c.1))) := nk0
  clear nk0
  have h7 : (P ++ a :: k :: b :: B).length ≤ 7 := r.own.le7
  simp only [List.length_append, List.length_cons, List.length_nil] at h7
  have rk : RepW S ad ar h k := r.2 k (by show k ∈ (P ++ a :: k :: b :: B); simp)
  have ok_ := rk.is
  have am : a ∈ (P ++ a :: k :: b :: B) := by simp
  have ra : RepW S ad ar h a := r.2 a am
  have oa := ra.is
  have la7 := ra.own.le7
  have bm : b ∈ (P ++ a :: k :: b :: B) := by simp
  have rb : RepW S ad ar h b := r.2 b bm
  have ob := rb.is
  have lb7 := rb.own.le7
  refine aw_enter (by decide +kernel) (Nat.le_of_ble_eq_true rfl) (fun g K E => ?_)
  first | refine a_aload_n K dX1_refill_0 rfl ?_ | refine a_aload_nN K dX1_refill_0 rfl ?_
  refine a_iload_n K dX1_refill_1 rfl ?_
  refine a_iconst K dX1_refill_2 (v := 1) (by decide) ?_
  refine a_isub K dX1_refill_3 ?_
  rw [nI_pred]
  refine a_invV K (m_X4_kidAt (k := P.length) nk (by omega)) my_X4_kidAt ml_X1_33 im_X4_kidAt se_X4_kidAt (ci := 4) (by assumption) (by decide) ⟨_, _, rfl⟩ rfl (by omega) (by omega) (by omega) rfl (Nat.le_of_ble_eq_true rfl) dX1_refill_4 ?_
  intro r9 S9 hp9
  obtain ⟨rfl, hS9⟩ := hp9
  obtain rfl := hS9.symm
  rw [List.getElem?_map, get_mid]
  first | refine a_astore K dX1_refill_7 (by decide) ?_ | refine a_astoreN K dX1_refill_7 (by decide) ?_
  first | refine a_aload_n K dX1_refill_9 rfl ?_ | refine a_aload_nN K dX1_refill_9 rfl ?_
  refine a_iload_n K dX1_refill_10 rfl ?_
  refine a_iconst K dX1_refill_11 (v := 1) (by decide) ?_
  refine a_iadd K dX1_refill_12 ?_
  rw [nI_1]
  refine a_invV K (m_X4_kidAt (k := P.length + 1 + 1) nk (by omega)) my_X4_kidAt ml_X1_33 im_X4_kidAt se_X4_kidAt (ci := 4) (by assumption) (by decide) ⟨_, _, rfl⟩ rfl (by omega) (by omega) (by omega) rfl (Nat.le_of_ble_eq_true rfl) dX1_refill_13 ?_
  intro r9 S9 hp9
  obtain ⟨rfl, hS9⟩ := hp9
  obtain rfl := hS9.symm
  rw [List.getElem?_map, get_mid2]
  first | refine a_astore K dX1_refill_16 (by decide) ?_ | refine a_astoreN K dX1_refill_16 (by decide) ?_
  first | refine a_aload K dX1_refill_18 rfl ?_ | refine a_aloadN K dX1_refill_18 rfl ?_
  refine a_ifnull K dX1_refill_20 ?_
  first | refine a_aload K dX1_refill_23 rfl ?_ | refine a_aloadN K dX1_refill_23 rfl ?_
  refine a_invV K (m_X4_size oa) my_X4_size ml_X1_76 im_X4_size se_X4_size (ci := 4) (by assumption) (by decide) ⟨_, _, rfl⟩ rfl (by omega) (by omega) (by omega) rfl (Nat.le_of_ble_eq_true rfl) dX1_refill_25 ?_
  intro r9 S9 hp9
  obtain ⟨rfl, hS9⟩ := hp9
  obtain rfl := hS9.symm
  first | refine a_aload_n K dX1_refill_28 rfl ?_ | refine a_aload_nN K dX1_refill_28 rfl ?_
  refine a_invV K (m_X1_least (w := w) o hwd (by omega)) my_X1_least ml_X1_82 im_X1_least se_X1_least (ci := 1) (by assumption) (by decide) ⟨_, _, rfl⟩ rfl (by omega) (by omega) (by omega) rfl (Nat.le_of_ble_eq_true rfl) dX1_refill_29 ?_
  intro r9 S9 hp9
  obtain ⟨rfl, hS9⟩ := hp9
  obtain rfl := hS9.symm
  rw [ra.own.sz]
  refine a_icmp_le K dX1_refill_32 (tgt := 63) (by decide) (fun c_32 => ?_) (fun c_32 => absurd c_32 (fun z => z (nI_le (Nat.le_of_not_lt qa) (Nat.lt_of_lt_of_le (show lea w < 8 by omega) (by decide)))))
  first | refine a_aload K dX1_refill_63 rfl ?_ | refine a_aloadN K dX1_refill_63 rfl ?_
  refine a_ifnull K dX1_refill_65 ?_
  first | refine a_aload K dX1_refill_68 rfl ?_ | refine a_aloadN K dX1_refill_68 rfl ?_
  refine a_invV K (m_X4_size ob) my_X4_size ml_X1_76 im_X4_size se_X4_size (ci := 4) (by assumption) (by decide) ⟨_, _, rfl⟩ rfl (by omega) (by omega) (by omega) rfl (Nat.le_of_ble_eq_true rfl) dX1_refill_70 ?_
  intro r9 S9 hp9
  obtain ⟨rfl, hS9⟩ := hp9
  obtain rfl := hS9.symm
  first | refine a_aload_n K dX1_refill_73 rfl ?_ | refine a_aload_nN K dX1_refill_73 rfl ?_
  refine a_invV K (m_X1_least (w := w) o hwd (by omega)) my_X1_least ml_X1_82 im_X1_least se_X1_least (ci := 1) (by assumption) (by decide) ⟨_, _, rfl⟩ rfl (by omega) (by omega) (by omega) rfl (Nat.le_of_ble_eq_true rfl) dX1_refill_74 ?_
  intro r9 S9 hp9
  obtain ⟨rfl, hS9⟩ := hp9
  obtain rfl := hS9.symm
  rw [rb.own.sz]
  refine a_icmp_le K dX1_refill_77 (tgt := 108) (by decide) (fun c_77 => ?_) (fun c_77 => absurd c_77 (fun z => z (nI_le (Nat.le_of_not_lt qb) (Nat.lt_of_lt_of_le (show lea w < 8 by omega) (by decide)))))
  first | refine a_aload K dX1_refill_108 rfl ?_ | refine a_aloadN K dX1_refill_108 rfl ?_
  refine a_ifnull K dX1_refill_110 ?_
  first | refine a_aload_n K dX1_refill_113 rfl ?_ | refine a_aload_nN K dX1_refill_113 rfl ?_
  first | refine a_aload K dX1_refill_114 rfl ?_ | refine a_aloadN K dX1_refill_114 rfl ?_
  refine a_iload K dX1_refill_116 rfl ?_
  refine a_invV K (m_edited (t := a) o hA ra.own (fun x hx => hb.1 x (mem_kd (t := (nod id tk (P ++ a :: k :: b :: B))) am (mem_blw hx))) ht) my_X1_edited ml_X1_37 im_X1_edited se_X1_edited (ci := 1) (by assumption) (by decide) ⟨_, _, rfl⟩ rfl (by omega) (by omega) (by omega) rfl (Nat.le_of_ble_eq_true rfl) dX1_refill_118 ?_
  intro r9 S9 hp9
  obtain ⟨ad2, ar2, rfl, wE, G1⟩ := hp9
  have eT : ad2 id = ad id := (G1.2.1 id hu).1
  have ek : ad2 k.1 = ad k.1 := (G1.2.1 k.1 (hb.1 _ (mem_kd (t := (nod id tk (P ++ a :: k :: b :: B))) (by show k ∈ (P ++ a :: k :: b :: B); simp) (mem_own k)))).1
  have r9 : RepW S9 ad2 ar2 (h + 1) (nod id tk (P ++ a :: k :: b :: B)) := RepW.gr hA o G1 r (fun x hx => ⟨hb.1 x hx, fun y hy => absurd hy (by simp)⟩)
  have rk9 := r9.2 k (by show k ∈ (P ++ a :: k :: b :: B); simp)
  have nk9 := r9.own.k
  rw [kds_nod] at nk9
  have nk91 : NL S9 (ad2 id) false (ar2 id) (ksS ((P ++ a :: k :: b :: B).map (fun c => ad2 c.1))) := nk9
  have he2 := wE.2
  rw [edt_it] at he2
  have hk2 := rk9.own.2
  have A9 := G1.2.2.1
  have b0 := hb
  rw [ndl_two] at b0
  obtain ⟨d0, d1, d2⟩ := b0.dis2
  obtain ⟨i1, i2, i3⟩ := edt_id (tk := tk) (u := u) (a := a) b0.tl.mid
  have uk : k.1 < u := hb.1 _ (mem_kd (t := (nod id tk (P ++ a :: k :: b :: B))) (by show k ∈ (P ++ a :: k :: b :: B); simp) (mem_own k))
  have nke : k.1 ≠ (edt tk u a).1.1 := i2 (k.1, k.2.1) uk ((d1 _ (mem_own a)).2.1 _ (mem_own k))
  have nie : id ≠ (edt tk u a).1.1 := i2 (id, tk) hu (fun z => d0 _ (List.mem_append_right _ (List.mem_append_left _ (mem_own a))) z.symm)
  have hle := edt_le (tk := tk) (u := u) a
  have oe9 := wE.2.1.1
  have h8 := rk.own.le7
  have oT9 : aw_is S9 (ad2 id) 4 := nk91.1.1
  rw [← eT, ← ek]
  first | refine a_astore K dX1_refill_121 (by decide) ?_ | refine a_astoreN K dX1_refill_121 (by decide) ?_
  first | refine a_aload K dX1_refill_123 rfl ?_ | refine a_aloadN K dX1_refill_123 rfl ?_
  first | refine a_aload_n K dX1_refill_125 rfl ?_ | refine a_aload_nN K dX1_refill_125 rfl ?_
  refine a_invV K (m_X4_appendAll he2 hk2 (fun z => nke (((A9 _ (Nat.lt_of_lt_of_le uk hle)).2 _ i3).1 z.symm)) (fun z => nke (((A9 _ (Nat.lt_of_lt_of_le uk hle)).2 _ i3).2 z.symm)) (by rw [List.length_map, List.length_map]; have h9 := Nat.le_of_not_lt qa; omega)) my_X4_appendAll ml_X1_108 im_X4_appendAll se_X4_appendAll (ci := 4) (by assumption) (by decide) ⟨_, _, rfl⟩ rfl (by omega) (by omega) (by omega) rfl (Nat.le_of_ble_eq_true rfl) dX1_refill_126 ?_
  intro r9 S10 hp9
  obtain ⟨rfl, n1, f10⟩ := hp9
  rw [← List.map_append] at n1
  have p1 := (A9 id (Nat.lt_of_lt_of_le hu hle)).2 _ i3
  have nk10 := nk91.fr f10 (fun z => z.elim (fun y => nie (p1.1 y)) (fun y => A9.ne (Nat.lt_of_lt_of_le hu hle) i3 y)) (fun z => z.elim (fun y => A9.ne i3 (Nat.lt_of_lt_of_le hu hle) y.symm) (fun y => nie (p1.2 y)))
  have oT10 := nk10.1.1
  first | refine a_aload_n K dX1_refill_129 rfl ?_ | refine a_aload_nN K dX1_refill_129 rfl ?_
  refine a_iload_n K dX1_refill_130 rfl ?_
  refine a_iconst K dX1_refill_131 (v := 1) (by decide) ?_
  refine a_isub K dX1_refill_132 ?_
  first | refine a_aload K dX1_refill_133 rfl ?_ | refine a_aloadN K dX1_refill_133 rfl ?_
  rw [nI_pred]
  refine a_invV K (m_X4_setKid (p := P.length) (b := ad2 (edt tk u a).1.1) nk10 (by rw [List.length_map]; simp only [List.length_append, List.length_cons]; omega) n1.1.1) my_X4_setKid ml_X1_41 im_X4_setKid se_X4_setKid (ci := 4) (by assumption) (by decide) ⟨_, _, rfl⟩ rfl (by omega) (by omega) (by omega) rfl (Nat.le_of_ble_eq_true rfl) dX1_refill_135 ?_
  intro r9 S11 hp9
  obtain ⟨rfl, nl, f11⟩ := hp9
  rw [kset2 (f := ad2) (e := (edt tk u a).1)] at nl
  have oT11 := nl.1.1
  first | refine a_aload_n K dX1_refill_138 rfl ?_ | refine a_aload_nN K dX1_refill_138 rfl ?_
  refine a_iload_n K dX1_refill_139 rfl ?_
  refine a_invV K (m_X4_removeKid (p := P.length + 1) nl (by rw [ksS_len, List.length_map]; simp only [List.length_append, List.length_cons]; omega)) my_X4_removeKid ml_X1_111 im_X4_removeKid se_X4_removeKid (ci := 4) (by assumption) (by decide) ⟨_, _, rfl⟩ rfl (by omega) (by omega) (by omega) rfl (Nat.le_of_ble_eq_true rfl) dX1_refill_140 ?_
  intro r9 S12 hp9
  obtain ⟨rfl, nl2, f12⟩ := hp9
  have e7 : P ++ (edt tk u a).1 :: k :: b :: B = (P ++ [(edt tk u a).1]) ++ k :: b :: B := by simp
  rw [ksS_erase, e7, show P.length + 1 = (P ++ [(edt tk u a).1]).length by simp, kera2 (f := ad2), List.append_assoc] at nl2
  have p2 := (A9 (edt tk u a).1.1 i3).2 _ (Nat.lt_of_lt_of_le hu hle)
  have F := (f10.tr f11 (T := fun b => (b = ad2 id ∨ b = ar2 id) ∨ b = ad2 (edt tk u a).1.1 ∨ b = ar2 (edt tk u a).1.1) (fun _ z => Or.inr z) (fun _ z => Or.inl (Or.inr z))).tr f12 (fun _ z => z) (fun _ z => Or.inl z)
  have n12 := (n1.fr f11 (fun z => A9.ne i3 (Nat.lt_of_lt_of_le hu hle) z) (fun z => nie (p2.2 z).symm)).fr f12 (fun z => z.elim (fun y => nie (p2.1 y).symm) (fun y => A9.ne i3 (Nat.lt_of_lt_of_le hu hle) y)) (fun z => z.elim (fun y => A9.ne (Nat.lt_of_lt_of_le hu hle) i3 y.symm) (fun y => nie (p2.2 y).symm))
  refine a_goto K dX1_refill_143 (tgt := 164) (by decide) ?_
  exact a_vret K E (by omega) (by omega) dX1_refill_164 (c3_fin o hA r hb G1 wE F (fun _ z => z) n12 nl2)
set_option maxHeartbeats 4000000 in
set_option maxRecDepth 100000 in
theorem m_refill_3 {w tk : Nat} {S : aw_S} {ad ar : Nat → Nat} {gw u h id : Nat} {P B : List (Tr h)} {a b k : Tr h} (hw3 : 3 ≤ w) (hw6 : w ≤ 6) (o : aw_is S gw 1) (hwd : sI S 64 gw = nI w) (hA : AD S ad ar u) (r : RepW S ad ar (h + 1) (nod id tk (P ++ a :: k :: []))) (hb : bdd u (ndl (h + 1) (nod id tk (P ++ a :: k :: [])))) (ht : tk < 2147483648) (hkt : k.2.1 = tk) (hkl : k.2.2.length + 1 ≤ lea w) (qa : ¬ lea w < a.2.2.length) : aw_M yX1_refill cX1_refill 8 (none : Option FieldType) 4 (2 * ((edt tk u a).2 - u)) (19 * ((edt tk u a).2 - u)) [.ref gw, .ref (ad id), .int (nI (P.length + 1)), .ref (ad k.1), .int (nI tk)] S (RQ S ad ar gw u h tk id (ndl (h + 1) (nod id tk (P ++ a :: k :: []))) (P ++ ((edt tk u a).1.1, tk, a.2.2 ++ k.2.2) :: [], (edt tk u a).2)) := by
  have hlw : lea w + lea w ≤ w + 1 := by unfold lea; omega
  have oT : aw_is S (ad id) 4 := r.is
  have hu : id < u := hb.1 _ List.mem_cons_self
  have nk0 := r.own.k
  rw [kds_nod] at nk0
  have nk : NL S (ad id) false (ar id) (ksS ((P ++ a :: k :: []).map (fun c => ad c.1))) := nk0
  clear nk0
  have h7 : (P ++ a :: k :: []).length ≤ 7 := r.own.le7
  simp only [List.length_append, List.length_cons, List.length_nil] at h7
  have rk : RepW S ad ar h k := r.2 k (by show k ∈ (P ++ a :: k :: []); simp)
  have ok_ := rk.is
  have am : a ∈ (P ++ a :: k :: []) := by simp
  have ra : RepW S ad ar h a := r.2 a am
  have oa := ra.is
  have la7 := ra.own.le7
  refine aw_enter (by decide +kernel) (Nat.le_of_ble_eq_true rfl) (fun g K E => ?_)
  first | refine a_aload_n K dX1_refill_0 rfl ?_ | refine a_aload_nN K dX1_refill_0 rfl ?_
  refine a_iload_n K dX1_refill_1 rfl ?_
  refine a_iconst K dX1_refill_2 (v := 1) (by decide) ?_
  refine a_isub K dX1_refill_3 ?_
  rw [nI_pred]
  refine a_invV K (m_X4_kidAt (k := P.length) nk (by omega)) my_X4_kidAt ml_X1_33 im_X4_kidAt se_X4_kidAt (ci := 4) (by assumption) (by decide) ⟨_, _, rfl⟩ rfl (by omega) (by omega) (by omega) rfl (Nat.le_of_ble_eq_true rfl) dX1_refill_4 ?_
  intro r9 S9 hp9
  obtain ⟨rfl, hS9⟩ := hp9
  obtain rfl := hS9.symm
  rw [List.getElem?_map, get_mid]
  first | refine a_astore K dX1_refill_7 (by decide) ?_ | refine a_astoreN K dX1_refill_7 (by decide) ?_
  first | refine a_aload_n K dX1_refill_9 rfl ?_ | refine a_aload_nN K dX1_refill_9 rfl ?_
  refine a_iload_n K dX1_refill_10 rfl ?_
  refine a_iconst K dX1_refill_11 (v := 1) (by decide) ?_
  refine a_iadd K dX1_refill_12 ?_
  rw [nI_1]
  refine a_invV K (m_X4_kidAt (k := P.length + 1 + 1) nk (by omega)) my_X4_kidAt ml_X1_33 im_X4_kidAt se_X4_kidAt (ci := 4) (by assumption) (by decide) ⟨_, _, rfl⟩ rfl (by omega) (by omega) (by omega) rfl (Nat.le_of_ble_eq_true rfl) dX1_refill_13 ?_
  intro r9 S9 hp9
  obtain ⟨rfl, hS9⟩ := hp9
  obtain rfl := hS9.symm
  rw [List.getElem?_map, get_mid2]
  first | refine a_astore K dX1_refill_16 (by decide) ?_ | refine a_astoreN K dX1_refill_16 (by decide) ?_
  first | refine a_aload K dX1_refill_18 rfl ?_ | refine a_aloadN K dX1_refill_18 rfl ?_
  refine a_ifnull K dX1_refill_20 ?_
  first | refine a_aload K dX1_refill_23 rfl ?_ | refine a_aloadN K dX1_refill_23 rfl ?_
  refine a_invV K (m_X4_size oa) my_X4_size ml_X1_76 im_X4_size se_X4_size (ci := 4) (by assumption) (by decide) ⟨_, _, rfl⟩ rfl (by omega) (by omega) (by omega) rfl (Nat.le_of_ble_eq_true rfl) dX1_refill_25 ?_
  intro r9 S9 hp9
  obtain ⟨rfl, hS9⟩ := hp9
  obtain rfl := hS9.symm
  first | refine a_aload_n K dX1_refill_28 rfl ?_ | refine a_aload_nN K dX1_refill_28 rfl ?_
  refine a_invV K (m_X1_least (w := w) o hwd (by omega)) my_X1_least ml_X1_82 im_X1_least se_X1_least (ci := 1) (by assumption) (by decide) ⟨_, _, rfl⟩ rfl (by omega) (by omega) (by omega) rfl (Nat.le_of_ble_eq_true rfl) dX1_refill_29 ?_
  intro r9 S9 hp9
  obtain ⟨rfl, hS9⟩ := hp9
  obtain rfl := hS9.symm
  rw [ra.own.sz]
  refine a_icmp_le K dX1_refill_32 (tgt := 63) (by decide) (fun c_32 => ?_) (fun c_32 => absurd c_32 (fun z => z (nI_le (Nat.le_of_not_lt qa) (Nat.lt_of_lt_of_le (show lea w < 8 by omega) (by decide)))))
  first | refine a_aload K dX1_refill_63 rfl ?_ | refine a_aloadN K dX1_refill_63 rfl ?_
  refine a_ifnullN K dX1_refill_65 (tgt := 108) (by decide) ?_
  first | refine a_aload K dX1_refill_108 rfl ?_ | refine a_aloadN K dX1_refill_108 rfl ?_
  refine a_ifnull K dX1_refill_110 ?_
  first | refine a_aload_n K dX1_refill_113 rfl ?_ | refine a_aload_nN K dX1_refill_113 rfl ?_
  first | refine a_aload K dX1_refill_114 rfl ?_ | refine a_aloadN K dX1_refill_114 rfl ?_
  refine a_iload K dX1_refill_116 rfl ?_
  refine a_invV K (m_edited (t := a) o hA ra.own (fun x hx => hb.1 x (mem_kd (t := (nod id tk (P ++ a :: k :: []))) am (mem_blw hx))) ht) my_X1_edited ml_X1_37 im_X1_edited se_X1_edited (ci := 1) (by assumption) (by decide) ⟨_, _, rfl⟩ rfl (by omega) (by omega) (by omega) rfl (Nat.le_of_ble_eq_true rfl) dX1_refill_118 ?_
  intro r9 S9 hp9
  obtain ⟨ad2, ar2, rfl, wE, G1⟩ := hp9
  have eT : ad2 id = ad id := (G1.2.1 id hu).1
  have ek : ad2 k.1 = ad k.1 := (G1.2.1 k.1 (hb.1 _ (mem_kd (t := (nod id tk (P ++ a :: k :: []))) (by show k ∈ (P ++ a :: k :: []); simp) (mem_own k)))).1
  have r9 : RepW S9 ad2 ar2 (h + 1) (nod id tk (P ++ a :: k :: [])) := RepW.gr hA o G1 r (fun x hx => ⟨hb.1 x hx, fun y hy => absurd hy (by simp)⟩)
  have rk9 := r9.2 k (by show k ∈ (P ++ a :: k :: []); simp)
  have nk9 := r9.own.k
  rw [kds_nod] at nk9
  have nk91 : NL S9 (ad2 id) false (ar2 id) (ksS ((P ++ a :: k :: []).map (fun c => ad2 c.1))) := nk9
  have he2 := wE.2
  rw [edt_it] at he2
  have hk2 := rk9.own.2
  have A9 := G1.2.2.1
  have b0 := hb
  rw [ndl_two] at b0
  obtain ⟨d0, d1, d2⟩ := b0.dis2
  obtain ⟨i1, i2, i3⟩ := edt_id (tk := tk) (u := u) (a := a) b0.tl.mid
  have uk : k.1 < u := hb.1 _ (mem_kd (t := (nod id tk (P ++ a :: k :: []))) (by show k ∈ (P ++ a :: k :: []); simp) (mem_own k))
  have nke : k.1 ≠ (edt tk u a).1.1 := i2 (k.1, k.2.1) uk ((d1 _ (mem_own a)).2.1 _ (mem_own k))
  have nie : id ≠ (edt tk u a).1.1 := i2 (id, tk) hu (fun z => d0 _ (List.mem_append_right _ (List.mem_append_left _ (mem_own a))) z.symm)
  have hle := edt_le (tk := tk) (u := u) a
  have oe9 := wE.2.1.1
  have h8 := rk.own.le7
  have oT9 : aw_is S9 (ad2 id) 4 := nk91.1.1
  rw [← eT, ← ek]
  first | refine a_astore K dX1_refill_121 (by decide) ?_ | refine a_astoreN K dX1_refill_121 (by decide) ?_
  first | refine a_aload K dX1_refill_123 rfl ?_ | refine a_aloadN K dX1_refill_123 rfl ?_
  first | refine a_aload_n K dX1_refill_125 rfl ?_ | refine a_aload_nN K dX1_refill_125 rfl ?_
  refine a_invV K (m_X4_appendAll he2 hk2 (fun z => nke (((A9 _ (Nat.lt_of_lt_of_le uk hle)).2 _ i3).1 z.symm)) (fun z => nke (((A9 _ (Nat.lt_of_lt_of_le uk hle)).2 _ i3).2 z.symm)) (by rw [List.length_map, List.length_map]; have h9 := Nat.le_of_not_lt qa; omega)) my_X4_appendAll ml_X1_108 im_X4_appendAll se_X4_appendAll (ci := 4) (by assumption) (by decide) ⟨_, _, rfl⟩ rfl (by omega) (by omega) (by omega) rfl (Nat.le_of_ble_eq_true rfl) dX1_refill_126 ?_
  intro r9 S10 hp9
  obtain ⟨rfl, n1, f10⟩ := hp9
  rw [← List.map_append] at n1
  have p1 := (A9 id (Nat.lt_of_lt_of_le hu hle)).2 _ i3
  have nk10 := nk91.fr f10 (fun z => z.elim (fun y => nie (p1.1 y)) (fun y => A9.ne (Nat.lt_of_lt_of_le hu hle) i3 y)) (fun z => z.elim (fun y => A9.ne i3 (Nat.lt_of_lt_of_le hu hle) y.symm) (fun y => nie (p1.2 y)))
  have oT10 := nk10.1.1
  first | refine a_aload_n K dX1_refill_129 rfl ?_ | refine a_aload_nN K dX1_refill_129 rfl ?_
  refine a_iload_n K dX1_refill_130 rfl ?_
  refine a_iconst K dX1_refill_131 (v := 1) (by decide) ?_
  refine a_isub K dX1_refill_132 ?_
  first | refine a_aload K dX1_refill_133 rfl ?_ | refine a_aloadN K dX1_refill_133 rfl ?_
  rw [nI_pred]
  refine a_invV K (m_X4_setKid (p := P.length) (b := ad2 (edt tk u a).1.1) nk10 (by rw [List.length_map]; simp only [List.length_append, List.length_cons]; omega) n1.1.1) my_X4_setKid ml_X1_41 im_X4_setKid se_X4_setKid (ci := 4) (by assumption) (by decide) ⟨_, _, rfl⟩ rfl (by omega) (by omega) (by omega) rfl (Nat.le_of_ble_eq_true rfl) dX1_refill_135 ?_
  intro r9 S11 hp9
  obtain ⟨rfl, nl, f11⟩ := hp9
  rw [kset2 (f := ad2) (e := (edt tk u a).1)] at nl
  have oT11 := nl.1.1
  first | refine a_aload_n K dX1_refill_138 rfl ?_ | refine a_aload_nN K dX1_refill_138 rfl ?_
  refine a_iload_n K dX1_refill_139 rfl ?_
  refine a_invV K (m_X4_removeKid (p := P.length + 1) nl (by rw [ksS_len, List.length_map]; simp only [List.length_append, List.length_cons]; omega)) my_X4_removeKid ml_X1_111 im_X4_removeKid se_X4_removeKid (ci := 4) (by assumption) (by decide) ⟨_, _, rfl⟩ rfl (by omega) (by omega) (by omega) rfl (Nat.le_of_ble_eq_true rfl) dX1_refill_140 ?_
  intro r9 S12 hp9
  obtain ⟨rfl, nl2, f12⟩ := hp9
  have e7 : P ++ (edt tk u a).1 :: k :: [] = (P ++ [(edt tk u a).1]) ++ k :: [] := by simp
  rw [ksS_erase, e7, show P.length + 1 = (P ++ [(edt tk u a).1]).length by simp, kera2 (f := ad2), List.append_assoc] at nl2
  have p2 := (A9 (edt tk u a).1.1 i3).2 _ (Nat.lt_of_lt_of_le hu hle)
  have F := (f10.tr f11 (T := fun b => (b = ad2 id ∨ b = ar2 id) ∨ b = ad2 (edt tk u a).1.1 ∨ b = ar2 (edt tk u a).1.1) (fun _ z => Or.inr z) (fun _ z => Or.inl (Or.inr z))).tr f12 (fun _ z => z) (fun _ z => Or.inl z)
  have n12 := (n1.fr f11 (fun z => A9.ne i3 (Nat.lt_of_lt_of_le hu hle) z) (fun z => nie (p2.2 z).symm)).fr f12 (fun z => z.elim (fun y => nie (p2.1 y).symm) (fun y => A9.ne i3 (Nat.lt_of_lt_of_le hu hle) y)) (fun z => z.elim (fun y => A9.ne (Nat.lt_of_lt_of_le hu hle) i3 y.symm) (fun y => nie (p2.2 y).symm))
  refine a_goto K dX1_refill_143 (tgt := 164) (by decide) ?_
  exact a_vret K E (by omega) (by omega) dX1_refill_164 (c3_fin o hA r hb G1 wE F (fun _ z => z) n12 nl2)
set_option maxHeartbeats 4000000 in
set_option maxRecDepth 100000 in
theorem m_refill_4 {w tk : Nat} {S : aw_S} {ad ar : Nat → Nat} {gw u h id : Nat} {P B : List (Tr h)} {a b k : Tr h} (hw3 : 3 ≤ w) (hw6 : w ≤ 6) (o : aw_is S gw 1) (hwd : sI S 64 gw = nI w) (hA : AD S ad ar u) (r : RepW S ad ar (h + 1) (nod id tk (k :: b :: B))) (hb : bdd u (ndl (h + 1) (nod id tk (k :: b :: B)))) (ht : tk < 2147483648) (hkt : k.2.1 = tk) (hkl : k.2.2.length + 1 ≤ lea w) (qb : ¬ lea w < b.2.2.length) : aw_M yX1_refill cX1_refill 8 (none : Option FieldType) 4 0 0 [.ref gw, .ref (ad id), .int (nI 0), .ref (ad k.1), .int (nI tk)] S (RQ S ad ar gw u h tk id (ndl (h + 1) (nod id tk (k :: b :: B))) ([] ++ (k.1, k.2.1, k.2.2 ++ b.2.2) :: B, u)) := by
  have hlw : lea w + lea w ≤ w + 1 := by unfold lea; omega
  have oT : aw_is S (ad id) 4 := r.is
  have hu : id < u := hb.1 _ List.mem_cons_self
  have nk0 := r.own.k
  rw [kds_nod] at nk0
  have nk : NL S (ad id) false (ar id) (ksS ((k :: b :: B).map (fun c => ad c.1))) := nk0
  clear nk0
  have h7 : (k :: b :: B).length ≤ 7 := r.own.le7
  simp only [List.length_append, List.length_cons, List.length_nil] at h7
  have rk : RepW S ad ar h k := r.2 k (by show k ∈ (k :: b :: B); simp)
  have ok_ := rk.is
  have bm : b ∈ (k :: b :: B) := by simp
  have rb : RepW S ad ar h b := r.2 b bm
  have ob := rb.is
  have lb7 := rb.own.le7
  have b0 := hb
  have e8 := ndl_two (id := id) (tk := tk) (P := []) (B := B) (X := k) (Y := b)
  rw [List.nil_append] at e8
  rw [e8] at b0
  obtain ⟨d0, d1, d2⟩ := b0.dis2
  have uk : k.1 < u := hb.1 _ (mem_kd (t := (nod id tk (k :: b :: B))) (by show k ∈ (k :: b :: B); simp) (mem_own k))
  have ub : b.1 < u := hb.1 _ (mem_kd (t := (nod id tk (k :: b :: B))) bm (mem_own b))
  have nkb : k.1 ≠ b.1 := (d2 _ (mem_own b)).2.1 _ (mem_own k)
  have nik : id ≠ k.1 := fun z => d0 _ (List.mem_append_right _ (List.mem_append_left _ (mem_own k))) z.symm
  have h8 := rk.own.le7
  refine aw_enter (by decide +kernel) (Nat.le_of_ble_eq_true rfl) (fun g K E => ?_)
  first | refine a_aload_n K dX1_refill_0 rfl ?_ | refine a_aload_nN K dX1_refill_0 rfl ?_
  refine a_iload_n K dX1_refill_1 rfl ?_
  refine a_iconst K dX1_refill_2 (v := 1) (by decide) ?_
  refine a_isub K dX1_refill_3 ?_
  rw [show nI 0 - 1 = -1 from by decide]
  refine a_invV K (m_X4_kidAt_m nk) my_X4_kidAt ml_X1_33 im_X4_kidAt se_X4_kidAt (ci := 4) (by assumption) (by decide) ⟨_, _, rfl⟩ rfl (by omega) (by omega) (by omega) rfl (Nat.le_of_ble_eq_true rfl) dX1_refill_4 ?_
  intro r9 S9 hp9
  obtain ⟨rfl, hS9⟩ := hp9
  obtain rfl := hS9.symm
  first | refine a_astore K dX1_refill_7 (by decide) ?_ | refine a_astoreN K dX1_refill_7 (by decide) ?_
  first | refine a_aload_n K dX1_refill_9 rfl ?_ | refine a_aload_nN K dX1_refill_9 rfl ?_
  refine a_iload_n K dX1_refill_10 rfl ?_
  refine a_iconst K dX1_refill_11 (v := 1) (by decide) ?_
  refine a_iadd K dX1_refill_12 ?_
  rw [nI_1]
  refine a_invV K (m_X4_kidAt (k := 0 + 1) nk (by omega)) my_X4_kidAt ml_X1_33 im_X4_kidAt se_X4_kidAt (ci := 4) (by assumption) (by decide) ⟨_, _, rfl⟩ rfl (by omega) (by omega) (by omega) rfl (Nat.le_of_ble_eq_true rfl) dX1_refill_13 ?_
  intro r9 S9 hp9
  obtain ⟨rfl, hS9⟩ := hp9
  obtain rfl := hS9.symm
  first | refine a_astore K dX1_refill_16 (by decide) ?_ | refine a_astoreN K dX1_refill_16 (by decide) ?_
  first | refine a_aload K dX1_refill_18 rfl ?_ | refine a_aloadN K dX1_refill_18 rfl ?_
  refine a_ifnullN K dX1_refill_20 (tgt := 63) (by decide) ?_
  first | refine a_aload K dX1_refill_63 rfl ?_ | refine a_aloadN K dX1_refill_63 rfl ?_
  refine a_ifnull K dX1_refill_65 ?_
  first | refine a_aload K dX1_refill_68 rfl ?_ | refine a_aloadN K dX1_refill_68 rfl ?_
  refine a_invV K (m_X4_size ob) my_X4_size ml_X1_76 im_X4_size se_X4_size (ci := 4) (by assumption) (by decide) ⟨_, _, rfl⟩ rfl (by omega) (by omega) (by omega) rfl (Nat.le_of_ble_eq_true rfl) dX1_refill_70 ?_
  intro r9 S9 hp9
  obtain ⟨rfl, hS9⟩ := hp9
  obtain rfl := hS9.symm
  first | refine a_aload_n K dX1_refill_73 rfl ?_ | refine a_aload_nN K dX1_refill_73 rfl ?_
  refine a_invV K (m_X1_least (w := w) o hwd (by omega)) my_X1_least ml_X1_82 im_X1_least se_X1_least (ci := 1) (by assumption) (by decide) ⟨_, _, rfl⟩ rfl (by omega) (by omega) (by omega) rfl (Nat.le_of_ble_eq_true rfl) dX1_refill_74 ?_
  intro r9 S9 hp9
  obtain ⟨rfl, hS9⟩ := hp9
  obtain rfl := hS9.symm
  rw [rb.own.sz]
  refine a_icmp_le K dX1_refill_77 (tgt := 108) (by decide) (fun c_77 => ?_) (fun c_77 => absurd c_77 (fun z => z (nI_le (Nat.le_of_not_lt qb) (Nat.lt_of_lt_of_le (show lea w < 8 by omega) (by decide)))))
  first | refine a_aload K dX1_refill_108 rfl ?_ | refine a_aloadN K dX1_refill_108 rfl ?_
  refine a_ifnullN K dX1_refill_110 (tgt := 146) (by decide) ?_
  first | refine a_aload K dX1_refill_146 rfl ?_ | refine a_aloadN K dX1_refill_146 rfl ?_
  refine a_ifnull K dX1_refill_148 ?_
  first | refine a_aload_n K dX1_refill_151 rfl ?_ | refine a_aload_nN K dX1_refill_151 rfl ?_
  first | refine a_aload K dX1_refill_152 rfl ?_ | refine a_aloadN K dX1_refill_152 rfl ?_
  refine a_invV K (m_X4_appendAll rk.own.2 rb.own.2 (fun z => nkb (((hA _ uk).2 _ ub).1 z)) (fun z => nkb (((hA _ uk).2 _ ub).2 z)) (by rw [List.length_map, List.length_map]; have h9 := Nat.le_of_not_lt qb; omega)) my_X4_appendAll ml_X1_108 im_X4_appendAll se_X4_appendAll (ci := 4) (by assumption) (by decide) ⟨_, _, rfl⟩ rfl (by omega) (by omega) (by omega) rfl (Nat.le_of_ble_eq_true rfl) dX1_refill_154 ?_
  intro r9 S10 hp9
  obtain ⟨rfl, n1, f10⟩ := hp9
  rw [← List.map_append] at n1
  have p1 := (hA id hu).2 _ uk
  have nk10 := nk.fr f10 (fun z => z.elim (fun y => nik (p1.1 y)) (fun y => hA.ne hu uk y)) (fun z => z.elim (fun y => hA.ne uk hu y.symm) (fun y => nik (p1.2 y)))
  have oT10 := nk10.1.1
  first | refine a_aload_n K dX1_refill_157 rfl ?_ | refine a_aload_nN K dX1_refill_157 rfl ?_
  refine a_iload_n K dX1_refill_158 rfl ?_
  refine a_iconst K dX1_refill_159 (v := 1) (by decide) ?_
  refine a_iadd K dX1_refill_160 ?_
  rw [nI_1]
  refine a_invV K (m_X4_removeKid (p := 0 + 1) nk10 (by rw [ksS_len, List.length_map]; simp only [List.length_cons]; omega)) my_X4_removeKid ml_X1_111 im_X4_removeKid se_X4_removeKid (ci := 4) (by assumption) (by decide) ⟨_, _, rfl⟩ rfl (by omega) (by omega) (by omega) rfl (Nat.le_of_ble_eq_true rfl) dX1_refill_161 ?_
  intro r9 S12 hp9
  obtain ⟨rfl, nl2, f12⟩ := hp9
  rw [ksS_erase] at nl2
  have p2 := (hA k.1 uk).2 _ hu
  have F := f10.tr f12 (T := fun b => (b = ad id ∨ b = ar id) ∨ b = ad k.1 ∨ b = ar k.1) (fun _ z => Or.inr z) (fun _ z => Or.inl z)
  have n12 := n1.fr f12 (fun z => z.elim (fun y => nik (p2.1 y).symm) (fun y => hA.ne uk hu y)) (fun z => z.elim (fun y => hA.ne hu uk y.symm) (fun y => nik (p2.2 y).symm))
  exact a_vret K E (by omega) (by omega) dX1_refill_164 (c4_fin (P := []) o hA r hb hkt F (fun _ z => z) n12 nl2)
