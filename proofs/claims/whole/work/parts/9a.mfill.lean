/-! the model: fills -/
theorem mids {u h i tk : Nat} {A0 B0 : List (Tr h)} {p q : Tr h} (b : bdd u (ndl (h + 1) (nod i tk (A0 ++ p :: q :: B0)))) : (∀ x ∈ ndl h p, ∀ y ∈ ndl h q, x.1 ≠ y.1) ∧ (∀ d, d ∈ A0 ∨ d ∈ B0 → ∀ x ∈ ndl h d, x.1 ≠ p.1 ∧ x.1 ≠ q.1) ∧ (∀ x ∈ blw h p.2.2, x.1 ≠ p.1) ∧ (∀ x ∈ blw h q.2.2, x.1 ≠ q.1) ∧ (∀ x ∈ (A0 ++ p :: q :: B0).flatMap (ndl h), x.1 ≠ i) := by
  have b1 : bdd u ((i, tk) :: (A0 ++ p :: q :: B0).flatMap (ndl h)) := b
  have n := b1.tl.2
  rw [List.flatMap_append, List.flatMap_cons, List.flatMap_cons, List.map_append, List.map_append, List.map_append] at n
  obtain ⟨n1, n2, n3⟩ := List.nodup_append.mp n
  obtain ⟨m1, m2, m3⟩ := List.nodup_append.mp n2
  obtain ⟨k1, k2, k3⟩ := List.nodup_append.mp m2
  have hp : p.1 ∈ (ndl h p).map Prod.fst := List.mem_map.mpr ⟨_, ndl_top p, rfl⟩
  have hq : q.1 ∈ (ndl h q).map Prod.fst := List.mem_map.mpr ⟨_, ndl_top q, rfl⟩
  have inA : ∀ {L : List (Tr h)} {d : Tr h} {x : Nat × Nat}, d ∈ L → x ∈ ndl h d → x.1 ∈ (L.flatMap (ndl h)).map Prod.fst := fun hd hx => List.mem_map.mpr ⟨_, List.mem_flatMap.mpr ⟨_, hd, hx⟩, rfl⟩
  refine ⟨fun x hx y hy e => m3 x.1 (List.mem_map.mpr ⟨x, hx, rfl⟩) y.1 (List.mem_append_left _ (List.mem_map.mpr ⟨y, hy, rfl⟩)) e, fun d hd x hx => ?_, fun x hx e => ?_, fun x hx e => ?_, bdd.ne b1⟩
  · rcases hd with hd | hd
    · exact ⟨n3 x.1 (inA hd hx) p.1 (List.mem_append_left _ hp), n3 x.1 (inA hd hx) q.1 (List.mem_append_right _ (List.mem_append_left _ hq))⟩
    · exact ⟨fun e => m3 p.1 hp x.1 (List.mem_append_right _ (inA hd hx)) e.symm, fun e => k3 q.1 hq x.1 (inA hd hx) e.symm⟩
  · rw [ndl_L, List.map_cons, List.nodup_cons] at m1
    exact m1.1 (List.mem_map.mpr ⟨x, hx, e⟩)
  · rw [ndl_L, List.map_cons, List.nodup_cons] at k1
    exact k1.1 (List.mem_map.mpr ⟨x, hx, e⟩)
theorem fill2 {S S4 : aw_S} {m ρ : Nat → Nat} {u h i tk : Nat} {Z : List Nat × Nat} {P : Nat → Prop} {A0 B0 : List (Tr h)} {p q : Tr h} {Lp Lq : List (Ct h)} {lp lq : List KV} (al : AL ρ u Z P) (rp : RepM S m ρ (h + 1) (nod i tk (A0 ++ p :: q :: B0))) (ht : ∀ x ∈ ndl (h + 1) (nod i tk (A0 ++ p :: q :: B0)), P x.1) (b : bdd u (ndl (h + 1) (nod i tk (A0 ++ p :: q :: B0)))) (f : RoF S S4 m (fun r => r = ρ p.1 ∨ r = ρ q.1)) (wp : RwM S4 m (ρ p.1) lp) (rpw : rawM ρ h Lp lp) (wq : RwM S4 m (ρ q.1) lq) (rqw : rawM ρ h Lq lq) (e1 : gL S4 m (ρ p.1) = gL S m (ρ p.1) ∧ gT S4 m (ρ p.1) = gT S m (ρ p.1)) (e2 : gL S4 m (ρ q.1) = gL S m (ρ q.1) ∧ gT S4 m (ρ q.1) = gT S m (ρ q.1)) (h7 : Lp.length ≤ 7) (h72 : Lq.length ≤ 7) (kp : KdM S m ρ h Lp) (kq : KdM S m ρ h Lq) (bp : ∀ x ∈ blw h Lp, x ∈ blw h p.2.2 ∨ x ∈ blw h q.2.2) (bq : ∀ x ∈ blw h Lq, x ∈ blw h p.2.2 ∨ x ∈ blw h q.2.2) : RepM S4 m ρ (h + 1) (nod i tk (A0 ++ (p.1, p.2.1, Lp) :: (q.1, q.2.1, Lq) :: B0)) := by
  obtain ⟨i1, i2, i3, i4, i5⟩ := mids b
  have mp : p ∈ A0 ++ p :: q :: B0 := List.mem_append_right _ List.mem_cons_self
  have mq : q ∈ A0 ++ p :: q :: B0 := List.mem_append_right _ (List.mem_cons_of_mem _ List.mem_cons_self)
  have inK : ∀ {d : Tr h} {x : Nat × Nat}, d ∈ A0 ++ p :: q :: B0 → x ∈ ndl h d → P x.1 := fun hd hx => ht _ (List.mem_cons_of_mem _ (List.mem_flatMap.mpr ⟨_, hd, hx⟩))
  have nr : ∀ j, P j → j ≠ p.1 → j ≠ q.1 → ¬ (ρ j = ρ p.1 ∨ ρ j = ρ q.1) := fun j hj h1 h2 z => z.elim (fun e => h1 (al.2 _ _ hj (inK mp (ndl_top p)) e)) (fun e => h2 (al.2 _ _ hj (inK mq (ndl_top q)) e))
  have nb : ∀ x, x ∈ blw h p.2.2 ∨ x ∈ blw h q.2.2 → ¬ (ρ x.1 = ρ p.1 ∨ ρ x.1 = ρ q.1) := fun x hx => hx.elim (fun z => nr _ (inK mp (ndl_blw z)) (i3 x z) (fun e => i1 x (ndl_blw z) _ (ndl_top q) e)) (fun z => nr _ (inK mq (ndl_blw z)) (fun e => i1 _ (ndl_top p) x (ndl_blw z) e.symm) (i4 x z))
  have own : NdM S4 m ρ (h + 1) (nod i tk (A0 ++ p :: q :: B0)) := NdM_g f rp.1 (nr i (ht _ (ndl_top (nod i tk (A0 ++ p :: q :: B0)))) (fun e => i5 _ (List.mem_flatMap.mpr ⟨p, mp, ndl_top p⟩) e.symm) (fun e => i5 _ (List.mem_flatMap.mpr ⟨q, mq, ndl_top q⟩) e.symm)) rfl (fun _ _ => rfl)
  have np := (rp.2 p mp).own
  have nq := (rp.2 q mq).own
  refine ⟨NdM_ids own (by rw [List.map_append, List.map_append, List.map_cons, List.map_cons, List.map_cons, List.map_cons]), fun d hd => ?_⟩
  have hd : d ∈ A0 ++ (p.1, p.2.1, Lp) :: (q.1, q.2.1, Lq) :: B0 := hd
  have oth : d ∈ A0 ∨ d ∈ B0 → RepM S4 m ρ h d := fun z => by
    have dm : d ∈ A0 ++ p :: q :: B0 := z.elim (fun y => List.mem_append_left _ y) (fun y => List.mem_append_right _ (List.mem_cons_of_mem _ (List.mem_cons_of_mem _ y)))
    exact RepM_g f h d (rp.2 d dm) (fun x hx => ⟨nr _ (inK dm hx) (i2 d z x hx).1 (i2 d z x hx).2, rfl⟩)
  rcases List.mem_append.mp hd with z | z
  · exact oth (Or.inl z)
  · rcases List.mem_cons.mp z with e | z
    · rw [e]
      exact RepM_of (NdM_of (t := (p.1, p.2.1, Lp)) np.1 (e1.1.trans np.2.1) (e1.2.trans np.2.2.2.1) wp rpw h7) (KdM_g f kp (fun x hx => ⟨nb x (bp x hx), rfl⟩))
    · rcases List.mem_cons.mp z with e | z
      · rw [e]
        exact RepM_of (NdM_of (t := (q.1, q.2.1, Lq)) nq.1 (e2.1.trans nq.2.1) (e2.2.trans nq.2.2.2.1) wq rqw h72) (KdM_g f kq (fun x hx => ⟨nb x (bq x hx), rfl⟩))
      · exact oth (Or.inr z)
theorem fill3 {S S4 : aw_S} {m ρ : Nat → Nat} {u h i tk : Nat} {Z : List Nat × Nat} {P : Nat → Prop} {A0 B0 : List (Tr h)} {p q : Tr h} {lp ln : List KV} (al : AL ρ u Z P) (rp : RepM S m ρ (h + 1) (nod i tk (A0 ++ p :: q :: B0))) (ht : ∀ x ∈ ndl (h + 1) (nod i tk (A0 ++ p :: q :: B0)), P x.1) (b : bdd u (ndl (h + 1) (nod i tk (A0 ++ p :: q :: B0)))) (f : RoF S S4 m (fun r => r = ρ p.1 ∨ r = ρ i)) (wp : RwM S4 m (ρ p.1) lp) (rpw : rawM ρ h (p.2.2 ++ q.2.2) lp) (wn : RwM S4 m (ρ i) ln) (rnw : rawM ρ (h + 1) (A0 ++ p :: B0) ln) (e1 : gL S4 m (ρ p.1) = gL S m (ρ p.1) ∧ gT S4 m (ρ p.1) = gT S m (ρ p.1)) (e2 : gL S4 m (ρ i) = gL S m (ρ i) ∧ gT S4 m (ρ i) = gT S m (ρ i)) (h7 : p.2.2.length + q.2.2.length ≤ 7) : RepM S4 m ρ (h + 1) (nod i tk (A0 ++ (p.1, p.2.1, p.2.2 ++ q.2.2) :: B0)) := by
  obtain ⟨i1, i2, i3, i4, i5⟩ := mids b
  have mp : p ∈ A0 ++ p :: q :: B0 := List.mem_append_right _ List.mem_cons_self
  have mq : q ∈ A0 ++ p :: q :: B0 := List.mem_append_right _ (List.mem_cons_of_mem _ List.mem_cons_self)
  have inK : ∀ {d : Tr h} {x : Nat × Nat}, d ∈ A0 ++ p :: q :: B0 → x ∈ ndl h d → P x.1 := fun hd hx => ht _ (List.mem_cons_of_mem _ (List.mem_flatMap.mpr ⟨_, hd, hx⟩))
  have nr : ∀ {d : Tr h} {x : Nat × Nat}, d ∈ A0 ++ p :: q :: B0 → x ∈ ndl h d → x.1 ≠ p.1 → ¬ (ρ x.1 = ρ p.1 ∨ ρ x.1 = ρ i) := fun hd hx h1 z => z.elim (fun e => h1 (al.2 _ _ (inK hd hx) (inK mp (ndl_top p)) e)) (fun e => i5 _ (List.mem_flatMap.mpr ⟨_, hd, hx⟩) (al.2 _ _ (inK hd hx) (ht _ (ndl_top (nod i tk (A0 ++ p :: q :: B0)))) e))
  have np := (rp.2 p mp).own
  have hl : (A0 ++ p :: B0).length ≤ 7 := by
    have h9 : (A0 ++ p :: q :: B0).length ≤ 7 := rp.1.2.2.2.2.1
    rw [List.length_append, List.length_cons, List.length_cons] at h9
    rw [List.length_append, List.length_cons]
    omega
  have own : NdM S4 m ρ (h + 1) (nod i tk (A0 ++ p :: B0)) := NdM_of (t := nod i tk (A0 ++ p :: B0)) rp.1.1 (e2.1.trans rp.1.2.1) (e2.2.trans rp.1.2.2.2.1) wn rnw hl
  refine ⟨NdM_ids own (by rw [List.map_append, List.map_append, List.map_cons, List.map_cons]), fun d hd => ?_⟩
  have hd : d ∈ A0 ++ (p.1, p.2.1, p.2.2 ++ q.2.2) :: B0 := hd
  have oth : d ∈ A0 ∨ d ∈ B0 → RepM S4 m ρ h d := fun z => by
    have dm : d ∈ A0 ++ p :: q :: B0 := z.elim (fun y => List.mem_append_left _ y) (fun y => List.mem_append_right _ (List.mem_cons_of_mem _ (List.mem_cons_of_mem _ y)))
    exact RepM_g f h d (rp.2 d dm) (fun x hx => ⟨nr dm hx (i2 d z x hx).1, rfl⟩)
  rcases List.mem_append.mp hd with z | z
  · exact oth (Or.inl z)
  · rcases List.mem_cons.mp z with e | z
    · rw [e]
      refine RepM_of (NdM_of (t := (p.1, p.2.1, p.2.2 ++ q.2.2)) np.1 (e1.1.trans np.2.1) (e1.2.trans np.2.2.2.1) wp rpw (by show (p.2.2 ++ q.2.2).length ≤ 7; rw [List.length_append]; exact h7)) (KdM_g f (KdM_app.mpr ⟨(rp.2 p mp).kd, (rp.2 q mq).kd⟩) (fun x hx => ⟨?_, rfl⟩))
      have hx : x ∈ blw h (p.2.2 ++ q.2.2) := hx
      rw [blw_app] at hx
      rcases List.mem_append.mp hx with z | z
      · exact nr mp (ndl_blw z) (i3 x z)
      · exact nr mq (ndl_blw z) (fun e => i1 _ (ndl_top p) x (ndl_blw z) e.symm)
    · exact oth (Or.inr z)
theorem set_mid {α : Type} : ∀ (X : List α) (a b : α) (Y : List α), (X ++ a :: Y).set X.length b = X ++ b :: Y
  | [], _, _, _ => rfl
  | x :: X, a, b, Y => congrArg (List.cons x) (set_mid X a b Y)
theorem gt_mid {α : Type} : ∀ (X : List α) (a : α) (Y : List α), (X ++ a :: Y)[X.length]? = some a
  | [], _, _ => rfl
  | _ :: X, a, Y => gt_mid X a Y
theorem gt_mid1 {α : Type} : ∀ (X : List α) (a b : α) (Y : List α), (X ++ a :: b :: Y)[X.length + 1]? = some b
  | [], _, _, _ => rfl
  | _ :: X, a, b, Y => gt_mid1 X a b Y
theorem del_mid {α : Type} : ∀ (X : List α) (a b : α) (Y : List α), (X ++ a :: b :: Y).take (X.length + 1) ++ (X ++ a :: b :: Y).drop (X.length + 1 + 1) = X ++ a :: Y
  | [], _, _, _ => rfl
  | x :: X, a, b, Y => congrArg (List.cons x) (del_mid X a b Y)
theorem set_mid1 {α : Type} : ∀ (X : List α) (a b d : α) (Y : List α), (X ++ a :: b :: Y).set (X.length + 1) d = X ++ a :: d :: Y
  | [], _, _, _, _ => rfl
  | x :: X, a, b, d, Y => congrArg (List.cons x) (set_mid1 X a b d Y)
/-- several rows of nodes of this token written -/
theorem GM_rows {S S2 : aw_S} {m ρ : Nat → Nat} {u tk : Nat} {Z : List Nat × Nat} {L : List (Nat × Nat)} {R : Nat → Prop} (hM : LM S m) (hF : FrM S m Z.1 Z.2) (nd : Z.1.Nodup) (f : frR S S2 m R []) (hi : ∀ q, R q → ∃ i, (i, tk) ∈ L ∧ q = ρ i) : GM S S2 m ρ ρ u u Z Z tk L := ⟨Nat.le_refl _, fun _ _ => rfl, hF.fr hM f.1 (by decide) (by decide) (by decide) (by decide), nd, by rw [Nat.sub_self, Nat.add_zero], fun _ z => z, fun i h1 h2 => absurd h2 (by omega), fun i j h1 h2 => absurd h2 (by omega), by rw [Nat.sub_self, show nI 0 = 0 from rfl, Int32.add_zero]; exact f.1.2 724 (by decide), f.g (fun q e => by obtain ⟨i, h1, h2⟩ := hi q e; exact Or.inl ⟨(i, tk), h1, rfl, h2⟩) (by decide)⟩
/-- a kid edited and put in its place -/
theorem ed_step {S S9 : aw_S} {m ρ ρ2 : Nat → Nat} {u tk h p : Nat} {Z Z2 : List Nat × Nat} {P : Nat → Prop} {t : Tr (h + 1)} {c : Tr h} (hM : LM S m) (hM9 : LM S9 m) (rp : RepM S m ρ (h + 1) t) (a : AL ρ u Z P) (ht : ∀ x ∈ ndl (h + 1) t, P x.1) (b : bdd u (ndl (h + 1) t)) (htk : t.2.1 = tk) (hc : (kds t)[p]? = some c) (g1 : GM S S9 m ρ ρ2 u (edt tk u c).2 Z Z2 tk []) (r1 : RepM S9 m ρ2 h (edt tk u c).1) {T : aw_S} (hT : T = wA S9 (m 9) (7 * ρ t.1 + p) (nI (ρ2 (edt tk u c).1.1))) : RepM T m ρ2 (h + 1) (nod t.1 t.2.1 ((kds t).set p (edt tk u c).1)) ∧ GM S T m ρ ρ2 u (edt tk u c).2 Z Z2 tk (ndl (h + 1) t) ∧ bdd (edt tk u c).2 (ndl (h + 1) (nod t.1 t.2.1 ((kds t).set p (edt tk u c).1))) ∧ (∀ x ∈ ndl (h + 1) (nod t.1 t.2.1 ((kds t).set p (edt tk u c).1)), PN P u (edt tk u c).2 x.1) ∧ wyS S9 T m ∧ LM T m ∧ ρ2 t.1 = ρ t.1 := by
  have hp := (List.getElem?_eq_some_iff.mp hc).1
  have a1 := g1.al a
  have gg := set_gru hc b (edt_gru (tk := tk) (kid_bdd hc b))
  have b1 := gg.1.bd b
  have hin : ∀ x ∈ ndl (h + 1) (nod t.1 t.2.1 ((kds t).set p (edt tk u c).1)), PN P u (edt tk u c).2 x.1 := fun x hx => (gg.1.2.1 x hx).imp (ht x) (fun z => ⟨z.1, z.2.1⟩)
  have htop := ht _ (ndl_top t)
  have hu := (a.1 _ htop).1
  have er : ρ2 t.1 = ρ t.1 := g1.2.1 _ hu
  have nz : ∀ q, US Z q → ¬ ((∃ x ∈ ([] : List (Nat × Nat)), x.2 = tk ∧ q = ρ x.1) ∨ ¬ US Z q) := fun q hq z => z.elim (fun ⟨_, hx, _⟩ => absurd hx (by simp)) (fun y => y hq)
  have n9 : NdM S9 m ρ2 (h + 1) t := NdM_g g1.2.2.2.2.2.2.2.2.2.2 rp.1 (nz _ (a.1 _ htop).2) er (fun d hd => g1.2.1 _ (a.1 _ (ht _ (ndl_kid hd (ndl_top d)))).1)
  have nd1 : (((t.1, t.2.1) :: ((kds t).set p (edt tk u c).1).flatMap (ndl h)).map Prod.fst).Nodup := b1.2
  rw [List.map_cons, List.nodup_cons] at nd1
  have rT1 := RepM_set (c := (edt tk u c).1) hM9 n9 hp (fun d hd => (List.mem_or_eq_of_mem_set hd).elim (fun z => g1.rp a (rp.2 d z) (fun x hx => ht x (ndl_kid z hx)) (fun y hy => absurd hy (by simp)) (fun x _ y hy => absurd hy (by simp))) (fun z => by rw [z]; exact r1)) (fun d hd x hx e => by
    have e9 := a1.2 _ _ (hin x (List.mem_cons_of_mem _ (List.mem_flatMap.mpr ⟨d, hd, hx⟩))) (Or.inl htop) e
    exact nd1.1 (List.mem_map.mpr ⟨x, List.mem_flatMap.mpr ⟨d, hd, hx⟩, e9⟩))
  rw [er] at rT1
  obtain ⟨f1, f2, f3, f4⟩ := g1.F
  have h7 : (kds t).length ≤ 7 := rp.1.2.2.2.2.1
  have fo := (o_fr (T := S9) (r := ρ t.1) (i := p) (v := nI (ρ2 (edt tk u c).1.1)) hM9 (by omega)).1
  rw [← hT] at rT1 fo
  have hMT : LM T m := hM9.fr fo.1.1
  have gT : GM S9 T m ρ2 ρ2 (edt tk u c).2 (edt tk u c).2 Z2 Z2 tk [(t.1, tk)] := GM_row hM9 f1 f2 (by rw [er]; exact fo) List.mem_cons_self
  have gA := (g1.mono (L2 := ndl (h + 1) t) (fun x hx => absurd hx (by simp))).tr gT (fun x hx _ => Or.inl (by rw [List.mem_singleton.mp hx, ← htk]; exact ndl_top t)) (fun x hx => (a.1 _ (ht x hx)).1)
  exact ⟨rT1, gA, b1, hin, fo.wy hM9 (by decide), hMT, er⟩
theorem edt_own2 {h tk u : Nat} {t : Tr h} : (edt tk u t).1 = ((edt tk u t).1.1, tk, t.2.2) := by
  unfold edt
  split
  · rename_i e
    show t = (t.1, tk, t.2.2)
    rw [← e]
  · rfl
theorem app_last {α : Type} {l : List α} {y : α} : l.take l.length ++ y :: l.drop l.length = l ++ [y] := by rw [List.take_length, List.drop_length]
theorem drop_last {α : Type} {l : List α} {y : α} (h : l[l.length - 1]? = some y) : l.drop (l.length - 1) = [y] := by
  obtain ⟨h1, h2⟩ := List.getElem?_eq_some_iff.mp h
  rw [List.drop_eq_getElem_cons h1, h2, show l.length - 1 + 1 = l.length by omega, List.drop_length]
theorem take_1 {α : Type} {l : List α} {y : α} (h : l[0]? = some y) : l.take 1 = [y] := by
  cases l with
  | nil => exact absurd h (by simp)
  | cons a l =>
    rw [List.take_succ_cons, List.take_zero]
    exact congrArg (fun q => [q]) (Option.some.inj h)
theorem take_i {α : Type} {l : List α} {y : α} {i : Nat} (h : l[i]? = some y) : l.take (i + 1) = l.take i ++ [y] := by
  obtain ⟨h1, h2⟩ := List.getElem?_eq_some_iff.mp h
  rw [List.take_succ_eq_append_getElem h1, h2]
theorem refZ_1 {h w tk u : Nat} {a k : Tr h} {A B : List (Tr h)} (l : lea w < a.2.2.length) : refZ w tk u (a :: A) k B = (A.reverse ++ ((edt tk u a).1.1, tk, a.2.2.take (a.2.2.length - 1)) :: (k.1, k.2.1, a.2.2.drop (a.2.2.length - 1) ++ k.2.2) :: B, (edt tk u a).2) := if_pos l
theorem refZ_2 {h w tk u : Nat} {a k b : Tr h} {A B : List (Tr h)} (l : ¬ lea w < a.2.2.length) (l2 : lea w < b.2.2.length) : refZ w tk u (a :: A) k (b :: B) = ((a :: A).reverse ++ (k.1, k.2.1, k.2.2 ++ b.2.2.take 1) :: ((edt tk u b).1.1, tk, b.2.2.drop 1) :: B, (edt tk u b).2) := by
  rw [List.reverse_cons, List.append_assoc]
  exact (if_neg l).trans (if_pos l2)
theorem refZ_2n {h w tk u : Nat} {k b : Tr h} {B : List (Tr h)} (l2 : lea w < b.2.2.length) : refZ w tk u [] k (b :: B) = ([] ++ (k.1, k.2.1, k.2.2 ++ b.2.2.take 1) :: ((edt tk u b).1.1, tk, b.2.2.drop 1) :: B, (edt tk u b).2) := if_pos l2
theorem refZ_3 {h w tk u : Nat} {a k b : Tr h} {A B : List (Tr h)} (l : ¬ lea w < a.2.2.length) (l2 : ¬ lea w < b.2.2.length) : refZ w tk u (a :: A) k (b :: B) = (A.reverse ++ ((edt tk u a).1.1, tk, a.2.2 ++ k.2.2) :: b :: B, (edt tk u a).2) := (if_neg l).trans (if_neg l2)
theorem refZ_3n {h w tk u : Nat} {a k : Tr h} {A : List (Tr h)} (l : ¬ lea w < a.2.2.length) : refZ w tk u (a :: A) k [] = (A.reverse ++ ((edt tk u a).1.1, tk, a.2.2 ++ k.2.2) :: [], (edt tk u a).2) := if_neg l
theorem refZ_4 {h w tk u : Nat} {k b : Tr h} {B : List (Tr h)} (l2 : ¬ lea w < b.2.2.length) : refZ w tk u [] k (b :: B) = ((k.1, k.2.1, k.2.2 ++ b.2.2) :: B, u) := if_neg l2
theorem gt_mid2 {α : Type} : ∀ (X : List α) (a b d : α) (Y : List α), (X ++ a :: b :: d :: Y)[X.length + 1 + 1]? = some d
  | [], _, _, _, _ => rfl
  | _ :: X, a, b, d, Y => gt_mid2 X a b d Y
set_option maxHeartbeats 4000000 in
set_option maxRecDepth 100000 in
theorem m_fills {S : aw_S} {m : Nat → Nat} (hM : LM S m) {ρ : Nat → Nat} {u tk h w : Nat} {T : Tr (h + 1)} {c : Tr h} {A B : List (Tr h)} {Z : List Nat × Nat} {P : Nat → Prop} (hw : sI S 723 (m 33) = nI w) (hw3 : 3 ≤ w) (hw6 : w ≤ 6) (rp : RepM S m ρ (h + 1) T) (hF : FrM S m Z.1 Z.2) (nd : Z.1.Nodup) (hrm : 1 ≤ rmM Z) (al : AL ρ u Z P) (ht : ∀ x ∈ ndl (h + 1) T, P x.1) (b : bdd u (ndl (h + 1) T)) (htk : tk < 2147483000) (ht9 : ∀ x ∈ ndl (h + 1) T, x.2 < 2147483000) (oT : T.2.1 = tk) (oc : c.2.1 = tk) (hk : kds T = A.reverse ++ c :: B) (hcl : c.2.2.length < lea w) (hA : ∀ d ∈ kds T, d.2.2.length ≤ w) (hne : A ≠ [] ∨ B ≠ []) (hT6 : (kds T).length ≤ 6) : aw_M yX11_fills cX11_fills 8 (none : Option FieldType) 2 0 0 [.ref (m 33), .int (nI (ρ T.1)), .int (nI A.length), .int (nI (tk + 1))] S (fun q S2 => ∃ ρ2 Z2, q = none ∧ GM S S2 m ρ ρ2 u (refZ w tk u A c B).2 Z Z2 tk (ndl (h + 1) T) ∧ RepM S2 m ρ2 (h + 1) (nod T.1 T.2.1 (refZ w tk u A c B).1) ∧ wyS S S2 m) := by
  have hlea : lea w ≤ 3 := lea_le hw6
  have hr := rp.1.1
  obtain ⟨PO, hPO⟩ : ∃ PO : Option Value → aw_S → Prop, PO = (fun q S2 => ∃ ρ2 Z2, q = none ∧ GM S S2 m ρ ρ2 u (refZ w tk u A c B).2 Z Z2 tk (ndl (h + 1) T) ∧ RepM S2 m ρ2 (h + 1) (nod T.1 T.2.1 (refZ w tk u A c B).1) ∧ wyS S S2 m) := ⟨_, rfl⟩
  rw [← hPO]
  refine aw_enter (by decide +kernel) (Nat.le_of_ble_eq_true rfl) (fun g K EE => ?_)
  have c1 : ∀ (X B : List (Tr h)) (a : Tr h) (x6 : Int32), kds T = X ++ a :: c :: B → lea w < a.2.2.length → (∀ (ρ2 : Nat → Nat) (Z2 : List Nat × Nat) (S2 : aw_S), GM S S2 m ρ ρ2 u (edt tk u a).2 Z Z2 tk (ndl (h + 1) T) → RepM S2 m ρ2 (h + 1) (nod T.1 T.2.1 (X ++ ((edt tk u a).1.1, tk, a.2.2.take (a.2.2.length - 1)) :: (c.1, c.2.1, a.2.2.drop (a.2.2.length - 1) ++ c.2.2) :: B)) → wyS S S2 m → PO none S2) → aw g 8 S 0 0 [(6, .int x6), (5, .int (nI (ρ a.1))), (4, .int (nI (ρ c.1))), (3, .int (nI (tk + 1))), (2, .int (nI (X.length + 1))), (1, .int (nI (ρ T.1))), (0, .ref (m 33))] [] 72 := by
    intro X B a x6 hK hla fin
    have hK9 : (kds T).length = (X ++ a :: c :: B).length := by rw [hK]
    rw [List.length_append, List.length_cons, List.length_cons] at hK9
    have hca : (kds T)[X.length]? = some a := by rw [hK]; exact gt_mid _ _ _
    have hcc : (kds T)[X.length + 1]? = some c := by rw [hK]; exact gt_mid1 _ _ _ _
    have haw := hA a (List.mem_of_getElem? hca)
    first | refine a_aload_n K dX11_fills_72 rfl ?_ | refine a_aload_nN K dX11_fills_72 rfl ?_
    refine a_iload K dX11_fills_73 rfl ?_
    refine a_iload_n K dX11_fills_75 rfl ?_
    refine a_invV K (q_edited hM (rp.kid hca).1 hF nd (tk := tk) (u := u) (by omega) (fun x hx => al.1 _ (ht x (ndl_kid (List.mem_of_getElem? hca) hx))) htk (ht9 _ (ndl_kid (List.mem_of_getElem? hca) (ndl_top a)))) my_X11_edited ml_X11_212 im_X11_edited se_X11_edited (ci := 11) (by exact lm_o hM) (by decide) ⟨_, _, rfl⟩ rfl (by omega) (by omega) (by omega) rfl (Nat.le_of_ble_eq_true rfl) dX11_fills_76 ?_
    intro r9 S9 hp9
    obtain ⟨ρ2, Z2, rfl, g1, r1, w1⟩ := hp9
    have hM9 := g1.lay hM
    have hM0 := hM
    have hM := hM9
    refine a_istore K dX11_fills_79 (by decide) ?_
    first | refine a_aload_n K dX11_fills_81 rfl ?_ | refine a_aload_nN K dX11_fills_81 rfl ?_
    refine a_getRs K fd_X11_39 (by exact lm_o hM) (Or.inr ⟨_, rfl⟩) (by exact lm_r719 hM) dX11_fills_82 ?_
    refine a_bipush K dX11_fills_85 (v := 7) (by decide) ?_
    refine a_iload_n K dX11_fills_87 rfl ?_
    refine a_imul K dX11_fills_88 ?_
    rw [nI_7]
    refine a_iload_n K dX11_fills_89 rfl ?_
    refine a_iadd K dX11_fills_90 ?_
    rw [nI_add]
    refine a_iconst K dX11_fills_91 (v := 1) (by decide) ?_
    refine a_isub K dX11_fills_92 ?_
    rw [show nI (7 * ρ T.1 + (X.length + 1)) - 1 = nI (7 * ρ T.1 + X.length) from nI_pred _]
    refine a_iload K dX11_fills_93 rfl ?_
    refine a_iast K (by exact lm_kk hM (by decide) (by decide)) (by show vp_in _ (sN S9 (m 9)); exact lm_ix (z := 84000) hM (by decide) (by decide) (show 7 * ρ T.1 + X.length < 84000 by omega) (by decide)) dX11_fills_95 ?_
    rw [nI_clamp (by omega)]
    obtain ⟨T2, hT2⟩ : ∃ T2, T2 = wA S9 (m 9) (7 * ρ T.1 + X.length) (nI (ρ2 (edt tk u a).1.1)) := ⟨_, rfl⟩
    rw [← hT2]
    obtain ⟨q1, q2, q3, q4, q5, q6, q7⟩ := ed_step hM0 hM9 rp al ht b oT hca g1 r1 hT2
    rw [show (kds T).set (X.length) (edt tk u a).1 = X ++ (edt tk u a).1 :: c :: B from by rw [hK]; exact set_mid _ _ _ _] at q1 q3 q4
    have a2 := g1.al al
    have hM := q6
    have ow2 := edt_own2 (tk := tk) (u := u) (t := a)
    generalize hA1 : (edt tk u a).1 = a1 at *
    have la1 : a1.2.2 = a.2.2 := by rw [ow2]
    have oa1 : a1.2.1 = tk := by rw [ow2]
    have rc := q1.2 c (show c ∈ X ++ a1 :: c :: B by simp)
    have ra := q1.2 a1 (show a1 ∈ X ++ a1 :: c :: B by simp)
    obtain ⟨lc, wc, xc⟩ := rc.own.raw
    obtain ⟨la, wa, xa⟩ := ra.own.raw
    have nc := rawM_len xc
    have na := rawM_len xa
    rw [la1] at na
    have hr2 := rc.own.1
    have hr3 := ra.own.1
    have hcd := mids q3
    have pin : ∀ d ∈ X ++ a1 :: c :: B, PN P u (edt tk u a).2 d.1 := fun d hd => q4 _ (List.mem_cons_of_mem _ (List.mem_flatMap.mpr ⟨d, hd, ndl_top d⟩))
    have pc9 := pin c (by simp)
    have pa9 := pin a1 (by simp)
    have ne12 : ρ2 c.1 ≠ ρ2 a1.1 := fun e => hcd.1 _ (ndl_top a1) _ (ndl_top c) (a2.2 _ _ pc9 pa9 e).symm
    have hlast := List.getElem?_eq_getElem (show la.length - 1 < la.length by omega)
    have elast := wa.2 _ _ hlast
    have olda : (a1.1, tk) ∈ ndl (h + 1) T ∨ (u ≤ a1.1 ∧ a1.1 < (edt tk u a).2) := by
      rcases (edt_gru (tk := tk) (u := u) (kid_bdd hca b)).1.2.1 _ (ndl_top (edt tk u a).1) with z | z
      · refine Or.inl ?_
        rw [hA1, oa1] at z
        exact ndl_kid (List.mem_of_getElem? hca) z
      · rw [hA1] at z
        exact Or.inr ⟨z.1, z.2.1⟩
    have erc : ρ2 c.1 = ρ c.1 := g1.2.1 _ (al.1 _ (ht _ (ndl_kid (List.mem_of_getElem? hcc) (ndl_top c)))).1
    rw [show nI (ρ c.1) = nI (ρ2 c.1) from congrArg nI erc.symm]
    refine a_bipush K dX11_fills_96 (v := 7) (by decide) ?_
    refine a_iload K dX11_fills_98 rfl ?_
    refine a_imul K dX11_fills_100 ?_
    rw [nI_7]
    first | refine a_aload_n K dX11_fills_101 rfl ?_ | refine a_aload_nN K dX11_fills_101 rfl ?_
    refine a_getRs K fd_X11_26 (by exact lm_o hM) (Or.inr ⟨_, rfl⟩) (by exact lm_r715 hM) dX11_fills_102 ?_
    refine a_iload K dX11_fills_105 rfl ?_
    refine a_iald K (by exact lm_kk hM (by decide) (by decide)) (by show vp_in _ (sN T2 (m 5)); exact lm_ix (z := 12000) hM (by decide) (by decide) (show ρ2 a1.1 < 12000 by omega) (by decide)) dX11_fills_107 ?_
    rw [nI_clamp (by omega)]
    rw [show sA T2 (m 5) (ρ2 a1.1) = nI la.length from wa.1]
    refine a_iadd K dX11_fills_108 ?_
    rw [nI_add]
    refine a_iconst K dX11_fills_109 (v := 1) (by decide) ?_
    refine a_isub K dX11_fills_110 ?_
    rw [show nI (7 * ρ2 a1.1 + la.length) - 1 = nI (7 * ρ2 a1.1 + (la.length - 1)) from by rw [show 7 * ρ2 a1.1 + la.length = 7 * ρ2 a1.1 + (la.length - 1) + 1 by omega]; exact nI_pred _]
    refine a_istore K dX11_fills_111 (by decide) ?_
    first | refine a_aload_n K dX11_fills_113 rfl ?_ | refine a_aload_nN K dX11_fills_113 rfl ?_
    refine a_iload K dX11_fills_114 rfl ?_
    refine a_iconst K dX11_fills_116 (v := 0) (by decide) ?_
    first | refine a_aload_n K dX11_fills_117 rfl ?_ | refine a_aload_nN K dX11_fills_117 rfl ?_
    refine a_getRs K fd_X11_39 (by exact lm_o hM) (Or.inr ⟨_, rfl⟩) (by exact lm_r719 hM) dX11_fills_118 ?_
    refine a_iload K dX11_fills_121 rfl ?_
    refine a_iald K (by exact lm_kk hM (by decide) (by decide)) (by show vp_in _ (sN T2 (m 9)); exact lm_ix (z := 84000) hM (by decide) (by decide) (show 7 * ρ2 a1.1 + (la.length - 1) < 84000 by omega) (by decide)) dX11_fills_123 ?_
    rw [nI_clamp (by omega)]
    first | refine a_aload_n K dX11_fills_124 rfl ?_ | refine a_aload_nN K dX11_fills_124 rfl ?_
    refine a_getRs K fd_X11_42 (by exact lm_o hM) (Or.inr ⟨_, rfl⟩) (by exact lm_r720 hM) dX11_fills_125 ?_
    refine a_iload K dX11_fills_128 rfl ?_
    refine a_iald K (by exact lm_kk hM (by decide) (by decide)) (by show vp_in _ (sN T2 (m 10)); exact lm_ix (z := 84000) hM (by decide) (by decide) (show 7 * ρ2 a1.1 + (la.length - 1) < 84000 by omega) (by decide)) dX11_fills_130 ?_
    rw [nI_clamp (by omega)]
    rw [show (0 : Int32) = nI 0 from nI_0.symm]
    refine a_invV K (m_putsIn hM (r := ρ2 c.1) (k := 0) hr2 wc (by omega) (by omega)) my_X11_putsIn ml_X11_225 im_X11_putsIn se_X11_putsIn (ci := 11) (by exact lm_o hM) (by decide) ⟨_, _, rfl⟩ rfl (by omega) (by omega) (by omega) rfl (Nat.le_of_ble_eq_true rfl) dX11_fills_131 ?_
    intro r9 S3 hp9
    obtain ⟨rfl, wc3, gl3, gt3, f3⟩ := hp9
    have hM := f3.1.lay hM
    have oa := f3.2 (ρ2 a1.1) hr3 (fun e => ne12 e.symm)
    first | refine a_aload_n K dX11_fills_134 rfl ?_ | refine a_aload_nN K dX11_fills_134 rfl ?_
    refine a_getRs K fd_X11_26 (by exact lm_o hM) (Or.inr ⟨_, rfl⟩) (by exact lm_r715 hM) dX11_fills_135 ?_
    refine a_iload K dX11_fills_138 rfl ?_
    refine a_dup2 K dX11_fills_140 rfl rfl ?_
    refine a_iald K (by exact lm_kk hM (by decide) (by decide)) (by show vp_in _ (sN S3 (m 5)); exact lm_ix (z := 12000) hM (by decide) (by decide) (show ρ2 a1.1 < 12000 by omega) (by decide)) dX11_fills_141 ?_
    rw [nI_clamp (by omega)]
    rw [show sA S3 (m 5) (ρ2 a1.1) = nI la.length from oa.2.1.trans wa.1]
    refine a_iconst K dX11_fills_142 (v := 1) (by decide) ?_
    refine a_isub K dX11_fills_143 ?_
    rw [show nI la.length - 1 = nI (la.length - 1) from by rw [show la.length = la.length - 1 + 1 by omega]; exact nI_pred _]
    refine a_iast K (by exact lm_kk hM (by decide) (by decide)) (by show vp_in _ (sN S3 (m 5)); exact lm_ix (z := 12000) hM (by decide) (by decide) (show ρ2 a1.1 < 12000 by omega) (by decide)) dX11_fills_144 ?_
    rw [nI_clamp (by omega)]
    refine a_goto K dX11_fills_145 (tgt := 402) (by decide) ?_
    exact a_vret K EE (by omega) (by omega) dX11_fills_402 (by
      obtain ⟨n1, n2, n3, n4⟩ := n_fr (T := S3) (r := ρ2 a1.1) (v := nI (la.length - 1)) hM
      have oc4 := n1.2 (ρ2 c.1) hr2 ne12
      have f4 := (f3.up (R2 := fun q => q = ρ2 c.1 ∨ q = ρ2 a1.1) (fun q z => Or.inl z) (fun _ z => z)).tr (n1.up (R2 := fun q => q = ρ2 c.1 ∨ q = ρ2 a1.1) (fun q z => Or.inr z) (fun _ z => z))
      have g4 : GM T2 _ m ρ2 ρ2 (edt tk u a).2 (edt tk u a).2 Z2 Z2 tk [(c.1, tk), (a1.1, tk)] := GM_rows q6 q2.F.1 q2.F.2.1 f4 (fun q z => z.elim (fun e => ⟨c.1, List.mem_cons_self, e⟩) (fun e => ⟨a1.1, List.mem_cons_of_mem _ List.mem_cons_self, e⟩))
      have hwa : RwM (wA S3 (m 5) (ρ2 a1.1) (nI (la.length - 1))) m (ρ2 a1.1) (la.take (la.length - 1)) := ⟨by rw [n2, List.length_take]; congr 1; omega, fun k x hx => by
        rw [List.getElem?_take] at hx
        split at hx
        · rename_i hk9
          rw [n4, oa.2.2.2 k (by have := ra.own.2.2.2.2.1; rw [la1] at this; omega)]
          exact wa.2 k x hx
        · exact absurd hx (by simp)⟩
      have hwc : RwM (wA S3 (m 5) (ρ2 a1.1) (nI (la.length - 1))) m (ρ2 c.1) (la.drop (la.length - 1) ++ lc) := by
        rw [drop_last hlast]
        have e9 : lc.take 0 ++ (sA T2 (m 9) (7 * ρ2 a1.1 + (la.length - 1)), sA T2 (m 10) (7 * ρ2 a1.1 + (la.length - 1))) :: lc.drop 0 = [la[la.length - 1]] ++ lc := by
          rw [List.take_zero, List.drop_zero, List.nil_append]
          exact congrArg (fun q => q :: lc) elast
        have wc4 : RwM S3 m (ρ2 c.1) ([la[la.length - 1]] ++ lc) := e9 ▸ wc3
        have hl9 : ([la[la.length - 1]] ++ lc).length ≤ 7 := by rw [List.length_append, List.length_singleton]; omega
        exact ⟨by rw [oc4.2.1]; exact wc4.1, fun k x hx => by
          rw [oc4.2.2.2 k (by have := (List.getElem?_eq_some_iff.mp hx).1; omega)]
          exact wc4.2 k x hx⟩
      have R9 := fill2 (i := T.1) (tk := T.2.1) (A0 := X) (B0 := B) (p := a1) (q := c) (Lp := a.2.2.take (a.2.2.length - 1)) (Lq := a.2.2.drop (a.2.2.length - 1) ++ c.2.2) a2 q1 q4 q3 (fun q hq hR => f4.2 q hq (fun z => hR z.symm)) hwa (by have := (rawM_td xa (la.length - 1)).1; rw [la1, na] at this; rw [na]; exact this) hwc (by have := rawM_app (rawM_td xa (la.length - 1)).2 xc; rw [la1, na] at this; rw [na]; exact this) ⟨(n3 _).1.trans oa.1, (n3 _).2.trans oa.2.2.1⟩ ⟨(n3 _).1.trans gl3, (n3 _).2.trans gt3⟩ (by rw [List.length_take]; have := ra.own.2.2.2.2.1; rw [la1] at this; omega) (by rw [List.length_append, List.length_drop]; omega) (by have := (KdM_td ra.kd (a.2.2.length - 1)).1; rw [la1] at this; exact this) (KdM_app.mpr ⟨by have := (KdM_td ra.kd (a.2.2.length - 1)).2; rw [la1] at this; exact this, rc.kd⟩) (fun x hx => Or.inl (by rw [la1]; exact (blw_td _).1 x hx)) (fun x hx => by rw [blw_app] at hx; exact (List.mem_append.mp hx).elim (fun z => Or.inl (by rw [la1]; exact (blw_td _).2 x z)) Or.inr)
      rw [oa1] at R9
      exact fin ρ2 Z2 _ (q2.tr g4 (fun x hx _ => by
        rcases List.mem_cons.mp hx with e | hx
        · rw [e, ← oc]; exact Or.inl (ndl_kid (List.mem_of_getElem? hcc) (ndl_top c))
        · rw [List.mem_singleton.mp hx]; exact olda) (fun x hx => (al.1 _ (ht x hx)).1)) R9 ((w1.tr q5).tr (f4.wy q6 (by decide))))
  have c2 : ∀ (X B : List (Tr h)) (a : Tr h) (x5 : Int32), kds T = X ++ c :: a :: B → lea w < a.2.2.length → (∀ (ρ2 : Nat → Nat) (Z2 : List Nat × Nat) (S2 : aw_S), GM S S2 m ρ ρ2 u (edt tk u a).2 Z Z2 tk (ndl (h + 1) T) → RepM S2 m ρ2 (h + 1) (nod T.1 T.2.1 (X ++ (c.1, c.2.1, c.2.2 ++ a.2.2.take 1) :: ((edt tk u a).1.1, tk, a.2.2.drop 1) :: B)) → wyS S S2 m → PO none S2) → aw g 8 S 0 0 [(6, .int (nI (ρ a.1))), (5, .int x5), (4, .int (nI (ρ c.1))), (3, .int (nI (tk + 1))), (2, .int (nI (X.length))), (1, .int (nI (ρ T.1))), (0, .ref (m 33))] [] 168 := by
    intro X B a x5 hK hla fin
    have hK9 : (kds T).length = (X ++ c :: a :: B).length := by rw [hK]
    rw [List.length_append, List.length_cons, List.length_cons] at hK9
    have hca : (kds T)[X.length + 1]? = some a := by rw [hK]; exact gt_mid1 _ _ _ _
    have hcc : (kds T)[X.length]? = some c := by rw [hK]; exact gt_mid _ _ _
    have haw := hA a (List.mem_of_getElem? hca)
    first | refine a_aload_n K dX11_fills_168 rfl ?_ | refine a_aload_nN K dX11_fills_168 rfl ?_
    refine a_iload K dX11_fills_169 rfl ?_
    refine a_iload_n K dX11_fills_171 rfl ?_
    refine a_invV K (q_edited hM (rp.kid hca).1 hF nd (tk := tk) (u := u) (by omega) (fun x hx => al.1 _ (ht x (ndl_kid (List.mem_of_getElem? hca) hx))) htk (ht9 _ (ndl_kid (List.mem_of_getElem? hca) (ndl_top a)))) my_X11_edited ml_X11_212 im_X11_edited se_X11_edited (ci := 11) (by exact lm_o hM) (by decide) ⟨_, _, rfl⟩ rfl (by omega) (by omega) (by omega) rfl (Nat.le_of_ble_eq_true rfl) dX11_fills_172 ?_
    intro r9 S9 hp9
    obtain ⟨ρ2, Z2, rfl, g1, r1, w1⟩ := hp9
    have hM9 := g1.lay hM
    have hM0 := hM
    have hM := hM9
    refine a_istore K dX11_fills_175 (by decide) ?_
    first | refine a_aload_n K dX11_fills_177 rfl ?_ | refine a_aload_nN K dX11_fills_177 rfl ?_
    refine a_getRs K fd_X11_39 (by exact lm_o hM) (Or.inr ⟨_, rfl⟩) (by exact lm_r719 hM) dX11_fills_178 ?_
    refine a_bipush K dX11_fills_181 (v := 7) (by decide) ?_
    refine a_iload_n K dX11_fills_183 rfl ?_
    refine a_imul K dX11_fills_184 ?_
    rw [nI_7]
    refine a_iload_n K dX11_fills_185 rfl ?_
    refine a_iadd K dX11_fills_186 ?_
    rw [nI_add]
    refine a_iconst K dX11_fills_187 (v := 1) (by decide) ?_
    refine a_iadd K dX11_fills_188 ?_
    rw [nI_1]
    refine a_iload K dX11_fills_189 rfl ?_
    refine a_iast K (by exact lm_kk hM (by decide) (by decide)) (by show vp_in _ (sN S9 (m 9)); exact lm_ix (z := 84000) hM (by decide) (by decide) (show 7 * ρ T.1 + X.length + 1 < 84000 by omega) (by decide)) dX11_fills_191 ?_
    rw [nI_clamp (by omega)]
    obtain ⟨T2, hT2⟩ : ∃ T2, T2 = wA S9 (m 9) (7 * ρ T.1 + X.length + 1) (nI (ρ2 (edt tk u a).1.1)) := ⟨_, rfl⟩
    rw [← hT2]
    obtain ⟨q1, q2, q3, q4, q5, q6, q7⟩ := ed_step hM0 hM9 rp al ht b oT hca g1 r1 hT2
    rw [show (kds T).set (X.length + 1) (edt tk u a).1 = X ++ c :: (edt tk u a).1 :: B from by rw [hK]; exact set_mid1 _ _ _ _ _] at q1 q3 q4
    have a2 := g1.al al
    have hM := q6
    have ow2 := edt_own2 (tk := tk) (u := u) (t := a)
    generalize hA1 : (edt tk u a).1 = a1 at *
    have la1 : a1.2.2 = a.2.2 := by rw [ow2]
    have oa1 : a1.2.1 = tk := by rw [ow2]
    have rc := q1.2 c (show c ∈ X ++ c :: a1 :: B by simp)
    have ra := q1.2 a1 (show a1 ∈ X ++ c :: a1 :: B by simp)
    obtain ⟨lc, wc, xc⟩ := rc.own.raw
    obtain ⟨la, wa, xa⟩ := ra.own.raw
    have nc := rawM_len xc
    have na := rawM_len xa
    rw [la1] at na
    have hr2 := rc.own.1
    have hr3 := ra.own.1
    have hcd := mids q3
    have pin : ∀ d ∈ X ++ c :: a1 :: B, PN P u (edt tk u a).2 d.1 := fun d hd => q4 _ (List.mem_cons_of_mem _ (List.mem_flatMap.mpr ⟨d, hd, ndl_top d⟩))
    have pc9 := pin c (by simp)
    have pa9 := pin a1 (by simp)
    have ne12 : ρ2 c.1 ≠ ρ2 a1.1 := fun e => hcd.1 _ (ndl_top c) _ (ndl_top a1) (a2.2 _ _ pc9 pa9 e)
    have hfst := List.getElem?_eq_getElem (show 0 < la.length by omega)
    have efst := wa.2 _ _ hfst
    have olda : (a1.1, tk) ∈ ndl (h + 1) T ∨ (u ≤ a1.1 ∧ a1.1 < (edt tk u a).2) := by
      rcases (edt_gru (tk := tk) (u := u) (kid_bdd hca b)).1.2.1 _ (ndl_top (edt tk u a).1) with z | z
      · refine Or.inl ?_
        rw [hA1, oa1] at z
        exact ndl_kid (List.mem_of_getElem? hca) z
      · rw [hA1] at z
        exact Or.inr ⟨z.1, z.2.1⟩
    have erc : ρ2 c.1 = ρ c.1 := g1.2.1 _ (al.1 _ (ht _ (ndl_kid (List.mem_of_getElem? hcc) (ndl_top c)))).1
    rw [show nI (ρ c.1) = nI (ρ2 c.1) from congrArg nI erc.symm]
    first | refine a_aload_n K dX11_fills_192 rfl ?_ | refine a_aload_nN K dX11_fills_192 rfl ?_
    refine a_iload K dX11_fills_193 rfl ?_
    first | refine a_aload_n K dX11_fills_195 rfl ?_ | refine a_aload_nN K dX11_fills_195 rfl ?_
    refine a_getRs K fd_X11_26 (by exact lm_o hM) (Or.inr ⟨_, rfl⟩) (by exact lm_r715 hM) dX11_fills_196 ?_
    refine a_iload K dX11_fills_199 rfl ?_
    refine a_iald K (by exact lm_kk hM (by decide) (by decide)) (by show vp_in _ (sN T2 (m 5)); exact lm_ix (z := 12000) hM (by decide) (by decide) (show ρ2 c.1 < 12000 by omega) (by decide)) dX11_fills_201 ?_
    rw [nI_clamp (by omega)]
    rw [show sA T2 (m 5) (ρ2 c.1) = nI lc.length from wc.1]
    first | refine a_aload_n K dX11_fills_202 rfl ?_ | refine a_aload_nN K dX11_fills_202 rfl ?_
    refine a_getRs K fd_X11_39 (by exact lm_o hM) (Or.inr ⟨_, rfl⟩) (by exact lm_r719 hM) dX11_fills_203 ?_
    refine a_bipush K dX11_fills_206 (v := 7) (by decide) ?_
    refine a_iload K dX11_fills_208 rfl ?_
    refine a_imul K dX11_fills_210 ?_
    rw [nI_7]
    refine a_iald K (by exact lm_kk hM (by decide) (by decide)) (by show vp_in _ (sN T2 (m 9)); exact lm_ix (z := 84000) hM (by decide) (by decide) (show 7 * ρ2 a1.1 < 84000 by omega) (by decide)) dX11_fills_211 ?_
    rw [nI_clamp (by omega)]
    first | refine a_aload_n K dX11_fills_212 rfl ?_ | refine a_aload_nN K dX11_fills_212 rfl ?_
    refine a_getRs K fd_X11_42 (by exact lm_o hM) (Or.inr ⟨_, rfl⟩) (by exact lm_r720 hM) dX11_fills_213 ?_
    refine a_bipush K dX11_fills_216 (v := 7) (by decide) ?_
    refine a_iload K dX11_fills_218 rfl ?_
    refine a_imul K dX11_fills_220 ?_
    rw [nI_7]
    refine a_iald K (by exact lm_kk hM (by decide) (by decide)) (by show vp_in _ (sN T2 (m 10)); exact lm_ix (z := 84000) hM (by decide) (by decide) (show 7 * ρ2 a1.1 < 84000 by omega) (by decide)) dX11_fills_221 ?_
    rw [nI_clamp (by omega)]
    refine a_invV K (m_putsIn hM (r := ρ2 c.1) (k := lc.length) hr2 wc (by omega) (Nat.le_refl _)) my_X11_putsIn ml_X11_225 im_X11_putsIn se_X11_putsIn (ci := 11) (by exact lm_o hM) (by decide) ⟨_, _, rfl⟩ rfl (by omega) (by omega) (by omega) rfl (Nat.le_of_ble_eq_true rfl) dX11_fills_222 ?_
    intro r9 S3 hp9
    obtain ⟨rfl, wc3, gl3, gt3, f3⟩ := hp9
    have hM := f3.1.lay hM
    have oa := f3.2 (ρ2 a1.1) hr3 (fun e => ne12 e.symm)
    have l7 : a1.2.2.length ≤ 7 := ra.own.2.2.2.2.1
    rw [la1] at l7
    have wa3 : RwM S3 m (ρ2 a1.1) la := ⟨oa.2.1.trans wa.1, fun k x hx => by
      rw [oa.2.2.2 k (by have := (List.getElem?_eq_some_iff.mp hx).1; omega)]
      exact wa.2 k x hx⟩
    first | refine a_aload_n K dX11_fills_225 rfl ?_ | refine a_aload_nN K dX11_fills_225 rfl ?_
    refine a_iload K dX11_fills_226 rfl ?_
    refine a_iconst K dX11_fills_228 (v := 0) (by decide) ?_
    rw [show (0 : Int32) = nI 0 from nI_0.symm]
    refine a_invV K (m_takesFrom hM (r := ρ2 a1.1) (k := 0) hr3 wa3 (by omega) (by omega)) my_X11_takesFrom ml_X11_235 im_X11_takesFrom se_X11_takesFrom (ci := 11) (by exact lm_o hM) (by decide) ⟨_, _, rfl⟩ rfl (by omega) (by omega) (by omega) rfl (Nat.le_of_ble_eq_true rfl) dX11_fills_229 ?_
    intro r9 S4 hp9
    obtain ⟨rfl, wa4, gl4, gt4, f4⟩ := hp9
    refine a_goto K dX11_fills_232 (tgt := 402) (by decide) ?_
    exact a_vret K EE (by omega) (by omega) dX11_fills_402 (by
      have oc4 := f4.2 (ρ2 c.1) hr2 ne12
      have f5 := (f3.up (R2 := fun q => q = ρ2 c.1 ∨ q = ρ2 a1.1) (fun q z => Or.inl z) (fun _ z => z)).tr (f4.up (R2 := fun q => q = ρ2 c.1 ∨ q = ρ2 a1.1) (fun q z => Or.inr z) (fun _ z => z))
      have g4 : GM T2 S4 m ρ2 ρ2 (edt tk u a).2 (edt tk u a).2 Z2 Z2 tk [(c.1, tk), (a1.1, tk)] := GM_rows q6 q2.F.1 q2.F.2.1 f5 (fun q z => z.elim (fun e => ⟨c.1, List.mem_cons_self, e⟩) (fun e => ⟨a1.1, List.mem_cons_of_mem _ List.mem_cons_self, e⟩))
      have wa5 : RwM S4 m (ρ2 a1.1) (la.drop 1) := by
        have e9 : la.take 0 ++ la.drop (0 + 1) = la.drop 1 := by rw [List.take_zero, List.nil_append]
        exact e9 ▸ wa4
      have wc5 : RwM S4 m (ρ2 c.1) (lc ++ la.take 1) := by
        rw [take_1 hfst]
        have e9 : lc.take lc.length ++ (sA T2 (m 9) (7 * ρ2 a1.1), sA T2 (m 10) (7 * ρ2 a1.1)) :: lc.drop lc.length = lc ++ [la[0]] := by
          rw [app_last]
          exact congrArg (fun q => lc ++ [q]) efst
        have wc4 : RwM S3 m (ρ2 c.1) (lc ++ [la[0]]) := e9 ▸ wc3
        have hl9 : (lc ++ [la[0]]).length ≤ 7 := by rw [List.length_append, List.length_singleton]; omega
        exact ⟨by rw [oc4.2.1]; exact wc4.1, fun k x hx => by
          rw [oc4.2.2.2 k (by have := (List.getElem?_eq_some_iff.mp hx).1; omega)]
          exact wc4.2 k x hx⟩
      have R9 := fill2 (i := T.1) (tk := T.2.1) (A0 := X) (B0 := B) (p := c) (q := a1) (Lp := c.2.2 ++ a.2.2.take 1) (Lq := a.2.2.drop 1) a2 q1 q4 q3 f5.2 wc5 (by have := rawM_app xc (rawM_td xa 1).1; rw [la1] at this; exact this) wa5 (by have := (rawM_td xa 1).2; rw [la1] at this; exact this) ⟨oc4.1.trans gl3, oc4.2.2.1.trans gt3⟩ ⟨gl4.trans oa.1, gt4.trans oa.2.2.1⟩ (by rw [List.length_append, List.length_take]; omega) (by rw [List.length_drop]; omega) (KdM_app.mpr ⟨rc.kd, by have := (KdM_td ra.kd 1).1; rw [la1] at this; exact this⟩) (by have := (KdM_td ra.kd 1).2; rw [la1] at this; exact this) (fun x hx => by rw [blw_app] at hx; exact (List.mem_append.mp hx).elim Or.inl (fun z => Or.inr (by rw [la1]; exact (blw_td _).1 x z))) (fun x hx => Or.inr (by rw [la1]; exact (blw_td _).2 x hx))
      rw [oa1] at R9
      exact fin ρ2 Z2 _ (q2.tr g4 (fun x hx _ => by
        rcases List.mem_cons.mp hx with e | hx
        · rw [e, ← oc]; exact Or.inl (ndl_kid (List.mem_of_getElem? hcc) (ndl_top c))
        · rw [List.mem_singleton.mp hx]; exact olda) (fun x hx => (al.1 _ (ht x hx)).1)) R9 ((w1.tr q5).tr (f5.wy q6 (by decide))))
  have c3 : ∀ (X B : List (Tr h)) (a : Tr h) (x6 : Int32), kds T = X ++ a :: c :: B → ¬ lea w < a.2.2.length → (∀ (ρ2 : Nat → Nat) (Z2 : List Nat × Nat) (S2 : aw_S), GM S S2 m ρ ρ2 u (edt tk u a).2 Z Z2 tk (ndl (h + 1) T) → RepM S2 m ρ2 (h + 1) (nod T.1 T.2.1 (X ++ ((edt tk u a).1.1, tk, a.2.2 ++ c.2.2) :: B)) → wyS S S2 m → PO none S2) → aw g 8 S 0 0 [(6, .int x6), (5, .int (nI (ρ a.1))), (4, .int (nI (ρ c.1))), (3, .int (nI (tk + 1))), (2, .int (nI (X.length + 1))), (1, .int (nI (ρ T.1))), (0, .ref (m 33))] [] 241 := by
    intro X B a x6 hK hla fin
    have hK9 : (kds T).length = (X ++ a :: c :: B).length := by rw [hK]
    rw [List.length_append, List.length_cons, List.length_cons] at hK9
    have hca : (kds T)[X.length]? = some a := by rw [hK]; exact gt_mid _ _ _
    have hcc : (kds T)[X.length + 1]? = some c := by rw [hK]; exact gt_mid1 _ _ _ _
    have haw := hA a (List.mem_of_getElem? hca)
    first | refine a_aload_n K dX11_fills_241 rfl ?_ | refine a_aload_nN K dX11_fills_241 rfl ?_
    refine a_iload K dX11_fills_242 rfl ?_
    refine a_iload_n K dX11_fills_244 rfl ?_
    refine a_invV K (q_edited hM (rp.kid hca).1 hF nd (tk := tk) (u := u) (by omega) (fun x hx => al.1 _ (ht x (ndl_kid (List.mem_of_getElem? hca) hx))) htk (ht9 _ (ndl_kid (List.mem_of_getElem? hca) (ndl_top a)))) my_X11_edited ml_X11_212 im_X11_edited se_X11_edited (ci := 11) (by exact lm_o hM) (by decide) ⟨_, _, rfl⟩ rfl (by omega) (by omega) (by omega) rfl (Nat.le_of_ble_eq_true rfl) dX11_fills_245 ?_
    intro r9 S9 hp9
    obtain ⟨ρ2, Z2, rfl, g1, r1, w1⟩ := hp9
    have hM9 := g1.lay hM
    have hM0 := hM
    have hM := hM9
    refine a_istore K dX11_fills_248 (by decide) ?_
    first | refine a_aload_n K dX11_fills_250 rfl ?_ | refine a_aload_nN K dX11_fills_250 rfl ?_
    refine a_getRs K fd_X11_39 (by exact lm_o hM) (Or.inr ⟨_, rfl⟩) (by exact lm_r719 hM) dX11_fills_251 ?_
    refine a_bipush K dX11_fills_254 (v := 7) (by decide) ?_
    refine a_iload_n K dX11_fills_256 rfl ?_
    refine a_imul K dX11_fills_257 ?_
    rw [nI_7]
    refine a_iload_n K dX11_fills_258 rfl ?_
    refine a_iadd K dX11_fills_259 ?_
    rw [nI_add]
    refine a_iconst K dX11_fills_260 (v := 1) (by decide) ?_
    refine a_isub K dX11_fills_261 ?_
    rw [show nI (7 * ρ T.1 + (X.length + 1)) - 1 = nI (7 * ρ T.1 + X.length) from nI_pred _]
    refine a_iload K dX11_fills_262 rfl ?_
    refine a_iast K (by exact lm_kk hM (by decide) (by decide)) (by show vp_in _ (sN S9 (m 9)); exact lm_ix (z := 84000) hM (by decide) (by decide) (show 7 * ρ T.1 + X.length < 84000 by omega) (by decide)) dX11_fills_264 ?_
    rw [nI_clamp (by omega)]
    obtain ⟨T2, hT2⟩ : ∃ T2, T2 = wA S9 (m 9) (7 * ρ T.1 + X.length) (nI (ρ2 (edt tk u a).1.1)) := ⟨_, rfl⟩
    rw [← hT2]
    obtain ⟨q1, q2, q3, q4, q5, q6, q7⟩ := ed_step hM0 hM9 rp al ht b oT hca g1 r1 hT2
    rw [show (kds T).set (X.length) (edt tk u a).1 = X ++ (edt tk u a).1 :: c :: B from by rw [hK]; exact set_mid _ _ _ _] at q1 q3 q4
    have a2 := g1.al al
    have hM := q6
    have ow2 := edt_own2 (tk := tk) (u := u) (t := a)
    generalize hA1 : (edt tk u a).1 = a1 at *
    have la1 : a1.2.2 = a.2.2 := by rw [ow2]
    have oa1 : a1.2.1 = tk := by rw [ow2]
    have rc := q1.2 c (show c ∈ X ++ a1 :: c :: B by simp)
    have ra := q1.2 a1 (show a1 ∈ X ++ a1 :: c :: B by simp)
    obtain ⟨lc, wc, xc⟩ := rc.own.raw
    obtain ⟨la, wa, xa⟩ := ra.own.raw
    have nc := rawM_len xc
    have na := rawM_len xa
    rw [la1] at na
    have hr2 := rc.own.1
    have hr3 := ra.own.1
    have hcd := mids q3
    have pin : ∀ d ∈ X ++ a1 :: c :: B, PN P u (edt tk u a).2 d.1 := fun d hd => q4 _ (List.mem_cons_of_mem _ (List.mem_flatMap.mpr ⟨d, hd, ndl_top d⟩))
    have pc9 := pin c (by simp)
    have pa9 := pin a1 (by simp)
    have ne12 : ρ2 c.1 ≠ ρ2 a1.1 := fun e => hcd.1 _ (ndl_top a1) _ (ndl_top c) (a2.2 _ _ pc9 pa9 e).symm
    have ptop := q4 _ (ndl_top (nod T.1 T.2.1 (X ++ a1 :: c :: B)))
    have neT : ρ2 T.1 ≠ ρ2 a1.1 := fun e => hcd.2.2.2.2 _ (List.mem_flatMap.mpr ⟨a1, by simp, ndl_top a1⟩) (a2.2 _ _ ptop pa9 e).symm
    obtain ⟨ln, wn, xn⟩ := q1.1.raw
    have nn := rawM_len xn
    have nn : ln.length = (X ++ a1 :: c :: B).length := nn
    have hrT := q1.1.1
    have hrT : ρ2 T.1 < 12000 := hrT
    have olda : (a1.1, tk) ∈ ndl (h + 1) T ∨ (u ≤ a1.1 ∧ a1.1 < (edt tk u a).2) := by
      rcases (edt_gru (tk := tk) (u := u) (kid_bdd hca b)).1.2.1 _ (ndl_top (edt tk u a).1) with z | z
      · refine Or.inl ?_
        rw [hA1, oa1] at z
        exact ndl_kid (List.mem_of_getElem? hca) z
      · rw [hA1] at z
        exact Or.inr ⟨z.1, z.2.1⟩
    have erc : ρ2 c.1 = ρ c.1 := g1.2.1 _ (al.1 _ (ht _ (ndl_kid (List.mem_of_getElem? hcc) (ndl_top c)))).1
    rw [erc] at hr2 wc ne12
    have inl : ∀ (n i : Nat) (x : Int32) (V : aw_S), x = nI i → i + n = lc.length → LM V m → frR T2 V m (fun q => q = ρ2 a1.1) [] → RwM V m (ρ2 a1.1) (la ++ lc.take i) → gL V m (ρ2 a1.1) = gL T2 m (ρ2 a1.1) → gT V m (ρ2 a1.1) = gT T2 m (ρ2 a1.1) → aw g 8 V 0 0 [(7, .int x), (5, .int (nI (ρ2 a1.1))), (4, .int (nI (ρ c.1))), (3, .int (nI (tk + 1))), (2, .int (nI (X.length + 1))), (1, .int (nI (ρ T.1))), (0, .ref (m 33))] [] 268 := by
      intro n
      induction n with
      | zero =>
        intro i x V hx hn hM fV wV glV gtV
        subst hx
        have oc9 := fV.2 (ρ c.1) hr2 ne12
        have hgc : gN V m (ρ c.1) = nI lc.length := oc9.2.1.trans wc.1
        refine a_iload K dX11_fills_268 rfl ?_
        first | refine a_aload_n K dX11_fills_270 rfl ?_ | refine a_aload_nN K dX11_fills_270 rfl ?_
        refine a_getRs K fd_X11_26 (by exact lm_o hM) (Or.inr ⟨_, rfl⟩) (by exact lm_r715 hM) dX11_fills_271 ?_
        refine a_iload K dX11_fills_274 rfl ?_
        refine a_iald K (by exact lm_kk hM (by decide) (by decide)) (by show vp_in _ (sN V (m 5)); exact lm_ix (z := 12000) hM (by decide) (by decide) (show ρ c.1 < 12000 by omega) (by decide)) dX11_fills_276 ?_
        rw [nI_clamp (by omega)]
        rw [show sA V (m 5) (ρ c.1) = nI lc.length from hgc]
        refine a_icmp_ge K dX11_fills_277 (tgt := 325) (by decide) (fun c_277 => ?_) (fun c_277 => absurd c_277 (fun z => z (nI_le (a := lc.length) (b := i) (by omega) (by omega))))
        first | refine a_aload_n K dX11_fills_325 rfl ?_ | refine a_aload_nN K dX11_fills_325 rfl ?_
        refine a_iload_n K dX11_fills_326 rfl ?_
        refine a_iload_n K dX11_fills_327 rfl ?_
        have oT9 := fV.2 (ρ2 T.1) hrT neT
        have hn7 : (X ++ a1 :: c :: B).length ≤ 7 := q1.1.2.2.2.2.1
        have wn3 : RwM V m (ρ2 T.1) ln := ⟨oT9.2.1.trans wn.1, fun k x hx => by
          rw [oT9.2.2.2 k (by have := (List.getElem?_eq_some_iff.mp hx).1; omega)]
          exact wn.2 k x hx⟩
        rw [← q7]
        refine a_invV K (m_takesFrom hM (r := ρ2 T.1) (k := X.length + 1) hrT wn3 (by rw [nn, List.length_append, List.length_cons, List.length_cons]; omega) (by rw [nn, List.length_append, List.length_cons, List.length_cons]; omega)) my_X11_takesFrom ml_X11_235 im_X11_takesFrom se_X11_takesFrom (ci := 11) (by exact lm_o hM) (by decide) ⟨_, _, rfl⟩ rfl (by omega) (by omega) (by omega) rfl (Nat.le_of_ble_eq_true rfl) dX11_fills_328 ?_
        intro r9 S4 hp9
        obtain ⟨rfl, wn4, gl4, gt4, f4⟩ := hp9
        refine a_goto K dX11_fills_331 (tgt := 402) (by decide) ?_
        exact a_vret K EE (by omega) (by omega) dX11_fills_402 (by
          have op4 := f4.2 (ρ2 a1.1) hr3 (fun e => neT e.symm)
          have f5 := (fV.up (R2 := fun q => q = ρ2 a1.1 ∨ q = ρ2 T.1) (fun q z => Or.inl z) (fun _ z => z)).tr (f4.up (R2 := fun q => q = ρ2 a1.1 ∨ q = ρ2 T.1) (fun q z => Or.inr z) (fun _ z => z))
          have g4 : GM T2 S4 m ρ2 ρ2 (edt tk u a).2 (edt tk u a).2 Z2 Z2 tk [(T.1, tk), (a1.1, tk)] := GM_rows q6 q2.F.1 q2.F.2.1 f5 (fun q z => z.elim (fun e => ⟨a1.1, List.mem_cons_of_mem _ List.mem_cons_self, e⟩) (fun e => ⟨T.1, List.mem_cons_self, e⟩))
          have wp5 : RwM S4 m (ρ2 a1.1) (la ++ lc) := by
            have hl9 : (la ++ lc).length ≤ 7 := by rw [List.length_append]; omega
            rw [show i = lc.length by omega, List.take_length] at wV
            exact ⟨by rw [op4.2.1]; exact wV.1, fun k x hx => by
              rw [op4.2.2.2 k (by have := (List.getElem?_eq_some_iff.mp hx).1; omega)]
              exact wV.2 k x hx⟩
          have xn9 := rawM_del xn (X.length + 1)
          have xn9 : rawM ρ2 (h + 1) ((X ++ a1 :: c :: B).take (X.length + 1) ++ (X ++ a1 :: c :: B).drop (X.length + 1 + 1)) (ln.take (X.length + 1) ++ ln.drop (X.length + 1 + 1)) := xn9
          rw [del_mid] at xn9
          have R9 := fill3 (i := T.1) (tk := T.2.1) (A0 := X) (B0 := B) (p := a1) (q := c) a2 q1 q4 q3 f5.2 wp5 (rawM_app xa xc) wn4 xn9 ⟨op4.1.trans glV, op4.2.2.1.trans gtV⟩ ⟨gl4.trans oT9.1, gt4.trans oT9.2.2.1⟩ (by rw [la1]; omega)
          rw [oa1, la1] at R9
          exact fin ρ2 Z2 _ (q2.tr g4 (fun x hx _ => by
            rcases List.mem_cons.mp hx with e | hx
            · rw [e, ← oT]; exact Or.inl (ndl_top T)
            · rw [List.mem_singleton.mp hx]; exact olda) (fun x hx => (al.1 _ (ht x hx)).1)) R9 ((w1.tr q5).tr (f5.wy q6 (by decide))))
      | succ n ih =>
        intro i x V hx hn hM fV wV glV gtV
        subst hx
        have oc9 := fV.2 (ρ c.1) hr2 ne12
        have hgc : gN V m (ρ c.1) = nI lc.length := oc9.2.1.trans wc.1
        refine a_iload K dX11_fills_268 rfl ?_
        first | refine a_aload_n K dX11_fills_270 rfl ?_ | refine a_aload_nN K dX11_fills_270 rfl ?_
        refine a_getRs K fd_X11_26 (by exact lm_o hM) (Or.inr ⟨_, rfl⟩) (by exact lm_r715 hM) dX11_fills_271 ?_
        refine a_iload K dX11_fills_274 rfl ?_
        refine a_iald K (by exact lm_kk hM (by decide) (by decide)) (by show vp_in _ (sN V (m 5)); exact lm_ix (z := 12000) hM (by decide) (by decide) (show ρ c.1 < 12000 by omega) (by decide)) dX11_fills_276 ?_
        rw [nI_clamp (by omega)]
        rw [show sA V (m 5) (ρ c.1) = nI lc.length from hgc]
        refine a_icmp_ge K dX11_fills_277 (tgt := 325) (by decide) (fun c_277 => absurd c_277 (nI_ge (a := i) (b := lc.length) (by omega) (by omega))) (fun c_277 => ?_)
        first | refine a_aload_n K dX11_fills_280 rfl ?_ | refine a_aload_nN K dX11_fills_280 rfl ?_
        refine a_iload K dX11_fills_281 rfl ?_
        first | refine a_aload_n K dX11_fills_283 rfl ?_ | refine a_aload_nN K dX11_fills_283 rfl ?_
        refine a_getRs K fd_X11_26 (by exact lm_o hM) (Or.inr ⟨_, rfl⟩) (by exact lm_r715 hM) dX11_fills_284 ?_
        refine a_iload K dX11_fills_287 rfl ?_
        refine a_iald K (by exact lm_kk hM (by decide) (by decide)) (by show vp_in _ (sN V (m 5)); exact lm_ix (z := 12000) hM (by decide) (by decide) (show ρ2 a1.1 < 12000 by omega) (by decide)) dX11_fills_289 ?_
        rw [nI_clamp (by omega)]
        rw [show sA V (m 5) (ρ2 a1.1) = nI (la ++ lc.take i).length from wV.1]
        first | refine a_aload_n K dX11_fills_290 rfl ?_ | refine a_aload_nN K dX11_fills_290 rfl ?_
        refine a_getRs K fd_X11_39 (by exact lm_o hM) (Or.inr ⟨_, rfl⟩) (by exact lm_r719 hM) dX11_fills_291 ?_
        refine a_bipush K dX11_fills_294 (v := 7) (by decide) ?_
        refine a_iload K dX11_fills_296 rfl ?_
        refine a_imul K dX11_fills_298 ?_
        rw [nI_7]
        refine a_iload K dX11_fills_299 rfl ?_
        refine a_iadd K dX11_fills_301 ?_
        rw [nI_add]
        refine a_iald K (by exact lm_kk hM (by decide) (by decide)) (by show vp_in _ (sN V (m 9)); exact lm_ix (z := 84000) hM (by decide) (by decide) (show 7 * ρ c.1 + i < 84000 by omega) (by decide)) dX11_fills_302 ?_
        rw [nI_clamp (by omega)]
        first | refine a_aload_n K dX11_fills_303 rfl ?_ | refine a_aload_nN K dX11_fills_303 rfl ?_
        refine a_getRs K fd_X11_42 (by exact lm_o hM) (Or.inr ⟨_, rfl⟩) (by exact lm_r720 hM) dX11_fills_304 ?_
        refine a_bipush K dX11_fills_307 (v := 7) (by decide) ?_
        refine a_iload K dX11_fills_309 rfl ?_
        refine a_imul K dX11_fills_311 ?_
        rw [nI_7]
        refine a_iload K dX11_fills_312 rfl ?_
        refine a_iadd K dX11_fills_314 ?_
        rw [nI_add]
        refine a_iald K (by exact lm_kk hM (by decide) (by decide)) (by show vp_in _ (sN V (m 10)); exact lm_ix (z := 84000) hM (by decide) (by decide) (show 7 * ρ c.1 + i < 84000 by omega) (by decide)) dX11_fills_315 ?_
        rw [nI_clamp (by omega)]
        refine a_invV K (m_putsIn hM (r := ρ2 a1.1) (k := (la ++ lc.take i).length) (l := la ++ lc.take i) hr3 wV (by rw [List.length_append, List.length_take]; omega) (Nat.le_refl _)) my_X11_putsIn ml_X11_225 im_X11_putsIn se_X11_putsIn (ci := 11) (by exact lm_o hM) (by decide) ⟨_, _, rfl⟩ rfl (by omega) (by omega) (by omega) rfl (Nat.le_of_ble_eq_true rfl) dX11_fills_316 ?_
        intro r9 V2 hp9
        obtain ⟨rfl, wV2, glV2, gtV2, fV2⟩ := hp9
        refine a_iinc K dX11_fills_319 (v := 1) rfl (by decide) (by decide) ?_
        refine a_goto K dX11_fills_322 (tgt := 268) (by decide) ?_
        have hx9 := List.getElem?_eq_getElem (show i < lc.length by omega)
        have ey : eM V m (ρ c.1) i = lc[i] := (oc9.2.2.2 i (by omega)).trans (wc.2 _ _ hx9)
        have e9 : (la ++ lc.take i).take (la ++ lc.take i).length ++ (sA V (m 9) (7 * ρ c.1 + i), sA V (m 10) (7 * ρ c.1 + i)) :: (la ++ lc.take i).drop (la ++ lc.take i).length = la ++ lc.take (i + 1) := by
          rw [app_last, take_i hx9, ← List.append_assoc]
          exact congrArg (fun q => la ++ lc.take i ++ [q]) ey
        exact aw_locl rfl (ih (i + 1) _ V2 (nI_1 i) (by omega) (fV2.1.lay hM) (fV.tr fV2) (e9 ▸ wV2) (glV2.trans glV) (gtV2.trans gtV))
    refine a_iconst K dX11_fills_265 (v := 0) (by decide) ?_
    refine a_istore K dX11_fills_266 (by decide) ?_
    exact aw_locl rfl (inl lc.length 0 _ T2 nI_0.symm (by omega) hM frR.rf (by rw [List.take_zero, List.append_nil]; exact wa) rfl rfl)
  have c4 : ∀ (B : List (Tr h)) (a : Tr h) (x5 : Int32), kds T = c :: a :: B → ¬ lea w < a.2.2.length → (∀ (ρ2 : Nat → Nat) (Z2 : List Nat × Nat) (S2 : aw_S), GM S S2 m ρ ρ2 u u Z Z2 tk (ndl (h + 1) T) → RepM S2 m ρ2 (h + 1) (nod T.1 T.2.1 ((c.1, c.2.1, c.2.2 ++ a.2.2) :: B)) → wyS S S2 m → PO none S2) → aw g 8 S 0 0 [(6, .int (nI (ρ a.1))), (5, .int x5), (4, .int (nI (ρ c.1))), (3, .int (nI (tk + 1))), (2, .int (nI (0))), (1, .int (nI (ρ T.1))), (0, .ref (m 33))] [] 334 := by
    intro B a x5 hK hla fin
    have hK9 : (kds T).length = (c :: a :: B).length := by rw [hK]
    rw [List.length_cons, List.length_cons] at hK9
    have hca : (kds T)[1]? = some a := by rw [hK]; rfl
    have hcc : (kds T)[0]? = some c := by rw [hK]; rfl
    have haw := hA a (List.mem_of_getElem? hca)
    have eT : T = nod T.1 T.2.1 ([] ++ c :: a :: B) := by
      show T = (T.1, T.2.1, c :: a :: B)
      rw [← hK]; rfl
    have q1 := rp
    have q3 := b
    have q4 := ht
    rw [eT] at q1 q3 q4
    have rc := rp.2 c (List.mem_of_getElem? hcc)
    have ra := rp.2 a (List.mem_of_getElem? hca)
    obtain ⟨lc, wc, xc⟩ := rc.own.raw
    obtain ⟨la, wa, xa⟩ := ra.own.raw
    have nc := rawM_len xc
    have na := rawM_len xa
    have hr2 := rc.own.1
    have hr3 := ra.own.1
    have hcd := mids q3
    have pc9 := ht _ (ndl_kid (List.mem_of_getElem? hcc) (ndl_top c))
    have pa9 := ht _ (ndl_kid (List.mem_of_getElem? hca) (ndl_top a))
    have ptop := ht _ (ndl_top T)
    have ne12 : ρ a.1 ≠ ρ c.1 := fun e => hcd.1 _ (ndl_top c) _ (ndl_top a) (al.2 _ _ pa9 pc9 e).symm
    have neT : ρ T.1 ≠ ρ c.1 := fun e => hcd.2.2.2.2 _ (List.mem_flatMap.mpr ⟨c, by simp, ndl_top c⟩) (al.2 _ _ ptop pc9 e).symm
    obtain ⟨ln, wn, xn⟩ := rp.1.raw
    have nn := rawM_len xn
    have nn : ln.length = (kds T).length := nn
    have hM0 := hM
    have inl : ∀ (n i : Nat) (x : Int32) (V : aw_S), x = nI i → i + n = la.length → LM V m → frR S V m (fun q => q = ρ c.1) [] → RwM V m (ρ c.1) (lc ++ la.take i) → gL V m (ρ c.1) = gL S m (ρ c.1) → gT V m (ρ c.1) = gT S m (ρ c.1) → aw g 8 V 0 0 [(7, .int x), (6, .int (nI (ρ a.1))), (4, .int (nI (ρ c.1))), (3, .int (nI (tk + 1))), (2, .int (nI 0)), (1, .int (nI (ρ T.1))), (0, .ref (m 33))] [] 337 := by
      intro n
      induction n with
      | zero =>
        intro i x V hx hn hM fV wV glV gtV
        subst hx
        have oc9 := fV.2 (ρ a.1) hr3 ne12
        have hgc : gN V m (ρ a.1) = nI la.length := oc9.2.1.trans wa.1
        refine a_iload K dX11_fills_337 rfl ?_
        first | refine a_aload_n K dX11_fills_339 rfl ?_ | refine a_aload_nN K dX11_fills_339 rfl ?_
        refine a_getRs K fd_X11_26 (by exact lm_o hM) (Or.inr ⟨_, rfl⟩) (by exact lm_r715 hM) dX11_fills_340 ?_
        refine a_iload K dX11_fills_343 rfl ?_
        refine a_iald K (by exact lm_kk hM (by decide) (by decide)) (by show vp_in _ (sN V (m 5)); exact lm_ix (z := 12000) hM (by decide) (by decide) (show ρ a.1 < 12000 by omega) (by decide)) dX11_fills_345 ?_
        rw [nI_clamp (by omega)]
        rw [show sA V (m 5) (ρ a.1) = nI la.length from hgc]
        refine a_icmp_ge K dX11_fills_346 (tgt := 394) (by decide) (fun c_346 => ?_) (fun c_346 => absurd c_346 (fun z => z (nI_le (a := la.length) (b := i) (by omega) (by omega))))
        first | refine a_aload_n K dX11_fills_394 rfl ?_ | refine a_aload_nN K dX11_fills_394 rfl ?_
        refine a_iload_n K dX11_fills_395 rfl ?_
        refine a_iload_n K dX11_fills_396 rfl ?_
        refine a_iconst K dX11_fills_397 (v := 1) (by decide) ?_
        refine a_iadd K dX11_fills_398 ?_
        have oT9 := fV.2 (ρ T.1) hr neT
        have wn3 : RwM V m (ρ T.1) ln := ⟨oT9.2.1.trans wn.1, fun k x hx => by
          rw [oT9.2.2.2 k (by have := (List.getElem?_eq_some_iff.mp hx).1; omega)]
          exact wn.2 k x hx⟩
        rw [show nI 0 + 1 = nI 1 from nI_1 0]
        refine a_invV K (m_takesFrom hM (r := ρ T.1) (k := 1) hr wn3 (by omega) (by omega)) my_X11_takesFrom ml_X11_235 im_X11_takesFrom se_X11_takesFrom (ci := 11) (by exact lm_o hM) (by decide) ⟨_, _, rfl⟩ rfl (by omega) (by omega) (by omega) rfl (Nat.le_of_ble_eq_true rfl) dX11_fills_399 ?_
        intro r9 S4 hp9
        obtain ⟨rfl, wn4, gl4, gt4, f4⟩ := hp9
        exact a_vret K EE (by omega) (by omega) dX11_fills_402 (by
          have op4 := f4.2 (ρ c.1) hr2 (fun e => neT e.symm)
          have f5 := (fV.up (R2 := fun q => q = ρ c.1 ∨ q = ρ T.1) (fun q z => Or.inl z) (fun _ z => z)).tr (f4.up (R2 := fun q => q = ρ c.1 ∨ q = ρ T.1) (fun q z => Or.inr z) (fun _ z => z))
          have g4 : GM S S4 m ρ ρ u u Z Z tk (ndl (h + 1) T) := GM_rows hM0 hF nd f5 (fun q z => z.elim (fun e => ⟨c.1, by rw [← oc]; exact ndl_kid (List.mem_of_getElem? hcc) (ndl_top c), e⟩) (fun e => ⟨T.1, by rw [← oT]; exact ndl_top T, e⟩))
          have wp5 : RwM S4 m (ρ c.1) (lc ++ la) := by
            have hl9 : (lc ++ la).length ≤ 7 := by rw [List.length_append]; omega
            rw [show i = la.length by omega, List.take_length] at wV
            exact ⟨by rw [op4.2.1]; exact wV.1, fun k x hx => by
              rw [op4.2.2.2 k (by have := (List.getElem?_eq_some_iff.mp hx).1; omega)]
              exact wV.2 k x hx⟩
          have xn8 : rawM ρ (h + 1) (kds T) ln := xn
          rw [hK] at xn8
          have xn9 := rawM_del xn8 1
          have xn9 : rawM ρ (h + 1) ([] ++ c :: B) (ln.take 1 ++ ln.drop (1 + 1)) := xn9
          have R9 := fill3 (i := T.1) (tk := T.2.1) (A0 := []) (B0 := B) (p := c) (q := a) al q1 q4 q3 f5.2 wp5 (rawM_app xc xa) wn4 xn9 ⟨op4.1.trans glV, op4.2.2.1.trans gtV⟩ ⟨gl4.trans oT9.1, gt4.trans oT9.2.2.1⟩ (by omega)
          exact fin ρ Z _ g4 R9 (f5.wy hM0 (by decide)))
      | succ n ih =>
        intro i x V hx hn hM fV wV glV gtV
        subst hx
        have oc9 := fV.2 (ρ a.1) hr3 ne12
        have hgc : gN V m (ρ a.1) = nI la.length := oc9.2.1.trans wa.1
        refine a_iload K dX11_fills_337 rfl ?_
        first | refine a_aload_n K dX11_fills_339 rfl ?_ | refine a_aload_nN K dX11_fills_339 rfl ?_
        refine a_getRs K fd_X11_26 (by exact lm_o hM) (Or.inr ⟨_, rfl⟩) (by exact lm_r715 hM) dX11_fills_340 ?_
        refine a_iload K dX11_fills_343 rfl ?_
        refine a_iald K (by exact lm_kk hM (by decide) (by decide)) (by show vp_in _ (sN V (m 5)); exact lm_ix (z := 12000) hM (by decide) (by decide) (show ρ a.1 < 12000 by omega) (by decide)) dX11_fills_345 ?_
        rw [nI_clamp (by omega)]
        rw [show sA V (m 5) (ρ a.1) = nI la.length from hgc]
        refine a_icmp_ge K dX11_fills_346 (tgt := 394) (by decide) (fun c_346 => absurd c_346 (nI_ge (a := i) (b := la.length) (by omega) (by omega))) (fun c_346 => ?_)
        first | refine a_aload_n K dX11_fills_349 rfl ?_ | refine a_aload_nN K dX11_fills_349 rfl ?_
        refine a_iload K dX11_fills_350 rfl ?_
        first | refine a_aload_n K dX11_fills_352 rfl ?_ | refine a_aload_nN K dX11_fills_352 rfl ?_
        refine a_getRs K fd_X11_26 (by exact lm_o hM) (Or.inr ⟨_, rfl⟩) (by exact lm_r715 hM) dX11_fills_353 ?_
        refine a_iload K dX11_fills_356 rfl ?_
        refine a_iald K (by exact lm_kk hM (by decide) (by decide)) (by show vp_in _ (sN V (m 5)); exact lm_ix (z := 12000) hM (by decide) (by decide) (show ρ c.1 < 12000 by omega) (by decide)) dX11_fills_358 ?_
        rw [nI_clamp (by omega)]
        rw [show sA V (m 5) (ρ c.1) = nI (lc ++ la.take i).length from wV.1]
        first | refine a_aload_n K dX11_fills_359 rfl ?_ | refine a_aload_nN K dX11_fills_359 rfl ?_
        refine a_getRs K fd_X11_39 (by exact lm_o hM) (Or.inr ⟨_, rfl⟩) (by exact lm_r719 hM) dX11_fills_360 ?_
        refine a_bipush K dX11_fills_363 (v := 7) (by decide) ?_
        refine a_iload K dX11_fills_365 rfl ?_
        refine a_imul K dX11_fills_367 ?_
        rw [nI_7]
        refine a_iload K dX11_fills_368 rfl ?_
        refine a_iadd K dX11_fills_370 ?_
        rw [nI_add]
        refine a_iald K (by exact lm_kk hM (by decide) (by decide)) (by show vp_in _ (sN V (m 9)); exact lm_ix (z := 84000) hM (by decide) (by decide) (show 7 * ρ a.1 + i < 84000 by omega) (by decide)) dX11_fills_371 ?_
        rw [nI_clamp (by omega)]
        first | refine a_aload_n K dX11_fills_372 rfl ?_ | refine a_aload_nN K dX11_fills_372 rfl ?_
        refine a_getRs K fd_X11_42 (by exact lm_o hM) (Or.inr ⟨_, rfl⟩) (by exact lm_r720 hM) dX11_fills_373 ?_
        refine a_bipush K dX11_fills_376 (v := 7) (by decide) ?_
        refine a_iload K dX11_fills_378 rfl ?_
        refine a_imul K dX11_fills_380 ?_
        rw [nI_7]
        refine a_iload K dX11_fills_381 rfl ?_
        refine a_iadd K dX11_fills_383 ?_
        rw [nI_add]
        refine a_iald K (by exact lm_kk hM (by decide) (by decide)) (by show vp_in _ (sN V (m 10)); exact lm_ix (z := 84000) hM (by decide) (by decide) (show 7 * ρ a.1 + i < 84000 by omega) (by decide)) dX11_fills_384 ?_
        rw [nI_clamp (by omega)]
        refine a_invV K (m_putsIn hM (r := ρ c.1) (k := (lc ++ la.take i).length) (l := lc ++ la.take i) hr2 wV (by rw [List.length_append, List.length_take]; omega) (Nat.le_refl _)) my_X11_putsIn ml_X11_225 im_X11_putsIn se_X11_putsIn (ci := 11) (by exact lm_o hM) (by decide) ⟨_, _, rfl⟩ rfl (by omega) (by omega) (by omega) rfl (Nat.le_of_ble_eq_true rfl) dX11_fills_385 ?_
        intro r9 V2 hp9
        obtain ⟨rfl, wV2, glV2, gtV2, fV2⟩ := hp9
        refine a_iinc K dX11_fills_388 (v := 1) rfl (by decide) (by decide) ?_
        refine a_goto K dX11_fills_391 (tgt := 337) (by decide) ?_
        have hx9 := List.getElem?_eq_getElem (show i < la.length by omega)
        have ey : eM V m (ρ a.1) i = la[i] := (oc9.2.2.2 i (by omega)).trans (wa.2 _ _ hx9)
        have e9 : (lc ++ la.take i).take (lc ++ la.take i).length ++ (sA V (m 9) (7 * ρ a.1 + i), sA V (m 10) (7 * ρ a.1 + i)) :: (lc ++ la.take i).drop (lc ++ la.take i).length = lc ++ la.take (i + 1) := by
          rw [app_last, take_i hx9, ← List.append_assoc]
          exact congrArg (fun q => lc ++ la.take i ++ [q]) ey
        exact aw_locl rfl (ih (i + 1) _ V2 (nI_1 i) (by omega) (fV2.1.lay hM) (fV.tr fV2) (e9 ▸ wV2) (glV2.trans glV) (gtV2.trans gtV))
    refine a_iconst K dX11_fills_334 (v := 0) (by decide) ?_
    refine a_istore K dX11_fills_335 (by decide) ?_
    exact aw_locl rfl (inl la.length 0 _ S nI_0.symm (by omega) hM frR.rf (by rw [List.take_zero, List.append_nil]; exact wc) rfl rfl)
  cases A with
  | nil =>
    cases B with
    | nil => exact absurd hne (by simp)
    | cons bb B2 =>
      have hK9 : (kds T).length = B2.length + 2 := by rw [hk]; rfl
      have hcc : (kds T)[([] : List (Tr h)).length]? = some c := by rw [hk]; rfl
      have hcb : (kds T)[([] : List (Tr h)).length + 1]? = some bb := by rw [hk]; rfl
      have hlA : ([] : List (Tr h)).length = 0 := rfl
      have hrb := (rp.kid hcb).1.own.1
      by_cases hlb : lea w < bb.2.2.length
      · first | refine a_aload_n K dX11_fills_0 rfl ?_ | refine a_aload_nN K dX11_fills_0 rfl ?_
        refine a_iload_n K dX11_fills_1 rfl ?_
        refine a_iload_n K dX11_fills_2 rfl ?_
        refine a_invV K (m_child hM (r := ρ T.1) (k := ([] : List (Tr h)).length) hr (by omega)) my_X11_child ml_X11_197 im_X11_child se_X11_child (ci := 11) (by exact lm_o hM) (by decide) ⟨_, _, rfl⟩ rfl (by omega) (by omega) (by omega) rfl (Nat.le_of_ble_eq_true rfl) dX11_fills_3 ?_
        intro r9 S9 hp9
        obtain ⟨rfl, hS9⟩ := hp9
        obtain rfl := hS9.symm
        rw [(rp.kid hcc).2.1]
        refine a_istore K dX11_fills_6 (by decide) ?_
        refine a_iload_n K dX11_fills_8 rfl ?_
        refine a_if_le K dX11_fills_9 (tgt := 23) (by decide) (fun c_9 => ?_) (fun c_9 => absurd c_9 (fun z => z (by show nI 0 ≤ 0; decide)))
        refine a_iconst K dX11_fills_23 (v := -1) (by decide) ?_
        refine a_istore K dX11_fills_24 (by decide) ?_
        refine a_iload_n K dX11_fills_26 rfl ?_
        refine a_iconst K dX11_fills_27 (v := 1) (by decide) ?_
        refine a_iadd K dX11_fills_28 ?_
        rw [nI_1]
        first | refine a_aload_n K dX11_fills_29 rfl ?_ | refine a_aload_nN K dX11_fills_29 rfl ?_
        refine a_getRs K fd_X11_26 (by exact lm_o hM) (Or.inr ⟨_, rfl⟩) (by exact lm_r715 hM) dX11_fills_30 ?_
        refine a_iload_n K dX11_fills_33 rfl ?_
        refine a_iald K (by exact lm_kk hM (by decide) (by decide)) (by show vp_in _ (sN S (m 5)); exact lm_ix (z := 12000) hM (by decide) (by decide) (show ρ T.1 < 12000 by omega) (by decide)) dX11_fills_34 ?_
        rw [nI_clamp (by omega)]
        rw [show sA S (m 5) (ρ T.1) = nI (kds T).length from rp.1.2.2.1]
        refine a_icmp_ge K dX11_fills_35 (tgt := 49) (by decide) (fun c_35 => absurd c_35 (nI_ge (by omega) (by omega))) (fun c_35 => ?_)
        first | refine a_aload_n K dX11_fills_38 rfl ?_ | refine a_aload_nN K dX11_fills_38 rfl ?_
        refine a_iload_n K dX11_fills_39 rfl ?_
        refine a_iload_n K dX11_fills_40 rfl ?_
        refine a_iconst K dX11_fills_41 (v := 1) (by decide) ?_
        refine a_iadd K dX11_fills_42 ?_
        rw [nI_1]
        refine a_invV K (m_child hM (r := ρ T.1) (k := ([] : List (Tr h)).length + 1) hr (by omega)) my_X11_child ml_X11_197 im_X11_child se_X11_child (ci := 11) (by exact lm_o hM) (by decide) ⟨_, _, rfl⟩ rfl (by omega) (by omega) (by omega) rfl (Nat.le_of_ble_eq_true rfl) dX11_fills_43 ?_
        intro r9 S9 hp9
        obtain ⟨rfl, hS9⟩ := hp9
        obtain rfl := hS9.symm
        rw [(rp.kid hcb).2.1]
        refine a_goto K dX11_fills_46 (tgt := 50) (by decide) ?_
        refine a_istore K dX11_fills_50 (by decide) ?_
        refine a_iload K dX11_fills_52 rfl ?_
        refine a_iconst K dX11_fills_54 (v := -1) (by decide) ?_
        refine a_icmp_eq K dX11_fills_55 (tgt := 148) (by decide) (fun c_55 => ?_) (fun c_55 => absurd c_55 (by decide))
        refine a_iload K dX11_fills_148 rfl ?_
        refine a_iconst K dX11_fills_150 (v := -1) (by decide) ?_
        refine a_icmp_eq K dX11_fills_151 (tgt := 235) (by decide) (fun c_151 => absurd c_151 (nI_m1n (by have := (rp.kid hcb).1.own.1; omega))) (fun c_151 => ?_)
        first | refine a_aload_n K dX11_fills_154 rfl ?_ | refine a_aload_nN K dX11_fills_154 rfl ?_
        refine a_getRs K fd_X11_26 (by exact lm_o hM) (Or.inr ⟨_, rfl⟩) (by exact lm_r715 hM) dX11_fills_155 ?_
        refine a_iload K dX11_fills_158 rfl ?_
        refine a_iald K (by exact lm_kk hM (by decide) (by decide)) (by show vp_in _ (sN S (m 5)); exact lm_ix (z := 12000) hM (by decide) (by decide) (show ρ bb.1 < 12000 by omega) (by decide)) dX11_fills_160 ?_
        rw [nI_clamp (by omega)]
        rw [show sA S (m 5) (ρ bb.1) = nI bb.2.2.length from (rp.kid hcb).1.own.2.2.1]
        first | refine a_aload_n K dX11_fills_161 rfl ?_ | refine a_aload_nN K dX11_fills_161 rfl ?_
        refine a_invV K (q_least hM hw hw6) my_X11_least ml_X11_232 im_X11_least se_X11_least (ci := 11) (by exact lm_o hM) (by decide) ⟨_, _, rfl⟩ rfl (by omega) (by omega) (by omega) rfl (Nat.le_of_ble_eq_true rfl) dX11_fills_162 ?_
        intro r9 S9 hp9
        obtain ⟨rfl, hS9⟩ := hp9
        obtain rfl := hS9.symm
        refine a_icmp_le K dX11_fills_165 (tgt := 235) (by decide) (fun c_165 => absurd c_165 (nI_ge (a := lea w) (by omega) (by have := hA _ (List.mem_of_getElem? hcb); omega))) (fun c_165 => ?_)
        exact aw_locl rfl (c2 [] B2 bb _ hk hlb (fun ρ2 Z2 S2 g9 r9 w9 => by rw [hPO, refZ_2n hlb]; exact ⟨ρ2, Z2, rfl, g9, r9, w9⟩))
      · first | refine a_aload_n K dX11_fills_0 rfl ?_ | refine a_aload_nN K dX11_fills_0 rfl ?_
        refine a_iload_n K dX11_fills_1 rfl ?_
        refine a_iload_n K dX11_fills_2 rfl ?_
        refine a_invV K (m_child hM (r := ρ T.1) (k := ([] : List (Tr h)).length) hr (by omega)) my_X11_child ml_X11_197 im_X11_child se_X11_child (ci := 11) (by exact lm_o hM) (by decide) ⟨_, _, rfl⟩ rfl (by omega) (by omega) (by omega) rfl (Nat.le_of_ble_eq_true rfl) dX11_fills_3 ?_
        intro r9 S9 hp9
        obtain ⟨rfl, hS9⟩ := hp9
        obtain rfl := hS9.symm
        rw [(rp.kid hcc).2.1]
        refine a_istore K dX11_fills_6 (by decide) ?_
        refine a_iload_n K dX11_fills_8 rfl ?_
        refine a_if_le K dX11_fills_9 (tgt := 23) (by decide) (fun c_9 => ?_) (fun c_9 => absurd c_9 (fun z => z (by show nI 0 ≤ 0; decide)))
        refine a_iconst K dX11_fills_23 (v := -1) (by decide) ?_
        refine a_istore K dX11_fills_24 (by decide) ?_
        refine a_iload_n K dX11_fills_26 rfl ?_
        refine a_iconst K dX11_fills_27 (v := 1) (by decide) ?_
        refine a_iadd K dX11_fills_28 ?_
        rw [nI_1]
        first | refine a_aload_n K dX11_fills_29 rfl ?_ | refine a_aload_nN K dX11_fills_29 rfl ?_
        refine a_getRs K fd_X11_26 (by exact lm_o hM) (Or.inr ⟨_, rfl⟩) (by exact lm_r715 hM) dX11_fills_30 ?_
        refine a_iload_n K dX11_fills_33 rfl ?_
        refine a_iald K (by exact lm_kk hM (by decide) (by decide)) (by show vp_in _ (sN S (m 5)); exact lm_ix (z := 12000) hM (by decide) (by decide) (show ρ T.1 < 12000 by omega) (by decide)) dX11_fills_34 ?_
        rw [nI_clamp (by omega)]
        rw [show sA S (m 5) (ρ T.1) = nI (kds T).length from rp.1.2.2.1]
        refine a_icmp_ge K dX11_fills_35 (tgt := 49) (by decide) (fun c_35 => absurd c_35 (nI_ge (by omega) (by omega))) (fun c_35 => ?_)
        first | refine a_aload_n K dX11_fills_38 rfl ?_ | refine a_aload_nN K dX11_fills_38 rfl ?_
        refine a_iload_n K dX11_fills_39 rfl ?_
        refine a_iload_n K dX11_fills_40 rfl ?_
        refine a_iconst K dX11_fills_41 (v := 1) (by decide) ?_
        refine a_iadd K dX11_fills_42 ?_
        rw [nI_1]
        refine a_invV K (m_child hM (r := ρ T.1) (k := ([] : List (Tr h)).length + 1) hr (by omega)) my_X11_child ml_X11_197 im_X11_child se_X11_child (ci := 11) (by exact lm_o hM) (by decide) ⟨_, _, rfl⟩ rfl (by omega) (by omega) (by omega) rfl (Nat.le_of_ble_eq_true rfl) dX11_fills_43 ?_
        intro r9 S9 hp9
        obtain ⟨rfl, hS9⟩ := hp9
        obtain rfl := hS9.symm
        rw [(rp.kid hcb).2.1]
        refine a_goto K dX11_fills_46 (tgt := 50) (by decide) ?_
        refine a_istore K dX11_fills_50 (by decide) ?_
        refine a_iload K dX11_fills_52 rfl ?_
        refine a_iconst K dX11_fills_54 (v := -1) (by decide) ?_
        refine a_icmp_eq K dX11_fills_55 (tgt := 148) (by decide) (fun c_55 => ?_) (fun c_55 => absurd c_55 (by decide))
        refine a_iload K dX11_fills_148 rfl ?_
        refine a_iconst K dX11_fills_150 (v := -1) (by decide) ?_
        refine a_icmp_eq K dX11_fills_151 (tgt := 235) (by decide) (fun c_151 => absurd c_151 (nI_m1n (by have := (rp.kid hcb).1.own.1; omega))) (fun c_151 => ?_)
        first | refine a_aload_n K dX11_fills_154 rfl ?_ | refine a_aload_nN K dX11_fills_154 rfl ?_
        refine a_getRs K fd_X11_26 (by exact lm_o hM) (Or.inr ⟨_, rfl⟩) (by exact lm_r715 hM) dX11_fills_155 ?_
        refine a_iload K dX11_fills_158 rfl ?_
        refine a_iald K (by exact lm_kk hM (by decide) (by decide)) (by show vp_in _ (sN S (m 5)); exact lm_ix (z := 12000) hM (by decide) (by decide) (show ρ bb.1 < 12000 by omega) (by decide)) dX11_fills_160 ?_
        rw [nI_clamp (by omega)]
        rw [show sA S (m 5) (ρ bb.1) = nI bb.2.2.length from (rp.kid hcb).1.own.2.2.1]
        first | refine a_aload_n K dX11_fills_161 rfl ?_ | refine a_aload_nN K dX11_fills_161 rfl ?_
        refine a_invV K (q_least hM hw hw6) my_X11_least ml_X11_232 im_X11_least se_X11_least (ci := 11) (by exact lm_o hM) (by decide) ⟨_, _, rfl⟩ rfl (by omega) (by omega) (by omega) rfl (Nat.le_of_ble_eq_true rfl) dX11_fills_162 ?_
        intro r9 S9 hp9
        obtain ⟨rfl, hS9⟩ := hp9
        obtain rfl := hS9.symm
        refine a_icmp_le K dX11_fills_165 (tgt := 235) (by decide) (fun c_165 => ?_) (fun c_165 => absurd c_165 (fun z => z (nI_le (b := lea w) (by omega) (by omega))))
        refine a_iload K dX11_fills_235 rfl ?_
        refine a_iconst K dX11_fills_237 (v := -1) (by decide) ?_
        refine a_icmp_eq K dX11_fills_238 (tgt := 334) (by decide) (fun c_238 => ?_) (fun c_238 => absurd c_238 (by decide))
        exact aw_locl rfl (c4 B2 bb _ hk hlb (fun ρ2 Z2 S2 g9 r9 w9 => by rw [hPO, refZ_4 hlb]; exact ⟨ρ2, Z2, rfl, g9, r9, w9⟩))
  | cons a A2 =>
    have hlA : (a :: A2).length = A2.length + 1 := rfl
    cases B with
    | nil =>
      have hk2 : kds T = A2.reverse ++ a :: c :: [] := by rw [hk, List.reverse_cons, List.append_assoc]; rfl
      have hK9 : (kds T).length = A2.length + 2 := by rw [hk2, List.length_append, List.length_reverse]; rfl
      have hca : (kds T)[A2.length]? = some a := by rw [hk2, ← List.length_reverse (as := A2)]; exact gt_mid _ _ _
      have hcc : (kds T)[(a :: A2).length]? = some c := by rw [hk2, hlA, ← List.length_reverse (as := A2)]; exact gt_mid1 _ _ _ _
      have hra := (rp.kid hca).1.own.1
      by_cases hla : lea w < a.2.2.length
      · first | refine a_aload_n K dX11_fills_0 rfl ?_ | refine a_aload_nN K dX11_fills_0 rfl ?_
        refine a_iload_n K dX11_fills_1 rfl ?_
        refine a_iload_n K dX11_fills_2 rfl ?_
        refine a_invV K (m_child hM (r := ρ T.1) (k := (a :: A2).length) hr (by omega)) my_X11_child ml_X11_197 im_X11_child se_X11_child (ci := 11) (by exact lm_o hM) (by decide) ⟨_, _, rfl⟩ rfl (by omega) (by omega) (by omega) rfl (Nat.le_of_ble_eq_true rfl) dX11_fills_3 ?_
        intro r9 S9 hp9
        obtain ⟨rfl, hS9⟩ := hp9
        obtain rfl := hS9.symm
        rw [(rp.kid hcc).2.1]
        refine a_istore K dX11_fills_6 (by decide) ?_
        refine a_iload_n K dX11_fills_8 rfl ?_
        refine a_if_le K dX11_fills_9 (tgt := 23) (by decide) (fun c_9 => absurd c_9 (nI_nle (by show 0 < (a :: A2).length; exact Nat.succ_pos _) (by omega))) (fun c_9 => ?_)
        first | refine a_aload_n K dX11_fills_12 rfl ?_ | refine a_aload_nN K dX11_fills_12 rfl ?_
        refine a_iload_n K dX11_fills_13 rfl ?_
        refine a_iload_n K dX11_fills_14 rfl ?_
        refine a_iconst K dX11_fills_15 (v := 1) (by decide) ?_
        refine a_isub K dX11_fills_16 ?_
        rw [show nI (a :: A2).length - 1 = nI A2.length from nI_pred _]
        refine a_invV K (m_child hM (r := ρ T.1) (k := A2.length) hr (by omega)) my_X11_child ml_X11_197 im_X11_child se_X11_child (ci := 11) (by exact lm_o hM) (by decide) ⟨_, _, rfl⟩ rfl (by omega) (by omega) (by omega) rfl (Nat.le_of_ble_eq_true rfl) dX11_fills_17 ?_
        intro r9 S9 hp9
        obtain ⟨rfl, hS9⟩ := hp9
        obtain rfl := hS9.symm
        rw [(rp.kid hca).2.1]
        refine a_goto K dX11_fills_20 (tgt := 24) (by decide) ?_
        refine a_istore K dX11_fills_24 (by decide) ?_
        refine a_iload_n K dX11_fills_26 rfl ?_
        refine a_iconst K dX11_fills_27 (v := 1) (by decide) ?_
        refine a_iadd K dX11_fills_28 ?_
        rw [nI_1]
        first | refine a_aload_n K dX11_fills_29 rfl ?_ | refine a_aload_nN K dX11_fills_29 rfl ?_
        refine a_getRs K fd_X11_26 (by exact lm_o hM) (Or.inr ⟨_, rfl⟩) (by exact lm_r715 hM) dX11_fills_30 ?_
        refine a_iload_n K dX11_fills_33 rfl ?_
        refine a_iald K (by exact lm_kk hM (by decide) (by decide)) (by show vp_in _ (sN S (m 5)); exact lm_ix (z := 12000) hM (by decide) (by decide) (show ρ T.1 < 12000 by omega) (by decide)) dX11_fills_34 ?_
        rw [nI_clamp (by omega)]
        rw [show sA S (m 5) (ρ T.1) = nI (kds T).length from rp.1.2.2.1]
        refine a_icmp_ge K dX11_fills_35 (tgt := 49) (by decide) (fun c_35 => ?_) (fun c_35 => absurd c_35 (fun z => z (nI_le (by omega) (by omega))))
        refine a_iconst K dX11_fills_49 (v := -1) (by decide) ?_
        refine a_istore K dX11_fills_50 (by decide) ?_
        refine a_iload K dX11_fills_52 rfl ?_
        refine a_iconst K dX11_fills_54 (v := -1) (by decide) ?_
        refine a_icmp_eq K dX11_fills_55 (tgt := 148) (by decide) (fun c_55 => absurd c_55 (nI_m1n (by have := (rp.kid hca).1.own.1; omega))) (fun c_55 => ?_)
        first | refine a_aload_n K dX11_fills_58 rfl ?_ | refine a_aload_nN K dX11_fills_58 rfl ?_
        refine a_getRs K fd_X11_26 (by exact lm_o hM) (Or.inr ⟨_, rfl⟩) (by exact lm_r715 hM) dX11_fills_59 ?_
        refine a_iload K dX11_fills_62 rfl ?_
        refine a_iald K (by exact lm_kk hM (by decide) (by decide)) (by show vp_in _ (sN S (m 5)); exact lm_ix (z := 12000) hM (by decide) (by decide) (show ρ a.1 < 12000 by omega) (by decide)) dX11_fills_64 ?_
        rw [nI_clamp (by omega)]
        rw [show sA S (m 5) (ρ a.1) = nI a.2.2.length from (rp.kid hca).1.own.2.2.1]
        first | refine a_aload_n K dX11_fills_65 rfl ?_ | refine a_aload_nN K dX11_fills_65 rfl ?_
        refine a_invV K (q_least hM hw hw6) my_X11_least ml_X11_232 im_X11_least se_X11_least (ci := 11) (by exact lm_o hM) (by decide) ⟨_, _, rfl⟩ rfl (by omega) (by omega) (by omega) rfl (Nat.le_of_ble_eq_true rfl) dX11_fills_66 ?_
        intro r9 S9 hp9
        obtain ⟨rfl, hS9⟩ := hp9
        obtain rfl := hS9.symm
        refine a_icmp_le K dX11_fills_69 (tgt := 148) (by decide) (fun c_69 => absurd c_69 (nI_ge (a := lea w) (by omega) (by have := hA _ (List.mem_of_getElem? hca); omega))) (fun c_69 => ?_)
        have c9 := c1 A2.reverse [] a
        rw [List.length_reverse] at c9
        exact aw_locl rfl (c9 _ (by rw [hk, List.reverse_cons, List.append_assoc]; rfl) hla (fun ρ2 Z2 S2 g9 r9 w9 => by rw [hPO, refZ_1 hla]; exact ⟨ρ2, Z2, rfl, g9, r9, w9⟩))
      · first | refine a_aload_n K dX11_fills_0 rfl ?_ | refine a_aload_nN K dX11_fills_0 rfl ?_
        refine a_iload_n K dX11_fills_1 rfl ?_
        refine a_iload_n K dX11_fills_2 rfl ?_
        refine a_invV K (m_child hM (r := ρ T.1) (k := (a :: A2).length) hr (by omega)) my_X11_child ml_X11_197 im_X11_child se_X11_child (ci := 11) (by exact lm_o hM) (by decide) ⟨_, _, rfl⟩ rfl (by omega) (by omega) (by omega) rfl (Nat.le_of_ble_eq_true rfl) dX11_fills_3 ?_
        intro r9 S9 hp9
        obtain ⟨rfl, hS9⟩ := hp9
        obtain rfl := hS9.symm
        rw [(rp.kid hcc).2.1]
        refine a_istore K dX11_fills_6 (by decide) ?_
        refine a_iload_n K dX11_fills_8 rfl ?_
        refine a_if_le K dX11_fills_9 (tgt := 23) (by decide) (fun c_9 => absurd c_9 (nI_nle (by show 0 < (a :: A2).length; exact Nat.succ_pos _) (by omega))) (fun c_9 => ?_)
        first | refine a_aload_n K dX11_fills_12 rfl ?_ | refine a_aload_nN K dX11_fills_12 rfl ?_
        refine a_iload_n K dX11_fills_13 rfl ?_
        refine a_iload_n K dX11_fills_14 rfl ?_
        refine a_iconst K dX11_fills_15 (v := 1) (by decide) ?_
        refine a_isub K dX11_fills_16 ?_
        rw [show nI (a :: A2).length - 1 = nI A2.length from nI_pred _]
        refine a_invV K (m_child hM (r := ρ T.1) (k := A2.length) hr (by omega)) my_X11_child ml_X11_197 im_X11_child se_X11_child (ci := 11) (by exact lm_o hM) (by decide) ⟨_, _, rfl⟩ rfl (by omega) (by omega) (by omega) rfl (Nat.le_of_ble_eq_true rfl) dX11_fills_17 ?_
        intro r9 S9 hp9
        obtain ⟨rfl, hS9⟩ := hp9
        obtain rfl := hS9.symm
        rw [(rp.kid hca).2.1]
        refine a_goto K dX11_fills_20 (tgt := 24) (by decide) ?_
        refine a_istore K dX11_fills_24 (by decide) ?_
        refine a_iload_n K dX11_fills_26 rfl ?_
        refine a_iconst K dX11_fills_27 (v := 1) (by decide) ?_
        refine a_iadd K dX11_fills_28 ?_
        rw [nI_1]
        first | refine a_aload_n K dX11_fills_29 rfl ?_ | refine a_aload_nN K dX11_fills_29 rfl ?_
        refine a_getRs K fd_X11_26 (by exact lm_o hM) (Or.inr ⟨_, rfl⟩) (by exact lm_r715 hM) dX11_fills_30 ?_
        refine a_iload_n K dX11_fills_33 rfl ?_
        refine a_iald K (by exact lm_kk hM (by decide) (by decide)) (by show vp_in _ (sN S (m 5)); exact lm_ix (z := 12000) hM (by decide) (by decide) (show ρ T.1 < 12000 by omega) (by decide)) dX11_fills_34 ?_
        rw [nI_clamp (by omega)]
        rw [show sA S (m 5) (ρ T.1) = nI (kds T).length from rp.1.2.2.1]
        refine a_icmp_ge K dX11_fills_35 (tgt := 49) (by decide) (fun c_35 => ?_) (fun c_35 => absurd c_35 (fun z => z (nI_le (by omega) (by omega))))
        refine a_iconst K dX11_fills_49 (v := -1) (by decide) ?_
        refine a_istore K dX11_fills_50 (by decide) ?_
        refine a_iload K dX11_fills_52 rfl ?_
        refine a_iconst K dX11_fills_54 (v := -1) (by decide) ?_
        refine a_icmp_eq K dX11_fills_55 (tgt := 148) (by decide) (fun c_55 => absurd c_55 (nI_m1n (by have := (rp.kid hca).1.own.1; omega))) (fun c_55 => ?_)
        first | refine a_aload_n K dX11_fills_58 rfl ?_ | refine a_aload_nN K dX11_fills_58 rfl ?_
        refine a_getRs K fd_X11_26 (by exact lm_o hM) (Or.inr ⟨_, rfl⟩) (by exact lm_r715 hM) dX11_fills_59 ?_
        refine a_iload K dX11_fills_62 rfl ?_
        refine a_iald K (by exact lm_kk hM (by decide) (by decide)) (by show vp_in _ (sN S (m 5)); exact lm_ix (z := 12000) hM (by decide) (by decide) (show ρ a.1 < 12000 by omega) (by decide)) dX11_fills_64 ?_
        rw [nI_clamp (by omega)]
        rw [show sA S (m 5) (ρ a.1) = nI a.2.2.length from (rp.kid hca).1.own.2.2.1]
        first | refine a_aload_n K dX11_fills_65 rfl ?_ | refine a_aload_nN K dX11_fills_65 rfl ?_
        refine a_invV K (q_least hM hw hw6) my_X11_least ml_X11_232 im_X11_least se_X11_least (ci := 11) (by exact lm_o hM) (by decide) ⟨_, _, rfl⟩ rfl (by omega) (by omega) (by omega) rfl (Nat.le_of_ble_eq_true rfl) dX11_fills_66 ?_
        intro r9 S9 hp9
        obtain ⟨rfl, hS9⟩ := hp9
        obtain rfl := hS9.symm
        refine a_icmp_le K dX11_fills_69 (tgt := 148) (by decide) (fun c_69 => ?_) (fun c_69 => absurd c_69 (fun z => z (nI_le (b := lea w) (by omega) (by omega))))
        refine a_iload K dX11_fills_148 rfl ?_
        refine a_iconst K dX11_fills_150 (v := -1) (by decide) ?_
        refine a_icmp_eq K dX11_fills_151 (tgt := 235) (by decide) (fun c_151 => ?_) (fun c_151 => absurd c_151 (by decide))
        refine a_iload K dX11_fills_235 rfl ?_
        refine a_iconst K dX11_fills_237 (v := -1) (by decide) ?_
        refine a_icmp_eq K dX11_fills_238 (tgt := 334) (by decide) (fun c_238 => absurd c_238 (nI_m1n (by have := (rp.kid hca).1.own.1; omega))) (fun c_238 => ?_)
        have c9 := c3 A2.reverse [] a
        rw [List.length_reverse] at c9
        exact aw_locl rfl (c9 _ (by rw [hk, List.reverse_cons, List.append_assoc]; rfl) hla (fun ρ2 Z2 S2 g9 r9 w9 => by rw [hPO, refZ_3n hla]; exact ⟨ρ2, Z2, rfl, g9, r9, w9⟩))
    | cons bb B2 =>
      have hk2 : kds T = A2.reverse ++ a :: c :: (bb :: B2) := by rw [hk, List.reverse_cons, List.append_assoc]; rfl
      have hK9 : (kds T).length = A2.length + B2.length + 3 := by rw [hk2, List.length_append, List.length_reverse]; show A2.length + (B2.length + 3) = _; omega
      have hca : (kds T)[A2.length]? = some a := by rw [hk2, ← List.length_reverse (as := A2)]; exact gt_mid _ _ _
      have hcc : (kds T)[(a :: A2).length]? = some c := by rw [hk2, hlA, ← List.length_reverse (as := A2)]; exact gt_mid1 _ _ _ _
      have hra := (rp.kid hca).1.own.1
      have hcb : (kds T)[(a :: A2).length + 1]? = some bb := by
        rw [hk2, hlA, ← List.length_reverse (as := A2)]
        exact gt_mid2 _ _ _ _ _
      have hrb := (rp.kid hcb).1.own.1
      by_cases hla : lea w < a.2.2.length
      · first | refine a_aload_n K dX11_fills_0 rfl ?_ | refine a_aload_nN K dX11_fills_0 rfl ?_
        refine a_iload_n K dX11_fills_1 rfl ?_
        refine a_iload_n K dX11_fills_2 rfl ?_
        refine a_invV K (m_child hM (r := ρ T.1) (k := (a :: A2).length) hr (by omega)) my_X11_child ml_X11_197 im_X11_child se_X11_child (ci := 11) (by exact lm_o hM) (by decide) ⟨_, _, rfl⟩ rfl (by omega) (by omega) (by omega) rfl (Nat.le_of_ble_eq_true rfl) dX11_fills_3 ?_
        intro r9 S9 hp9
        obtain ⟨rfl, hS9⟩ := hp9
        obtain rfl := hS9.symm
        rw [(rp.kid hcc).2.1]
        refine a_istore K dX11_fills_6 (by decide) ?_
        refine a_iload_n K dX11_fills_8 rfl ?_
        refine a_if_le K dX11_fills_9 (tgt := 23) (by decide) (fun c_9 => absurd c_9 (nI_nle (by show 0 < (a :: A2).length; exact Nat.succ_pos _) (by omega))) (fun c_9 => ?_)
        first | refine a_aload_n K dX11_fills_12 rfl ?_ | refine a_aload_nN K dX11_fills_12 rfl ?_
        refine a_iload_n K dX11_fills_13 rfl ?_
        refine a_iload_n K dX11_fills_14 rfl ?_
        refine a_iconst K dX11_fills_15 (v := 1) (by decide) ?_
        refine a_isub K dX11_fills_16 ?_
        rw [show nI (a :: A2).length - 1 = nI A2.length from nI_pred _]
        refine a_invV K (m_child hM (r := ρ T.1) (k := A2.length) hr (by omega)) my_X11_child ml_X11_197 im_X11_child se_X11_child (ci := 11) (by exact lm_o hM) (by decide) ⟨_, _, rfl⟩ rfl (by omega) (by omega) (by omega) rfl (Nat.le_of_ble_eq_true rfl) dX11_fills_17 ?_
        intro r9 S9 hp9
        obtain ⟨rfl, hS9⟩ := hp9
        obtain rfl := hS9.symm
        rw [(rp.kid hca).2.1]
        refine a_goto K dX11_fills_20 (tgt := 24) (by decide) ?_
        refine a_istore K dX11_fills_24 (by decide) ?_
        refine a_iload_n K dX11_fills_26 rfl ?_
        refine a_iconst K dX11_fills_27 (v := 1) (by decide) ?_
        refine a_iadd K dX11_fills_28 ?_
        rw [nI_1]
        first | refine a_aload_n K dX11_fills_29 rfl ?_ | refine a_aload_nN K dX11_fills_29 rfl ?_
        refine a_getRs K fd_X11_26 (by exact lm_o hM) (Or.inr ⟨_, rfl⟩) (by exact lm_r715 hM) dX11_fills_30 ?_
        refine a_iload_n K dX11_fills_33 rfl ?_
        refine a_iald K (by exact lm_kk hM (by decide) (by decide)) (by show vp_in _ (sN S (m 5)); exact lm_ix (z := 12000) hM (by decide) (by decide) (show ρ T.1 < 12000 by omega) (by decide)) dX11_fills_34 ?_
        rw [nI_clamp (by omega)]
        rw [show sA S (m 5) (ρ T.1) = nI (kds T).length from rp.1.2.2.1]
        refine a_icmp_ge K dX11_fills_35 (tgt := 49) (by decide) (fun c_35 => absurd c_35 (nI_ge (by omega) (by omega))) (fun c_35 => ?_)
        first | refine a_aload_n K dX11_fills_38 rfl ?_ | refine a_aload_nN K dX11_fills_38 rfl ?_
        refine a_iload_n K dX11_fills_39 rfl ?_
        refine a_iload_n K dX11_fills_40 rfl ?_
        refine a_iconst K dX11_fills_41 (v := 1) (by decide) ?_
        refine a_iadd K dX11_fills_42 ?_
        rw [nI_1]
        refine a_invV K (m_child hM (r := ρ T.1) (k := (a :: A2).length + 1) hr (by omega)) my_X11_child ml_X11_197 im_X11_child se_X11_child (ci := 11) (by exact lm_o hM) (by decide) ⟨_, _, rfl⟩ rfl (by omega) (by omega) (by omega) rfl (Nat.le_of_ble_eq_true rfl) dX11_fills_43 ?_
        intro r9 S9 hp9
        obtain ⟨rfl, hS9⟩ := hp9
        obtain rfl := hS9.symm
        rw [(rp.kid hcb).2.1]
        refine a_goto K dX11_fills_46 (tgt := 50) (by decide) ?_
        refine a_istore K dX11_fills_50 (by decide) ?_
        refine a_iload K dX11_fills_52 rfl ?_
        refine a_iconst K dX11_fills_54 (v := -1) (by decide) ?_
        refine a_icmp_eq K dX11_fills_55 (tgt := 148) (by decide) (fun c_55 => absurd c_55 (nI_m1n (by have := (rp.kid hca).1.own.1; omega))) (fun c_55 => ?_)
        first | refine a_aload_n K dX11_fills_58 rfl ?_ | refine a_aload_nN K dX11_fills_58 rfl ?_
        refine a_getRs K fd_X11_26 (by exact lm_o hM) (Or.inr ⟨_, rfl⟩) (by exact lm_r715 hM) dX11_fills_59 ?_
        refine a_iload K dX11_fills_62 rfl ?_
        refine a_iald K (by exact lm_kk hM (by decide) (by decide)) (by show vp_in _ (sN S (m 5)); exact lm_ix (z := 12000) hM (by decide) (by decide) (show ρ a.1 < 12000 by omega) (by decide)) dX11_fills_64 ?_
        rw [nI_clamp (by omega)]
        rw [show sA S (m 5) (ρ a.1) = nI a.2.2.length from (rp.kid hca).1.own.2.2.1]
        first | refine a_aload_n K dX11_fills_65 rfl ?_ | refine a_aload_nN K dX11_fills_65 rfl ?_
        refine a_invV K (q_least hM hw hw6) my_X11_least ml_X11_232 im_X11_least se_X11_least (ci := 11) (by exact lm_o hM) (by decide) ⟨_, _, rfl⟩ rfl (by omega) (by omega) (by omega) rfl (Nat.le_of_ble_eq_true rfl) dX11_fills_66 ?_
        intro r9 S9 hp9
        obtain ⟨rfl, hS9⟩ := hp9
        obtain rfl := hS9.symm
        refine a_icmp_le K dX11_fills_69 (tgt := 148) (by decide) (fun c_69 => absurd c_69 (nI_ge (a := lea w) (by omega) (by have := hA _ (List.mem_of_getElem? hca); omega))) (fun c_69 => ?_)
        have c9 := c1 A2.reverse (bb :: B2) a
        rw [List.length_reverse] at c9
        exact aw_locl rfl (c9 _ (by rw [hk, List.reverse_cons, List.append_assoc]; rfl) hla (fun ρ2 Z2 S2 g9 r9 w9 => by rw [hPO, refZ_1 hla]; exact ⟨ρ2, Z2, rfl, g9, r9, w9⟩))
      · by_cases hlb : lea w < bb.2.2.length
        · first | refine a_aload_n K dX11_fills_0 rfl ?_ | refine a_aload_nN K dX11_fills_0 rfl ?_
          refine a_iload_n K dX11_fills_1 rfl ?_
          refine a_iload_n K dX11_fills_2 rfl ?_
          refine a_invV K (m_child hM (r := ρ T.1) (k := (a :: A2).length) hr (by omega)) my_X11_child ml_X11_197 im_X11_child se_X11_child (ci := 11) (by exact lm_o hM) (by decide) ⟨_, _, rfl⟩ rfl (by omega) (by omega) (by omega) rfl (Nat.le_of_ble_eq_true rfl) dX11_fills_3 ?_
          intro r9 S9 hp9
          obtain ⟨rfl, hS9⟩ := hp9
          obtain rfl := hS9.symm
          rw [(rp.kid hcc).2.1]
          refine a_istore K dX11_fills_6 (by decide) ?_
          refine a_iload_n K dX11_fills_8 rfl ?_
          refine a_if_le K dX11_fills_9 (tgt := 23) (by decide) (fun c_9 => absurd c_9 (nI_nle (by show 0 < (a :: A2).length; exact Nat.succ_pos _) (by omega))) (fun c_9 => ?_)
          first | refine a_aload_n K dX11_fills_12 rfl ?_ | refine a_aload_nN K dX11_fills_12 rfl ?_
          refine a_iload_n K dX11_fills_13 rfl ?_
          refine a_iload_n K dX11_fills_14 rfl ?_
          refine a_iconst K dX11_fills_15 (v := 1) (by decide) ?_
          refine a_isub K dX11_fills_16 ?_
          rw [show nI (a :: A2).length - 1 = nI A2.length from nI_pred _]
          refine a_invV K (m_child hM (r := ρ T.1) (k := A2.length) hr (by omega)) my_X11_child ml_X11_197 im_X11_child se_X11_child (ci := 11) (by exact lm_o hM) (by decide) ⟨_, _, rfl⟩ rfl (by omega) (by omega) (by omega) rfl (Nat.le_of_ble_eq_true rfl) dX11_fills_17 ?_
          intro r9 S9 hp9
          obtain ⟨rfl, hS9⟩ := hp9
          obtain rfl := hS9.symm
          rw [(rp.kid hca).2.1]
          refine a_goto K dX11_fills_20 (tgt := 24) (by decide) ?_
          refine a_istore K dX11_fills_24 (by decide) ?_
          refine a_iload_n K dX11_fills_26 rfl ?_
          refine a_iconst K dX11_fills_27 (v := 1) (by decide) ?_
          refine a_iadd K dX11_fills_28 ?_
          rw [nI_1]
          first | refine a_aload_n K dX11_fills_29 rfl ?_ | refine a_aload_nN K dX11_fills_29 rfl ?_
          refine a_getRs K fd_X11_26 (by exact lm_o hM) (Or.inr ⟨_, rfl⟩) (by exact lm_r715 hM) dX11_fills_30 ?_
          refine a_iload_n K dX11_fills_33 rfl ?_
          refine a_iald K (by exact lm_kk hM (by decide) (by decide)) (by show vp_in _ (sN S (m 5)); exact lm_ix (z := 12000) hM (by decide) (by decide) (show ρ T.1 < 12000 by omega) (by decide)) dX11_fills_34 ?_
          rw [nI_clamp (by omega)]
          rw [show sA S (m 5) (ρ T.1) = nI (kds T).length from rp.1.2.2.1]
          refine a_icmp_ge K dX11_fills_35 (tgt := 49) (by decide) (fun c_35 => absurd c_35 (nI_ge (by omega) (by omega))) (fun c_35 => ?_)
          first | refine a_aload_n K dX11_fills_38 rfl ?_ | refine a_aload_nN K dX11_fills_38 rfl ?_
          refine a_iload_n K dX11_fills_39 rfl ?_
          refine a_iload_n K dX11_fills_40 rfl ?_
          refine a_iconst K dX11_fills_41 (v := 1) (by decide) ?_
          refine a_iadd K dX11_fills_42 ?_
          rw [nI_1]
          refine a_invV K (m_child hM (r := ρ T.1) (k := (a :: A2).length + 1) hr (by omega)) my_X11_child ml_X11_197 im_X11_child se_X11_child (ci := 11) (by exact lm_o hM) (by decide) ⟨_, _, rfl⟩ rfl (by omega) (by omega) (by omega) rfl (Nat.le_of_ble_eq_true rfl) dX11_fills_43 ?_
          intro r9 S9 hp9
          obtain ⟨rfl, hS9⟩ := hp9
          obtain rfl := hS9.symm
          rw [(rp.kid hcb).2.1]
          refine a_goto K dX11_fills_46 (tgt := 50) (by decide) ?_
          refine a_istore K dX11_fills_50 (by decide) ?_
          refine a_iload K dX11_fills_52 rfl ?_
          refine a_iconst K dX11_fills_54 (v := -1) (by decide) ?_
          refine a_icmp_eq K dX11_fills_55 (tgt := 148) (by decide) (fun c_55 => absurd c_55 (nI_m1n (by have := (rp.kid hca).1.own.1; omega))) (fun c_55 => ?_)
          first | refine a_aload_n K dX11_fills_58 rfl ?_ | refine a_aload_nN K dX11_fills_58 rfl ?_
          refine a_getRs K fd_X11_26 (by exact lm_o hM) (Or.inr ⟨_, rfl⟩) (by exact lm_r715 hM) dX11_fills_59 ?_
          refine a_iload K dX11_fills_62 rfl ?_
          refine a_iald K (by exact lm_kk hM (by decide) (by decide)) (by show vp_in _ (sN S (m 5)); exact lm_ix (z := 12000) hM (by decide) (by decide) (show ρ a.1 < 12000 by omega) (by decide)) dX11_fills_64 ?_
          rw [nI_clamp (by omega)]
          rw [show sA S (m 5) (ρ a.1) = nI a.2.2.length from (rp.kid hca).1.own.2.2.1]
          first | refine a_aload_n K dX11_fills_65 rfl ?_ | refine a_aload_nN K dX11_fills_65 rfl ?_
          refine a_invV K (q_least hM hw hw6) my_X11_least ml_X11_232 im_X11_least se_X11_least (ci := 11) (by exact lm_o hM) (by decide) ⟨_, _, rfl⟩ rfl (by omega) (by omega) (by omega) rfl (Nat.le_of_ble_eq_true rfl) dX11_fills_66 ?_
          intro r9 S9 hp9
          obtain ⟨rfl, hS9⟩ := hp9
          obtain rfl := hS9.symm
          refine a_icmp_le K dX11_fills_69 (tgt := 148) (by decide) (fun c_69 => ?_) (fun c_69 => absurd c_69 (fun z => z (nI_le (b := lea w) (by omega) (by omega))))
          refine a_iload K dX11_fills_148 rfl ?_
          refine a_iconst K dX11_fills_150 (v := -1) (by decide) ?_
          refine a_icmp_eq K dX11_fills_151 (tgt := 235) (by decide) (fun c_151 => absurd c_151 (nI_m1n (by have := (rp.kid hcb).1.own.1; omega))) (fun c_151 => ?_)
          first | refine a_aload_n K dX11_fills_154 rfl ?_ | refine a_aload_nN K dX11_fills_154 rfl ?_
          refine a_getRs K fd_X11_26 (by exact lm_o hM) (Or.inr ⟨_, rfl⟩) (by exact lm_r715 hM) dX11_fills_155 ?_
          refine a_iload K dX11_fills_158 rfl ?_
          refine a_iald K (by exact lm_kk hM (by decide) (by decide)) (by show vp_in _ (sN S (m 5)); exact lm_ix (z := 12000) hM (by decide) (by decide) (show ρ bb.1 < 12000 by omega) (by decide)) dX11_fills_160 ?_
          rw [nI_clamp (by omega)]
          rw [show sA S (m 5) (ρ bb.1) = nI bb.2.2.length from (rp.kid hcb).1.own.2.2.1]
          first | refine a_aload_n K dX11_fills_161 rfl ?_ | refine a_aload_nN K dX11_fills_161 rfl ?_
          refine a_invV K (q_least hM hw hw6) my_X11_least ml_X11_232 im_X11_least se_X11_least (ci := 11) (by exact lm_o hM) (by decide) ⟨_, _, rfl⟩ rfl (by omega) (by omega) (by omega) rfl (Nat.le_of_ble_eq_true rfl) dX11_fills_162 ?_
          intro r9 S9 hp9
          obtain ⟨rfl, hS9⟩ := hp9
          obtain rfl := hS9.symm
          refine a_icmp_le K dX11_fills_165 (tgt := 235) (by decide) (fun c_165 => absurd c_165 (nI_ge (a := lea w) (by omega) (by have := hA _ (List.mem_of_getElem? hcb); omega))) (fun c_165 => ?_)
          have c9 := c2 (a :: A2).reverse B2 bb
          rw [List.length_reverse] at c9
          exact aw_locl rfl (c9 _ hk hlb (fun ρ2 Z2 S2 g9 r9 w9 => by rw [hPO, refZ_2 hla hlb]; exact ⟨ρ2, Z2, rfl, g9, r9, w9⟩))
        · first | refine a_aload_n K dX11_fills_0 rfl ?_ | refine a_aload_nN K dX11_fills_0 rfl ?_
          refine a_iload_n K dX11_fills_1 rfl ?_
          refine a_iload_n K dX11_fills_2 rfl ?_
          refine a_invV K (m_child hM (r := ρ T.1) (k := (a :: A2).length) hr (by omega)) my_X11_child ml_X11_197 im_X11_child se_X11_child (ci := 11) (by exact lm_o hM) (by decide) ⟨_, _, rfl⟩ rfl (by omega) (by omega) (by omega) rfl (Nat.le_of_ble_eq_true rfl) dX11_fills_3 ?_
          intro r9 S9 hp9
          obtain ⟨rfl, hS9⟩ := hp9
          obtain rfl := hS9.symm
          rw [(rp.kid hcc).2.1]
          refine a_istore K dX11_fills_6 (by decide) ?_
          refine a_iload_n K dX11_fills_8 rfl ?_
          refine a_if_le K dX11_fills_9 (tgt := 23) (by decide) (fun c_9 => absurd c_9 (nI_nle (by show 0 < (a :: A2).length; exact Nat.succ_pos _) (by omega))) (fun c_9 => ?_)
          first | refine a_aload_n K dX11_fills_12 rfl ?_ | refine a_aload_nN K dX11_fills_12 rfl ?_
          refine a_iload_n K dX11_fills_13 rfl ?_
          refine a_iload_n K dX11_fills_14 rfl ?_
          refine a_iconst K dX11_fills_15 (v := 1) (by decide) ?_
          refine a_isub K dX11_fills_16 ?_
          rw [show nI (a :: A2).length - 1 = nI A2.length from nI_pred _]
          refine a_invV K (m_child hM (r := ρ T.1) (k := A2.length) hr (by omega)) my_X11_child ml_X11_197 im_X11_child se_X11_child (ci := 11) (by exact lm_o hM) (by decide) ⟨_, _, rfl⟩ rfl (by omega) (by omega) (by omega) rfl (Nat.le_of_ble_eq_true rfl) dX11_fills_17 ?_
          intro r9 S9 hp9
          obtain ⟨rfl, hS9⟩ := hp9
          obtain rfl := hS9.symm
          rw [(rp.kid hca).2.1]
          refine a_goto K dX11_fills_20 (tgt := 24) (by decide) ?_
          refine a_istore K dX11_fills_24 (by decide) ?_
          refine a_iload_n K dX11_fills_26 rfl ?_
          refine a_iconst K dX11_fills_27 (v := 1) (by decide) ?_
          refine a_iadd K dX11_fills_28 ?_
          rw [nI_1]
          first | refine a_aload_n K dX11_fills_29 rfl ?_ | refine a_aload_nN K dX11_fills_29 rfl ?_
          refine a_getRs K fd_X11_26 (by exact lm_o hM) (Or.inr ⟨_, rfl⟩) (by exact lm_r715 hM) dX11_fills_30 ?_
          refine a_iload_n K dX11_fills_33 rfl ?_
          refine a_iald K (by exact lm_kk hM (by decide) (by decide)) (by show vp_in _ (sN S (m 5)); exact lm_ix (z := 12000) hM (by decide) (by decide) (show ρ T.1 < 12000 by omega) (by decide)) dX11_fills_34 ?_
          rw [nI_clamp (by omega)]
          rw [show sA S (m 5) (ρ T.1) = nI (kds T).length from rp.1.2.2.1]
          refine a_icmp_ge K dX11_fills_35 (tgt := 49) (by decide) (fun c_35 => absurd c_35 (nI_ge (by omega) (by omega))) (fun c_35 => ?_)
          first | refine a_aload_n K dX11_fills_38 rfl ?_ | refine a_aload_nN K dX11_fills_38 rfl ?_
          refine a_iload_n K dX11_fills_39 rfl ?_
          refine a_iload_n K dX11_fills_40 rfl ?_
          refine a_iconst K dX11_fills_41 (v := 1) (by decide) ?_
          refine a_iadd K dX11_fills_42 ?_
          rw [nI_1]
          refine a_invV K (m_child hM (r := ρ T.1) (k := (a :: A2).length + 1) hr (by omega)) my_X11_child ml_X11_197 im_X11_child se_X11_child (ci := 11) (by exact lm_o hM) (by decide) ⟨_, _, rfl⟩ rfl (by omega) (by omega) (by omega) rfl (Nat.le_of_ble_eq_true rfl) dX11_fills_43 ?_
          intro r9 S9 hp9
          obtain ⟨rfl, hS9⟩ := hp9
          obtain rfl := hS9.symm
          rw [(rp.kid hcb).2.1]
          refine a_goto K dX11_fills_46 (tgt := 50) (by decide) ?_
          refine a_istore K dX11_fills_50 (by decide) ?_
          refine a_iload K dX11_fills_52 rfl ?_
          refine a_iconst K dX11_fills_54 (v := -1) (by decide) ?_
          refine a_icmp_eq K dX11_fills_55 (tgt := 148) (by decide) (fun c_55 => absurd c_55 (nI_m1n (by have := (rp.kid hca).1.own.1; omega))) (fun c_55 => ?_)
          first | refine a_aload_n K dX11_fills_58 rfl ?_ | refine a_aload_nN K dX11_fills_58 rfl ?_
          refine a_getRs K fd_X11_26 (by exact lm_o hM) (Or.inr ⟨_, rfl⟩) (by exact lm_r715 hM) dX11_fills_59 ?_
          refine a_iload K dX11_fills_62 rfl ?_
          refine a_iald K (by exact lm_kk hM (by decide) (by decide)) (by show vp_in _ (sN S (m 5)); exact lm_ix (z := 12000) hM (by decide) (by decide) (show ρ a.1 < 12000 by omega) (by decide)) dX11_fills_64 ?_
          rw [nI_clamp (by omega)]
          rw [show sA S (m 5) (ρ a.1) = nI a.2.2.length from (rp.kid hca).1.own.2.2.1]
          first | refine a_aload_n K dX11_fills_65 rfl ?_ | refine a_aload_nN K dX11_fills_65 rfl ?_
          refine a_invV K (q_least hM hw hw6) my_X11_least ml_X11_232 im_X11_least se_X11_least (ci := 11) (by exact lm_o hM) (by decide) ⟨_, _, rfl⟩ rfl (by omega) (by omega) (by omega) rfl (Nat.le_of_ble_eq_true rfl) dX11_fills_66 ?_
          intro r9 S9 hp9
          obtain ⟨rfl, hS9⟩ := hp9
          obtain rfl := hS9.symm
          refine a_icmp_le K dX11_fills_69 (tgt := 148) (by decide) (fun c_69 => ?_) (fun c_69 => absurd c_69 (fun z => z (nI_le (b := lea w) (by omega) (by omega))))
          refine a_iload K dX11_fills_148 rfl ?_
          refine a_iconst K dX11_fills_150 (v := -1) (by decide) ?_
          refine a_icmp_eq K dX11_fills_151 (tgt := 235) (by decide) (fun c_151 => absurd c_151 (nI_m1n (by have := (rp.kid hcb).1.own.1; omega))) (fun c_151 => ?_)
          first | refine a_aload_n K dX11_fills_154 rfl ?_ | refine a_aload_nN K dX11_fills_154 rfl ?_
          refine a_getRs K fd_X11_26 (by exact lm_o hM) (Or.inr ⟨_, rfl⟩) (by exact lm_r715 hM) dX11_fills_155 ?_
          refine a_iload K dX11_fills_158 rfl ?_
          refine a_iald K (by exact lm_kk hM (by decide) (by decide)) (by show vp_in _ (sN S (m 5)); exact lm_ix (z := 12000) hM (by decide) (by decide) (show ρ bb.1 < 12000 by omega) (by decide)) dX11_fills_160 ?_
          rw [nI_clamp (by omega)]
          rw [show sA S (m 5) (ρ bb.1) = nI bb.2.2.length from (rp.kid hcb).1.own.2.2.1]
          first | refine a_aload_n K dX11_fills_161 rfl ?_ | refine a_aload_nN K dX11_fills_161 rfl ?_
          refine a_invV K (q_least hM hw hw6) my_X11_least ml_X11_232 im_X11_least se_X11_least (ci := 11) (by exact lm_o hM) (by decide) ⟨_, _, rfl⟩ rfl (by omega) (by omega) (by omega) rfl (Nat.le_of_ble_eq_true rfl) dX11_fills_162 ?_
          intro r9 S9 hp9
          obtain ⟨rfl, hS9⟩ := hp9
          obtain rfl := hS9.symm
          refine a_icmp_le K dX11_fills_165 (tgt := 235) (by decide) (fun c_165 => ?_) (fun c_165 => absurd c_165 (fun z => z (nI_le (b := lea w) (by omega) (by omega))))
          refine a_iload K dX11_fills_235 rfl ?_
          refine a_iconst K dX11_fills_237 (v := -1) (by decide) ?_
          refine a_icmp_eq K dX11_fills_238 (tgt := 334) (by decide) (fun c_238 => absurd c_238 (nI_m1n (by have := (rp.kid hca).1.own.1; omega))) (fun c_238 => ?_)
          have c9 := c3 A2.reverse (bb :: B2) a
          rw [List.length_reverse] at c9
          exact aw_locl rfl (c9 _ (by rw [hk, List.reverse_cons, List.append_assoc]; rfl) hla (fun ρ2 Z2 S2 g9 r9 w9 => by rw [hPO, refZ_3 hla hlb]; exact ⟨ρ2, Z2, rfl, g9, r9, w9⟩))
