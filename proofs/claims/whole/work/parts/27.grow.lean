/-- where the nodes are: ad the objects, ar their rows, by number below u -/
def AD (S : aw_S) (ad ar : Nat → Nat) (u : Nat) : Prop := ∀ i, i < u → (aw_is S (ad i) 4 ∧ ar i ∈ sL S ∧ (sK S (ar i) = 13 ∨ sK S (ar i) = 16)) ∧ ∀ j, j < u → (ad i = ad j → i = j) ∧ (ar i = ar j → i = j)
theorem AD.ne {S : aw_S} {ad ar : Nat → Nat} {u i j : Nat} (h : AD S ad ar u) (hi : i < u) (hj : j < u) : ad i ≠ ar j := fun z => by
  have h1 := (h i hi).1.1.2
  have h2 := (h j hj).1.2.2
  rw [z] at h1
  omega
theorem AD.frn {S S2 : aw_S} {P : Nat → Prop} {ad ar : Nat → Nat} {u : Nat} (h : AD S ad ar u) (f : fr S S2 P) : AD S2 ad ar u := fun i hi => ⟨⟨f.is (h i hi).1.1, (f _ (h i hi).1.2.1).1.1, by rw [(f _ (h i hi).1.2.1).1.2.1]; exact (h i hi).1.2.2⟩, (h i hi).2⟩
/-- the cells that may change: the grower's, and those of nodes with this token -/
def GP (ad ar : Nat → Nat) (g tk : Nat) (L : List (Nat × Nat)) (b : Nat) : Prop := b = g ∨ ∃ x ∈ L, x.2 = tk ∧ (b = ad x.1 ∨ b = ar x.1)
def GR (S S2 : aw_S) (ad ar ad2 ar2 : Nat → Nat) (u u2 g tk : Nat) (L : List (Nat × Nat)) : Prop := u ≤ u2 ∧ (∀ i, i < u → ad2 i = ad i ∧ ar2 i = ar i) ∧ AD S2 ad2 ar2 u2 ∧ (∀ i, u ≤ i → i < u2 → ad2 i ∉ sL S ∧ ar2 i ∉ sL S ∧ sI S2 260 (ad2 i) = 0) ∧ GN S S2 g (u2 - u) ∧ fr S S2 (GP ad ar g tk L)
theorem GR.rf {S : aw_S} {ad ar : Nat → Nat} {u g tk : Nat} {L : List (Nat × Nat)} (h : AD S ad ar u) : GR S S ad ar ad ar u u g tk L := ⟨Nat.le_refl _, fun _ _ => ⟨rfl, rfl⟩, h, fun i h1 h2 => absurd h2 (by omega), by rw [Nat.sub_self]; exact GN.rf, fr.rf⟩
theorem GR.mono {S S2 : aw_S} {ad ar ad2 ar2 : Nat → Nat} {u u2 g tk : Nat} {L L2 : List (Nat × Nat)} (h : GR S S2 ad ar ad2 ar2 u u2 g tk L) (hL : ∀ x ∈ L, x.2 = tk → x ∈ L2) : GR S S2 ad ar ad2 ar2 u u2 g tk L2 := by
  obtain ⟨h1, h2, h3, h4, h5, h6⟩ := h
  exact ⟨h1, h2, h3, h4, h5, h6.mono (fun b _ hb => hb.imp id (fun ⟨x, hx, hk, hz⟩ => ⟨x, hL x hx hk, hk, hz⟩))⟩
theorem GR.is {S S2 : aw_S} {ad ar ad2 ar2 : Nat → Nat} {u u2 g tk : Nat} {L : List (Nat × Nat)} (h : GR S S2 ad ar ad2 ar2 u u2 g tk L) {b c : Nat} (k : aw_is S b c) : aw_is S2 b c := h.2.2.2.2.2.is k
theorem GR.wd {S S2 : aw_S} {ad ar ad2 ar2 : Nat → Nat} {u u2 g tk : Nat} {L : List (Nat × Nat)} (h : GR S S2 ad ar ad2 ar2 u u2 g tk L) : sI S2 64 g = sI S 64 g := h.2.2.2.2.1.2.1
theorem GR.tr {S S2 S3 : aw_S} {ad ar ad2 ar2 ad3 ar3 : Nat → Nat} {u u2 u3 g tk : Nat} {L L2 : List (Nat × Nat)} (h : GR S S2 ad ar ad2 ar2 u u2 g tk L) (k : GR S2 S3 ad2 ar2 ad3 ar3 u2 u3 g tk L2) (hL : ∀ x ∈ L2, x.2 = tk → (x ∈ L ∧ x.1 < u) ∨ (u ≤ x.1 ∧ x.1 < u2)) : GR S S3 ad ar ad3 ar3 u u3 g tk L := by
  obtain ⟨h1, h2, h3, h4, h5, h6⟩ := h
  obtain ⟨k1, k2, k3, k4, k5, k6⟩ := k
  refine ⟨Nat.le_trans h1 k1, fun i hi => ?_, k3, fun i hi hi2 => ?_, ?_, h6.tr k6 (fun _ _ z => z) (fun b hb hz => ?_)⟩
  · obtain ⟨e1, e2⟩ := h2 i hi
    obtain ⟨e3, e4⟩ := k2 i (by omega)
    exact ⟨e3.trans e1, e4.trans e2⟩
  · by_cases hq : i < u2
    · obtain ⟨e3, e4⟩ := k2 i hq
      obtain ⟨m1, m2, m3⟩ := h4 i hi hq
      rw [e3, e4]
      exact ⟨m1, m2, ((k6 _ (h3 i hq).1.1.1).1.2.2.2.2.2.2 260 (Or.inl rfl)).trans m3⟩
    · obtain ⟨m1, m2, m3⟩ := k4 i (by omega) hi2
      exact ⟨fun z => m1 (h6 _ z).1.1, fun z => m2 (h6 _ z).1.1, m3⟩
  · have e := h5.tr k5
    rwa [show u2 - u + (u3 - u2) = u3 - u by omega] at e
  · rcases hz with hz | ⟨x, hx, hk, hz⟩
    · exact Or.inl hz
    · rcases hL x hx hk with ⟨a1, a2⟩ | ⟨a1, a2⟩
      · obtain ⟨e1, e2⟩ := h2 x.1 a2
        exact Or.inr ⟨x, a1, hk, hz.imp (fun y => y.trans e1) (fun y => y.trans e2)⟩
      · obtain ⟨m1, m2, -⟩ := h4 x.1 a1 a2
        rcases hz with rfl | rfl
        · exact absurd hb m1
        · exact absurd hb m2
/-- the last step's list is of what has grown -/
theorem GR.trg {S S2 S3 : aw_S} {ad ar ad2 ar2 ad3 ar3 : Nat → Nat} {u u2 u3 g tk : Nat} {L L2 : List (Nat × Nat)} (h : GR S S2 ad ar ad2 ar2 u u2 g tk L) (k : GR S2 S3 ad2 ar2 ad3 ar3 u2 u3 g tk L2) (hL : grw u u2 tk L L2) (b : bdd u L) : GR S S3 ad ar ad3 ar3 u u3 g tk L := h.tr k (fun x hx _ => (hL.2.1 x hx).imp (fun z => ⟨z, b.1 x z⟩) (fun z => ⟨z.1, z.2.1⟩))
theorem frS.gr {S S2 : aw_S} {Q : Nat → Prop} {ad ar : Nat → Nat} {u g tk : Nat} {L : List (Nat × Nat)} (f : frS S S2 Q) (hA : AD S ad ar u) (og : aw_is S g 1) (hL : ∀ x ∈ L, x.1 < u) (hQ : ∀ b, Q b → ∃ x ∈ L, x.2 = tk ∧ (b = ad x.1 ∨ b = ar x.1)) : GR S S2 ad ar ad ar u u g tk L := by
  refine ⟨Nat.le_refl _, fun _ _ => ⟨rfl, rfl⟩, hA.frn f.fr, fun i h1 h2 => absurd h2 (by omega), ?_, f.fr.mono (fun b _ hb => Or.inr (hQ b hb))⟩
  rw [Nat.sub_self]
  refine GN.fr f (fun z => ?_)
  obtain ⟨x, hx, -, hz⟩ := hQ g z
  have h1 := (hA x.1 (hL x hx)).1
  have h2 := og.2
  rcases hz with hz | hz
  · rw [hz] at h2
    have h3 := h1.1.2
    omega
  · rw [hz] at h2
    have h3 := h1.2.2
    omega
theorem mkN.gr {S S2 : aw_S} {g q1 q2 : Nat} {lf : Bool} {l : List SD} {tkI : Int32} {ad ar : Nat → Nat} {u tk : Nat} (m : mkN S S2 g q1 q2 lf l tkI) (hA : AD S ad ar u) (L : List (Nat × Nat)) : GR S S2 ad ar (va_up ad u q1) (va_up ar u q2) u (u + 1) g tk L := by
  obtain ⟨m1, m2, m3, m4, m5, m6, m7, m8⟩ := m
  have e1 : ∀ i, i < u → va_up ad u q1 i = ad i ∧ va_up ar u q2 i = ar i := fun i hi => ⟨va_up_ne _ _ (by omega), va_up_ne _ _ (by omega)⟩
  have hA2 := hA.frn m7
  refine ⟨Nat.le_succ _, e1, fun i hi => ?_, fun i h1 h2 => ?_, by rw [Nat.add_sub_cancel_left]; exact m8, m7.mono (fun b _ hb => Or.inl hb)⟩
  · by_cases hq : i < u
    · rw [(e1 i hq).1, (e1 i hq).2]
      refine ⟨(hA2 i hq).1, fun j hj => ?_⟩
      by_cases hr : j < u
      · rw [(e1 j hr).1, (e1 j hr).2]
        exact (hA i hq).2 j hr
      · have e : j = u := by omega
        subst e
        rw [va_up_self, va_up_self]
        exact ⟨fun z => absurd (hA i hq).1.1.1 (z ▸ m1), fun z => absurd (hA i hq).1.2.1 (z ▸ m2)⟩
    · have e : i = u := by omega
      subst e
      rw [va_up_self, va_up_self]
      refine ⟨⟨m4.1.1, m4.1.2.2.2.1.1, ?_⟩, fun j hj => ?_⟩
      · have h3 := m4.1.2.2.2.1.2
        cases lf
        · exact Or.inr (by simpa using h3)
        · exact Or.inl (by simpa using h3)
      · by_cases hr : j < i
        · rw [(e1 j hr).1, (e1 j hr).2]
          exact ⟨fun z => absurd (hA j hr).1.1.1 (z ▸ m1), fun z => absurd (hA j hr).1.2.1 (z ▸ m2)⟩
        · exact ⟨fun _ => by omega, fun _ => by omega⟩
  · have e : i = u := by omega
    subst e
    rw [va_up_self, va_up_self]
    exact ⟨m1, m2, m6⟩
def RepL (S : aw_S) (ad ar : Nat → Nat) : (h : Nat) → List (Ct h) → Prop
  | 0, _ => True
  | h + 1, l => ∀ c : Tr h, c ∈ (show List (Tr h) from l) → RepW S ad ar h c
theorem RepW_L {S : aw_S} {ad ar : Nat → Nat} {h : Nat} {t : Tr h} : RepW S ad ar h t ↔ OwnW S ad ar h t ∧ RepL S ad ar h t.2.2 := by
  cases h with
  | zero => exact ⟨fun z => ⟨z, trivial⟩, fun z => z.1⟩
  | succ h => exact Iff.rfl
theorem RepL_app {S : aw_S} {ad ar : Nat → Nat} {h : Nat} {a b : List (Ct h)} : RepL S ad ar h (a ++ b) ↔ RepL S ad ar h a ∧ RepL S ad ar h b := by
  cases h with
  | zero => exact ⟨fun _ => ⟨trivial, trivial⟩, fun _ => trivial⟩
  | succ h => exact ⟨fun z => ⟨fun c hc => z c (List.mem_append_left _ hc), fun c hc => z c (List.mem_append_right _ hc)⟩, fun z c hc => (List.mem_append.mp hc).elim (z.1 c) (z.2 c)⟩
theorem mem_own {h : Nat} (t : Tr h) : ((t.1, t.2.1) : Nat × Nat) ∈ ndl h t := by rw [ndl_L]; exact List.mem_cons_self
theorem rawC_cg {ad ad2 : Nat → Nat} {h : Nat} {l : List (Ct h)} (hc : ∀ x ∈ blw h l, ad2 x.1 = ad x.1) : l.map (rawC ad2 h) = l.map (rawC ad h) := by
  cases h with
  | zero => rfl
  | succ h =>
    refine List.map_congr_left (fun c hm => ?_)
    have h1 : ((c.1, c.2.1) : Nat × Nat) ∈ blw (h + 1) l := List.mem_flatMap.mpr ⟨c, hm, mem_own (show Tr h from c)⟩
    have h2 := hc _ h1
    show Sum.inr (some (ad2 c.1)) = Sum.inr (some (ad c.1))
    rw [h2]
theorem mem_kd {h : Nat} {t : Tr (h + 1)} {c : Tr h} (hc : c ∈ kds t) {x : Nat × Nat} (hx : x ∈ ndl h c) : x ∈ ndl (h + 1) t := List.mem_cons_of_mem _ (List.mem_flatMap.mpr ⟨c, hc, hx⟩)
theorem mem_blw {h : Nat} {t : Tr h} {x : Nat × Nat} (hx : x ∈ blw h t.2.2) : x ∈ ndl h t := by rw [ndl_L]; exact List.mem_cons_of_mem _ hx
theorem OwnW.frn {S S2 : aw_S} {P : Nat → Prop} {ad ar ad2 ar2 : Nat → Nat} {h : Nat} {t : Tr h} (r : OwnW S ad ar h t) (f : fr S S2 P) (hx : ¬ P (ad t.1) ∧ ¬ P (ar t.1) ∧ ad2 t.1 = ad t.1 ∧ ar2 t.1 = ar t.1) (hc : ∀ x ∈ blw h t.2.2, ad2 x.1 = ad x.1) : OwnW S2 ad2 ar2 h t := by
  obtain ⟨n1, n2, e1, e2⟩ := hx
  have nl := NL_frn r.2 f n1 n2
  refine ⟨⟨?_, r.1.2⟩, ?_⟩
  · rw [e1, ((f _ r.2.1.1.1).2 n1).1]
    exact r.1.1
  · rw [e1, e2, rawC_cg hc]
    exact nl
theorem RepW_fr {S S2 : aw_S} {P : Nat → Prop} {ad ar ad2 ar2 : Nat → Nat} (f : fr S S2 P) : ∀ (h : Nat) {t : Tr h}, RepW S ad ar h t → (∀ x ∈ ndl h t, ¬ P (ad x.1) ∧ ¬ P (ar x.1) ∧ ad2 x.1 = ad x.1 ∧ ar2 x.1 = ar x.1) → RepW S2 ad2 ar2 h t := by
  intro h
  induction h with
  | zero => intro t r hx; exact OwnW.frn r f (hx _ (mem_own t)) (fun x hx => absurd hx (by simp [blw]))
  | succ h ih => intro t r hx; exact ⟨OwnW.frn r.1 f (hx _ (mem_own t)) (fun x hm => (hx x (mem_blw hm)).2.2.1), fun c hc => ih (r.2 c hc) (fun x hm => hx x (mem_kd hc hm))⟩
theorem GP_no {S : aw_S} {ad ar : Nat → Nat} {u g tk : Nat} {L : List (Nat × Nat)} (hA : AD S ad ar u) (og : aw_is S g 1) {i : Nat} (hi : i < u) (hL : ∀ y ∈ L, y.2 = tk → y.1 < u ∧ y.1 ≠ i) : ¬ GP ad ar g tk L (ad i) ∧ ¬ GP ad ar g tk L (ar i) := by
  have h1 := (hA i hi).1
  have h2 := og.2
  refine ⟨fun z => ?_, fun z => ?_⟩
  · rcases z with z | ⟨y, hy, hk, z | z⟩
    · have h3 := h1.1.2
      rw [z] at h3
      omega
    · exact (hL y hy hk).2 ((hA i hi).2 _ (hL y hy hk).1 |>.1 z).symm
    · exact hA.ne hi (hL y hy hk).1 z
  · rcases z with z | ⟨y, hy, hk, z | z⟩
    · have h3 := h1.2.2
      rw [z] at h3
      omega
    · exact hA.ne (hL y hy hk).1 hi z.symm
    · exact (hL y hy hk).2 ((hA i hi).2 _ (hL y hy hk).1 |>.2 z).symm
theorem RepW.gr {S S2 : aw_S} {ad ar ad2 ar2 : Nat → Nat} {u u2 g tk : Nat} {L : List (Nat × Nat)} (hA : AD S ad ar u) (og : aw_is S g 1) (G : GR S S2 ad ar ad2 ar2 u u2 g tk L) {h : Nat} {t : Tr h} (r : RepW S ad ar h t) (hx : ∀ x ∈ ndl h t, x.1 < u ∧ ∀ y ∈ L, y.2 = tk → y.1 < u ∧ y.1 ≠ x.1) : RepW S2 ad2 ar2 h t := RepW_fr G.2.2.2.2.2 h r (fun x hm => by
  obtain ⟨a, b⟩ := hx x hm
  obtain ⟨n1, n2⟩ := GP_no hA og a b
  exact ⟨n1, n2, G.2.1 x.1 a⟩)
theorem RepL.gr {S S2 : aw_S} {ad ar ad2 ar2 : Nat → Nat} {u u2 g tk : Nat} {L : List (Nat × Nat)} (hA : AD S ad ar u) (og : aw_is S g 1) (G : GR S S2 ad ar ad2 ar2 u u2 g tk L) {h : Nat} {l : List (Ct h)} (r : RepL S ad ar h l) (hx : ∀ x ∈ blw h l, x.1 < u ∧ ∀ y ∈ L, y.2 = tk → y.1 < u ∧ y.1 ≠ x.1) : RepL S2 ad2 ar2 h l := by
  cases h with
  | zero => exact trivial
  | succ h => exact fun c hc => RepW.gr hA og G (r c hc) (fun x hm => hx x (List.mem_flatMap.mpr ⟨c, hc, hm⟩))
theorem OwnW.gr {S S2 : aw_S} {ad ar ad2 ar2 : Nat → Nat} {u u2 g tk : Nat} {L : List (Nat × Nat)} (hA : AD S ad ar u) (og : aw_is S g 1) (G : GR S S2 ad ar ad2 ar2 u u2 g tk L) {h : Nat} {t : Tr h} (r : OwnW S ad ar h t) (ht : t.1 < u) (hc : ∀ x ∈ blw h t.2.2, x.1 < u) (hx : ∀ y ∈ L, y.2 = tk → y.1 < u ∧ y.1 ≠ t.1) : OwnW S2 ad2 ar2 h t := by
  obtain ⟨n1, n2⟩ := GP_no hA og ht hx
  exact OwnW.frn r G.2.2.2.2.2 ⟨n1, n2, G.2.1 t.1 ht⟩ (fun x hm => (G.2.1 x.1 (hc x hm)).1)
theorem OwnW_k {S : aw_S} {ad ar : Nat → Nat} {h id tk : Nat} {l : List (Tr h)} (h1 : sI S 256 (ad id) = nI tk) (h2 : tk < 2147483648) (nl : NL S (ad id) false (ar id) (ksS (l.map (fun c => ad c.1)))) : OwnW S ad ar (h + 1) (nod id tk l) := by
  refine ⟨⟨h1, h2⟩, ?_⟩
  show NL S (ad id) false (ar id) (List.map (rawC ad (h + 1)) l)
  rw [rawC_l ad l]
  exact nl
theorem OwnW_l {S : aw_S} {ad ar : Nat → Nat} {id tk : Nat} {l : List KV} (h1 : sI S 256 (ad id) = nI tk) (h2 : tk < 2147483648) (nl : NL S (ad id) true (ar id) (esS l)) : OwnW S ad ar 0 (id, tk, l) := ⟨⟨h1, h2⟩, nl⟩
theorem OwnW_new {S S2 : aw_S} {ad ar : Nat → Nat} {g q1 q2 h u tk : Nat} {l : List (Ct h)} (m : mkN S S2 g q1 q2 (lfB h) (l.map (rawC ad h)) (nI tk)) (ht : tk < 2147483648) (hc : ∀ x ∈ blw h l, x.1 < u) : OwnW S2 (va_up ad u q1) (va_up ar u q2) h (u, tk, l) := by
  refine ⟨⟨?_, ht⟩, ?_⟩
  · show sI S2 256 (va_up ad u q1 u) = _
    rw [va_up_self]
    exact m.2.2.2.2.1
  · show NL S2 (va_up ad u q1 u) _ (va_up ar u q2 u) (l.map (rawC (va_up ad u q1) h))
    rw [va_up_self, va_up_self, rawC_cg (ad := ad) (fun x hx => va_up_ne _ _ (by have := hc x hx; omega))]
    exact m.2.2.2.1
theorem nI_ne {a b : Nat} (ha : a < 2147483648) (hb : b < 2147483648) (h : ¬ a = b) : ¬ nI a = nI b := fun z => h (nI_inj ha hb z)
theorem m_edited {S : aw_S} {ad ar : Nat → Nat} {gw u h tk : Nat} {t : Tr h} (o : aw_is S gw 1) (hA : AD S ad ar u) (r : OwnW S ad ar h t) (hb : ∀ x ∈ blw h t.2.2, x.1 < u) (ht : tk < 2147483648) : aw_M yX1_edited cX1_edited 3 (some (FieldType.object "WideMap$Node")) 2 (2 * ((edt tk u t).2 - u)) (19 * ((edt tk u t).2 - u)) [.ref gw, .ref (ad t.1), .int (nI tk)] S (fun r S2 => ∃ ad2 ar2, r = some (.ref (ad2 (edt tk u t).1.1)) ∧ OwnW S2 ad2 ar2 h (edt tk u t).1 ∧ GR S S2 ad ar ad2 ar2 u (edt tk u t).2 gw tk []) := by
  by_cases hk : t.2.1 = tk
  · have e : edt tk u t = (t, u) := if_pos hk
    rw [e]
    show aw_M _ _ _ _ _ (2 * (u - u)) (19 * (u - u)) _ _ _
    rw [Nat.sub_self]
    refine (m_X1_edited_0 o r.2.1.1 (by rw [r.1.1, hk])).post (fun r2 S2 hp => ?_)
    obtain ⟨rfl, rfl⟩ := hp
    exact ⟨ad, ar, rfl, r, GR.rf hA⟩
  · have e : edt tk u t = ((u, tk, t.2.2), u + 1) := if_neg hk
    rw [e]
    show aw_M _ _ _ _ _ (2 * (u + 1 - u)) (19 * (u + 1 - u)) _ _ _
    rw [Nat.add_sub_cancel_left]
    have hn : ¬ sI S 256 (ad t.1) = nI tk := by rw [r.1.1]; exact nI_ne r.1.2 ht hk
    have key : ∀ (r2 : Option Value) (S2 : aw_S), (∃ q1 q2, r2 = some (.ref q1) ∧ mkN S S2 gw q1 q2 (lfB h) (t.2.2.map (rawC ad h)) (nI tk)) → ∃ ad2 ar2, r2 = some (.ref (ad2 u)) ∧ OwnW S2 ad2 ar2 h (u, tk, t.2.2) ∧ GR S S2 ad ar ad2 ar2 u (u + 1) gw tk [] := by
      intro r2 S2 hp
      obtain ⟨q1, q2, hr, m⟩ := hp
      exact ⟨va_up ad u q1, va_up ar u q2, by rw [va_up_self]; exact hr, OwnW_new m ht hb, m.gr hA []⟩
    cases h with
    | zero => exact (m_X1_edited_l o r.2 hn).post key
    | succ h => exact (m_X1_edited_k o r.2 hn).post key
theorem kset {ad ad2 : Nat → Nat} {h : Nat} {ks : List (Tr h)} {p : Nat} {e : Tr h} (hp : p < ks.length) (hc : ∀ c ∈ ks, ad2 c.1 = ad c.1) : (ks.map (fun c => ad c.1)).set p (ad2 e.1) = (ks.take p ++ e :: ks.drop (p + 1)).map (fun c => ad2 c.1) := by
  rw [List.set_eq_take_append_cons_drop, if_pos (by rw [List.length_map]; exact hp), List.map_append, List.map_cons, ← List.map_take, ← List.map_drop]
  congr 1
  · exact List.map_congr_left (fun c h => (hc c (List.mem_of_mem_take h)).symm)
  · congr 1
    exact List.map_congr_left (fun c h => (hc c (List.mem_of_mem_drop h)).symm)
theorem edt_c {h tk u : Nat} (c : Tr h) : (edt tk u c).1 = c ∧ (edt tk u c).2 = u ∨ (edt tk u c).1 = (u, tk, c.2.2) ∧ (edt tk u c).2 = u + 1 := by
  unfold edt
  split
  · exact Or.inl ⟨rfl, rfl⟩
  · exact Or.inr ⟨rfl, rfl⟩
theorem edt_le {h tk u : Nat} (c : Tr h) : u ≤ (edt tk u c).2 := by
  rcases edt_c (tk := tk) (u := u) c with ⟨-, h2⟩ | ⟨-, h2⟩ <;> omega
/-- one edited, its children as they were -/
theorem edt_rep {S S2 : aw_S} {ad ar ad2 ar2 : Nat → Nat} {gw u h tk : Nat} {t : Tr h} (o : aw_is S gw 1) (hA : AD S ad ar u) (r : RepW S ad ar h t) (hb : ∀ x ∈ ndl h t, x.1 < u) (w : OwnW S2 ad2 ar2 h (edt tk u t).1) (G : GR S S2 ad ar ad2 ar2 u (edt tk u t).2 gw tk []) : RepW S2 ad2 ar2 h (edt tk u t).1 := RepW_L.mpr ⟨w, by
  rw [edt_it]
  exact RepL.gr hA o G (RepW_L.mp r).2 (fun x hx => ⟨hb x (mem_blw hx), fun y hy => absurd hy (by simp)⟩)⟩
theorem ek_ret {S S9 S10 : aw_S} {ad ar ad2 ar2 : Nat → Nat} {gw u h tk p : Nat} {t : Tr (h + 1)} {c : Tr h} (o : aw_is S gw 1) (hA : AD S ad ar u) (r : RepW S ad ar (h + 1) t) (hb : bdd u (ndl (h + 1) t)) (ht : tk < 2147483648) (hk : t.2.1 = tk) (hp : p < (kds t).length) (hcm : c ∈ kds t) (reE : RepW S9 ad2 ar2 h (edt tk u c).1) (G1 : GR S S9 ad ar ad2 ar2 u (edt tk u c).2 gw tk []) (ow9 : OwnW S9 ad2 ar2 (h + 1) t) (nl : NL S10 (ad2 t.1) false (ar2 t.1) (ksS (((kds t).map (fun c => ad2 c.1)).set p (ad2 (edt tk u c).1.1)))) (f10 : frS S9 S10 (fun b => b = ar2 t.1)) : GR S S10 ad ar ad2 ar2 u (edt tk u c).2 gw tk [(t.1, t.2.1)] ∧ RepW S10 ad2 ar2 (h + 1) (nod t.1 t.2.1 ((kds t).take p ++ (edt tk u c).1 :: (kds t).drop (p + 1))) := by
  have o9 := G1.is o
  have hu : t.1 < u := hb.1 _ (mem_own t)
  have hle := edt_le (tk := tk) (u := u) c
  have hA9 := G1.2.2.1
  have G2 : GR S9 S10 ad2 ar2 ad2 ar2 (edt tk u c).2 (edt tk u c).2 gw tk [(t.1, t.2.1)] := f10.gr hA9 o9 (fun x hx => by rw [List.mem_singleton.mp hx]; exact Nat.lt_of_lt_of_le hu hle) (fun b hb2 => ⟨_, List.mem_singleton.mpr rfl, hk, Or.inr hb2⟩)
  have gT := edt_grw (h := h) (tk := tk) (u := u) (t := c) (hb.sub (by
    refine List.Sublist.trans ?_ (List.sublist_cons_self _ _)
    exact List.sublist_flatten_of_mem (List.mem_map_of_mem hcm)))
  have hnd : ∀ x ∈ ndl h c, x.1 ≠ t.1 := fun x hx z => by
    have h2 := hb.2
    rw [ndl_L, List.map_cons] at h2
    exact (List.nodup_cons.mp h2).1 (List.mem_map.mpr ⟨x, List.mem_flatMap.mpr ⟨c, hcm, hx⟩, z⟩)
  refine ⟨(G1.mono (fun x hx => absurd hx (by simp))).tr G2 (fun x hx _ => Or.inl ⟨hx, by rw [List.mem_singleton.mp hx]; exact hu⟩), ?_, ?_⟩
  · refine OwnW_k ?_ ow9.1.2 ?_
    · have n1 : ¬ ad2 t.1 = ar2 t.1 := hA9.ne (Nat.lt_of_lt_of_le hu hle) (Nat.lt_of_lt_of_le hu hle)
      rw [(f10.2.2.2.2.2.2.2 _ n1).1]
      exact ow9.1.1
    · rw [kset (ad := ad2) hp (fun _ _ => rfl)] at nl
      exact nl
  · have hk2 : ∀ d ∈ kds t, RepW S10 ad2 ar2 h d := fun d hd => RepW.gr hA9 o9 G2 (RepW.gr hA o G1 (r.2 d hd) (fun x hx => ⟨hb.1 x (mem_kd hd hx), fun y hy => absurd hy (by simp)⟩)) (fun x hx => ⟨Nat.lt_of_lt_of_le (hb.1 x (mem_kd hd hx)) hle, fun y hy _ => by
      rw [List.mem_singleton.mp hy]
      refine ⟨Nat.lt_of_lt_of_le hu hle, fun z => ?_⟩
      have h2 := hb.2
      rw [ndl_L, List.map_cons] at h2
      exact (List.nodup_cons.mp h2).1 (List.mem_map.mpr ⟨x, List.mem_flatMap.mpr ⟨d, hd, hx⟩, z.symm⟩)⟩)
    intro d hd
    rcases List.mem_append.mp hd with hd | hd
    · exact hk2 d (List.mem_of_mem_take hd)
    · rcases List.mem_cons.mp hd with rfl | hd
      · refine RepW.gr hA9 o9 G2 reE (fun x hx => ⟨(gT.2.1 x hx).elim (fun z => Nat.lt_of_lt_of_le (hb.1 x (mem_kd hcm z)) hle) (fun z => z.2.1), fun y hy _ => ?_⟩)
        rw [List.mem_singleton.mp hy]
        refine ⟨Nat.lt_of_lt_of_le hu hle, fun z => ?_⟩
        rcases gT.2.1 x hx with h3 | h3
        · exact hnd x h3 z.symm
        · have z2 : t.1 = x.1 := z
          omega
      · exact hk2 d (List.mem_of_mem_drop hd)
set_option maxHeartbeats 4000000 in
set_option maxRecDepth 100000 in
theorem m_editedKid {S : aw_S} {ad ar : Nat → Nat} {gw u h tk p : Nat} {t : Tr (h + 1)} {c : Tr h} (o : aw_is S gw 1) (hA : AD S ad ar u) (r : RepW S ad ar (h + 1) t) (hb : bdd u (ndl (h + 1) t)) (ht : tk < 2147483648) (hk : t.2.1 = tk) (hc : (kds t)[p]? = some c) : aw_M yX1_editedKid cX1_editedKid 6 (some (FieldType.object "WideMap$Node")) 3 (2 * ((edt tk u c).2 - u)) (19 * ((edt tk u c).2 - u)) [.ref gw, .ref (ad t.1), .int (nI p), .int (nI tk)] S (fun r S2 => ∃ ad2 ar2, r = some (.ref (ad2 (edt tk u c).1.1)) ∧ GR S S2 ad ar ad2 ar2 u (edt tk u c).2 gw tk [(t.1, t.2.1)] ∧ RepW S2 ad2 ar2 (h + 1) (nod t.1 t.2.1 ((kds t).take p ++ (edt tk u c).1 :: (kds t).drop (p + 1)))) := by
  have oT := r.is
  have h7 := kds_le7 r.own
  have hp := (List.getElem?_eq_some_iff.mp hc).1
  have hcm := List.mem_of_getElem? hc
  have rc := r.2 c hcm
  have ocK := rc.is
  have hle := edt_le (tk := tk) (u := u) c
  refine aw_enter (by decide +kernel) (Nat.le_of_ble_eq_true rfl) (fun g K E => ?_)
  first | refine a_aload_n K dX1_editedKid_0 rfl ?_ | refine a_aload_nN K dX1_editedKid_0 rfl ?_
  refine a_iload_n K dX1_editedKid_1 rfl ?_
  refine a_invV K (m_X4_kidAt (k := p) r.own.k (by omega)) my_X4_kidAt ml_X1_33 im_X4_kidAt se_X4_kidAt (ci := 4) (by assumption) (by decide) ⟨_, _, rfl⟩ rfl (by omega) (by omega) (by omega) rfl (Nat.le_of_ble_eq_true rfl) dX1_editedKid_2 ?_
  intro r9 S9 hp9
  obtain ⟨rfl, hS9⟩ := hp9
  obtain rfl := hS9.symm
  rw [List.getElem?_map, hc]
  first | refine a_astore K dX1_editedKid_5 (by decide) ?_ | refine a_astoreN K dX1_editedKid_5 (by decide) ?_
  first | refine a_aload K dX1_editedKid_7 rfl ?_ | refine a_aloadN K dX1_editedKid_7 rfl ?_
  refine a_ifnonnull K dX1_editedKid_9 (tgt := 14) (by decide) ?_
  first | refine a_aload_n K dX1_editedKid_14 rfl ?_ | refine a_aload_nN K dX1_editedKid_14 rfl ?_
  first | refine a_aload K dX1_editedKid_15 rfl ?_ | refine a_aloadN K dX1_editedKid_15 rfl ?_
  refine a_iload_n K dX1_editedKid_17 rfl ?_
  refine a_invV K (m_edited (t := c) o hA rc.own (fun x hx => hb.1 x (mem_kd hcm (mem_blw hx))) ht) my_X1_edited ml_X1_37 im_X1_edited se_X1_edited (ci := 1) (by assumption) (by decide) ⟨_, _, rfl⟩ rfl (by omega) (by omega) (by omega) rfl (Nat.le_of_ble_eq_true rfl) dX1_editedKid_18 ?_
  intro r9 S9 hp9
  obtain ⟨ad2, ar2, rfl, wE, G1⟩ := hp9
  have reE := edt_rep o hA rc (fun x hx => hb.1 x (mem_kd hcm hx)) wE G1
  have o9 := G1.is o
  have ow9 : OwnW S9 ad2 ar2 (h + 1) t := OwnW.gr hA o G1 r.own (hb.1 _ (mem_own t)) (fun x hx => hb.1 x (mem_blw hx)) (fun y hy => absurd hy (by simp))
  have oT9 := ow9.2.1.1
  have eT := (G1.2.1 t.1 (hb.1 _ (mem_own t))).1
  have nk := ow9.k
  rw [eT] at oT9 nk
  first | refine a_astore K dX1_editedKid_21 (by decide) ?_ | refine a_astoreN K dX1_editedKid_21 (by decide) ?_
  first | refine a_aload_n K dX1_editedKid_23 rfl ?_ | refine a_aload_nN K dX1_editedKid_23 rfl ?_
  refine a_iload_n K dX1_editedKid_24 rfl ?_
  first | refine a_aload K dX1_editedKid_25 rfl ?_ | refine a_aloadN K dX1_editedKid_25 rfl ?_
  refine a_invV K (m_X4_setKid (p := p) (b := ad2 (edt tk u c).1.1) nk (by rw [List.length_map]; exact hp) reE.is) my_X4_setKid ml_X1_41 im_X4_setKid se_X4_setKid (ci := 4) (by assumption) (by decide) ⟨_, _, rfl⟩ rfl (by omega) (by omega) (by omega) rfl (Nat.le_of_ble_eq_true rfl) dX1_editedKid_27 ?_
  intro r9 S10 hp9
  obtain ⟨rfl, nl, f10⟩ := hp9
  rw [← eT] at nl
  first | refine a_aload K dX1_editedKid_30 rfl ?_ | refine a_aloadN K dX1_editedKid_30 rfl ?_
  exact a_aret K E (Or.inl ⟨_, rfl⟩) (Or.inr ⟨_, rfl⟩) (by omega) (by omega) dX1_editedKid_32 ⟨ad2, ar2, rfl, ek_ret o hA r hb ht hk hp hcm reE G1 ow9 nl f10⟩
