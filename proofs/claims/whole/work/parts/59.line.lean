/-! the line a map comes from -/
/-- what a map comes from has a lower number -/
def PL (P : PS) : Prop := ∀ (i : Nat) (x : MI), (pM P)[i]? = some x → (x.2.1 = -1 ∨ ∃ j, j < i ∧ x.2.1 = nI j) ∧ (x.2.2 = -1 ∨ ∃ j, j < i ∧ x.2.2 = nI j)
def par (P : PS) (c i : Nat) : Prop := ∃ x : MI, (pM P)[c]? = some x ∧ (x.2.1 = nI i ∨ x.2.2 = nI i) ∧ i < 999
def ancN (P : PS) (a : Nat) : Nat → Nat → Prop
  | 0, i => i = a
  | n + 1, i => ancN P a n i ∨ ∃ c, ancN P a n c ∧ par P c i
def AN (P : PS) (a i : Nat) : Prop := ∃ n, ancN P a n i
theorem AN.self (P : PS) (a : Nat) : AN P a a := ⟨0, rfl⟩
theorem AN.up {P : PS} {a c i : Nat} (h : AN P a c) (k : par P c i) : AN P a i := by
  obtain ⟨n, h⟩ := h
  exact ⟨n + 1, Or.inr ⟨c, h, k⟩⟩
theorem AN.cases {P : PS} {a i : Nat} (h : AN P a i) : i = a ∨ ∃ c, AN P a c ∧ par P c i := by
  obtain ⟨n, h⟩ := h
  induction n with
  | zero => exact Or.inl h
  | succ n ih =>
    rcases h with h | ⟨c, h, k⟩
    · exact ih h
    · exact Or.inr ⟨c, ⟨n, h⟩, k⟩
theorem par.lt {P : PS} (hL : PL P) (hl : (pM P).length ≤ 999) {c i : Nat} (h : par P c i) : i < c := by
  obtain ⟨x, hx, h1, h2⟩ := h
  have hc := (List.getElem?_eq_some_iff.mp hx).1
  obtain ⟨a, b⟩ := hL c x hx
  have hm : ∀ {y : Int32}, (y = -1 ∨ ∃ j, j < c ∧ y = nI j) → y = nI i → i < c := fun {y} hy e => by
    rcases hy with hy | ⟨j, hj, hy⟩
    · exact absurd (e.symm.trans hy) (nI_m1n (by omega))
    · have := nI_inj (by omega) (by omega) (e.symm.trans hy)
      omega
  exact h1.elim (hm a) (hm b)
theorem AN.le {P : PS} (hL : PL P) (hl : (pM P).length ≤ 999) {a i : Nat} (h : AN P a i) : i ≤ a := by
  obtain ⟨n, h⟩ := h
  induction n generalizing i with
  | zero => exact Nat.le_of_eq h
  | succ n ih =>
    rcases h with h | ⟨c, h, k⟩
    · exact ih h
    · exact Nat.le_trans (Nat.le_of_lt (k.lt hL hl)) (ih h)
/-- the highest number from which both come -/
noncomputable def frkV (P : PS) (a b : Nat) : Int32 := @dite _ (∃ k, (AN P a k ∧ AN P b k) ∧ ∀ j, k < j → ¬ (AN P a j ∧ AN P b j)) (Classical.propDecidable _) (fun h => nI h.choose) (fun _ => -1)
theorem frkV_y {P : PS} {a b k : Nat} (h : AN P a k ∧ AN P b k) (hm : ∀ j, k < j → ¬ (AN P a j ∧ AN P b j)) : frkV P a b = nI k := by
  have hx : ∃ k, (AN P a k ∧ AN P b k) ∧ ∀ j, k < j → ¬ (AN P a j ∧ AN P b j) := ⟨k, h, hm⟩
  unfold frkV
  rw [dif_pos hx]
  have h1 := hx.choose_spec
  have h2 : ¬ k < hx.choose := fun z => hm _ z h1.1
  have h3 : ¬ hx.choose < k := fun z => h1.2 _ z h
  rw [show hx.choose = k by omega]
theorem frkV_n {P : PS} {a b : Nat} (h : ∀ j, ¬ (AN P a j ∧ AN P b j)) : frkV P a b = -1 := by
  unfold frkV
  rw [dif_neg (fun ⟨k, hk, _⟩ => h k hk)]
noncomputable def cmfV (P : PS) (a i : Nat) : Int32 := @ite _ (AN P a i) (Classical.propDecidable _) 1 0
theorem cmfV_y {P : PS} {a i : Nat} (h : AN P a i) : cmfV P a i = 1 := by unfold cmfV; rw [if_pos h]
theorem cmfV_n {P : PS} {a i : Nat} (h : ¬ AN P a i) : cmfV P a i = 0 := by unfold cmfV; rw [if_neg h]
/-- two marks -/
def bt4 (x : Int32) (p q : Prop) : Prop := (x = 0 ∧ ¬ p ∧ ¬ q) ∨ (x = 1 ∧ p ∧ ¬ q) ∨ (x = 2 ∧ ¬ p ∧ q) ∨ (x = 3 ∧ p ∧ q)
theorem bt4.or {x y : Int32} {p q r s : Prop} (h : bt4 x p q) (k : bt4 y r s) : bt4 (x ||| y) (p ∨ r) (q ∨ s) := by
  rcases h with ⟨rfl, a, b⟩ | ⟨rfl, a, b⟩ | ⟨rfl, a, b⟩ | ⟨rfl, a, b⟩ <;> rcases k with ⟨rfl, c, d⟩ | ⟨rfl, c, d⟩ | ⟨rfl, c, d⟩ | ⟨rfl, c, d⟩ <;> first
    | exact Or.inl ⟨by decide, fun z => z.elim a c, fun z => z.elim b d⟩
    | exact Or.inr (Or.inl ⟨by decide, (by first | exact Or.inl a | exact Or.inr c), fun z => z.elim b d⟩)
    | exact Or.inr (Or.inr (Or.inl ⟨by decide, fun z => z.elim a c, (by first | exact Or.inl b | exact Or.inr d)⟩))
    | exact Or.inr (Or.inr (Or.inr ⟨by decide, (by first | exact Or.inl a | exact Or.inr c), (by first | exact Or.inl b | exact Or.inr d)⟩))
theorem bt4.iff {x : Int32} {p q r s : Prop} (h : bt4 x p q) (e1 : p ↔ r) (e2 : q ↔ s) : bt4 x r s := by
  rw [← propext e1, ← propext e2]
  exact h
def LnB (f : Nat → Int32) (A B : Nat → Prop) : Prop := ∀ k, k < 999 → bt4 (f k) (A k) (B k)
theorem LnB.join {f g : Nat → Int32} {A B : Nat → Prop} (h : LnB f A B) {m line : Int32} {p q : Prop} (hl : bt4 line p q) (e : ∀ k, k < 999 → g k = if m = nI k then f k ||| line else f k) : LnB g (fun k => A k ∨ (p ∧ m = nI k)) (fun k => B k ∨ (q ∧ m = nI k)) := fun k hk => by
  rw [e k hk]
  by_cases hj : m = nI k
  · rw [if_pos hj]
    exact ((h k hk).or hl).iff ⟨fun z => z.imp id (fun y => ⟨y, hj⟩), fun z => z.imp id And.left⟩ ⟨fun z => z.imp id (fun y => ⟨y, hj⟩), fun z => z.imp id And.left⟩
  · rw [if_neg hj]
    exact (h k hk).iff ⟨Or.inl, fun z => z.elim id (fun y => absurd y.2 hj)⟩ ⟨Or.inl, fun z => z.elim id (fun y => absurd y.2 hj)⟩
def upto (P : PS) (a n k : Nat) : Prop := k = a ∨ ∃ c, n ≤ c ∧ AN P a c ∧ par P c k
theorem upto_at {P : PS} (hL : PL P) (hl : (pM P).length ≤ 999) {a n : Nat} : upto P a (n + 1) n ↔ AN P a n := by
  constructor
  · intro h
    rcases h with rfl | ⟨c, -, h1, h2⟩
    · exact AN.self P n
    · exact h1.up h2
  · intro h
    rcases h.cases with rfl | ⟨c, h1, h2⟩
    · exact Or.inl rfl
    · exact Or.inr ⟨c, h2.lt hL hl, h1, h2⟩
theorem upto_n {P : PS} {a n : Nat} (h : ¬ AN P a n) (k : Nat) : upto P a (n + 1) k ↔ upto P a n k := by
  constructor
  · exact fun z => z.imp id (fun ⟨c, h1, h2⟩ => ⟨c, by omega, h2⟩)
  · intro z
    rcases z with z | ⟨c, h1, h2, h3⟩
    · exact Or.inl z
    · by_cases e : c = n
      · exact absurd (e ▸ h2) h
      · exact Or.inr ⟨c, by omega, h2, h3⟩
theorem upto_y {P : PS} {a n : Nat} (k : Nat) : (upto P a (n + 1) k ∨ (AN P a n ∧ par P n k)) ↔ upto P a n k := by
  constructor
  · intro z
    rcases z with z | ⟨h1, h2⟩
    · exact z.imp id (fun ⟨c, h1, h2⟩ => ⟨c, by omega, h2⟩)
    · exact Or.inr ⟨n, Nat.le_refl _, h1, h2⟩
  · intro z
    rcases z with z | ⟨c, h1, h2, h3⟩
    · exact Or.inl (Or.inl z)
    · by_cases e : c = n
      · subst e
        exact Or.inr ⟨h2, h3⟩
      · exact Or.inl (Or.inr ⟨c, by omega, h2, h3⟩)
theorem upto_top {P : PS} (hl : (pM P).length ≤ 999) {a : Nat} (k : Nat) : k = a ↔ upto P a 999 k := ⟨Or.inl, fun z => z.elim id (fun ⟨c, h1, _, x, hx, _⟩ => by
  have := (List.getElem?_eq_some_iff.mp hx).1
  omega)⟩
theorem oneM_at {P : PS} {n : Nat} {x : MI} (hx : (pM P)[n]? = some x) (hl : (pM P).length ≤ 999) : oneM P (nI n) = x.2.1 ∧ twoM P (nI n) = x.2.2 := by
  have hn := (List.getElem?_eq_some_iff.mp hx).1
  unfold oneM twoM mapAt
  rw [nI_toInt (by omega), nI_clamp (by omega), if_pos (by omega), hx]
  exact ⟨rfl, rfl⟩
/-- the row of lines alone has changed -/
theorem RC.ln {S T : aw_S} {v ad ar : Nat → Nat} {PA : List (Nat × Nat)} {X : List Nat} {mb : Nat} {P : PS} (h : RC S v ad ar PA X mb P) (f : frS S T (Qk v [12])) : RC T v ad ar PA X mb P ∧ keepX X S T := by
  have hL := h.L
  have no : ∀ j, j < 37 → j ≠ 12 → ¬ Qk v [12] (v j) := fun j hj h5 => Qk_no hL (by decide) hj (by simp; exact h5)
  exact RC.gen (P2 := P) h f (Qk37 (by decide)) (no 13 (by decide) (by decide)) (no 3 (by decide) (by decide)) ((f.2.2.2.2.2.2.2 _ (no 4 (by decide) (by decide))).1 _) ((f.2.2.2.2.2.2.2 _ (no 4 (by decide) (by decide))).1 _) rfl rfl (GrW.fr h.2.1 f (no 5 (by decide) (by decide)) rfl rfl rfl) (MaW.fr h.2.2.1 f (fun j h1 hj => no j (by omega) (by omega)) rfl rfl rfl rfl) (BuW.fr h.2.2.2.1 f (fun j hj => no _ (by omega) (by omega)) rfl) (ReW.fr h.2.2.2.2.1 f (no 18 (by decide) (by decide)) rfl) (TaW.fr h.2.2.2.2.2.2.1 f (no 0 (by decide) (by decide)) (no 1 (by decide) (by decide)) rfl) (h.2.2.2.2.2.2.2.1.fr f.fr (no 19 (by decide) (by decide)) (no 20 (by decide) (by decide))) h.2.2.2.2.2.2.2.2.1.2.1 h.2.2.2.2.2.2.2.2.1.2.2
set_option maxHeartbeats 4000000 in
set_option maxRecDepth 100000 in
theorem m_X3_join_n {S : aw_S} {a la : Nat} {line : Int32} (o3 : aw_is S a 3) (r197 : sR S 197 a = some la) (i12 : aw_is S la 13) (n12 : sN S la = 999) : aw_M yX3_join cX3_join 3 (none : Option FieldType) 0 0 0 [.ref a, .int (-1), .int line] S (fun r S2 => r = none ∧ frS S S2 (fun b => b = la) ∧ ∀ k, k < 999 → sA S2 la k = if (-1 : Int32) = nI k then sA S la k ||| line else sA S la k) := by
  refine aw_enter (by decide +kernel) (Nat.le_of_ble_eq_true rfl) (fun g K EE => ?_)
  refine a_iload_n K dX3_join_0 rfl ?_
  refine a_if_lt K dX3_join_1 (tgt := 21) (by decide) (fun c_1 => ?_) (fun c_1 => absurd c_1 (by decide))
  exact a_vret K EE (by omega) (by omega) dX3_join_21 ⟨rfl, frS.rf, fun k hk => by rw [if_neg (fun z => nI_m1n (show k < 2147483648 by omega) z.symm)]⟩
set_option maxHeartbeats 4000000 in
set_option maxRecDepth 100000 in
theorem m_X3_join_y {S : aw_S} {a la : Nat} {line : Int32} (o3 : aw_is S a 3) (r197 : sR S 197 a = some la) (i12 : aw_is S la 13) (n12 : sN S la = 999) {j : Nat} (hj : j < 999) : aw_M yX3_join cX3_join 3 (none : Option FieldType) 0 0 0 [.ref a, .int (nI j), .int line] S (fun r S2 => r = none ∧ frS S S2 (fun b => b = la) ∧ ∀ k, k < 999 → sA S2 la k = if nI j = nI k then sA S la k ||| line else sA S la k) := by
  refine aw_enter (by decide +kernel) (Nat.le_of_ble_eq_true rfl) (fun g K EE => ?_)
  refine a_iload_n K dX3_join_0 rfl ?_
  refine a_if_lt K dX3_join_1 (tgt := 21) (by decide) (fun c_1 => absurd c_1 (nI_pos (by omega))) (fun c_1 => ?_)
  refine a_iload_n K dX3_join_4 rfl ?_
  refine a_sipush K dX3_join_5 (v := 999) (by decide) ?_
  refine a_icmp_ge K dX3_join_8 (tgt := 21) (by decide) (fun c_8 => absurd c_8 (nI_ge (a := j) (b := 999) (by omega) (by omega))) (fun c_8 => ?_)
  first | refine a_aload_n K dX3_join_11 rfl ?_ | refine a_aload_nN K dX3_join_11 rfl ?_
  refine a_getRs K fd_X3_31 (by assumption) (Or.inr ⟨_, rfl⟩) (by assumption) dX3_join_12 ?_
  refine a_iload_n K dX3_join_15 rfl ?_
  refine a_dup2 K dX3_join_16 rfl rfl ?_
  refine a_iald K (by assumption) (by rw [n12]; exact vp_in_nI (by omega) (by omega)) dX3_join_17 ?_
  simp only [nI_clamp (show j < 2 ^ 31 by omega)]
  refine a_iload_n K dX3_join_18 rfl ?_
  refine a_ior K dX3_join_19 ?_
  refine a_iast K (by assumption) (by rw [n12]; exact vp_in_nI (by omega) (by omega)) dX3_join_20 ?_
  simp only [nI_clamp (show j < 2 ^ 31 by omega)]
  exact a_vret K EE (by omega) (by omega) dX3_join_21 ⟨rfl, frS_wA, fun k hk => by
  rw [sA_wA]
  by_cases e : k = j
  · rw [if_pos ⟨rfl, e⟩, if_pos (by rw [e]), e]
  · rw [if_neg (fun z => e z.2), if_neg (fun z => e (nI_inj (by omega) (by omega) z.symm))]⟩
theorem m_X3_join {S : aw_S} {a la : Nat} {line : Int32} (o3 : aw_is S a 3) (r197 : sR S 197 a = some la) (i12 : aw_is S la 13) (n12 : sN S la = 999) {m : Int32} (hm : m = -1 ∨ ∃ j, j < 999 ∧ m = nI j) : aw_M yX3_join cX3_join 3 (none : Option FieldType) 0 0 0 [.ref a, .int m, .int line] S (fun r S2 => r = none ∧ frS S S2 (fun b => b = la) ∧ ∀ k, k < 999 → sA S2 la k = if m = nI k then sA S la k ||| line else sA S la k) := by
  rcases hm with rfl | ⟨j, hj, rfl⟩
  · exact m_X3_join_n o3 r197 i12 n12
  · exact m_X3_join_y o3 r197 i12 n12 hj
def dnI : Nat → Int32
  | 0 => -1
  | n + 1 => nI n
theorem dn_m : ∀ n : Nat, nI n + -1 = dnI n
  | 0 => by decide
  | n + 1 => nI_m1 n
theorem upl9 {P : PS} {n : Nat} {x : MI} (hx : (pM P)[n]? = some x) {a : Nat} (k : Nat) (hk : k < 999) : ((upto P a (n + 1) k ∨ (AN P a n ∧ x.2.1 = nI k)) ∨ (AN P a n ∧ x.2.2 = nI k)) ↔ upto P a n k := by
  rw [← upto_y (a := a) (n := n) k]
  constructor
  · intro z
    rcases z with (z | z) | z
    · exact Or.inl z
    · exact Or.inr ⟨z.1, x, hx, Or.inl z.2, hk⟩
    · exact Or.inr ⟨z.1, x, hx, Or.inr z.2, hk⟩
  · intro z
    rcases z with z | ⟨z, y, hy, w, -⟩
    · exact Or.inl (Or.inl z)
    · rw [hx] at hy
      obtain rfl := Option.some.inj hy
      exact w.elim (fun q => Or.inl (Or.inr ⟨z, q⟩)) (fun q => Or.inr ⟨z, q⟩)
theorem PL.m {P : PS} (hPL : PL P) (hl : (pM P).length ≤ 999) {n : Nat} {x : MI} (hx : (pM P)[n]? = some x) : (x.2.1 = -1 ∨ ∃ j, j < 999 ∧ x.2.1 = nI j) ∧ (x.2.2 = -1 ∨ ∃ j, j < 999 ∧ x.2.2 = nI j) ∧ ¬ x.2.1 = nI n := by
  have hn := (List.getElem?_eq_some_iff.mp hx).1
  obtain ⟨a, b⟩ := hPL n x hx
  refine ⟨a.imp id (fun ⟨j, hj, e⟩ => ⟨j, by omega, e⟩), b.imp id (fun ⟨j, hj, e⟩ => ⟨j, by omega, e⟩), fun z => ?_⟩
  rcases a with a | ⟨j, hj, e⟩
  · exact nI_m1n (by omega) (z.symm.trans a)
  · have := nI_inj (by omega) (by omega) (e.symm.trans z)
    omega
set_option maxHeartbeats 4000000 in
set_option maxRecDepth 100000 in
theorem c_highestBehind {S : aw_S} {v ad ar : Nat → Nat} {PA : List (Nat × Nat)} {X : List Nat} {mb : Nat} {P : PS} (h : RC S v ad ar PA X mb P) (hPL : PL P) {ja jb : Nat} (ha : ja < (pM P).length) (hb : jb < (pM P).length) : aw_M yX3_highestBehind cX3_highestBehind 4 (some FieldType.int) 2 0 0 [.ref (v 6), .int (nI ja), .int (nI jb)] S (fun r S2 => r = some (.int (frkV P ja jb)) ∧ RC S2 v ad ar PA X mb P ∧ keepX X S S2) := by
  have hl9 := h.2.2.1.2.1
  have hL := h.L
  refine aw_enter (by decide +kernel) (Nat.le_of_ble_eq_true rfl) (fun g K EE => ?_)
  have loop2 : ∀ (n : Nat) (x : Int32) (T : aw_S), x = dnI n → n ≤ 999 → frS S T (Qk v [12]) → LnB (sA T (v 12)) (upto P ja n) (upto P jb n) → (∀ j, n ≤ j → ¬ (AN P ja j ∧ AN P jb j)) → aw g 4 T 0 0 [(3, .int x), (2, .int (nI jb)), (1, .int (nI ja)), (0, .ref (v 6))] [] 38 := by
    intro n
    induction n with
    | zero =>
      intro x T hx hn fT hB hno
      subst hx
      have hT := (h.ln fT).1
      have kT := (h.ln fT).2
      have hL := hT.L
      have o6 := lw_i6 hL
      have r197 := lw_f197_6 hL
      have i12 := lw_i12 hL
      have n12 := lw_n12 hL
      refine a_iload_n K dX3_highestBehind_38 rfl ?_
      refine a_if_lt K dX3_highestBehind_39 (tgt := 99) (by decide) (fun c_39 => ?_) (fun c_39 => absurd c_39 (by decide))
      refine a_iconst K dX3_highestBehind_99 (v := -1) (by decide) ?_
      exact a_iret K EE rfl (by omega) (by omega) dX3_highestBehind_100 ⟨by rw [frkV_n (fun j => hno j (Nat.zero_le j))], hT, kT⟩
    | succ n ih =>
      intro x T hx hn fT hB hno
      subst hx
      have hT := (h.ln fT).1
      have kT := (h.ln fT).2
      have hL := hT.L
      have o6 := lw_i6 hL
      have r197 := lw_f197_6 hL
      have i12 := lw_i12 hL
      have n12 := lw_n12 hL
      show aw g 4 T 0 0 [(3, .int (nI n)), (2, .int (nI jb)), (1, .int (nI ja)), (0, .ref (v 6))] [] 38
      have h4 : bt4 (sA T (v 12) n) (AN P ja n) (AN P jb n) := (hB n (by omega)).iff (upto_at hPL hl9) (upto_at hPL hl9)
      rcases h4 with ⟨en, ea, eb⟩ | ⟨en, ea, eb⟩ | ⟨en, ea, eb⟩ | ⟨en, ea, eb⟩
      · refine a_iload_n K dX3_highestBehind_38 rfl ?_
        refine a_if_lt K dX3_highestBehind_39 (tgt := 99) (by decide) (fun c_39 => absurd c_39 (nI_pos (by omega))) (fun c_39 => ?_)
        first | refine a_aload_n K dX3_highestBehind_42 rfl ?_ | refine a_aload_nN K dX3_highestBehind_42 rfl ?_
        refine a_getRs K fd_X3_31 (by assumption) (Or.inr ⟨_, rfl⟩) (by assumption) dX3_highestBehind_43 ?_
        refine a_iload_n K dX3_highestBehind_46 rfl ?_
        refine a_iald K (by assumption) (by rw [n12]; exact vp_in_nI (by omega) (by omega)) dX3_highestBehind_47 ?_
        simp only [nI_clamp (show n < 2 ^ 31 by omega)]
        rw [en]
        refine a_iconst K dX3_highestBehind_48 (v := 3) (by decide) ?_
        refine a_icmp_ne K dX3_highestBehind_49 (tgt := 54) (by decide) (fun c_49 => ?_) (fun c_49 => absurd c_49 (by decide))
        first | refine a_aload_n K dX3_highestBehind_54 rfl ?_ | refine a_aload_nN K dX3_highestBehind_54 rfl ?_
        refine a_getRs K fd_X3_31 (by assumption) (Or.inr ⟨_, rfl⟩) (by assumption) dX3_highestBehind_55 ?_
        refine a_iload_n K dX3_highestBehind_58 rfl ?_
        refine a_iald K (by assumption) (by rw [n12]; exact vp_in_nI (by omega) (by omega)) dX3_highestBehind_59 ?_
        simp only [nI_clamp (show n < 2 ^ 31 by omega)]
        rw [en]
        refine a_if_eq K dX3_highestBehind_60 (tgt := 93) (by decide) (fun c_60 => ?_) (fun c_60 => absurd c_60 (by decide))
        refine a_iinc K dX3_highestBehind_93 (v := -1) rfl (by decide) (by decide) ?_
        refine a_goto K dX3_highestBehind_96 (tgt := 38) (by decide) ?_
        exact aw_locl rfl (ih _ T (dn_m n) (by omega) fT (fun k hk => (hB k hk).iff (upto_n ea k) (upto_n eb k)) (fun j hj => by
          by_cases e : j = n
          · rw [e]; exact fun z => ea z.1
          · exact hno j (by omega)))
      · obtain ⟨x, hx⟩ : ∃ x : MI, (pM P)[n]? = some x := ⟨_, List.getElem?_eq_getElem (show n < (pM P).length by first | (have h9 := AN.le hPL hl9 ea; omega))⟩
        obtain ⟨hm1, hm2, m1n⟩ := hPL.m hl9 hx
        refine a_iload_n K dX3_highestBehind_38 rfl ?_
        refine a_if_lt K dX3_highestBehind_39 (tgt := 99) (by decide) (fun c_39 => absurd c_39 (nI_pos (by omega))) (fun c_39 => ?_)
        first | refine a_aload_n K dX3_highestBehind_42 rfl ?_ | refine a_aload_nN K dX3_highestBehind_42 rfl ?_
        refine a_getRs K fd_X3_31 (by assumption) (Or.inr ⟨_, rfl⟩) (by assumption) dX3_highestBehind_43 ?_
        refine a_iload_n K dX3_highestBehind_46 rfl ?_
        refine a_iald K (by assumption) (by rw [n12]; exact vp_in_nI (by omega) (by omega)) dX3_highestBehind_47 ?_
        simp only [nI_clamp (show n < 2 ^ 31 by omega)]
        rw [en]
        refine a_iconst K dX3_highestBehind_48 (v := 3) (by decide) ?_
        refine a_icmp_ne K dX3_highestBehind_49 (tgt := 54) (by decide) (fun c_49 => ?_) (fun c_49 => absurd c_49 (by decide))
        first | refine a_aload_n K dX3_highestBehind_54 rfl ?_ | refine a_aload_nN K dX3_highestBehind_54 rfl ?_
        refine a_getRs K fd_X3_31 (by assumption) (Or.inr ⟨_, rfl⟩) (by assumption) dX3_highestBehind_55 ?_
        refine a_iload_n K dX3_highestBehind_58 rfl ?_
        refine a_iald K (by assumption) (by rw [n12]; exact vp_in_nI (by omega) (by omega)) dX3_highestBehind_59 ?_
        simp only [nI_clamp (show n < 2 ^ 31 by omega)]
        rw [en]
        refine a_if_eq K dX3_highestBehind_60 (tgt := 93) (by decide) (fun c_60 => absurd c_60 (by decide)) (fun c_60 => ?_)
        first | refine a_aload_n K dX3_highestBehind_63 rfl ?_ | refine a_aload_nN K dX3_highestBehind_63 rfl ?_
        first | refine a_aload_n K dX3_highestBehind_64 rfl ?_ | refine a_aload_nN K dX3_highestBehind_64 rfl ?_
        refine a_iload_n K dX3_highestBehind_65 rfl ?_
        refine a_invV K (m_X3_oneOf (i := nI n) (lw_i6 hL) (lw_f193_6 hL) (lw_i8 hL) (lw_n8 hL) hT.lg.1 hT.lg.2) my_X3_oneOf ml_X3_49 im_X3_oneOf se_X3_oneOf (ci := 3) (by assumption) (by decide) ⟨_, _, rfl⟩ rfl (by omega) (by omega) (by omega) rfl (Nat.le_of_ble_eq_true rfl) dX3_highestBehind_66 ?_
        intro r9 S9 hp9
        obtain ⟨hS9, rfl⟩ := hp9
        obtain rfl := hS9.symm
        rw [(RC_mapAt hT (nI n)).1, (oneM_at hx hl9).1]
        first | refine a_aload_n K dX3_highestBehind_69 rfl ?_ | refine a_aload_nN K dX3_highestBehind_69 rfl ?_
        refine a_getRs K fd_X3_31 (by assumption) (Or.inr ⟨_, rfl⟩) (by assumption) dX3_highestBehind_70 ?_
        refine a_iload_n K dX3_highestBehind_73 rfl ?_
        refine a_iald K (by assumption) (by rw [n12]; exact vp_in_nI (by omega) (by omega)) dX3_highestBehind_74 ?_
        simp only [nI_clamp (show n < 2 ^ 31 by omega)]
        rw [en]
        refine a_invV K (m_X3_join o6 r197 i12 n12 (hm1)) my_X3_join ml_X3_45 im_X3_join se_X3_join (ci := 3) (by assumption) (by decide) ⟨_, _, rfl⟩ rfl (by omega) (by omega) (by omega) rfl (Nat.le_of_ble_eq_true rfl) dX3_highestBehind_75 ?_
        intro r9 T1 hp9
        obtain ⟨rfl, f9, e9⟩ := hp9
        have en2 : sA T1 (v 12) n = 1 := by rw [e9 n (by omega), if_neg (fun z => m1n z), en]
        have hB1 := LnB.join (p := AN P ja n) (q := AN P jb n) hB (line := 1) (by first | exact Or.inr (Or.inl ⟨rfl, ea, eb⟩) | exact Or.inr (Or.inr (Or.inl ⟨rfl, ea, eb⟩))) e9
        have fT : frS S T1 (Qk v [12]) := frS.st fT (f9.mono (fun b z => ⟨12, by decide, z⟩)) (fun _ z => z)
        have hT := (h.ln fT).1
        have kT := (h.ln fT).2
        have hL := hT.L
        have o6 := lw_i6 hL
        have r197 := lw_f197_6 hL
        have i12 := lw_i12 hL
        have n12 := lw_n12 hL
        first | refine a_aload_n K dX3_highestBehind_78 rfl ?_ | refine a_aload_nN K dX3_highestBehind_78 rfl ?_
        first | refine a_aload_n K dX3_highestBehind_79 rfl ?_ | refine a_aload_nN K dX3_highestBehind_79 rfl ?_
        refine a_iload_n K dX3_highestBehind_80 rfl ?_
        refine a_invV K (m_X3_twoOf (i := nI n) (lw_i6 hL) (lw_f194_6 hL) (lw_i9 hL) (lw_n9 hL) hT.lg.1 hT.lg.2) my_X3_twoOf ml_X3_53 im_X3_twoOf se_X3_twoOf (ci := 3) (by assumption) (by decide) ⟨_, _, rfl⟩ rfl (by omega) (by omega) (by omega) rfl (Nat.le_of_ble_eq_true rfl) dX3_highestBehind_81 ?_
        intro r9 S9 hp9
        obtain ⟨hS9, rfl⟩ := hp9
        obtain rfl := hS9.symm
        rw [(RC_mapAt hT (nI n)).2, (oneM_at hx hl9).2]
        first | refine a_aload_n K dX3_highestBehind_84 rfl ?_ | refine a_aload_nN K dX3_highestBehind_84 rfl ?_
        refine a_getRs K fd_X3_31 (by assumption) (Or.inr ⟨_, rfl⟩) (by assumption) dX3_highestBehind_85 ?_
        refine a_iload_n K dX3_highestBehind_88 rfl ?_
        refine a_iald K (by assumption) (by rw [n12]; exact vp_in_nI (by omega) (by omega)) dX3_highestBehind_89 ?_
        simp only [nI_clamp (show n < 2 ^ 31 by omega)]
        rw [en2]
        refine a_invV K (m_X3_join o6 r197 i12 n12 (hm2)) my_X3_join ml_X3_45 im_X3_join se_X3_join (ci := 3) (by assumption) (by decide) ⟨_, _, rfl⟩ rfl (by omega) (by omega) (by omega) rfl (Nat.le_of_ble_eq_true rfl) dX3_highestBehind_90 ?_
        intro r9 T hp9
        obtain ⟨rfl, f9, e9⟩ := hp9
        have hB2 := LnB.join (p := AN P ja n) (q := AN P jb n) hB1 (line := 1) (by first | exact Or.inr (Or.inl ⟨rfl, ea, eb⟩) | exact Or.inr (Or.inr (Or.inl ⟨rfl, ea, eb⟩))) e9
        have fT : frS S T (Qk v [12]) := frS.st fT (f9.mono (fun b z => ⟨12, by decide, z⟩)) (fun _ z => z)
        have hT := (h.ln fT).1
        have kT := (h.ln fT).2
        have hL := hT.L
        have o6 := lw_i6 hL
        have r197 := lw_f197_6 hL
        have i12 := lw_i12 hL
        have n12 := lw_n12 hL
        refine a_iinc K dX3_highestBehind_93 (v := -1) rfl (by decide) (by decide) ?_
        refine a_goto K dX3_highestBehind_96 (tgt := 38) (by decide) ?_
        exact aw_locl rfl (ih _ T (dn_m n) (by omega) fT (fun k hk => (hB2 k hk).iff (upl9 hx k hk) (upl9 hx k hk)) (fun j hj => by
          by_cases e : j = n
          · rw [e]; exact fun z => eb z.2
          · exact hno j (by omega)))
      · obtain ⟨x, hx⟩ : ∃ x : MI, (pM P)[n]? = some x := ⟨_, List.getElem?_eq_getElem (show n < (pM P).length by first | (have h9 := AN.le hPL hl9 eb; omega))⟩
        obtain ⟨hm1, hm2, m1n⟩ := hPL.m hl9 hx
        refine a_iload_n K dX3_highestBehind_38 rfl ?_
        refine a_if_lt K dX3_highestBehind_39 (tgt := 99) (by decide) (fun c_39 => absurd c_39 (nI_pos (by omega))) (fun c_39 => ?_)
        first | refine a_aload_n K dX3_highestBehind_42 rfl ?_ | refine a_aload_nN K dX3_highestBehind_42 rfl ?_
        refine a_getRs K fd_X3_31 (by assumption) (Or.inr ⟨_, rfl⟩) (by assumption) dX3_highestBehind_43 ?_
        refine a_iload_n K dX3_highestBehind_46 rfl ?_
        refine a_iald K (by assumption) (by rw [n12]; exact vp_in_nI (by omega) (by omega)) dX3_highestBehind_47 ?_
        simp only [nI_clamp (show n < 2 ^ 31 by omega)]
        rw [en]
        refine a_iconst K dX3_highestBehind_48 (v := 3) (by decide) ?_
        refine a_icmp_ne K dX3_highestBehind_49 (tgt := 54) (by decide) (fun c_49 => ?_) (fun c_49 => absurd c_49 (by decide))
        first | refine a_aload_n K dX3_highestBehind_54 rfl ?_ | refine a_aload_nN K dX3_highestBehind_54 rfl ?_
        refine a_getRs K fd_X3_31 (by assumption) (Or.inr ⟨_, rfl⟩) (by assumption) dX3_highestBehind_55 ?_
        refine a_iload_n K dX3_highestBehind_58 rfl ?_
        refine a_iald K (by assumption) (by rw [n12]; exact vp_in_nI (by omega) (by omega)) dX3_highestBehind_59 ?_
        simp only [nI_clamp (show n < 2 ^ 31 by omega)]
        rw [en]
        refine a_if_eq K dX3_highestBehind_60 (tgt := 93) (by decide) (fun c_60 => absurd c_60 (by decide)) (fun c_60 => ?_)
        first | refine a_aload_n K dX3_highestBehind_63 rfl ?_ | refine a_aload_nN K dX3_highestBehind_63 rfl ?_
        first | refine a_aload_n K dX3_highestBehind_64 rfl ?_ | refine a_aload_nN K dX3_highestBehind_64 rfl ?_
        refine a_iload_n K dX3_highestBehind_65 rfl ?_
        refine a_invV K (m_X3_oneOf (i := nI n) (lw_i6 hL) (lw_f193_6 hL) (lw_i8 hL) (lw_n8 hL) hT.lg.1 hT.lg.2) my_X3_oneOf ml_X3_49 im_X3_oneOf se_X3_oneOf (ci := 3) (by assumption) (by decide) ⟨_, _, rfl⟩ rfl (by omega) (by omega) (by omega) rfl (Nat.le_of_ble_eq_true rfl) dX3_highestBehind_66 ?_
        intro r9 S9 hp9
        obtain ⟨hS9, rfl⟩ := hp9
        obtain rfl := hS9.symm
        rw [(RC_mapAt hT (nI n)).1, (oneM_at hx hl9).1]
        first | refine a_aload_n K dX3_highestBehind_69 rfl ?_ | refine a_aload_nN K dX3_highestBehind_69 rfl ?_
        refine a_getRs K fd_X3_31 (by assumption) (Or.inr ⟨_, rfl⟩) (by assumption) dX3_highestBehind_70 ?_
        refine a_iload_n K dX3_highestBehind_73 rfl ?_
        refine a_iald K (by assumption) (by rw [n12]; exact vp_in_nI (by omega) (by omega)) dX3_highestBehind_74 ?_
        simp only [nI_clamp (show n < 2 ^ 31 by omega)]
        rw [en]
        refine a_invV K (m_X3_join o6 r197 i12 n12 (hm1)) my_X3_join ml_X3_45 im_X3_join se_X3_join (ci := 3) (by assumption) (by decide) ⟨_, _, rfl⟩ rfl (by omega) (by omega) (by omega) rfl (Nat.le_of_ble_eq_true rfl) dX3_highestBehind_75 ?_
        intro r9 T1 hp9
        obtain ⟨rfl, f9, e9⟩ := hp9
        have en2 : sA T1 (v 12) n = 2 := by rw [e9 n (by omega), if_neg (fun z => m1n z), en]
        have hB1 := LnB.join (p := AN P ja n) (q := AN P jb n) hB (line := 2) (by first | exact Or.inr (Or.inl ⟨rfl, ea, eb⟩) | exact Or.inr (Or.inr (Or.inl ⟨rfl, ea, eb⟩))) e9
        have fT : frS S T1 (Qk v [12]) := frS.st fT (f9.mono (fun b z => ⟨12, by decide, z⟩)) (fun _ z => z)
        have hT := (h.ln fT).1
        have kT := (h.ln fT).2
        have hL := hT.L
        have o6 := lw_i6 hL
        have r197 := lw_f197_6 hL
        have i12 := lw_i12 hL
        have n12 := lw_n12 hL
        first | refine a_aload_n K dX3_highestBehind_78 rfl ?_ | refine a_aload_nN K dX3_highestBehind_78 rfl ?_
        first | refine a_aload_n K dX3_highestBehind_79 rfl ?_ | refine a_aload_nN K dX3_highestBehind_79 rfl ?_
        refine a_iload_n K dX3_highestBehind_80 rfl ?_
        refine a_invV K (m_X3_twoOf (i := nI n) (lw_i6 hL) (lw_f194_6 hL) (lw_i9 hL) (lw_n9 hL) hT.lg.1 hT.lg.2) my_X3_twoOf ml_X3_53 im_X3_twoOf se_X3_twoOf (ci := 3) (by assumption) (by decide) ⟨_, _, rfl⟩ rfl (by omega) (by omega) (by omega) rfl (Nat.le_of_ble_eq_true rfl) dX3_highestBehind_81 ?_
        intro r9 S9 hp9
        obtain ⟨hS9, rfl⟩ := hp9
        obtain rfl := hS9.symm
        rw [(RC_mapAt hT (nI n)).2, (oneM_at hx hl9).2]
        first | refine a_aload_n K dX3_highestBehind_84 rfl ?_ | refine a_aload_nN K dX3_highestBehind_84 rfl ?_
        refine a_getRs K fd_X3_31 (by assumption) (Or.inr ⟨_, rfl⟩) (by assumption) dX3_highestBehind_85 ?_
        refine a_iload_n K dX3_highestBehind_88 rfl ?_
        refine a_iald K (by assumption) (by rw [n12]; exact vp_in_nI (by omega) (by omega)) dX3_highestBehind_89 ?_
        simp only [nI_clamp (show n < 2 ^ 31 by omega)]
        rw [en2]
        refine a_invV K (m_X3_join o6 r197 i12 n12 (hm2)) my_X3_join ml_X3_45 im_X3_join se_X3_join (ci := 3) (by assumption) (by decide) ⟨_, _, rfl⟩ rfl (by omega) (by omega) (by omega) rfl (Nat.le_of_ble_eq_true rfl) dX3_highestBehind_90 ?_
        intro r9 T hp9
        obtain ⟨rfl, f9, e9⟩ := hp9
        have hB2 := LnB.join (p := AN P ja n) (q := AN P jb n) hB1 (line := 2) (by first | exact Or.inr (Or.inl ⟨rfl, ea, eb⟩) | exact Or.inr (Or.inr (Or.inl ⟨rfl, ea, eb⟩))) e9
        have fT : frS S T (Qk v [12]) := frS.st fT (f9.mono (fun b z => ⟨12, by decide, z⟩)) (fun _ z => z)
        have hT := (h.ln fT).1
        have kT := (h.ln fT).2
        have hL := hT.L
        have o6 := lw_i6 hL
        have r197 := lw_f197_6 hL
        have i12 := lw_i12 hL
        have n12 := lw_n12 hL
        refine a_iinc K dX3_highestBehind_93 (v := -1) rfl (by decide) (by decide) ?_
        refine a_goto K dX3_highestBehind_96 (tgt := 38) (by decide) ?_
        exact aw_locl rfl (ih _ T (dn_m n) (by omega) fT (fun k hk => (hB2 k hk).iff (upl9 hx k hk) (upl9 hx k hk)) (fun j hj => by
          by_cases e : j = n
          · rw [e]; exact fun z => ea z.1
          · exact hno j (by omega)))
      · refine a_iload_n K dX3_highestBehind_38 rfl ?_
        refine a_if_lt K dX3_highestBehind_39 (tgt := 99) (by decide) (fun c_39 => absurd c_39 (nI_pos (by omega))) (fun c_39 => ?_)
        first | refine a_aload_n K dX3_highestBehind_42 rfl ?_ | refine a_aload_nN K dX3_highestBehind_42 rfl ?_
        refine a_getRs K fd_X3_31 (by assumption) (Or.inr ⟨_, rfl⟩) (by assumption) dX3_highestBehind_43 ?_
        refine a_iload_n K dX3_highestBehind_46 rfl ?_
        refine a_iald K (by assumption) (by rw [n12]; exact vp_in_nI (by omega) (by omega)) dX3_highestBehind_47 ?_
        simp only [nI_clamp (show n < 2 ^ 31 by omega)]
        rw [en]
        refine a_iconst K dX3_highestBehind_48 (v := 3) (by decide) ?_
        refine a_icmp_ne K dX3_highestBehind_49 (tgt := 54) (by decide) (fun c_49 => absurd c_49 (by decide)) (fun c_49 => ?_)
        refine a_iload_n K dX3_highestBehind_52 rfl ?_
        exact a_iret K EE rfl (by omega) (by omega) dX3_highestBehind_53 ⟨by rw [frkV_y ⟨ea, eb⟩ (fun j hj => hno j (by omega))], hT, kT⟩
  have loop1 : ∀ (i j : Nat) (x : Int32) (T : aw_S), x = nI j → j + i = 999 → frS S T (Qk v [12]) → (∀ k, k < j → sA T (v 12) k = 0) → aw g 4 T 0 0 [(3, .int x), (2, .int (nI jb)), (1, .int (nI ja)), (0, .ref (v 6))] [] 2 := by
    intro i
    induction i with
    | zero =>
      intro j x T hx hi fT h0
      subst hx
      have hT := (h.ln fT).1
      have kT := (h.ln fT).2
      have hL := hT.L
      have o6 := lw_i6 hL
      have r197 := lw_f197_6 hL
      have i12 := lw_i12 hL
      have n12 := lw_n12 hL
      have h0 : LnB (sA T (v 12)) (fun _ => False) (fun _ => False) := fun k hk => Or.inl ⟨h0 k (by omega), id, id⟩
      refine a_iload_n K dX3_highestBehind_2 rfl ?_
      refine a_sipush K dX3_highestBehind_3 (v := 999) (by decide) ?_
      refine a_icmp_ge K dX3_highestBehind_6 (tgt := 22) (by decide) (fun c_6 => ?_) (fun c_6 => absurd c_6 (fun z => z (nI_le (a := 999) (b := j) (by omega) (by omega))))
      first | refine a_aload_n K dX3_highestBehind_22 rfl ?_ | refine a_aload_nN K dX3_highestBehind_22 rfl ?_
      refine a_iload_n K dX3_highestBehind_23 rfl ?_
      refine a_iconst K dX3_highestBehind_24 (v := 1) (by decide) ?_
      refine a_invV K (m_X3_join o6 r197 i12 n12 (Or.inr ⟨ja, by omega, rfl⟩)) my_X3_join ml_X3_45 im_X3_join se_X3_join (ci := 3) (by assumption) (by decide) ⟨_, _, rfl⟩ rfl (by omega) (by omega) (by omega) rfl (Nat.le_of_ble_eq_true rfl) dX3_highestBehind_25 ?_
      intro r9 T1 hp9
      obtain ⟨rfl, f9, e9⟩ := hp9
      have hB1 := LnB.join (p := True) (q := False) h0 (line := 1) (Or.inr (Or.inl ⟨rfl, trivial, id⟩)) e9
      have fT : frS S T1 (Qk v [12]) := frS.st fT (f9.mono (fun b z => ⟨12, by decide, z⟩)) (fun _ z => z)
      have hT := (h.ln fT).1
      have kT := (h.ln fT).2
      have hL := hT.L
      have o6 := lw_i6 hL
      have r197 := lw_f197_6 hL
      have i12 := lw_i12 hL
      have n12 := lw_n12 hL
      first | refine a_aload_n K dX3_highestBehind_28 rfl ?_ | refine a_aload_nN K dX3_highestBehind_28 rfl ?_
      refine a_iload_n K dX3_highestBehind_29 rfl ?_
      refine a_iconst K dX3_highestBehind_30 (v := 2) (by decide) ?_
      refine a_invV K (m_X3_join o6 r197 i12 n12 (Or.inr ⟨jb, by omega, rfl⟩)) my_X3_join ml_X3_45 im_X3_join se_X3_join (ci := 3) (by assumption) (by decide) ⟨_, _, rfl⟩ rfl (by omega) (by omega) (by omega) rfl (Nat.le_of_ble_eq_true rfl) dX3_highestBehind_31 ?_
      intro r9 T hp9
      obtain ⟨rfl, f9, e9⟩ := hp9
      have hB2 := LnB.join (p := False) (q := True) hB1 (line := 2) (Or.inr (Or.inr (Or.inl ⟨rfl, id, trivial⟩))) e9
      have fT : frS S T (Qk v [12]) := frS.st fT (f9.mono (fun b z => ⟨12, by decide, z⟩)) (fun _ z => z)
      have hT := (h.ln fT).1
      have kT := (h.ln fT).2
      have hL := hT.L
      have o6 := lw_i6 hL
      have r197 := lw_f197_6 hL
      have i12 := lw_i12 hL
      have n12 := lw_n12 hL
      refine a_sipush K dX3_highestBehind_34 (v := 998) (by decide) ?_
      refine a_istore_n K dX3_highestBehind_37 (by decide) ?_
      exact aw_locl rfl (loop2 999 _ T rfl (Nat.le_refl _) fT (fun k hk => (hB2 k hk).iff (by rw [← upto_top hl9 k]; exact ⟨fun z => by rcases z with (z | ⟨-, z⟩) | ⟨z, -⟩; exact z.elim; exact nI_inj (by omega) (by omega) z.symm; exact z.elim, fun z => Or.inl (Or.inr ⟨trivial, by rw [z]⟩)⟩) (by rw [← upto_top hl9 k]; exact ⟨fun z => by rcases z with (z | ⟨z, -⟩) | ⟨-, z⟩; exact z.elim; exact z.elim; exact nI_inj (by omega) (by omega) z.symm, fun z => Or.inr ⟨trivial, by rw [z]⟩⟩)) (fun j hj z => by have h9 := AN.le hPL hl9 z.1; omega))
    | succ i ih =>
      intro j x T hx hi fT h0
      subst hx
      have hT := (h.ln fT).1
      have kT := (h.ln fT).2
      have hL := hT.L
      have o6 := lw_i6 hL
      have r197 := lw_f197_6 hL
      have i12 := lw_i12 hL
      have n12 := lw_n12 hL
      refine a_iload_n K dX3_highestBehind_2 rfl ?_
      refine a_sipush K dX3_highestBehind_3 (v := 999) (by decide) ?_
      refine a_icmp_ge K dX3_highestBehind_6 (tgt := 22) (by decide) (fun c_6 => absurd c_6 (nI_ge (a := j) (b := 999) (by omega) (by omega))) (fun c_6 => ?_)
      first | refine a_aload_n K dX3_highestBehind_9 rfl ?_ | refine a_aload_nN K dX3_highestBehind_9 rfl ?_
      refine a_getRs K fd_X3_31 (by assumption) (Or.inr ⟨_, rfl⟩) (by assumption) dX3_highestBehind_10 ?_
      refine a_iload_n K dX3_highestBehind_13 rfl ?_
      refine a_iconst K dX3_highestBehind_14 (v := 0) (by decide) ?_
      refine a_iast K (by assumption) (by rw [n12]; exact vp_in_nI (by omega) (by omega)) dX3_highestBehind_15 ?_
      simp only [nI_clamp (show j < 2 ^ 31 by omega)]
      refine a_iinc K dX3_highestBehind_16 (v := 1) rfl (by decide) (by decide) ?_
      refine a_goto K dX3_highestBehind_19 (tgt := 2) (by decide) ?_
      exact aw_locl rfl (ih (j + 1) _ _ (nI_1 j) (by omega) (frS.st fT ((frS_wA (S := T)).mono (fun b z => ⟨12, by decide, z⟩)) (fun _ z => z)) (fun k hk => by
        rw [sA_wA]
        by_cases e : k = j
        · rw [if_pos ⟨rfl, e⟩]
        · rw [if_neg (fun z => e z.2)]; exact h0 k (by omega)))
  refine a_iconst K dX3_highestBehind_0 (v := 0) (by decide) ?_
  refine a_istore_n K dX3_highestBehind_1 (by decide) ?_
  exact aw_locl rfl (loop1 999 0 _ S nI_0.symm (by omega) frS.rf (fun k hk => absurd hk (Nat.not_lt_zero k)))
noncomputable def aFork (P : PS) (m o : Int32) : Int32 := match rootP P m, rootP P o with
  | some _, some _ => frkV P m.toNatClampNeg o.toNatClampNeg
  | _, _ => -1
noncomputable def aComes (P : PS) (m n : Int32) : Int32 := match rootP P m with
  | none => -1
  | some _ => if 0 ≤ n.toInt ∧ n.toInt < (pM P).length then cmfV P m.toNatClampNeg n.toNatClampNeg else -1
set_option maxHeartbeats 4000000 in
set_option maxRecDepth 100000 in
theorem c_fork {S : aw_S} {v ad ar : Nat → Nat} {PA : List (Nat × Nat)} {X : List Nat} {mb : Nat} {P : PS} (h : RC S v ad ar PA X mb P) (hPL : PL P) {m o : Int32} : aw_M yX10_fork cX10_fork 3 (some FieldType.int) 4 0 0 [.ref (v 4), .int m, .int o] S (fun r S2 => r = some (.int (aFork P m o)) ∧ RC S2 v ad ar PA X mb P ∧ keepX X S S2) := by
  have hL := h.L
  have hl9 := h.2.2.1.2.1
  cases hz : rootP P m with
  | none =>
    cases hy : rootP P o with
    | none =>
      refine aw_enter (by decide +kernel) (Nat.le_of_ble_eq_true rfl) (fun g K EE => ?_)
      first | refine a_aload_n K dX10_fork_0 rfl ?_ | refine a_aload_nN K dX10_fork_0 rfl ?_
      refine a_getRs K fd_X10_46 (lw_i4 hL) (Or.inl ⟨_, rfl⟩) (lw_f646 hL) dX10_fork_1 ?_
      refine a_iload_n K dX10_fork_4 rfl ?_
      refine a_invV K (m_root h m) my_X3_heldRoot ml_X10_165 im_X3_heldRoot se_X3_heldRoot (ci := 3) (lw_i6 hL) (by decide) ⟨_, _, rfl⟩ rfl (by omega) (by omega) (by omega) rfl (Nat.le_of_ble_eq_true rfl) dX10_fork_5 ?_
      intro r9 S9 hp9
      obtain ⟨rfl, hS9⟩ := hp9
      obtain rfl := hS9.symm
      rw [hz]
      refine a_ifnullN K dX10_fork_8 (tgt := 22) (by decide) ?_
      refine a_iconst K dX10_fork_22 (v := -1) (by decide) ?_
      exact a_iret K EE rfl (by omega) (by omega) dX10_fork_23 ⟨by unfold aFork; rw [hz], h, h.X⟩
    | some y =>
      refine aw_enter (by decide +kernel) (Nat.le_of_ble_eq_true rfl) (fun g K EE => ?_)
      first | refine a_aload_n K dX10_fork_0 rfl ?_ | refine a_aload_nN K dX10_fork_0 rfl ?_
      refine a_getRs K fd_X10_46 (lw_i4 hL) (Or.inl ⟨_, rfl⟩) (lw_f646 hL) dX10_fork_1 ?_
      refine a_iload_n K dX10_fork_4 rfl ?_
      refine a_invV K (m_root h m) my_X3_heldRoot ml_X10_165 im_X3_heldRoot se_X3_heldRoot (ci := 3) (lw_i6 hL) (by decide) ⟨_, _, rfl⟩ rfl (by omega) (by omega) (by omega) rfl (Nat.le_of_ble_eq_true rfl) dX10_fork_5 ?_
      intro r9 S9 hp9
      obtain ⟨rfl, hS9⟩ := hp9
      obtain rfl := hS9.symm
      rw [hz]
      refine a_ifnullN K dX10_fork_8 (tgt := 22) (by decide) ?_
      refine a_iconst K dX10_fork_22 (v := -1) (by decide) ?_
      exact a_iret K EE rfl (by omega) (by omega) dX10_fork_23 ⟨by unfold aFork; rw [hz], h, h.X⟩
  | some z =>
    cases hy : rootP P o with
    | none =>
      refine aw_enter (by decide +kernel) (Nat.le_of_ble_eq_true rfl) (fun g K EE => ?_)
      first | refine a_aload_n K dX10_fork_0 rfl ?_ | refine a_aload_nN K dX10_fork_0 rfl ?_
      refine a_getRs K fd_X10_46 (lw_i4 hL) (Or.inl ⟨_, rfl⟩) (lw_f646 hL) dX10_fork_1 ?_
      refine a_iload_n K dX10_fork_4 rfl ?_
      refine a_invV K (m_root h m) my_X3_heldRoot ml_X10_165 im_X3_heldRoot se_X3_heldRoot (ci := 3) (lw_i6 hL) (by decide) ⟨_, _, rfl⟩ rfl (by omega) (by omega) (by omega) rfl (Nat.le_of_ble_eq_true rfl) dX10_fork_5 ?_
      intro r9 S9 hp9
      obtain ⟨rfl, hS9⟩ := hp9
      obtain rfl := hS9.symm
      rw [hz]
      refine a_ifnull K dX10_fork_8 ?_
      first | refine a_aload_n K dX10_fork_11 rfl ?_ | refine a_aload_nN K dX10_fork_11 rfl ?_
      refine a_getRs K fd_X10_46 (lw_i4 hL) (Or.inl ⟨_, rfl⟩) (lw_f646 hL) dX10_fork_12 ?_
      refine a_iload_n K dX10_fork_15 rfl ?_
      refine a_invV K (m_root h o) my_X3_heldRoot ml_X10_165 im_X3_heldRoot se_X3_heldRoot (ci := 3) (lw_i6 hL) (by decide) ⟨_, _, rfl⟩ rfl (by omega) (by omega) (by omega) rfl (Nat.le_of_ble_eq_true rfl) dX10_fork_16 ?_
      intro r9 S9 hp9
      obtain ⟨rfl, hS9⟩ := hp9
      obtain rfl := hS9.symm
      rw [hy]
      refine a_ifnonnullN K dX10_fork_19 ?_
      refine a_iconst K dX10_fork_22 (v := -1) (by decide) ?_
      exact a_iret K EE rfl (by omega) (by omega) dX10_fork_23 ⟨by unfold aFork; rw [hz, hy], h, h.X⟩
    | some y =>
      obtain ⟨j1, x1, rfl, hj1, -, -, -⟩ := rootP_mem hz
      obtain ⟨j2, x2, rfl, hj2, -, -, -⟩ := rootP_mem hy
      refine aw_enter (by decide +kernel) (Nat.le_of_ble_eq_true rfl) (fun g K EE => ?_)
      first | refine a_aload_n K dX10_fork_0 rfl ?_ | refine a_aload_nN K dX10_fork_0 rfl ?_
      refine a_getRs K fd_X10_46 (lw_i4 hL) (Or.inl ⟨_, rfl⟩) (lw_f646 hL) dX10_fork_1 ?_
      refine a_iload_n K dX10_fork_4 rfl ?_
      refine a_invV K (m_root h (nI j1)) my_X3_heldRoot ml_X10_165 im_X3_heldRoot se_X3_heldRoot (ci := 3) (lw_i6 hL) (by decide) ⟨_, _, rfl⟩ rfl (by omega) (by omega) (by omega) rfl (Nat.le_of_ble_eq_true rfl) dX10_fork_5 ?_
      intro r9 S9 hp9
      obtain ⟨rfl, hS9⟩ := hp9
      obtain rfl := hS9.symm
      rw [hz]
      refine a_ifnull K dX10_fork_8 ?_
      first | refine a_aload_n K dX10_fork_11 rfl ?_ | refine a_aload_nN K dX10_fork_11 rfl ?_
      refine a_getRs K fd_X10_46 (lw_i4 hL) (Or.inl ⟨_, rfl⟩) (lw_f646 hL) dX10_fork_12 ?_
      refine a_iload_n K dX10_fork_15 rfl ?_
      refine a_invV K (m_root h (nI j2)) my_X3_heldRoot ml_X10_165 im_X3_heldRoot se_X3_heldRoot (ci := 3) (lw_i6 hL) (by decide) ⟨_, _, rfl⟩ rfl (by omega) (by omega) (by omega) rfl (Nat.le_of_ble_eq_true rfl) dX10_fork_16 ?_
      intro r9 S9 hp9
      obtain ⟨rfl, hS9⟩ := hp9
      obtain rfl := hS9.symm
      rw [hy]
      refine a_ifnonnull K dX10_fork_19 (tgt := 24) (by decide) ?_
      first | refine a_aload_n K dX10_fork_24 rfl ?_ | refine a_aload_nN K dX10_fork_24 rfl ?_
      refine a_getRs K fd_X10_46 (lw_i4 hL) (Or.inl ⟨_, rfl⟩) (lw_f646 hL) dX10_fork_25 ?_
      refine a_iload_n K dX10_fork_28 rfl ?_
      refine a_iload_n K dX10_fork_29 rfl ?_
      refine a_invV K (c_highestBehind h hPL hj1 hj2) my_X3_highestBehind ml_X10_411 im_X3_highestBehind se_X3_highestBehind (ci := 3) (lw_i6 hL) (by decide) ⟨_, _, rfl⟩ rfl (by omega) (by omega) (by omega) rfl (Nat.le_of_ble_eq_true rfl) dX10_fork_30 ?_
      intro r9 S9 hp9
      obtain ⟨rfl, h2, k2⟩ := hp9
      exact a_iret K EE rfl (by omega) (by omega) dX10_fork_33 ⟨by unfold aFork; rw [hz, hy]; show _ = some (Value.int (frkV P (nI j1).toNatClampNeg (nI j2).toNatClampNeg)); rw [nI_clamp (by omega), nI_clamp (by omega)], h2, k2⟩
theorem cmf_eq {P : PS} (hPL : PL P) (hl : (pM P).length ≤ 999) {a n : Nat} (hn : n < 999) (h : frkV P a n = nI n) : cmfV P a n = 1 := by
  refine cmfV_y ?_
  by_cases hx : ∃ k, (AN P a k ∧ AN P n k) ∧ ∀ j, k < j → ¬ (AN P a j ∧ AN P n j)
  · obtain ⟨k, hk, hm⟩ := hx
    have h1 := frkV_y hk hm
    have h2 := AN.le hPL hl hk.2
    have h3 := nI_inj (by omega) (by omega) (h1.symm.trans h)
    exact h3 ▸ hk.1
  · unfold frkV at h
    rw [dif_neg hx] at h
    exact absurd h.symm (nI_m1n (by omega))
theorem cmf_ne {P : PS} (hPL : PL P) (hl : (pM P).length ≤ 999) {a n : Nat} (h : ¬ frkV P a n = nI n) : cmfV P a n = 0 :=
  cmfV_n (fun z => h (frkV_y ⟨z, AN.self P n⟩ (fun j hj y => by have h9 := AN.le hPL hl y.2; omega)))
set_option maxHeartbeats 4000000 in
set_option maxRecDepth 100000 in
theorem c_comesFrom {S : aw_S} {v ad ar : Nat → Nat} {PA : List (Nat × Nat)} {X : List Nat} {mb : Nat} {P : PS} (h : RC S v ad ar PA X mb P) (hPL : PL P) {m n : Int32} : aw_M yX10_comesFrom cX10_comesFrom 3 (some FieldType.int) 4 0 0 [.ref (v 4), .int m, .int n] S (fun r S2 => r = some (.int (aComes P m n)) ∧ RC S2 v ad ar PA X mb P ∧ keepX X S S2) := by
  have hL := h.L
  have hl9 := h.2.2.1.2.1
  cases hz : rootP P m with
  | none =>
    refine aw_enter (by decide +kernel) (Nat.le_of_ble_eq_true rfl) (fun g K EE => ?_)
    first | refine a_aload_n K dX10_comesFrom_0 rfl ?_ | refine a_aload_nN K dX10_comesFrom_0 rfl ?_
    refine a_getRs K fd_X10_46 (lw_i4 hL) (Or.inl ⟨_, rfl⟩) (lw_f646 hL) dX10_comesFrom_1 ?_
    refine a_iload_n K dX10_comesFrom_4 rfl ?_
    refine a_invV K (m_root h m) my_X3_heldRoot ml_X10_165 im_X3_heldRoot se_X3_heldRoot (ci := 3) (lw_i6 hL) (by decide) ⟨_, _, rfl⟩ rfl (by omega) (by omega) (by omega) rfl (Nat.le_of_ble_eq_true rfl) dX10_comesFrom_5 ?_
    intro r9 S9 hp9
    obtain ⟨rfl, hS9⟩ := hp9
    obtain rfl := hS9.symm
    rw [hz]
    refine a_ifnullN K dX10_comesFrom_8 (tgt := 26) (by decide) ?_
    refine a_iconst K dX10_comesFrom_26 (v := -1) (by decide) ?_
    exact a_iret K EE rfl (by omega) (by omega) dX10_comesFrom_27 ⟨by unfold aComes; rw [hz], h, h.X⟩
  | some z =>
    by_cases hn : 0 ≤ n.toInt ∧ n.toInt < (pM P).length
    · obtain ⟨j1, x1, rfl, hj1, -, -, -⟩ := rootP_mem hz
      obtain ⟨j, hj9, rfl⟩ := nI_of (x := n) (by rw [i32_lt]; show ¬ n.toInt < 0; omega)
      have hj : j < (pM P).length := by rw [nI_toInt hj9] at hn; omega
      refine aw_enter (by decide +kernel) (Nat.le_of_ble_eq_true rfl) (fun g K EE => ?_)
      first | refine a_aload_n K dX10_comesFrom_0 rfl ?_ | refine a_aload_nN K dX10_comesFrom_0 rfl ?_
      refine a_getRs K fd_X10_46 (lw_i4 hL) (Or.inl ⟨_, rfl⟩) (lw_f646 hL) dX10_comesFrom_1 ?_
      refine a_iload_n K dX10_comesFrom_4 rfl ?_
      refine a_invV K (m_root h (nI j1)) my_X3_heldRoot ml_X10_165 im_X3_heldRoot se_X3_heldRoot (ci := 3) (lw_i6 hL) (by decide) ⟨_, _, rfl⟩ rfl (by omega) (by omega) (by omega) rfl (Nat.le_of_ble_eq_true rfl) dX10_comesFrom_5 ?_
      intro r9 S9 hp9
      obtain ⟨rfl, hS9⟩ := hp9
      obtain rfl := hS9.symm
      rw [hz]
      refine a_ifnull K dX10_comesFrom_8 ?_
      refine a_iload_n K dX10_comesFrom_11 rfl ?_
      refine a_if_lt K dX10_comesFrom_12 (tgt := 26) (by decide) (fun c_12 => absurd c_12 (nI_pos (by omega))) (fun c_12 => ?_)
      refine a_iload_n K dX10_comesFrom_15 rfl ?_
      first | refine a_aload_n K dX10_comesFrom_16 rfl ?_ | refine a_aload_nN K dX10_comesFrom_16 rfl ?_
      refine a_getRs K fd_X10_46 (lw_i4 hL) (Or.inl ⟨_, rfl⟩) (lw_f646 hL) dX10_comesFrom_17 ?_
      refine a_invV K (m_X3_given (lw_i6 hL)) my_X3_given ml_X10_228 im_X3_given se_X3_given (ci := 3) (lw_i6 hL) (by decide) ⟨_, _, rfl⟩ rfl (by omega) (by omega) (by omega) rfl (Nat.le_of_ble_eq_true rfl) dX10_comesFrom_20 ?_
      intro r9 S9 hp9
      obtain ⟨rfl, hS9⟩ := hp9
      obtain rfl := hS9.symm
      rw [h.lg.1]
      refine a_icmp_lt K dX10_comesFrom_23 (tgt := 28) (by decide) (fun c_23 => ?_) (fun c_23 => absurd c_23 (fun z => z (nI_lt hj (by omega))))
      first | refine a_aload_n K dX10_comesFrom_28 rfl ?_ | refine a_aload_nN K dX10_comesFrom_28 rfl ?_
      refine a_getRs K fd_X10_46 (lw_i4 hL) (Or.inl ⟨_, rfl⟩) (lw_f646 hL) dX10_comesFrom_29 ?_
      refine a_iload_n K dX10_comesFrom_32 rfl ?_
      refine a_iload_n K dX10_comesFrom_33 rfl ?_
      refine a_invV K (c_highestBehind h hPL hj1 hj) my_X3_highestBehind ml_X10_411 im_X3_highestBehind se_X3_highestBehind (ci := 3) (lw_i6 hL) (by decide) ⟨_, _, rfl⟩ rfl (by omega) (by omega) (by omega) rfl (Nat.le_of_ble_eq_true rfl) dX10_comesFrom_34 ?_
      intro r9 S9 hp9
      obtain ⟨rfl, h2, k2⟩ := hp9
      refine a_iload_n K dX10_comesFrom_37 rfl ?_
      refine a_icmp_ne K dX10_comesFrom_38 (tgt := 45) (by decide) (fun c_38 => ?_) (fun c_38 => ?_)
      · refine a_iconst K dX10_comesFrom_45 (v := 0) (by decide) ?_
        exact a_iret K EE rfl (by omega) (by omega) dX10_comesFrom_46 ⟨by unfold aComes; rw [hz]; show _ = some (Value.int (ite _ _ _)); rw [nI_toInt (show j < 2 ^ 31 by omega), if_pos (by omega), nI_clamp (show j < 2 ^ 31 by omega), nI_clamp (show j1 < 2 ^ 31 by omega)]; first | rw [cmf_eq hPL hl9 (by omega) (by first | exact c_38 | exact Classical.not_not.mp c_38)] | rw [cmf_ne hPL hl9 c_38], h2, k2⟩
      · refine a_iconst K dX10_comesFrom_41 (v := 1) (by decide) ?_
        refine a_goto K dX10_comesFrom_42 (tgt := 46) (by decide) ?_
        exact a_iret K EE rfl (by omega) (by omega) dX10_comesFrom_46 ⟨by unfold aComes; rw [hz]; show _ = some (Value.int (ite _ _ _)); rw [nI_toInt (show j < 2 ^ 31 by omega), if_pos (by omega), nI_clamp (show j < 2 ^ 31 by omega), nI_clamp (show j1 < 2 ^ 31 by omega)]; first | rw [cmf_eq hPL hl9 (by omega) (by first | exact c_38 | exact Classical.not_not.mp c_38)] | rw [cmf_ne hPL hl9 c_38], h2, k2⟩
    · refine aw_enter (by decide +kernel) (Nat.le_of_ble_eq_true rfl) (fun g K EE => ?_)
      first | refine a_aload_n K dX10_comesFrom_0 rfl ?_ | refine a_aload_nN K dX10_comesFrom_0 rfl ?_
      refine a_getRs K fd_X10_46 (lw_i4 hL) (Or.inl ⟨_, rfl⟩) (lw_f646 hL) dX10_comesFrom_1 ?_
      refine a_iload_n K dX10_comesFrom_4 rfl ?_
      refine a_invV K (m_root h m) my_X3_heldRoot ml_X10_165 im_X3_heldRoot se_X3_heldRoot (ci := 3) (lw_i6 hL) (by decide) ⟨_, _, rfl⟩ rfl (by omega) (by omega) (by omega) rfl (Nat.le_of_ble_eq_true rfl) dX10_comesFrom_5 ?_
      intro r9 S9 hp9
      obtain ⟨rfl, hS9⟩ := hp9
      obtain rfl := hS9.symm
      rw [hz]
      refine a_ifnull K dX10_comesFrom_8 ?_
      refine a_iload_n K dX10_comesFrom_11 rfl ?_
      refine a_if_lt K dX10_comesFrom_12 (tgt := 26) (by decide) (fun c_12 => ?_) (fun c_12 => ?_)
      · refine a_iconst K dX10_comesFrom_26 (v := -1) (by decide) ?_
        exact a_iret K EE rfl (by omega) (by omega) dX10_comesFrom_27 ⟨by unfold aComes; rw [hz]; show _ = some (Value.int (ite _ _ _)); rw [if_neg hn], h, h.X⟩
      · obtain ⟨j, hj, rfl⟩ := nI_of c_12
        refine a_iload_n K dX10_comesFrom_15 rfl ?_
        first | refine a_aload_n K dX10_comesFrom_16 rfl ?_ | refine a_aload_nN K dX10_comesFrom_16 rfl ?_
        refine a_getRs K fd_X10_46 (lw_i4 hL) (Or.inl ⟨_, rfl⟩) (lw_f646 hL) dX10_comesFrom_17 ?_
        refine a_invV K (m_X3_given (lw_i6 hL)) my_X3_given ml_X10_228 im_X3_given se_X3_given (ci := 3) (lw_i6 hL) (by decide) ⟨_, _, rfl⟩ rfl (by omega) (by omega) (by omega) rfl (Nat.le_of_ble_eq_true rfl) dX10_comesFrom_20 ?_
        intro r9 S9 hp9
        obtain ⟨rfl, hS9⟩ := hp9
        obtain rfl := hS9.symm
        rw [h.lg.1]
        refine a_icmp_lt K dX10_comesFrom_23 (tgt := 28) (by decide) (fun c_23 => ?_) (fun c_23 => ?_)
        · exact absurd hn (fun z => z ⟨by rw [nI_toInt hj]; omega, by rw [i32_lt, nI_toInt (show (pM P).length < 2 ^ 31 by omega)] at c_23; exact c_23⟩)
        · refine a_iconst K dX10_comesFrom_26 (v := -1) (by decide) ?_
          exact a_iret K EE rfl (by omega) (by omega) dX10_comesFrom_27 ⟨by unfold aComes; rw [hz]; show _ = some (Value.int (ite _ _ _)); rw [if_neg hn], h, h.X⟩
