/-! the keys of two rows, rising -/
theorem okE_key {x : KV} (h : okE x) : ∃ n, n < 1000 ∧ x.1 = nI n := h.1
/-- the first key at p or behind it (none: -1) -/
theorem fst_spec {E : List KV} (hE : ∀ x ∈ E, okE x) (hs : srt E) (p : Nat) : (keyAtL E (kpl E (nI p)) = -1 ∧ ∀ q, p ≤ q → q < 1000 → valIn E (nI q) = -1000000) ∨ ∃ q, q < 1000 ∧ keyAtL E (kpl E (nI p)) = nI q ∧ ¬ nI q < nI p ∧ ∀ i, p ≤ i → i < q → i < 1000 → valIn E (nI i) = -1000000 := by
  have hg : ∀ i, p ≤ i → i < 1000 → ∀ (j : Nat) (x : KV), E[j]? = some x → x.1 = nI i → kpl E (nI p) ≤ j := fun i hi hi2 j x hx e => by
    refine Nat.le_of_not_lt (fun hj => ?_)
    have h1 := (kpl_iff (key := nI p) hs hx).mpr hj
    rw [e] at h1
    exact nI_nlt hi (by omega) h1
  cases hx : E[kpl E (nI p)]? with
  | none =>
    refine Or.inl ⟨by unfold keyAtL; rw [hx], fun q hq hq2 => valIn_none (fun x hx2 e => ?_)⟩
    obtain ⟨j, hj⟩ := List.getElem?_of_mem hx2
    have h1 := hg q hq hq2 j x hj e
    have h2 := List.getElem?_eq_none_iff.mp hx
    have h3 := (List.getElem?_eq_some_iff.mp hj).1
    omega
  | some x =>
    obtain ⟨q, hq, e⟩ := okE_key (hE x (List.mem_of_getElem? hx))
    refine Or.inr ⟨q, hq, by rw [keyAtL_in hx, e], by have := kpl_ge (nI p) E x hx; rw [e] at this; exact this, fun i hi hi2 hi3 => valIn_none (fun y hy ey => ?_)⟩
    obtain ⟨j, hj⟩ := List.getElem?_of_mem hy
    have h1 := hg i hi hi3 j y hj ey
    have hjl := (List.getElem?_eq_some_iff.mp hj)
    have hkl := (List.getElem?_eq_some_iff.mp hx)
    by_cases ej : kpl E (nI p) = j
    · rw [ej, hj] at hx
      obtain rfl := Option.some.inj hx
      have := nI_inj (by omega) (by omega) (ey.symm.trans e)
      omega
    · have h2 := List.pairwise_iff_getElem.mp hs (kpl E (nI p)) j hkl.1 hjl.1 (by omega)
      rw [hkl.2, hjl.2, e, ey] at h2
      exact nI_nlt (Nat.le_of_lt hi2) (by omega) h2
def nxK (E F : List KV) (k : Int32) : Int32 := if keyAtL E (kpl E (k + 1)) = -1 ∨ keyAtL F (kpl F (k + 1)) = -1 then (if keyAtL E (kpl E (k + 1)) < keyAtL F (kpl F (k + 1)) then keyAtL F (kpl F (k + 1)) else keyAtL E (kpl E (k + 1))) else (if keyAtL F (kpl F (k + 1)) < keyAtL E (kpl E (k + 1)) then keyAtL F (kpl F (k + 1)) else keyAtL E (kpl E (k + 1)))
/-- a key that is the next one at p or behind it -/
def nxt (E F : List KV) (p : Nat) (k : Int32) : Prop := (k = -1 ∧ ∀ q, p ≤ q → q < 1000 → valIn E (nI q) = -1000000 ∧ valIn F (nI q) = -1000000) ∨ ∃ q, p ≤ q ∧ q < 1000 ∧ k = nI q ∧ ∀ i, p ≤ i → i < q → valIn E (nI i) = -1000000 ∧ valIn F (nI i) = -1000000
theorem nxK_spec {E F : List KV} (hE : ∀ x ∈ E, okE x) (sE : srt E) (hF : ∀ x ∈ F, okE x) (sF : srt F) {p : Nat} (hp : p ≤ 1000) {k : Int32} (hk : k + 1 = nI p) : nxt E F p (nxK E F k) := by
  unfold nxK
  rw [hk]
  have m1 : ∀ q, q < 1000 → ¬ nI q = -1 := fun q hq => nI_m1n (by omega)
  have mL : ∀ q, q < 1000 → (-1 : Int32) < nI q := fun q hq => by
    rw [i32_lt, nI_toInt (by omega)]
    have : (-1 : Int32).toInt = -1 := by decide
    omega
  have mG : ∀ q, q < 1000 → ¬ nI q < (-1 : Int32) := fun q hq => by
    rw [i32_lt, nI_toInt (by omega)]
    have : (-1 : Int32).toInt = -1 := by decide
    omega
  have pq : ∀ q, q < 1000 → ¬ nI q < nI p → p ≤ q := fun q hq h => Nat.le_of_not_lt (fun z => h (nI_lt z (by omega)))
  rcases fst_spec hE sE p with ⟨a1, a2⟩ | ⟨q, hq, a1, a2, a3⟩ <;> rcases fst_spec hF sF p with ⟨b1, b2⟩ | ⟨r, hr, b1, b2, b3⟩ <;> rw [a1, b1]
  · rw [if_pos (Or.inl rfl), if_neg (lt_ir _)]
    exact Or.inl ⟨rfl, fun q h1 h2 => ⟨a2 q h1 h2, b2 q h1 h2⟩⟩
  · rw [if_pos (Or.inl rfl), if_pos (mL r hr)]
    exact Or.inr ⟨r, pq r hr b2, hr, rfl, fun i h1 h2 => ⟨a2 i h1 (by omega), b3 i h1 h2 (by omega)⟩⟩
  · rw [if_pos (Or.inr rfl), if_neg (mG q hq)]
    exact Or.inr ⟨q, pq q hq a2, hq, rfl, fun i h1 h2 => ⟨a3 i h1 h2 (by omega), b2 i h1 (by omega)⟩⟩
  · rw [if_neg (fun z => z.elim (m1 q hq) (m1 r hr))]
    by_cases h : r < q
    · rw [if_pos (nI_lt h (by omega))]
      exact Or.inr ⟨r, pq r hr b2, hr, rfl, fun i h1 h2 => ⟨a3 i h1 (by omega) (by omega), b3 i h1 h2 (by omega)⟩⟩
    · rw [if_neg (nI_nlt (Nat.le_of_not_lt h) (by omega))]
      exact Or.inr ⟨q, pq q hq a2, hq, rfl, fun i h1 h2 => ⟨a3 i h1 h2 (by omega), b3 i h1 (by omega) (by omega)⟩⟩
/-- a row with its entries in order -/
def RoK (S : aw_S) (r ka va : Nat) (E : List KV) : Prop := RoW S r ka va E ∧ srt E ∧ ∀ x ∈ E, okE x
set_option maxHeartbeats 4000000 in
set_option maxRecDepth 100000 in
theorem m_lowestAbove {S : aw_S} {rr ka va rs kb vb : Nat} {E F : List KV} {k : Int32} (hE : RoK S rr ka va E) (hF : RoK S rs kb vb F) : aw_M yX10_lowestAbove cX10_lowestAbove 5 (some FieldType.int) 2 0 0 [.ref rr, .ref rs, .int k] S (fun q S2 => q = some (.int (nxK E F k)) ∧ S2 = S) := by
  have oE := hE.1.1
  have oF := hF.1.1
  refine aw_enter (by decide +kernel) (Nat.le_of_ble_eq_true rfl) (fun g K EE => ?_)
  first | refine a_aload_n K dX10_lowestAbove_0 rfl ?_ | refine a_aload_nN K dX10_lowestAbove_0 rfl ?_
  first | refine a_aload_n K dX10_lowestAbove_1 rfl ?_ | refine a_aload_nN K dX10_lowestAbove_1 rfl ?_
  refine a_iload_n K dX10_lowestAbove_2 rfl ?_
  refine a_iconst K dX10_lowestAbove_3 (v := 1) (by decide) ?_
  refine a_iadd K dX10_lowestAbove_4 ?_
  refine a_invV K (m_R_placeOf (key := k + 1) hE.1 hE.2.1) my_X7_placeOf ml_X10_199 im_X7_placeOf se_X7_placeOf (ci := 7) (by assumption) (by decide) ⟨_, _, rfl⟩ rfl (by omega) (by omega) (by omega) rfl (Nat.le_of_ble_eq_true rfl) dX10_lowestAbove_5 ?_
  intro r9 S9 hp9
  obtain ⟨rfl, hS9⟩ := hp9
  obtain rfl := hS9.symm
  refine a_invV K (m_R_keyAt (j := kpl E (k + 1)) hE.1 (by have h1 := kpl_le (k + 1) E; have h2 := hE.1.2.2.2.2.2.2.2.2.2.1; omega)) my_X7_keyAt ml_X10_139 im_X7_keyAt se_X7_keyAt (ci := 7) (by assumption) (by decide) ⟨_, _, rfl⟩ rfl (by omega) (by omega) (by omega) rfl (Nat.le_of_ble_eq_true rfl) dX10_lowestAbove_8 ?_
  intro r9 S9 hp9
  obtain ⟨rfl, hS9⟩ := hp9
  obtain rfl := hS9.symm
  refine a_istore_n K dX10_lowestAbove_11 (by decide) ?_
  first | refine a_aload_n K dX10_lowestAbove_12 rfl ?_ | refine a_aload_nN K dX10_lowestAbove_12 rfl ?_
  first | refine a_aload_n K dX10_lowestAbove_13 rfl ?_ | refine a_aload_nN K dX10_lowestAbove_13 rfl ?_
  refine a_iload_n K dX10_lowestAbove_14 rfl ?_
  refine a_iconst K dX10_lowestAbove_15 (v := 1) (by decide) ?_
  refine a_iadd K dX10_lowestAbove_16 ?_
  refine a_invV K (m_R_placeOf (key := k + 1) hF.1 hF.2.1) my_X7_placeOf ml_X10_199 im_X7_placeOf se_X7_placeOf (ci := 7) (by assumption) (by decide) ⟨_, _, rfl⟩ rfl (by omega) (by omega) (by omega) rfl (Nat.le_of_ble_eq_true rfl) dX10_lowestAbove_17 ?_
  intro r9 S9 hp9
  obtain ⟨rfl, hS9⟩ := hp9
  obtain rfl := hS9.symm
  refine a_invV K (m_R_keyAt (j := kpl F (k + 1)) hF.1 (by have h1 := kpl_le (k + 1) F; have h2 := hF.1.2.2.2.2.2.2.2.2.2.1; omega)) my_X7_keyAt ml_X10_139 im_X7_keyAt se_X7_keyAt (ci := 7) (by assumption) (by decide) ⟨_, _, rfl⟩ rfl (by omega) (by omega) (by omega) rfl (Nat.le_of_ble_eq_true rfl) dX10_lowestAbove_20 ?_
  intro r9 S9 hp9
  obtain ⟨rfl, hS9⟩ := hp9
  obtain rfl := hS9.symm
  refine a_istore K dX10_lowestAbove_23 (by decide) ?_
  refine a_iload_n K dX10_lowestAbove_25 rfl ?_
  refine a_iconst K dX10_lowestAbove_26 (v := -1) (by decide) ?_
  refine a_icmp_eq K dX10_lowestAbove_27 (tgt := 36) (by decide) (fun c_27 => ?_) (fun c_27 => ?_)
  · refine a_iload_n K dX10_lowestAbove_36 rfl ?_
    refine a_iload K dX10_lowestAbove_37 rfl ?_
    refine a_mmax K ml_X10_270 (by omega) (Nat.le_of_ble_eq_true rfl) (by omega) (by omega) dX10_lowestAbove_39 ?_
    exact a_iret K EE rfl (by omega) (by omega) dX10_lowestAbove_42 ⟨by refine congrArg (fun q => some (Value.int q)) ?_; symm; unfold nxK; first | rw [if_pos (Or.inl (by first | exact c_27 | exact Classical.not_not.mp c_27))] | rw [if_pos (Or.inr (by first | exact c_33 | exact Classical.not_not.mp c_33))], rfl⟩
  · refine a_iload K dX10_lowestAbove_30 rfl ?_
    refine a_iconst K dX10_lowestAbove_32 (v := -1) (by decide) ?_
    refine a_icmp_ne K dX10_lowestAbove_33 (tgt := 43) (by decide) (fun c_33 => ?_) (fun c_33 => ?_)
    · refine a_iload_n K dX10_lowestAbove_43 rfl ?_
      refine a_iload K dX10_lowestAbove_44 rfl ?_
      refine a_mmin K ml_X10_436 (by omega) (Nat.le_of_ble_eq_true rfl) (by omega) (by omega) dX10_lowestAbove_46 ?_
      exact a_iret K EE rfl (by omega) (by omega) dX10_lowestAbove_49 ⟨by refine congrArg (fun q => some (Value.int q)) ?_; symm; unfold nxK; rw [if_neg (fun z => z.elim (fun y => c_27 y) (fun y => c_33 y))], rfl⟩
    · refine a_iload_n K dX10_lowestAbove_36 rfl ?_
      refine a_iload K dX10_lowestAbove_37 rfl ?_
      refine a_mmax K ml_X10_270 (by omega) (Nat.le_of_ble_eq_true rfl) (by omega) (by omega) dX10_lowestAbove_39 ?_
      exact a_iret K EE rfl (by omega) (by omega) dX10_lowestAbove_42 ⟨by refine congrArg (fun q => some (Value.int q)) ?_; symm; unfold nxK; first | rw [if_pos (Or.inl (by first | exact c_27 | exact Classical.not_not.mp c_27))] | rw [if_pos (Or.inr (by first | exact c_33 | exact Classical.not_not.mp c_33))], rfl⟩
/-- the i-th key of a sort in the last n keys, f known before it; how many then -/
def fndU (U : Nat → Bool) (i : Int32) : Nat → Nat → Option Nat × Nat
  | 0, f => (none, f)
  | n + 1, f => if U (999 - n) then (if nI f = i then (some (999 - n), f) else fndU U i n (f + 1)) else fndU U i n f
theorem fndU_skip {U : Nat → Bool} {i : Int32} {m f : Nat} : ∀ n, m ≤ n → (∀ j, m ≤ j → j < n → U (999 - j) = false) → fndU U i n f = fndU U i m f
  | 0, h, _ => by rw [show m = 0 by omega]
  | n + 1, h, hU => by
    by_cases e : m = n + 1
    · rw [e]
    · rw [fndU, hU n (by omega) (by omega), if_neg (by decide)]
      exact fndU_skip n (by omega) (fun j h1 h2 => hU j h1 (by omega))
/-- how many keys of a sort in the last n, f known before -/
def cntU (U : Nat → Bool) : Nat → Nat → Nat
  | 0, f => f
  | n + 1, f => if U (999 - n) then cntU U n (f + 1) else cntU U n f
theorem cntU_skip {U : Nat → Bool} {m f : Nat} : ∀ n, m ≤ n → (∀ j, m ≤ j → j < n → U (999 - j) = false) → cntU U n f = cntU U m f
  | 0, h, _ => by rw [show m = 0 by omega]
  | n + 1, h, hU => by
    by_cases e : m = n + 1
    · rw [e]
    · rw [cntU, hU n (by omega) (by omega), if_neg (by decide)]
      exact cntU_skip n (by omega) (fun j h1 h2 => hU j h1 (by omega))
def unl (E F : List KV) (k : Nat) : Bool := decide (¬ valIn E (nI k) = valIn F (nI k))
/-- of a difference: the key, the value in the one, in the other -/
def difP (E F : List KV) (k : Nat) (w : Int32) : Int32 := if w = 0 then nI k else if w = 1 then valIn E (nI k) else if w = 2 then valIn F (nI k) else -1000000
def difA (E F : List KV) (i w : Int32) : Int32 := match fndU (unl E F) i 1000 0 with
  | (some k, _) => difP E F k w
  | (none, f) => if i = -1 then nI f else -1000000
def aDiff (P : PS) (m o i w : Int32) : Int32 := match rootP P m, rootP P o with
  | some z, some y => difA (ent z.1 z.2) (ent y.1 y.2) i w
  | _, _ => -1000000
theorem PI.rok {P : PS} (hP : PI P) {m : Int32} {z : Tz} (hz : rootP P m = some z) : srt (ent z.1 z.2) ∧ ∀ x ∈ ent z.1 z.2, okE x := by
  obtain ⟨j, x, -, -, hx, rfl, -⟩ := rootP_mem hz
  have h1 := hP.2.1 x (List.mem_of_getElem? hx)
  exact ⟨h1.1.2.2.2.1, h1.2.1⟩
set_option maxHeartbeats 4000000 in
set_option maxRecDepth 100000 in
theorem m_partOfDifference {S : aw_S} {v : Nat → Nat} (hL : LW S v) {E F : List KV} (hE : RoK S (v 25) (v 26) (v 27) E) (hF : RoK S (v 28) (v 29) (v 30) F) {q : Nat} {w : Int32} : aw_M yX10_partOfDifference cX10_partOfDifference 3 (some FieldType.int) 3 0 0 [.ref (v 4), .int (nI q), .int w] S (fun r S2 => r = some (.int (difP E F q w)) ∧ S2 = S) := by
  refine aw_enter (by decide +kernel) (Nat.le_of_ble_eq_true rfl) (fun g K EE => ?_)
  by_cases w0 : w = 0
  · subst w0
    refine a_iload_n K dX10_partOfDifference_0 rfl ?_
    refine a_tsIn K dX10_partOfDifference_1 (off := 27) (tgt := 28) (by decide) (by decide) rfl (by decide) ?_
    refine a_iload_n K dX10_partOfDifference_28 rfl ?_
    exact a_iret K EE rfl (by omega) (by omega) dX10_partOfDifference_29 ⟨by unfold difP; rw [if_pos rfl], rfl⟩
  · by_cases w1 : w = 1
    · subst w1
      refine a_iload_n K dX10_partOfDifference_0 rfl ?_
      refine a_tsIn K dX10_partOfDifference_1 (off := 29) (tgt := 30) (by decide) (by decide) rfl (by decide) ?_
      first | refine a_aload_n K dX10_partOfDifference_30 rfl ?_ | refine a_aload_nN K dX10_partOfDifference_30 rfl ?_
      refine a_getRs K fd_X10_77 (lw_i4 hL) (Or.inl ⟨_, rfl⟩) (lw_f652 hL) dX10_partOfDifference_31 ?_
      refine a_iload_n K dX10_partOfDifference_34 rfl ?_
      refine a_invV K (m_R_valueOf (key := nI q) hE.1 hE.2.1) my_X7_valueOf ml_X10_263 im_X7_valueOf se_X7_valueOf (ci := 7) (by first | exact lw_i25 hL | exact lw_i28 hL | exact lw_i31 hL) (by decide) ⟨_, _, rfl⟩ rfl (by omega) (by omega) (by omega) rfl (Nat.le_of_ble_eq_true rfl) dX10_partOfDifference_35 ?_
      intro r9 S9 hp9
      obtain ⟨rfl, hS9⟩ := hp9
      obtain rfl := hS9.symm
      exact a_iret K EE rfl (by omega) (by omega) dX10_partOfDifference_38 ⟨by unfold difP; rw [if_neg (by decide), if_pos rfl], rfl⟩
    · by_cases w2 : w = 2
      · subst w2
        refine a_iload_n K dX10_partOfDifference_0 rfl ?_
        refine a_tsIn K dX10_partOfDifference_1 (off := 38) (tgt := 39) (by decide) (by decide) rfl (by decide) ?_
        first | refine a_aload_n K dX10_partOfDifference_39 rfl ?_ | refine a_aload_nN K dX10_partOfDifference_39 rfl ?_
        refine a_getRs K fd_X10_81 (lw_i4 hL) (Or.inl ⟨_, rfl⟩) (lw_f653 hL) dX10_partOfDifference_40 ?_
        refine a_iload_n K dX10_partOfDifference_43 rfl ?_
        refine a_invV K (m_R_valueOf (key := nI q) hF.1 hF.2.1) my_X7_valueOf ml_X10_263 im_X7_valueOf se_X7_valueOf (ci := 7) (by first | exact lw_i25 hL | exact lw_i28 hL | exact lw_i31 hL) (by decide) ⟨_, _, rfl⟩ rfl (by omega) (by omega) (by omega) rfl (Nat.le_of_ble_eq_true rfl) dX10_partOfDifference_44 ?_
        intro r9 S9 hp9
        obtain ⟨rfl, hS9⟩ := hp9
        obtain rfl := hS9.symm
        exact a_iret K EE rfl (by omega) (by omega) dX10_partOfDifference_47 ⟨by unfold difP; rw [if_neg (by decide), if_neg (by decide), if_pos rfl], rfl⟩
      · have hw : w.toInt < 0 ∨ 2 < w.toInt := tswn3 w0 w1 w2
        refine a_iload_n K dX10_partOfDifference_0 rfl ?_
        refine a_tsOut K dX10_partOfDifference_1 (tgt := 48) (hw) (by decide) ?_
        refine a_ldc K kc_X10_180 dX10_partOfDifference_48 ?_
        exact a_iret K EE rfl (by omega) (by omega) dX10_partOfDifference_50 ⟨by unfold difP; rw [if_neg (fun y => by rw [y] at hw; revert hw; decide), if_neg (fun y => by rw [y] at hw; revert hw; decide), if_neg (fun y => by rw [y] at hw; revert hw; decide)], rfl⟩
theorem dif_no {E F : List KV} {k : Nat} (h : valIn E (nI k) = -1000000 ∧ valIn F (nI k) = -1000000) : unl E F k = false := by
  unfold unl
  rw [h.1, h.2]
  decide
theorem dif_eq {E F : List KV} {k : Nat} (h : valIn E (nI k) = valIn F (nI k)) : unl E F k = false := by
  unfold unl
  rw [h]
  simp
theorem dif_ne {E F : List KV} {k : Nat} (h : ¬ valIn E (nI k) = valIn F (nI k)) : unl E F k = true := decide_eq_true h
theorem fndU_n {U : Nat → Bool} {i : Int32} {n f : Nat} (h : U (999 - n) = false) : fndU U i (n + 1) f = fndU U i n f := by rw [fndU, h, if_neg (by decide)]
theorem fndU_y {U : Nat → Bool} {i : Int32} {n f : Nat} (h : U (999 - n) = true) (hi : ¬ nI f = i) : fndU U i (n + 1) f = fndU U i n (f + 1) := by rw [fndU, if_pos h, if_neg hi]
theorem fndU_hit {U : Nat → Bool} {i : Int32} {n f : Nat} (h : U (999 - n) = true) (hi : nI f = i) : fndU U i (n + 1) f = (some (999 - n), f) := by rw [fndU, if_pos h, if_pos hi]
set_option maxHeartbeats 4000000 in
set_option maxRecDepth 100000 in
theorem c_difference {S : aw_S} {v ad ar : Nat → Nat} {PA : List (Nat × Nat)} {X : List Nat} {mb : Nat} {P : PS} (h : RC S v ad ar PA X mb P) (hP : PI P) {m o i w : Int32} : aw_M yX10_difference cX10_difference 8 (some FieldType.int) 10 0 0 [.ref (v 4), .int m, .int o, .int i, .int w] S (fun r S2 => r = some (.int (aDiff P m o i w)) ∧ RC S2 v ad ar PA X mb P ∧ keepX X S S2) := by
  have hL := h.L
  cases hz : rootP P m with
  | none =>
    cases hy : rootP P o with
    | none =>
      refine aw_enter (by decide +kernel) (Nat.le_of_ble_eq_true rfl) (fun g K EE => ?_)
      first | refine a_aload_n K dX10_difference_0 rfl ?_ | refine a_aload_nN K dX10_difference_0 rfl ?_
      refine a_iload_n K dX10_difference_1 rfl ?_
      refine a_iload_n K dX10_difference_2 rfl ?_
      refine a_invV K (c_fillTwo_n h hP (Or.inl hz)) my_X10_fillTwo ml_X10_295 im_X10_fillTwo se_X10_fillTwo (ci := 10) (lw_i4 hL) (by decide) ⟨_, _, rfl⟩ rfl (by omega) (by omega) (by omega) rfl (Nat.le_of_ble_eq_true rfl) dX10_difference_3 ?_
      intro r9 S9 hp9
      obtain ⟨rfl, hS9⟩ := hp9
      obtain rfl := hS9.symm
      refine a_if_ne K dX10_difference_6 (tgt := 12) (by decide) (fun c_6 => absurd c_6 (fun z => z rfl)) (fun c_6 => ?_)
      refine a_ldc K kc_X10_180 dX10_difference_9 ?_
      exact a_iret K EE rfl (by omega) (by omega) dX10_difference_11 ⟨by unfold aDiff; rw [hz], h, h.X⟩
    | some y =>
      refine aw_enter (by decide +kernel) (Nat.le_of_ble_eq_true rfl) (fun g K EE => ?_)
      first | refine a_aload_n K dX10_difference_0 rfl ?_ | refine a_aload_nN K dX10_difference_0 rfl ?_
      refine a_iload_n K dX10_difference_1 rfl ?_
      refine a_iload_n K dX10_difference_2 rfl ?_
      refine a_invV K (c_fillTwo_n h hP (Or.inl hz)) my_X10_fillTwo ml_X10_295 im_X10_fillTwo se_X10_fillTwo (ci := 10) (lw_i4 hL) (by decide) ⟨_, _, rfl⟩ rfl (by omega) (by omega) (by omega) rfl (Nat.le_of_ble_eq_true rfl) dX10_difference_3 ?_
      intro r9 S9 hp9
      obtain ⟨rfl, hS9⟩ := hp9
      obtain rfl := hS9.symm
      refine a_if_ne K dX10_difference_6 (tgt := 12) (by decide) (fun c_6 => absurd c_6 (fun z => z rfl)) (fun c_6 => ?_)
      refine a_ldc K kc_X10_180 dX10_difference_9 ?_
      exact a_iret K EE rfl (by omega) (by omega) dX10_difference_11 ⟨by unfold aDiff; rw [hz], h, h.X⟩
  | some z =>
    have tz := h.tt hP hz
    cases hy : rootP P o with
    | none =>
      refine aw_enter (by decide +kernel) (Nat.le_of_ble_eq_true rfl) (fun g K EE => ?_)
      first | refine a_aload_n K dX10_difference_0 rfl ?_ | refine a_aload_nN K dX10_difference_0 rfl ?_
      refine a_iload_n K dX10_difference_1 rfl ?_
      refine a_iload_n K dX10_difference_2 rfl ?_
      refine a_invV K (c_fillTwo_n h hP (Or.inr hy)) my_X10_fillTwo ml_X10_295 im_X10_fillTwo se_X10_fillTwo (ci := 10) (lw_i4 hL) (by decide) ⟨_, _, rfl⟩ rfl (by omega) (by omega) (by omega) rfl (Nat.le_of_ble_eq_true rfl) dX10_difference_3 ?_
      intro r9 S9 hp9
      obtain ⟨rfl, hS9⟩ := hp9
      obtain rfl := hS9.symm
      refine a_if_ne K dX10_difference_6 (tgt := 12) (by decide) (fun c_6 => absurd c_6 (fun z => z rfl)) (fun c_6 => ?_)
      refine a_ldc K kc_X10_180 dX10_difference_9 ?_
      exact a_iret K EE rfl (by omega) (by omega) dX10_difference_11 ⟨by unfold aDiff; rw [hz, hy], h, h.X⟩
    | some y =>
      have ty := h.tt hP hy
      refine aw_enter (by decide +kernel) (Nat.le_of_ble_eq_true rfl) (fun g K EE => ?_)
      first | refine a_aload_n K dX10_difference_0 rfl ?_ | refine a_aload_nN K dX10_difference_0 rfl ?_
      refine a_iload_n K dX10_difference_1 rfl ?_
      refine a_iload_n K dX10_difference_2 rfl ?_
      refine a_invV K (c_fillTwo_y h hP hz hy) my_X10_fillTwo ml_X10_295 im_X10_fillTwo se_X10_fillTwo (ci := 10) (lw_i4 hL) (by decide) ⟨_, _, rfl⟩ rfl (by omega) (by omega) (by omega) rfl (Nat.le_of_ble_eq_true rfl) dX10_difference_3 ?_
      intro r9 S3 hp9
      obtain ⟨rfl, hR, hF0, h3, k3, tz3, ty3⟩ := hp9
      have hL := h3.L
      have hE : RoK S3 (v 25) (v 26) (v 27) (ent z.1 z.2) := ⟨hR, hP.rok hz⟩
      have hF : RoK S3 (v 28) (v 29) (v 30) (ent y.1 y.2) := ⟨hF0, hP.rok hy⟩
      have hl1 := tz3.2.2.2.1
      have hl2 := ty3.2.2.2.1
      obtain ⟨E, eE⟩ : ∃ E, E = ent z.1 z.2 := ⟨_, rfl⟩
      obtain ⟨F, eF⟩ : ∃ F, F = ent y.1 y.2 := ⟨_, rfl⟩
      rw [← eE] at hE
      rw [← eF] at hF
      have loop : ∀ (n c p f : Nat) (x ky : Int32), p + n = 1000 → x = nI c → c ≤ p → f ≤ p → nxt E F p ky → fndU (unl E F) i 1000 0 = fndU (unl E F) i n f → aw g 8 S3 0 0 [(7, .int x), (6, .int ky), (5, .int (nI f)), (4, .int w), (3, .int i), (0, .ref (v 4))] [] 32 := by
        intro n
        induction n using Nat.strongRecOn with
        | ind n ih =>
          intro c p f x ky hp hx hc hf9 hn hf
          subst hx
          rcases hn with ⟨rfl, ha⟩ | ⟨q, hq1, hq2, rfl, ha⟩
          · by_cases hc9 : c < 1000
            · refine a_iload K dX10_difference_32 rfl ?_
              refine a_sipush K dX10_difference_34 (v := 1000) (by decide) ?_
              refine a_icmp_ge K dX10_difference_37 (tgt := 106) (by decide) (fun c_37 => absurd c_37 (nI_ge (a := c) (b := 1000) (by omega) (by omega))) (fun c_37 => ?_)
              refine a_iload K dX10_difference_40 rfl ?_
              refine a_iconst K dX10_difference_42 (v := -1) (by decide) ?_
              refine a_icmp_eq K dX10_difference_43 (tgt := 106) (by decide) (fun c_43 => ?_) (fun c_43 => absurd c_43 (by decide))
              refine a_iload_n K dX10_difference_106 rfl ?_
              refine a_iconst K dX10_difference_107 (v := -1) (by decide) ?_
              refine a_icmp_ne K dX10_difference_108 (tgt := 116) (by decide) (fun c_108 => ?_) (fun c_108 => ?_)
              · refine a_ldc K kc_X10_180 dX10_difference_116 ?_
                exact a_iret K EE rfl (by omega) (by omega) dX10_difference_118 ⟨by unfold aDiff; rw [hz, hy]; show some (Value.int _) = some (Value.int (difA (ent z.1 z.2) (ent y.1 y.2) i w)); rw [← eE, ← eF]; unfold difA; rw [hf, fndU_skip (m := 0) n (Nat.zero_le _) (fun j h1 h2 => dif_no (ha (999 - j) (by omega) (by omega)))]; show some (Value.int _) = some (Value.int (ite _ _ _)); first | rw [if_pos (by first | exact c_108 | exact Classical.not_not.mp c_108)] | rw [if_neg c_108], h3, k3⟩
              · refine a_iload K dX10_difference_111 rfl ?_
                refine a_goto K dX10_difference_113 (tgt := 118) (by decide) ?_
                exact a_iret K EE rfl (by omega) (by omega) dX10_difference_118 ⟨by unfold aDiff; rw [hz, hy]; show some (Value.int _) = some (Value.int (difA (ent z.1 z.2) (ent y.1 y.2) i w)); rw [← eE, ← eF]; unfold difA; rw [hf, fndU_skip (m := 0) n (Nat.zero_le _) (fun j h1 h2 => dif_no (ha (999 - j) (by omega) (by omega)))]; show some (Value.int _) = some (Value.int (ite _ _ _)); first | rw [if_pos (by first | exact c_108 | exact Classical.not_not.mp c_108)] | rw [if_neg c_108], h3, k3⟩
            · obtain rfl : c = 1000 := by omega
              refine a_iload K dX10_difference_32 rfl ?_
              refine a_sipush K dX10_difference_34 (v := 1000) (by decide) ?_
              refine a_icmp_ge K dX10_difference_37 (tgt := 106) (by decide) (fun c_37 => ?_) (fun c_37 => absurd c_37 (fun z => z (nI_le (a := 1000) (b := 1000) (Nat.le_refl _) (by omega))))
              refine a_iload_n K dX10_difference_106 rfl ?_
              refine a_iconst K dX10_difference_107 (v := -1) (by decide) ?_
              refine a_icmp_ne K dX10_difference_108 (tgt := 116) (by decide) (fun c_108 => ?_) (fun c_108 => ?_)
              · refine a_ldc K kc_X10_180 dX10_difference_116 ?_
                exact a_iret K EE rfl (by omega) (by omega) dX10_difference_118 ⟨by unfold aDiff; rw [hz, hy]; show some (Value.int _) = some (Value.int (difA (ent z.1 z.2) (ent y.1 y.2) i w)); rw [← eE, ← eF]; unfold difA; rw [hf, fndU_skip (m := 0) n (Nat.zero_le _) (fun j h1 h2 => dif_no (ha (999 - j) (by omega) (by omega)))]; show some (Value.int _) = some (Value.int (ite _ _ _)); first | rw [if_pos (by first | exact c_108 | exact Classical.not_not.mp c_108)] | rw [if_neg c_108], h3, k3⟩
              · refine a_iload K dX10_difference_111 rfl ?_
                refine a_goto K dX10_difference_113 (tgt := 118) (by decide) ?_
                exact a_iret K EE rfl (by omega) (by omega) dX10_difference_118 ⟨by unfold aDiff; rw [hz, hy]; show some (Value.int _) = some (Value.int (difA (ent z.1 z.2) (ent y.1 y.2) i w)); rw [← eE, ← eF]; unfold difA; rw [hf, fndU_skip (m := 0) n (Nat.zero_le _) (fun j h1 h2 => dif_no (ha (999 - j) (by omega) (by omega)))]; show some (Value.int _) = some (Value.int (ite _ _ _)); first | rw [if_pos (by first | exact c_108 | exact Classical.not_not.mp c_108)] | rw [if_neg c_108], h3, k3⟩
          · rw [fndU_skip (m := 999 - q + 1) (f := f) n (by omega) (fun j h1 h2 => dif_no (ha (999 - j) (by omega) (by omega)))] at hf
            refine a_iload K dX10_difference_32 rfl ?_
            refine a_sipush K dX10_difference_34 (v := 1000) (by decide) ?_
            refine a_icmp_ge K dX10_difference_37 (tgt := 106) (by decide) (fun c_37 => absurd c_37 (nI_ge (a := c) (b := 1000) (by omega) (by omega))) (fun c_37 => ?_)
            refine a_iload K dX10_difference_40 rfl ?_
            refine a_iconst K dX10_difference_42 (v := -1) (by decide) ?_
            refine a_icmp_eq K dX10_difference_43 (tgt := 106) (by decide) (fun c_43 => absurd c_43 (nI_m1n (by omega))) (fun c_43 => ?_)
            first | refine a_aload_n K dX10_difference_46 rfl ?_ | refine a_aload_nN K dX10_difference_46 rfl ?_
            refine a_getRs K fd_X10_77 (lw_i4 hL) (Or.inl ⟨_, rfl⟩) (lw_f652 hL) dX10_difference_47 ?_
            refine a_iload K dX10_difference_50 rfl ?_
            refine a_invV K (m_R_valueOf (key := nI q) hE.1 hE.2.1) my_X7_valueOf ml_X10_263 im_X7_valueOf se_X7_valueOf (ci := 7) (by first | exact lw_i25 hL | exact lw_i28 hL | exact lw_i31 hL) (by decide) ⟨_, _, rfl⟩ rfl (by omega) (by omega) (by omega) rfl (Nat.le_of_ble_eq_true rfl) dX10_difference_52 ?_
            intro r9 S9 hp9
            obtain ⟨rfl, hS9⟩ := hp9
            obtain rfl := hS9.symm
            first | refine a_aload_n K dX10_difference_55 rfl ?_ | refine a_aload_nN K dX10_difference_55 rfl ?_
            refine a_getRs K fd_X10_81 (lw_i4 hL) (Or.inl ⟨_, rfl⟩) (lw_f653 hL) dX10_difference_56 ?_
            refine a_iload K dX10_difference_59 rfl ?_
            refine a_invV K (m_R_valueOf (key := nI q) hF.1 hF.2.1) my_X7_valueOf ml_X10_263 im_X7_valueOf se_X7_valueOf (ci := 7) (by first | exact lw_i25 hL | exact lw_i28 hL | exact lw_i31 hL) (by decide) ⟨_, _, rfl⟩ rfl (by omega) (by omega) (by omega) rfl (Nat.le_of_ble_eq_true rfl) dX10_difference_61 ?_
            intro r9 S9 hp9
            obtain ⟨rfl, hS9⟩ := hp9
            obtain rfl := hS9.symm
            refine a_icmp_eq K dX10_difference_64 (tgt := 85) (by decide) (fun c_64 => ?_) (fun c_64 => ?_)
            · have hf2 := hf.trans (fndU_n (by rw [show 999 - (999 - q) = q by omega]; exact dif_eq c_64))
              first | refine a_aload_n K dX10_difference_85 rfl ?_ | refine a_aload_nN K dX10_difference_85 rfl ?_
              refine a_getRs K fd_X10_77 (lw_i4 hL) (Or.inl ⟨_, rfl⟩) (lw_f652 hL) dX10_difference_86 ?_
              first | refine a_aload_n K dX10_difference_89 rfl ?_ | refine a_aload_nN K dX10_difference_89 rfl ?_
              refine a_getRs K fd_X10_81 (lw_i4 hL) (Or.inl ⟨_, rfl⟩) (lw_f653 hL) dX10_difference_90 ?_
              refine a_iload K dX10_difference_93 rfl ?_
              refine a_invS K (m_lowestAbove (k := nI q) hE hF) my_X10_lowestAbove ml_X10_288 st_X10_lowestAbove rfl (by omega) (by omega) (by omega) rfl (Nat.le_of_ble_eq_true rfl) dX10_difference_95 ?_
              intro r9 S9 hp9
              obtain ⟨rfl, hS9⟩ := hp9
              obtain rfl := hS9.symm
              refine a_istore K dX10_difference_98 (by decide) ?_
              refine a_iinc K dX10_difference_100 (v := 1) rfl (by decide) (by decide) ?_
              refine a_goto K dX10_difference_103 (tgt := 32) (by decide) ?_
              first
                | exact aw_locl rfl (ih (999 - q) (by omega) (c + 1) (q + 1) (f) _ _ (by omega) (nI_1 c) (by omega) (by omega) (nxK_spec hE.2.2 hE.2.1 hF.2.2 hF.2.1 (by omega) (nI_1 q)) hf2)
                | (rw [nI_1 f]; exact aw_locl rfl (ih (999 - q) (by omega) (c + 1) (q + 1) (f + 1) _ _ (by omega) (nI_1 c) (by omega) (by omega) (nxK_spec hE.2.2 hE.2.1 hF.2.2 hF.2.1 (by omega) (nI_1 q)) hf2))
            · have hU : unl E F (999 - (999 - q)) = true := by rw [show 999 - (999 - q) = q by omega]; exact dif_ne c_64
              refine a_iload K dX10_difference_67 rfl ?_
              refine a_iload_n K dX10_difference_69 rfl ?_
              refine a_icmp_ne K dX10_difference_70 (tgt := 82) (by decide) (fun c_70 => ?_) (fun c_70 => ?_)
              · have hf2 := hf.trans (fndU_y hU c_70)
                refine a_iinc K dX10_difference_82 (v := 1) rfl (by decide) (by decide) ?_
                first | refine a_aload_n K dX10_difference_85 rfl ?_ | refine a_aload_nN K dX10_difference_85 rfl ?_
                refine a_getRs K fd_X10_77 (lw_i4 hL) (Or.inl ⟨_, rfl⟩) (lw_f652 hL) dX10_difference_86 ?_
                first | refine a_aload_n K dX10_difference_89 rfl ?_ | refine a_aload_nN K dX10_difference_89 rfl ?_
                refine a_getRs K fd_X10_81 (lw_i4 hL) (Or.inl ⟨_, rfl⟩) (lw_f653 hL) dX10_difference_90 ?_
                refine a_iload K dX10_difference_93 rfl ?_
                refine a_invS K (m_lowestAbove (k := nI q) hE hF) my_X10_lowestAbove ml_X10_288 st_X10_lowestAbove rfl (by omega) (by omega) (by omega) rfl (Nat.le_of_ble_eq_true rfl) dX10_difference_95 ?_
                intro r9 S9 hp9
                obtain ⟨rfl, hS9⟩ := hp9
                obtain rfl := hS9.symm
                refine a_istore K dX10_difference_98 (by decide) ?_
                refine a_iinc K dX10_difference_100 (v := 1) rfl (by decide) (by decide) ?_
                refine a_goto K dX10_difference_103 (tgt := 32) (by decide) ?_
                first
                  | exact aw_locl rfl (ih (999 - q) (by omega) (c + 1) (q + 1) (f) _ _ (by omega) (nI_1 c) (by omega) (by omega) (nxK_spec hE.2.2 hE.2.1 hF.2.2 hF.2.1 (by omega) (nI_1 q)) hf2)
                  | (rw [nI_1 f]; exact aw_locl rfl (ih (999 - q) (by omega) (c + 1) (q + 1) (f + 1) _ _ (by omega) (nI_1 c) (by omega) (by omega) (nxK_spec hE.2.2 hE.2.1 hF.2.2 hF.2.1 (by omega) (nI_1 q)) hf2))
              · first | refine a_aload_n K dX10_difference_73 rfl ?_ | refine a_aload_nN K dX10_difference_73 rfl ?_
                refine a_iload K dX10_difference_74 rfl ?_
                refine a_iload K dX10_difference_76 rfl ?_
                refine a_invV K (m_partOfDifference hL hE hF) my_X10_partOfDifference ml_X10_398 im_X10_partOfDifference se_X10_partOfDifference (ci := 10) (lw_i4 hL) (by decide) ⟨_, _, rfl⟩ rfl (by omega) (by omega) (by omega) rfl (Nat.le_of_ble_eq_true rfl) dX10_difference_78 ?_
                intro r9 S9 hp9
                obtain ⟨rfl, hS9⟩ := hp9
                obtain rfl := hS9.symm
                exact a_iret K EE rfl (by omega) (by omega) dX10_difference_81 ⟨by unfold aDiff; rw [hz, hy]; show some (Value.int _) = some (Value.int (difA (ent z.1 z.2) (ent y.1 y.2) i w)); rw [← eE, ← eF]; unfold difA; rw [hf, fndU_hit hU (by first | exact Classical.not_not.mp c_70 | exact c_70), show 999 - (999 - q) = q by omega], h3, k3⟩
      refine a_if_ne K dX10_difference_6 (tgt := 12) (by decide) (fun c_6 => ?_) (fun c_6 => absurd c_6 (by decide))
      refine a_iconst K dX10_difference_12 (v := 0) (by decide) ?_
      refine a_istore K dX10_difference_13 (by decide) ?_
      first | refine a_aload_n K dX10_difference_15 rfl ?_ | refine a_aload_nN K dX10_difference_15 rfl ?_
      refine a_getRs K fd_X10_77 (lw_i4 hL) (Or.inl ⟨_, rfl⟩) (lw_f652 hL) dX10_difference_16 ?_
      first | refine a_aload_n K dX10_difference_19 rfl ?_ | refine a_aload_nN K dX10_difference_19 rfl ?_
      refine a_getRs K fd_X10_81 (lw_i4 hL) (Or.inl ⟨_, rfl⟩) (lw_f653 hL) dX10_difference_20 ?_
      refine a_iconst K dX10_difference_23 (v := -1) (by decide) ?_
      refine a_invS K (m_lowestAbove (k := -1) hE hF) my_X10_lowestAbove ml_X10_288 st_X10_lowestAbove rfl (by omega) (by omega) (by omega) rfl (Nat.le_of_ble_eq_true rfl) dX10_difference_24 ?_
      intro r9 S9 hp9
      obtain ⟨rfl, hS9⟩ := hp9
      obtain rfl := hS9.symm
      refine a_istore K dX10_difference_27 (by decide) ?_
      refine a_iconst K dX10_difference_29 (v := 0) (by decide) ?_
      refine a_istore K dX10_difference_30 (by decide) ?_
      exact aw_locl rfl (loop 1000 0 0 0 _ _ rfl nI_0.symm (Nat.le_refl _) (Nat.le_refl _) (nxK_spec hE.2.2 hE.2.1 hF.2.2 hF.2.1 (by omega) (by decide)) rfl)
