/-! what stands on the tape -/
def chr (L : List Int32) (p : Nat) : Int32 := match L[p]? with
  | some x => x
  | none => -1
theorem chr_in {L : List Int32} {p : Nat} (h : p < L.length) : chr L p = L[p] := by unfold chr; rw [List.getElem?_eq_getElem h]
theorem chr_out {L : List Int32} {p : Nat} (h : L.length ≤ p) : chr L p = -1 := by unfold chr; rw [List.getElem?_eq_none_iff.mpr h]
def skp : List Int32 → Nat → Nat
  | [], p => p
  | x :: l, p => if x = 32 then skp l (p + 1) else p
/-- behind the blanks -/
def skB (L : List Int32) (p : Nat) : Nat := skp (L.drop p) p
theorem skB_y {L : List Int32} {p : Nat} (h : chr L p = 32) : skB L p = skB L (p + 1) := by
  by_cases hp : p < L.length
  · unfold skB
    rw [List.drop_eq_getElem_cons hp, skp, if_pos (by rw [← chr_in hp]; exact h)]
  · rw [chr_out (by omega)] at h
    exact absurd h (by decide)
theorem skB_n {L : List Int32} {p : Nat} (h : ¬ chr L p = 32) : skB L p = p := by
  by_cases hp : p < L.length
  · unfold skB
    rw [List.drop_eq_getElem_cons hp, skp, if_neg (by rw [← chr_in hp]; exact h)]
  · unfold skB
    rw [List.drop_eq_nil_of_le (by omega)]
    rfl
theorem skB_out {L : List Int32} {p : Nat} (h : L.length ≤ p) : skB L p = p := skB_n (by rw [chr_out h]; decide)
theorem skp_le : ∀ (l : List Int32) (p : Nat), p ≤ skp l p ∧ skp l p ≤ p + l.length
  | [], p => ⟨Nat.le_refl _, Nat.le_refl _⟩
  | x :: l, p => by
    have := skp_le l (p + 1)
    rw [skp, List.length_cons]
    split
    · omega
    · omega
theorem skB_le {L : List Int32} {p : Nat} (h : p ≤ L.length) : p ≤ skB L p ∧ skB L p ≤ L.length := by
  have := skp_le (L.drop p) p
  rw [List.length_drop] at this
  unfold skB
  omega
theorem skB_ge (L : List Int32) (p : Nat) : p ≤ skB L p := (skp_le (L.drop p) p).1
abbrev isDg (x : Int32) : Prop := 48 ≤ x.toInt ∧ x.toInt ≤ 57
theorem isDg_in {L : List Int32} {p : Nat} (h : isDg (chr L p)) : p < L.length := by
  refine Classical.byContradiction (fun z => ?_)
  rw [chr_out (by omega)] at h
  have e : (-1 : Int32).toInt = -1 := by decide
  have := h.1
  omega
def dgV (x : Int32) : Nat := x.toNatClampNeg - 48
theorem isDg_v {x : Int32} (h : isDg x) : ∃ d, d < 10 ∧ x = nI (48 + d) ∧ dgV x = d := by
  obtain ⟨k, hk, rfl⟩ := nI_of (x := x) (by rw [i32_lt]; show ¬ x.toInt < 0; have := h.1; omega)
  have h1 := h.1
  have h2 := h.2
  rw [nI_toInt hk] at h1 h2
  exact ⟨k - 48, by omega, by rw [show 48 + (k - 48) = k by omega], by unfold dgV; rw [nI_clamp hk]⟩
/-- up to k digits from p on, a the number so far: the number, the place behind them -/
def dgR (L : List Int32) : Nat → Nat → Nat → Nat × Nat
  | 0, p, a => (a, p)
  | k + 1, p, a => if isDg (chr L p) then dgR L k (p + 1) (10 * a + dgV (chr L p)) else (a, p)
theorem dgR_le (L : List Int32) : ∀ k p a, p ≤ (dgR L k p a).2 ∧ (dgR L k p a).2 ≤ p + k ∧ (p ≤ L.length → (dgR L k p a).2 ≤ L.length)
  | 0, p, a => ⟨Nat.le_refl _, Nat.le_refl _, id⟩
  | k + 1, p, a => by
    rw [dgR]
    split
    · rename_i c
      have := dgR_le L k (p + 1) (10 * a + dgV (chr L p))
      have := isDg_in c
      omega
    · exact ⟨Nat.le_refl _, Nat.le_add_right _ _, id⟩
theorem dgR_val (L : List Int32) : ∀ k p a m, a < 10 ^ m → (dgR L k p a).1 < 10 ^ (m + k)
  | 0, p, a, m, h => h
  | k + 1, p, a, m, h => by
    rw [dgR]
    split
    · rename_i c
      obtain ⟨d, hd, -, e⟩ := isDg_v c
      rw [e]
      have := dgR_val L k (p + 1) (10 * a + d) (m + 1) (by rw [Nat.pow_succ]; omega)
      rw [show m + 1 + k = m + (k + 1) by omega] at this
      exact this
    · exact Nat.lt_of_lt_of_le h (Nat.pow_le_pow_right (by decide) (by omega))
def numV (s : Bool) (a : Nat) : Int32 := if s then -(nI a) else nI a
/-- a number whose digits begin at q; s: less than 0 -/
def numD (L : List Int32) (s : Bool) (q : Nat) : Nat × Option Int32 := if (dgR L 3 q 0).2 = q ∨ isDg (chr L (dgR L 3 q 0).2) then ((dgR L 3 q 0).2, none) else ((dgR L 3 q 0).2, some (numV s (dgR L 3 q 0).1))
def sgR (L : List Int32) (less : Bool) (p : Nat) : Bool := less && decide (chr L p = 45)
def numR (L : List Int32) (less : Bool) (p : Nat) : Nat × Option Int32 := numD L (sgR L less (skB L p)) (if sgR L less (skB L p) = true then skB L p + 1 else skB L p)
theorem sgR_in {L : List Int32} {less : Bool} {p : Nat} (h : sgR L less p = true) : p < L.length := by
  refine Classical.byContradiction (fun z => ?_)
  unfold sgR at h
  rw [chr_out (by omega)] at h
  cases less <;> exact absurd h (by decide)
theorem numR_le {L : List Int32} {less : Bool} {p : Nat} (hp : p ≤ L.length) : p ≤ (numR L less p).1 ∧ (numR L less p).1 ≤ L.length ∧ ∀ x, (numR L less p).2 = some x → p + 1 ≤ (numR L less p).1 ∧ okV x ∧ (less = false → okK x) := by
  obtain ⟨h1, h2⟩ := skB_le hp
  have hq : skB L p ≤ (if sgR L less (skB L p) = true then skB L p + 1 else skB L p) ∧ (if sgR L less (skB L p) = true then skB L p + 1 else skB L p) ≤ L.length := by
    split
    · rename_i c
      have := sgR_in c
      omega
    · omega
  unfold numR numD
  generalize (if sgR L less (skB L p) = true then skB L p + 1 else skB L p) = q at hq ⊢
  have h3 := dgR_le L 3 q 0
  have h4 := dgR_val L 3 q 0 0 (by decide)
  have h5 : (10 : Nat) ^ (0 + 3) = 1000 := by decide
  split
  · exact ⟨by omega, by omega, fun x hx => absurd hx (by simp)⟩
  · rename_i c
    have c1 : ¬ (dgR L 3 q 0).2 = q := fun z => c (Or.inl z)
    refine ⟨by show p ≤ (dgR L 3 q 0).2; omega, by show (dgR L 3 q 0).2 ≤ L.length; omega, fun x hx => ⟨by show p + 1 ≤ (dgR L 3 q 0).2; omega, ?_, fun hl => ?_⟩⟩
    · have hx : some (numV (sgR L less (skB L p)) (dgR L 3 q 0).1) = some x := hx
      cases hx
      unfold numV
      split
      · by_cases h0 : (dgR L 3 q 0).1 = 0
        · rw [h0]
          exact ⟨0, by omega, Or.inl (by decide)⟩
        · exact ⟨_, by omega, Or.inr ⟨by omega, rfl⟩⟩
      · exact ⟨_, by omega, Or.inl rfl⟩
    · have hx : some (numV (sgR L less (skB L p)) (dgR L 3 q 0).1) = some x := hx
      cases hx
      subst hl
      exact ⟨_, by omega, rfl⟩
def entV (L : List Int32) (k : Int32) (p : Nat) : Nat × Option KV := match (numR L true p).2 with
  | none => ((numR L true p).1, none)
  | some v => ((numR L true p).1, some (k, v))
def entK (L : List Int32) (k : Int32) (r : Nat) : Nat × Option KV := if chr L (skB L r) = 58 then entV L k (skB L r + 1) else (skB L r, none)
/-- an entry from p on -/
def entR (L : List Int32) (p : Nat) : Nat × Option KV := match (numR L false p).2 with
  | none => ((numR L false p).1, none)
  | some k => entK L k (numR L false p).1
theorem entR_le {L : List Int32} {p : Nat} (hp : p ≤ L.length) : (entR L p).1 ≤ L.length ∧ ∀ x, (entR L p).2 = some x → p + 3 ≤ (entR L p).1 ∧ okE x := by
  obtain ⟨a1, a2, a3⟩ := numR_le (less := false) hp
  unfold entR
  cases h1 : (numR L false p).2 with
  | none => exact ⟨a2, fun x hx => absurd hx (by simp)⟩
  | some k =>
    obtain ⟨b1, b2, b3⟩ := a3 k h1
    show (entK L k (numR L false p).1).1 ≤ L.length ∧ _
    unfold entK
    obtain ⟨c1, c2⟩ := skB_le a2
    split
    · rename_i c
      have hin : skB L (numR L false p).1 < L.length := Classical.byContradiction (fun z => by rw [chr_out (by omega)] at c; exact absurd c (by decide))
      obtain ⟨d1, d2, d3⟩ := numR_le (L := L) (less := true) (p := skB L (numR L false p).1 + 1) (by omega)
      unfold entV
      cases h2 : (numR L true (skB L (numR L false p).1 + 1)).2 with
      | none => exact ⟨d2, fun x hx => absurd hx (by simp)⟩
      | some v =>
        obtain ⟨e1, e2, -⟩ := d3 v h2
        refine ⟨d2, fun x hx => ?_⟩
        have hx : some (k, v) = some x := hx
        cases hx
        refine ⟨?_, b3 rfl, e2⟩
        show p + 3 ≤ (numR L true (skB L (numR L false p).1 + 1)).1
        omega
    · exact ⟨c2, fun x hx => absurd hx (by simp)⟩
/-- entries from p on, E before: the fault, the entries -/
def etsR (L : List Int32) : Nat → Nat → List KV → Option Nat × List KV
  | 0, p, E => (some p, E)
  | n + 1, p, E => match (entR L p).2 with
    | none => (some (entR L p).1, E)
    | some x => if L.length ≤ skB L (entR L p).1 then (none, E ++ [x]) else if chr L (skB L (entR L p).1) = 44 then etsR L n (skB L (entR L p).1 + 1) (E ++ [x]) else (some (skB L (entR L p).1), E ++ [x])
theorem etsR_f {L : List Int32} {n p : Nat} {E : List KV} (h : (entR L p).2 = none) : etsR L (n + 1) p E = (some (entR L p).1, E) := by rw [etsR, h]
theorem etsR_s {L : List Int32} {n p : Nat} {E : List KV} {x : KV} (h : (entR L p).2 = some x) : etsR L (n + 1) p E = if L.length ≤ skB L (entR L p).1 then (none, E ++ [x]) else if chr L (skB L (entR L p).1) = 44 then etsR L n (skB L (entR L p).1 + 1) (E ++ [x]) else (some (skB L (entR L p).1), E ++ [x]) := by rw [etsR, h]
def redE (L : List Int32) : Option Nat × List KV := if L.length ≤ skB L 0 then (none, []) else etsR L 240 (skB L 0) []
def fltV : Option Nat → Int32
  | none => -1
  | some p => nI p
theorem etsR_ok {L : List Int32} (h240 : L.length ≤ 240) : ∀ n p E, p ≤ L.length → 4 * E.length ≤ p → (∀ x ∈ E, okE x) → (etsR L n p E).2.length ≤ 60 ∧ (∀ x ∈ (etsR L n p E).2, okE x) ∧ ∀ q, (etsR L n p E).1 = some q → q ≤ L.length
  | 0, p, E, hp, h4, hE => ⟨by show E.length ≤ 60; omega, hE, fun q hq => by have hq : some p = some q := hq; cases hq; exact hp⟩
  | n + 1, p, E, hp, h4, hE => by
    obtain ⟨a1, a2⟩ := entR_le hp
    cases h : (entR L p).2 with
    | none =>
      rw [etsR_f h]
      exact ⟨by show E.length ≤ 60; omega, hE, fun q hq => by have hq : some (entR L p).1 = some q := hq; cases hq; exact a1⟩
    | some x =>
      obtain ⟨b1, b2⟩ := a2 x h
      obtain ⟨c1, c2⟩ := skB_le a1
      have hlen : (E ++ [x]).length = E.length + 1 := by rw [List.length_append, List.length_singleton]
      have hE2 : ∀ y ∈ E ++ [x], okE y := fun y hy => (List.mem_append.mp hy).elim (hE y) (fun z => by rw [List.mem_singleton.mp z]; exact b2)
      rw [etsR_s h]
      split
      · exact ⟨by show (E ++ [x]).length ≤ 60; omega, hE2, fun q hq => absurd hq (by simp)⟩
      · split
        · exact etsR_ok h240 n _ _ (by omega) (by omega) hE2
        · exact ⟨by show (E ++ [x]).length ≤ 60; omega, hE2, fun q hq => by have hq : some (skB L (entR L p).1) = some q := hq; cases hq; exact c2⟩
theorem redE_ok {L : List Int32} (h240 : L.length ≤ 240) : (redE L).2.length ≤ 60 ∧ (∀ x ∈ (redE L).2, okE x) ∧ ∀ q, (redE L).1 = some q → q ≤ L.length := by
  unfold redE
  split
  · exact ⟨Nat.zero_le _, fun x hx => absurd hx (by simp), fun q hq => absurd hq (by simp)⟩
  · exact etsR_ok h240 240 _ [] (skB_le (Nat.zero_le _)).2 (by simp) (fun x hx => absurd hx (by simp))
/-! the class's reader: L on the tape, it stands at p -/
def RdS (S : aw_S) (v : Nat → Nat) (L : List Int32) : Prop := LW S v ∧ sI S 577 (v 0) = nI L.length ∧ L.length ≤ 240 ∧ ∀ i x, L[i]? = some x → sA S (v 1) i = x
theorem RdS.fr {S S2 : aw_S} {v : Nat → Nat} {L : List Int32} (h : RdS S v L) (f : frS S S2 (fun b => b = v 2)) : RdS S2 v L := by
  obtain ⟨hL, h1, h2, h3⟩ := h
  have n0 : ¬ v 0 = v 2 := fun y => absurd (lw_inj hL 0 2 (by decide) (by decide) y) (by decide)
  have n1 : ¬ v 1 = v 2 := fun y => absurd (lw_inj hL 1 2 (by decide) (by decide) y) (by decide)
  refine ⟨LW_fr hL f.fr (fun y => absurd (lw_inj hL 13 2 (by decide) (by decide) y) (by decide)), by rw [(f.2.2.2.2.2.2.2 _ n0).1]; exact h1, h2, fun i x hx => by rw [(f.2.2.2.2.2.2.2 _ n1).2.1]; exact h3 i x hx⟩
theorem m_byteAt {S : aw_S} {v : Nat → Nat} {L : List Int32} (h : RdS S v L) {p : Nat} (hp : p < 2 ^ 31) : aw_M yX9_byteAt cX9_byteAt 2 (some FieldType.int) 0 0 0 [.ref (v 0), .int (nI p)] S (fun r S2 => r = some (.int (chr L p)) ∧ S2 = S) := by
  refine (m_X9_byteAt (i := nI p) (lw_i0 h.1) (lw_f576_0 h.1) (lw_i1 h.1) (lw_n1 h.1) h.2.1 h.2.2.1 (by decide)).post (fun r S2 hq => ⟨?_, hq.2⟩)
  rw [hq.1]
  by_cases hl : p < L.length
  · rw [at0_in hl (by have := h.2.2.1; omega), h.2.2.2 p _ (List.getElem?_eq_getElem hl), chr_in hl]
  · rw [at0_big (by have := h.2.2.1; omega) (nI_le (by omega) hp), chr_out (by omega)]
set_option maxHeartbeats 4000000 in
set_option maxRecDepth 100000 in
theorem m_skipBlanks {S : aw_S} {v : Nat → Nat} {L : List Int32} (h : RdS S v L) {p : Nat} (hp : p ≤ 241) (ha : sI S 385 (v 2) = nI p) : aw_M yX6_skipBlanks cX6_skipBlanks 2 (none : Option FieldType) 1 0 0 [.ref (v 2)] S (fun r S2 => r = none ∧ frS S S2 (fun b => b = v 2) ∧ sI S2 385 (v 2) = nI (skB L p)) := by
  have hL := h.1
  have o6 := lw_i2 hL
  have r384 := lw_f384_2 hL
  have o9 := lw_i0 hL
  refine aw_enter (by decide +kernel) (Nat.le_of_ble_eq_true rfl) (fun g K EE => ?_)
  obtain ⟨q0, hq0⟩ : ∃ q, q = skB L p := ⟨_, rfl⟩
  rw [← hq0] at EE
  have loop : ∀ (n c p : Nat) (x : Int32) (T : aw_S), x = nI c → L.length + 1 - p ≤ n → c ≤ p → p ≤ 241 → RdS T v L → frS S T (fun b => b = v 2) → sI T 385 (v 2) = nI p → skB L p = q0 → aw g 2 T 0 0 [(1, .int x), (0, .ref (v 2))] [] 2 := by
    intro n
    induction n with
    | zero =>
      intro c p x T hx hn hc hp h f ha hq
      subst hx
      have hL := h.1
      have o6 := lw_i2 hL
      have r384 := lw_f384_2 hL
      have o9 := lw_i0 hL
      have h240 := h.2.2.1
      have cb : ¬ chr L p = 32 := by rw [chr_out (by omega)]; decide
      refine a_iload_n K dX6_skipBlanks_2 rfl ?_
      refine a_sipush K dX6_skipBlanks_3 (v := 240) (by decide) ?_
      refine a_icmp_ge K dX6_skipBlanks_6 (tgt := 41) (by decide) (fun c_6 => ?_) (fun c_6 => ?_)
      · exact a_vret K EE (by omega) (by omega) dX6_skipBlanks_41 ⟨rfl, f, by rw [ha, ← hq, skB_n cb]⟩
      · first | refine a_aload_n K dX6_skipBlanks_9 rfl ?_ | refine a_aload_nN K dX6_skipBlanks_9 rfl ?_
        refine a_getRs K fd_X6_9 (by assumption) (Or.inl ⟨_, rfl⟩) (by assumption) dX6_skipBlanks_10 ?_
        first | refine a_aload_n K dX6_skipBlanks_13 rfl ?_ | refine a_aload_nN K dX6_skipBlanks_13 rfl ?_
        refine a_getI K fd_X6_20 (by assumption) (Or.inl rfl) dX6_skipBlanks_14 ?_
        rw [ha]
        refine a_invV K (m_byteAt h (p := p) (by omega)) my_X9_byteAt ml_X6_72 im_X9_byteAt se_X9_byteAt (ci := 9) (by assumption) (by decide) ⟨_, _, rfl⟩ rfl (by omega) (by omega) (by omega) rfl (Nat.le_of_ble_eq_true rfl) dX6_skipBlanks_17 ?_
        intro r9 S9 hp9
        obtain ⟨rfl, hS9⟩ := hp9
        obtain rfl := hS9.symm
        refine a_bipush K dX6_skipBlanks_20 (v := 32) (by decide) ?_
        refine a_icmp_ne K dX6_skipBlanks_22 (tgt := 41) (by decide) (fun c_22 => ?_) (fun c_22 => absurd c_22 (cb))
        exact a_vret K EE (by omega) (by omega) dX6_skipBlanks_41 ⟨rfl, f, by rw [ha, ← hq, skB_n cb]⟩
    | succ n ih =>
      intro c p x T hx hn hc hp h f ha hq
      subst hx
      have hL := h.1
      have o6 := lw_i2 hL
      have r384 := lw_f384_2 hL
      have o9 := lw_i0 hL
      have h240 := h.2.2.1
      by_cases cb : chr L p = 32
      · have hin : p < L.length := Classical.byContradiction (fun z => by rw [chr_out (by omega)] at cb; exact absurd cb (by decide))
        refine a_iload_n K dX6_skipBlanks_2 rfl ?_
        refine a_sipush K dX6_skipBlanks_3 (v := 240) (by decide) ?_
        refine a_icmp_ge K dX6_skipBlanks_6 (tgt := 41) (by decide) (fun c_6 => absurd c_6 (nI_ge (a := c) (b := 240) (by omega) (by omega))) (fun c_6 => ?_)
        first | refine a_aload_n K dX6_skipBlanks_9 rfl ?_ | refine a_aload_nN K dX6_skipBlanks_9 rfl ?_
        refine a_getRs K fd_X6_9 (by assumption) (Or.inl ⟨_, rfl⟩) (by assumption) dX6_skipBlanks_10 ?_
        first | refine a_aload_n K dX6_skipBlanks_13 rfl ?_ | refine a_aload_nN K dX6_skipBlanks_13 rfl ?_
        refine a_getI K fd_X6_20 (by assumption) (Or.inl rfl) dX6_skipBlanks_14 ?_
        rw [ha]
        refine a_invV K (m_byteAt h (p := p) (by omega)) my_X9_byteAt ml_X6_72 im_X9_byteAt se_X9_byteAt (ci := 9) (by assumption) (by decide) ⟨_, _, rfl⟩ rfl (by omega) (by omega) (by omega) rfl (Nat.le_of_ble_eq_true rfl) dX6_skipBlanks_17 ?_
        intro r9 S9 hp9
        obtain ⟨rfl, hS9⟩ := hp9
        obtain rfl := hS9.symm
        refine a_bipush K dX6_skipBlanks_20 (v := 32) (by decide) ?_
        refine a_icmp_ne K dX6_skipBlanks_22 (tgt := 41) (by decide) (fun c_22 => absurd c_22 (fun z => z cb)) (fun c_22 => ?_)
        first | refine a_aload_n K dX6_skipBlanks_25 rfl ?_ | refine a_aload_nN K dX6_skipBlanks_25 rfl ?_
        refine a_dup K dX6_skipBlanks_26 rfl ?_
        refine a_getI K fd_X6_20 (by assumption) (Or.inl rfl) dX6_skipBlanks_27 ?_
        refine a_iconst K dX6_skipBlanks_30 (v := 1) (by decide) ?_
        rw [ha]
        refine a_iadd K dX6_skipBlanks_31 ?_
        rw [nI_1]
        refine a_putI K fd_X6_20 (by assumption) rfl dX6_skipBlanks_32 ?_
        refine a_iinc K dX6_skipBlanks_35 (v := 1) rfl (by decide) (by decide) ?_
        refine a_goto K dX6_skipBlanks_38 (tgt := 2) (by decide) ?_
        exact aw_locl rfl (ih (c + 1) (p + 1) _ _ (nI_1 c) (by omega) (by omega) (by omega) (h.fr (frS_wI (by decide))) (f.st (frS_wI (by decide)) (fun _ z => z)) wI_at (by rw [← hq, skB_y cb]))
      · refine a_iload_n K dX6_skipBlanks_2 rfl ?_
        refine a_sipush K dX6_skipBlanks_3 (v := 240) (by decide) ?_
        refine a_icmp_ge K dX6_skipBlanks_6 (tgt := 41) (by decide) (fun c_6 => ?_) (fun c_6 => ?_)
        · exact a_vret K EE (by omega) (by omega) dX6_skipBlanks_41 ⟨rfl, f, by rw [ha, ← hq, skB_n cb]⟩
        · first | refine a_aload_n K dX6_skipBlanks_9 rfl ?_ | refine a_aload_nN K dX6_skipBlanks_9 rfl ?_
          refine a_getRs K fd_X6_9 (by assumption) (Or.inl ⟨_, rfl⟩) (by assumption) dX6_skipBlanks_10 ?_
          first | refine a_aload_n K dX6_skipBlanks_13 rfl ?_ | refine a_aload_nN K dX6_skipBlanks_13 rfl ?_
          refine a_getI K fd_X6_20 (by assumption) (Or.inl rfl) dX6_skipBlanks_14 ?_
          rw [ha]
          refine a_invV K (m_byteAt h (p := p) (by omega)) my_X9_byteAt ml_X6_72 im_X9_byteAt se_X9_byteAt (ci := 9) (by assumption) (by decide) ⟨_, _, rfl⟩ rfl (by omega) (by omega) (by omega) rfl (Nat.le_of_ble_eq_true rfl) dX6_skipBlanks_17 ?_
          intro r9 S9 hp9
          obtain ⟨rfl, hS9⟩ := hp9
          obtain rfl := hS9.symm
          refine a_bipush K dX6_skipBlanks_20 (v := 32) (by decide) ?_
          refine a_icmp_ne K dX6_skipBlanks_22 (tgt := 41) (by decide) (fun c_22 => ?_) (fun c_22 => absurd c_22 (cb))
          exact a_vret K EE (by omega) (by omega) dX6_skipBlanks_41 ⟨rfl, f, by rw [ha, ← hq, skB_n cb]⟩
  refine a_iconst K dX6_skipBlanks_0 (v := 0) (by decide) ?_
  refine a_istore_n K dX6_skipBlanks_1 (by decide) ?_
  exact aw_locl rfl (loop (L.length + 1) 0 p _ S nI_0.symm (by omega) (Nat.zero_le _) hp h frS.rf ha hq0.symm)
set_option maxHeartbeats 4000000 in
set_option maxRecDepth 100000 in
theorem m_hasEnded {S : aw_S} {v : Nat → Nat} {L : List Int32} (h : RdS S v L) {p : Nat} (hp : p ≤ 241) (ha : sI S 385 (v 2) = nI p) : aw_M yX6_hasEnded cX6_hasEnded 1 (some FieldType.boolean) 1 0 0 [.ref (v 2)] S (fun r S2 => S2 = S ∧ bR (L.length ≤ p) r) := by
  have hL := h.1
  have o6 := lw_i2 hL
  have r384 := lw_f384_2 hL
  have o9 := lw_i0 hL
  have h240 := h.2.2.1
  refine aw_enter (by decide +kernel) (Nat.le_of_ble_eq_true rfl) (fun g K EE => ?_)
  first | refine a_aload_n K dX6_hasEnded_0 rfl ?_ | refine a_aload_nN K dX6_hasEnded_0 rfl ?_
  refine a_getI K fd_X6_20 (by assumption) (Or.inl rfl) dX6_hasEnded_1 ?_
  rw [ha]
  first | refine a_aload_n K dX6_hasEnded_4 rfl ?_ | refine a_aload_nN K dX6_hasEnded_4 rfl ?_
  refine a_getRs K fd_X6_9 (by assumption) (Or.inl ⟨_, rfl⟩) (by assumption) dX6_hasEnded_5 ?_
  refine a_invV K (m_X9_size o9) my_X9_size ml_X6_112 im_X9_size se_X9_size (ci := 9) (by assumption) (by decide) ⟨_, _, rfl⟩ rfl (by omega) (by omega) (by omega) rfl (Nat.le_of_ble_eq_true rfl) dX6_hasEnded_8 ?_
  intro r9 S9 hp9
  obtain ⟨rfl, hS9⟩ := hp9
  obtain rfl := hS9.symm
  rw [h.2.1]
  refine a_icmp_lt K dX6_hasEnded_11 (tgt := 18) (by decide) (fun c_11 => ?_) (fun c_11 => ?_)
  · refine a_iconst K dX6_hasEnded_18 (v := 0) (by decide) ?_
    exact a_iret K EE rfl (by omega) (by omega) dX6_hasEnded_19 (by first | exact ⟨rfl, Or.inr ⟨fun z => nI_nlt z (by omega) c_11, rfl⟩⟩ | exact ⟨rfl, Or.inl ⟨Classical.byContradiction (fun z => c_11 (nI_lt (by omega) (by omega))), rfl⟩⟩)
  · refine a_iconst K dX6_hasEnded_14 (v := 1) (by decide) ?_
    refine a_goto K dX6_hasEnded_15 (tgt := 19) (by decide) ?_
    exact a_iret K EE rfl (by omega) (by omega) dX6_hasEnded_19 (by first | exact ⟨rfl, Or.inr ⟨fun z => nI_nlt z (by omega) c_11, rfl⟩⟩ | exact ⟨rfl, Or.inl ⟨Classical.byContradiction (fun z => c_11 (nI_lt (by omega) (by omega))), rfl⟩⟩)
set_option maxHeartbeats 4000000 in
set_option maxRecDepth 100000 in
theorem m_passes {S : aw_S} {v : Nat → Nat} {L : List Int32} (h : RdS S v L) {p : Nat} (hp : p ≤ 241) (ha : sI S 385 (v 2) = nI p) {sg : Int32} : aw_M yX6_passes cX6_passes 2 (some FieldType.boolean) 2 0 0 [.ref (v 2), .int sg] S (fun r S2 => bR (chr L (skB L p) = sg) r ∧ frS S S2 (fun b => b = v 2) ∧ sI S2 385 (v 2) = nI (if chr L (skB L p) = sg then skB L p + 1 else skB L p)) := by
  have hL := h.1
  have o6 := lw_i2 hL
  have r384 := lw_f384_2 hL
  have o9 := lw_i0 hL
  have h240 := h.2.2.1
  have hq241 : skB L p ≤ 241 := by
    by_cases hz : p ≤ L.length
    · have := (skB_le hz).2; omega
    · rw [skB_out (by omega)]; exact hp
  refine aw_enter (by decide +kernel) (Nat.le_of_ble_eq_true rfl) (fun g K EE => ?_)
  first | refine a_aload_n K dX6_passes_0 rfl ?_ | refine a_aload_nN K dX6_passes_0 rfl ?_
  refine a_invV K (m_skipBlanks h hp ha) my_X6_skipBlanks ml_X6_24 im_X6_skipBlanks se_X6_skipBlanks (ci := 6) (by assumption) (by decide) ⟨_, _, rfl⟩ rfl (by omega) (by omega) (by omega) rfl (Nat.le_of_ble_eq_true rfl) dX6_passes_1 ?_
  intro r9 S9 hp9
  obtain ⟨rfl, f9, a9⟩ := hp9
  have h := h.fr f9
  have hL := h.1
  have o6 := lw_i2 hL
  have r384 := lw_f384_2 hL
  have o9 := lw_i0 hL
  have h240 := h.2.2.1
  first | refine a_aload_n K dX6_passes_4 rfl ?_ | refine a_aload_nN K dX6_passes_4 rfl ?_
  refine a_getRs K fd_X6_9 (by assumption) (Or.inl ⟨_, rfl⟩) (by assumption) dX6_passes_5 ?_
  first | refine a_aload_n K dX6_passes_8 rfl ?_ | refine a_aload_nN K dX6_passes_8 rfl ?_
  refine a_getI K fd_X6_20 (by assumption) (Or.inl rfl) dX6_passes_9 ?_
  rw [a9]
  refine a_invV K (m_byteAt h (p := skB L p) (by omega)) my_X9_byteAt ml_X6_72 im_X9_byteAt se_X9_byteAt (ci := 9) (by assumption) (by decide) ⟨_, _, rfl⟩ rfl (by omega) (by omega) (by omega) rfl (Nat.le_of_ble_eq_true rfl) dX6_passes_12 ?_
  intro r9 S9 hp9
  obtain ⟨rfl, hS9⟩ := hp9
  obtain rfl := hS9.symm
  refine a_iload_n K dX6_passes_15 rfl ?_
  refine a_icmp_eq K dX6_passes_16 (tgt := 21) (by decide) (fun c_16 => ?_) (fun c_16 => ?_)
  · first | refine a_aload_n K dX6_passes_21 rfl ?_ | refine a_aload_nN K dX6_passes_21 rfl ?_
    refine a_dup K dX6_passes_22 rfl ?_
    refine a_getI K fd_X6_20 (by assumption) (Or.inl rfl) dX6_passes_23 ?_
    rw [a9]
    refine a_iconst K dX6_passes_26 (v := 1) (by decide) ?_
    refine a_iadd K dX6_passes_27 ?_
    rw [nI_1]
    refine a_putI K fd_X6_20 (by assumption) rfl dX6_passes_28 ?_
    refine a_iconst K dX6_passes_31 (v := 1) (by decide) ?_
    exact a_iret K EE rfl (by omega) (by omega) dX6_passes_32 (by rw [if_pos (by first | exact c_16 | exact Classical.not_not.mp c_16)]; exact ⟨Or.inl ⟨by first | exact c_16 | exact Classical.not_not.mp c_16, rfl⟩, f9.st (frS_wI (by decide)) (fun _ z => z), wI_at⟩)
  · refine a_iconst K dX6_passes_19 (v := 0) (by decide) ?_
    exact a_iret K EE rfl (by omega) (by omega) dX6_passes_20 (by rw [if_neg (by first | exact c_16 | exact fun z => c_16 z)]; exact ⟨Or.inr ⟨by first | exact c_16 | exact fun z => c_16 z, rfl⟩, f9, a9⟩)
theorem numR_s {L : List Int32} {less : Bool} {p : Nat} (h : sgR L less (skB L p) = true) : numR L less p = numD L true (skB L p + 1) := by unfold numR; rw [if_pos h, h]
theorem numR_n {L : List Int32} {less : Bool} {p : Nat} (h : sgR L less (skB L p) = false) : numR L less p = numD L false (skB L p) := by unfold numR; rw [h]; rfl
set_option maxHeartbeats 4000000 in
set_option maxRecDepth 100000 in
theorem m_readNumber_0 {S : aw_S} {v : Nat → Nat} {L : List Int32} (h0 : RdS S v L) {p : Nat} (hp : p ≤ 240) (ha0 : sI S 385 (v 2) = nI p) : aw_M yX6_readNumber cX6_readNumber 5 (some FieldType.int) 3 0 0 [.ref (v 2), .int 0] S (fun r S2 => r = some (.int (((numR L false p).2).getD (-1000000))) ∧ frS S S2 (fun b => b = v 2) ∧ sI S2 385 (v 2) = nI (numR L false p).1) := by
  have hL := h0.1
  have o6 := lw_i2 hL
  have r384 := lw_f384_2 hL
  have o9 := lw_i0 hL
  have hq241 : skB L p ≤ 240 := by
    have h240 := h0.2.2.1
    by_cases hz : p ≤ L.length
    · have := (skB_le hz).2; omega
    · rw [skB_out (by omega)]; exact hp
  have hsg : sgR L false (skB L p) = false := rfl
  obtain ⟨q1, hq1⟩ : ∃ q, q = skB L p := ⟨_, rfl⟩
  obtain ⟨s, hs⟩ : ∃ s : Bool, s = false := ⟨_, rfl⟩
  rw [numR_n hsg, ← hq1, ← hs]
  obtain ⟨R, hRR⟩ : ∃ R, R = dgR L 3 q1 0 := ⟨_, rfl⟩
  refine aw_enter (by decide +kernel) (Nat.le_of_ble_eq_true rfl) (fun g K EE => ?_)
  have fin : ∀ (c p a : Nat) (T : aw_S), c ≤ 3 → a < 1000 → p = q1 + c → p ≤ 244 → RdS T v L → frS S T (fun b => b = v 2) → sI T 385 (v 2) = nI p → (a, p) = dgR L 3 q1 0 → aw g 5 T 0 0 [(4, .int (nI c)), (3, .int (nI a)), (2, .int (if s then 1 else 0)), (0, .ref (v 2))] [] 108 := by
    intro c p a T hc ha9 hpc hp4 h f ha hR
    have hL := h.1
    have o6 := lw_i2 hL
    have r384 := lw_f384_2 hL
    have o9 := lw_i0 hL
    have h240 := h.2.2.1
    have hR1 : (dgR L 3 q1 0).1 = a := by rw [← hR]
    have hR2 : (dgR L 3 q1 0).2 = p := by rw [← hR]
    by_cases hc0 : c = 0
    · refine a_iload K dX6_readNumber_108 rfl ?_
      refine a_if_eq K dX6_readNumber_110 (tgt := 130) (by decide) (fun c_110 => ?_) (fun c_110 => absurd c_110 (fun z => z (by rw [hc0]; rfl)))
      refine a_ldc K kc_X6_43 dX6_readNumber_130 ?_
      exact a_iret K EE rfl (by omega) (by omega) dX6_readNumber_132 (by rw [show numD L s q1 = (p, none) from by unfold numD; rw [hR2, if_pos (Or.inl (by omega))]]; exact ⟨rfl, f, ha⟩)
    · by_cases hd : isDg (chr L p)
      · refine a_iload K dX6_readNumber_108 rfl ?_
        refine a_if_eq K dX6_readNumber_110 (tgt := 130) (by decide) (fun c_110 => absurd c_110 (nI_ne0 (by omega) (by omega))) (fun c_110 => ?_)
        first | refine a_aload_n K dX6_readNumber_113 rfl ?_ | refine a_aload_nN K dX6_readNumber_113 rfl ?_
        refine a_getRs K fd_X6_9 (by assumption) (Or.inl ⟨_, rfl⟩) (by assumption) dX6_readNumber_114 ?_
        first | refine a_aload_n K dX6_readNumber_117 rfl ?_ | refine a_aload_nN K dX6_readNumber_117 rfl ?_
        refine a_getI K fd_X6_20 (by assumption) (Or.inl rfl) dX6_readNumber_118 ?_
        rw [ha]
        refine a_invV K (m_byteAt h (p := p) (by omega)) my_X9_byteAt ml_X6_72 im_X9_byteAt se_X9_byteAt (ci := 9) (by assumption) (by decide) ⟨_, _, rfl⟩ rfl (by omega) (by omega) (by omega) rfl (Nat.le_of_ble_eq_true rfl) dX6_readNumber_121 ?_
        intro r9 S9 hp9
        obtain ⟨rfl, hS9⟩ := hp9
        obtain rfl := hS9.symm
        refine a_invS K (m_X6_isDigit (k := chr L p)) my_X6_isDigit ml_X6_108 st_X6_isDigit rfl (by omega) (by omega) (by omega) rfl (Nat.le_of_ble_eq_true rfl) dX6_readNumber_124 ?_
        intro r9 S9 hp9
        obtain ⟨hS9, hb9⟩ := hp9
        obtain rfl := hS9.symm
        obtain rfl : r9 = some (.int 1) := hb9.elim (fun q => q.2) (fun q => absurd hd q.1)
        refine a_if_eq K dX6_readNumber_127 (tgt := 133) (by decide) (fun c_127 => absurd c_127 (by decide)) (fun c_127 => ?_)
        refine a_ldc K kc_X6_43 dX6_readNumber_130 ?_
        exact a_iret K EE rfl (by omega) (by omega) dX6_readNumber_132 (by rw [show numD L s q1 = (p, none) from by unfold numD; rw [hR2, if_pos (Or.inr hd)]]; exact ⟨rfl, f, ha⟩)
      · cases s with
        | true =>
          refine a_iload K dX6_readNumber_108 rfl ?_
          refine a_if_eq K dX6_readNumber_110 (tgt := 130) (by decide) (fun c_110 => absurd c_110 (nI_ne0 (by omega) (by omega))) (fun c_110 => ?_)
          first | refine a_aload_n K dX6_readNumber_113 rfl ?_ | refine a_aload_nN K dX6_readNumber_113 rfl ?_
          refine a_getRs K fd_X6_9 (by assumption) (Or.inl ⟨_, rfl⟩) (by assumption) dX6_readNumber_114 ?_
          first | refine a_aload_n K dX6_readNumber_117 rfl ?_ | refine a_aload_nN K dX6_readNumber_117 rfl ?_
          refine a_getI K fd_X6_20 (by assumption) (Or.inl rfl) dX6_readNumber_118 ?_
          rw [ha]
          refine a_invV K (m_byteAt h (p := p) (by omega)) my_X9_byteAt ml_X6_72 im_X9_byteAt se_X9_byteAt (ci := 9) (by assumption) (by decide) ⟨_, _, rfl⟩ rfl (by omega) (by omega) (by omega) rfl (Nat.le_of_ble_eq_true rfl) dX6_readNumber_121 ?_
          intro r9 S9 hp9
          obtain ⟨rfl, hS9⟩ := hp9
          obtain rfl := hS9.symm
          refine a_invS K (m_X6_isDigit (k := chr L p)) my_X6_isDigit ml_X6_108 st_X6_isDigit rfl (by omega) (by omega) (by omega) rfl (Nat.le_of_ble_eq_true rfl) dX6_readNumber_124 ?_
          intro r9 S9 hp9
          obtain ⟨hS9, hb9⟩ := hp9
          obtain rfl := hS9.symm
          obtain rfl : r9 = some (.int 0) := hb9.elim (fun q => absurd q.1 hd) (fun q => q.2)
          refine a_if_eq K dX6_readNumber_127 (tgt := 133) (by decide) (fun c_127 => ?_) (fun c_127 => absurd c_127 (by decide))
          refine a_iload_n K dX6_readNumber_133 rfl ?_
          refine a_if_eq K dX6_readNumber_134 (tgt := 142) (by decide) (fun c_134 => absurd c_134 (by decide)) (fun c_134 => ?_)
          refine a_iload_n K dX6_readNumber_137 rfl ?_
          refine a_ineg K dX6_readNumber_138 ?_
          refine a_goto K dX6_readNumber_139 (tgt := 143) (by decide) ?_
          exact a_iret K EE rfl (by omega) (by omega) dX6_readNumber_143 (by rw [show numD L true q1 = (p, some (numV true a)) from by unfold numD; rw [hR2, hR1, if_neg (fun z => z.elim (fun y => by omega) hd)]]; exact ⟨rfl, f, ha⟩)
        | false =>
          refine a_iload K dX6_readNumber_108 rfl ?_
          refine a_if_eq K dX6_readNumber_110 (tgt := 130) (by decide) (fun c_110 => absurd c_110 (nI_ne0 (by omega) (by omega))) (fun c_110 => ?_)
          first | refine a_aload_n K dX6_readNumber_113 rfl ?_ | refine a_aload_nN K dX6_readNumber_113 rfl ?_
          refine a_getRs K fd_X6_9 (by assumption) (Or.inl ⟨_, rfl⟩) (by assumption) dX6_readNumber_114 ?_
          first | refine a_aload_n K dX6_readNumber_117 rfl ?_ | refine a_aload_nN K dX6_readNumber_117 rfl ?_
          refine a_getI K fd_X6_20 (by assumption) (Or.inl rfl) dX6_readNumber_118 ?_
          rw [ha]
          refine a_invV K (m_byteAt h (p := p) (by omega)) my_X9_byteAt ml_X6_72 im_X9_byteAt se_X9_byteAt (ci := 9) (by assumption) (by decide) ⟨_, _, rfl⟩ rfl (by omega) (by omega) (by omega) rfl (Nat.le_of_ble_eq_true rfl) dX6_readNumber_121 ?_
          intro r9 S9 hp9
          obtain ⟨rfl, hS9⟩ := hp9
          obtain rfl := hS9.symm
          refine a_invS K (m_X6_isDigit (k := chr L p)) my_X6_isDigit ml_X6_108 st_X6_isDigit rfl (by omega) (by omega) (by omega) rfl (Nat.le_of_ble_eq_true rfl) dX6_readNumber_124 ?_
          intro r9 S9 hp9
          obtain ⟨hS9, hb9⟩ := hp9
          obtain rfl := hS9.symm
          obtain rfl : r9 = some (.int 0) := hb9.elim (fun q => absurd q.1 hd) (fun q => q.2)
          refine a_if_eq K dX6_readNumber_127 (tgt := 133) (by decide) (fun c_127 => ?_) (fun c_127 => absurd c_127 (by decide))
          refine a_iload_n K dX6_readNumber_133 rfl ?_
          refine a_if_eq K dX6_readNumber_134 (tgt := 142) (by decide) (fun c_134 => ?_) (fun c_134 => absurd c_134 (by decide))
          refine a_iload_n K dX6_readNumber_142 rfl ?_
          exact a_iret K EE rfl (by omega) (by omega) dX6_readNumber_143 (by rw [show numD L false q1 = (p, some (numV false a)) from by unfold numD; rw [hR2, hR1, if_neg (fun z => z.elim (fun y => by omega) hd)]]; exact ⟨rfl, f, ha⟩)
  have loop : ∀ (k c p a : Nat) (x : Int32) (T : aw_S), x = nI c → c + k = 3 → a < 1000 → 10 ^ k * (a + 1) ≤ 1000 → p = q1 + c → p ≤ 244 → RdS T v L → frS S T (fun b => b = v 2) → sI T 385 (v 2) = nI p → dgR L k p a = R → aw g 5 T 0 0 [(4, .int x), (3, .int (nI a)), (2, .int (if s then 1 else 0)), (0, .ref (v 2))] [] 49 := by
    intro k
    induction k with
    | zero =>
      intro c p a x T hx hc ha9 ha8 hpc hp4 h f ha hR
      subst hx
      have hL := h.1
      have o6 := lw_i2 hL
      have r384 := lw_f384_2 hL
      have o9 := lw_i0 hL
      have h240 := h.2.2.1
      refine a_iload K dX6_readNumber_49 rfl ?_
      refine a_iconst K dX6_readNumber_51 (v := 3) (by decide) ?_
      refine a_icmp_ge K dX6_readNumber_52 (tgt := 108) (by decide) (fun c_52 => ?_) (fun c_52 => absurd c_52 (fun z => z (nI_le (a := 3) (b := c) (by omega) (by omega))))
      exact aw_locl rfl (fin c p a T (by omega) ha9 hpc hp4 h f ha (by rw [← hRR]; exact hR))
    | succ k ih =>
      intro c p a x T hx hc ha9 ha8 hpc hp4 h f ha hR
      subst hx
      have hL := h.1
      have o6 := lw_i2 hL
      have r384 := lw_f384_2 hL
      have o9 := lw_i0 hL
      have h240 := h.2.2.1
      by_cases hd : isDg (chr L p)
      · obtain ⟨d, hd9, ed, ev⟩ := isDg_v hd
        have hd8 := Nat.one_le_pow k 10 (by decide)
        rw [Nat.pow_succ, Nat.mul_assoc] at ha8
        have ha7 : 10 * (a + 1) ≤ 1000 := by
          have h9 : 1 * (10 * (a + 1)) ≤ 10 ^ k * (10 * (a + 1)) := Nat.mul_le_mul_right _ hd8
          omega
        refine a_iload K dX6_readNumber_49 rfl ?_
        refine a_iconst K dX6_readNumber_51 (v := 3) (by decide) ?_
        refine a_icmp_ge K dX6_readNumber_52 (tgt := 108) (by decide) (fun c_52 => absurd c_52 (nI_ge (a := c) (b := 3) (by omega) (by omega))) (fun c_52 => ?_)
        first | refine a_aload_n K dX6_readNumber_55 rfl ?_ | refine a_aload_nN K dX6_readNumber_55 rfl ?_
        refine a_getRs K fd_X6_9 (by assumption) (Or.inl ⟨_, rfl⟩) (by assumption) dX6_readNumber_56 ?_
        first | refine a_aload_n K dX6_readNumber_59 rfl ?_ | refine a_aload_nN K dX6_readNumber_59 rfl ?_
        refine a_getI K fd_X6_20 (by assumption) (Or.inl rfl) dX6_readNumber_60 ?_
        rw [ha]
        refine a_invV K (m_byteAt h (p := p) (by omega)) my_X9_byteAt ml_X6_72 im_X9_byteAt se_X9_byteAt (ci := 9) (by assumption) (by decide) ⟨_, _, rfl⟩ rfl (by omega) (by omega) (by omega) rfl (Nat.le_of_ble_eq_true rfl) dX6_readNumber_63 ?_
        intro r9 S9 hp9
        obtain ⟨rfl, hS9⟩ := hp9
        obtain rfl := hS9.symm
        refine a_invS K (m_X6_isDigit (k := chr L p)) my_X6_isDigit ml_X6_108 st_X6_isDigit rfl (by omega) (by omega) (by omega) rfl (Nat.le_of_ble_eq_true rfl) dX6_readNumber_66 ?_
        intro r9 S9 hp9
        obtain ⟨hS9, hb9⟩ := hp9
        obtain rfl := hS9.symm
        obtain rfl : r9 = some (.int 1) := hb9.elim (fun q => q.2) (fun q => absurd hd q.1)
        refine a_if_eq K dX6_readNumber_69 (tgt := 108) (by decide) (fun c_69 => absurd c_69 (by decide)) (fun c_69 => ?_)
        refine a_iload_n K dX6_readNumber_72 rfl ?_
        refine a_bipush K dX6_readNumber_73 (v := 10) (by decide) ?_
        refine a_imul K dX6_readNumber_75 ?_
        first | refine a_aload_n K dX6_readNumber_76 rfl ?_ | refine a_aload_nN K dX6_readNumber_76 rfl ?_
        refine a_getRs K fd_X6_9 (by assumption) (Or.inl ⟨_, rfl⟩) (by assumption) dX6_readNumber_77 ?_
        first | refine a_aload_n K dX6_readNumber_80 rfl ?_ | refine a_aload_nN K dX6_readNumber_80 rfl ?_
        refine a_getI K fd_X6_20 (by assumption) (Or.inl rfl) dX6_readNumber_81 ?_
        rw [ha]
        refine a_invV K (m_byteAt h (p := p) (by omega)) my_X9_byteAt ml_X6_72 im_X9_byteAt se_X9_byteAt (ci := 9) (by assumption) (by decide) ⟨_, _, rfl⟩ rfl (by omega) (by omega) (by omega) rfl (Nat.le_of_ble_eq_true rfl) dX6_readNumber_84 ?_
        intro r9 S9 hp9
        obtain ⟨rfl, hS9⟩ := hp9
        obtain rfl := hS9.symm
        rw [ed]
        refine a_iadd K dX6_readNumber_87 ?_
        refine a_bipush K dX6_readNumber_88 (v := 48) (by decide) ?_
        refine a_isub K dX6_readNumber_90 ?_
        rw [show nI a * 10 + nI (48 + d) - 48 = nI (10 * a + d) from by rw [show (10 : Int32) = nI 10 from rfl, show (48 : Int32) = nI 48 from rfl, pk_mul, nI_add, nI_sub (by omega), show a * 10 + (48 + d) - 48 = 10 * a + d by omega]]
        refine a_istore_n K dX6_readNumber_91 (by decide) ?_
        first | refine a_aload_n K dX6_readNumber_92 rfl ?_ | refine a_aload_nN K dX6_readNumber_92 rfl ?_
        refine a_dup K dX6_readNumber_93 rfl ?_
        refine a_getI K fd_X6_20 (by assumption) (Or.inl rfl) dX6_readNumber_94 ?_
        rw [ha]
        refine a_iconst K dX6_readNumber_97 (v := 1) (by decide) ?_
        refine a_iadd K dX6_readNumber_98 ?_
        rw [nI_1]
        refine a_putI K fd_X6_20 (by assumption) rfl dX6_readNumber_99 ?_
        refine a_iinc K dX6_readNumber_102 (v := 1) rfl (by decide) (by decide) ?_
        refine a_goto K dX6_readNumber_105 (tgt := 49) (by decide) ?_
        exact aw_locl rfl (ih (c + 1) (p + 1) (10 * a + d) _ _ (nI_1 c) (by omega) (by omega) (by have h9 : 10 ^ k * (10 * a + d + 1) ≤ 10 ^ k * (10 * (a + 1)) := Nat.mul_le_mul_left _ (by omega); omega) (by omega) (by omega) (h.fr (frS_wI (by decide))) (f.st (frS_wI (by decide)) (fun _ z => z)) wI_at (by rw [← hR, dgR, if_pos hd, ev]))
      · refine a_iload K dX6_readNumber_49 rfl ?_
        refine a_iconst K dX6_readNumber_51 (v := 3) (by decide) ?_
        refine a_icmp_ge K dX6_readNumber_52 (tgt := 108) (by decide) (fun c_52 => absurd c_52 (nI_ge (a := c) (b := 3) (by omega) (by omega))) (fun c_52 => ?_)
        first | refine a_aload_n K dX6_readNumber_55 rfl ?_ | refine a_aload_nN K dX6_readNumber_55 rfl ?_
        refine a_getRs K fd_X6_9 (by assumption) (Or.inl ⟨_, rfl⟩) (by assumption) dX6_readNumber_56 ?_
        first | refine a_aload_n K dX6_readNumber_59 rfl ?_ | refine a_aload_nN K dX6_readNumber_59 rfl ?_
        refine a_getI K fd_X6_20 (by assumption) (Or.inl rfl) dX6_readNumber_60 ?_
        rw [ha]
        refine a_invV K (m_byteAt h (p := p) (by omega)) my_X9_byteAt ml_X6_72 im_X9_byteAt se_X9_byteAt (ci := 9) (by assumption) (by decide) ⟨_, _, rfl⟩ rfl (by omega) (by omega) (by omega) rfl (Nat.le_of_ble_eq_true rfl) dX6_readNumber_63 ?_
        intro r9 S9 hp9
        obtain ⟨rfl, hS9⟩ := hp9
        obtain rfl := hS9.symm
        refine a_invS K (m_X6_isDigit (k := chr L p)) my_X6_isDigit ml_X6_108 st_X6_isDigit rfl (by omega) (by omega) (by omega) rfl (Nat.le_of_ble_eq_true rfl) dX6_readNumber_66 ?_
        intro r9 S9 hp9
        obtain ⟨hS9, hb9⟩ := hp9
        obtain rfl := hS9.symm
        obtain rfl : r9 = some (.int 0) := hb9.elim (fun q => absurd q.1 hd) (fun q => q.2)
        refine a_if_eq K dX6_readNumber_69 (tgt := 108) (by decide) (fun c_69 => ?_) (fun c_69 => absurd c_69 (by decide))
        exact aw_locl rfl (fin c p a T (by omega) ha9 hpc hp4 h f ha (by rw [← hRR, ← hR, dgR, if_neg hd]))
  first | refine a_aload_n K dX6_readNumber_0 rfl ?_ | refine a_aload_nN K dX6_readNumber_0 rfl ?_
  refine a_invV K (m_skipBlanks h0 (by omega) ha0) my_X6_skipBlanks ml_X6_24 im_X6_skipBlanks se_X6_skipBlanks (ci := 6) (by assumption) (by decide) ⟨_, _, rfl⟩ rfl (by omega) (by omega) (by omega) rfl (Nat.le_of_ble_eq_true rfl) dX6_readNumber_1 ?_
  intro r9 S9 hp9
  obtain ⟨rfl, f9, a9⟩ := hp9
  have h := h0.fr f9
  have hL := h.1
  have o6 := lw_i2 hL
  have r384 := lw_f384_2 hL
  have o9 := lw_i0 hL
  have h240 := h.2.2.1
  refine a_iload_n K dX6_readNumber_4 rfl ?_
  refine a_if_eq K dX6_readNumber_5 (tgt := 28) (by decide) (fun c_5 => ?_) (fun c_5 => absurd c_5 (by decide))
  refine a_iconst K dX6_readNumber_28 (v := 0) (by decide) ?_
  refine a_istore_n K dX6_readNumber_29 (by decide) ?_
  refine a_iload_n K dX6_readNumber_30 rfl ?_
  refine a_if_eq K dX6_readNumber_31 (tgt := 44) (by decide) (fun c_31 => ?_) (fun c_31 => absurd c_31 (by decide))
  refine a_iconst K dX6_readNumber_44 (v := 0) (by decide) ?_
  refine a_istore_n K dX6_readNumber_45 (by decide) ?_
  refine a_iconst K dX6_readNumber_46 (v := 0) (by decide) ?_
  refine a_istore K dX6_readNumber_47 (by decide) ?_
  subst hs
  exact aw_locl rfl (loop 3 0 q1 0 _ _ nI_0.symm (by omega) (by omega) (by decide) (by omega) (by omega) h f9 (by rw [a9, hq1]) hRR.symm)
set_option maxHeartbeats 4000000 in
set_option maxRecDepth 100000 in
theorem m_readNumber_s {S : aw_S} {v : Nat → Nat} {L : List Int32} (h0 : RdS S v L) {p : Nat} (hp : p ≤ 240) (ha0 : sI S 385 (v 2) = nI p) (hm : chr L (skB L p) = 45) : aw_M yX6_readNumber cX6_readNumber 5 (some FieldType.int) 3 0 0 [.ref (v 2), .int 1] S (fun r S2 => r = some (.int (((numR L true p).2).getD (-1000000))) ∧ frS S S2 (fun b => b = v 2) ∧ sI S2 385 (v 2) = nI (numR L true p).1) := by
  have hL := h0.1
  have o6 := lw_i2 hL
  have r384 := lw_f384_2 hL
  have o9 := lw_i0 hL
  have hq241 : skB L p ≤ 240 := by
    have h240 := h0.2.2.1
    by_cases hz : p ≤ L.length
    · have := (skB_le hz).2; omega
    · rw [skB_out (by omega)]; exact hp
  have hsg : sgR L true (skB L p) = true := by unfold sgR; rw [hm]; rfl
  obtain ⟨q1, hq1⟩ : ∃ q, q = skB L p + 1 := ⟨_, rfl⟩
  obtain ⟨s, hs⟩ : ∃ s : Bool, s = true := ⟨_, rfl⟩
  rw [numR_s hsg, ← hq1, ← hs]
  obtain ⟨R, hRR⟩ : ∃ R, R = dgR L 3 q1 0 := ⟨_, rfl⟩
  refine aw_enter (by decide +kernel) (Nat.le_of_ble_eq_true rfl) (fun g K EE => ?_)
  have fin : ∀ (c p a : Nat) (T : aw_S), c ≤ 3 → a < 1000 → p = q1 + c → p ≤ 244 → RdS T v L → frS S T (fun b => b = v 2) → sI T 385 (v 2) = nI p → (a, p) = dgR L 3 q1 0 → aw g 5 T 0 0 [(4, .int (nI c)), (3, .int (nI a)), (2, .int (if s then 1 else 0)), (0, .ref (v 2))] [] 108 := by
    intro c p a T hc ha9 hpc hp4 h f ha hR
    have hL := h.1
    have o6 := lw_i2 hL
    have r384 := lw_f384_2 hL
    have o9 := lw_i0 hL
    have h240 := h.2.2.1
    have hR1 : (dgR L 3 q1 0).1 = a := by rw [← hR]
    have hR2 : (dgR L 3 q1 0).2 = p := by rw [← hR]
    by_cases hc0 : c = 0
    · refine a_iload K dX6_readNumber_108 rfl ?_
      refine a_if_eq K dX6_readNumber_110 (tgt := 130) (by decide) (fun c_110 => ?_) (fun c_110 => absurd c_110 (fun z => z (by rw [hc0]; rfl)))
      refine a_ldc K kc_X6_43 dX6_readNumber_130 ?_
      exact a_iret K EE rfl (by omega) (by omega) dX6_readNumber_132 (by rw [show numD L s q1 = (p, none) from by unfold numD; rw [hR2, if_pos (Or.inl (by omega))]]; exact ⟨rfl, f, ha⟩)
    · by_cases hd : isDg (chr L p)
      · refine a_iload K dX6_readNumber_108 rfl ?_
        refine a_if_eq K dX6_readNumber_110 (tgt := 130) (by decide) (fun c_110 => absurd c_110 (nI_ne0 (by omega) (by omega))) (fun c_110 => ?_)
        first | refine a_aload_n K dX6_readNumber_113 rfl ?_ | refine a_aload_nN K dX6_readNumber_113 rfl ?_
        refine a_getRs K fd_X6_9 (by assumption) (Or.inl ⟨_, rfl⟩) (by assumption) dX6_readNumber_114 ?_
        first | refine a_aload_n K dX6_readNumber_117 rfl ?_ | refine a_aload_nN K dX6_readNumber_117 rfl ?_
        refine a_getI K fd_X6_20 (by assumption) (Or.inl rfl) dX6_readNumber_118 ?_
        rw [ha]
        refine a_invV K (m_byteAt h (p := p) (by omega)) my_X9_byteAt ml_X6_72 im_X9_byteAt se_X9_byteAt (ci := 9) (by assumption) (by decide) ⟨_, _, rfl⟩ rfl (by omega) (by omega) (by omega) rfl (Nat.le_of_ble_eq_true rfl) dX6_readNumber_121 ?_
        intro r9 S9 hp9
        obtain ⟨rfl, hS9⟩ := hp9
        obtain rfl := hS9.symm
        refine a_invS K (m_X6_isDigit (k := chr L p)) my_X6_isDigit ml_X6_108 st_X6_isDigit rfl (by omega) (by omega) (by omega) rfl (Nat.le_of_ble_eq_true rfl) dX6_readNumber_124 ?_
        intro r9 S9 hp9
        obtain ⟨hS9, hb9⟩ := hp9
        obtain rfl := hS9.symm
        obtain rfl : r9 = some (.int 1) := hb9.elim (fun q => q.2) (fun q => absurd hd q.1)
        refine a_if_eq K dX6_readNumber_127 (tgt := 133) (by decide) (fun c_127 => absurd c_127 (by decide)) (fun c_127 => ?_)
        refine a_ldc K kc_X6_43 dX6_readNumber_130 ?_
        exact a_iret K EE rfl (by omega) (by omega) dX6_readNumber_132 (by rw [show numD L s q1 = (p, none) from by unfold numD; rw [hR2, if_pos (Or.inr hd)]]; exact ⟨rfl, f, ha⟩)
      · cases s with
        | true =>
          refine a_iload K dX6_readNumber_108 rfl ?_
          refine a_if_eq K dX6_readNumber_110 (tgt := 130) (by decide) (fun c_110 => absurd c_110 (nI_ne0 (by omega) (by omega))) (fun c_110 => ?_)
          first | refine a_aload_n K dX6_readNumber_113 rfl ?_ | refine a_aload_nN K dX6_readNumber_113 rfl ?_
          refine a_getRs K fd_X6_9 (by assumption) (Or.inl ⟨_, rfl⟩) (by assumption) dX6_readNumber_114 ?_
          first | refine a_aload_n K dX6_readNumber_117 rfl ?_ | refine a_aload_nN K dX6_readNumber_117 rfl ?_
          refine a_getI K fd_X6_20 (by assumption) (Or.inl rfl) dX6_readNumber_118 ?_
          rw [ha]
          refine a_invV K (m_byteAt h (p := p) (by omega)) my_X9_byteAt ml_X6_72 im_X9_byteAt se_X9_byteAt (ci := 9) (by assumption) (by decide) ⟨_, _, rfl⟩ rfl (by omega) (by omega) (by omega) rfl (Nat.le_of_ble_eq_true rfl) dX6_readNumber_121 ?_
          intro r9 S9 hp9
          obtain ⟨rfl, hS9⟩ := hp9
          obtain rfl := hS9.symm
          refine a_invS K (m_X6_isDigit (k := chr L p)) my_X6_isDigit ml_X6_108 st_X6_isDigit rfl (by omega) (by omega) (by omega) rfl (Nat.le_of_ble_eq_true rfl) dX6_readNumber_124 ?_
          intro r9 S9 hp9
          obtain ⟨hS9, hb9⟩ := hp9
          obtain rfl := hS9.symm
          obtain rfl : r9 = some (.int 0) := hb9.elim (fun q => absurd q.1 hd) (fun q => q.2)
          refine a_if_eq K dX6_readNumber_127 (tgt := 133) (by decide) (fun c_127 => ?_) (fun c_127 => absurd c_127 (by decide))
          refine a_iload_n K dX6_readNumber_133 rfl ?_
          refine a_if_eq K dX6_readNumber_134 (tgt := 142) (by decide) (fun c_134 => absurd c_134 (by decide)) (fun c_134 => ?_)
          refine a_iload_n K dX6_readNumber_137 rfl ?_
          refine a_ineg K dX6_readNumber_138 ?_
          refine a_goto K dX6_readNumber_139 (tgt := 143) (by decide) ?_
          exact a_iret K EE rfl (by omega) (by omega) dX6_readNumber_143 (by rw [show numD L true q1 = (p, some (numV true a)) from by unfold numD; rw [hR2, hR1, if_neg (fun z => z.elim (fun y => by omega) hd)]]; exact ⟨rfl, f, ha⟩)
        | false =>
          refine a_iload K dX6_readNumber_108 rfl ?_
          refine a_if_eq K dX6_readNumber_110 (tgt := 130) (by decide) (fun c_110 => absurd c_110 (nI_ne0 (by omega) (by omega))) (fun c_110 => ?_)
          first | refine a_aload_n K dX6_readNumber_113 rfl ?_ | refine a_aload_nN K dX6_readNumber_113 rfl ?_
          refine a_getRs K fd_X6_9 (by assumption) (Or.inl ⟨_, rfl⟩) (by assumption) dX6_readNumber_114 ?_
          first | refine a_aload_n K dX6_readNumber_117 rfl ?_ | refine a_aload_nN K dX6_readNumber_117 rfl ?_
          refine a_getI K fd_X6_20 (by assumption) (Or.inl rfl) dX6_readNumber_118 ?_
          rw [ha]
          refine a_invV K (m_byteAt h (p := p) (by omega)) my_X9_byteAt ml_X6_72 im_X9_byteAt se_X9_byteAt (ci := 9) (by assumption) (by decide) ⟨_, _, rfl⟩ rfl (by omega) (by omega) (by omega) rfl (Nat.le_of_ble_eq_true rfl) dX6_readNumber_121 ?_
          intro r9 S9 hp9
          obtain ⟨rfl, hS9⟩ := hp9
          obtain rfl := hS9.symm
          refine a_invS K (m_X6_isDigit (k := chr L p)) my_X6_isDigit ml_X6_108 st_X6_isDigit rfl (by omega) (by omega) (by omega) rfl (Nat.le_of_ble_eq_true rfl) dX6_readNumber_124 ?_
          intro r9 S9 hp9
          obtain ⟨hS9, hb9⟩ := hp9
          obtain rfl := hS9.symm
          obtain rfl : r9 = some (.int 0) := hb9.elim (fun q => absurd q.1 hd) (fun q => q.2)
          refine a_if_eq K dX6_readNumber_127 (tgt := 133) (by decide) (fun c_127 => ?_) (fun c_127 => absurd c_127 (by decide))
          refine a_iload_n K dX6_readNumber_133 rfl ?_
          refine a_if_eq K dX6_readNumber_134 (tgt := 142) (by decide) (fun c_134 => ?_) (fun c_134 => absurd c_134 (by decide))
          refine a_iload_n K dX6_readNumber_142 rfl ?_
          exact a_iret K EE rfl (by omega) (by omega) dX6_readNumber_143 (by rw [show numD L false q1 = (p, some (numV false a)) from by unfold numD; rw [hR2, hR1, if_neg (fun z => z.elim (fun y => by omega) hd)]]; exact ⟨rfl, f, ha⟩)
  have loop : ∀ (k c p a : Nat) (x : Int32) (T : aw_S), x = nI c → c + k = 3 → a < 1000 → 10 ^ k * (a + 1) ≤ 1000 → p = q1 + c → p ≤ 244 → RdS T v L → frS S T (fun b => b = v 2) → sI T 385 (v 2) = nI p → dgR L k p a = R → aw g 5 T 0 0 [(4, .int x), (3, .int (nI a)), (2, .int (if s then 1 else 0)), (0, .ref (v 2))] [] 49 := by
    intro k
    induction k with
    | zero =>
      intro c p a x T hx hc ha9 ha8 hpc hp4 h f ha hR
      subst hx
      have hL := h.1
      have o6 := lw_i2 hL
      have r384 := lw_f384_2 hL
      have o9 := lw_i0 hL
      have h240 := h.2.2.1
      refine a_iload K dX6_readNumber_49 rfl ?_
      refine a_iconst K dX6_readNumber_51 (v := 3) (by decide) ?_
      refine a_icmp_ge K dX6_readNumber_52 (tgt := 108) (by decide) (fun c_52 => ?_) (fun c_52 => absurd c_52 (fun z => z (nI_le (a := 3) (b := c) (by omega) (by omega))))
      exact aw_locl rfl (fin c p a T (by omega) ha9 hpc hp4 h f ha (by rw [← hRR]; exact hR))
    | succ k ih =>
      intro c p a x T hx hc ha9 ha8 hpc hp4 h f ha hR
      subst hx
      have hL := h.1
      have o6 := lw_i2 hL
      have r384 := lw_f384_2 hL
      have o9 := lw_i0 hL
      have h240 := h.2.2.1
      by_cases hd : isDg (chr L p)
      · obtain ⟨d, hd9, ed, ev⟩ := isDg_v hd
        have hd8 := Nat.one_le_pow k 10 (by decide)
        rw [Nat.pow_succ, Nat.mul_assoc] at ha8
        have ha7 : 10 * (a + 1) ≤ 1000 := by
          have h9 : 1 * (10 * (a + 1)) ≤ 10 ^ k * (10 * (a + 1)) := Nat.mul_le_mul_right _ hd8
          omega
        refine a_iload K dX6_readNumber_49 rfl ?_
        refine a_iconst K dX6_readNumber_51 (v := 3) (by decide) ?_
        refine a_icmp_ge K dX6_readNumber_52 (tgt := 108) (by decide) (fun c_52 => absurd c_52 (nI_ge (a := c) (b := 3) (by omega) (by omega))) (fun c_52 => ?_)
        first | refine a_aload_n K dX6_readNumber_55 rfl ?_ | refine a_aload_nN K dX6_readNumber_55 rfl ?_
        refine a_getRs K fd_X6_9 (by assumption) (Or.inl ⟨_, rfl⟩) (by assumption) dX6_readNumber_56 ?_
        first | refine a_aload_n K dX6_readNumber_59 rfl ?_ | refine a_aload_nN K dX6_readNumber_59 rfl ?_
        refine a_getI K fd_X6_20 (by assumption) (Or.inl rfl) dX6_readNumber_60 ?_
        rw [ha]
        refine a_invV K (m_byteAt h (p := p) (by omega)) my_X9_byteAt ml_X6_72 im_X9_byteAt se_X9_byteAt (ci := 9) (by assumption) (by decide) ⟨_, _, rfl⟩ rfl (by omega) (by omega) (by omega) rfl (Nat.le_of_ble_eq_true rfl) dX6_readNumber_63 ?_
        intro r9 S9 hp9
        obtain ⟨rfl, hS9⟩ := hp9
        obtain rfl := hS9.symm
        refine a_invS K (m_X6_isDigit (k := chr L p)) my_X6_isDigit ml_X6_108 st_X6_isDigit rfl (by omega) (by omega) (by omega) rfl (Nat.le_of_ble_eq_true rfl) dX6_readNumber_66 ?_
        intro r9 S9 hp9
        obtain ⟨hS9, hb9⟩ := hp9
        obtain rfl := hS9.symm
        obtain rfl : r9 = some (.int 1) := hb9.elim (fun q => q.2) (fun q => absurd hd q.1)
        refine a_if_eq K dX6_readNumber_69 (tgt := 108) (by decide) (fun c_69 => absurd c_69 (by decide)) (fun c_69 => ?_)
        refine a_iload_n K dX6_readNumber_72 rfl ?_
        refine a_bipush K dX6_readNumber_73 (v := 10) (by decide) ?_
        refine a_imul K dX6_readNumber_75 ?_
        first | refine a_aload_n K dX6_readNumber_76 rfl ?_ | refine a_aload_nN K dX6_readNumber_76 rfl ?_
        refine a_getRs K fd_X6_9 (by assumption) (Or.inl ⟨_, rfl⟩) (by assumption) dX6_readNumber_77 ?_
        first | refine a_aload_n K dX6_readNumber_80 rfl ?_ | refine a_aload_nN K dX6_readNumber_80 rfl ?_
        refine a_getI K fd_X6_20 (by assumption) (Or.inl rfl) dX6_readNumber_81 ?_
        rw [ha]
        refine a_invV K (m_byteAt h (p := p) (by omega)) my_X9_byteAt ml_X6_72 im_X9_byteAt se_X9_byteAt (ci := 9) (by assumption) (by decide) ⟨_, _, rfl⟩ rfl (by omega) (by omega) (by omega) rfl (Nat.le_of_ble_eq_true rfl) dX6_readNumber_84 ?_
        intro r9 S9 hp9
        obtain ⟨rfl, hS9⟩ := hp9
        obtain rfl := hS9.symm
        rw [ed]
        refine a_iadd K dX6_readNumber_87 ?_
        refine a_bipush K dX6_readNumber_88 (v := 48) (by decide) ?_
        refine a_isub K dX6_readNumber_90 ?_
        rw [show nI a * 10 + nI (48 + d) - 48 = nI (10 * a + d) from by rw [show (10 : Int32) = nI 10 from rfl, show (48 : Int32) = nI 48 from rfl, pk_mul, nI_add, nI_sub (by omega), show a * 10 + (48 + d) - 48 = 10 * a + d by omega]]
        refine a_istore_n K dX6_readNumber_91 (by decide) ?_
        first | refine a_aload_n K dX6_readNumber_92 rfl ?_ | refine a_aload_nN K dX6_readNumber_92 rfl ?_
        refine a_dup K dX6_readNumber_93 rfl ?_
        refine a_getI K fd_X6_20 (by assumption) (Or.inl rfl) dX6_readNumber_94 ?_
        rw [ha]
        refine a_iconst K dX6_readNumber_97 (v := 1) (by decide) ?_
        refine a_iadd K dX6_readNumber_98 ?_
        rw [nI_1]
        refine a_putI K fd_X6_20 (by assumption) rfl dX6_readNumber_99 ?_
        refine a_iinc K dX6_readNumber_102 (v := 1) rfl (by decide) (by decide) ?_
        refine a_goto K dX6_readNumber_105 (tgt := 49) (by decide) ?_
        exact aw_locl rfl (ih (c + 1) (p + 1) (10 * a + d) _ _ (nI_1 c) (by omega) (by omega) (by have h9 : 10 ^ k * (10 * a + d + 1) ≤ 10 ^ k * (10 * (a + 1)) := Nat.mul_le_mul_left _ (by omega); omega) (by omega) (by omega) (h.fr (frS_wI (by decide))) (f.st (frS_wI (by decide)) (fun _ z => z)) wI_at (by rw [← hR, dgR, if_pos hd, ev]))
      · refine a_iload K dX6_readNumber_49 rfl ?_
        refine a_iconst K dX6_readNumber_51 (v := 3) (by decide) ?_
        refine a_icmp_ge K dX6_readNumber_52 (tgt := 108) (by decide) (fun c_52 => absurd c_52 (nI_ge (a := c) (b := 3) (by omega) (by omega))) (fun c_52 => ?_)
        first | refine a_aload_n K dX6_readNumber_55 rfl ?_ | refine a_aload_nN K dX6_readNumber_55 rfl ?_
        refine a_getRs K fd_X6_9 (by assumption) (Or.inl ⟨_, rfl⟩) (by assumption) dX6_readNumber_56 ?_
        first | refine a_aload_n K dX6_readNumber_59 rfl ?_ | refine a_aload_nN K dX6_readNumber_59 rfl ?_
        refine a_getI K fd_X6_20 (by assumption) (Or.inl rfl) dX6_readNumber_60 ?_
        rw [ha]
        refine a_invV K (m_byteAt h (p := p) (by omega)) my_X9_byteAt ml_X6_72 im_X9_byteAt se_X9_byteAt (ci := 9) (by assumption) (by decide) ⟨_, _, rfl⟩ rfl (by omega) (by omega) (by omega) rfl (Nat.le_of_ble_eq_true rfl) dX6_readNumber_63 ?_
        intro r9 S9 hp9
        obtain ⟨rfl, hS9⟩ := hp9
        obtain rfl := hS9.symm
        refine a_invS K (m_X6_isDigit (k := chr L p)) my_X6_isDigit ml_X6_108 st_X6_isDigit rfl (by omega) (by omega) (by omega) rfl (Nat.le_of_ble_eq_true rfl) dX6_readNumber_66 ?_
        intro r9 S9 hp9
        obtain ⟨hS9, hb9⟩ := hp9
        obtain rfl := hS9.symm
        obtain rfl : r9 = some (.int 0) := hb9.elim (fun q => absurd q.1 hd) (fun q => q.2)
        refine a_if_eq K dX6_readNumber_69 (tgt := 108) (by decide) (fun c_69 => ?_) (fun c_69 => absurd c_69 (by decide))
        exact aw_locl rfl (fin c p a T (by omega) ha9 hpc hp4 h f ha (by rw [← hRR, ← hR, dgR, if_neg hd]))
  first | refine a_aload_n K dX6_readNumber_0 rfl ?_ | refine a_aload_nN K dX6_readNumber_0 rfl ?_
  refine a_invV K (m_skipBlanks h0 (by omega) ha0) my_X6_skipBlanks ml_X6_24 im_X6_skipBlanks se_X6_skipBlanks (ci := 6) (by assumption) (by decide) ⟨_, _, rfl⟩ rfl (by omega) (by omega) (by omega) rfl (Nat.le_of_ble_eq_true rfl) dX6_readNumber_1 ?_
  intro r9 S9 hp9
  obtain ⟨rfl, f9, a9⟩ := hp9
  have h := h0.fr f9
  have hL := h.1
  have o6 := lw_i2 hL
  have r384 := lw_f384_2 hL
  have o9 := lw_i0 hL
  have h240 := h.2.2.1
  refine a_iload_n K dX6_readNumber_4 rfl ?_
  refine a_if_eq K dX6_readNumber_5 (tgt := 28) (by decide) (fun c_5 => absurd c_5 (by decide)) (fun c_5 => ?_)
  first | refine a_aload_n K dX6_readNumber_8 rfl ?_ | refine a_aload_nN K dX6_readNumber_8 rfl ?_
  refine a_getRs K fd_X6_9 (by assumption) (Or.inl ⟨_, rfl⟩) (by assumption) dX6_readNumber_9 ?_
  first | refine a_aload_n K dX6_readNumber_12 rfl ?_ | refine a_aload_nN K dX6_readNumber_12 rfl ?_
  refine a_getI K fd_X6_20 (by assumption) (Or.inl rfl) dX6_readNumber_13 ?_
  rw [a9]
  refine a_invV K (m_byteAt h (p := skB L p) (by omega)) my_X9_byteAt ml_X6_72 im_X9_byteAt se_X9_byteAt (ci := 9) (by assumption) (by decide) ⟨_, _, rfl⟩ rfl (by omega) (by omega) (by omega) rfl (Nat.le_of_ble_eq_true rfl) dX6_readNumber_16 ?_
  intro r9 S9 hp9
  obtain ⟨rfl, hS9⟩ := hp9
  obtain rfl := hS9.symm
  refine a_bipush K dX6_readNumber_19 (v := 45) (by decide) ?_
  refine a_icmp_ne K dX6_readNumber_21 (tgt := 28) (by decide) (fun c_21 => absurd c_21 (fun z => z hm)) (fun c_21 => ?_)
  refine a_iconst K dX6_readNumber_24 (v := 1) (by decide) ?_
  refine a_goto K dX6_readNumber_25 (tgt := 29) (by decide) ?_
  refine a_istore_n K dX6_readNumber_29 (by decide) ?_
  refine a_iload_n K dX6_readNumber_30 rfl ?_
  refine a_if_eq K dX6_readNumber_31 (tgt := 44) (by decide) (fun c_31 => absurd c_31 (by decide)) (fun c_31 => ?_)
  first | refine a_aload_n K dX6_readNumber_34 rfl ?_ | refine a_aload_nN K dX6_readNumber_34 rfl ?_
  refine a_dup K dX6_readNumber_35 rfl ?_
  refine a_getI K fd_X6_20 (by assumption) (Or.inl rfl) dX6_readNumber_36 ?_
  rw [a9]
  refine a_iconst K dX6_readNumber_39 (v := 1) (by decide) ?_
  refine a_iadd K dX6_readNumber_40 ?_
  rw [nI_1]
  refine a_putI K fd_X6_20 (by assumption) rfl dX6_readNumber_41 ?_
  refine a_iconst K dX6_readNumber_44 (v := 0) (by decide) ?_
  refine a_istore_n K dX6_readNumber_45 (by decide) ?_
  refine a_iconst K dX6_readNumber_46 (v := 0) (by decide) ?_
  refine a_istore K dX6_readNumber_47 (by decide) ?_
  subst hs
  exact aw_locl rfl (loop 3 0 q1 0 _ _ nI_0.symm (by omega) (by omega) (by decide) (by omega) (by omega) (h.fr (frS_wI (by decide))) (f9.st (frS_wI (by decide)) (fun _ z => z)) (by rw [wI_at, hq1]) hRR.symm)
set_option maxHeartbeats 4000000 in
set_option maxRecDepth 100000 in
theorem m_readNumber_n {S : aw_S} {v : Nat → Nat} {L : List Int32} (h0 : RdS S v L) {p : Nat} (hp : p ≤ 240) (ha0 : sI S 385 (v 2) = nI p) (hm : ¬ chr L (skB L p) = 45) : aw_M yX6_readNumber cX6_readNumber 5 (some FieldType.int) 3 0 0 [.ref (v 2), .int 1] S (fun r S2 => r = some (.int (((numR L true p).2).getD (-1000000))) ∧ frS S S2 (fun b => b = v 2) ∧ sI S2 385 (v 2) = nI (numR L true p).1) := by
  have hL := h0.1
  have o6 := lw_i2 hL
  have r384 := lw_f384_2 hL
  have o9 := lw_i0 hL
  have hq241 : skB L p ≤ 240 := by
    have h240 := h0.2.2.1
    by_cases hz : p ≤ L.length
    · have := (skB_le hz).2; omega
    · rw [skB_out (by omega)]; exact hp
  have hsg : sgR L true (skB L p) = false := by unfold sgR; rw [decide_eq_false hm]; rfl
  obtain ⟨q1, hq1⟩ : ∃ q, q = skB L p := ⟨_, rfl⟩
  obtain ⟨s, hs⟩ : ∃ s : Bool, s = false := ⟨_, rfl⟩
  rw [numR_n hsg, ← hq1, ← hs]
  obtain ⟨R, hRR⟩ : ∃ R, R = dgR L 3 q1 0 := ⟨_, rfl⟩
  refine aw_enter (by decide +kernel) (Nat.le_of_ble_eq_true rfl) (fun g K EE => ?_)
  have fin : ∀ (c p a : Nat) (T : aw_S), c ≤ 3 → a < 1000 → p = q1 + c → p ≤ 244 → RdS T v L → frS S T (fun b => b = v 2) → sI T 385 (v 2) = nI p → (a, p) = dgR L 3 q1 0 → aw g 5 T 0 0 [(4, .int (nI c)), (3, .int (nI a)), (2, .int (if s then 1 else 0)), (0, .ref (v 2))] [] 108 := by
    intro c p a T hc ha9 hpc hp4 h f ha hR
    have hL := h.1
    have o6 := lw_i2 hL
    have r384 := lw_f384_2 hL
    have o9 := lw_i0 hL
    have h240 := h.2.2.1
    have hR1 : (dgR L 3 q1 0).1 = a := by rw [← hR]
    have hR2 : (dgR L 3 q1 0).2 = p := by rw [← hR]
    by_cases hc0 : c = 0
    · refine a_iload K dX6_readNumber_108 rfl ?_
      refine a_if_eq K dX6_readNumber_110 (tgt := 130) (by decide) (fun c_110 => ?_) (fun c_110 => absurd c_110 (fun z => z (by rw [hc0]; rfl)))
      refine a_ldc K kc_X6_43 dX6_readNumber_130 ?_
      exact a_iret K EE rfl (by omega) (by omega) dX6_readNumber_132 (by rw [show numD L s q1 = (p, none) from by unfold numD; rw [hR2, if_pos (Or.inl (by omega))]]; exact ⟨rfl, f, ha⟩)
    · by_cases hd : isDg (chr L p)
      · refine a_iload K dX6_readNumber_108 rfl ?_
        refine a_if_eq K dX6_readNumber_110 (tgt := 130) (by decide) (fun c_110 => absurd c_110 (nI_ne0 (by omega) (by omega))) (fun c_110 => ?_)
        first | refine a_aload_n K dX6_readNumber_113 rfl ?_ | refine a_aload_nN K dX6_readNumber_113 rfl ?_
        refine a_getRs K fd_X6_9 (by assumption) (Or.inl ⟨_, rfl⟩) (by assumption) dX6_readNumber_114 ?_
        first | refine a_aload_n K dX6_readNumber_117 rfl ?_ | refine a_aload_nN K dX6_readNumber_117 rfl ?_
        refine a_getI K fd_X6_20 (by assumption) (Or.inl rfl) dX6_readNumber_118 ?_
        rw [ha]
        refine a_invV K (m_byteAt h (p := p) (by omega)) my_X9_byteAt ml_X6_72 im_X9_byteAt se_X9_byteAt (ci := 9) (by assumption) (by decide) ⟨_, _, rfl⟩ rfl (by omega) (by omega) (by omega) rfl (Nat.le_of_ble_eq_true rfl) dX6_readNumber_121 ?_
        intro r9 S9 hp9
        obtain ⟨rfl, hS9⟩ := hp9
        obtain rfl := hS9.symm
        refine a_invS K (m_X6_isDigit (k := chr L p)) my_X6_isDigit ml_X6_108 st_X6_isDigit rfl (by omega) (by omega) (by omega) rfl (Nat.le_of_ble_eq_true rfl) dX6_readNumber_124 ?_
        intro r9 S9 hp9
        obtain ⟨hS9, hb9⟩ := hp9
        obtain rfl := hS9.symm
        obtain rfl : r9 = some (.int 1) := hb9.elim (fun q => q.2) (fun q => absurd hd q.1)
        refine a_if_eq K dX6_readNumber_127 (tgt := 133) (by decide) (fun c_127 => absurd c_127 (by decide)) (fun c_127 => ?_)
        refine a_ldc K kc_X6_43 dX6_readNumber_130 ?_
        exact a_iret K EE rfl (by omega) (by omega) dX6_readNumber_132 (by rw [show numD L s q1 = (p, none) from by unfold numD; rw [hR2, if_pos (Or.inr hd)]]; exact ⟨rfl, f, ha⟩)
      · cases s with
        | true =>
          refine a_iload K dX6_readNumber_108 rfl ?_
          refine a_if_eq K dX6_readNumber_110 (tgt := 130) (by decide) (fun c_110 => absurd c_110 (nI_ne0 (by omega) (by omega))) (fun c_110 => ?_)
          first | refine a_aload_n K dX6_readNumber_113 rfl ?_ | refine a_aload_nN K dX6_readNumber_113 rfl ?_
          refine a_getRs K fd_X6_9 (by assumption) (Or.inl ⟨_, rfl⟩) (by assumption) dX6_readNumber_114 ?_
          first | refine a_aload_n K dX6_readNumber_117 rfl ?_ | refine a_aload_nN K dX6_readNumber_117 rfl ?_
          refine a_getI K fd_X6_20 (by assumption) (Or.inl rfl) dX6_readNumber_118 ?_
          rw [ha]
          refine a_invV K (m_byteAt h (p := p) (by omega)) my_X9_byteAt ml_X6_72 im_X9_byteAt se_X9_byteAt (ci := 9) (by assumption) (by decide) ⟨_, _, rfl⟩ rfl (by omega) (by omega) (by omega) rfl (Nat.le_of_ble_eq_true rfl) dX6_readNumber_121 ?_
          intro r9 S9 hp9
          obtain ⟨rfl, hS9⟩ := hp9
          obtain rfl := hS9.symm
          refine a_invS K (m_X6_isDigit (k := chr L p)) my_X6_isDigit ml_X6_108 st_X6_isDigit rfl (by omega) (by omega) (by omega) rfl (Nat.le_of_ble_eq_true rfl) dX6_readNumber_124 ?_
          intro r9 S9 hp9
          obtain ⟨hS9, hb9⟩ := hp9
          obtain rfl := hS9.symm
          obtain rfl : r9 = some (.int 0) := hb9.elim (fun q => absurd q.1 hd) (fun q => q.2)
          refine a_if_eq K dX6_readNumber_127 (tgt := 133) (by decide) (fun c_127 => ?_) (fun c_127 => absurd c_127 (by decide))
          refine a_iload_n K dX6_readNumber_133 rfl ?_
          refine a_if_eq K dX6_readNumber_134 (tgt := 142) (by decide) (fun c_134 => absurd c_134 (by decide)) (fun c_134 => ?_)
          refine a_iload_n K dX6_readNumber_137 rfl ?_
          refine a_ineg K dX6_readNumber_138 ?_
          refine a_goto K dX6_readNumber_139 (tgt := 143) (by decide) ?_
          exact a_iret K EE rfl (by omega) (by omega) dX6_readNumber_143 (by rw [show numD L true q1 = (p, some (numV true a)) from by unfold numD; rw [hR2, hR1, if_neg (fun z => z.elim (fun y => by omega) hd)]]; exact ⟨rfl, f, ha⟩)
        | false =>
          refine a_iload K dX6_readNumber_108 rfl ?_
          refine a_if_eq K dX6_readNumber_110 (tgt := 130) (by decide) (fun c_110 => absurd c_110 (nI_ne0 (by omega) (by omega))) (fun c_110 => ?_)
          first | refine a_aload_n K dX6_readNumber_113 rfl ?_ | refine a_aload_nN K dX6_readNumber_113 rfl ?_
          refine a_getRs K fd_X6_9 (by assumption) (Or.inl ⟨_, rfl⟩) (by assumption) dX6_readNumber_114 ?_
          first | refine a_aload_n K dX6_readNumber_117 rfl ?_ | refine a_aload_nN K dX6_readNumber_117 rfl ?_
          refine a_getI K fd_X6_20 (by assumption) (Or.inl rfl) dX6_readNumber_118 ?_
          rw [ha]
          refine a_invV K (m_byteAt h (p := p) (by omega)) my_X9_byteAt ml_X6_72 im_X9_byteAt se_X9_byteAt (ci := 9) (by assumption) (by decide) ⟨_, _, rfl⟩ rfl (by omega) (by omega) (by omega) rfl (Nat.le_of_ble_eq_true rfl) dX6_readNumber_121 ?_
          intro r9 S9 hp9
          obtain ⟨rfl, hS9⟩ := hp9
          obtain rfl := hS9.symm
          refine a_invS K (m_X6_isDigit (k := chr L p)) my_X6_isDigit ml_X6_108 st_X6_isDigit rfl (by omega) (by omega) (by omega) rfl (Nat.le_of_ble_eq_true rfl) dX6_readNumber_124 ?_
          intro r9 S9 hp9
          obtain ⟨hS9, hb9⟩ := hp9
          obtain rfl := hS9.symm
          obtain rfl : r9 = some (.int 0) := hb9.elim (fun q => absurd q.1 hd) (fun q => q.2)
          refine a_if_eq K dX6_readNumber_127 (tgt := 133) (by decide) (fun c_127 => ?_) (fun c_127 => absurd c_127 (by decide))
          refine a_iload_n K dX6_readNumber_133 rfl ?_
          refine a_if_eq K dX6_readNumber_134 (tgt := 142) (by decide) (fun c_134 => ?_) (fun c_134 => absurd c_134 (by decide))
          refine a_iload_n K dX6_readNumber_142 rfl ?_
          exact a_iret K EE rfl (by omega) (by omega) dX6_readNumber_143 (by rw [show numD L false q1 = (p, some (numV false a)) from by unfold numD; rw [hR2, hR1, if_neg (fun z => z.elim (fun y => by omega) hd)]]; exact ⟨rfl, f, ha⟩)
  have loop : ∀ (k c p a : Nat) (x : Int32) (T : aw_S), x = nI c → c + k = 3 → a < 1000 → 10 ^ k * (a + 1) ≤ 1000 → p = q1 + c → p ≤ 244 → RdS T v L → frS S T (fun b => b = v 2) → sI T 385 (v 2) = nI p → dgR L k p a = R → aw g 5 T 0 0 [(4, .int x), (3, .int (nI a)), (2, .int (if s then 1 else 0)), (0, .ref (v 2))] [] 49 := by
    intro k
    induction k with
    | zero =>
      intro c p a x T hx hc ha9 ha8 hpc hp4 h f ha hR
      subst hx
      have hL := h.1
      have o6 := lw_i2 hL
      have r384 := lw_f384_2 hL
      have o9 := lw_i0 hL
      have h240 := h.2.2.1
      refine a_iload K dX6_readNumber_49 rfl ?_
      refine a_iconst K dX6_readNumber_51 (v := 3) (by decide) ?_
      refine a_icmp_ge K dX6_readNumber_52 (tgt := 108) (by decide) (fun c_52 => ?_) (fun c_52 => absurd c_52 (fun z => z (nI_le (a := 3) (b := c) (by omega) (by omega))))
      exact aw_locl rfl (fin c p a T (by omega) ha9 hpc hp4 h f ha (by rw [← hRR]; exact hR))
    | succ k ih =>
      intro c p a x T hx hc ha9 ha8 hpc hp4 h f ha hR
      subst hx
      have hL := h.1
      have o6 := lw_i2 hL
      have r384 := lw_f384_2 hL
      have o9 := lw_i0 hL
      have h240 := h.2.2.1
      by_cases hd : isDg (chr L p)
      · obtain ⟨d, hd9, ed, ev⟩ := isDg_v hd
        have hd8 := Nat.one_le_pow k 10 (by decide)
        rw [Nat.pow_succ, Nat.mul_assoc] at ha8
        have ha7 : 10 * (a + 1) ≤ 1000 := by
          have h9 : 1 * (10 * (a + 1)) ≤ 10 ^ k * (10 * (a + 1)) := Nat.mul_le_mul_right _ hd8
          omega
        refine a_iload K dX6_readNumber_49 rfl ?_
        refine a_iconst K dX6_readNumber_51 (v := 3) (by decide) ?_
        refine a_icmp_ge K dX6_readNumber_52 (tgt := 108) (by decide) (fun c_52 => absurd c_52 (nI_ge (a := c) (b := 3) (by omega) (by omega))) (fun c_52 => ?_)
        first | refine a_aload_n K dX6_readNumber_55 rfl ?_ | refine a_aload_nN K dX6_readNumber_55 rfl ?_
        refine a_getRs K fd_X6_9 (by assumption) (Or.inl ⟨_, rfl⟩) (by assumption) dX6_readNumber_56 ?_
        first | refine a_aload_n K dX6_readNumber_59 rfl ?_ | refine a_aload_nN K dX6_readNumber_59 rfl ?_
        refine a_getI K fd_X6_20 (by assumption) (Or.inl rfl) dX6_readNumber_60 ?_
        rw [ha]
        refine a_invV K (m_byteAt h (p := p) (by omega)) my_X9_byteAt ml_X6_72 im_X9_byteAt se_X9_byteAt (ci := 9) (by assumption) (by decide) ⟨_, _, rfl⟩ rfl (by omega) (by omega) (by omega) rfl (Nat.le_of_ble_eq_true rfl) dX6_readNumber_63 ?_
        intro r9 S9 hp9
        obtain ⟨rfl, hS9⟩ := hp9
        obtain rfl := hS9.symm
        refine a_invS K (m_X6_isDigit (k := chr L p)) my_X6_isDigit ml_X6_108 st_X6_isDigit rfl (by omega) (by omega) (by omega) rfl (Nat.le_of_ble_eq_true rfl) dX6_readNumber_66 ?_
        intro r9 S9 hp9
        obtain ⟨hS9, hb9⟩ := hp9
        obtain rfl := hS9.symm
        obtain rfl : r9 = some (.int 1) := hb9.elim (fun q => q.2) (fun q => absurd hd q.1)
        refine a_if_eq K dX6_readNumber_69 (tgt := 108) (by decide) (fun c_69 => absurd c_69 (by decide)) (fun c_69 => ?_)
        refine a_iload_n K dX6_readNumber_72 rfl ?_
        refine a_bipush K dX6_readNumber_73 (v := 10) (by decide) ?_
        refine a_imul K dX6_readNumber_75 ?_
        first | refine a_aload_n K dX6_readNumber_76 rfl ?_ | refine a_aload_nN K dX6_readNumber_76 rfl ?_
        refine a_getRs K fd_X6_9 (by assumption) (Or.inl ⟨_, rfl⟩) (by assumption) dX6_readNumber_77 ?_
        first | refine a_aload_n K dX6_readNumber_80 rfl ?_ | refine a_aload_nN K dX6_readNumber_80 rfl ?_
        refine a_getI K fd_X6_20 (by assumption) (Or.inl rfl) dX6_readNumber_81 ?_
        rw [ha]
        refine a_invV K (m_byteAt h (p := p) (by omega)) my_X9_byteAt ml_X6_72 im_X9_byteAt se_X9_byteAt (ci := 9) (by assumption) (by decide) ⟨_, _, rfl⟩ rfl (by omega) (by omega) (by omega) rfl (Nat.le_of_ble_eq_true rfl) dX6_readNumber_84 ?_
        intro r9 S9 hp9
        obtain ⟨rfl, hS9⟩ := hp9
        obtain rfl := hS9.symm
        rw [ed]
        refine a_iadd K dX6_readNumber_87 ?_
        refine a_bipush K dX6_readNumber_88 (v := 48) (by decide) ?_
        refine a_isub K dX6_readNumber_90 ?_
        rw [show nI a * 10 + nI (48 + d) - 48 = nI (10 * a + d) from by rw [show (10 : Int32) = nI 10 from rfl, show (48 : Int32) = nI 48 from rfl, pk_mul, nI_add, nI_sub (by omega), show a * 10 + (48 + d) - 48 = 10 * a + d by omega]]
        refine a_istore_n K dX6_readNumber_91 (by decide) ?_
        first | refine a_aload_n K dX6_readNumber_92 rfl ?_ | refine a_aload_nN K dX6_readNumber_92 rfl ?_
        refine a_dup K dX6_readNumber_93 rfl ?_
        refine a_getI K fd_X6_20 (by assumption) (Or.inl rfl) dX6_readNumber_94 ?_
        rw [ha]
        refine a_iconst K dX6_readNumber_97 (v := 1) (by decide) ?_
        refine a_iadd K dX6_readNumber_98 ?_
        rw [nI_1]
        refine a_putI K fd_X6_20 (by assumption) rfl dX6_readNumber_99 ?_
        refine a_iinc K dX6_readNumber_102 (v := 1) rfl (by decide) (by decide) ?_
        refine a_goto K dX6_readNumber_105 (tgt := 49) (by decide) ?_
        exact aw_locl rfl (ih (c + 1) (p + 1) (10 * a + d) _ _ (nI_1 c) (by omega) (by omega) (by have h9 : 10 ^ k * (10 * a + d + 1) ≤ 10 ^ k * (10 * (a + 1)) := Nat.mul_le_mul_left _ (by omega); omega) (by omega) (by omega) (h.fr (frS_wI (by decide))) (f.st (frS_wI (by decide)) (fun _ z => z)) wI_at (by rw [← hR, dgR, if_pos hd, ev]))
      · refine a_iload K dX6_readNumber_49 rfl ?_
        refine a_iconst K dX6_readNumber_51 (v := 3) (by decide) ?_
        refine a_icmp_ge K dX6_readNumber_52 (tgt := 108) (by decide) (fun c_52 => absurd c_52 (nI_ge (a := c) (b := 3) (by omega) (by omega))) (fun c_52 => ?_)
        first | refine a_aload_n K dX6_readNumber_55 rfl ?_ | refine a_aload_nN K dX6_readNumber_55 rfl ?_
        refine a_getRs K fd_X6_9 (by assumption) (Or.inl ⟨_, rfl⟩) (by assumption) dX6_readNumber_56 ?_
        first | refine a_aload_n K dX6_readNumber_59 rfl ?_ | refine a_aload_nN K dX6_readNumber_59 rfl ?_
        refine a_getI K fd_X6_20 (by assumption) (Or.inl rfl) dX6_readNumber_60 ?_
        rw [ha]
        refine a_invV K (m_byteAt h (p := p) (by omega)) my_X9_byteAt ml_X6_72 im_X9_byteAt se_X9_byteAt (ci := 9) (by assumption) (by decide) ⟨_, _, rfl⟩ rfl (by omega) (by omega) (by omega) rfl (Nat.le_of_ble_eq_true rfl) dX6_readNumber_63 ?_
        intro r9 S9 hp9
        obtain ⟨rfl, hS9⟩ := hp9
        obtain rfl := hS9.symm
        refine a_invS K (m_X6_isDigit (k := chr L p)) my_X6_isDigit ml_X6_108 st_X6_isDigit rfl (by omega) (by omega) (by omega) rfl (Nat.le_of_ble_eq_true rfl) dX6_readNumber_66 ?_
        intro r9 S9 hp9
        obtain ⟨hS9, hb9⟩ := hp9
        obtain rfl := hS9.symm
        obtain rfl : r9 = some (.int 0) := hb9.elim (fun q => absurd q.1 hd) (fun q => q.2)
        refine a_if_eq K dX6_readNumber_69 (tgt := 108) (by decide) (fun c_69 => ?_) (fun c_69 => absurd c_69 (by decide))
        exact aw_locl rfl (fin c p a T (by omega) ha9 hpc hp4 h f ha (by rw [← hRR, ← hR, dgR, if_neg hd]))
  first | refine a_aload_n K dX6_readNumber_0 rfl ?_ | refine a_aload_nN K dX6_readNumber_0 rfl ?_
  refine a_invV K (m_skipBlanks h0 (by omega) ha0) my_X6_skipBlanks ml_X6_24 im_X6_skipBlanks se_X6_skipBlanks (ci := 6) (by assumption) (by decide) ⟨_, _, rfl⟩ rfl (by omega) (by omega) (by omega) rfl (Nat.le_of_ble_eq_true rfl) dX6_readNumber_1 ?_
  intro r9 S9 hp9
  obtain ⟨rfl, f9, a9⟩ := hp9
  have h := h0.fr f9
  have hL := h.1
  have o6 := lw_i2 hL
  have r384 := lw_f384_2 hL
  have o9 := lw_i0 hL
  have h240 := h.2.2.1
  refine a_iload_n K dX6_readNumber_4 rfl ?_
  refine a_if_eq K dX6_readNumber_5 (tgt := 28) (by decide) (fun c_5 => absurd c_5 (by decide)) (fun c_5 => ?_)
  first | refine a_aload_n K dX6_readNumber_8 rfl ?_ | refine a_aload_nN K dX6_readNumber_8 rfl ?_
  refine a_getRs K fd_X6_9 (by assumption) (Or.inl ⟨_, rfl⟩) (by assumption) dX6_readNumber_9 ?_
  first | refine a_aload_n K dX6_readNumber_12 rfl ?_ | refine a_aload_nN K dX6_readNumber_12 rfl ?_
  refine a_getI K fd_X6_20 (by assumption) (Or.inl rfl) dX6_readNumber_13 ?_
  rw [a9]
  refine a_invV K (m_byteAt h (p := skB L p) (by omega)) my_X9_byteAt ml_X6_72 im_X9_byteAt se_X9_byteAt (ci := 9) (by assumption) (by decide) ⟨_, _, rfl⟩ rfl (by omega) (by omega) (by omega) rfl (Nat.le_of_ble_eq_true rfl) dX6_readNumber_16 ?_
  intro r9 S9 hp9
  obtain ⟨rfl, hS9⟩ := hp9
  obtain rfl := hS9.symm
  refine a_bipush K dX6_readNumber_19 (v := 45) (by decide) ?_
  refine a_icmp_ne K dX6_readNumber_21 (tgt := 28) (by decide) (fun c_21 => ?_) (fun c_21 => absurd c_21 (hm))
  refine a_iconst K dX6_readNumber_28 (v := 0) (by decide) ?_
  refine a_istore_n K dX6_readNumber_29 (by decide) ?_
  refine a_iload_n K dX6_readNumber_30 rfl ?_
  refine a_if_eq K dX6_readNumber_31 (tgt := 44) (by decide) (fun c_31 => ?_) (fun c_31 => absurd c_31 (by decide))
  refine a_iconst K dX6_readNumber_44 (v := 0) (by decide) ?_
  refine a_istore_n K dX6_readNumber_45 (by decide) ?_
  refine a_iconst K dX6_readNumber_46 (v := 0) (by decide) ?_
  refine a_istore K dX6_readNumber_47 (by decide) ?_
  subst hs
  exact aw_locl rfl (loop 3 0 q1 0 _ _ nI_0.symm (by omega) (by omega) (by decide) (by omega) (by omega) h f9 (by rw [a9, hq1]) hRR.symm)
theorem m_readNumber_1 {S : aw_S} {v : Nat → Nat} {L : List Int32} (h0 : RdS S v L) {p : Nat} (hp : p ≤ 240) (ha0 : sI S 385 (v 2) = nI p) : aw_M yX6_readNumber cX6_readNumber 5 (some FieldType.int) 3 0 0 [.ref (v 2), .int 1] S (fun r S2 => r = some (.int (((numR L true p).2).getD (-1000000))) ∧ frS S S2 (fun b => b = v 2) ∧ sI S2 385 (v 2) = nI (numR L true p).1) := by
  by_cases hm : chr L (skB L p) = 45
  · exact m_readNumber_s h0 hp ha0 hm
  · exact m_readNumber_n h0 hp ha0 hm
