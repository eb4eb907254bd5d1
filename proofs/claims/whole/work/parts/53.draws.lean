def sti (x : Int64) : Int64 := x * 6364136223846793005 + 1442695040888963407
def drw (x : Int64) (b : Int32) : Int32 := ((x.toUInt64 >>> ((33 : Int32).toInt64.toUInt64 &&& Int64.toUInt64 63)).toInt64 - (x.toUInt64 >>> ((33 : Int32).toInt64.toUInt64 &&& Int64.toUInt64 63)).toInt64 / b.toInt64 * b.toInt64).toInt32
theorem drw_n (x : Int64) {k : Nat} (h0 : 0 < k) (hk : k < 1000) : ∃ m, m < k ∧ drw x (nI k) = nI m := by
  have e : ((33 : Int32).toInt64.toUInt64 &&& Int64.toUInt64 63) = (33 : UInt64) := by decide
  have hn : (x.toUInt64 >>> (33 : UInt64)).toNat < 2 ^ 31 := by
    rw [UInt64.toNat_shiftRight, show ((33 : UInt64).toNat % 64) = 33 from by decide, Nat.shiftRight_eq_div_pow]
    have h := x.toUInt64.toNat_lt
    omega
  obtain ⟨n, hn2⟩ : ∃ n, (x.toUInt64 >>> (33 : UInt64)).toNat = n := ⟨_, rfl⟩
  have e2 : (x.toUInt64 >>> (33 : UInt64)).toInt64 = Int64.ofNat n := by
    rw [← hn2, ← UInt64.toInt64_ofNat', UInt64.ofNat_toNat]
  rw [hn2] at hn
  have e3 : (nI k).toInt64 = Int64.ofNat k := by
    apply Int64.toInt.inj
    rw [Int32.toInt_toInt64, nI_toInt (by omega), Int64.toInt_ofNat_of_lt (by omega)]
  have hd : n / k * k ≤ n := Nat.div_mul_le_self n k
  refine ⟨n - n / k * k, ?_, ?_⟩
  · have h1 := Nat.div_add_mod n k
    have h2 := Nat.mod_lt n h0
    rw [Nat.mul_comm] at h1
    omega
  · unfold drw
    rw [e, e2, e3, ← Int64.ofNat_div (by omega) (by omega), ← Int64.ofNat_mul, ← Int64.ofNat_sub _ _ hd, Int64.toInt32_ofNat']
    rfl
theorem drwV (x : Int64) : okV (drw x 19 - 9) := by
  obtain ⟨m, hm, e⟩ := drw_n x (k := 19) (by decide) (by decide)
  rw [show drw x 19 = nI m from e]
  apply okV_of
  have h : ∀ m, m < 19 → -999 ≤ (nI m - 9).toInt ∧ (nI m - 9).toInt ≤ 999 := by decide +kernel
  exact h m hm
theorem drwK (x : Int64) {v : Int32} (hv : okV v) : okE (drw x 100, v) := by
  obtain ⟨m, hm, e⟩ := drw_n x (k := 100) (by decide) (by decide)
  exact ⟨⟨m, by omega, e⟩, hv⟩
/-- put, where there is room -/
def ptT (w t : Nat) (k v : Int32) (s : Tz × Nat) : Tz × Nat := if ¬ valIn (ent s.1.1 s.1.2) k = -1000000 ∨ (ent s.1.1 s.1.2).length < 60 then putT w t s.2 k v s.1 else s
def drwS (w t : Nat) (sd : Int64) (s : Tz × Nat) : Tz × Nat := if 1 < drw (sti sd) 4 then (if drw (sti sd) 4 = 2 then ptT w t (drw (sti (sti sd)) 100) (addV (ent s.1.1 s.1.2) (drw (sti (sti sd)) 100) (drw (sti (sti (sti sd))) 19 - 9)) s else cutE w t (drw (sti (sti sd)) 100) (drw (sti (sti sd)) 100) (ent s.1.1 s.1.2) s) else ptT w t (drw (sti (sti sd)) 100) (drw (sti (sti (sti sd))) 19 - 9) s
def itE (g : Int64 → Int64) (F : Int64 → Tz × Nat → Tz × Nat) : Nat → Int64 → Tz × Nat → Tz × Nat
  | 0, _, s => s
  | n + 1, sd, s => itE g F n (g sd) (F sd s)
theorem itE_zero (g : Int64 → Int64) (F : Int64 → Tz × Nat → Tz × Nat) (sd : Int64) (s : Tz × Nat) : itE g F 0 sd s = s := rfl
theorem itE_succ (g : Int64 → Int64) (F : Int64 → Tz × Nat → Tz × Nat) (n : Nat) (sd : Int64) (s : Tz × Nat) : itE g F (n + 1) sd s = itE g F n (g sd) (F sd s) := rfl
def sti3 (sd : Int64) : Int64 := sti (sti (sti sd))
def drwE (w t : Nat) (n : Nat) (sd : Int64) (s : Tz × Nat) : Tz × Nat := itE sti3 (drwS w t) n sd s
/-- a builder's tree has changed, with c more nodes made than were new -/
def stc (c w tk t : Nat) (s r : Tz × Nat) : Prop := tok w r.2 tk r.1 ∧ s.2 ≤ r.2 ∧ r.2 + un t (ndl r.1.1 r.1.2) ≤ s.2 + un t (ndl s.1.1 s.1.2) + c ∧ ∀ y ∈ ndl r.1.1 r.1.2, y ∈ ndl s.1.1 s.1.2 ∨ y.2 = t
theorem stp.c {w tk t : Nat} {s r : Tz × Nat} (h : stp w tk t s r) (c : Nat) : stc c w tk t s r := ⟨h.1, h.2.1, Nat.le_trans h.2.2.1 (Nat.le_add_right _ _), h.2.2.2⟩
theorem stc.tr {c d w tk t : Nat} {s r q : Tz × Nat} (h : stc c w tk t s r) (k : stc d w tk t r q) : stc (c + d) w tk t s q := ⟨k.1, Nat.le_trans h.2.1 k.2.1, by have h1 := h.2.2.1; have h2 := k.2.2.1; omega, fun y hy => (k.2.2.2 y hy).elim (h.2.2.2 y) Or.inr⟩
theorem stc.le {c w tk t : Nat} {s r : Tz × Nat} (hw : 3 ≤ w) (h : stc c w tk t s r) (ht : tok w s.2 tk s.1) : r.2 ≤ s.2 + 61 + c := by
  have h2 := un_le t (ndl s.1.1 s.1.2)
  obtain ⟨-, -, h4⟩ := ht.h4 hw
  have h1 := h.2.2.1
  omega
theorem ptT_stc {w tk t : Nat} {k v : Int32} {s : Tz × Nat} (hw : 3 ≤ w) (h : tok w s.2 tk s.1) (ht : t < tk) (hk : okE (k, v)) : stc 6 w tk t s (ptT w t k v s) := by
  unfold ptT
  by_cases e : ¬ valIn (ent s.1.1 s.1.2) k = -1000000 ∨ (ent s.1.1 s.1.2).length < 60
  · rw [if_pos e]
    obtain ⟨a, b, c⟩ := tok_put hw h ht hk e
    have h1 := putT_un (w := w) (tk := t) (u := s.2) (key := k) (v := v) (z := s.1)
    have h2 := (h.h4 hw).1
    exact ⟨a, b, by omega, c⟩
  · rw [if_neg e]
    exact (stp.rf h).c 6
theorem drwS_stc {w tk t : Nat} {sd : Int64} {s : Tz × Nat} (hw : 3 ≤ w) (h : tok w s.2 tk s.1) (ht : t < tk) : stc 6 w tk t s (drwS w t sd s) := by
  unfold drwS
  by_cases e : 1 < drw (sti sd) 4
  · rw [if_pos e]
    by_cases e2 : drw (sti sd) 4 = 2
    · rw [if_pos e2]
      exact ptT_stc hw h ht (drwK _ (addV_ok (drwV _)))
    · rw [if_neg e2]
      exact (cutE_stp hw ht _ s h).c 6
  · rw [if_neg e]
    exact ptT_stc hw h ht (drwK _ (drwV _))
theorem drwE_succ (w t n : Nat) (sd : Int64) (s : Tz × Nat) : drwE w t (n + 1) sd s = drwE w t n (sti3 sd) (drwS w t sd s) := by
  unfold drwE
  rw [itE_succ]
theorem drwE_zero (w t : Nat) (sd : Int64) (s : Tz × Nat) : drwE w t 0 sd s = s := by
  unfold drwE
  rw [itE_zero]
theorem stc.n {c d w tk t : Nat} {s r : Tz × Nat} (h : stc c w tk t s r) (e : c = d) : stc d w tk t s r := by rw [← e]; exact h
theorem drwE_stc {w tk t : Nat} (hw : 3 ≤ w) (ht : t < tk) (n : Nat) : ∀ (sd : Int64) (s : Tz × Nat), tok w s.2 tk s.1 → stc (6 * n) w tk t s (drwE w t n sd s) := by
  induction n with
  | zero =>
    intro sd s h
    rw [drwE_zero]
    exact ((stp.rf h).c 0).n (by omega)
  | succ n ih =>
    intro sd s h
    rw [drwE_succ]
    have h1 : stc 6 w tk t s (drwS w t sd s) := drwS_stc hw h ht
    exact (h1.tr (ih _ _ h1.1)).n (by omega)
