def sti (x : Int64) : Int64 := x * 6364136223846793005 + 1442695040888963407
def drw (x : Int64) (b : Int32) : Int32 := ((x.toUInt64 >>> ((33 : Int32).toInt64.toUInt64 &&& Int64.toUInt64 63)).toInt64 - (x.toUInt64 >>> ((33 : Int32).toInt64.toUInt64 &&& Int64.toUInt64 63)).toInt64 / b.toInt64 * b.toInt64).toInt32
theorem drw_n (x : Int64) {k : Nat} (h0 : 0 < k) (hk : k < 1000) : ∃ m, m < k ∧ drw x (nI k) = nI m := by
  have e : ((33 : Int32).toInt64.toUInt64 &&& Int64.toUInt64 63) = (33 : UInt64) := by decide
  have hn : (x.toUInt64 >>> (33 : UInt64)).toNat < 2 ^ 31 := by
    rw [UInt64.toNat_shiftRight, show ((33 : UInt64).toNat % 64) = 33 from by decide, Nat.shiftRight_eq_div_pow]
    have h := x.toUInt64.toNat_lt
    omega
  obtain ⟨n, hn2⟩ : ∃ n, (x.toUInt64 >>> (33 : UInt64)).toNat = n := ⟨_, rfl⟩
  have e2 : (x.toUInt64 >>> (33 : UInt64)).toInt64 = Int64.ofNat n := by
    rw [← hn2, ← UInt64.toInt64_ofNat', UInt64.ofNat_toNat]
  rw [hn2] at hn
  have e3 : (nI k).toInt64 = Int64.ofNat k := by
    apply Int64.toInt.inj
    rw [Int32.toInt_toInt64, nI_toInt (by omega), Int64.toInt_ofNat_of_lt (by omega)]
  have hd : n / k * k ≤ n := Nat.div_mul_le_self n k
  refine ⟨n - n / k * k, ?_, ?_⟩
  · have h1 := Nat.div_add_mod n k
    have h2 := Nat.mod_lt n h0
    rw [Nat.mul_comm] at h1
    omega
  · unfold drw
    rw [e, e2, e3, ← Int64.ofNat_div (by omega) (by omega), ← Int64.ofNat_mul, ← Int64.ofNat_sub _ _ hd, Int64.toInt32_ofNat']
    rfl
theorem drwV (x : Int64) : okV (drw x 19 - 9) := by
  obtain ⟨m, hm, e⟩ := drw_n x (k := 19) (by decide) (by decide)
  rw [show drw x 19 = nI m from e]
  apply okV_of
  have h : ∀ m, m < 19 → -999 ≤ (nI m - 9).toInt ∧ (nI m - 9).toInt ≤ 999 := by decide +kernel
  exact h m hm
theorem drwK (x : Int64) {v : Int32} (hv : okV v) : okE (drw x 100, v) := by
  obtain ⟨m, hm, e⟩ := drw_n x (k := 100) (by decide) (by decide)
  exact ⟨⟨m, by omega, e⟩, hv⟩
/-- put, where there is room -/
def ptT (w t : Nat) (k v : Int32) (s : Tz × Nat) : Tz × Nat := if ¬ valIn (ent s.1.1 s.1.2) k = -1000000 ∨ (ent s.1.1 s.1.2).length < 60 then putT w t s.2 k v s.1 else s
def drwS (w t : Nat) (sd : Int64) (s : Tz × Nat) : Tz × Nat := if 1 < drw (sti sd) 4 then (if drw (sti sd) 4 = 2 then ptT w t (drw (sti (sti sd)) 100) (addV (ent s.1.1 s.1.2) (drw (sti (sti sd)) 100) (drw (sti (sti (sti sd))) 19 - 9)) s else cutE w t (drw (sti (sti sd)) 100) (drw (sti (sti sd)) 100) (ent s.1.1 s.1.2) s) else ptT w t (drw (sti (sti sd)) 100) (drw (sti (sti (sti sd))) 19 - 9) s
def itE (g : Int64 → Int64) (F : Int64 → Tz × Nat → Tz × Nat) : Nat → Int64 → Tz × Nat → Tz × Nat
  | 0, _, s => s
  | n + 1, sd, s => itE g F n (g sd) (F sd s)
theorem itE_zero (g : Int64 → Int64) (F : Int64 → Tz × Nat → Tz × Nat) (sd : Int64) (s : Tz × Nat) : itE g F 0 sd s = s := rfl
theorem itE_succ (g : Int64 → Int64) (F : Int64 → Tz × Nat → Tz × Nat) (n : Nat) (sd : Int64) (s : Tz × Nat) : itE g F (n + 1) sd s = itE g F n (g sd) (F sd s) := rfl
def sti3 (sd : Int64) : Int64 := sti (sti (sti sd))
def drwE (w t : Nat) (n : Nat) (sd : Int64) (s : Tz × Nat) : Tz × Nat := itE sti3 (drwS w t) n sd s
/-- a builder's tree has changed, with c more nodes made than were new -/
def stc (c w tk t : Nat) (s r : Tz × Nat) : Prop := tok w r.2 tk r.1 ∧ s.2 ≤ r.2 ∧ r.2 + un t (ndl r.1.1 r.1.2) ≤ s.2 + un t (ndl s.1.1 s.1.2) + c ∧ ∀ y ∈ ndl r.1.1 r.1.2, y ∈ ndl s.1.1 s.1.2 ∨ y.2 = t
theorem stp.c {w tk t : Nat} {s r : Tz × Nat} (h : stp w tk t s r) (c : Nat) : stc c w tk t s r := ⟨h.1, h.2.1, Nat.le_trans h.2.2.1 (Nat.le_add_right _ _), h.2.2.2⟩
theorem stc.tr {c d w tk t : Nat} {s r q : Tz × Nat} (h : stc c w tk t s r) (k : stc d w tk t r q) : stc (c + d) w tk t s q := ⟨k.1, Nat.le_trans h.2.1 k.2.1, by have h1 := h.2.2.1; have h2 := k.2.2.1; omega, fun y hy => (k.2.2.2 y hy).elim (h.2.2.2 y) Or.inr⟩
theorem stc.le {c w tk t : Nat} {s r : Tz × Nat} (hw : 3 ≤ w) (h : stc c w tk t s r) (ht : tok w s.2 tk s.1) : r.2 ≤ s.2 + 61 + c := by
  have h2 := un_le t (ndl s.1.1 s.1.2)
  obtain ⟨-, -, h4⟩ := ht.h4 hw
  have h1 := h.2.2.1
  omega
theorem ptT_stc {w tk t : Nat} {k v : Int32} {s : Tz × Nat} (hw : 3 ≤ w) (h : tok w s.2 tk s.1) (ht : t < tk) (hk : okE (k, v)) : stc 6 w tk t s (ptT w t k v s) := by
  unfold ptT
  by_cases e : ¬ valIn (ent s.1.1 s.1.2) k = -1000000 ∨ (ent s.1.1 s.1.2).length < 60
  · rw [if_pos e]
    obtain ⟨a, b, c⟩ := tok_put hw h ht hk e
    have h1 := putT_un (w := w) (tk := t) (u := s.2) (key := k) (v := v) (z := s.1)
    have h2 := (h.h4 hw).1
    exact ⟨a, b, by omega, c⟩
  · rw [if_neg e]
    exact (stp.rf h).c 6
theorem drwS_stc {w tk t : Nat} {sd : Int64} {s : Tz × Nat} (hw : 3 ≤ w) (h : tok w s.2 tk s.1) (ht : t < tk) : stc 6 w tk t s (drwS w t sd s) := by
  unfold drwS
  by_cases e : 1 < drw (sti sd) 4
  · rw [if_pos e]
    by_cases e2 : drw (sti sd) 4 = 2
    · rw [if_pos e2]
      exact ptT_stc hw h ht (drwK _ (addV_ok (drwV _)))
    · rw [if_neg e2]
      exact (cutE_stp hw ht _ s h).c 6
  · rw [if_neg e]
    exact ptT_stc hw h ht (drwK _ (drwV _))
theorem drwE_succ (w t n : Nat) (sd : Int64) (s : Tz × Nat) : drwE w t (n + 1) sd s = drwE w t n (sti3 sd) (drwS w t sd s) := by
  unfold drwE
  rw [itE_succ]
theorem drwE_zero (w t : Nat) (sd : Int64) (s : Tz × Nat) : drwE w t 0 sd s = s := by
  unfold drwE
  rw [itE_zero]
theorem stc.n {c d w tk t : Nat} {s r : Tz × Nat} (h : stc c w tk t s r) (e : c = d) : stc d w tk t s r := by rw [← e]; exact h
theorem drwE_stc {w tk t : Nat} (hw : 3 ≤ w) (ht : t < tk) (n : Nat) : ∀ (sd : Int64) (s : Tz × Nat), tok w s.2 tk s.1 → stc (6 * n) w tk t s (drwE w t n sd s) := by
  induction n with
  | zero =>
    intro sd s h
    rw [drwE_zero]
    exact ((stp.rf h).c 0).n (by omega)
  | succ n ih =>
    intro sd s h
    rw [drwE_succ]
    have h1 : stc 6 w tk t s (drwS w t sd s) := drwS_stc hw h ht
    exact (h1.tr (ih _ _ h1.1)).n (by omega)
theorem m_sti {S : aw_S} {x : Int64} : aw_M yX10_stirred cX10_stirred 2 (some FieldType.long) 0 0 0 [.long x] S (fun r S2 => S2 = S ∧ r = some (.long (sti x))) := m_X10_stirred
set_option maxHeartbeats 4000000 in
set_option maxRecDepth 100000 in
theorem m_drw_4 {S : aw_S} {x : Int64} : aw_M yX10_drawn cX10_drawn 3 (some FieldType.int) 0 0 0 [.long x, .int 4] S (fun r S2 => S2 = S ∧ r = some (.int (drw x 4))) := by
  refine aw_enter (by decide +kernel) (Nat.le_of_ble_eq_true rfl) (fun g K E => ?_)
  refine a_iload_n K dX10_drawn_0 rfl ?_
  refine a_if_gt K dX10_drawn_1 (tgt := 8) (by decide) (fun c_1 => ?_) (fun c_1 => absurd c_1 (by decide))
  refine a_lload_n K dX10_drawn_8 rfl ?_
  refine a_bipush K dX10_drawn_9 (v := 33) (by decide) ?_
  refine a_lushr K dX10_drawn_11 ?_
  refine a_iload_n K dX10_drawn_12 rfl ?_
  refine a_i2l K dX10_drawn_13 ?_
  refine a_lrem K dX10_drawn_14 (by decide) ?_
  refine a_l2i K dX10_drawn_15 ?_
  exact a_iret K E rfl (by omega) (by omega) dX10_drawn_16 ⟨rfl, rfl⟩
set_option maxHeartbeats 4000000 in
set_option maxRecDepth 100000 in
theorem m_drw_100 {S : aw_S} {x : Int64} : aw_M yX10_drawn cX10_drawn 3 (some FieldType.int) 0 0 0 [.long x, .int 100] S (fun r S2 => S2 = S ∧ r = some (.int (drw x 100))) := by
  refine aw_enter (by decide +kernel) (Nat.le_of_ble_eq_true rfl) (fun g K E => ?_)
  refine a_iload_n K dX10_drawn_0 rfl ?_
  refine a_if_gt K dX10_drawn_1 (tgt := 8) (by decide) (fun c_1 => ?_) (fun c_1 => absurd c_1 (by decide))
  refine a_lload_n K dX10_drawn_8 rfl ?_
  refine a_bipush K dX10_drawn_9 (v := 33) (by decide) ?_
  refine a_lushr K dX10_drawn_11 ?_
  refine a_iload_n K dX10_drawn_12 rfl ?_
  refine a_i2l K dX10_drawn_13 ?_
  refine a_lrem K dX10_drawn_14 (by decide) ?_
  refine a_l2i K dX10_drawn_15 ?_
  exact a_iret K E rfl (by omega) (by omega) dX10_drawn_16 ⟨rfl, rfl⟩
set_option maxHeartbeats 4000000 in
set_option maxRecDepth 100000 in
theorem m_drw_19 {S : aw_S} {x : Int64} : aw_M yX10_drawn cX10_drawn 3 (some FieldType.int) 0 0 0 [.long x, .int 19] S (fun r S2 => S2 = S ∧ r = some (.int (drw x 19))) := by
  refine aw_enter (by decide +kernel) (Nat.le_of_ble_eq_true rfl) (fun g K E => ?_)
  refine a_iload_n K dX10_drawn_0 rfl ?_
  refine a_if_gt K dX10_drawn_1 (tgt := 8) (by decide) (fun c_1 => ?_) (fun c_1 => absurd c_1 (by decide))
  refine a_lload_n K dX10_drawn_8 rfl ?_
  refine a_bipush K dX10_drawn_9 (v := 33) (by decide) ?_
  refine a_lushr K dX10_drawn_11 ?_
  refine a_iload_n K dX10_drawn_12 rfl ?_
  refine a_i2l K dX10_drawn_13 ?_
  refine a_lrem K dX10_drawn_14 (by decide) ?_
  refine a_l2i K dX10_drawn_15 ?_
  exact a_iret K E rfl (by omega) (by omega) dX10_drawn_16 ⟨rfl, rfl⟩
set_option maxHeartbeats 4000000 in
set_option maxRecDepth 100000 in
theorem c_isPutP {S : aw_S} {v ad ar : Nat → Nat} {PA : List (Nat × Nat)} {X : List Nat} {mb : Nat} {P : PS} (h : RC S v ad ar PA X mb P) (hP : PI P) {j t : Nat} {z : Tz} {f : Int32} (hj : j < 4) (hb : pB P j = some (z, t, f)) {k v0 : Int32} (hk : okE (k, v0)) : aw_M yX10_isPut cX10_isPut 4 (some FieldType.boolean) 11 (2 * ((ptT (pW P) t k v0 (z, pU P)).2 - pU P)) (19 * ((ptT (pW P) t k v0 (z, pU P)).2 - pU P)) [.ref (v 4), .ref (v (14 + j)), .int k, .int v0] S (fun r S2 => ∃ b ad2 ar2, r = some (.int b) ∧ RC S2 v ad2 ar2 PA X mb (setT P j (ptT (pW P) t k v0 (z, pU P)) t f) ∧ keepX X S S2) := by
  by_cases hy : ¬ valIn (ent z.1 z.2) k = -1000000 ∨ (ent z.1 z.2).length < 60
  · have e : (ptT (pW P) t k v0 (z, pU P)) = putT (pW P) t (pU P) k v0 z := if_pos hy
    rw [e]
    exact (c_isPutX_y h hP hj hb hk hy).post (fun r S2 p => by obtain ⟨ad2, ar2, p⟩ := p; exact ⟨1, ad2, ar2, p⟩)
  · have e : (ptT (pW P) t k v0 (z, pU P)) = (z, pU P) := if_neg hy
    rw [e, setT_self hb]
    exact ((c_isPut_n h hP hj hb hy).post (fun r S2 p => by obtain ⟨rfl, rfl⟩ := p; exact ⟨0, ad, ar, rfl, h, h.X⟩)).le (Nat.le_refl _) (Nat.zero_le _) (Nat.zero_le _)
set_option maxHeartbeats 4000000 in
set_option maxRecDepth 100000 in
theorem c_isAddedP {S : aw_S} {v ad ar : Nat → Nat} {PA : List (Nat × Nat)} {X : List Nat} {mb : Nat} {P : PS} (h : RC S v ad ar PA X mb P) (hP : PI P) {j t : Nat} {z : Tz} {f : Int32} (hj : j < 4) (hb : pB P j = some (z, t, f)) {k v0 : Int32} (hk : okE (k, (addV (ent z.1 z.2) k v0))) : aw_M yX10_isAdded cX10_isAdded 6 (some FieldType.boolean) 11 (2 * ((ptT (pW P) t k (addV (ent z.1 z.2) k v0) (z, pU P)).2 - pU P)) (19 * ((ptT (pW P) t k (addV (ent z.1 z.2) k v0) (z, pU P)).2 - pU P)) [.ref (v 4), .ref (v (14 + j)), .int k, .int v0] S (fun r S2 => ∃ b ad2 ar2, r = some (.int b) ∧ RC S2 v ad2 ar2 PA X mb (setT P j (ptT (pW P) t k (addV (ent z.1 z.2) k v0) (z, pU P)) t f) ∧ keepX X S S2) := by
  by_cases hy : ¬ valIn (ent z.1 z.2) k = -1000000 ∨ (ent z.1 z.2).length < 60
  · have e : (ptT (pW P) t k (addV (ent z.1 z.2) k v0) (z, pU P)) = putT (pW P) t (pU P) k (addV (ent z.1 z.2) k v0) z := if_pos hy
    rw [e]
    exact (c_isAddedX_y h hP hj hb hk hy).post (fun r S2 p => by obtain ⟨ad2, ar2, p⟩ := p; exact ⟨1, ad2, ar2, p⟩)
  · have e : (ptT (pW P) t k (addV (ent z.1 z.2) k v0) (z, pU P)) = (z, pU P) := if_neg hy
    rw [e, setT_self hb]
    exact ((c_isAdded_n h hP hj hb hy).post (fun r S2 p => by obtain ⟨rfl, rfl⟩ := p; exact ⟨0, ad, ar, rfl, h, h.X⟩)).le (Nat.le_refl _) (Nat.zero_le _) (Nat.zero_le _)
def drwF (P : PS) (n : Int32) (sd : Int64) (j : Nat) (b : BI) : Int32 × PS := (nI ((drwE (pW P) b.2.1 n.toNatClampNeg sd (b.1, pU P)).2 - pU P), setT P j (drwE (pW P) b.2.1 n.toNatClampNeg sd (b.1, pU P)) b.2.1 b.2.2)
set_option maxHeartbeats 4000000 in
set_option maxRecDepth 100000 in
theorem c_draws_ok {S : aw_S} {v ad ar : Nat → Nat} {PA : List (Nat × Nat)} {X : List Nat} {mb : Nat} {P : PS} (h : RC S v ad ar PA X mb P) (hP : PI P) {j t : Nat} {z : Tz} {f : Int32} (hj : j < 4) (hb : pB P j = some (z, t, f)) {i : Int32} (hbv : atR (sQ S (v 13)) 4 i = some (v (14 + j))) {n : Int32} {w : Int64} (hx : 1 ≤ n.toInt ∧ n.toInt ≤ 30) : aw_M yX10_draws cX10_draws 14 (some FieldType.int) 12 500 4700 [.ref (v 4), .int i, .int n, .long w] S (mutQ X v PA mb S (drwF P n w j (z, t, f))) := by
  obtain ⟨ob, qr, qt, ht, htk, htl, hh⟩ := h.bk hP hj hb
  have hw3 := hP.1.1
  have hL := h.L
  obtain ⟨N, hN, rfl⟩ := nI_of (x := n) (by rw [i32_lt]; show ¬ n.toInt < 0; omega)
  rw [nI_toInt hN] at hx
  unfold drwF
  rw [nI_clamp hN]
  show aw_M _ _ _ _ _ _ _ _ _ (mutQ X v PA mb S (nI ((drwE (pW P) t N w (z, pU P)).2 - pU P), setT P j (drwE (pW P) t N w (z, pU P)) t f))
  have hs0 : stc (6 * N) (pW P) (pTk P) t (z, pU P) (drwE (pW P) t N w (z, pU P)) := drwE_stc hw3 htk N w (z, pU P) ht.2
  have hs1 := hs0.le hw3 ht.2
  obtain ⟨F, hF⟩ : ∃ F, setT P j (drwE (pW P) t N w (z, pU P)) t f = F := ⟨_, rfl⟩
  have hUF : (drwE (pW P) t N w (z, pU P)).2 = pU F := congrArg pU hF
  have hMF : pMd F - pMd P = nI (pU F - pU P) := by
    rw [← hF]
    show pMd P + nI _ - pMd P = _
    rw [add_sub_c]
    rfl
  have hUF2 : pU P ≤ pU F := by rw [← hUF]; exact hs0.2.1
  rw [hUF] at hs1
  have hs2 : pU F ≤ pU P + 61 + 6 * N := hs1
  obtain ⟨P0, hP0⟩ : ∃ P0, P0 = P := ⟨_, rfl⟩
  rw [hUF, hF]
  refine aw_enter (by decide +kernel) (Nat.le_of_ble_eq_true rfl) (fun g K EE => ?_)
  subst hP0
  have loop : ∀ (i jj : Nat) (x : Int32) (sd : Int64) (T : aw_S) (ad ar : Nat → Nat) (P : PS) (z : Tz) (k n : Nat), x = nI jj → jj + i = N → RC T v ad ar PA X mb P → PI P → pB P j = some (z, t, f) → keepX X S T → setT P j (drwE (pW P) t i sd (z, pU P)) t f = F → k + 2 * (pU F - pU P) ≤ 500 → n + 19 * (pU F - pU P) ≤ 4700 → aw g 14 T k n [(10, .int x), (8, .long sd), (7, .int (pMd P0)), (5, .ref (v (14 + j))), (2, .int (nI N)), (0, .ref (v 4))] [] 63 := by
    intro i
    induction i with
    | zero =>
      intro jj x sd T ad ar P z k n hxx hi h hP hb hX hF hk hn
      subst hxx
      obtain ⟨ob, qr, qt, ht, htk, htl, hh⟩ := h.bk hP hj hb
      have hw3 := hP.1.1
      have hL := h.L
      refine a_iload K dX10_draws_63 rfl ?_
      refine a_iload_n K dX10_draws_65 rfl ?_
      refine a_icmp_ge K dX10_draws_66 (tgt := 175) (by decide) (fun c_66 => ?_) (fun c_66 => absurd c_66 (fun z => z (by rw [show jj = N by omega]; exact Int32.le_refl _)))
      first | refine a_aload_n K dX10_draws_175 rfl ?_ | refine a_aload_nN K dX10_draws_175 rfl ?_
      refine a_getRs K fd_X10_39 (lw_i4 hL) (Or.inl ⟨_, rfl⟩) (lw_f645 hL) dX10_draws_176 ?_
      refine a_invV K (m_X1_made (lw_i5 hL)) my_X1_made ml_X10_324 im_X1_made se_X1_made (ci := 1) (lw_i5 hL) (by decide) ⟨_, _, rfl⟩ rfl (by omega) (by omega) (by omega) rfl (Nat.le_of_ble_eq_true rfl) dX10_draws_179 ?_
      intro r9 S9 hp9
      obtain ⟨rfl, hS9⟩ := hp9
      obtain rfl := hS9.symm
      rw [h.2.1.2.1]
      refine a_iload K dX10_draws_182 rfl ?_
      refine a_isub K dX10_draws_184 ?_
      exact a_iret K EE rfl (by omega) (by omega) dX10_draws_185 (by have e9 : P = F := (setT_self hb).symm.trans ((congrArg (fun q => setT P j q t f) (drwE_zero _ _ _ _).symm).trans hF); subst e9; exact ⟨ad, ar, congrArg (fun q => some (Value.int q)) hMF, h, hX⟩)
    | succ i ih =>
      intro jj x sd T ad ar P z k n hxx hi h hP hb hX hF hk hn
      subst hxx
      obtain ⟨ob, qr, qt, ht, htk, htl, hh⟩ := h.bk hP hj hb
      have hw3 := hP.1.1
      have hL := h.L
      refine a_iload K dX10_draws_63 rfl ?_
      refine a_iload_n K dX10_draws_65 rfl ?_
      have hjj : jj < N := by omega
      refine a_icmp_ge K dX10_draws_66 (tgt := 175) (by decide) (fun c_66 => absurd c_66 (nI_ge (show jj < N by omega) (by omega))) (fun c_66 => ?_)
      refine a_lload K dX10_draws_69 rfl ?_
      refine a_invS K (m_sti) my_X10_stirred ml_X10_368 st_X10_stirred rfl (by omega) (by omega) (by omega) rfl (Nat.le_of_ble_eq_true rfl) dX10_draws_71 ?_
      intro r9 S9 hp9
      obtain ⟨hS9, rfl⟩ := hp9
      obtain rfl := hS9.symm
      refine a_lstore K dX10_draws_74 (by decide) ?_
      refine a_lload K dX10_draws_76 rfl ?_
      refine a_iconst K dX10_draws_78 (v := 4) (by decide) ?_
      refine a_invS K (m_drw_4) my_X10_drawn ml_X10_372 st_X10_drawn rfl (by omega) (by omega) (by omega) rfl (Nat.le_of_ble_eq_true rfl) dX10_draws_79 ?_
      intro r9 S9 hp9
      obtain ⟨hS9, rfl⟩ := hp9
      obtain rfl := hS9.symm
      refine a_istore K dX10_draws_82 (by decide) ?_
      refine a_lload K dX10_draws_84 rfl ?_
      refine a_invS K (m_sti) my_X10_stirred ml_X10_368 st_X10_stirred rfl (by omega) (by omega) (by omega) rfl (Nat.le_of_ble_eq_true rfl) dX10_draws_86 ?_
      intro r9 S9 hp9
      obtain ⟨hS9, rfl⟩ := hp9
      obtain rfl := hS9.symm
      refine a_lstore K dX10_draws_89 (by decide) ?_
      refine a_lload K dX10_draws_91 rfl ?_
      refine a_bipush K dX10_draws_93 (v := 100) (by decide) ?_
      refine a_invS K (m_drw_100) my_X10_drawn ml_X10_372 st_X10_drawn rfl (by omega) (by omega) (by omega) rfl (Nat.le_of_ble_eq_true rfl) dX10_draws_95 ?_
      intro r9 S9 hp9
      obtain ⟨hS9, rfl⟩ := hp9
      obtain rfl := hS9.symm
      refine a_istore K dX10_draws_98 (by decide) ?_
      refine a_lload K dX10_draws_100 rfl ?_
      refine a_invS K (m_sti) my_X10_stirred ml_X10_368 st_X10_stirred rfl (by omega) (by omega) (by omega) rfl (Nat.le_of_ble_eq_true rfl) dX10_draws_102 ?_
      intro r9 S9 hp9
      obtain ⟨hS9, rfl⟩ := hp9
      obtain rfl := hS9.symm
      refine a_lstore K dX10_draws_105 (by decide) ?_
      refine a_lload K dX10_draws_107 rfl ?_
      refine a_bipush K dX10_draws_109 (v := 19) (by decide) ?_
      refine a_invS K (m_drw_19) my_X10_drawn ml_X10_372 st_X10_drawn rfl (by omega) (by omega) (by omega) rfl (Nat.le_of_ble_eq_true rfl) dX10_draws_111 ?_
      intro r9 S9 hp9
      obtain ⟨hS9, rfl⟩ := hp9
      obtain rfl := hS9.symm
      refine a_bipush K dX10_draws_114 (v := 9) (by decide) ?_
      refine a_isub K dX10_draws_116 ?_
      refine a_istore K dX10_draws_117 (by decide) ?_
      obtain ⟨R, hR9⟩ : ∃ R, (drwS (pW P) t sd (z, pU P)) = R := ⟨_, rfl⟩
      have st2 := drwS_stc (sd := sd) (s := (z, pU P)) hw3 ht.2 htk
      rw [hR9] at st2
      have st3 := drwE_stc hw3 htk i (sti3 sd) R st2.1
      rw [drwE_succ, hR9] at hF
      have hfu : (drwE (pW P) t i (sti3 sd) R).2 = pU F := congrArg pU hF
      have hu1 := st2.2.1
      have hu2 := st3.2.1
      rw [hfu] at hu2
      have hu1 : pU P ≤ R.2 := hu1
      refine a_iload K dX10_draws_119 rfl ?_
      refine a_iconst K dX10_draws_121 (v := 1) (by decide) ?_
      refine a_icmp_gt K dX10_draws_122 (tgt := 139) (by decide) (fun c_122 => ?_) (fun c_122 => ?_)
      · refine a_iload K dX10_draws_139 rfl ?_
        refine a_iconst K dX10_draws_141 (v := 2) (by decide) ?_
        refine a_icmp_ne K dX10_draws_142 (tgt := 159) (by decide) (fun c_142 => ?_) (fun c_142 => ?_)
        · have hstep : R = (cutE (pW P) t (drw (sti (sti sd)) 100) (drw (sti (sti sd)) 100) (ent z.1 z.2) (z, pU P)) := by rw [← hR9]; unfold drwS; rw [if_pos c_122, if_neg c_142]
          have hstep2 : R.2 = (cutE (pW P) t (drw (sti (sti sd)) 100) (drw (sti (sti sd)) 100) (ent z.1 z.2) (z, pU P)).2 := by rw [hstep]
          first | refine a_aload_n K dX10_draws_159 rfl ?_ | refine a_aload_nN K dX10_draws_159 rfl ?_
          first | refine a_aload K dX10_draws_160 rfl ?_ | refine a_aloadN K dX10_draws_160 rfl ?_
          refine a_iload K dX10_draws_162 rfl ?_
          refine a_iload K dX10_draws_164 rfl ?_
          refine a_invV K (c_cutRangeX h hP hj hb) my_X10_cutRange ml_X10_331 im_X10_cutRange se_X10_cutRange (ci := 10) (lw_i4 hL) (by decide) ⟨_, _, rfl⟩ rfl (by omega) (by omega) (by omega) rfl (Nat.le_of_ble_eq_true rfl) dX10_draws_166 ?_
          intro r9 S9 hp9
          obtain ⟨ad2, ar2, rfl, h5, k5⟩ := hp9
          rw [← hstep] at h5
          refine a_iinc K dX10_draws_169 (v := 1) rfl (by decide) (by decide) ?_
          refine a_goto K dX10_draws_172 (tgt := 63) (by decide) ?_
          exact aw_locl rfl (ih (jj + 1) _ (sti3 sd) S9 ad2 ar2 (setT P j R t f) R.1 _ _ (nI_1 jj) (by omega) h5 (hP.bset hb st2.1 st2.2.1 st2.2.2.2) setT_B (hX.tr k5) ((setT_setT (P := P) st2.2.1 st3.2.1).trans hF) (by show _ + 2 * (pU F - R.2) ≤ _; omega) (by show _ + 19 * (pU F - R.2) ≤ _; omega))
        · have hstep : R = (ptT (pW P) t (drw (sti (sti sd)) 100) (addV (ent z.1 z.2) (drw (sti (sti sd)) 100) (drw (sti (sti (sti sd))) 19 - 9)) (z, pU P)) := by rw [← hR9]; unfold drwS; rw [if_pos c_122, if_pos (by first | exact c_142 | exact Classical.not_not.mp c_142)]
          have hstep2 : R.2 = (ptT (pW P) t (drw (sti (sti sd)) 100) (addV (ent z.1 z.2) (drw (sti (sti sd)) 100) (drw (sti (sti (sti sd))) 19 - 9)) (z, pU P)).2 := by rw [hstep]
          first | refine a_aload_n K dX10_draws_145 rfl ?_ | refine a_aload_nN K dX10_draws_145 rfl ?_
          first | refine a_aload K dX10_draws_146 rfl ?_ | refine a_aloadN K dX10_draws_146 rfl ?_
          refine a_iload K dX10_draws_148 rfl ?_
          refine a_iload K dX10_draws_150 rfl ?_
          refine a_invV K (c_isAddedP h hP hj hb (drwK _ (addV_ok (drwV _)))) my_X10_isAdded ml_X10_335 im_X10_isAdded se_X10_isAdded (ci := 10) (lw_i4 hL) (by decide) ⟨_, _, rfl⟩ rfl (by omega) (by omega) (by omega) rfl (Nat.le_of_ble_eq_true rfl) dX10_draws_152 ?_
          intro r9 S9 hp9
          obtain ⟨b9, ad2, ar2, rfl, h5, k5⟩ := hp9
          rw [← hstep] at h5
          refine a_pop K dX10_draws_155 rfl ?_
          refine a_goto K dX10_draws_156 (tgt := 169) (by decide) ?_
          refine a_iinc K dX10_draws_169 (v := 1) rfl (by decide) (by decide) ?_
          refine a_goto K dX10_draws_172 (tgt := 63) (by decide) ?_
          exact aw_locl rfl (ih (jj + 1) _ (sti3 sd) S9 ad2 ar2 (setT P j R t f) R.1 _ _ (nI_1 jj) (by omega) h5 (hP.bset hb st2.1 st2.2.1 st2.2.2.2) setT_B (hX.tr k5) ((setT_setT (P := P) st2.2.1 st3.2.1).trans hF) (by show _ + 2 * (pU F - R.2) ≤ _; omega) (by show _ + 19 * (pU F - R.2) ≤ _; omega))
      · have hstep : R = (ptT (pW P) t (drw (sti (sti sd)) 100) (drw (sti (sti (sti sd))) 19 - 9) (z, pU P)) := by rw [← hR9]; unfold drwS; rw [if_neg c_122]
        have hstep2 : R.2 = (ptT (pW P) t (drw (sti (sti sd)) 100) (drw (sti (sti (sti sd))) 19 - 9) (z, pU P)).2 := by rw [hstep]
        first | refine a_aload_n K dX10_draws_125 rfl ?_ | refine a_aload_nN K dX10_draws_125 rfl ?_
        first | refine a_aload K dX10_draws_126 rfl ?_ | refine a_aloadN K dX10_draws_126 rfl ?_
        refine a_iload K dX10_draws_128 rfl ?_
        refine a_iload K dX10_draws_130 rfl ?_
        refine a_invV K (c_isPutP h hP hj hb (drwK _ (drwV _))) my_X10_isPut ml_X10_327 im_X10_isPut se_X10_isPut (ci := 10) (lw_i4 hL) (by decide) ⟨_, _, rfl⟩ rfl (by omega) (by omega) (by omega) rfl (Nat.le_of_ble_eq_true rfl) dX10_draws_132 ?_
        intro r9 S9 hp9
        obtain ⟨b9, ad2, ar2, rfl, h5, k5⟩ := hp9
        rw [← hstep] at h5
        refine a_pop K dX10_draws_135 rfl ?_
        refine a_goto K dX10_draws_136 (tgt := 169) (by decide) ?_
        refine a_iinc K dX10_draws_169 (v := 1) rfl (by decide) (by decide) ?_
        refine a_goto K dX10_draws_172 (tgt := 63) (by decide) ?_
        exact aw_locl rfl (ih (jj + 1) _ (sti3 sd) S9 ad2 ar2 (setT P j R t f) R.1 _ _ (nI_1 jj) (by omega) h5 (hP.bset hb st2.1 st2.2.1 st2.2.2.2) setT_B (hX.tr k5) ((setT_setT (P := P) st2.2.1 st3.2.1).trans hF) (by show _ + 2 * (pU F - R.2) ≤ _; omega) (by show _ + 19 * (pU F - R.2) ≤ _; omega))
  first | refine a_aload_n K dX10_draws_0 rfl ?_ | refine a_aload_nN K dX10_draws_0 rfl ?_
  refine a_iload_n K dX10_draws_1 rfl ?_
  refine a_invV K (w_builderAt hL _) my_X10_builderAt ml_X10_313 im_X10_builderAt se_X10_builderAt (ci := 10) (lw_i4 hL) (by decide) ⟨_, _, rfl⟩ rfl (by omega) (by omega) (by omega) rfl (Nat.le_of_ble_eq_true rfl) dX10_draws_2 ?_
  intro r9 S9 hp9
  obtain ⟨hS9, rfl⟩ := hp9
  obtain rfl := hS9.symm
  rw [hbv]
  first | refine a_astore K dX10_draws_5 (by decide) ?_ | refine a_astoreN K dX10_draws_5 (by decide) ?_
  first | refine a_aload K dX10_draws_7 rfl ?_ | refine a_aloadN K dX10_draws_7 rfl ?_
  refine a_iload_n K dX10_draws_9 rfl ?_
  refine a_iconst K dX10_draws_10 (v := 1) (by decide) ?_
  refine a_icmp_lt K dX10_draws_11 (tgt := 24) (by decide) (fun c_11 => absurd c_11 (by rw [i32_lt, nI_toInt hN]; show ¬ (N : Int) < 1; omega)) (fun c_11 => ?_)
  refine a_iload_n K dX10_draws_14 rfl ?_
  refine a_bipush K dX10_draws_15 (v := 30) (by decide) ?_
  refine a_icmp_gt K dX10_draws_17 (tgt := 24) (by decide) (fun c_17 => absurd c_17 (fun z => by have h9 := i32_lt.mp z; rw [nI_toInt hN] at h9; have h8 : (30 : Int32).toInt = 30 := (by decide); omega)) (fun c_17 => ?_)
  refine a_iconst K dX10_draws_20 (v := 1) (by decide) ?_
  refine a_goto K dX10_draws_21 (tgt := 25) (by decide) ?_
  refine a_invS K (m_X10_objection_ok ob qr) my_X10_objection ml_X10_320 st_X10_objection rfl (by omega) (by omega) (by omega) rfl (Nat.le_of_ble_eq_true rfl) dX10_draws_25 ?_
  intro r9 S9 hp9
  obtain ⟨hS9, rfl⟩ := hp9
  obtain rfl := hS9.symm
  refine a_istore K dX10_draws_28 (by decide) ?_
  first | refine a_aload K dX10_draws_30 rfl ?_ | refine a_aloadN K dX10_draws_30 rfl ?_
  refine a_ifnull K dX10_draws_32 ?_
  refine a_iload K dX10_draws_35 rfl ?_
  refine a_iconst K dX10_draws_37 (v := -1) (by decide) ?_
  refine a_icmp_eq K dX10_draws_38 (tgt := 48) (by decide) (fun c_38 => ?_) (fun c_38 => absurd c_38 (by decide))
  first | refine a_aload_n K dX10_draws_48 rfl ?_ | refine a_aload_nN K dX10_draws_48 rfl ?_
  refine a_getRs K fd_X10_39 (lw_i4 hL) (Or.inl ⟨_, rfl⟩) (lw_f645 hL) dX10_draws_49 ?_
  refine a_invV K (m_X1_made (lw_i5 hL)) my_X1_made ml_X10_324 im_X1_made se_X1_made (ci := 1) (lw_i5 hL) (by decide) ⟨_, _, rfl⟩ rfl (by omega) (by omega) (by omega) rfl (Nat.le_of_ble_eq_true rfl) dX10_draws_52 ?_
  intro r9 S9 hp9
  obtain ⟨rfl, hS9⟩ := hp9
  obtain rfl := hS9.symm
  rw [h.2.1.2.1]
  refine a_istore K dX10_draws_55 (by decide) ?_
  refine a_lload_n K dX10_draws_57 rfl ?_
  refine a_lstore K dX10_draws_58 (by decide) ?_
  refine a_iconst K dX10_draws_60 (v := 0) (by decide) ?_
  refine a_istore K dX10_draws_61 (by decide) ?_
  exact aw_locl rfl (loop N 0 0 w S ad ar P0 z 0 0 nI_0.symm (by omega) h hP hb h.X hF (by omega) (by omega))
set_option maxHeartbeats 4000000 in
set_option maxRecDepth 100000 in
theorem c_draws {S : aw_S} {v ad ar : Nat → Nat} {PA : List (Nat × Nat)} {X : List Nat} {mb : Nat} {P : PS} (h : RC S v ad ar PA X mb P) (hP : PI P) {i n : Int32} {w : Int64} : aw_M yX10_draws cX10_draws 14 (some FieldType.int) 12 500 4700 [.ref (v 4), .int i, .int n, .long w] S (mutQ X v PA mb S (bld P i (1 ≤ n.toInt ∧ n.toInt ≤ 30) (drwF P n w))) := by
  exact bldM h (by decide) (fun e => m_X10_draws_null h.L e) (fun b e n => m_X10_draws_bad h.L e n) (fun b e q r x => m_X10_draws_stale h.L e q r x) (fun j t z q hj e hb x => c_draws_ok h hP hj hb e x)
