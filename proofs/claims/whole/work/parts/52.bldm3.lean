/-! builders' calls -/
theorem RC.refd {S : aw_S} {v ad ar : Nat → Nat} {PA : List (Nat × Nat)} {X : List Nat} {mb : Nat} {P : PS} (h : RC S v ad ar PA X mb P) (k : Nat) (hk : k < 5) : RC (wA S (v 18) k (sA S (v 18) k + 1)) v ad ar PA X mb (refP P k) ∧ keepX X S (wA S (v 18) k (sA S (v 18) k + 1)) := by
  have hL := h.L
  have f : frS S (wA S (v 18) k (sA S (v 18) k + 1)) (Qk v [18]) := frS_wA.mono (fun b z => ⟨18, by decide, z⟩)
  have no : ∀ j, j < 37 → j ≠ 18 → ¬ Qk v [18] (v j) := fun j hj h5 => Qk_no hL (by decide) hj (by simp; exact h5)
  obtain ⟨a, b⟩ := RC.gen (P2 := refP P k) h f (Qk37 (by decide)) (no 13 (by decide) (by decide)) (no 3 (by decide) (by decide)) rfl rfl rfl rfl (GrW.fr h.2.1 f (no 5 (by decide) (by decide)) rfl rfl rfl) (MaW.fr h.2.2.1 f (fun j h1 hj => no j (by omega) (by omega)) rfl rfl rfl rfl) (BuW.fr h.2.2.2.1 f (fun j hj => no _ (by omega) (by omega)) rfl) (fun i hi => by
      show sA (wA S (v 18) k _) (v 18) i = if i = k then pR P i + 1 else pR P i
      rw [sA_wA, h.2.2.2.2.1 k hk]
      by_cases e : i = k
      · rw [if_pos ⟨rfl, e⟩, if_pos e, e]
      · rw [if_neg (fun z => e z.2), if_neg e]
        exact h.2.2.2.2.1 i hi) (TaW.fr h.2.2.2.2.2.2.1 f (no 0 (by decide) (by decide)) (no 1 (by decide) (by decide)) rfl) (h.2.2.2.2.2.2.2.1.fr f.fr (no 19 (by decide) (by decide)) (no 20 (by decide) (by decide))) h.2.2.2.2.2.2.2.2.1.2.1 h.2.2.2.2.2.2.2.2.1.2.2
  exact ⟨a, b⟩
def bAt (i : Int32) : Option Nat := if 0 ≤ i.toInt ∧ i.toInt < ((4 : Nat) : Int) then some i.toNatClampNeg else none
theorem bAt_at {S : aw_S} {v : Nat → Nat} (hL : LW S v) (i : Int32) : atR (sQ S (v 13)) 4 i = (bAt i).map (fun j => v (14 + j)) ∧ ∀ j, bAt i = some j → j < 4 := by
  unfold atR bAt
  by_cases e : 0 ≤ i.toInt ∧ i.toInt < ((4 : Nat) : Int)
  · rw [if_pos e, if_pos e]
    obtain ⟨k, hk, rfl⟩ := nI_of (x := i) (by rw [i32_lt]; show ¬ i.toInt < 0; omega)
    rw [nI_toInt hk] at e
    rw [nI_clamp hk]
    have h4 : k < 4 := by omega
    refine ⟨?_, fun j hj => by cases hj; exact h4⟩
    have hc : k = 0 ∨ k = 1 ∨ k = 2 ∨ k = 3 := by omega
    rcases hc with rfl | rfl | rfl | rfl
    · exact lw_q0 hL
    · exact lw_q1 hL
    · exact lw_q2 hL
    · exact lw_q3 hL
  · rw [if_neg e, if_neg e]
    exact ⟨rfl, fun j hj => absurd hj (by simp)⟩
/-- a call of a builder: what it is without one, with bad numbers, with one that isn't open, with one that is -/
def bld (P : PS) (i : Int32) (ok : Prop) [Decidable ok] (f : Nat → BI → Int32 × PS) : Int32 × PS := match bAt i with
  | none => (-1, refP P 0)
  | some j => if ok then (match pB P j with
    | none => (-1, refP P 2)
    | some b => f j b) else (-1, refP P 1)
def mutQ (X : List Nat) (v : Nat → Nat) (PA : List (Nat × Nat)) (mb : Nat) (S : aw_S) (q : Int32 × PS) (r : Option Value) (S2 : aw_S) : Prop := ∃ ad2 ar2, r = some (.int q.1) ∧ RC S2 v ad2 ar2 PA X mb q.2 ∧ keepX X S S2
def PRq (v : Nat → Nat) (S : aw_S) (k : Nat) (r : Option Value) (S2 : aw_S) : Prop := r = some (.int (-1)) ∧ S2 = wA S (v 18) k (sA S (v 18) k + 1)
theorem PRq.mut {S S2 : aw_S} {v ad ar : Nat → Nat} {PA : List (Nat × Nat)} {X : List Nat} {mb : Nat} {P : PS} (h : RC S v ad ar PA X mb P) {k : Nat} (hk : k < 5) {r : Option Value} (p : PRq v S k r S2) : mutQ X v PA mb S (-1, refP P k) r S2 := by
  obtain ⟨h1, rfl⟩ := p
  obtain ⟨a, b⟩ := h.refd k hk
  exact ⟨ad, ar, h1, a, b⟩
theorem bldM {y : MethodName} {cc : ByteArray} {mL : Nat} {ret : Option FieldType} {av : List Value} {S : aw_S} {v ad ar : Nat → Nat} {PA : List (Nat × Nat)} {X : List Nat} {mb d mc ms : Nat} {P : PS} (h : RC S v ad ar PA X mb P) {i : Int32} {ok : Prop} [Decidable ok] {f : Nat → BI → Int32 × PS} (hd : 2 ≤ d)
    (m0 : atR (sQ S (v 13)) 4 i = none → aw_M y cc mL ret 2 0 0 av S (PRq v S 0))
    (m1 : ∀ b, atR (sQ S (v 13)) 4 i = some b → ¬ ok → aw_M y cc mL ret 2 0 0 av S (PRq v S 1))
    (m2 : ∀ b, atR (sQ S (v 13)) 4 i = some b → aw_is S b 0 → sR S 0 b = none → ok → aw_M y cc mL ret 2 0 0 av S (PRq v S 2))
    (m3 : ∀ j t z q, j < 4 → atR (sQ S (v 13)) 4 i = some (v (14 + j)) → pB P j = some (z, t, q) → ok → aw_M y cc mL ret d mc ms av S (mutQ X v PA mb S (f j (z, t, q)))) : aw_M y cc mL ret d mc ms av S (mutQ X v PA mb S (bld P i ok f)) := by
  obtain ⟨e, hj⟩ := bAt_at h.L i
  unfold bld
  cases hb : bAt i with
  | none =>
    rw [hb] at e
    exact ((m0 e).post (fun r S2 p => p.mut h (by decide))).le hd (Nat.zero_le _) (Nat.zero_le _)
  | some j =>
    rw [hb] at e
    have e : atR (sQ S (v 13)) 4 i = some (v (14 + j)) := e
    have hj := hj j hb
    show aw_M y cc mL ret d mc ms av S (mutQ X v PA mb S (if ok then _ else _))
    by_cases ho : ok
    · rw [if_pos ho]
      cases hp : pB P j with
      | none => exact ((m2 _ e (lw_b h.L hj) ((h.2.2.2.1 j hj).1 hp) ho).post (fun r S2 p => p.mut h (by decide))).le hd (Nat.zero_le _) (Nat.zero_le _)
      | some b =>
        obtain ⟨z, t, q⟩ := b
        exact m3 j t z q hj e hp ho
    · rw [if_neg ho]
      exact ((m1 _ e ho).post (fun r S2 p => p.mut h (by decide))).le hd (Nat.zero_le _) (Nat.zero_le _)
theorem add_sub_c (a b : Int32) : a + b - a = b := by rw [Int32.add_comm, Int32.add_sub_cancel]
def layF (P : PS) (k w : Int32) (j : Nat) (b : BI) : Int32 × PS := if ¬ valIn (ent b.1.1 b.1.2) k = -1000000 ∨ (ent b.1.1 b.1.2).length < 60 then (nI ((putT (pW P) b.2.1 (pU P) k w b.1).2 - pU P), setT P j (putT (pW P) b.2.1 (pU P) k w b.1) b.2.1 b.2.2) else (-1, refP P 3)
def addF (P : PS) (k w : Int32) (j : Nat) (b : BI) : Int32 × PS := layF P k (addV (ent b.1.1 b.1.2) k w) j b
def cutF (P : PS) (a c : Int32) (j : Nat) (b : BI) : Int32 × PS := (nI ((cutE (pW P) b.2.1 a c (ent b.1.1 b.1.2) (b.1, pU P)).2 - pU P), setT P j (cutE (pW P) b.2.1 a c (ent b.1.1 b.1.2) (b.1, pU P)) b.2.1 b.2.2)
def incF (P : PS) (a c w : Int32) (j : Nat) (b : BI) : Int32 × PS := (nI ((raiE (pW P) b.2.1 a c w (ent b.1.1 b.1.2) (b.1, pU P)).2 - pU P), setT P j (raiE (pW P) b.2.1 a c w (ent b.1.1 b.1.2) (b.1, pU P)) b.2.1 b.2.2)
abbrev keyR (k : Int32) : Prop := 0 ≤ k.toInt ∧ k.toInt < 1000
abbrev rngR (a b : Int32) : Prop := (0 ≤ a.toInt ∧ a.toInt < 1000) ∧ (0 ≤ b.toInt ∧ b.toInt < 1000) ∧ a.toInt ≤ b.toInt
abbrev valR (w : Int32) : Prop := -999 ≤ w.toInt ∧ w.toInt ≤ 999
set_option maxHeartbeats 4000000 in
set_option maxRecDepth 100000 in
theorem c_lay_ok {S : aw_S} {v ad ar : Nat → Nat} {PA : List (Nat × Nat)} {X : List Nat} {mb : Nat} {P : PS} (h : RC S v ad ar PA X mb P) (hP : PI P) {j t : Nat} {z : Tz} {f : Int32} (hj : j < 4) (hb : pB P j = some (z, t, f)) {i : Int32} (hbv : atR (sQ S (v 13)) 4 i = some (v (14 + j))) {k w : Int32} (hx : keyR k ∧ valR w) : aw_M yX10_lay cX10_lay 7 (some FieldType.int) 12 140 1300 [.ref (v 4), .int i, .int k, .int w] S (mutQ X v PA mb S (layF P k w j (z, t, f))) := by
  have hL := h.L
  obtain ⟨ob, qr, qt, ht, htk, htl, hh⟩ := h.bk hP hj hb
  by_cases hy : ¬ valIn (ent z.1 z.2) k = -1000000 ∨ (ent z.1 z.2).length < 60
  · refine aw_enter (by decide +kernel) (Nat.le_of_ble_eq_true rfl) (fun g K EE => ?_)
    first | refine a_aload_n K dX10_lay_0 rfl ?_ | refine a_aload_nN K dX10_lay_0 rfl ?_
    refine a_iload_n K dX10_lay_1 rfl ?_
    refine a_invV K (w_builderAt hL _) my_X10_builderAt ml_X10_313 im_X10_builderAt se_X10_builderAt (ci := 10) (lw_i4 hL) (by decide) ⟨_, _, rfl⟩ rfl (by omega) (by omega) (by omega) rfl (Nat.le_of_ble_eq_true rfl) dX10_lay_2 ?_
    intro r9 S9 hp9
    obtain ⟨hS9, rfl⟩ := hp9
    obtain rfl := hS9.symm
    rw [hbv]
    first | refine a_astore K dX10_lay_5 (by decide) ?_ | refine a_astoreN K dX10_lay_5 (by decide) ?_
    first | refine a_aload K dX10_lay_7 rfl ?_ | refine a_aloadN K dX10_lay_7 rfl ?_
    refine a_iload_n K dX10_lay_9 rfl ?_
    refine a_invS K (m_X10_isKey) my_X10_isKey ml_X10_235 st_X10_isKey rfl (by omega) (by omega) (by omega) rfl (Nat.le_of_ble_eq_true rfl) dX10_lay_10 ?_
    intro r9 S9 hp9
    obtain ⟨hS9, hb9⟩ := hp9
    obtain rfl := hS9.symm
    obtain rfl : r9 = some (.int 1) := hb9.elim (fun y => y.2) (fun y => absurd hx.1 y.1)
    refine a_if_eq K dX10_lay_13 (tgt := 27) (by decide) (fun c_13 => absurd c_13 (by decide)) (fun c_13 => ?_)
    refine a_iload_n K dX10_lay_16 rfl ?_
    refine a_invS K (m_X10_isValue) my_X10_isValue ml_X10_238 st_X10_isValue rfl (by omega) (by omega) (by omega) rfl (Nat.le_of_ble_eq_true rfl) dX10_lay_17 ?_
    intro r9 S9 hp9
    obtain ⟨hS9, hb9⟩ := hp9
    obtain rfl := hS9.symm
    obtain rfl : r9 = some (.int 1) := hb9.elim (fun y => y.2) (fun y => absurd hx.2 y.1)
    refine a_if_eq K dX10_lay_20 (tgt := 27) (by decide) (fun c_20 => absurd c_20 (by decide)) (fun c_20 => ?_)
    refine a_iconst K dX10_lay_23 (v := 1) (by decide) ?_
    refine a_goto K dX10_lay_24 (tgt := 28) (by decide) ?_
    refine a_invS K (m_X10_objection_ok ob qr) my_X10_objection ml_X10_320 st_X10_objection rfl (by omega) (by omega) (by omega) rfl (Nat.le_of_ble_eq_true rfl) dX10_lay_28 ?_
    intro r9 S9 hp9
    obtain ⟨hS9, rfl⟩ := hp9
    obtain rfl := hS9.symm
    refine a_istore K dX10_lay_31 (by decide) ?_
    first | refine a_aload K dX10_lay_33 rfl ?_ | refine a_aloadN K dX10_lay_33 rfl ?_
    refine a_ifnull K dX10_lay_35 ?_
    refine a_iload K dX10_lay_38 rfl ?_
    refine a_iconst K dX10_lay_40 (v := -1) (by decide) ?_
    refine a_icmp_eq K dX10_lay_41 (tgt := 51) (by decide) (fun c_41 => ?_) (fun c_41 => absurd c_41 (by decide))
    first | refine a_aload_n K dX10_lay_51 rfl ?_ | refine a_aload_nN K dX10_lay_51 rfl ?_
    refine a_getRs K fd_X10_39 (lw_i4 hL) (Or.inl ⟨_, rfl⟩) (lw_f645 hL) dX10_lay_52 ?_
    refine a_invV K (m_X1_made (lw_i5 hL)) my_X1_made ml_X10_324 im_X1_made se_X1_made (ci := 1) (lw_i5 hL) (by decide) ⟨_, _, rfl⟩ rfl (by omega) (by omega) (by omega) rfl (Nat.le_of_ble_eq_true rfl) dX10_lay_55 ?_
    intro r9 S9 hp9
    obtain ⟨rfl, hS9⟩ := hp9
    obtain rfl := hS9.symm
    rw [h.2.1.2.1]
    refine a_istore K dX10_lay_58 (by decide) ?_
    first | refine a_aload_n K dX10_lay_60 rfl ?_ | refine a_aload_nN K dX10_lay_60 rfl ?_
    first | refine a_aload K dX10_lay_61 rfl ?_ | refine a_aloadN K dX10_lay_61 rfl ?_
    refine a_iload_n K dX10_lay_63 rfl ?_
    refine a_iload_n K dX10_lay_64 rfl ?_
    refine a_invV K (c_isPut_y h hP hj hb (okE_of hx.1 (okV_of hx.2)) hy) my_X10_isPut ml_X10_327 im_X10_isPut se_X10_isPut (ci := 10) (lw_i4 hL) (by decide) ⟨_, _, rfl⟩ rfl (by omega) (by omega) (by omega) rfl (Nat.le_of_ble_eq_true rfl) dX10_lay_65 ?_
    intro r9 S9 hp9
    obtain ⟨ad2, ar2, rfl, h2, k2⟩ := hp9
    have hL := h2.L
    refine a_if_eq K dX10_lay_68 (tgt := 84) (by decide) (fun c_68 => absurd c_68 (by decide)) (fun c_68 => ?_)
    first | refine a_aload_n K dX10_lay_71 rfl ?_ | refine a_aload_nN K dX10_lay_71 rfl ?_
    refine a_getRs K fd_X10_39 (lw_i4 hL) (Or.inl ⟨_, rfl⟩) (lw_f645 hL) dX10_lay_72 ?_
    refine a_invV K (m_X1_made (lw_i5 hL)) my_X1_made ml_X10_324 im_X1_made se_X1_made (ci := 1) (lw_i5 hL) (by decide) ⟨_, _, rfl⟩ rfl (by omega) (by omega) (by omega) rfl (Nat.le_of_ble_eq_true rfl) dX10_lay_75 ?_
    intro r9 S9 hp9
    obtain ⟨rfl, hS9⟩ := hp9
    obtain rfl := hS9.symm
    rw [h2.2.1.2.1]
    refine a_iload K dX10_lay_78 rfl ?_
    refine a_isub K dX10_lay_80 ?_
    refine a_goto K dX10_lay_81 (tgt := 89) (by decide) ?_
    exact a_iret K EE rfl (by omega) (by omega) dX10_lay_89 (by unfold layF; rw [if_pos hy]; exact ⟨ad2, ar2, (by show some (Value.int (pMd P + nI _ - pMd P)) = _; rw [add_sub_c]; try rfl), h2, k2⟩)
  · refine aw_enter (by decide +kernel) (Nat.le_of_ble_eq_true rfl) (fun g K EE => ?_)
    first | refine a_aload_n K dX10_lay_0 rfl ?_ | refine a_aload_nN K dX10_lay_0 rfl ?_
    refine a_iload_n K dX10_lay_1 rfl ?_
    refine a_invV K (w_builderAt hL _) my_X10_builderAt ml_X10_313 im_X10_builderAt se_X10_builderAt (ci := 10) (lw_i4 hL) (by decide) ⟨_, _, rfl⟩ rfl (by omega) (by omega) (by omega) rfl (Nat.le_of_ble_eq_true rfl) dX10_lay_2 ?_
    intro r9 S9 hp9
    obtain ⟨hS9, rfl⟩ := hp9
    obtain rfl := hS9.symm
    rw [hbv]
    first | refine a_astore K dX10_lay_5 (by decide) ?_ | refine a_astoreN K dX10_lay_5 (by decide) ?_
    first | refine a_aload K dX10_lay_7 rfl ?_ | refine a_aloadN K dX10_lay_7 rfl ?_
    refine a_iload_n K dX10_lay_9 rfl ?_
    refine a_invS K (m_X10_isKey) my_X10_isKey ml_X10_235 st_X10_isKey rfl (by omega) (by omega) (by omega) rfl (Nat.le_of_ble_eq_true rfl) dX10_lay_10 ?_
    intro r9 S9 hp9
    obtain ⟨hS9, hb9⟩ := hp9
    obtain rfl := hS9.symm
    obtain rfl : r9 = some (.int 1) := hb9.elim (fun y => y.2) (fun y => absurd hx.1 y.1)
    refine a_if_eq K dX10_lay_13 (tgt := 27) (by decide) (fun c_13 => absurd c_13 (by decide)) (fun c_13 => ?_)
    refine a_iload_n K dX10_lay_16 rfl ?_
    refine a_invS K (m_X10_isValue) my_X10_isValue ml_X10_238 st_X10_isValue rfl (by omega) (by omega) (by omega) rfl (Nat.le_of_ble_eq_true rfl) dX10_lay_17 ?_
    intro r9 S9 hp9
    obtain ⟨hS9, hb9⟩ := hp9
    obtain rfl := hS9.symm
    obtain rfl : r9 = some (.int 1) := hb9.elim (fun y => y.2) (fun y => absurd hx.2 y.1)
    refine a_if_eq K dX10_lay_20 (tgt := 27) (by decide) (fun c_20 => absurd c_20 (by decide)) (fun c_20 => ?_)
    refine a_iconst K dX10_lay_23 (v := 1) (by decide) ?_
    refine a_goto K dX10_lay_24 (tgt := 28) (by decide) ?_
    refine a_invS K (m_X10_objection_ok ob qr) my_X10_objection ml_X10_320 st_X10_objection rfl (by omega) (by omega) (by omega) rfl (Nat.le_of_ble_eq_true rfl) dX10_lay_28 ?_
    intro r9 S9 hp9
    obtain ⟨hS9, rfl⟩ := hp9
    obtain rfl := hS9.symm
    refine a_istore K dX10_lay_31 (by decide) ?_
    first | refine a_aload K dX10_lay_33 rfl ?_ | refine a_aloadN K dX10_lay_33 rfl ?_
    refine a_ifnull K dX10_lay_35 ?_
    refine a_iload K dX10_lay_38 rfl ?_
    refine a_iconst K dX10_lay_40 (v := -1) (by decide) ?_
    refine a_icmp_eq K dX10_lay_41 (tgt := 51) (by decide) (fun c_41 => ?_) (fun c_41 => absurd c_41 (by decide))
    first | refine a_aload_n K dX10_lay_51 rfl ?_ | refine a_aload_nN K dX10_lay_51 rfl ?_
    refine a_getRs K fd_X10_39 (lw_i4 hL) (Or.inl ⟨_, rfl⟩) (lw_f645 hL) dX10_lay_52 ?_
    refine a_invV K (m_X1_made (lw_i5 hL)) my_X1_made ml_X10_324 im_X1_made se_X1_made (ci := 1) (lw_i5 hL) (by decide) ⟨_, _, rfl⟩ rfl (by omega) (by omega) (by omega) rfl (Nat.le_of_ble_eq_true rfl) dX10_lay_55 ?_
    intro r9 S9 hp9
    obtain ⟨rfl, hS9⟩ := hp9
    obtain rfl := hS9.symm
    rw [h.2.1.2.1]
    refine a_istore K dX10_lay_58 (by decide) ?_
    first | refine a_aload_n K dX10_lay_60 rfl ?_ | refine a_aload_nN K dX10_lay_60 rfl ?_
    first | refine a_aload K dX10_lay_61 rfl ?_ | refine a_aloadN K dX10_lay_61 rfl ?_
    refine a_iload_n K dX10_lay_63 rfl ?_
    refine a_iload_n K dX10_lay_64 rfl ?_
    refine a_invV K (c_isPut_n h hP hj hb hy) my_X10_isPut ml_X10_327 im_X10_isPut se_X10_isPut (ci := 10) (lw_i4 hL) (by decide) ⟨_, _, rfl⟩ rfl (by omega) (by omega) (by omega) rfl (Nat.le_of_ble_eq_true rfl) dX10_lay_65 ?_
    intro r9 S9 hp9
    obtain ⟨rfl, hS9⟩ := hp9
    obtain rfl := hS9.symm
    refine a_if_eq K dX10_lay_68 (tgt := 84) (by decide) (fun c_68 => ?_) (fun c_68 => absurd c_68 (by decide))
    first | refine a_aload_n K dX10_lay_84 rfl ?_ | refine a_aload_nN K dX10_lay_84 rfl ?_
    refine a_iconst K dX10_lay_85 (v := 3) (by decide) ?_
    refine a_invV K (c_refused h 3 (by decide)) my_X10_refused ml_X10_128 im_X10_refused se_X10_refused (ci := 10) (lw_i4 hL) (by decide) ⟨_, _, rfl⟩ rfl (by omega) (by omega) (by omega) rfl (Nat.le_of_ble_eq_true rfl) dX10_lay_86 ?_
    intro r9 S9 hp9
    obtain ⟨rfl, h2, k2⟩ := hp9
    exact a_iret K EE rfl (by omega) (by omega) dX10_lay_89 (by unfold layF; rw [if_neg hy]; exact ⟨ad, ar, rfl, h2, k2⟩)
set_option maxHeartbeats 4000000 in
set_option maxRecDepth 100000 in
theorem c_lay {S : aw_S} {v ad ar : Nat → Nat} {PA : List (Nat × Nat)} {X : List Nat} {mb : Nat} {P : PS} (h : RC S v ad ar PA X mb P) (hP : PI P) {i k w : Int32} : aw_M yX10_lay cX10_lay 7 (some FieldType.int) 12 140 1300 [.ref (v 4), .int i, .int k, .int w] S (mutQ X v PA mb S (bld P i (keyR k ∧ valR w) (layF P k w))) := by
  exact bldM h (by decide) (fun e => m_X10_lay_null h.L e) (fun b e n => m_X10_lay_bad h.L e n) (fun b e q r x => m_X10_lay_stale h.L e q r x) (fun j t z q hj e hb x => c_lay_ok h hP hj hb e x)
set_option maxHeartbeats 4000000 in
set_option maxRecDepth 100000 in
theorem c_add_ok {S : aw_S} {v ad ar : Nat → Nat} {PA : List (Nat × Nat)} {X : List Nat} {mb : Nat} {P : PS} (h : RC S v ad ar PA X mb P) (hP : PI P) {j t : Nat} {z : Tz} {f : Int32} (hj : j < 4) (hb : pB P j = some (z, t, f)) {i : Int32} (hbv : atR (sQ S (v 13)) 4 i = some (v (14 + j))) {k w : Int32} (hx : keyR k ∧ valR w) : aw_M yX10_add cX10_add 7 (some FieldType.int) 12 140 1300 [.ref (v 4), .int i, .int k, .int w] S (mutQ X v PA mb S (addF P k w j (z, t, f))) := by
  have hL := h.L
  obtain ⟨ob, qr, qt, ht, htk, htl, hh⟩ := h.bk hP hj hb
  by_cases hy : ¬ valIn (ent z.1 z.2) k = -1000000 ∨ (ent z.1 z.2).length < 60
  · refine aw_enter (by decide +kernel) (Nat.le_of_ble_eq_true rfl) (fun g K EE => ?_)
    first | refine a_aload_n K dX10_add_0 rfl ?_ | refine a_aload_nN K dX10_add_0 rfl ?_
    refine a_iload_n K dX10_add_1 rfl ?_
    refine a_invV K (w_builderAt hL _) my_X10_builderAt ml_X10_313 im_X10_builderAt se_X10_builderAt (ci := 10) (lw_i4 hL) (by decide) ⟨_, _, rfl⟩ rfl (by omega) (by omega) (by omega) rfl (Nat.le_of_ble_eq_true rfl) dX10_add_2 ?_
    intro r9 S9 hp9
    obtain ⟨hS9, rfl⟩ := hp9
    obtain rfl := hS9.symm
    rw [hbv]
    first | refine a_astore K dX10_add_5 (by decide) ?_ | refine a_astoreN K dX10_add_5 (by decide) ?_
    first | refine a_aload K dX10_add_7 rfl ?_ | refine a_aloadN K dX10_add_7 rfl ?_
    refine a_iload_n K dX10_add_9 rfl ?_
    refine a_invS K (m_X10_isKey) my_X10_isKey ml_X10_235 st_X10_isKey rfl (by omega) (by omega) (by omega) rfl (Nat.le_of_ble_eq_true rfl) dX10_add_10 ?_
    intro r9 S9 hp9
    obtain ⟨hS9, hb9⟩ := hp9
    obtain rfl := hS9.symm
    obtain rfl : r9 = some (.int 1) := hb9.elim (fun y => y.2) (fun y => absurd hx.1 y.1)
    refine a_if_eq K dX10_add_13 (tgt := 27) (by decide) (fun c_13 => absurd c_13 (by decide)) (fun c_13 => ?_)
    refine a_iload_n K dX10_add_16 rfl ?_
    refine a_invS K (m_X10_isValue) my_X10_isValue ml_X10_238 st_X10_isValue rfl (by omega) (by omega) (by omega) rfl (Nat.le_of_ble_eq_true rfl) dX10_add_17 ?_
    intro r9 S9 hp9
    obtain ⟨hS9, hb9⟩ := hp9
    obtain rfl := hS9.symm
    obtain rfl : r9 = some (.int 1) := hb9.elim (fun y => y.2) (fun y => absurd hx.2 y.1)
    refine a_if_eq K dX10_add_20 (tgt := 27) (by decide) (fun c_20 => absurd c_20 (by decide)) (fun c_20 => ?_)
    refine a_iconst K dX10_add_23 (v := 1) (by decide) ?_
    refine a_goto K dX10_add_24 (tgt := 28) (by decide) ?_
    refine a_invS K (m_X10_objection_ok ob qr) my_X10_objection ml_X10_320 st_X10_objection rfl (by omega) (by omega) (by omega) rfl (Nat.le_of_ble_eq_true rfl) dX10_add_28 ?_
    intro r9 S9 hp9
    obtain ⟨hS9, rfl⟩ := hp9
    obtain rfl := hS9.symm
    refine a_istore K dX10_add_31 (by decide) ?_
    first | refine a_aload K dX10_add_33 rfl ?_ | refine a_aloadN K dX10_add_33 rfl ?_
    refine a_ifnull K dX10_add_35 ?_
    refine a_iload K dX10_add_38 rfl ?_
    refine a_iconst K dX10_add_40 (v := -1) (by decide) ?_
    refine a_icmp_eq K dX10_add_41 (tgt := 51) (by decide) (fun c_41 => ?_) (fun c_41 => absurd c_41 (by decide))
    first | refine a_aload_n K dX10_add_51 rfl ?_ | refine a_aload_nN K dX10_add_51 rfl ?_
    refine a_getRs K fd_X10_39 (lw_i4 hL) (Or.inl ⟨_, rfl⟩) (lw_f645 hL) dX10_add_52 ?_
    refine a_invV K (m_X1_made (lw_i5 hL)) my_X1_made ml_X10_324 im_X1_made se_X1_made (ci := 1) (lw_i5 hL) (by decide) ⟨_, _, rfl⟩ rfl (by omega) (by omega) (by omega) rfl (Nat.le_of_ble_eq_true rfl) dX10_add_55 ?_
    intro r9 S9 hp9
    obtain ⟨rfl, hS9⟩ := hp9
    obtain rfl := hS9.symm
    rw [h.2.1.2.1]
    refine a_istore K dX10_add_58 (by decide) ?_
    first | refine a_aload_n K dX10_add_60 rfl ?_ | refine a_aload_nN K dX10_add_60 rfl ?_
    first | refine a_aload K dX10_add_61 rfl ?_ | refine a_aloadN K dX10_add_61 rfl ?_
    refine a_iload_n K dX10_add_63 rfl ?_
    refine a_iload_n K dX10_add_64 rfl ?_
    refine a_invV K (c_isAdded_y h hP hj hb (okE_of hx.1 (addV_ok (okV_of hx.2))) hy) my_X10_isAdded ml_X10_335 im_X10_isAdded se_X10_isAdded (ci := 10) (lw_i4 hL) (by decide) ⟨_, _, rfl⟩ rfl (by omega) (by omega) (by omega) rfl (Nat.le_of_ble_eq_true rfl) dX10_add_65 ?_
    intro r9 S9 hp9
    obtain ⟨ad2, ar2, rfl, h2, k2⟩ := hp9
    have hL := h2.L
    refine a_if_eq K dX10_add_68 (tgt := 84) (by decide) (fun c_68 => absurd c_68 (by decide)) (fun c_68 => ?_)
    first | refine a_aload_n K dX10_add_71 rfl ?_ | refine a_aload_nN K dX10_add_71 rfl ?_
    refine a_getRs K fd_X10_39 (lw_i4 hL) (Or.inl ⟨_, rfl⟩) (lw_f645 hL) dX10_add_72 ?_
    refine a_invV K (m_X1_made (lw_i5 hL)) my_X1_made ml_X10_324 im_X1_made se_X1_made (ci := 1) (lw_i5 hL) (by decide) ⟨_, _, rfl⟩ rfl (by omega) (by omega) (by omega) rfl (Nat.le_of_ble_eq_true rfl) dX10_add_75 ?_
    intro r9 S9 hp9
    obtain ⟨rfl, hS9⟩ := hp9
    obtain rfl := hS9.symm
    rw [h2.2.1.2.1]
    refine a_iload K dX10_add_78 rfl ?_
    refine a_isub K dX10_add_80 ?_
    refine a_goto K dX10_add_81 (tgt := 89) (by decide) ?_
    exact a_iret K EE rfl (by omega) (by omega) dX10_add_89 (by unfold addF layF; rw [if_pos hy]; exact ⟨ad2, ar2, (by show some (Value.int (pMd P + nI _ - pMd P)) = _; rw [add_sub_c]; try rfl), h2, k2⟩)
  · refine aw_enter (by decide +kernel) (Nat.le_of_ble_eq_true rfl) (fun g K EE => ?_)
    first | refine a_aload_n K dX10_add_0 rfl ?_ | refine a_aload_nN K dX10_add_0 rfl ?_
    refine a_iload_n K dX10_add_1 rfl ?_
    refine a_invV K (w_builderAt hL _) my_X10_builderAt ml_X10_313 im_X10_builderAt se_X10_builderAt (ci := 10) (lw_i4 hL) (by decide) ⟨_, _, rfl⟩ rfl (by omega) (by omega) (by omega) rfl (Nat.le_of_ble_eq_true rfl) dX10_add_2 ?_
    intro r9 S9 hp9
    obtain ⟨hS9, rfl⟩ := hp9
    obtain rfl := hS9.symm
    rw [hbv]
    first | refine a_astore K dX10_add_5 (by decide) ?_ | refine a_astoreN K dX10_add_5 (by decide) ?_
    first | refine a_aload K dX10_add_7 rfl ?_ | refine a_aloadN K dX10_add_7 rfl ?_
    refine a_iload_n K dX10_add_9 rfl ?_
    refine a_invS K (m_X10_isKey) my_X10_isKey ml_X10_235 st_X10_isKey rfl (by omega) (by omega) (by omega) rfl (Nat.le_of_ble_eq_true rfl) dX10_add_10 ?_
    intro r9 S9 hp9
    obtain ⟨hS9, hb9⟩ := hp9
    obtain rfl := hS9.symm
    obtain rfl : r9 = some (.int 1) := hb9.elim (fun y => y.2) (fun y => absurd hx.1 y.1)
    refine a_if_eq K dX10_add_13 (tgt := 27) (by decide) (fun c_13 => absurd c_13 (by decide)) (fun c_13 => ?_)
    refine a_iload_n K dX10_add_16 rfl ?_
    refine a_invS K (m_X10_isValue) my_X10_isValue ml_X10_238 st_X10_isValue rfl (by omega) (by omega) (by omega) rfl (Nat.le_of_ble_eq_true rfl) dX10_add_17 ?_
    intro r9 S9 hp9
    obtain ⟨hS9, hb9⟩ := hp9
    obtain rfl := hS9.symm
    obtain rfl : r9 = some (.int 1) := hb9.elim (fun y => y.2) (fun y => absurd hx.2 y.1)
    refine a_if_eq K dX10_add_20 (tgt := 27) (by decide) (fun c_20 => absurd c_20 (by decide)) (fun c_20 => ?_)
    refine a_iconst K dX10_add_23 (v := 1) (by decide) ?_
    refine a_goto K dX10_add_24 (tgt := 28) (by decide) ?_
    refine a_invS K (m_X10_objection_ok ob qr) my_X10_objection ml_X10_320 st_X10_objection rfl (by omega) (by omega) (by omega) rfl (Nat.le_of_ble_eq_true rfl) dX10_add_28 ?_
    intro r9 S9 hp9
    obtain ⟨hS9, rfl⟩ := hp9
    obtain rfl := hS9.symm
    refine a_istore K dX10_add_31 (by decide) ?_
    first | refine a_aload K dX10_add_33 rfl ?_ | refine a_aloadN K dX10_add_33 rfl ?_
    refine a_ifnull K dX10_add_35 ?_
    refine a_iload K dX10_add_38 rfl ?_
    refine a_iconst K dX10_add_40 (v := -1) (by decide) ?_
    refine a_icmp_eq K dX10_add_41 (tgt := 51) (by decide) (fun c_41 => ?_) (fun c_41 => absurd c_41 (by decide))
    first | refine a_aload_n K dX10_add_51 rfl ?_ | refine a_aload_nN K dX10_add_51 rfl ?_
    refine a_getRs K fd_X10_39 (lw_i4 hL) (Or.inl ⟨_, rfl⟩) (lw_f645 hL) dX10_add_52 ?_
    refine a_invV K (m_X1_made (lw_i5 hL)) my_X1_made ml_X10_324 im_X1_made se_X1_made (ci := 1) (lw_i5 hL) (by decide) ⟨_, _, rfl⟩ rfl (by omega) (by omega) (by omega) rfl (Nat.le_of_ble_eq_true rfl) dX10_add_55 ?_
    intro r9 S9 hp9
    obtain ⟨rfl, hS9⟩ := hp9
    obtain rfl := hS9.symm
    rw [h.2.1.2.1]
    refine a_istore K dX10_add_58 (by decide) ?_
    first | refine a_aload_n K dX10_add_60 rfl ?_ | refine a_aload_nN K dX10_add_60 rfl ?_
    first | refine a_aload K dX10_add_61 rfl ?_ | refine a_aloadN K dX10_add_61 rfl ?_
    refine a_iload_n K dX10_add_63 rfl ?_
    refine a_iload_n K dX10_add_64 rfl ?_
    refine a_invV K (c_isAdded_n h hP hj hb hy) my_X10_isAdded ml_X10_335 im_X10_isAdded se_X10_isAdded (ci := 10) (lw_i4 hL) (by decide) ⟨_, _, rfl⟩ rfl (by omega) (by omega) (by omega) rfl (Nat.le_of_ble_eq_true rfl) dX10_add_65 ?_
    intro r9 S9 hp9
    obtain ⟨rfl, hS9⟩ := hp9
    obtain rfl := hS9.symm
    refine a_if_eq K dX10_add_68 (tgt := 84) (by decide) (fun c_68 => ?_) (fun c_68 => absurd c_68 (by decide))
    first | refine a_aload_n K dX10_add_84 rfl ?_ | refine a_aload_nN K dX10_add_84 rfl ?_
    refine a_iconst K dX10_add_85 (v := 3) (by decide) ?_
    refine a_invV K (c_refused h 3 (by decide)) my_X10_refused ml_X10_128 im_X10_refused se_X10_refused (ci := 10) (lw_i4 hL) (by decide) ⟨_, _, rfl⟩ rfl (by omega) (by omega) (by omega) rfl (Nat.le_of_ble_eq_true rfl) dX10_add_86 ?_
    intro r9 S9 hp9
    obtain ⟨rfl, h2, k2⟩ := hp9
    exact a_iret K EE rfl (by omega) (by omega) dX10_add_89 (by unfold addF layF; rw [if_neg hy]; exact ⟨ad, ar, rfl, h2, k2⟩)
set_option maxHeartbeats 4000000 in
set_option maxRecDepth 100000 in
theorem c_add {S : aw_S} {v ad ar : Nat → Nat} {PA : List (Nat × Nat)} {X : List Nat} {mb : Nat} {P : PS} (h : RC S v ad ar PA X mb P) (hP : PI P) {i k w : Int32} : aw_M yX10_add cX10_add 7 (some FieldType.int) 12 140 1300 [.ref (v 4), .int i, .int k, .int w] S (mutQ X v PA mb S (bld P i (keyR k ∧ valR w) (addF P k w))) := by
  exact bldM h (by decide) (fun e => m_X10_add_null h.L e) (fun b e n => m_X10_add_bad h.L e n) (fun b e q r x => m_X10_add_stale h.L e q r x) (fun j t z q hj e hb x => c_add_ok h hP hj hb e x)
set_option maxHeartbeats 4000000 in
set_option maxRecDepth 100000 in
theorem c_take_ok {S : aw_S} {v ad ar : Nat → Nat} {PA : List (Nat × Nat)} {X : List Nat} {mb : Nat} {P : PS} (h : RC S v ad ar PA X mb P) (hP : PI P) {j t : Nat} {z : Tz} {f : Int32} (hj : j < 4) (hb : pB P j = some (z, t, f)) {i : Int32} (hbv : atR (sQ S (v 13)) 4 i = some (v (14 + j))) {k : Int32} (hx : keyR k) : aw_M yX10_take cX10_take 6 (some FieldType.int) 12 140 1300 [.ref (v 4), .int i, .int k] S (mutQ X v PA mb S (cutF P k k j (z, t, f))) := by
  have hL := h.L
  obtain ⟨ob, qr, qt, ht, htk, htl, hh⟩ := h.bk hP hj hb
  refine aw_enter (by decide +kernel) (Nat.le_of_ble_eq_true rfl) (fun g K EE => ?_)
  first | refine a_aload_n K dX10_take_0 rfl ?_ | refine a_aload_nN K dX10_take_0 rfl ?_
  refine a_iload_n K dX10_take_1 rfl ?_
  refine a_invV K (w_builderAt hL _) my_X10_builderAt ml_X10_313 im_X10_builderAt se_X10_builderAt (ci := 10) (lw_i4 hL) (by decide) ⟨_, _, rfl⟩ rfl (by omega) (by omega) (by omega) rfl (Nat.le_of_ble_eq_true rfl) dX10_take_2 ?_
  intro r9 S9 hp9
  obtain ⟨hS9, rfl⟩ := hp9
  obtain rfl := hS9.symm
  rw [hbv]
  first | refine a_astore_n K dX10_take_5 (by decide) ?_ | refine a_astore_nN K dX10_take_5 (by decide) ?_
  first | refine a_aload_n K dX10_take_6 rfl ?_ | refine a_aload_nN K dX10_take_6 rfl ?_
  refine a_iload_n K dX10_take_7 rfl ?_
  refine a_invS K (m_X10_isKey) my_X10_isKey ml_X10_235 st_X10_isKey rfl (by omega) (by omega) (by omega) rfl (Nat.le_of_ble_eq_true rfl) dX10_take_8 ?_
  intro r9 S9 hp9
  obtain ⟨hS9, hb9⟩ := hp9
  obtain rfl := hS9.symm
  obtain rfl : r9 = some (.int 1) := hb9.elim (fun y => y.2) (fun y => absurd hx y.1)
  refine a_invS K (m_X10_objection_ok ob qr) my_X10_objection ml_X10_320 st_X10_objection rfl (by omega) (by omega) (by omega) rfl (Nat.le_of_ble_eq_true rfl) dX10_take_11 ?_
  intro r9 S9 hp9
  obtain ⟨hS9, rfl⟩ := hp9
  obtain rfl := hS9.symm
  refine a_istore K dX10_take_14 (by decide) ?_
  first | refine a_aload_n K dX10_take_16 rfl ?_ | refine a_aload_nN K dX10_take_16 rfl ?_
  refine a_ifnull K dX10_take_17 ?_
  refine a_iload K dX10_take_20 rfl ?_
  refine a_iconst K dX10_take_22 (v := -1) (by decide) ?_
  refine a_icmp_eq K dX10_take_23 (tgt := 33) (by decide) (fun c_23 => ?_) (fun c_23 => absurd c_23 (by decide))
  first | refine a_aload_n K dX10_take_33 rfl ?_ | refine a_aload_nN K dX10_take_33 rfl ?_
  refine a_getRs K fd_X10_39 (lw_i4 hL) (Or.inl ⟨_, rfl⟩) (lw_f645 hL) dX10_take_34 ?_
  refine a_invV K (m_X1_made (lw_i5 hL)) my_X1_made ml_X10_324 im_X1_made se_X1_made (ci := 1) (lw_i5 hL) (by decide) ⟨_, _, rfl⟩ rfl (by omega) (by omega) (by omega) rfl (Nat.le_of_ble_eq_true rfl) dX10_take_37 ?_
  intro r9 S9 hp9
  obtain ⟨rfl, hS9⟩ := hp9
  obtain rfl := hS9.symm
  rw [h.2.1.2.1]
  refine a_istore K dX10_take_40 (by decide) ?_
  first | refine a_aload_n K dX10_take_42 rfl ?_ | refine a_aload_nN K dX10_take_42 rfl ?_
  first | refine a_aload_n K dX10_take_43 rfl ?_ | refine a_aload_nN K dX10_take_43 rfl ?_
  refine a_iload_n K dX10_take_44 rfl ?_
  refine a_iload_n K dX10_take_45 rfl ?_
  refine a_invV K (c_cutRange h hP hj hb) my_X10_cutRange ml_X10_331 im_X10_cutRange se_X10_cutRange (ci := 10) (lw_i4 hL) (by decide) ⟨_, _, rfl⟩ rfl (by omega) (by omega) (by omega) rfl (Nat.le_of_ble_eq_true rfl) dX10_take_46 ?_
  intro r9 S9 hp9
  obtain ⟨ad2, ar2, rfl, h2, k2⟩ := hp9
  have hL := h2.L
  first | refine a_aload_n K dX10_take_49 rfl ?_ | refine a_aload_nN K dX10_take_49 rfl ?_
  refine a_getRs K fd_X10_39 (lw_i4 hL) (Or.inl ⟨_, rfl⟩) (lw_f645 hL) dX10_take_50 ?_
  refine a_invV K (m_X1_made (lw_i5 hL)) my_X1_made ml_X10_324 im_X1_made se_X1_made (ci := 1) (lw_i5 hL) (by decide) ⟨_, _, rfl⟩ rfl (by omega) (by omega) (by omega) rfl (Nat.le_of_ble_eq_true rfl) dX10_take_53 ?_
  intro r9 S9 hp9
  obtain ⟨rfl, hS9⟩ := hp9
  obtain rfl := hS9.symm
  rw [h2.2.1.2.1]
  refine a_iload K dX10_take_56 rfl ?_
  refine a_isub K dX10_take_58 ?_
  exact a_iret K EE rfl (by omega) (by omega) dX10_take_59 (by unfold cutF; exact ⟨ad2, ar2, (by show some (Value.int (pMd P + nI _ - pMd P)) = _; rw [add_sub_c]; try rfl), h2, k2⟩)
set_option maxHeartbeats 4000000 in
set_option maxRecDepth 100000 in
theorem c_take {S : aw_S} {v ad ar : Nat → Nat} {PA : List (Nat × Nat)} {X : List Nat} {mb : Nat} {P : PS} (h : RC S v ad ar PA X mb P) (hP : PI P) {i : Int32} {k : Int32} : aw_M yX10_take cX10_take 6 (some FieldType.int) 12 140 1300 [.ref (v 4), .int i, .int k] S (mutQ X v PA mb S (bld P i (keyR k) (cutF P k k))) := by
  exact bldM h (by decide) (fun e => m_X10_take_null h.L e) (fun b e n => m_X10_take_bad h.L e n) (fun b e q r x => m_X10_take_stale h.L e q r x) (fun j t z q hj e hb x => c_take_ok h hP hj hb e x)
set_option maxHeartbeats 4000000 in
set_option maxRecDepth 100000 in
theorem c_cut_ok {S : aw_S} {v ad ar : Nat → Nat} {PA : List (Nat × Nat)} {X : List Nat} {mb : Nat} {P : PS} (h : RC S v ad ar PA X mb P) (hP : PI P) {j t : Nat} {z : Tz} {f : Int32} (hj : j < 4) (hb : pB P j = some (z, t, f)) {i : Int32} (hbv : atR (sQ S (v 13)) 4 i = some (v (14 + j))) {a c : Int32} (hx : rngR a c) : aw_M yX10_cut cX10_cut 7 (some FieldType.int) 12 140 1300 [.ref (v 4), .int i, .int a, .int c] S (mutQ X v PA mb S (cutF P a c j (z, t, f))) := by
  have hL := h.L
  obtain ⟨ob, qr, qt, ht, htk, htl, hh⟩ := h.bk hP hj hb
  refine aw_enter (by decide +kernel) (Nat.le_of_ble_eq_true rfl) (fun g K EE => ?_)
  first | refine a_aload_n K dX10_cut_0 rfl ?_ | refine a_aload_nN K dX10_cut_0 rfl ?_
  refine a_iload_n K dX10_cut_1 rfl ?_
  refine a_invV K (w_builderAt hL _) my_X10_builderAt ml_X10_313 im_X10_builderAt se_X10_builderAt (ci := 10) (lw_i4 hL) (by decide) ⟨_, _, rfl⟩ rfl (by omega) (by omega) (by omega) rfl (Nat.le_of_ble_eq_true rfl) dX10_cut_2 ?_
  intro r9 S9 hp9
  obtain ⟨hS9, rfl⟩ := hp9
  obtain rfl := hS9.symm
  rw [hbv]
  first | refine a_astore K dX10_cut_5 (by decide) ?_ | refine a_astoreN K dX10_cut_5 (by decide) ?_
  first | refine a_aload K dX10_cut_7 rfl ?_ | refine a_aloadN K dX10_cut_7 rfl ?_
  refine a_iload_n K dX10_cut_9 rfl ?_
  refine a_iload_n K dX10_cut_10 rfl ?_
  refine a_invS K (m_X10_isRange) my_X10_isRange ml_X10_304 st_X10_isRange rfl (by omega) (by omega) (by omega) rfl (Nat.le_of_ble_eq_true rfl) dX10_cut_11 ?_
  intro r9 S9 hp9
  obtain ⟨hS9, hb9⟩ := hp9
  obtain rfl := hS9.symm
  obtain rfl : r9 = some (.int 1) := hb9.elim (fun y => y.2) (fun y => absurd hx y.1)
  refine a_invS K (m_X10_objection_ok ob qr) my_X10_objection ml_X10_320 st_X10_objection rfl (by omega) (by omega) (by omega) rfl (Nat.le_of_ble_eq_true rfl) dX10_cut_14 ?_
  intro r9 S9 hp9
  obtain ⟨hS9, rfl⟩ := hp9
  obtain rfl := hS9.symm
  refine a_istore K dX10_cut_17 (by decide) ?_
  first | refine a_aload K dX10_cut_19 rfl ?_ | refine a_aloadN K dX10_cut_19 rfl ?_
  refine a_ifnull K dX10_cut_21 ?_
  refine a_iload K dX10_cut_24 rfl ?_
  refine a_iconst K dX10_cut_26 (v := -1) (by decide) ?_
  refine a_icmp_eq K dX10_cut_27 (tgt := 37) (by decide) (fun c_27 => ?_) (fun c_27 => absurd c_27 (by decide))
  first | refine a_aload_n K dX10_cut_37 rfl ?_ | refine a_aload_nN K dX10_cut_37 rfl ?_
  refine a_getRs K fd_X10_39 (lw_i4 hL) (Or.inl ⟨_, rfl⟩) (lw_f645 hL) dX10_cut_38 ?_
  refine a_invV K (m_X1_made (lw_i5 hL)) my_X1_made ml_X10_324 im_X1_made se_X1_made (ci := 1) (lw_i5 hL) (by decide) ⟨_, _, rfl⟩ rfl (by omega) (by omega) (by omega) rfl (Nat.le_of_ble_eq_true rfl) dX10_cut_41 ?_
  intro r9 S9 hp9
  obtain ⟨rfl, hS9⟩ := hp9
  obtain rfl := hS9.symm
  rw [h.2.1.2.1]
  refine a_istore K dX10_cut_44 (by decide) ?_
  first | refine a_aload_n K dX10_cut_46 rfl ?_ | refine a_aload_nN K dX10_cut_46 rfl ?_
  first | refine a_aload K dX10_cut_47 rfl ?_ | refine a_aloadN K dX10_cut_47 rfl ?_
  refine a_iload_n K dX10_cut_49 rfl ?_
  refine a_iload_n K dX10_cut_50 rfl ?_
  refine a_invV K (c_cutRange h hP hj hb) my_X10_cutRange ml_X10_331 im_X10_cutRange se_X10_cutRange (ci := 10) (lw_i4 hL) (by decide) ⟨_, _, rfl⟩ rfl (by omega) (by omega) (by omega) rfl (Nat.le_of_ble_eq_true rfl) dX10_cut_51 ?_
  intro r9 S9 hp9
  obtain ⟨ad2, ar2, rfl, h2, k2⟩ := hp9
  have hL := h2.L
  first | refine a_aload_n K dX10_cut_54 rfl ?_ | refine a_aload_nN K dX10_cut_54 rfl ?_
  refine a_getRs K fd_X10_39 (lw_i4 hL) (Or.inl ⟨_, rfl⟩) (lw_f645 hL) dX10_cut_55 ?_
  refine a_invV K (m_X1_made (lw_i5 hL)) my_X1_made ml_X10_324 im_X1_made se_X1_made (ci := 1) (lw_i5 hL) (by decide) ⟨_, _, rfl⟩ rfl (by omega) (by omega) (by omega) rfl (Nat.le_of_ble_eq_true rfl) dX10_cut_58 ?_
  intro r9 S9 hp9
  obtain ⟨rfl, hS9⟩ := hp9
  obtain rfl := hS9.symm
  rw [h2.2.1.2.1]
  refine a_iload K dX10_cut_61 rfl ?_
  refine a_isub K dX10_cut_63 ?_
  exact a_iret K EE rfl (by omega) (by omega) dX10_cut_64 (by unfold cutF; exact ⟨ad2, ar2, (by show some (Value.int (pMd P + nI _ - pMd P)) = _; rw [add_sub_c]; try rfl), h2, k2⟩)
set_option maxHeartbeats 4000000 in
set_option maxRecDepth 100000 in
theorem c_cut {S : aw_S} {v ad ar : Nat → Nat} {PA : List (Nat × Nat)} {X : List Nat} {mb : Nat} {P : PS} (h : RC S v ad ar PA X mb P) (hP : PI P) {i : Int32} {a c : Int32} : aw_M yX10_cut cX10_cut 7 (some FieldType.int) 12 140 1300 [.ref (v 4), .int i, .int a, .int c] S (mutQ X v PA mb S (bld P i (rngR a c) (cutF P a c))) := by
  exact bldM h (by decide) (fun e => m_X10_cut_null h.L e) (fun b e n => m_X10_cut_bad h.L e n) (fun b e q r x => m_X10_cut_stale h.L e q r x) (fun j t z q hj e hb x => c_cut_ok h hP hj hb e x)
set_option maxHeartbeats 4000000 in
set_option maxRecDepth 100000 in
theorem c_inc_ok {S : aw_S} {v ad ar : Nat → Nat} {PA : List (Nat × Nat)} {X : List Nat} {mb : Nat} {P : PS} (h : RC S v ad ar PA X mb P) (hP : PI P) {j t : Nat} {z : Tz} {f : Int32} (hj : j < 4) (hb : pB P j = some (z, t, f)) {i : Int32} (hbv : atR (sQ S (v 13)) 4 i = some (v (14 + j))) {a c w : Int32} (hx : rngR a c ∧ valR w) : aw_M yX10_inc cX10_inc 8 (some FieldType.int) 12 140 1300 [.ref (v 4), .int i, .int a, .int c, .int w] S (mutQ X v PA mb S (incF P a c w j (z, t, f))) := by
  have hL := h.L
  obtain ⟨ob, qr, qt, ht, htk, htl, hh⟩ := h.bk hP hj hb
  refine aw_enter (by decide +kernel) (Nat.le_of_ble_eq_true rfl) (fun g K EE => ?_)
  first | refine a_aload_n K dX10_inc_0 rfl ?_ | refine a_aload_nN K dX10_inc_0 rfl ?_
  refine a_iload_n K dX10_inc_1 rfl ?_
  refine a_invV K (w_builderAt hL _) my_X10_builderAt ml_X10_313 im_X10_builderAt se_X10_builderAt (ci := 10) (lw_i4 hL) (by decide) ⟨_, _, rfl⟩ rfl (by omega) (by omega) (by omega) rfl (Nat.le_of_ble_eq_true rfl) dX10_inc_2 ?_
  intro r9 S9 hp9
  obtain ⟨hS9, rfl⟩ := hp9
  obtain rfl := hS9.symm
  rw [hbv]
  first | refine a_astore K dX10_inc_5 (by decide) ?_ | refine a_astoreN K dX10_inc_5 (by decide) ?_
  first | refine a_aload K dX10_inc_7 rfl ?_ | refine a_aloadN K dX10_inc_7 rfl ?_
  refine a_iload_n K dX10_inc_9 rfl ?_
  refine a_iload_n K dX10_inc_10 rfl ?_
  refine a_invS K (m_X10_isRange) my_X10_isRange ml_X10_304 st_X10_isRange rfl (by omega) (by omega) (by omega) rfl (Nat.le_of_ble_eq_true rfl) dX10_inc_11 ?_
  intro r9 S9 hp9
  obtain ⟨hS9, hb9⟩ := hp9
  obtain rfl := hS9.symm
  obtain rfl : r9 = some (.int 1) := hb9.elim (fun y => y.2) (fun y => absurd hx.1 y.1)
  refine a_if_eq K dX10_inc_14 (tgt := 29) (by decide) (fun c_14 => absurd c_14 (by decide)) (fun c_14 => ?_)
  refine a_iload K dX10_inc_17 rfl ?_
  refine a_invS K (m_X10_isValue) my_X10_isValue ml_X10_238 st_X10_isValue rfl (by omega) (by omega) (by omega) rfl (Nat.le_of_ble_eq_true rfl) dX10_inc_19 ?_
  intro r9 S9 hp9
  obtain ⟨hS9, hb9⟩ := hp9
  obtain rfl := hS9.symm
  obtain rfl : r9 = some (.int 1) := hb9.elim (fun y => y.2) (fun y => absurd hx.2 y.1)
  refine a_if_eq K dX10_inc_22 (tgt := 29) (by decide) (fun c_22 => absurd c_22 (by decide)) (fun c_22 => ?_)
  refine a_iconst K dX10_inc_25 (v := 1) (by decide) ?_
  refine a_goto K dX10_inc_26 (tgt := 30) (by decide) ?_
  refine a_invS K (m_X10_objection_ok ob qr) my_X10_objection ml_X10_320 st_X10_objection rfl (by omega) (by omega) (by omega) rfl (Nat.le_of_ble_eq_true rfl) dX10_inc_30 ?_
  intro r9 S9 hp9
  obtain ⟨hS9, rfl⟩ := hp9
  obtain rfl := hS9.symm
  refine a_istore K dX10_inc_33 (by decide) ?_
  first | refine a_aload K dX10_inc_35 rfl ?_ | refine a_aloadN K dX10_inc_35 rfl ?_
  refine a_ifnull K dX10_inc_37 ?_
  refine a_iload K dX10_inc_40 rfl ?_
  refine a_iconst K dX10_inc_42 (v := -1) (by decide) ?_
  refine a_icmp_eq K dX10_inc_43 (tgt := 53) (by decide) (fun c_43 => ?_) (fun c_43 => absurd c_43 (by decide))
  first | refine a_aload_n K dX10_inc_53 rfl ?_ | refine a_aload_nN K dX10_inc_53 rfl ?_
  refine a_getRs K fd_X10_39 (lw_i4 hL) (Or.inl ⟨_, rfl⟩) (lw_f645 hL) dX10_inc_54 ?_
  refine a_invV K (m_X1_made (lw_i5 hL)) my_X1_made ml_X10_324 im_X1_made se_X1_made (ci := 1) (lw_i5 hL) (by decide) ⟨_, _, rfl⟩ rfl (by omega) (by omega) (by omega) rfl (Nat.le_of_ble_eq_true rfl) dX10_inc_57 ?_
  intro r9 S9 hp9
  obtain ⟨rfl, hS9⟩ := hp9
  obtain rfl := hS9.symm
  rw [h.2.1.2.1]
  refine a_istore K dX10_inc_60 (by decide) ?_
  first | refine a_aload_n K dX10_inc_62 rfl ?_ | refine a_aload_nN K dX10_inc_62 rfl ?_
  first | refine a_aload K dX10_inc_63 rfl ?_ | refine a_aloadN K dX10_inc_63 rfl ?_
  refine a_iload_n K dX10_inc_65 rfl ?_
  refine a_iload_n K dX10_inc_66 rfl ?_
  refine a_iload K dX10_inc_67 rfl ?_
  refine a_invV K (c_raiseRange h hP hj hb) my_X10_raiseRange ml_X10_338 im_X10_raiseRange se_X10_raiseRange (ci := 10) (lw_i4 hL) (by decide) ⟨_, _, rfl⟩ rfl (by omega) (by omega) (by omega) rfl (Nat.le_of_ble_eq_true rfl) dX10_inc_69 ?_
  intro r9 S9 hp9
  obtain ⟨ad2, ar2, rfl, h2, k2⟩ := hp9
  have hL := h2.L
  first | refine a_aload_n K dX10_inc_72 rfl ?_ | refine a_aload_nN K dX10_inc_72 rfl ?_
  refine a_getRs K fd_X10_39 (lw_i4 hL) (Or.inl ⟨_, rfl⟩) (lw_f645 hL) dX10_inc_73 ?_
  refine a_invV K (m_X1_made (lw_i5 hL)) my_X1_made ml_X10_324 im_X1_made se_X1_made (ci := 1) (lw_i5 hL) (by decide) ⟨_, _, rfl⟩ rfl (by omega) (by omega) (by omega) rfl (Nat.le_of_ble_eq_true rfl) dX10_inc_76 ?_
  intro r9 S9 hp9
  obtain ⟨rfl, hS9⟩ := hp9
  obtain rfl := hS9.symm
  rw [h2.2.1.2.1]
  refine a_iload K dX10_inc_79 rfl ?_
  refine a_isub K dX10_inc_81 ?_
  exact a_iret K EE rfl (by omega) (by omega) dX10_inc_82 (by unfold incF; exact ⟨ad2, ar2, (by show some (Value.int (pMd P + nI _ - pMd P)) = _; rw [add_sub_c]; try rfl), h2, k2⟩)
set_option maxHeartbeats 4000000 in
set_option maxRecDepth 100000 in
theorem c_inc {S : aw_S} {v ad ar : Nat → Nat} {PA : List (Nat × Nat)} {X : List Nat} {mb : Nat} {P : PS} (h : RC S v ad ar PA X mb P) (hP : PI P) {i : Int32} {a c w : Int32} : aw_M yX10_inc cX10_inc 8 (some FieldType.int) 12 140 1300 [.ref (v 4), .int i, .int a, .int c, .int w] S (mutQ X v PA mb S (bld P i (rngR a c ∧ valR w) (incF P a c w))) := by
  exact bldM h (by decide) (fun e => m_X10_inc_null h.L e) (fun b e n => m_X10_inc_bad h.L e n) (fun b e q r x => m_X10_inc_stale h.L e q r x) (fun j t z q hj e hb x => c_inc_ok h hP hj hb e x)
