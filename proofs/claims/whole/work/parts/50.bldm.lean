/-! a contract with more room -/
theorem aw_M.le {y : MethodName} {cc : ByteArray} {mL : Nat} {ret : Option FieldType} {d mc ms d2 mc2 ms2 : Nat} {av : List Value} {S : aw_S} {p : Option Value → aw_S → Prop} (M : aw_M y cc mL ret d mc ms av S p) (hd : d ≤ d2) (hc : mc ≤ mc2) (hs : ms ≤ ms2) : aw_M y cc mL ret d2 mc2 ms2 av S p := by
  intro l D cy sz q e ha hcs hk s m args below hf happ hP hK
  obtain ⟨a1, a2, a3, a4, a5, a6, a7, a8⟩ := (Spec.appliesLoose_iff hf).mp happ
  have a9 : s.hasRoom e.platform (aw_rm d mc ms) = true := by
    have a7 : s.hasRoom e.platform (aw_rm d2 mc2 ms2) = true := a7
    unfold aw_rm at a7 ⊢
    simp only [State.hasRoom, Bool.and_eq_true, decide_eq_true_eq] at a7 ⊢
    obtain ⟨⟨⟨⟨b1, b2, b3, b4, b5, b6⟩, b7⟩, b8⟩, b9⟩ := a7
    exact ⟨⟨⟨⟨by omega, by omega, by omega, by omega, by omega, b6⟩, by omega⟩, by omega⟩, b9⟩
  obtain ⟨n, o, h1, h2, h3, w, L, ⟨f1, f2, f3⟩, hL⟩ := M l D cy sz q e ha hcs hk s m args below hf ((Spec.appliesLoose_iff hf).mpr ⟨a1, a2, a3, a4, a5, a6, a9, a8⟩) hP hK
  exact ⟨n, o, h1, h2, h3, w, L, ⟨f1, f2, f3.mono hc hs⟩, hL⟩
def mn9 (x : Int32) : Int32 := if x < 999 then x else 999
def hldW (x : Int32) : Int32 := if -999 < mn9 x then mn9 x else -999
set_option maxHeartbeats 4000000 in
set_option maxRecDepth 100000 in
theorem m_X10_heldWithin {S : aw_S} {x : Int32} : aw_M yX10_heldWithin cX10_heldWithin 1 (some FieldType.int) 1 0 0 [.int x] S (fun r S2 => r = some (.int (hldW x)) ∧ S2 = S) := by
  refine aw_enter (by decide +kernel) (Nat.le_of_ble_eq_true rfl) (fun g K E => ?_)
  refine a_sipush K dX10_heldWithin_0 (v := -999) (by decide) ?_
  refine a_sipush K dX10_heldWithin_3 (v := 999) (by decide) ?_
  refine a_iload_n K dX10_heldWithin_6 rfl ?_
  refine a_mmin K ml_X10_436 (by omega) (Nat.le_of_ble_eq_true rfl) (by omega) (by omega) dX10_heldWithin_7 ?_
  refine a_mmax K ml_X10_270 (by omega) (Nat.le_of_ble_eq_true rfl) (by omega) (by omega) dX10_heldWithin_10 ?_
  exact a_iret K E rfl (by omega) (by omega) dX10_heldWithin_13 ⟨by unfold hldW mn9; rfl, rfl⟩
def setT (P : PS) (j : Nat) (r : Tz × Nat) (t : Nat) (f : Int32) : PS := setB (setU P r.2) j (some (r.1, t, f))
theorem setT_B {P : PS} {j t : Nat} {r : Tz × Nat} {f : Int32} : pB (setT P j r t f) j = some (r.1, t, f) := if_pos rfl
theorem setT_self {P : PS} {j t : Nat} {z : Tz} {f : Int32} (hb : pB P j = some (z, t, f)) : setT P j (z, pU P) t f = P := by
  obtain ⟨⟨w, m, k, u⟩, M, H, I, Y, B, R, G, T, s⟩ := P
  have hb : B j = some (z, t, f) := hb
  have e1 : m + nI (u - u) = m := by
    rw [Nat.sub_self, show nI 0 = 0 from rfl, Int32.add_zero]
  have e2 : (fun i => if i = j then some (z, t, f) else B i) = B := funext fun i => by
    by_cases e : i = j
    · rw [if_pos e, e, hb]
    · rw [if_neg e]
  show ((w, m + nI (u - u), k, u), M, H, I, Y, (fun i => if i = j then some (z, t, f) else B i), R, G, T, s) = ((w, m, k, u), M, H, I, Y, B, R, G, T, s)
  rw [e1, e2]
theorem setT_setT {P : PS} {j t : Nat} {r r2 : Tz × Nat} {f : Int32} (h1 : pU P ≤ r.2) (h2 : r.2 ≤ r2.2) : setT (setT P j r t f) j r2 t f = setT P j r2 t f := by
  obtain ⟨⟨w, m, k, u⟩, M, H, I, Y, B, R, G, T, s⟩ := P
  have h1 : u ≤ r.2 := h1
  have e1 : m + nI (r.2 - u) + nI (r2.2 - r.2) = m + nI (r2.2 - u) := by
    rw [Int32.add_assoc, show nI (r.2 - u) + nI (r2.2 - r.2) = nI (r.2 - u + (r2.2 - r.2)) from (Int32.ofNat_add _ _).symm, show r.2 - u + (r2.2 - r.2) = r2.2 - u by omega]
  have e2 : (fun i => if i = j then some (r2.1, t, f) else if i = j then some (r.1, t, f) else B i) = (fun i => if i = j then some (r2.1, t, f) else B i) := funext fun i => by
    by_cases e : i = j
    · rw [if_pos e, if_pos e]
    · rw [if_neg e, if_neg e, if_neg e]
  show ((w, m + nI (r.2 - u) + nI (r2.2 - r.2), k, r2.2), M, H, I, Y, (fun i => if i = j then some (r2.1, t, f) else if i = j then some (r.1, t, f) else B i), R, G, T, s) = ((w, m + nI (r2.2 - u), k, r2.2), M, H, I, Y, (fun i => if i = j then some (r2.1, t, f) else B i), R, G, T, s)
  rw [e1, e2]
theorem RC.ngp {S : aw_S} {v ad ar : Nat → Nat} {PA : List (Nat × Nat)} {X : List Nat} {mb : Nat} {P : PS} (h : RC S v ad ar PA X mb P) {t : Nat} {L : List (Nat × Nat)} (hL : ∀ y ∈ L, y.1 < pU P) {k : Nat} (hk : k < 37) (h5 : k ≠ 5) : ¬ GP ad ar (v 5) t L (v k) := fun w => by
  rcases w with w | ⟨y, hy, -, w | w⟩
  · exact h5 (lw_inj h.L k 5 hk (by decide) w)
  · exact (h.nod (hL y hy) hk).1 w.symm
  · exact (h.nod (hL y hy) hk).2 w.symm
theorem RoW_w0 {S : aw_S} {r ka va a : Nat} {x : Option Nat} {E : List KV} (h : RoW S r ka va E) : RoW (wR S 0 a x) r ka va E := ⟨h.1, h.2.1, h.2.2.1, h.2.2.2⟩
/-- what is known of a builder that is open -/
def BK (S : aw_S) (v ad ar : Nat → Nat) (P : PS) (j t : Nat) (z : Tz) : Prop := aw_is S (v (14 + j)) 0 ∧ sR S 0 (v (14 + j)) = some (ad z.2.1) ∧ sI S 1 (v (14 + j)) = nI t ∧ TT_ S ad ar P z ∧ t < pTk P ∧ pTk P < 1000000000 ∧ z.1 ≤ 4
theorem RC.bk {S : aw_S} {v ad ar : Nat → Nat} {PA : List (Nat × Nat)} {X : List Nat} {mb : Nat} {P : PS} (h : RC S v ad ar PA X mb P) (hP : PI P) {j t : Nat} {z : Tz} {f : Int32} (hj : j < 4) (hb : pB P j = some (z, t, f)) : BK S v ad ar P j t z := by
  obtain ⟨q1, q2, q3⟩ := (h.2.2.2.1 j hj).2 _ hb
  obtain ⟨a1, a2, a3, -⟩ := hP.2.2.1 j _ hb
  exact ⟨lw_b h.L hj, q1, q2, ⟨h.2.2.2.2.2.2.2.2.1.2.2 j _ hb, a2⟩, a3, hP.2.2.2, (a2.h4 hP.1.1).1⟩
theorem okV_of {x : Int32} (hx : -999 ≤ x.toInt ∧ x.toInt ≤ 999) : okV x := by
  by_cases h : 0 ≤ x.toInt
  · obtain ⟨n, hn, rfl⟩ := nI_of (x := x) (by rw [i32_lt]; show ¬ x.toInt < 0; omega)
    rw [nI_toInt hn] at hx
    exact ⟨n, by omega, Or.inl rfl⟩
  · refine ⟨(-x.toInt).toNat, by omega, Or.inr ⟨by omega, ?_⟩⟩
    apply Int32.toInt.inj
    rw [Int32.toInt_neg, nI_toInt (by omega), show -((((-x.toInt).toNat : Nat)) : Int) = x.toInt by omega]
    exact (Int.bmod_eq_of_le_mul_two (by omega) (by omega)).symm
theorem okE_of {k x : Int32} (hk : 0 ≤ k.toInt ∧ k.toInt < 1000) (hx : okV x) : okE (k, x) := by
  obtain ⟨n, hn, rfl⟩ := nI_of (x := k) (by rw [i32_lt]; show ¬ k.toInt < 0; omega)
  rw [nI_toInt hn] at hk
  exact ⟨⟨n, by omega, rfl⟩, hx⟩
theorem hldW_ok (x : Int32) : okV (hldW x) := by
  have h9 : (999 : Int32).toInt = 999 := by decide
  have h8 : (-999 : Int32).toInt = -999 := by decide
  have hm : (mn9 x).toInt ≤ 999 := by
    unfold mn9
    by_cases e : x < 999
    · rw [if_pos e]
      have := i32_lt.mp e
      omega
    · rw [if_neg e, h9]
      omega
  apply okV_of
  unfold hldW
  by_cases e : -999 < mn9 x
  · rw [if_pos e]
    have := i32_lt.mp e
    omega
  · rw [if_neg e, h8]
    omega
/-- what is added -/
def addV (E : List KV) (k d : Int32) : Int32 := if valIn E k = -1000000 then d else hldW (valIn E k + d)
theorem addV_ok {E : List KV} {k d : Int32} (hd : okV d) : okV (addV E k d) := by
  unfold addV
  by_cases e : valIn E k = -1000000
  · rw [if_pos e]
    exact hd
  · rw [if_neg e]
    exact hldW_ok _
set_option maxHeartbeats 4000000 in
set_option maxRecDepth 100000 in
theorem c_isPutX_y {S : aw_S} {v ad ar : Nat → Nat} {PA : List (Nat × Nat)} {X : List Nat} {mb : Nat} {P : PS} (h : RC S v ad ar PA X mb P) (hP : PI P) {j t : Nat} {z : Tz} {f : Int32} (hj : j < 4) (hb : pB P j = some (z, t, f)) {k v0 : Int32} (hk : okE (k, v0)) (hy : ¬ valIn (ent z.1 z.2) k = -1000000 ∨ (ent z.1 z.2).length < 60) : aw_M yX10_isPut cX10_isPut 4 (some FieldType.boolean) 11 (2 * ((putT (pW P) t (pU P) k v0 z).2 - pU P)) (19 * ((putT (pW P) t (pU P) k v0 z).2 - pU P)) [.ref (v 4), .ref (v (14 + j)), .int k, .int v0] S (fun r S2 => ∃ ad2 ar2, r = some (.int 1) ∧ RC S2 v ad2 ar2 PA X mb (setT P j (putT (pW P) t (pU P) k v0 z) t f) ∧ keepX X S S2) := by
  obtain ⟨ob, qr, qt, ht, htk, htl, hh⟩ := h.bk hP hj hb
  have hw3 := hP.1.1
  have hw6 := hP.1.2
  have hL := h.L
  obtain ⟨-, h61, -⟩ := ht.2.h4 hw3
  have hcost : (putT (pW P) t (pU P) k v0 z).2 ≤ pU P + 67 := put_cost hw3 ht.2
  refine aw_enter (by decide +kernel) (Nat.le_of_ble_eq_true rfl) (fun g K EE => ?_)
  first | refine a_aload_n K dX10_isPut_0 rfl ?_ | refine a_aload_nN K dX10_isPut_0 rfl ?_
  refine a_invV K (m_X0_root ob) my_X0_root ml_X10_345 im_X0_root se_X0_root (ci := 0) (by assumption) (by decide) ⟨_, _, rfl⟩ rfl (by omega) (by omega) (by omega) rfl (Nat.le_of_ble_eq_true rfl) dX10_isPut_1 ?_
  intro r9 S9 hp9
  obtain ⟨rfl, hS9⟩ := hp9
  obtain rfl := hS9.symm
  rw [qr]
  refine a_iload_n K dX10_isPut_4 rfl ?_
  refine a_invS K (m_X10_fits (key := k) ht.1.1 (ht.2.1.ne hw3) (by omega) (by rw [cnt_ent]; have h1 := ht.2.2.2.1; omega)) my_X10_fits ml_X10_241 st_X10_fits rfl (by omega) (by omega) (by omega) rfl (Nat.le_of_ble_eq_true rfl) dX10_isPut_5 ?_
  intro r9 S9 hp9
  obtain ⟨hS9, hb9⟩ := hp9
  obtain rfl := hS9.symm
  rw [ht.2.1.val hw3, cnt_ent] at hb9
  obtain rfl : r9 = some (.int 1) := hb9.elim (fun y => y.2) (fun y => absurd hy y.1)
  refine a_if_ne K dX10_isPut_8 (tgt := 13) (by decide) (fun c_8 => ?_) (fun c_8 => absurd c_8 (by decide))
  first | refine a_aload_n K dX10_isPut_13 rfl ?_ | refine a_aload_nN K dX10_isPut_13 rfl ?_
  first | refine a_aload_n K dX10_isPut_14 rfl ?_ | refine a_aload_nN K dX10_isPut_14 rfl ?_
  refine a_getRs K fd_X10_39 (lw_i4 hL) (Or.inl ⟨_, rfl⟩) (lw_f645 hL) dX10_isPut_15 ?_
  first | refine a_aload_n K dX10_isPut_18 rfl ?_ | refine a_aload_nN K dX10_isPut_18 rfl ?_
  refine a_invV K (m_X0_root ob) my_X0_root ml_X10_345 im_X0_root se_X0_root (ci := 0) (by assumption) (by decide) ⟨_, _, rfl⟩ rfl (by omega) (by omega) (by omega) rfl (Nat.le_of_ble_eq_true rfl) dX10_isPut_19 ?_
  intro r9 S9 hp9
  obtain ⟨rfl, hS9⟩ := hp9
  obtain rfl := hS9.symm
  rw [qr]
  first | refine a_aload_n K dX10_isPut_22 rfl ?_ | refine a_aload_nN K dX10_isPut_22 rfl ?_
  refine a_invV K (m_X0_token ob) my_X0_token ml_X10_349 im_X0_token se_X0_token (ci := 0) (by assumption) (by decide) ⟨_, _, rfl⟩ rfl (by omega) (by omega) (by omega) rfl (Nat.le_of_ble_eq_true rfl) dX10_isPut_23 ?_
  intro r9 S9 hp9
  obtain ⟨rfl, hS9⟩ := hp9
  obtain rfl := hS9.symm
  rw [qt]
  refine a_iload_n K dX10_isPut_26 rfl ?_
  refine a_iload_n K dX10_isPut_27 rfl ?_
  refine a_invV K (m_putZ hw3 hw6 (tk := t) (u := pU P) (key := k) (v := v0) (z := z) (lw_i5 hL) h.2.1.1 h.2.2.2.2.2.2.2.2.1.1 ht.1.1 ht.2.1 ht.2.2.2.2.1 (by omega) (by omega)) my_X1_put ml_X10_145 im_X1_put se_X1_put (ci := 1) (lw_i5 hL) (by decide) ⟨_, _, rfl⟩ rfl (by omega) (by omega) (by omega) rfl (Nat.le_of_ble_eq_true rfl) dX10_isPut_28 ?_
  intro r9 S9 hp9
  obtain ⟨ad2, ar2, rfl, G, rz⟩ := hp9
  have ob9 := G.is ob
  refine a_invV K (m_X0_change ob9) my_X0_change ml_X10_352 im_X0_change se_X0_change (ci := 0) (by assumption) (by decide) ⟨_, _, rfl⟩ rfl (by omega) (by omega) (by omega) rfl (Nat.le_of_ble_eq_true rfl) dX10_isPut_31 ?_
  intro r9 S9 hp9
  obtain ⟨rfl, hS9⟩ := hp9
  have tk2 := tok_put hw3 ht.2 htk hk hy
  obtain ⟨h5, k5⟩ := h.bput hP hj hb G ⟨rz, tk2.1.2.2.2.1.1⟩
  rw [← hS9] at h5 k5
  refine a_iconst K dX10_isPut_34 (v := 1) (by decide) ?_
  exact a_iret K EE rfl (by omega) (by omega) dX10_isPut_35 ⟨ad2, ar2, rfl, h5, k5⟩
set_option maxHeartbeats 4000000 in
set_option maxRecDepth 100000 in
theorem c_isPut_y {S : aw_S} {v ad ar : Nat → Nat} {PA : List (Nat × Nat)} {X : List Nat} {mb : Nat} {P : PS} (h : RC S v ad ar PA X mb P) (hP : PI P) {j t : Nat} {z : Tz} {f : Int32} (hj : j < 4) (hb : pB P j = some (z, t, f)) {k v0 : Int32} (hk : okE (k, v0)) (hy : ¬ valIn (ent z.1 z.2) k = -1000000 ∨ (ent z.1 z.2).length < 60) : aw_M yX10_isPut cX10_isPut 4 (some FieldType.boolean) 11 140 1300 [.ref (v 4), .ref (v (14 + j)), .int k, .int v0] S (fun r S2 => ∃ ad2 ar2, r = some (.int 1) ∧ RC S2 v ad2 ar2 PA X mb (setT P j (putT (pW P) t (pU P) k v0 z) t f) ∧ keepX X S S2) := by
  have hc := put_cost (z := z) (u := pU P) (tk := t) (k := k) (v := v0) hP.1.1 (hP.2.2.1 j _ hb).2.1
  exact (c_isPutX_y h hP hj hb hk hy).le (Nat.le_refl _) (by omega) (by omega)
set_option maxHeartbeats 4000000 in
set_option maxRecDepth 100000 in
theorem c_isPut_n {S : aw_S} {v ad ar : Nat → Nat} {PA : List (Nat × Nat)} {X : List Nat} {mb : Nat} {P : PS} (h : RC S v ad ar PA X mb P) (hP : PI P) {j t : Nat} {z : Tz} {f : Int32} (hj : j < 4) (hb : pB P j = some (z, t, f)) {k v0 : Int32} (hy : ¬ (¬ valIn (ent z.1 z.2) k = -1000000 ∨ (ent z.1 z.2).length < 60)) : aw_M yX10_isPut cX10_isPut 4 (some FieldType.boolean) 11 0 0 [.ref (v 4), .ref (v (14 + j)), .int k, .int v0] S (fun r S2 => r = some (.int 0) ∧ S2 = S) := by
  obtain ⟨ob, qr, qt, ht, htk, htl, hh⟩ := h.bk hP hj hb
  have hw3 := hP.1.1
  have hw6 := hP.1.2
  have hL := h.L
  obtain ⟨-, h61, -⟩ := ht.2.h4 hw3
  refine aw_enter (by decide +kernel) (Nat.le_of_ble_eq_true rfl) (fun g K EE => ?_)
  first | refine a_aload_n K dX10_isPut_0 rfl ?_ | refine a_aload_nN K dX10_isPut_0 rfl ?_
  refine a_invV K (m_X0_root ob) my_X0_root ml_X10_345 im_X0_root se_X0_root (ci := 0) (by assumption) (by decide) ⟨_, _, rfl⟩ rfl (by omega) (by omega) (by omega) rfl (Nat.le_of_ble_eq_true rfl) dX10_isPut_1 ?_
  intro r9 S9 hp9
  obtain ⟨rfl, hS9⟩ := hp9
  obtain rfl := hS9.symm
  rw [qr]
  refine a_iload_n K dX10_isPut_4 rfl ?_
  refine a_invS K (m_X10_fits (key := k) ht.1.1 (ht.2.1.ne hw3) (by omega) (by rw [cnt_ent]; have h1 := ht.2.2.2.1; omega)) my_X10_fits ml_X10_241 st_X10_fits rfl (by omega) (by omega) (by omega) rfl (Nat.le_of_ble_eq_true rfl) dX10_isPut_5 ?_
  intro r9 S9 hp9
  obtain ⟨hS9, hb9⟩ := hp9
  obtain rfl := hS9.symm
  rw [ht.2.1.val hw3, cnt_ent] at hb9
  obtain rfl : r9 = some (.int 0) := hb9.elim (fun y => absurd y.1 hy) (fun y => y.2)
  refine a_if_ne K dX10_isPut_8 (tgt := 13) (by decide) (fun c_8 => absurd c_8 (by decide)) (fun c_8 => ?_)
  refine a_iconst K dX10_isPut_11 (v := 0) (by decide) ?_
  exact a_iret K EE rfl (by omega) (by omega) dX10_isPut_12 ⟨rfl, rfl⟩
set_option maxHeartbeats 4000000 in
set_option maxRecDepth 100000 in
theorem c_isAddedX_y {S : aw_S} {v ad ar : Nat → Nat} {PA : List (Nat × Nat)} {X : List Nat} {mb : Nat} {P : PS} (h : RC S v ad ar PA X mb P) (hP : PI P) {j t : Nat} {z : Tz} {f : Int32} (hj : j < 4) (hb : pB P j = some (z, t, f)) {k v0 : Int32} (hk : okE (k, (addV (ent z.1 z.2) k v0))) (hy : ¬ valIn (ent z.1 z.2) k = -1000000 ∨ (ent z.1 z.2).length < 60) : aw_M yX10_isAdded cX10_isAdded 6 (some FieldType.boolean) 11 (2 * ((putT (pW P) t (pU P) k (addV (ent z.1 z.2) k v0) z).2 - pU P)) (19 * ((putT (pW P) t (pU P) k (addV (ent z.1 z.2) k v0) z).2 - pU P)) [.ref (v 4), .ref (v (14 + j)), .int k, .int v0] S (fun r S2 => ∃ ad2 ar2, r = some (.int 1) ∧ RC S2 v ad2 ar2 PA X mb (setT P j (putT (pW P) t (pU P) k (addV (ent z.1 z.2) k v0) z) t f) ∧ keepX X S S2) := by
  obtain ⟨ob, qr, qt, ht, htk, htl, hh⟩ := h.bk hP hj hb
  have hw3 := hP.1.1
  have hw6 := hP.1.2
  have hL := h.L
  obtain ⟨-, h61, -⟩ := ht.2.h4 hw3
  have hcost : (putT (pW P) t (pU P) k (addV (ent z.1 z.2) k v0) z).2 ≤ pU P + 67 := put_cost hw3 ht.2
  refine aw_enter (by decide +kernel) (Nat.le_of_ble_eq_true rfl) (fun g K EE => ?_)
  first | refine a_aload_n K dX10_isAdded_0 rfl ?_ | refine a_aload_nN K dX10_isAdded_0 rfl ?_
  refine a_invV K (m_X0_root ob) my_X0_root ml_X10_345 im_X0_root se_X0_root (ci := 0) (by assumption) (by decide) ⟨_, _, rfl⟩ rfl (by omega) (by omega) (by omega) rfl (Nat.le_of_ble_eq_true rfl) dX10_isAdded_1 ?_
  intro r9 S9 hp9
  obtain ⟨rfl, hS9⟩ := hp9
  obtain rfl := hS9.symm
  rw [qr]
  refine a_iload_n K dX10_isAdded_4 rfl ?_
  refine a_invS K (m_X10_fits (key := k) ht.1.1 (ht.2.1.ne hw3) (by omega) (by rw [cnt_ent]; have h1 := ht.2.2.2.1; omega)) my_X10_fits ml_X10_241 st_X10_fits rfl (by omega) (by omega) (by omega) rfl (Nat.le_of_ble_eq_true rfl) dX10_isAdded_5 ?_
  intro r9 S9 hp9
  obtain ⟨hS9, hb9⟩ := hp9
  obtain rfl := hS9.symm
  rw [ht.2.1.val hw3, cnt_ent] at hb9
  obtain rfl : r9 = some (.int 1) := hb9.elim (fun y => y.2) (fun y => absurd hy y.1)
  refine a_if_ne K dX10_isAdded_8 (tgt := 13) (by decide) (fun c_8 => ?_) (fun c_8 => absurd c_8 (by decide))
  first | refine a_aload_n K dX10_isAdded_13 rfl ?_ | refine a_aload_nN K dX10_isAdded_13 rfl ?_
  refine a_invV K (m_X0_root ob) my_X0_root ml_X10_345 im_X0_root se_X0_root (ci := 0) (by assumption) (by decide) ⟨_, _, rfl⟩ rfl (by omega) (by omega) (by omega) rfl (Nat.le_of_ble_eq_true rfl) dX10_isAdded_14 ?_
  intro r9 S9 hp9
  obtain ⟨rfl, hS9⟩ := hp9
  obtain rfl := hS9.symm
  rw [qr]
  refine a_iload_n K dX10_isAdded_17 rfl ?_
  refine a_invS K (m_X10_valueIn (key := k) ht.1.1 (ht.2.1.ne hw3) (by omega) rfl) my_X10_valueIn ml_X10_169 st_X10_valueIn rfl (by omega) (by omega) (by omega) rfl (Nat.le_of_ble_eq_true rfl) dX10_isAdded_18 ?_
  intro r9 S9 hp9
  obtain ⟨rfl, hS9⟩ := hp9
  obtain rfl := hS9.symm
  rw [ht.2.1.val hw3]
  refine a_istore K dX10_isAdded_21 (by decide) ?_
  refine a_iload K dX10_isAdded_23 rfl ?_
  refine a_ldc K kc_X10_180 dX10_isAdded_25 ?_
  refine a_icmp_ne K dX10_isAdded_27 (tgt := 34) (by decide) (fun c_27 => ?_) (fun c_27 => ?_)
  · have ea : hldW (valIn (ent z.1 z.2) k + v0) = addV (ent z.1 z.2) k v0 := by unfold addV; rw [if_neg c_27]
    refine a_iload K dX10_isAdded_34 rfl ?_
    refine a_iload_n K dX10_isAdded_36 rfl ?_
    refine a_iadd K dX10_isAdded_37 ?_
    refine a_invS K (m_X10_heldWithin) my_X10_heldWithin ml_X10_275 st_X10_heldWithin rfl (by omega) (by omega) (by omega) rfl (Nat.le_of_ble_eq_true rfl) dX10_isAdded_38 ?_
    intro r9 S9 hp9
    obtain ⟨rfl, hS9⟩ := hp9
    obtain rfl := hS9.symm
    refine a_istore K dX10_isAdded_41 (by decide) ?_
    first | refine a_aload_n K dX10_isAdded_43 rfl ?_ | refine a_aload_nN K dX10_isAdded_43 rfl ?_
    first | refine a_aload_n K dX10_isAdded_44 rfl ?_ | refine a_aload_nN K dX10_isAdded_44 rfl ?_
    refine a_getRs K fd_X10_39 (lw_i4 hL) (Or.inl ⟨_, rfl⟩) (lw_f645 hL) dX10_isAdded_45 ?_
    first | refine a_aload_n K dX10_isAdded_48 rfl ?_ | refine a_aload_nN K dX10_isAdded_48 rfl ?_
    refine a_invV K (m_X0_root ob) my_X0_root ml_X10_345 im_X0_root se_X0_root (ci := 0) (by assumption) (by decide) ⟨_, _, rfl⟩ rfl (by omega) (by omega) (by omega) rfl (Nat.le_of_ble_eq_true rfl) dX10_isAdded_49 ?_
    intro r9 S9 hp9
    obtain ⟨rfl, hS9⟩ := hp9
    obtain rfl := hS9.symm
    rw [qr]
    first | refine a_aload_n K dX10_isAdded_52 rfl ?_ | refine a_aload_nN K dX10_isAdded_52 rfl ?_
    refine a_invV K (m_X0_token ob) my_X0_token ml_X10_349 im_X0_token se_X0_token (ci := 0) (by assumption) (by decide) ⟨_, _, rfl⟩ rfl (by omega) (by omega) (by omega) rfl (Nat.le_of_ble_eq_true rfl) dX10_isAdded_53 ?_
    intro r9 S9 hp9
    obtain ⟨rfl, hS9⟩ := hp9
    obtain rfl := hS9.symm
    rw [qt]
    refine a_iload_n K dX10_isAdded_56 rfl ?_
    refine a_iload K dX10_isAdded_57 rfl ?_
    rw [ea]
    refine a_invV K (m_putZ hw3 hw6 (tk := t) (u := pU P) (key := k) (v := (addV (ent z.1 z.2) k v0)) (z := z) (lw_i5 hL) h.2.1.1 h.2.2.2.2.2.2.2.2.1.1 ht.1.1 ht.2.1 ht.2.2.2.2.1 (by omega) (by omega)) my_X1_put ml_X10_145 im_X1_put se_X1_put (ci := 1) (lw_i5 hL) (by decide) ⟨_, _, rfl⟩ rfl (by omega) (by omega) (by omega) rfl (Nat.le_of_ble_eq_true rfl) dX10_isAdded_59 ?_
    intro r9 S9 hp9
    obtain ⟨ad2, ar2, rfl, G, rz⟩ := hp9
    have ob9 := G.is ob
    refine a_invV K (m_X0_change ob9) my_X0_change ml_X10_352 im_X0_change se_X0_change (ci := 0) (by assumption) (by decide) ⟨_, _, rfl⟩ rfl (by omega) (by omega) (by omega) rfl (Nat.le_of_ble_eq_true rfl) dX10_isAdded_62 ?_
    intro r9 S9 hp9
    obtain ⟨rfl, hS9⟩ := hp9
    have tk2 := tok_put hw3 ht.2 htk hk hy
    obtain ⟨h5, k5⟩ := h.bput hP hj hb G ⟨rz, tk2.1.2.2.2.1.1⟩
    rw [← hS9] at h5 k5
    refine a_iconst K dX10_isAdded_65 (v := 1) (by decide) ?_
    exact a_iret K EE rfl (by omega) (by omega) dX10_isAdded_66 ⟨ad2, ar2, rfl, h5, k5⟩
  · have ea : v0 = addV (ent z.1 z.2) k v0 := by unfold addV; rw [if_pos (by first | exact c_27 | exact Classical.not_not.mp c_27)]
    refine a_iload_n K dX10_isAdded_30 rfl ?_
    refine a_goto K dX10_isAdded_31 (tgt := 41) (by decide) ?_
    refine a_istore K dX10_isAdded_41 (by decide) ?_
    first | refine a_aload_n K dX10_isAdded_43 rfl ?_ | refine a_aload_nN K dX10_isAdded_43 rfl ?_
    first | refine a_aload_n K dX10_isAdded_44 rfl ?_ | refine a_aload_nN K dX10_isAdded_44 rfl ?_
    refine a_getRs K fd_X10_39 (lw_i4 hL) (Or.inl ⟨_, rfl⟩) (lw_f645 hL) dX10_isAdded_45 ?_
    first | refine a_aload_n K dX10_isAdded_48 rfl ?_ | refine a_aload_nN K dX10_isAdded_48 rfl ?_
    refine a_invV K (m_X0_root ob) my_X0_root ml_X10_345 im_X0_root se_X0_root (ci := 0) (by assumption) (by decide) ⟨_, _, rfl⟩ rfl (by omega) (by omega) (by omega) rfl (Nat.le_of_ble_eq_true rfl) dX10_isAdded_49 ?_
    intro r9 S9 hp9
    obtain ⟨rfl, hS9⟩ := hp9
    obtain rfl := hS9.symm
    rw [qr]
    first | refine a_aload_n K dX10_isAdded_52 rfl ?_ | refine a_aload_nN K dX10_isAdded_52 rfl ?_
    refine a_invV K (m_X0_token ob) my_X0_token ml_X10_349 im_X0_token se_X0_token (ci := 0) (by assumption) (by decide) ⟨_, _, rfl⟩ rfl (by omega) (by omega) (by omega) rfl (Nat.le_of_ble_eq_true rfl) dX10_isAdded_53 ?_
    intro r9 S9 hp9
    obtain ⟨rfl, hS9⟩ := hp9
    obtain rfl := hS9.symm
    rw [qt]
    refine a_iload_n K dX10_isAdded_56 rfl ?_
    refine a_iload K dX10_isAdded_57 rfl ?_
    rw [ea]
    refine a_invV K (m_putZ hw3 hw6 (tk := t) (u := pU P) (key := k) (v := (addV (ent z.1 z.2) k v0)) (z := z) (lw_i5 hL) h.2.1.1 h.2.2.2.2.2.2.2.2.1.1 ht.1.1 ht.2.1 ht.2.2.2.2.1 (by omega) (by omega)) my_X1_put ml_X10_145 im_X1_put se_X1_put (ci := 1) (lw_i5 hL) (by decide) ⟨_, _, rfl⟩ rfl (by omega) (by omega) (by omega) rfl (Nat.le_of_ble_eq_true rfl) dX10_isAdded_59 ?_
    intro r9 S9 hp9
    obtain ⟨ad2, ar2, rfl, G, rz⟩ := hp9
    have ob9 := G.is ob
    refine a_invV K (m_X0_change ob9) my_X0_change ml_X10_352 im_X0_change se_X0_change (ci := 0) (by assumption) (by decide) ⟨_, _, rfl⟩ rfl (by omega) (by omega) (by omega) rfl (Nat.le_of_ble_eq_true rfl) dX10_isAdded_62 ?_
    intro r9 S9 hp9
    obtain ⟨rfl, hS9⟩ := hp9
    have tk2 := tok_put hw3 ht.2 htk hk hy
    obtain ⟨h5, k5⟩ := h.bput hP hj hb G ⟨rz, tk2.1.2.2.2.1.1⟩
    rw [← hS9] at h5 k5
    refine a_iconst K dX10_isAdded_65 (v := 1) (by decide) ?_
    exact a_iret K EE rfl (by omega) (by omega) dX10_isAdded_66 ⟨ad2, ar2, rfl, h5, k5⟩
set_option maxHeartbeats 4000000 in
set_option maxRecDepth 100000 in
theorem c_isAdded_y {S : aw_S} {v ad ar : Nat → Nat} {PA : List (Nat × Nat)} {X : List Nat} {mb : Nat} {P : PS} (h : RC S v ad ar PA X mb P) (hP : PI P) {j t : Nat} {z : Tz} {f : Int32} (hj : j < 4) (hb : pB P j = some (z, t, f)) {k v0 : Int32} (hk : okE (k, (addV (ent z.1 z.2) k v0))) (hy : ¬ valIn (ent z.1 z.2) k = -1000000 ∨ (ent z.1 z.2).length < 60) : aw_M yX10_isAdded cX10_isAdded 6 (some FieldType.boolean) 11 140 1300 [.ref (v 4), .ref (v (14 + j)), .int k, .int v0] S (fun r S2 => ∃ ad2 ar2, r = some (.int 1) ∧ RC S2 v ad2 ar2 PA X mb (setT P j (putT (pW P) t (pU P) k (addV (ent z.1 z.2) k v0) z) t f) ∧ keepX X S S2) := by
  have hc := put_cost (z := z) (u := pU P) (tk := t) (k := k) (v := (addV (ent z.1 z.2) k v0)) hP.1.1 (hP.2.2.1 j _ hb).2.1
  exact (c_isAddedX_y h hP hj hb hk hy).le (Nat.le_refl _) (by omega) (by omega)
set_option maxHeartbeats 4000000 in
set_option maxRecDepth 100000 in
theorem c_isAdded_n {S : aw_S} {v ad ar : Nat → Nat} {PA : List (Nat × Nat)} {X : List Nat} {mb : Nat} {P : PS} (h : RC S v ad ar PA X mb P) (hP : PI P) {j t : Nat} {z : Tz} {f : Int32} (hj : j < 4) (hb : pB P j = some (z, t, f)) {k v0 : Int32} (hy : ¬ (¬ valIn (ent z.1 z.2) k = -1000000 ∨ (ent z.1 z.2).length < 60)) : aw_M yX10_isAdded cX10_isAdded 6 (some FieldType.boolean) 11 0 0 [.ref (v 4), .ref (v (14 + j)), .int k, .int v0] S (fun r S2 => r = some (.int 0) ∧ S2 = S) := by
  obtain ⟨ob, qr, qt, ht, htk, htl, hh⟩ := h.bk hP hj hb
  have hw3 := hP.1.1
  have hw6 := hP.1.2
  have hL := h.L
  obtain ⟨-, h61, -⟩ := ht.2.h4 hw3
  refine aw_enter (by decide +kernel) (Nat.le_of_ble_eq_true rfl) (fun g K EE => ?_)
  first | refine a_aload_n K dX10_isAdded_0 rfl ?_ | refine a_aload_nN K dX10_isAdded_0 rfl ?_
  refine a_invV K (m_X0_root ob) my_X0_root ml_X10_345 im_X0_root se_X0_root (ci := 0) (by assumption) (by decide) ⟨_, _, rfl⟩ rfl (by omega) (by omega) (by omega) rfl (Nat.le_of_ble_eq_true rfl) dX10_isAdded_1 ?_
  intro r9 S9 hp9
  obtain ⟨rfl, hS9⟩ := hp9
  obtain rfl := hS9.symm
  rw [qr]
  refine a_iload_n K dX10_isAdded_4 rfl ?_
  refine a_invS K (m_X10_fits (key := k) ht.1.1 (ht.2.1.ne hw3) (by omega) (by rw [cnt_ent]; have h1 := ht.2.2.2.1; omega)) my_X10_fits ml_X10_241 st_X10_fits rfl (by omega) (by omega) (by omega) rfl (Nat.le_of_ble_eq_true rfl) dX10_isAdded_5 ?_
  intro r9 S9 hp9
  obtain ⟨hS9, hb9⟩ := hp9
  obtain rfl := hS9.symm
  rw [ht.2.1.val hw3, cnt_ent] at hb9
  obtain rfl : r9 = some (.int 0) := hb9.elim (fun y => absurd y.1 hy) (fun y => y.2)
  refine a_if_ne K dX10_isAdded_8 (tgt := 13) (by decide) (fun c_8 => absurd c_8 (by decide)) (fun c_8 => ?_)
  refine a_iconst K dX10_isAdded_11 (v := 0) (by decide) ?_
  exact a_iret K EE rfl (by omega) (by omega) dX10_isAdded_12 ⟨rfl, rfl⟩
