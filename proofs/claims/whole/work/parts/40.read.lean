theorem RC.L {S : aw_S} {v ad ar : Nat → Nat} {PA : List (Nat × Nat)} {X : List Nat} {mb : Nat} {P : PS} (h : RC S v ad ar PA X mb P) : LW S v := h.1
theorem RC.X {S : aw_S} {v ad ar : Nat → Nat} {PA : List (Nat × Nat)} {X : List Nat} {mb : Nat} {P : PS} (h : RC S v ad ar PA X mb P) : keepX X S S := keepX.rf (fun b hb => (h.2.2.2.2.2.2.2.2.2.2.2.2.1 b hb).1)
/-- the tree of a map that is held -/
def rootP (P : PS) (i : Int32) : Option Tz := if 0 ≤ i.toInt ∧ i.toInt < (pM P).length then (if pH P i.toNatClampNeg then ((pM P)[i.toNatClampNeg]?).map (fun x => x.1) else none) else none
theorem rootP_mem {P : PS} {i : Int32} {z : Tz} (h : rootP P i = some z) : ∃ (j : Nat) (x : MI), i = nI j ∧ j < (pM P).length ∧ (pM P)[j]? = some x ∧ x.1 = z ∧ pH P j = true := by
  unfold rootP at h
  split at h
  · rename_i hi
    split at h
    · rename_i hh
      obtain ⟨x, hx, e⟩ := Option.map_eq_some_iff.mp h
      have hr := int_rng i
      have hj := (List.getElem?_eq_some_iff.mp hx).1
      refine ⟨i.toNatClampNeg, x, ?_, hj, hx, e, hh⟩
      obtain ⟨k, hk, e2⟩ := nI_of (x := i) (by rw [i32_lt]; show ¬ i.toInt < 0; omega)
      rw [e2, nI_clamp hk]
    · exact absurd h (by simp)
  · exact absurd h (by simp)
theorem RC.wroot {S : aw_S} {v ad ar : Nat → Nat} {PA : List (Nat × Nat)} {X : List Nat} {mb : Nat} {P : PS} (h : RC S v ad ar PA X mb P) (i : Int32) : wRoot S v (pM P).length i = (rootP P i).map (fun z => ad z.2.1) := by
  obtain ⟨-, -, ⟨m1, m2, m3, m4, m5, m6, m7⟩, -⟩ := h
  show hRoot _ _ _ _ = _
  unfold hRoot rootP
  by_cases hi : 0 ≤ i.toInt ∧ i.toInt < (pM P).length
  · rw [if_pos hi, if_pos hi]
    have hj : i.toNatClampNeg < (pM P).length := by
      have h1 : (i.toNatClampNeg : Int) = i.toInt := by
        obtain ⟨k, hk, e2⟩ := nI_of (x := i) (by rw [i32_lt]; show ¬ i.toInt < 0; omega)
        rw [e2, nI_clamp hk, nI_toInt hk]
      omega
    rw [(m6 _ (by omega)).1]
    cases hh : pH P i.toNatClampNeg with
    | false => rfl
    | true =>
      have hx := List.getElem?_eq_getElem hj
      rw [if_neg (by decide), if_pos rfl, hx, (m5 _ _ hx).1]
      rfl
  · rw [if_neg hi, if_neg hi]
    rfl
theorem RC.lg {S : aw_S} {v ad ar : Nat → Nat} {PA : List (Nat × Nat)} {X : List Nat} {mb : Nat} {P : PS} (h : RC S v ad ar PA X mb P) : LG S v (pM P).length := ⟨h.2.2.1.1, h.2.2.1.2.1⟩
theorem m_root {S : aw_S} {v ad ar : Nat → Nat} {PA : List (Nat × Nat)} {X : List Nat} {mb : Nat} {P : PS} (h : RC S v ad ar PA X mb P) (i : Int32) : aw_M yX3_heldRoot cX3_heldRoot 2 (some (FieldType.object "WideMap$Node")) 0 0 0 [.ref (v 6), .int i] S (fun r S2 => r = some (va_rf ((rootP P i).map (fun z => ad z.2.1))) ∧ S2 = S) := (w_heldRoot h.L h.lg i).post (fun r S2 hp => ⟨by rw [hp.2, h.wroot], hp.1⟩)
theorem RC.root0 {S : aw_S} {v ad ar : Nat → Nat} {PA : List (Nat × Nat)} {X : List Nat} {mb : Nat} {P : PS} (h : RC S v ad ar PA X mb P) {i : Int32} (hz : rootP P i = none) : wRoot S v (pM P).length i = none := by rw [h.wroot, hz]; rfl
/-- a tree that stands on the class's heap, and is in order -/
def TT_ (S : aw_S) (ad ar : Nat → Nat) (P : PS) (z : Tz) : Prop := TrW S ad ar (pU P) z ∧ tok (pW P) (pU P) (pTk P) z
theorem RC.tt {S : aw_S} {v ad ar : Nat → Nat} {PA : List (Nat × Nat)} {X : List Nat} {mb : Nat} {P : PS} (h : RC S v ad ar PA X mb P) (hP : PI P) {i : Int32} {z : Tz} (hz : rootP P i = some z) : TT_ S ad ar P z := by
  obtain ⟨j, x, -, -, hx, rfl, -⟩ := rootP_mem hz
  have hm := List.mem_of_getElem? hx
  exact ⟨h.2.2.2.2.2.2.2.2.1.2.1 x hm, hP.2.1 x hm⟩
theorem tok.h4 {w u tk : Nat} {z : Tz} (hw : 3 ≤ w) (h : tok w u tk z) : z.1 ≤ 4 ∧ (sub z.1 z.2).length ≤ 61 ∧ (ndl z.1 z.2).length ≤ 61 := by
  obtain ⟨c1, c2, c3⟩ := h.1.cnt hw
  have h60 := h.2.2.1
  refine ⟨?_, by rw [sub_len]; omega, by omega⟩
  refine Classical.byContradiction (fun hn => ?_)
  have h5 := c1 (by omega)
  have h6 : 2 ^ 6 ≤ 2 ^ (z.1 + 1) := Nat.pow_le_pow_right (by decide) (by omega)
  have h7 : (2 : Nat) ^ 6 = 64 := by decide
  omega
theorem RC.nod {S : aw_S} {v ad ar : Nat → Nat} {PA : List (Nat × Nat)} {X : List Nat} {mb : Nat} {P : PS} (h : RC S v ad ar PA X mb P) {i : Nat} (hi : i < pU P) {k : Nat} (hk : k < 37) : ad i ≠ v k ∧ ar i ≠ v k := (h.2.2.2.2.2.2.2.2.2.2.2.2.2 i hi).1 k hk
theorem RC.mk1 {S : aw_S} {v ad ar : Nat → Nat} {PA : List (Nat × Nat)} {X : List Nat} {mb : Nat} {P : PS} (h : RC S v ad ar PA X mb P) {i : Nat} (hi : i < pU P) : ¬ sI S 260 (ad i) = -1 := by
  obtain ⟨k0, mr, k1, k2, k3⟩ := h.2.2.2.2.2.2.2.2.2.1
  obtain ⟨m, h1, h2⟩ := k3 i hi
  rw [h2]
  intro z
  have h4 := nI_toInt (show m < 2 ^ 31 by omega)
  rw [z] at h4
  have h5 : (-1 : Int32).toInt = -1 := by decide
  omega
theorem lw_Ro25 {S : aw_S} {v : Nat → Nat} (hL : LW S v) : RoS S (v 25) (v 26) (v 27) := ⟨lw_i25 hL, lw_f448_25 hL, lw_f449_25 hL, lw_i26 hL, lw_i27 hL, lw_n26 hL, lw_n27 hL, (fun z => absurd (lw_inj hL 26 27 (by decide) (by decide) z) (by decide))⟩
theorem scr_Ro25 (v : Nat → Nat) : ∀ b, Qro (v 25) (v 26) (v 27) b → scr v b := fun b z => z.elim (fun y => ⟨25, by decide, by decide, y⟩) (fun y => y.elim (fun x => ⟨26, by decide, by decide, x⟩) (fun x => ⟨27, by decide, by decide, x⟩))
theorem lw_Ro28 {S : aw_S} {v : Nat → Nat} (hL : LW S v) : RoS S (v 28) (v 29) (v 30) := ⟨lw_i28 hL, lw_f448_28 hL, lw_f449_28 hL, lw_i29 hL, lw_i30 hL, lw_n29 hL, lw_n30 hL, (fun z => absurd (lw_inj hL 29 30 (by decide) (by decide) z) (by decide))⟩
theorem scr_Ro28 (v : Nat → Nat) : ∀ b, Qro (v 28) (v 29) (v 30) b → scr v b := fun b z => z.elim (fun y => ⟨28, by decide, by decide, y⟩) (fun y => y.elim (fun x => ⟨29, by decide, by decide, x⟩) (fun x => ⟨30, by decide, by decide, x⟩))
theorem lw_Ro31 {S : aw_S} {v : Nat → Nat} (hL : LW S v) : RoS S (v 31) (v 32) (v 33) := ⟨lw_i31 hL, lw_f448_31 hL, lw_f449_31 hL, lw_i32 hL, lw_i33 hL, lw_n32 hL, lw_n33 hL, (fun z => absurd (lw_inj hL 32 33 (by decide) (by decide) z) (by decide))⟩
theorem scr_Ro31 (v : Nat → Nat) : ∀ b, Qro (v 31) (v 32) (v 33) b → scr v b := fun b z => z.elim (fun y => ⟨31, by decide, by decide, y⟩) (fun y => y.elim (fun x => ⟨32, by decide, by decide, x⟩) (fun x => ⟨33, by decide, by decide, x⟩))
theorem lw_Ls {S : aw_S} {v : Nat → Nat} (hL : LW S v) : LsS S (v 34) (v 35) (v 36) := ⟨lw_i34 hL, lw_f128_34 hL, lw_f129_34 hL, lw_i35 hL, lw_i36 hL, lw_n35 hL, lw_n36 hL⟩
theorem scr_Ls (v : Nat → Nat) : ∀ b, Qls (v 34) (v 35) (v 36) b → scr v b := fun b z => z.elim (fun y => ⟨34, by decide, by decide, y⟩) (fun y => y.elim (fun x => ⟨35, by decide, by decide, x⟩) (fun x => ⟨36, by decide, by decide, x⟩))
theorem lw_Sh21 {S : aw_S} {v : Nat → Nat} (hL : LW S v) : ShS S (v 21) (v 22) := ⟨lw_i21 hL, lw_f512_21 hL, lw_i22 hL, lw_n22 hL⟩
theorem scr_Sh21 (v : Nat → Nat) : ∀ b, Qsh (v 21) (v 22) b → scr v b := fun b z => z.elim (fun y => ⟨21, by decide, by decide, y⟩) (fun x => ⟨22, by decide, by decide, x⟩)
theorem lw_Sh23 {S : aw_S} {v : Nat → Nat} (hL : LW S v) : ShS S (v 23) (v 24) := ⟨lw_i23 hL, lw_f512_23 hL, lw_i24 hL, lw_n24 hL⟩
theorem scr_Sh23 (v : Nat → Nat) : ∀ b, Qsh (v 23) (v 24) b → scr v b := fun b z => z.elim (fun y => ⟨23, by decide, by decide, y⟩) (fun x => ⟨24, by decide, by decide, x⟩)
theorem lw_Sh19 {S : aw_S} {v : Nat → Nat} (hL : LW S v) : ShS S (v 19) (v 20) := ⟨lw_i19 hL, lw_f512_19 hL, lw_i20 hL, lw_n20 hL⟩
theorem RC.scq {S : aw_S} {v ad ar : Nat → Nat} {PA : List (Nat × Nat)} {X : List Nat} {mb : Nat} {P : PS} (h : RC S v ad ar PA X mb P) {Q : Nat → Prop} (hQ : ∀ b, Q b → ∃ k, k < 37 ∧ b = v k) {z : Tz} (t : TrW S ad ar (pU P) z) : ∀ x ∈ ndl z.1 z.2, ¬ Q (ad x.1) ∧ ¬ Q (ar x.1) := fun x hx => ⟨fun y => by obtain ⟨k, hk, e⟩ := hQ _ y; exact (h.nod (t.2 x hx) hk).1 e, fun y => by obtain ⟨k, hk, e⟩ := hQ _ y; exact (h.nod (t.2 x hx) hk).2 e⟩
theorem scr37 {v : Nat → Nat} {b : Nat} (h : scr v b) : ∃ k, k < 37 ∧ b = v k := by obtain ⟨k, -, hk, e⟩ := h; exact ⟨k, hk, e⟩
theorem m_fill25 {S : aw_S} {v ad ar : Nat → Nat} {PA : List (Nat × Nat)} {X : List Nat} {mb : Nat} {P : PS} (h : RC S v ad ar PA X mb P) (hw : 3 ≤ pW P) {z : Tz} (t : TT_ S ad ar P z) : aw_M yX7_fill cX7_fill 2 (none : Option FieldType) (z.1 + 3) 0 0 [.ref (v 25), .ref (ad z.2.1)] S (fun r2 S2 => r2 = none ∧ RoW S2 (v 25) (v 26) (v 27) (ent z.1 z.2) ∧ RC S2 v ad ar PA X mb P ∧ keepX X S S2 ∧ frS S S2 (Qro (v 25) (v 26) (v 27))) := by
  obtain ⟨h4, -, -⟩ := t.2.h4 hw
  refine (m_R_fill (lw_Ro25 h.L) t.1.1 (by omega) (h.scq (fun b y => scr37 (scr_Ro25 v b y)) t.1) (fun x hx => h.mk1 (t.1.2 x hx)) t.2.2.2.1).post (fun r2 S2 hp => ?_)
  obtain ⟨a, b, f⟩ := hp
  obtain ⟨c, d⟩ := h.scr f (scr_Ro25 v)
  exact ⟨a, b, c, d, f⟩
theorem m_fill28 {S : aw_S} {v ad ar : Nat → Nat} {PA : List (Nat × Nat)} {X : List Nat} {mb : Nat} {P : PS} (h : RC S v ad ar PA X mb P) (hw : 3 ≤ pW P) {z : Tz} (t : TT_ S ad ar P z) : aw_M yX7_fill cX7_fill 2 (none : Option FieldType) (z.1 + 3) 0 0 [.ref (v 28), .ref (ad z.2.1)] S (fun r2 S2 => r2 = none ∧ RoW S2 (v 28) (v 29) (v 30) (ent z.1 z.2) ∧ RC S2 v ad ar PA X mb P ∧ keepX X S S2 ∧ frS S S2 (Qro (v 28) (v 29) (v 30))) := by
  obtain ⟨h4, -, -⟩ := t.2.h4 hw
  refine (m_R_fill (lw_Ro28 h.L) t.1.1 (by omega) (h.scq (fun b y => scr37 (scr_Ro28 v b y)) t.1) (fun x hx => h.mk1 (t.1.2 x hx)) t.2.2.2.1).post (fun r2 S2 hp => ?_)
  obtain ⟨a, b, f⟩ := hp
  obtain ⟨c, d⟩ := h.scr f (scr_Ro28 v)
  exact ⟨a, b, c, d, f⟩
theorem m_fill31 {S : aw_S} {v ad ar : Nat → Nat} {PA : List (Nat × Nat)} {X : List Nat} {mb : Nat} {P : PS} (h : RC S v ad ar PA X mb P) (hw : 3 ≤ pW P) {z : Tz} (t : TT_ S ad ar P z) : aw_M yX7_fill cX7_fill 2 (none : Option FieldType) (z.1 + 3) 0 0 [.ref (v 31), .ref (ad z.2.1)] S (fun r2 S2 => r2 = none ∧ RoW S2 (v 31) (v 32) (v 33) (ent z.1 z.2) ∧ RC S2 v ad ar PA X mb P ∧ keepX X S S2 ∧ frS S S2 (Qro (v 31) (v 32) (v 33))) := by
  obtain ⟨h4, -, -⟩ := t.2.h4 hw
  refine (m_R_fill (lw_Ro31 h.L) t.1.1 (by omega) (h.scq (fun b y => scr37 (scr_Ro31 v b y)) t.1) (fun x hx => h.mk1 (t.1.2 x hx)) t.2.2.2.1).post (fun r2 S2 hp => ?_)
  obtain ⟨a, b, f⟩ := hp
  obtain ⟨c, d⟩ := h.scr f (scr_Ro31 v)
  exact ⟨a, b, c, d, f⟩
theorem m_fillL {S : aw_S} {v ad ar : Nat → Nat} {PA : List (Nat × Nat)} {X : List Nat} {mb : Nat} {P : PS} (h : RC S v ad ar PA X mb P) (hw : 3 ≤ pW P) {z : Tz} (t : TT_ S ad ar P z) : aw_M yX2_fill cX2_fill 2 (none : Option FieldType) (z.1 + 2) 0 0 [.ref (v 34), .ref (ad z.2.1)] S (fun r2 S2 => r2 = none ∧ LsW S2 ad (v 34) (v 35) (v 36) z.1 (sub z.1 z.2) ∧ RC S2 v ad ar PA X mb P ∧ keepX X S S2 ∧ frS S S2 (Qls (v 34) (v 35) (v 36))) := by
  obtain ⟨h4, h5, -⟩ := t.2.h4 hw
  refine (m_Ls_fill (lw_Ls h.L) t.1.1 (by omega) (h.scq (fun b y => scr37 (scr_Ls v b y)) t.1) (by omega)).post (fun r2 S2 hp => ?_)
  obtain ⟨a, b, f⟩ := hp
  obtain ⟨c, d⟩ := h.scr f (scr_Ls v)
  exact ⟨a, b, c, d, f⟩
theorem TT_.fr {S S2 : aw_S} {v ad ar : Nat → Nat} {PA : List (Nat × Nat)} {X : List Nat} {mb : Nat} {P : PS} (h : RC S v ad ar PA X mb P) {Q : Nat → Prop} (f : frS S S2 Q) (hQ : ∀ b, Q b → scr v b) {z : Tz} (t : TT_ S ad ar P z) : TT_ S2 ad ar P z := ⟨⟨NL.frq t.1.1 f (h.scq (fun b y => scr37 (hQ b y)) t.1), t.1.2⟩, t.2⟩
theorem m_write21 {S : aw_S} {v ad ar : Nat → Nat} {PA : List (Nat × Nat)} {X : List Nat} {mb : Nat} {P : PS} (h : RC S v ad ar PA X mb P) (hw : 3 ≤ pW P) {z : Tz} (t : TT_ S ad ar P z) : aw_M yX8_write cX8_write 2 (none : Option FieldType) (z.1 + 4) 0 0 [.ref (v 21), .ref (ad z.2.1)] S (fun r2 S2 => r2 = none ∧ ShW S2 (v 21) (v 22) (txt z.1 z.2) ∧ RC S2 v ad ar PA X mb P ∧ keepX X S S2 ∧ frS S S2 (Qsh (v 21) (v 22))) := by
  obtain ⟨h4, -, h5⟩ := t.2.h4 hw
  have h60 := t.2.2.2.1
  refine (m_Sh_write (lw_Sh21 h.L) t.1.1 (by omega) (h.scq (fun b y => scr37 (scr_Sh21 v b y)) t.1) t.2.2.1 (by omega)).post (fun r2 S2 hp => ?_)
  obtain ⟨a, b, f⟩ := hp
  obtain ⟨c, d⟩ := h.scr f (scr_Sh21 v)
  exact ⟨a, b, c, d, f⟩
theorem m_write23 {S : aw_S} {v ad ar : Nat → Nat} {PA : List (Nat × Nat)} {X : List Nat} {mb : Nat} {P : PS} (h : RC S v ad ar PA X mb P) (hw : 3 ≤ pW P) {z : Tz} (t : TT_ S ad ar P z) : aw_M yX8_write cX8_write 2 (none : Option FieldType) (z.1 + 4) 0 0 [.ref (v 23), .ref (ad z.2.1)] S (fun r2 S2 => r2 = none ∧ ShW S2 (v 23) (v 24) (txt z.1 z.2) ∧ RC S2 v ad ar PA X mb P ∧ keepX X S S2 ∧ frS S S2 (Qsh (v 23) (v 24))) := by
  obtain ⟨h4, -, h5⟩ := t.2.h4 hw
  have h60 := t.2.2.2.1
  refine (m_Sh_write (lw_Sh23 h.L) t.1.1 (by omega) (h.scq (fun b y => scr37 (scr_Sh23 v b y)) t.1) t.2.2.1 (by omega)).post (fun r2 S2 hp => ?_)
  obtain ⟨a, b, f⟩ := hp
  obtain ⟨c, d⟩ := h.scr f (scr_Sh23 v)
  exact ⟨a, b, c, d, f⟩
