theorem nI_2 (n : Nat) : 2 * nI n = nI (2 * n) := (Int32.ofNat_mul 2 n).symm
theorem nI_m1 (n : Nat) : nI (n + 1) + -1 = nI n := by
  have h := nI_pred n
  rw [Int32.sub_eq_add_neg] at h
  exact h
/-- the same addresses, kinds, lengths, references; other cells than P's as they were; marks too -/
def frS (S S2 : aw_S) (P : Nat → Prop) : Prop := sL S2 = sL S ∧ sK S2 = sK S ∧ sR S2 = sR S ∧ sN S2 = sN S ∧ sJ S2 = sJ S ∧ sB S2 = sB S ∧ (∀ b F, F = 260 ∨ F = 256 → sI S2 F b = sI S F b) ∧ (∀ b, ¬ P b → (∀ F, sI S2 F b = sI S F b) ∧ sA S2 b = sA S b ∧ sQ S2 b = sQ S b)
theorem frS.rf {S : aw_S} {P : Nat → Prop} : frS S S P := ⟨rfl, rfl, rfl, rfl, rfl, rfl, fun _ _ _ => rfl, fun _ _ => ⟨fun _ => rfl, rfl, rfl⟩⟩
theorem frS.tr {S S2 S3 : aw_S} {P Q T : Nat → Prop} (h : frS S S2 P) (h2 : frS S2 S3 Q) (hP : ∀ b, P b → T b) (hQ : ∀ b, Q b → T b) : frS S S3 T := by
  obtain ⟨a1, a2, a3, a4, a5, a6, a7, a8⟩ := h
  obtain ⟨b1, b2, b3, b4, b5, b6, b7, b8⟩ := h2
  refine ⟨b1.trans a1, b2.trans a2, b3.trans a3, b4.trans a4, b5.trans a5, b6.trans a6, fun b F hF => (b7 b F hF).trans (a7 b F hF), fun b n => ?_⟩
  obtain ⟨c1, c2, c3⟩ := a8 b (fun z => n (hP b z))
  obtain ⟨d1, d2, d3⟩ := b8 b (fun z => n (hQ b z))
  exact ⟨fun F => (d1 F).trans (c1 F), d2.trans c2, d3.trans c3⟩
theorem frS.mono {S S2 : aw_S} {P T : Nat → Prop} (h : frS S S2 P) (hP : ∀ b, P b → T b) : frS S S2 T := h.tr frS.rf hP (fun _ (z : False) => z.elim)
theorem frS_wI {S : aw_S} {F a : Nat} {v : Int32} (hF : F ≠ 260 ∧ F ≠ 256) : frS S (wI S F a v) (fun b => b = a) := ⟨rfl, rfl, rfl, rfl, rfl, rfl, fun b G hG => by rw [sI_wI, if_neg (fun z => hG.elim (fun y => hF.1 (z.1.symm.trans y)) (fun y => hF.2 (z.1.symm.trans y)))], fun b n => ⟨fun G => by rw [sI_wI, if_neg (fun z => n z.2)], rfl, rfl⟩⟩
theorem frS_wA {S : aw_S} {a k : Nat} {v : Int32} : frS S (wA S a k v) (fun b => b = a) := ⟨rfl, rfl, rfl, rfl, rfl, rfl, fun _ _ _ => rfl, fun b n => ⟨fun _ => rfl, va_up_ne _ _ n, rfl⟩⟩
theorem frS_wQ {S : aw_S} {a k : Nat} {v : Option Nat} : frS S (wQ S a k v) (fun b => b = a) := ⟨rfl, rfl, rfl, rfl, rfl, rfl, fun _ _ _ => rfl, fun b n => ⟨fun _ => rfl, rfl, va_up_ne _ _ n⟩⟩
theorem frS.is {S S2 : aw_S} {P : Nat → Prop} (h : frS S S2 P) {a c : Nat} (k : aw_is S a c) : aw_is S2 a c := ⟨by rw [h.1]; exact k.1, by rw [h.2.1]; exact k.2⟩
/-- what a slot of a node holds: an entry, or a child -/
abbrev KV : Type := Int32 × Int32
abbrev SD : Type := KV ⊕ Option Nat
def sl (lf : Bool) (S : aw_S) (e k : Nat) : SD := if lf then .inl (sA S e (2 * k), sA S e (2 * k + 1)) else .inr (sQ S e k)
def wsl (S : aw_S) (e k : Nat) (x : SD) : aw_S := match x with
  | .inl p => wA (wA S e (2 * k) p.1) e (2 * k + 1) p.2
  | .inr q => wQ S e k q
/-- a slot's content is of the right sort -/
def okS (S : aw_S) (lf : Bool) (x : SD) : Prop := match x with
  | .inl _ => lf = true
  | .inr q => lf = false ∧ ∀ b, q = some b → aw_is S b 4
theorem frS_wsl {S : aw_S} {e k : Nat} {x : SD} : frS S (wsl S e k x) (fun b => b = e) := by
  cases x with
  | inl p => exact frS_wA.tr frS_wA (fun _ z => z) (fun _ z => z)
  | inr q => exact frS_wQ
theorem sl_wsl {S : aw_S} {lf : Bool} {e k : Nat} {x : SD} (ok : okS S lf x) (j : Nat) : sl lf (wsl S e k x) e j = if j = k then x else sl lf S e j := by
  cases x with
  | inl p =>
    have h : lf = true := ok
    subst h
    show Sum.inl (sA (wA (wA S e (2 * k) p.1) e (2 * k + 1) p.2) e (2 * j), sA (wA (wA S e (2 * k) p.1) e (2 * k + 1) p.2) e (2 * j + 1)) = _
    rw [sA_wA, sA_wA, sA_wA, sA_wA]
    by_cases h : j = k
    · subst h
      rw [if_neg (by omega), if_pos ⟨rfl, rfl⟩, if_pos ⟨rfl, rfl⟩, if_pos rfl]
    · rw [if_neg (by omega), if_neg (by omega), if_neg (by omega), if_neg (by omega), if_neg h]
      rfl
  | inr q =>
    have h : lf = false := ok.1
    subst h
    show Sum.inr (sQ (wQ S e k q) e j) = _
    rw [sQ_wQ]
    by_cases h : j = k
    · rw [if_pos ⟨rfl, h⟩, if_pos h]
    · rw [if_neg (fun z => h z.2), if_neg h]
      rfl
theorem sl_fr {S S2 : aw_S} {P : Nat → Prop} (h : frS S S2 P) {lf : Bool} {e k : Nat} (n : ¬ P e) : sl lf S2 e k = sl lf S e k := by
  obtain ⟨-, h1, h2⟩ := h.2.2.2.2.2.2.2 e n
  unfold sl
  rw [h1, h2]
/-- a node at a, its row e, n slots -/
def NW (S : aw_S) (a : Nat) (lf : Bool) (e n : Nat) : Prop := aw_is S a 4 ∧ sR S 257 a = (if lf then some e else none) ∧ sR S 258 a = (if lf then none else some e) ∧ aw_is S e (if lf then 13 else 16) ∧ sN S e = (if lf then 14 else 7) ∧ sI S 259 a = nI n ∧ n ≤ 7
/-- its slots are as the list says -/
def NL (S : aw_S) (a : Nat) (lf : Bool) (e : Nat) (l : List SD) : Prop := NW S a lf e l.length ∧ ∀ k x, l[k]? = some x → sl lf S e k = x ∧ okS S lf x
theorem NW.ne {S : aw_S} {a e n : Nat} {lf : Bool} (h : NW S a lf e n) : e ≠ a := by
  intro z
  have h1 := h.1.2
  have h2 := h.2.2.2.1.2
  rw [z, h1] at h2
  cases lf <;> simp at h2
theorem NW.fr {S S2 : aw_S} {P : Nat → Prop} {a e n m : Nat} {lf : Bool} (h : NW S a lf e n) (f : frS S S2 P) (hn : sI S2 259 a = nI m) (hm : m ≤ 7) : NW S2 a lf e m := by
  obtain ⟨h1, h2, h3, h4, h5, h6, h7⟩ := h
  exact ⟨f.is h1, by rw [f.2.2.1]; exact h2, by rw [f.2.2.1]; exact h3, f.is h4, by rw [f.2.2.2.1]; exact h5, hn, hm⟩
theorem okS.fr {S S2 : aw_S} {P : Nat → Prop} {lf : Bool} {x : SD} (h : okS S lf x) (f : frS S S2 P) : okS S2 lf x := by
  cases x with
  | inl p => exact h
  | inr q => exact ⟨h.1, fun b hb => f.is (h.2 b hb)⟩
theorem NL.fr {S S2 : aw_S} {P : Nat → Prop} {a e : Nat} {lf : Bool} {l : List SD} (h : NL S a lf e l) (f : frS S S2 P) (na : ¬ P a) (ne : ¬ P e) : NL S2 a lf e l := ⟨h.1.fr f (by rw [(f.2.2.2.2.2.2.2 a na).1 259]; exact h.1.2.2.2.2.2.1) h.1.2.2.2.2.2.2, fun k x hx => ⟨by rw [sl_fr f ne]; exact (h.2 k x hx).1, (h.2 k x hx).2.fr f⟩⟩
set_option maxHeartbeats 4000000 in
set_option maxRecDepth 100000 in
theorem m_X4_copySlot_l {S : aw_S} {a f e fe n m t p : Nat} (h : NW S a true e n) (h2 : NW S f true fe m) (ht : t < 7) (hp : p < 7) : aw_M yX4_copySlot cX4_copySlot 4 (none : Option FieldType) 0 0 0 [.ref a, .int (nI t), .ref f, .int (nI p)] S (fun r S2 => r = none ∧ S2 = wsl S e t (sl true S fe p)) := by
  refine aw_enter (by decide +kernel) (Nat.le_of_ble_eq_true rfl) (fun g K E => ?_)
  obtain ⟨o, hE, hK, oe, hN, hs, hn⟩ := h
  obtain ⟨o2, hE2, hK2, oe2, hN2, hs2, hn2⟩ := h2
  simp only [if_true, if_false, Bool.false_eq_true, reduceIte] at hE hK oe hN hE2 hK2 oe2 hN2
  refine a_iload_n K dX4_copySlot_0 rfl ?_
  refine a_if_lt K dX4_copySlot_1 (tgt := 20) (by decide) (fun c_1 => absurd c_1 (nI_pos (show t < 2 ^ 31 by omega))) (fun c_1 => ?_)
  refine a_iload_n K dX4_copySlot_4 rfl ?_
  refine a_bipush K dX4_copySlot_5 (v := 7) (by decide) ?_
  refine a_icmp_ge K dX4_copySlot_7 (tgt := 20) (by decide) (fun c_7 => absurd c_7 (nI_ge (b := 7) ht (by omega))) (fun c_7 => ?_)
  refine a_iload_n K dX4_copySlot_10 rfl ?_
  refine a_if_lt K dX4_copySlot_11 (tgt := 20) (by decide) (fun c_11 => absurd c_11 (nI_pos (show p < 2 ^ 31 by omega))) (fun c_11 => ?_)
  refine a_iload_n K dX4_copySlot_14 rfl ?_
  refine a_bipush K dX4_copySlot_15 (v := 7) (by decide) ?_
  refine a_icmp_lt K dX4_copySlot_17 (tgt := 21) (by decide) (fun c_17 => ?_) (fun c_17 => absurd c_17 (fun z => z (nI_lt (b := 7) hp (by omega))))
  first | refine a_aload_n K dX4_copySlot_21 rfl ?_ | refine a_aload_nN K dX4_copySlot_21 rfl ?_
  refine a_getRs K fd_X4_15 (by assumption) (Or.inr ⟨_, rfl⟩) (by assumption) dX4_copySlot_22 ?_
  refine a_ifnull K dX4_copySlot_25 ?_
  first | refine a_aload_n K dX4_copySlot_28 rfl ?_ | refine a_aload_nN K dX4_copySlot_28 rfl ?_
  refine a_getRs K fd_X4_15 (by assumption) (Or.inr ⟨_, rfl⟩) (by assumption) dX4_copySlot_29 ?_
  refine a_ifnull K dX4_copySlot_32 ?_
  first | refine a_aload_n K dX4_copySlot_35 rfl ?_ | refine a_aload_nN K dX4_copySlot_35 rfl ?_
  refine a_getRs K fd_X4_15 (by assumption) (Or.inr ⟨_, rfl⟩) (by assumption) dX4_copySlot_36 ?_
  refine a_iconst K dX4_copySlot_39 (v := 2) (by decide) ?_
  refine a_iload_n K dX4_copySlot_40 rfl ?_
  refine a_imul K dX4_copySlot_41 ?_
  rw [nI_2]
  first | refine a_aload_n K dX4_copySlot_42 rfl ?_ | refine a_aload_nN K dX4_copySlot_42 rfl ?_
  refine a_getRs K fd_X4_15 (by assumption) (Or.inr ⟨_, rfl⟩) (by assumption) dX4_copySlot_43 ?_
  refine a_iconst K dX4_copySlot_46 (v := 2) (by decide) ?_
  refine a_iload_n K dX4_copySlot_47 rfl ?_
  refine a_imul K dX4_copySlot_48 ?_
  rw [nI_2]
  refine a_iald K (by assumption) (by rw [hN2]; exact vp_in_nI (by omega) (by omega)) dX4_copySlot_49 ?_
  refine a_iast K (by assumption) (by rw [hN]; exact vp_in_nI (by omega) (by omega)) dX4_copySlot_50 ?_
  first | refine a_aload_n K dX4_copySlot_51 rfl ?_ | refine a_aload_nN K dX4_copySlot_51 rfl ?_
  refine a_getRs K fd_X4_15 (by assumption) (Or.inr ⟨_, rfl⟩) (by assumption) dX4_copySlot_52 ?_
  refine a_iconst K dX4_copySlot_55 (v := 2) (by decide) ?_
  refine a_iload_n K dX4_copySlot_56 rfl ?_
  refine a_imul K dX4_copySlot_57 ?_
  rw [nI_2]
  refine a_iconst K dX4_copySlot_58 (v := 1) (by decide) ?_
  refine a_iadd K dX4_copySlot_59 ?_
  rw [show nI (2 * t) + 1 = nI (2 * t + 1) from nI_1 _]
  first | refine a_aload_n K dX4_copySlot_60 rfl ?_ | refine a_aload_nN K dX4_copySlot_60 rfl ?_
  refine a_getRs K fd_X4_15 (by assumption) (Or.inr ⟨_, rfl⟩) (by assumption) dX4_copySlot_61 ?_
  refine a_iconst K dX4_copySlot_64 (v := 2) (by decide) ?_
  refine a_iload_n K dX4_copySlot_65 rfl ?_
  refine a_imul K dX4_copySlot_66 ?_
  rw [nI_2]
  refine a_iconst K dX4_copySlot_67 (v := 1) (by decide) ?_
  refine a_iadd K dX4_copySlot_68 ?_
  rw [show nI (2 * p) + 1 = nI (2 * p + 1) from nI_1 _]
  refine a_iald K (by assumption) (by show vp_in _ (sN S fe); rw [hN2]; exact vp_in_nI (by omega) (by omega)) dX4_copySlot_69 ?_
  refine a_iast K (by assumption) (by show vp_in _ (sN S e); rw [hN]; exact vp_in_nI (by omega) (by omega)) dX4_copySlot_70 ?_
  first | refine a_aload_n K dX4_copySlot_71 rfl ?_ | refine a_aload_nN K dX4_copySlot_71 rfl ?_
  refine a_getRn K fd_X4_19 (by assumption) (Or.inr ⟨_, rfl⟩) (by assumption) dX4_copySlot_72 ?_
  refine a_ifnullN K dX4_copySlot_75 (tgt := 97) (by decide) ?_
  exact a_vret K E (by omega) (by omega) dX4_copySlot_97 ⟨rfl, by rw [nI_clamp (show 2 * t < 2 ^ 31 by omega), nI_clamp (show 2 * p < 2 ^ 31 by omega), nI_clamp (show 2 * t + 1 < 2 ^ 31 by omega), nI_clamp (show 2 * p + 1 < 2 ^ 31 by omega), sA_wA, if_neg (by omega)]; rfl⟩
set_option maxHeartbeats 4000000 in
set_option maxRecDepth 100000 in
theorem m_X4_copySlot_k {S : aw_S} {a f e fe n m t p : Nat} (h : NW S a false e n) (h2 : NW S f false fe m) (ht : t < 7) (hp : p < 7) (ok : ∀ b, sQ S fe p = some b → aw_is S b 4) : aw_M yX4_copySlot cX4_copySlot 4 (none : Option FieldType) 0 0 0 [.ref a, .int (nI t), .ref f, .int (nI p)] S (fun r S2 => r = none ∧ S2 = wsl S e t (sl false S fe p)) := by
  refine aw_enter (by decide +kernel) (Nat.le_of_ble_eq_true rfl) (fun g K E => ?_)
  obtain ⟨o, hE, hK, oe, hN, hs, hn⟩ := h
  obtain ⟨o2, hE2, hK2, oe2, hN2, hs2, hn2⟩ := h2
  simp only [if_true, if_false, Bool.false_eq_true, reduceIte] at hE hK oe hN hE2 hK2 oe2 hN2
  rcases hq : sQ S fe p with _ | b
  · refine a_iload_n K dX4_copySlot_0 rfl ?_
    refine a_if_lt K dX4_copySlot_1 (tgt := 20) (by decide) (fun c_1 => absurd c_1 (nI_pos (show t < 2 ^ 31 by omega))) (fun c_1 => ?_)
    refine a_iload_n K dX4_copySlot_4 rfl ?_
    refine a_bipush K dX4_copySlot_5 (v := 7) (by decide) ?_
    refine a_icmp_ge K dX4_copySlot_7 (tgt := 20) (by decide) (fun c_7 => absurd c_7 (nI_ge (b := 7) ht (by omega))) (fun c_7 => ?_)
    refine a_iload_n K dX4_copySlot_10 rfl ?_
    refine a_if_lt K dX4_copySlot_11 (tgt := 20) (by decide) (fun c_11 => absurd c_11 (nI_pos (show p < 2 ^ 31 by omega))) (fun c_11 => ?_)
    refine a_iload_n K dX4_copySlot_14 rfl ?_
    refine a_bipush K dX4_copySlot_15 (v := 7) (by decide) ?_
    refine a_icmp_lt K dX4_copySlot_17 (tgt := 21) (by decide) (fun c_17 => ?_) (fun c_17 => absurd c_17 (fun z => z (nI_lt (b := 7) hp (by omega))))
    first | refine a_aload_n K dX4_copySlot_21 rfl ?_ | refine a_aload_nN K dX4_copySlot_21 rfl ?_
    refine a_getRn K fd_X4_15 (by assumption) (Or.inr ⟨_, rfl⟩) (by assumption) dX4_copySlot_22 ?_
    refine a_ifnullN K dX4_copySlot_25 (tgt := 71) (by decide) ?_
    first | refine a_aload_n K dX4_copySlot_71 rfl ?_ | refine a_aload_nN K dX4_copySlot_71 rfl ?_
    refine a_getRs K fd_X4_19 (by assumption) (Or.inr ⟨_, rfl⟩) (by assumption) dX4_copySlot_72 ?_
    refine a_ifnull K dX4_copySlot_75 ?_
    first | refine a_aload_n K dX4_copySlot_78 rfl ?_ | refine a_aload_nN K dX4_copySlot_78 rfl ?_
    refine a_getRs K fd_X4_19 (by assumption) (Or.inr ⟨_, rfl⟩) (by assumption) dX4_copySlot_79 ?_
    refine a_ifnull K dX4_copySlot_82 ?_
    first | refine a_aload_n K dX4_copySlot_85 rfl ?_ | refine a_aload_nN K dX4_copySlot_85 rfl ?_
    refine a_getRs K fd_X4_19 (by assumption) (Or.inr ⟨_, rfl⟩) (by assumption) dX4_copySlot_86 ?_
    refine a_iload_n K dX4_copySlot_89 rfl ?_
    first | refine a_aload_n K dX4_copySlot_90 rfl ?_ | refine a_aload_nN K dX4_copySlot_90 rfl ?_
    refine a_getRs K fd_X4_19 (by assumption) (Or.inr ⟨_, rfl⟩) (by assumption) dX4_copySlot_91 ?_
    refine a_iload_n K dX4_copySlot_94 rfl ?_
    refine a_aaldN K (by assumption) (by rw [hN2]; exact vp_in_nI (by omega) (by omega)) dX4_copySlot_95 ?_
    rw [nI_clamp (show p < 2 ^ 31 by omega), hq]
    refine a_aastNN K (by assumption) (by rw [hN]; exact vp_in_nI (by omega) (by omega)) dX4_copySlot_96 ?_
    exact a_vret K E (by omega) (by omega) dX4_copySlot_97 ⟨rfl, by rw [nI_clamp (show t < 2 ^ 31 by omega)]; show _ = wQ S e t (sQ S fe p); rw [hq]⟩
  · refine a_iload_n K dX4_copySlot_0 rfl ?_
    refine a_if_lt K dX4_copySlot_1 (tgt := 20) (by decide) (fun c_1 => absurd c_1 (nI_pos (show t < 2 ^ 31 by omega))) (fun c_1 => ?_)
    refine a_iload_n K dX4_copySlot_4 rfl ?_
    refine a_bipush K dX4_copySlot_5 (v := 7) (by decide) ?_
    refine a_icmp_ge K dX4_copySlot_7 (tgt := 20) (by decide) (fun c_7 => absurd c_7 (nI_ge (b := 7) ht (by omega))) (fun c_7 => ?_)
    refine a_iload_n K dX4_copySlot_10 rfl ?_
    refine a_if_lt K dX4_copySlot_11 (tgt := 20) (by decide) (fun c_11 => absurd c_11 (nI_pos (show p < 2 ^ 31 by omega))) (fun c_11 => ?_)
    refine a_iload_n K dX4_copySlot_14 rfl ?_
    refine a_bipush K dX4_copySlot_15 (v := 7) (by decide) ?_
    refine a_icmp_lt K dX4_copySlot_17 (tgt := 21) (by decide) (fun c_17 => ?_) (fun c_17 => absurd c_17 (fun z => z (nI_lt (b := 7) hp (by omega))))
    first | refine a_aload_n K dX4_copySlot_21 rfl ?_ | refine a_aload_nN K dX4_copySlot_21 rfl ?_
    refine a_getRn K fd_X4_15 (by assumption) (Or.inr ⟨_, rfl⟩) (by assumption) dX4_copySlot_22 ?_
    refine a_ifnullN K dX4_copySlot_25 (tgt := 71) (by decide) ?_
    first | refine a_aload_n K dX4_copySlot_71 rfl ?_ | refine a_aload_nN K dX4_copySlot_71 rfl ?_
    refine a_getRs K fd_X4_19 (by assumption) (Or.inr ⟨_, rfl⟩) (by assumption) dX4_copySlot_72 ?_
    refine a_ifnull K dX4_copySlot_75 ?_
    first | refine a_aload_n K dX4_copySlot_78 rfl ?_ | refine a_aload_nN K dX4_copySlot_78 rfl ?_
    refine a_getRs K fd_X4_19 (by assumption) (Or.inr ⟨_, rfl⟩) (by assumption) dX4_copySlot_79 ?_
    refine a_ifnull K dX4_copySlot_82 ?_
    first | refine a_aload_n K dX4_copySlot_85 rfl ?_ | refine a_aload_nN K dX4_copySlot_85 rfl ?_
    refine a_getRs K fd_X4_19 (by assumption) (Or.inr ⟨_, rfl⟩) (by assumption) dX4_copySlot_86 ?_
    refine a_iload_n K dX4_copySlot_89 rfl ?_
    first | refine a_aload_n K dX4_copySlot_90 rfl ?_ | refine a_aload_nN K dX4_copySlot_90 rfl ?_
    refine a_getRs K fd_X4_19 (by assumption) (Or.inr ⟨_, rfl⟩) (by assumption) dX4_copySlot_91 ?_
    refine a_iload_n K dX4_copySlot_94 rfl ?_
    refine a_aaldN K (by assumption) (by rw [hN2]; exact vp_in_nI (by omega) (by omega)) dX4_copySlot_95 ?_
    rw [nI_clamp (show p < 2 ^ 31 by omega), hq]
    refine a_aastN K (by assumption) (ok b hq) (by rw [hN]; exact vp_in_nI (by omega) (by omega)) dX4_copySlot_96 ?_
    exact a_vret K E (by omega) (by omega) dX4_copySlot_97 ⟨rfl, by rw [nI_clamp (show t < 2 ^ 31 by omega)]; show _ = wQ S e t (sQ S fe p); rw [hq]⟩
theorem m_X4_copySlot {S : aw_S} {a f e fe n m t p : Nat} {lf : Bool} (h : NW S a lf e n) (h2 : NW S f lf fe m) (ht : t < 7) (hp : p < 7) (ok : okS S lf (sl lf S fe p)) : aw_M yX4_copySlot cX4_copySlot 4 (none : Option FieldType) 0 0 0 [.ref a, .int (nI t), .ref f, .int (nI p)] S (fun r S2 => r = none ∧ S2 = wsl S e t (sl lf S fe p)) := by
  cases lf with
  | true => exact m_X4_copySlot_l h h2 ht hp
  | false => exact m_X4_copySlot_k h h2 ht hp (fun b hb => ok.2 b hb)
set_option maxHeartbeats 4000000 in
set_option maxRecDepth 100000 in
theorem m_X4_openSlot {S : aw_S} {a e n p : Nat} {lf : Bool} (h : NW S a lf e n) (hp : p ≤ n) (h7 : n < 7) (ok : ∀ k, k < n → okS S lf (sl lf S e k)) : aw_M yX4_openSlot cX4_openSlot 3 (none : Option FieldType) 1 0 0 [.ref a, .int (nI p)] S (fun r S2 => r = none ∧ NW S2 a lf e (n + 1) ∧ frS S S2 (fun b => b = a ∨ b = e) ∧ ∀ k, k < 7 → sl lf S2 e k = if p < k ∧ k ≤ n then sl lf S e (k - 1) else sl lf S e k) := by
  have o := h.1
  have hs := h.2.2.2.2.2.1
  refine aw_enter (by decide +kernel) (Nat.le_of_ble_eq_true rfl) (fun g K E => ?_)
  have loop : ∀ (i : Nat) (x : Int32) (T : aw_S), x = nI (p + i) → p + i ≤ n → (NW T a lf e n ∧ frS S T (fun b => b = e) ∧ ∀ k, k < 7 → sl lf T e k = if p + i < k ∧ k ≤ n then sl lf S e (k - 1) else sl lf S e k) → aw g 3 T 0 0 [(2, .int x), (1, .int (nI p)), (0, .ref a)] [] 27 := by
    intro i
    induction i with
    | zero =>
      intro x T hx hi ⟨hT, fT, hv⟩
      have oT := hT.1
      subst hx
      rw [Nat.add_zero] at hi ⊢
      simp only [Nat.add_zero] at hv
      refine a_iload_n K dX4_openSlot_27 rfl ?_
      refine a_iload_n K dX4_openSlot_28 rfl ?_
      refine a_icmp_le K dX4_openSlot_29 (tgt := 47) (by decide) (fun c_29 => ?_) (fun c_29 => absurd c_29 (fun z => z (nI_le (by omega) (by omega))))
      first | refine a_aload_n K dX4_openSlot_47 rfl ?_ | refine a_aload_nN K dX4_openSlot_47 rfl ?_
      refine a_dup K dX4_openSlot_48 rfl ?_
      refine a_getI K fd_X4_30 (by assumption) (Or.inl rfl) dX4_openSlot_49 ?_
      rw [hT.2.2.2.2.2.1]
      refine a_iconst K dX4_openSlot_52 (v := 1) (by decide) ?_
      refine a_iadd K dX4_openSlot_53 ?_
      rw [nI_1]
      refine a_putI K fd_X4_30 (by assumption) rfl dX4_openSlot_54 ?_
      exact a_vret K E (by omega) (by omega) dX4_openSlot_57 ⟨rfl, hT.fr (frS_wI (by decide)) wI_at (by omega), fT.tr (frS_wI (by decide)) (fun _ z => Or.inr z) (fun _ z => Or.inl z), fun k hk => (sl_fr (frS_wI (by decide)) hT.ne).trans (hv k hk)⟩
    | succ i ih =>
      intro x T hx hi ⟨hT, fT, hv⟩
      have oT := hT.1
      subst hx
      refine a_iload_n K dX4_openSlot_27 rfl ?_
      refine a_iload_n K dX4_openSlot_28 rfl ?_
      refine a_icmp_le K dX4_openSlot_29 (tgt := 47) (by decide) (fun c_29 => absurd c_29 (nI_ge (show p < p + (i + 1) by omega) (by omega))) (fun c_29 => ?_)
      first | refine a_aload_n K dX4_openSlot_32 rfl ?_ | refine a_aload_nN K dX4_openSlot_32 rfl ?_
      refine a_iload_n K dX4_openSlot_33 rfl ?_
      first | refine a_aload_n K dX4_openSlot_34 rfl ?_ | refine a_aload_nN K dX4_openSlot_34 rfl ?_
      refine a_iload_n K dX4_openSlot_35 rfl ?_
      refine a_iconst K dX4_openSlot_36 (v := 1) (by decide) ?_
      refine a_isub K dX4_openSlot_37 ?_
      rw [show nI (p + (i + 1)) - 1 = nI (p + i) from nI_pred (p + i)]
      refine a_invV K (m_X4_copySlot (t := p + i + 1) (p := p + i) hT hT (by omega) (by omega) (by rw [hv (p + i) (by omega), if_neg (by omega)]; exact (ok _ (by omega)).fr fT)) my_X4_copySlot ml_X4_70 im_X4_copySlot se_X4_copySlot (ci := 4) (by assumption) (by decide) ⟨_, _, rfl⟩ rfl (by omega) (by omega) (by omega) rfl (Nat.le_of_ble_eq_true rfl) dX4_openSlot_38 ?_
      intro r9 T2 hp9
      obtain ⟨rfl, hT2⟩ := hp9
      have f2 := frS_wsl (S := T) (e := e) (k := p + i + 1) (x := sl lf T e (p + i))
      rw [← hT2] at f2
      refine a_iinc K dX4_openSlot_41 (v := -1) rfl (by decide) (by decide) ?_
      refine a_goto K dX4_openSlot_44 (tgt := 27) (by decide) ?_
      exact aw_locl rfl (ih _ T2 (nI_m1 (p + i)) (by omega) ⟨hT.fr f2 ((f2.2.2.2.2.2.2.2 a (fun z => hT.ne z.symm)).1 259 ▸ hT.2.2.2.2.2.1) (by omega), fT.tr f2 (fun _ z => z) (fun _ z => z), fun k hk => by
        rw [hT2, sl_wsl (by rw [hv (p + i) (by omega), if_neg (by omega)]; exact (ok _ (by omega)).fr fT), hv k hk, hv (p + i) (by omega)]
        by_cases h1 : k = p + i + 1
        · subst h1
          rw [if_pos rfl, if_neg (by omega), if_pos (by omega)]
          rfl
        · rw [if_neg h1]
          by_cases h2 : p + i < k ∧ k ≤ n
          · rw [if_pos (by omega), if_pos h2]
          · rw [if_neg (by omega), if_neg h2]⟩)
  refine a_iload_n K dX4_openSlot_0 rfl ?_
  refine a_if_lt K dX4_openSlot_1 (tgt := 21) (by decide) (fun c_1 => absurd c_1 (nI_pos (show p < 2 ^ 31 by omega))) (fun c_1 => ?_)
  refine a_iload_n K dX4_openSlot_4 rfl ?_
  first | refine a_aload_n K dX4_openSlot_5 rfl ?_ | refine a_aload_nN K dX4_openSlot_5 rfl ?_
  refine a_getI K fd_X4_30 (by assumption) (Or.inl rfl) dX4_openSlot_6 ?_
  refine a_icmp_gt K dX4_openSlot_9 (tgt := 21) (by decide) (fun c_9 => absurd c_9 (by rw [hs]; exact fun z => absurd (nI_le hp (by omega)) (Int32.not_le.mpr z))) (fun c_9 => ?_)
  first | refine a_aload_n K dX4_openSlot_12 rfl ?_ | refine a_aload_nN K dX4_openSlot_12 rfl ?_
  refine a_getI K fd_X4_30 (by assumption) (Or.inl rfl) dX4_openSlot_13 ?_
  refine a_bipush K dX4_openSlot_16 (v := 7) (by decide) ?_
  refine a_icmp_lt K dX4_openSlot_18 (tgt := 22) (by decide) (fun c_18 => ?_) (fun c_18 => absurd c_18 (fun z => z (by rw [hs]; exact nI_lt (b := 7) h7 (by omega))))
  first | refine a_aload_n K dX4_openSlot_22 rfl ?_ | refine a_aload_nN K dX4_openSlot_22 rfl ?_
  refine a_getI K fd_X4_30 (by assumption) (Or.inl rfl) dX4_openSlot_23 ?_
  refine a_istore_n K dX4_openSlot_26 (by decide) ?_
  rw [hs]
  exact aw_locl rfl (loop (n - p) _ S (by rw [Nat.add_sub_cancel' hp]) (by omega) ⟨h, frS.rf, fun k hk => by rw [if_neg (by omega)]⟩)
set_option maxHeartbeats 4000000 in
set_option maxRecDepth 100000 in
theorem m_X4_closeSlot {S : aw_S} {a e n p : Nat} {lf : Bool} (h : NW S a lf e n) (hp : p < n) (ok : ∀ k, k < n → okS S lf (sl lf S e k)) : aw_M yX4_closeSlot cX4_closeSlot 3 (none : Option FieldType) 1 0 0 [.ref a, .int (nI p)] S (fun r S2 => r = none ∧ NW S2 a lf e (n - 1) ∧ frS S S2 (fun b => b = a ∨ b = e) ∧ ∀ k, k < 7 → sl lf S2 e k = if p ≤ k ∧ k < n - 1 then sl lf S e (k + 1) else sl lf S e k) := by
  have o := h.1
  have hs := h.2.2.2.2.2.1
  have hn := h.2.2.2.2.2.2
  have hm : nI n - 1 = nI (n - 1) := by
    obtain ⟨m, rfl⟩ : ∃ m, n = m + 1 := ⟨n - 1, by omega⟩
    exact nI_pred m
  refine aw_enter (by decide +kernel) (Nat.le_of_ble_eq_true rfl) (fun g K E => ?_)
  have loop : ∀ (i j : Nat) (x : Int32) (T : aw_S), x = nI j → j + i = n - 1 → p ≤ j → (NW T a lf e n ∧ frS S T (fun b => b = e) ∧ ∀ k, k < 7 → sl lf T e k = if p ≤ k ∧ k < j then sl lf S e (k + 1) else sl lf S e k) → aw g 3 T 0 0 [(2, .int x), (1, .int (nI p)), (0, .ref a)] [] 15 := by
    intro i
    induction i with
    | zero =>
      intro j x T hx hi hj ⟨hT, fT, hv⟩
      have oT := hT.1
      subst hx
      refine a_iload_n K dX4_closeSlot_15 rfl ?_
      first | refine a_aload_n K dX4_closeSlot_16 rfl ?_ | refine a_aload_nN K dX4_closeSlot_16 rfl ?_
      refine a_getI K fd_X4_30 (by assumption) (Or.inl rfl) dX4_closeSlot_17 ?_
      rw [hT.2.2.2.2.2.1]
      refine a_iconst K dX4_closeSlot_20 (v := 1) (by decide) ?_
      refine a_isub K dX4_closeSlot_21 ?_
      rw [hm]
      refine a_icmp_ge K dX4_closeSlot_22 (tgt := 40) (by decide) (fun c_22 => ?_) (fun c_22 => absurd c_22 (fun z => z (nI_le (by omega) (by omega))))
      first | refine a_aload_n K dX4_closeSlot_40 rfl ?_ | refine a_aload_nN K dX4_closeSlot_40 rfl ?_
      refine a_dup K dX4_closeSlot_41 rfl ?_
      refine a_getI K fd_X4_30 (by assumption) (Or.inl rfl) dX4_closeSlot_42 ?_
      rw [hT.2.2.2.2.2.1]
      refine a_iconst K dX4_closeSlot_45 (v := 1) (by decide) ?_
      refine a_isub K dX4_closeSlot_46 ?_
      rw [hm]
      refine a_putI K fd_X4_30 (by assumption) rfl dX4_closeSlot_47 ?_
      exact a_vret K E (by omega) (by omega) dX4_closeSlot_50 ⟨rfl, hT.fr (frS_wI (by decide)) wI_at (by omega), fT.tr (frS_wI (by decide)) (fun _ z => Or.inr z) (fun _ z => Or.inl z), fun k hk => by rw [sl_fr (frS_wI (by decide)) hT.ne, hv k hk, show j = n - 1 by omega]⟩
    | succ i ih =>
      intro j x T hx hi hj ⟨hT, fT, hv⟩
      have oT := hT.1
      subst hx
      refine a_iload_n K dX4_closeSlot_15 rfl ?_
      first | refine a_aload_n K dX4_closeSlot_16 rfl ?_ | refine a_aload_nN K dX4_closeSlot_16 rfl ?_
      refine a_getI K fd_X4_30 (by assumption) (Or.inl rfl) dX4_closeSlot_17 ?_
      rw [hT.2.2.2.2.2.1]
      refine a_iconst K dX4_closeSlot_20 (v := 1) (by decide) ?_
      refine a_isub K dX4_closeSlot_21 ?_
      rw [hm]
      refine a_icmp_ge K dX4_closeSlot_22 (tgt := 40) (by decide) (fun c_22 => absurd c_22 (nI_ge (show j < n - 1 by omega) (by omega))) (fun c_22 => ?_)
      first | refine a_aload_n K dX4_closeSlot_25 rfl ?_ | refine a_aload_nN K dX4_closeSlot_25 rfl ?_
      refine a_iload_n K dX4_closeSlot_26 rfl ?_
      first | refine a_aload_n K dX4_closeSlot_27 rfl ?_ | refine a_aload_nN K dX4_closeSlot_27 rfl ?_
      refine a_iload_n K dX4_closeSlot_28 rfl ?_
      refine a_iconst K dX4_closeSlot_29 (v := 1) (by decide) ?_
      refine a_iadd K dX4_closeSlot_30 ?_
      rw [nI_1]
      refine a_invV K (m_X4_copySlot (t := j) (p := j + 1) hT hT (by omega) (by omega) (by rw [hv (j + 1) (by omega), if_neg (by omega)]; exact (ok _ (by omega)).fr fT)) my_X4_copySlot ml_X4_70 im_X4_copySlot se_X4_copySlot (ci := 4) (by assumption) (by decide) ⟨_, _, rfl⟩ rfl (by omega) (by omega) (by omega) rfl (Nat.le_of_ble_eq_true rfl) dX4_closeSlot_31 ?_
      intro r9 T2 hp9
      obtain ⟨rfl, hT2⟩ := hp9
      have f2 := frS_wsl (S := T) (e := e) (k := j) (x := sl lf T e (j + 1))
      rw [← hT2] at f2
      refine a_iinc K dX4_closeSlot_34 (v := 1) rfl (by decide) (by decide) ?_
      refine a_goto K dX4_closeSlot_37 (tgt := 15) (by decide) ?_
      exact aw_locl rfl (ih (j + 1) _ T2 (nI_1 j) (by omega) (by omega) ⟨hT.fr f2 ((f2.2.2.2.2.2.2.2 a (fun z => hT.ne z.symm)).1 259 ▸ hT.2.2.2.2.2.1) (by omega), fT.tr f2 (fun _ z => z) (fun _ z => z), fun k hk => by
        rw [hT2, sl_wsl (by rw [hv (j + 1) (by omega), if_neg (by omega)]; exact (ok _ (by omega)).fr fT), hv k hk, hv (j + 1) (by omega)]
        by_cases h1 : k = j
        · subst h1
          rw [if_pos rfl, if_neg (by omega), if_pos (by omega)]
        · rw [if_neg h1]
          by_cases h2 : p ≤ k ∧ k < j
          · rw [if_pos h2, if_pos (by omega)]
          · rw [if_neg h2, if_neg (by omega)]⟩)
  refine a_iload_n K dX4_closeSlot_0 rfl ?_
  refine a_if_lt K dX4_closeSlot_1 (tgt := 12) (by decide) (fun c_1 => absurd c_1 (nI_pos (show p < 2 ^ 31 by omega))) (fun c_1 => ?_)
  refine a_iload_n K dX4_closeSlot_4 rfl ?_
  first | refine a_aload_n K dX4_closeSlot_5 rfl ?_ | refine a_aload_nN K dX4_closeSlot_5 rfl ?_
  refine a_getI K fd_X4_30 (by assumption) (Or.inl rfl) dX4_closeSlot_6 ?_
  refine a_icmp_lt K dX4_closeSlot_9 (tgt := 13) (by decide) (fun c_9 => ?_) (fun c_9 => absurd c_9 (fun z => z (by rw [hs]; exact nI_lt hp (by omega))))
  refine a_iload_n K dX4_closeSlot_13 rfl ?_
  refine a_istore_n K dX4_closeSlot_14 (by decide) ?_
  exact aw_locl rfl (loop (n - 1 - p) p _ S rfl (by omega) (by omega) ⟨h, frS.rf, fun k hk => by rw [if_neg (by omega)]⟩)
theorem NL.ok {S : aw_S} {a e : Nat} {lf : Bool} {l : List SD} (h : NL S a lf e l) (k : Nat) (hk : k < l.length) : okS S lf (sl lf S e k) := by
  obtain ⟨h1, h2⟩ := h.2 k l[k] (List.getElem?_eq_getElem hk)
  rw [h1]; exact h2
theorem NL.at_ {S : aw_S} {a e : Nat} {lf : Bool} {l : List SD} (h : NL S a lf e l) {k : Nat} {x : SD} (hk : l[k]? = some x) : sl lf S e k = x := (h.2 k x hk).1
theorem NL.erase {S S2 : aw_S} {a e p : Nat} {lf : Bool} {l : List SD} (h : NL S a lf e l) (hp : p < l.length) (h2 : NW S2 a lf e (l.length - 1)) (f : frS S S2 (fun b => b = a ∨ b = e)) (hv : ∀ k, k < 7 → sl lf S2 e k = if p ≤ k ∧ k < l.length - 1 then sl lf S e (k + 1) else sl lf S e k) : NL S2 a lf e (l.eraseIdx p) := by
  refine ⟨by rw [List.length_eraseIdx_of_lt hp]; exact h2, fun k x hx => ?_⟩
  have hk : k < l.length - 1 := by
    have := (List.getElem?_eq_some_iff.mp hx).1
    rw [List.length_eraseIdx_of_lt hp] at this
    exact this
  have h7 := h.1.2.2.2.2.2.2
  rw [List.getElem?_eraseIdx] at hx
  rw [hv k (by omega)]
  by_cases hc : k < p
  · rw [if_pos hc] at hx
    rw [if_neg (by omega)]
    exact ⟨(h.2 k x hx).1, (h.2 k x hx).2.fr f⟩
  · rw [if_neg hc] at hx
    rw [if_pos (by omega)]
    exact ⟨(h.2 (k + 1) x hx).1, (h.2 (k + 1) x hx).2.fr f⟩
set_option maxHeartbeats 4000000 in
set_option maxRecDepth 100000 in
theorem m_X4_removeKid {S : aw_S} {a e p : Nat} {lf : Bool} {l : List SD} (h : NL S a lf e l) (hp : p < l.length) : aw_M yX4_removeKid cX4_removeKid 2 (none : Option FieldType) 2 0 0 [.ref a, .int (nI p)] S (fun r S2 => r = none ∧ NL S2 a lf e (l.eraseIdx p) ∧ frS S S2 (fun b => b = a ∨ b = e)) := by
  have o := h.1.1
  refine aw_enter (by decide +kernel) (Nat.le_of_ble_eq_true rfl) (fun g K E => ?_)
  first | refine a_aload_n K dX4_removeKid_0 rfl ?_ | refine a_aload_nN K dX4_removeKid_0 rfl ?_
  refine a_iload_n K dX4_removeKid_1 rfl ?_
  refine a_invV K (m_X4_closeSlot h.1 hp h.ok) my_X4_closeSlot ml_X4_63 im_X4_closeSlot se_X4_closeSlot (ci := 4) (by assumption) (by decide) ⟨_, _, rfl⟩ rfl (by omega) (by omega) (by omega) rfl (Nat.le_of_ble_eq_true rfl) dX4_removeKid_2 ?_
  intro r9 T2 hp9
  obtain ⟨rfl, h2, f2, hv2⟩ := hp9
  exact a_vret K E (by omega) (by omega) dX4_removeKid_5 ⟨rfl, h.erase hp h2 f2 hv2, f2⟩
theorem NL.app {S : aw_S} {a e : Nat} {lf : Bool} {l : List SD} {x : SD} (h : NL S a lf e l) (h7 : l.length < 7) (ok : okS S lf x) : NL (wI (wsl S e l.length x) 259 a (nI (l.length + 1))) a lf e (l ++ [x]) := by
  have f1 := frS_wsl (S := S) (e := e) (k := l.length) (x := x)
  have f2 : frS S (wI (wsl S e l.length x) 259 a (nI (l.length + 1))) (fun b => b = a ∨ b = e) := f1.tr (frS_wI (by decide)) (fun _ z => Or.inr z) (fun _ z => Or.inl z)
  refine ⟨by rw [List.length_append, List.length_singleton]; exact h.1.fr f2 wI_at (by omega), fun k y hy => ?_⟩
  rw [sl_fr (frS_wI (by decide)) h.1.ne, sl_wsl ok]
  rw [List.getElem?_append] at hy
  by_cases hk : k < l.length
  · rw [if_pos hk] at hy
    rw [if_neg (by omega)]
    exact ⟨(h.2 k y hy).1, (h.2 k y hy).2.fr f2⟩
  · rw [if_neg hk] at hy
    have hk2 : k = l.length := by
      rcases Nat.lt_or_ge l.length k with z | z
      · rw [List.getElem?_eq_none (by simp; omega)] at hy
        exact absurd hy (by simp)
      · omega
    rw [if_pos hk2]
    rw [hk2, Nat.sub_self] at hy
    have hy2 : x = y := by simpa using hy
    rw [← hy2]
    exact ⟨rfl, ok.fr f2⟩
set_option maxHeartbeats 4000000 in
set_option maxRecDepth 100000 in
theorem m_X4_append {S : aw_S} {a e f fe p m : Nat} {lf : Bool} {l : List SD} (h : NL S a lf e l) (h2 : NW S f lf fe m) (h7 : l.length < 7) (hp : p < 7) (ok : okS S lf (sl lf S fe p)) : aw_M yX4_append cX4_append 3 (none : Option FieldType) 1 0 0 [.ref a, .ref f, .int (nI p)] S (fun r S2 => r = none ∧ NL S2 a lf e (l ++ [sl lf S fe p]) ∧ frS S S2 (fun b => b = a ∨ b = e)) := by
  have o := h.1.1
  have hs := h.1.2.2.2.2.2.1
  refine aw_enter (by decide +kernel) (Nat.le_of_ble_eq_true rfl) (fun g K E => ?_)
  first | refine a_aload_n K dX4_append_0 rfl ?_ | refine a_aload_nN K dX4_append_0 rfl ?_
  refine a_getI K fd_X4_30 (by assumption) (Or.inl rfl) dX4_append_1 ?_
  refine a_bipush K dX4_append_4 (v := 7) (by decide) ?_
  refine a_icmp_ge K dX4_append_6 (tgt := 29) (by decide) (fun c_6 => absurd c_6 (by rw [hs]; exact nI_ge (b := 7) h7 (by omega))) (fun c_6 => ?_)
  first | refine a_aload_n K dX4_append_9 rfl ?_ | refine a_aload_nN K dX4_append_9 rfl ?_
  first | refine a_aload_n K dX4_append_10 rfl ?_ | refine a_aload_nN K dX4_append_10 rfl ?_
  refine a_getI K fd_X4_30 (by assumption) (Or.inl rfl) dX4_append_11 ?_
  rw [hs]
  first | refine a_aload_n K dX4_append_14 rfl ?_ | refine a_aload_nN K dX4_append_14 rfl ?_
  refine a_iload_n K dX4_append_15 rfl ?_
  refine a_invV K (m_X4_copySlot h.1 h2 h7 hp ok) my_X4_copySlot ml_X4_70 im_X4_copySlot se_X4_copySlot (ci := 4) (by assumption) (by decide) ⟨_, _, rfl⟩ rfl (by omega) (by omega) (by omega) rfl (Nat.le_of_ble_eq_true rfl) dX4_append_16 ?_
  intro r9 T2 hp9
  obtain ⟨rfl, hT2⟩ := hp9
  have o2 : aw_is T2 a 4 := hT2 ▸ frS_wsl.is o
  first | refine a_aload_n K dX4_append_19 rfl ?_ | refine a_aload_nN K dX4_append_19 rfl ?_
  refine a_dup K dX4_append_20 rfl ?_
  refine a_getI K fd_X4_30 (by assumption) (Or.inl rfl) dX4_append_21 ?_
  refine a_iconst K dX4_append_24 (v := 1) (by decide) ?_
  refine a_iadd K dX4_append_25 ?_
  refine a_putI K fd_X4_30 (by assumption) rfl dX4_append_26 ?_
  have hT : wI T2 259 a (sI T2 259 a + 1) = wI (wsl S e l.length (sl lf S fe p)) 259 a (nI (l.length + 1)) := by
    rw [hT2, (frS_wsl.2.2.2.2.2.2.2 a (fun z => h.1.ne z.symm)).1 259, hs, nI_1]
  exact a_vret K E (by omega) (by omega) dX4_append_29 ⟨rfl, by rw [hT]; exact h.app h7 ok, by rw [hT]; exact frS_wsl.tr (frS_wI (by decide)) (fun _ z => Or.inr z) (fun _ z => Or.inl z)⟩
theorem NL.key {S : aw_S} {a e k : Nat} {l : List SD} {x : KV} (h : NL S a true e l) (hk : l[k]? = some (.inl x)) : sA S e (2 * k) = x.1 ∧ sA S e (2 * k + 1) = x.2 := by
  have h1 : Sum.inl (sA S e (2 * k), sA S e (2 * k + 1)) = (Sum.inl x : SD) := (h.2 k _ hk).1
  injection h1 with h2
  rw [← h2]
  exact ⟨rfl, rfl⟩
theorem NL.kid {S : aw_S} {a e k : Nat} {l : List SD} {q : Option Nat} (h : NL S a false e l) (hk : l[k]? = some (.inr q)) : sQ S e k = q ∧ ∀ b, q = some b → aw_is S b 4 := by
  have h1 : Sum.inr (sQ S e k) = (Sum.inr q : SD) := (h.2 k _ hk).1
  injection h1 with h2
  exact ⟨h2, (h.2 k _ hk).2.2⟩
/-- the entries of a leaf as slots, the children of a node as slots -/
def esS (es : List KV) : List SD := es.map .inl
def ksS (ks : List Nat) : List SD := ks.map (fun b => .inr (some b))
theorem esS_len (es : List KV) : (esS es).length = es.length := List.length_map ..
theorem ksS_len (ks : List Nat) : (ksS ks).length = ks.length := List.length_map ..
theorem esS_at {es : List KV} {k : Nat} {x : KV} (h : es[k]? = some x) : (esS es)[k]? = some (.inl x) := by
  unfold esS; rw [List.getElem?_map, h]; rfl
theorem ksS_at {ks : List Nat} {k b : Nat} (h : ks[k]? = some b) : (ksS ks)[k]? = some (.inr (some b)) := by
  unfold ksS; rw [List.getElem?_map, h]; rfl
def keyAtL (es : List KV) (k : Nat) : Int32 := match es[k]? with
  | some x => x.1
  | none => -1
def valAtL (es : List KV) (k : Nat) : Int32 := match es[k]? with
  | some x => x.2
  | none => -1000000
theorem keyAtL_in {es : List KV} {k : Nat} {x : KV} (h : es[k]? = some x) : keyAtL es k = x.1 := by unfold keyAtL; rw [h]
theorem valAtL_in {es : List KV} {k : Nat} {x : KV} (h : es[k]? = some x) : valAtL es k = x.2 := by unfold valAtL; rw [h]
theorem keyAtL_out {es : List KV} {k : Nat} (h : es.length ≤ k) : keyAtL es k = -1 := by unfold keyAtL; rw [List.getElem?_eq_none h]
theorem valAtL_out {es : List KV} {k : Nat} (h : es.length ≤ k) : valAtL es k = -1000000 := by unfold valAtL; rw [List.getElem?_eq_none h]
set_option maxHeartbeats 4000000 in
set_option maxRecDepth 100000 in
theorem m_X4_keyAt {S : aw_S} {a e k : Nat} {es : List KV} (h : NL S a true e (esS es)) (hk : k < 8) : aw_M yX4_keyAt cX4_keyAt 2 (some FieldType.int) 0 0 0 [.ref a, .int (nI k)] S (fun r S2 => r = some (.int (keyAtL es k)) ∧ S2 = S) := by
  have h0 := h
  have h7 := h.1.2.2.2.2.2.2
  rw [esS_len] at h7
  obtain ⟨⟨o, hE, hK, oe, hN, hs, hn⟩, hl⟩ := h
  simp only [if_true, if_false, Bool.false_eq_true, reduceIte] at hE hK oe hN
  rw [esS_len] at hs
  refine aw_enter (by decide +kernel) (Nat.le_of_ble_eq_true rfl) (fun g K E => ?_)
  first | refine a_aload_n K dX4_keyAt_0 rfl ?_ | refine a_aload_nN K dX4_keyAt_0 rfl ?_
  refine a_getRs K fd_X4_15 (by assumption) (Or.inr ⟨_, rfl⟩) (by assumption) dX4_keyAt_1 ?_
  refine a_ifnull K dX4_keyAt_4 ?_
  refine a_iload_n K dX4_keyAt_7 rfl ?_
  refine a_if_lt K dX4_keyAt_8 (tgt := 36) (by decide) (fun c_8 => absurd c_8 (nI_pos (show k < 2 ^ 31 by omega))) (fun c_8 => ?_)
  refine a_iload_n K dX4_keyAt_11 rfl ?_
  first | refine a_aload_n K dX4_keyAt_12 rfl ?_ | refine a_aload_nN K dX4_keyAt_12 rfl ?_
  refine a_getI K fd_X4_30 (by assumption) (Or.inl rfl) dX4_keyAt_13 ?_
  refine a_icmp_ge K dX4_keyAt_16 (tgt := 36) (by decide) (fun c_16 => ?_) (fun c_16 => ?_)
  · rw [hs] at c_16
    have hk2 : es.length ≤ k := (nI_leI (by omega) (by omega)).mp c_16
    refine a_iconst K dX4_keyAt_36 (v := -1) (by decide) ?_
    exact a_iret K E rfl (by omega) (by omega) dX4_keyAt_37 ⟨by first | rw [keyAtL_out hk2] | (rw [keyAtL_in (List.getElem?_eq_getElem hk2), nI_clamp (by omega)]; first | rw [hx.1] | rw [hx.2]), rfl⟩
  · rw [hs] at c_16
    have hk2 : k < es.length := Nat.lt_of_not_le (fun z => c_16 (nI_le z (by omega)))
    have hx := h0.key (esS_at (List.getElem?_eq_getElem hk2))
    refine a_iload_n K dX4_keyAt_19 rfl ?_
    refine a_bipush K dX4_keyAt_20 (v := 7) (by decide) ?_
    refine a_icmp_ge K dX4_keyAt_22 (tgt := 36) (by decide) (fun c_22 => absurd c_22 (nI_ge (b := 7) (show k < 7 by omega) (by omega))) (fun c_22 => ?_)
    first | refine a_aload_n K dX4_keyAt_25 rfl ?_ | refine a_aload_nN K dX4_keyAt_25 rfl ?_
    refine a_getRs K fd_X4_15 (by assumption) (Or.inr ⟨_, rfl⟩) (by assumption) dX4_keyAt_26 ?_
    refine a_iconst K dX4_keyAt_29 (v := 2) (by decide) ?_
    refine a_iload_n K dX4_keyAt_30 rfl ?_
    refine a_imul K dX4_keyAt_31 ?_
    rw [nI_2]
    refine a_iald K (by assumption) (by rw [hN]; exact vp_in_nI (by omega) (by omega)) dX4_keyAt_32 ?_
    refine a_goto K dX4_keyAt_33 (tgt := 37) (by decide) ?_
    exact a_iret K E rfl (by omega) (by omega) dX4_keyAt_37 ⟨by first | rw [keyAtL_out hk2] | (rw [keyAtL_in (List.getElem?_eq_getElem hk2), nI_clamp (by omega)]; first | rw [hx.1] | rw [hx.2]), rfl⟩
set_option maxHeartbeats 4000000 in
set_option maxRecDepth 100000 in
theorem m_X4_valueAt {S : aw_S} {a e k : Nat} {es : List KV} (h : NL S a true e (esS es)) (hk : k < 8) : aw_M yX4_valueAt cX4_valueAt 2 (some FieldType.int) 0 0 0 [.ref a, .int (nI k)] S (fun r S2 => r = some (.int (valAtL es k)) ∧ S2 = S) := by
  have h0 := h
  have h7 := h.1.2.2.2.2.2.2
  rw [esS_len] at h7
  obtain ⟨⟨o, hE, hK, oe, hN, hs, hn⟩, hl⟩ := h
  simp only [if_true, if_false, Bool.false_eq_true, reduceIte] at hE hK oe hN
  rw [esS_len] at hs
  refine aw_enter (by decide +kernel) (Nat.le_of_ble_eq_true rfl) (fun g K E => ?_)
  first | refine a_aload_n K dX4_valueAt_0 rfl ?_ | refine a_aload_nN K dX4_valueAt_0 rfl ?_
  refine a_getRs K fd_X4_15 (by assumption) (Or.inr ⟨_, rfl⟩) (by assumption) dX4_valueAt_1 ?_
  refine a_ifnull K dX4_valueAt_4 ?_
  refine a_iload_n K dX4_valueAt_7 rfl ?_
  refine a_if_lt K dX4_valueAt_8 (tgt := 38) (by decide) (fun c_8 => absurd c_8 (nI_pos (show k < 2 ^ 31 by omega))) (fun c_8 => ?_)
  refine a_iload_n K dX4_valueAt_11 rfl ?_
  first | refine a_aload_n K dX4_valueAt_12 rfl ?_ | refine a_aload_nN K dX4_valueAt_12 rfl ?_
  refine a_getI K fd_X4_30 (by assumption) (Or.inl rfl) dX4_valueAt_13 ?_
  refine a_icmp_ge K dX4_valueAt_16 (tgt := 38) (by decide) (fun c_16 => ?_) (fun c_16 => ?_)
  · rw [hs] at c_16
    have hk2 : es.length ≤ k := (nI_leI (by omega) (by omega)).mp c_16
    refine a_ldc K kc_X4_36 dX4_valueAt_38 ?_
    exact a_iret K E rfl (by omega) (by omega) dX4_valueAt_40 ⟨by first | rw [valAtL_out hk2] | (rw [valAtL_in (List.getElem?_eq_getElem hk2), nI_clamp (by omega)]; first | rw [hx.1] | rw [hx.2]), rfl⟩
  · rw [hs] at c_16
    have hk2 : k < es.length := Nat.lt_of_not_le (fun z => c_16 (nI_le z (by omega)))
    have hx := h0.key (esS_at (List.getElem?_eq_getElem hk2))
    refine a_iload_n K dX4_valueAt_19 rfl ?_
    refine a_bipush K dX4_valueAt_20 (v := 7) (by decide) ?_
    refine a_icmp_ge K dX4_valueAt_22 (tgt := 38) (by decide) (fun c_22 => absurd c_22 (nI_ge (b := 7) (show k < 7 by omega) (by omega))) (fun c_22 => ?_)
    first | refine a_aload_n K dX4_valueAt_25 rfl ?_ | refine a_aload_nN K dX4_valueAt_25 rfl ?_
    refine a_getRs K fd_X4_15 (by assumption) (Or.inr ⟨_, rfl⟩) (by assumption) dX4_valueAt_26 ?_
    refine a_iconst K dX4_valueAt_29 (v := 2) (by decide) ?_
    refine a_iload_n K dX4_valueAt_30 rfl ?_
    refine a_imul K dX4_valueAt_31 ?_
    rw [nI_2]
    refine a_iconst K dX4_valueAt_32 (v := 1) (by decide) ?_
    refine a_iadd K dX4_valueAt_33 ?_
    rw [nI_1]
    refine a_iald K (by assumption) (by rw [hN]; exact vp_in_nI (by omega) (by omega)) dX4_valueAt_34 ?_
    refine a_goto K dX4_valueAt_35 (tgt := 40) (by decide) ?_
    exact a_iret K E rfl (by omega) (by omega) dX4_valueAt_40 ⟨by first | rw [valAtL_out hk2] | (rw [valAtL_in (List.getElem?_eq_getElem hk2), nI_clamp (by omega)]; first | rw [hx.1] | rw [hx.2]), rfl⟩
def kidL (ks : List Nat) (k : Nat) : Option Nat := ks[k]?
set_option maxHeartbeats 4000000 in
set_option maxRecDepth 100000 in
theorem m_X4_kidAt {S : aw_S} {a e k : Nat} {ks : List Nat} (h : NL S a false e (ksS ks)) (hk : k < 8) : aw_M yX4_kidAt cX4_kidAt 2 (some (FieldType.object "WideMap$Node")) 0 0 0 [.ref a, .int (nI k)] S (fun r S2 => r = some (va_rf (ks[k]?)) ∧ S2 = S) := by
  have h0 := h
  have h7 := h.1.2.2.2.2.2.2
  rw [ksS_len] at h7
  obtain ⟨⟨o, hE, hK, oe, hN, hs, hn⟩, hl⟩ := h
  simp only [if_true, if_false, Bool.false_eq_true, reduceIte] at hE hK oe hN
  rw [ksS_len] at hs
  refine aw_enter (by decide +kernel) (Nat.le_of_ble_eq_true rfl) (fun g K E => ?_)
  first | refine a_aload_n K dX4_kidAt_0 rfl ?_ | refine a_aload_nN K dX4_kidAt_0 rfl ?_
  refine a_getRs K fd_X4_19 (by assumption) (Or.inr ⟨_, rfl⟩) (by assumption) dX4_kidAt_1 ?_
  refine a_ifnull K dX4_kidAt_4 ?_
  refine a_iload_n K dX4_kidAt_7 rfl ?_
  refine a_if_lt K dX4_kidAt_8 (tgt := 34) (by decide) (fun c_8 => absurd c_8 (nI_pos (show k < 2 ^ 31 by omega))) (fun c_8 => ?_)
  refine a_iload_n K dX4_kidAt_11 rfl ?_
  first | refine a_aload_n K dX4_kidAt_12 rfl ?_ | refine a_aload_nN K dX4_kidAt_12 rfl ?_
  refine a_getI K fd_X4_30 (by assumption) (Or.inl rfl) dX4_kidAt_13 ?_
  refine a_icmp_ge K dX4_kidAt_16 (tgt := 34) (by decide) (fun c_16 => ?_) (fun c_16 => ?_)
  · rw [hs] at c_16
    have hk2 : ks.length ≤ k := (nI_leI (by omega) (by omega)).mp c_16
    refine a_null K dX4_kidAt_34 ?_
    exact a_aret K E (Or.inl ⟨_, rfl⟩) (by first | exact Or.inl rfl | exact va_rf_or _) (by omega) (by omega) dX4_kidAt_35 ⟨by first | (rw [List.getElem?_eq_none hk2]; rfl) | (rw [nI_clamp (by omega), hx, List.getElem?_eq_getElem hk2]), rfl⟩
  · rw [hs] at c_16
    have hk2 : k < ks.length := Nat.lt_of_not_le (fun z => c_16 (nI_le z (by omega)))
    have hx := (h0.kid (ksS_at (List.getElem?_eq_getElem hk2))).1
    refine a_iload_n K dX4_kidAt_19 rfl ?_
    refine a_bipush K dX4_kidAt_20 (v := 7) (by decide) ?_
    refine a_icmp_ge K dX4_kidAt_22 (tgt := 34) (by decide) (fun c_22 => absurd c_22 (nI_ge (b := 7) (show k < 7 by omega) (by omega))) (fun c_22 => ?_)
    first | refine a_aload_n K dX4_kidAt_25 rfl ?_ | refine a_aload_nN K dX4_kidAt_25 rfl ?_
    refine a_getRs K fd_X4_19 (by assumption) (Or.inr ⟨_, rfl⟩) (by assumption) dX4_kidAt_26 ?_
    refine a_iload_n K dX4_kidAt_29 rfl ?_
    refine a_aaldN K (by assumption) (by rw [hN]; exact vp_in_nI (by omega) (by omega)) dX4_kidAt_30 ?_
    refine a_goto K dX4_kidAt_31 (tgt := 35) (by decide) ?_
    exact a_aret K E (Or.inl ⟨_, rfl⟩) (by first | exact Or.inl rfl | exact va_rf_or _) (by omega) (by omega) dX4_kidAt_35 ⟨by first | (rw [List.getElem?_eq_none hk2]; rfl) | (rw [nI_clamp (by omega), hx, List.getElem?_eq_getElem hk2]), rfl⟩
set_option maxHeartbeats 4000000 in
set_option maxRecDepth 100000 in
theorem m_X4_kidAt_m {S : aw_S} {a e : Nat} {ks : List Nat} (h : NL S a false e (ksS ks)) : aw_M yX4_kidAt cX4_kidAt 2 (some (FieldType.object "WideMap$Node")) 0 0 0 [.ref a, .int (-1)] S (fun r S2 => r = some .null ∧ S2 = S) := by
  have h0 := h
  have h7 := h.1.2.2.2.2.2.2
  rw [ksS_len] at h7
  obtain ⟨⟨o, hE, hK, oe, hN, hs, hn⟩, hl⟩ := h
  simp only [if_true, if_false, Bool.false_eq_true, reduceIte] at hE hK oe hN
  rw [ksS_len] at hs
  refine aw_enter (by decide +kernel) (Nat.le_of_ble_eq_true rfl) (fun g K E => ?_)
  first | refine a_aload_n K dX4_kidAt_0 rfl ?_ | refine a_aload_nN K dX4_kidAt_0 rfl ?_
  refine a_getRs K fd_X4_19 (by assumption) (Or.inr ⟨_, rfl⟩) (by assumption) dX4_kidAt_1 ?_
  refine a_ifnull K dX4_kidAt_4 ?_
  refine a_iload_n K dX4_kidAt_7 rfl ?_
  refine a_if_lt K dX4_kidAt_8 (tgt := 34) (by decide) (fun c_8 => ?_) (fun c_8 => absurd c_8 (fun z => z (by decide)))
  refine a_null K dX4_kidAt_34 ?_
  exact a_aret K E (Or.inl ⟨_, rfl⟩) (Or.inl rfl) (by omega) (by omega) dX4_kidAt_35 ⟨rfl, rfl⟩
/-- how many entries ahead are below a key -/
def kpl : List KV → Int32 → Nat
  | [], _ => 0
  | x :: r, key => if x.1 < key then kpl r key + 1 else 0
theorem kpl_le (key : Int32) : ∀ es : List KV, kpl es key ≤ es.length
  | [] => Nat.le_refl _
  | x :: r => by
    unfold kpl
    split
    · exact Nat.succ_le_succ (kpl_le key r)
    · exact Nat.zero_le _
theorem kpl_lt (key : Int32) : ∀ (es : List KV) (k : Nat) (x : KV), k < kpl es key → es[k]? = some x → x.1 < key
  | [], k, x, h, _ => absurd h (by unfold kpl; omega)
  | y :: r, k, x, h, hx => by
    unfold kpl at h
    split at h
    · rename_i hy
      cases k with
      | zero => simp at hx; rw [← hx]; exact hy
      | succ k => exact kpl_lt key r k x (by omega) (by simpa using hx)
    · omega
theorem kpl_ge (key : Int32) : ∀ (es : List KV) (x : KV), es[kpl es key]? = some x → ¬ x.1 < key
  | [], x, hx => by simp at hx
  | y :: r, x, hx => by
    unfold kpl at hx
    split at hx
    · exact kpl_ge key r x (by simpa using hx)
    · rename_i hy
      simp at hx
      rw [← hx]; exact hy
/-- where the count stops -/
theorem kpl_at {key : Int32} {es : List KV} {k : Nat} (h1 : ∀ j x, j < k → es[j]? = some x → x.1 < key) (h2 : ∀ x, es[k]? = some x → ¬ x.1 < key) (hk : k ≤ es.length) : kpl es key = k := by
  rcases Nat.lt_trichotomy (kpl es key) k with z | z | z
  · have hl : kpl es key < es.length := by omega
    exact absurd (h1 _ _ z (List.getElem?_eq_getElem hl)) (kpl_ge key es _ (List.getElem?_eq_getElem hl))
  · exact z
  · have hl : k < es.length := Nat.lt_of_lt_of_le z (kpl_le key es)
    exact absurd (kpl_lt key es k _ z (List.getElem?_eq_getElem hl)) (h2 _ (List.getElem?_eq_getElem hl))
set_option maxHeartbeats 4000000 in
set_option maxRecDepth 100000 in
theorem m_X4_placeOfKey {S : aw_S} {a e : Nat} {key : Int32} {es : List KV} (h : NL S a true e (esS es)) : aw_M yX4_placeOfKey cX4_placeOfKey 3 (some FieldType.int) 1 0 0 [.ref a, .int key] S (fun r S2 => r = some (.int (nI (kpl es key))) ∧ S2 = S) := by
  have o := h.1.1
  have hs := h.1.2.2.2.2.2.1
  have h7 := h.1.2.2.2.2.2.2
  rw [esS_len] at h7 hs
  refine aw_enter (by decide +kernel) (Nat.le_of_ble_eq_true rfl) (fun g K E => ?_)
  have loop : ∀ (i j : Nat) (x : Int32), x = nI j → j + i = es.length → (∀ k x, k < j → es[k]? = some x → x.1 < key) → aw g 3 S 0 0 [(2, .int x), (1, .int key), (0, .ref a)] [] 2 := by
    intro i
    induction i with
    | zero =>
      intro j x hx hi h1
      subst hx
      refine a_iload_n K dX4_placeOfKey_2 rfl ?_
      first | refine a_aload_n K dX4_placeOfKey_3 rfl ?_ | refine a_aload_nN K dX4_placeOfKey_3 rfl ?_
      refine a_getI K fd_X4_30 (by assumption) (Or.inl rfl) dX4_placeOfKey_4 ?_
      refine a_icmp_ge K dX4_placeOfKey_7 (tgt := 25) (by decide) (fun c_7 => ?_) (fun c_7 => absurd c_7 (by rw [hs]; exact fun z => z (nI_le (by omega) (by omega))))
      refine a_iload_n K dX4_placeOfKey_25 rfl ?_
      exact a_iret K E rfl (by omega) (by omega) dX4_placeOfKey_26 ⟨by rw [kpl_at (k := j) h1 (fun x hx => absurd (List.getElem?_eq_some_iff.mp hx).1 (by omega)) (by omega)], rfl⟩
    | succ i ih =>
      intro j x hx hi h1
      subst hx
      refine a_iload_n K dX4_placeOfKey_2 rfl ?_
      first | refine a_aload_n K dX4_placeOfKey_3 rfl ?_ | refine a_aload_nN K dX4_placeOfKey_3 rfl ?_
      refine a_getI K fd_X4_30 (by assumption) (Or.inl rfl) dX4_placeOfKey_4 ?_
      refine a_icmp_ge K dX4_placeOfKey_7 (tgt := 25) (by decide) (fun c_7 => absurd c_7 (by rw [hs]; exact nI_ge (show j < es.length by omega) (by omega))) (fun c_7 => ?_)
      first | refine a_aload_n K dX4_placeOfKey_10 rfl ?_ | refine a_aload_nN K dX4_placeOfKey_10 rfl ?_
      refine a_iload_n K dX4_placeOfKey_11 rfl ?_
      refine a_invV K (m_X4_keyAt h (by omega)) my_X4_keyAt ml_X4_41 im_X4_keyAt se_X4_keyAt (ci := 4) (by assumption) (by decide) ⟨_, _, rfl⟩ rfl (by omega) (by omega) (by omega) rfl (Nat.le_of_ble_eq_true rfl) dX4_placeOfKey_12 ?_
      intro r9 S9 hp9
      obtain ⟨rfl, hS9⟩ := hp9
      obtain rfl := hS9.symm
      refine a_iload_n K dX4_placeOfKey_15 rfl ?_
      rw [keyAtL_in (List.getElem?_eq_getElem (show j < es.length by omega))]
      refine a_icmp_ge K dX4_placeOfKey_16 (tgt := 25) (by decide) (fun c_16 => ?_) (fun c_16 => ?_)
      · refine a_iload_n K dX4_placeOfKey_25 rfl ?_
        exact a_iret K E rfl (by omega) (by omega) dX4_placeOfKey_26 ⟨by rw [kpl_at (k := j) h1 (fun x hx => by rw [List.getElem?_eq_getElem (show j < es.length by omega)] at hx; injection hx with hx; rw [← hx]; exact Int32.not_lt.mpr c_16) (by omega)], rfl⟩
      · refine a_iinc K dX4_placeOfKey_19 (v := 1) rfl (by decide) (by decide) ?_
        refine a_goto K dX4_placeOfKey_22 (tgt := 2) (by decide) ?_
        exact aw_locl rfl (ih (j + 1) _ (nI_1 j) (by omega) (fun k x hk hx => by
          by_cases hkj : k = j
          · subst hkj
            rw [List.getElem?_eq_getElem (by omega)] at hx
            injection hx with hx
            rw [← hx]
            exact Int32.not_le.mp c_16
          · exact h1 k x (by omega) hx))
  refine a_iconst K dX4_placeOfKey_0 (v := 0) (by decide) ?_
  refine a_istore_n K dX4_placeOfKey_1 (by decide) ?_
  exact aw_locl rfl (loop es.length 0 0 nI_0.symm (by omega) (fun k x hk _ => absurd hk (by omega)))
/-- the value that a leaf's entries have for a key -/
def valIn (es : List KV) (key : Int32) : Int32 := match es[kpl es key]? with
  | some x => if x.1 = key then x.2 else -1000000
  | none => -1000000
set_option maxHeartbeats 4000000 in
set_option maxRecDepth 100000 in
theorem m_X4_valueOf {S : aw_S} {a e : Nat} {key : Int32} {es : List KV} (h : NL S a true e (esS es)) : aw_M yX4_valueOf cX4_valueOf 3 (some FieldType.int) 2 0 0 [.ref a, .int key] S (fun r S2 => r = some (.int (valIn es key)) ∧ S2 = S) := by
  have o := h.1.1
  have hs := h.1.2.2.2.2.2.1
  have h7 := h.1.2.2.2.2.2.2
  rw [esS_len] at h7 hs
  refine aw_enter (by decide +kernel) (Nat.le_of_ble_eq_true rfl) (fun g K E => ?_)
  first | refine a_aload_n K dX4_valueOf_0 rfl ?_ | refine a_aload_nN K dX4_valueOf_0 rfl ?_
  refine a_iload_n K dX4_valueOf_1 rfl ?_
  refine a_invV K (m_X4_placeOfKey h) my_X4_placeOfKey ml_X4_37 im_X4_placeOfKey se_X4_placeOfKey (ci := 4) (by assumption) (by decide) ⟨_, _, rfl⟩ rfl (by omega) (by omega) (by omega) rfl (Nat.le_of_ble_eq_true rfl) dX4_valueOf_2 ?_
  intro r9 S9 hp9
  obtain ⟨rfl, hS9⟩ := hp9
  obtain rfl := hS9.symm
  have hk := kpl_le key es
  refine a_istore_n K dX4_valueOf_5 (by decide) ?_
  refine a_iload_n K dX4_valueOf_6 rfl ?_
  first | refine a_aload_n K dX4_valueOf_7 rfl ?_ | refine a_aload_nN K dX4_valueOf_7 rfl ?_
  refine a_getI K fd_X4_30 (by assumption) (Or.inl rfl) dX4_valueOf_8 ?_
  refine a_icmp_ge K dX4_valueOf_11 (tgt := 31) (by decide) (fun c_11 => ?_) (fun c_11 => ?_)
  · rw [hs] at c_11
    have hl : es.length ≤ kpl es key := (nI_leI (by omega) (by omega)).mp c_11
    refine a_ldc K kc_X4_36 dX4_valueOf_31 ?_
    exact a_iret K E rfl (by omega) (by omega) dX4_valueOf_33 ⟨by unfold valIn; first | rw [List.getElem?_eq_none hl] | (rw [List.getElem?_eq_getElem hl]; first | (show _ = some (Value.int (if es[kpl es key].1 = key then _ else _)); rw [if_neg c_20]) | (show _ = some (Value.int (if es[kpl es key].1 = key then _ else _)); rw [if_pos c_20, valAtL_in (List.getElem?_eq_getElem hl)])), rfl⟩
  · rw [hs] at c_11
    have hl : kpl es key < es.length := Nat.lt_of_not_le (fun z => c_11 (nI_le z (by omega)))
    first | refine a_aload_n K dX4_valueOf_14 rfl ?_ | refine a_aload_nN K dX4_valueOf_14 rfl ?_
    refine a_iload_n K dX4_valueOf_15 rfl ?_
    refine a_invV K (m_X4_keyAt h (show kpl es key < 8 by omega)) my_X4_keyAt ml_X4_41 im_X4_keyAt se_X4_keyAt (ci := 4) (by assumption) (by decide) ⟨_, _, rfl⟩ rfl (by omega) (by omega) (by omega) rfl (Nat.le_of_ble_eq_true rfl) dX4_valueOf_16 ?_
    intro r9 S9 hp9
    obtain ⟨rfl, hS9⟩ := hp9
    obtain rfl := hS9.symm
    refine a_iload_n K dX4_valueOf_19 rfl ?_
    rw [keyAtL_in (List.getElem?_eq_getElem hl)]
    refine a_icmp_ne K dX4_valueOf_20 (tgt := 31) (by decide) (fun c_20 => ?_) (fun c_20 => ?_)
    · refine a_ldc K kc_X4_36 dX4_valueOf_31 ?_
      exact a_iret K E rfl (by omega) (by omega) dX4_valueOf_33 ⟨by unfold valIn; first | rw [List.getElem?_eq_none hl] | (rw [List.getElem?_eq_getElem hl]; first | (show _ = some (Value.int (if es[kpl es key].1 = key then _ else _)); rw [if_neg c_20]) | (show _ = some (Value.int (if es[kpl es key].1 = key then _ else _)); rw [if_pos c_20, valAtL_in (List.getElem?_eq_getElem hl)])), rfl⟩
    · first | refine a_aload_n K dX4_valueOf_23 rfl ?_ | refine a_aload_nN K dX4_valueOf_23 rfl ?_
      refine a_iload_n K dX4_valueOf_24 rfl ?_
      refine a_invV K (m_X4_valueAt h (show kpl es key < 8 by omega)) my_X4_valueAt ml_X4_44 im_X4_valueAt se_X4_valueAt (ci := 4) (by assumption) (by decide) ⟨_, _, rfl⟩ rfl (by omega) (by omega) (by omega) rfl (Nat.le_of_ble_eq_true rfl) dX4_valueOf_25 ?_
      intro r9 S9 hp9
      obtain ⟨rfl, hS9⟩ := hp9
      obtain rfl := hS9.symm
      refine a_goto K dX4_valueOf_28 (tgt := 33) (by decide) ?_
      exact a_iret K E rfl (by omega) (by omega) dX4_valueOf_33 ⟨by unfold valIn; first | rw [List.getElem?_eq_none hl] | (rw [List.getElem?_eq_getElem hl]; first | (show _ = some (Value.int (if es[kpl es key].1 = key then _ else _)); rw [if_neg c_20]) | (show _ = some (Value.int (if es[kpl es key].1 = key then _ else _)); rw [if_pos c_20, valAtL_in (List.getElem?_eq_getElem hl)])), rfl⟩
theorem NL.ins {S T : aw_S} {a e p : Nat} {lf : Bool} {l : List SD} {x : SD} (h : NL S a lf e l) (hp : p ≤ l.length) (h7 : l.length < 7) (hT : NW T a lf e (l.length + 1)) (f : frS S T (fun b => b = a ∨ b = e)) (hv : ∀ k, k < 7 → sl lf T e k = if p < k ∧ k ≤ l.length then sl lf S e (k - 1) else sl lf S e k) (ok : okS S lf x) : NL (wsl T e p x) a lf e (l.insertIdx p x) ∧ frS S (wsl T e p x) (fun b => b = a ∨ b = e) := by
  have f1 := frS_wsl (S := T) (e := e) (k := p) (x := x)
  have f2 : frS S (wsl T e p x) (fun b => b = a ∨ b = e) := f.tr f1 (fun _ z => z) (fun _ z => Or.inr z)
  have okT := ok.fr f
  refine ⟨⟨by rw [List.length_insertIdx_of_le_length hp]; exact hT.fr f1 (by rw [(f1.2.2.2.2.2.2.2 a (fun z => h.1.ne z.symm)).1 259]; exact hT.2.2.2.2.2.1) (by omega), fun k y hy => ?_⟩, f2⟩
  have hk : k < l.length + 1 := by
    have := (List.getElem?_eq_some_iff.mp hy).1
    rw [List.length_insertIdx_of_le_length hp] at this
    exact this
  rw [sl_wsl okT]
  rw [List.getElem?_insertIdx] at hy
  by_cases h1 : k < p
  · rw [if_pos h1] at hy
    rw [if_neg (by omega), hv k (by omega), if_neg (by omega)]
    exact ⟨(h.2 k y hy).1, (h.2 k y hy).2.fr f2⟩
  · rw [if_neg h1] at hy
    by_cases h2 : k = p
    · rw [if_pos h2, if_pos (by omega)] at hy
      rw [if_pos h2]
      injection hy with hy
      rw [← hy]
      exact ⟨rfl, ok.fr f2⟩
    · rw [if_neg h2] at hy
      rw [if_neg h2, hv k (by omega), if_pos (by omega)]
      exact ⟨(h.2 (k - 1) y hy).1, (h.2 (k - 1) y hy).2.fr f2⟩
theorem NL.set {S : aw_S} {a e p : Nat} {lf : Bool} {l : List SD} {x : SD} (h : NL S a lf e l) (ok : okS S lf x) (hp : p < l.length) : NL (wsl S e p x) a lf e (l.set p x) ∧ frS S (wsl S e p x) (fun b => b = e) := by
  have f1 := frS_wsl (S := S) (e := e) (k := p) (x := x)
  refine ⟨⟨by rw [List.length_set]; exact h.1.fr f1 (by rw [(f1.2.2.2.2.2.2.2 a (fun z => h.1.ne z.symm)).1 259]; exact h.1.2.2.2.2.2.1) h.1.2.2.2.2.2.2, fun k y hy => ?_⟩, f1⟩
  rw [sl_wsl ok]
  rw [List.getElem?_set] at hy
  by_cases h2 : p = k
  · rw [if_pos h2, if_pos (by omega)] at hy
    rw [if_pos h2.symm]
    injection hy with hy
    rw [← hy]
    exact ⟨rfl, ok.fr f1⟩
  · rw [if_neg h2] at hy
    rw [if_neg (fun z => h2 z.symm)]
    exact ⟨(h.2 k y hy).1, (h.2 k y hy).2.fr f1⟩
theorem NW.ne2 {S : aw_S} {a e f fe n m : Nat} {lf lf2 : Bool} (h : NW S a lf e n) (h2 : NW S f lf2 fe m) : e ≠ f := by
  intro z
  have h3 := h2.1.2
  have h4 := h.2.2.2.1.2
  rw [z, h3] at h4
  cases lf <;> simp at h4
/-- an entry put into a leaf, taken out -/
def setE (es : List KV) (key v : Int32) : List KV := match es[kpl es key]? with
  | some x => if x.1 = key then es.set (kpl es key) (key, v) else es.insertIdx (kpl es key) (key, v)
  | none => es.insertIdx (kpl es key) (key, v)
def remE (es : List KV) (key : Int32) : List KV := match es[kpl es key]? with
  | some x => if x.1 = key then es.eraseIdx (kpl es key) else es
  | none => es
theorem setE_new {es : List KV} {key v : Int32} (h : es.length ≤ kpl es key) : setE es key v = es.insertIdx (kpl es key) (key, v) := by unfold setE; rw [List.getElem?_eq_none h]
theorem setE_new2 {es : List KV} {key v : Int32} (h : kpl es key < es.length) (hn : ¬ es[kpl es key].1 = key) : setE es key v = es.insertIdx (kpl es key) (key, v) := by
  unfold setE
  rw [List.getElem?_eq_getElem h]
  exact if_neg hn
theorem setE_old {es : List KV} {key v : Int32} (h : kpl es key < es.length) (hn : es[kpl es key].1 = key) : setE es key v = es.set (kpl es key) (key, v) := by
  unfold setE
  rw [List.getElem?_eq_getElem h]
  exact if_pos hn
theorem remE_no {es : List KV} {key : Int32} (h : es.length ≤ kpl es key) : remE es key = es := by unfold remE; rw [List.getElem?_eq_none h]
theorem remE_no2 {es : List KV} {key : Int32} (h : kpl es key < es.length) (hn : ¬ es[kpl es key].1 = key) : remE es key = es := by
  unfold remE
  rw [List.getElem?_eq_getElem h]
  exact if_neg hn
theorem remE_is {es : List KV} {key : Int32} (h : kpl es key < es.length) (hn : es[kpl es key].1 = key) : remE es key = es.eraseIdx (kpl es key) := by
  unfold remE
  rw [List.getElem?_eq_getElem h]
  exact if_pos hn
theorem map_ins {α β : Type} (f : α → β) : ∀ (l : List α) (p : Nat) (x : α), (l.map f).insertIdx p (f x) = (l.insertIdx p x).map f
  | _, 0, _ => rfl
  | [], _ + 1, _ => rfl
  | a :: l, p + 1, x => by
    rw [List.map_cons, List.insertIdx_succ_cons, List.insertIdx_succ_cons, List.map_cons, map_ins f l p x]
theorem map_erase {α β : Type} (f : α → β) : ∀ (l : List α) (p : Nat), (l.map f).eraseIdx p = (l.eraseIdx p).map f
  | [], _ => rfl
  | _ :: _, 0 => rfl
  | a :: l, p + 1 => by
    rw [List.map_cons, List.eraseIdx_cons_succ, List.eraseIdx_cons_succ, List.map_cons, map_erase f l p]
theorem esS_ins (es : List KV) (p : Nat) (x : KV) : (esS es).insertIdx p (.inl x) = esS (es.insertIdx p x) := by unfold esS; exact map_ins _ _ _ _
theorem esS_set (es : List KV) (p : Nat) (x : KV) : (esS es).set p (.inl x) = esS (es.set p x) := by unfold esS; rw [List.map_set]
theorem esS_erase (es : List KV) (p : Nat) : (esS es).eraseIdx p = esS (es.eraseIdx p) := by unfold esS; exact map_erase _ _ _
theorem ksS_ins (ks : List Nat) (p x : Nat) : (ksS ks).insertIdx p (.inr (some x)) = ksS (ks.insertIdx p x) := by unfold ksS; exact map_ins (fun b => Sum.inr (some b)) _ _ _
theorem ksS_set (ks : List Nat) (p x : Nat) : (ksS ks).set p (.inr (some x)) = ksS (ks.set p x) := by unfold ksS; rw [List.map_set]
theorem ksS_erase (ks : List Nat) (p : Nat) : (ksS ks).eraseIdx p = ksS (ks.eraseIdx p) := by unfold ksS; exact map_erase _ _ _
set_option maxHeartbeats 4000000 in
set_option maxRecDepth 100000 in
theorem m_X4_setEntry {S : aw_S} {a e : Nat} {key v : Int32} {es : List KV} (h : NL S a true e (esS es)) (h8 : es.length < 7) : aw_M yX4_setEntry cX4_setEntry 4 (none : Option FieldType) 2 0 0 [.ref a, .int key, .int v] S (fun r S2 => r = none ∧ NL S2 a true e (esS (setE es key v)) ∧ frS S S2 (fun b => b = a ∨ b = e)) := by
  have o := h.1.1
  have hs := h.1.2.2.2.2.2.1
  have h7 := h.1.2.2.2.2.2.2
  rw [esS_len] at h7 hs
  have hE := h.1.2.1
  have oe := h.1.2.2.2.1
  have hN := h.1.2.2.2.2.1
  simp only [if_true, reduceIte] at hE oe hN
  refine aw_enter (by decide +kernel) (Nat.le_of_ble_eq_true rfl) (fun g K E => ?_)
  first | refine a_aload_n K dX4_setEntry_0 rfl ?_ | refine a_aload_nN K dX4_setEntry_0 rfl ?_
  refine a_iload_n K dX4_setEntry_1 rfl ?_
  refine a_invV K (m_X4_placeOfKey h) my_X4_placeOfKey ml_X4_37 im_X4_placeOfKey se_X4_placeOfKey (ci := 4) (by assumption) (by decide) ⟨_, _, rfl⟩ rfl (by omega) (by omega) (by omega) rfl (Nat.le_of_ble_eq_true rfl) dX4_setEntry_2 ?_
  intro r9 S9 hp9
  obtain ⟨rfl, hS9⟩ := hp9
  obtain rfl := hS9.symm
  have hk := kpl_le key es
  refine a_istore_n K dX4_setEntry_5 (by decide) ?_
  first | refine a_aload_n K dX4_setEntry_6 rfl ?_ | refine a_aload_nN K dX4_setEntry_6 rfl ?_
  refine a_getRs K fd_X4_15 (by assumption) (Or.inr ⟨_, rfl⟩) (by assumption) dX4_setEntry_7 ?_
  refine a_ifnull K dX4_setEntry_10 ?_
  refine a_iload_n K dX4_setEntry_13 rfl ?_
  refine a_bipush K dX4_setEntry_14 (v := 7) (by decide) ?_
  refine a_icmp_lt K dX4_setEntry_16 (tgt := 20) (by decide) (fun c_16 => ?_) (fun c_16 => absurd c_16 (fun z => z (nI_lt (b := 7) (show kpl es key < 7 by omega) (by omega))))
  refine a_iload_n K dX4_setEntry_20 rfl ?_
  first | refine a_aload_n K dX4_setEntry_21 rfl ?_ | refine a_aload_nN K dX4_setEntry_21 rfl ?_
  refine a_getI K fd_X4_30 (by assumption) (Or.inl rfl) dX4_setEntry_22 ?_
  refine a_icmp_ge K dX4_setEntry_25 (tgt := 37) (by decide) (fun c_25 => ?_) (fun c_25 => ?_)
  · rw [hs] at c_25
    have hl : es.length ≤ kpl es key := (nI_leI (by omega) (by omega)).mp c_25
    rw [setE_new hl] at E
    first | refine a_aload_n K dX4_setEntry_37 rfl ?_ | refine a_aload_nN K dX4_setEntry_37 rfl ?_
    refine a_iload_n K dX4_setEntry_38 rfl ?_
    refine a_invV K (m_X4_openSlot h.1 (by rw [esS_len]; exact hk) (by rw [esS_len]; exact h8) h.ok) my_X4_openSlot ml_X4_59 im_X4_openSlot se_X4_openSlot (ci := 4) (by assumption) (by decide) ⟨_, _, rfl⟩ rfl (by omega) (by omega) (by omega) rfl (Nat.le_of_ble_eq_true rfl) dX4_setEntry_39 ?_
    intro r9 T hp9
    obtain ⟨rfl, hT, fT, hv⟩ := hp9
    have hw := h.ins (x := .inl (key, v)) (by rw [esS_len]; exact hk) (by rw [esS_len]; exact h8) hT fT hv rfl
    rw [esS_ins] at hw
    have hE2 := hT.2.1
    have oe2 := hT.2.2.2.1
    have hN2 := hT.2.2.2.2.1
    have o2 := hT.1
    simp only [if_true, reduceIte] at hE2 oe2 hN2
    first | refine a_aload_n K dX4_setEntry_42 rfl ?_ | refine a_aload_nN K dX4_setEntry_42 rfl ?_
    refine a_getRs K fd_X4_15 (by assumption) (Or.inr ⟨_, rfl⟩) (by assumption) dX4_setEntry_43 ?_
    refine a_iconst K dX4_setEntry_46 (v := 2) (by decide) ?_
    refine a_iload_n K dX4_setEntry_47 rfl ?_
    refine a_imul K dX4_setEntry_48 ?_
    rw [nI_2]
    refine a_iload_n K dX4_setEntry_49 rfl ?_
    refine a_iast K (by assumption) (by first | (rw [hN2]; exact vp_in_nI (by omega) (by omega)) | (rw [hN]; exact vp_in_nI (by omega) (by omega))) dX4_setEntry_50 ?_
    first | refine a_aload_n K dX4_setEntry_51 rfl ?_ | refine a_aload_nN K dX4_setEntry_51 rfl ?_
    refine a_getRs K fd_X4_15 (by assumption) (Or.inr ⟨_, rfl⟩) (by assumption) dX4_setEntry_52 ?_
    refine a_iconst K dX4_setEntry_55 (v := 2) (by decide) ?_
    refine a_iload_n K dX4_setEntry_56 rfl ?_
    refine a_imul K dX4_setEntry_57 ?_
    rw [nI_2]
    refine a_iconst K dX4_setEntry_58 (v := 1) (by decide) ?_
    refine a_iadd K dX4_setEntry_59 ?_
    rw [nI_1]
    refine a_iload_n K dX4_setEntry_60 rfl ?_
    refine a_iast K (by assumption) (by first | (show vp_in _ (sN T e); rw [hN2]; exact vp_in_nI (by omega) (by omega)) | (rw [sN_wA]; rw [hN]; exact vp_in_nI (by omega) (by omega))) dX4_setEntry_61 ?_
    exact a_vret K E (by omega) (by omega) dX4_setEntry_62 ⟨rfl, by rw [nI_clamp (show 2 * kpl es key < 2 ^ 31 by omega), nI_clamp (show 2 * kpl es key + 1 < 2 ^ 31 by omega)]; exact hw.1, by rw [nI_clamp (show 2 * kpl es key < 2 ^ 31 by omega), nI_clamp (show 2 * kpl es key + 1 < 2 ^ 31 by omega)]; first | exact hw.2 | exact hw.2.mono (fun _ z => Or.inr z)⟩
  · rw [hs] at c_25
    have hl : kpl es key < es.length := Nat.lt_of_not_le (fun z => c_25 (nI_le z (by omega)))
    first | refine a_aload_n K dX4_setEntry_28 rfl ?_ | refine a_aload_nN K dX4_setEntry_28 rfl ?_
    refine a_iload_n K dX4_setEntry_29 rfl ?_
    refine a_invV K (m_X4_keyAt h (show kpl es key < 8 by omega)) my_X4_keyAt ml_X4_41 im_X4_keyAt se_X4_keyAt (ci := 4) (by assumption) (by decide) ⟨_, _, rfl⟩ rfl (by omega) (by omega) (by omega) rfl (Nat.le_of_ble_eq_true rfl) dX4_setEntry_30 ?_
    intro r9 S9 hp9
    obtain ⟨rfl, hS9⟩ := hp9
    obtain rfl := hS9.symm
    rw [keyAtL_in (List.getElem?_eq_getElem hl)]
    refine a_iload_n K dX4_setEntry_33 rfl ?_
    refine a_icmp_eq K dX4_setEntry_34 (tgt := 42) (by decide) (fun c_34 => ?_) (fun c_34 => ?_)
    · rw [setE_old hl c_34] at E
      have hw := h.set (x := .inl (key, v)) rfl (by rw [esS_len]; exact hl)
      rw [esS_set] at hw
      first | refine a_aload_n K dX4_setEntry_42 rfl ?_ | refine a_aload_nN K dX4_setEntry_42 rfl ?_
      refine a_getRs K fd_X4_15 (by assumption) (Or.inr ⟨_, rfl⟩) (by assumption) dX4_setEntry_43 ?_
      refine a_iconst K dX4_setEntry_46 (v := 2) (by decide) ?_
      refine a_iload_n K dX4_setEntry_47 rfl ?_
      refine a_imul K dX4_setEntry_48 ?_
      rw [nI_2]
      refine a_iload_n K dX4_setEntry_49 rfl ?_
      refine a_iast K (by assumption) (by first | (rw [hN2]; exact vp_in_nI (by omega) (by omega)) | (rw [hN]; exact vp_in_nI (by omega) (by omega))) dX4_setEntry_50 ?_
      first | refine a_aload_n K dX4_setEntry_51 rfl ?_ | refine a_aload_nN K dX4_setEntry_51 rfl ?_
      refine a_getRs K fd_X4_15 (by assumption) (Or.inr ⟨_, rfl⟩) (by assumption) dX4_setEntry_52 ?_
      refine a_iconst K dX4_setEntry_55 (v := 2) (by decide) ?_
      refine a_iload_n K dX4_setEntry_56 rfl ?_
      refine a_imul K dX4_setEntry_57 ?_
      rw [nI_2]
      refine a_iconst K dX4_setEntry_58 (v := 1) (by decide) ?_
      refine a_iadd K dX4_setEntry_59 ?_
      rw [nI_1]
      refine a_iload_n K dX4_setEntry_60 rfl ?_
      refine a_iast K (by assumption) (by first | (show vp_in _ (sN T e); rw [hN2]; exact vp_in_nI (by omega) (by omega)) | (rw [sN_wA]; rw [hN]; exact vp_in_nI (by omega) (by omega))) dX4_setEntry_61 ?_
      exact a_vret K E (by omega) (by omega) dX4_setEntry_62 ⟨rfl, by rw [nI_clamp (show 2 * kpl es key < 2 ^ 31 by omega), nI_clamp (show 2 * kpl es key + 1 < 2 ^ 31 by omega)]; exact hw.1, by rw [nI_clamp (show 2 * kpl es key < 2 ^ 31 by omega), nI_clamp (show 2 * kpl es key + 1 < 2 ^ 31 by omega)]; first | exact hw.2 | exact hw.2.mono (fun _ z => Or.inr z)⟩
    · rw [setE_new2 hl c_34] at E
      first | refine a_aload_n K dX4_setEntry_37 rfl ?_ | refine a_aload_nN K dX4_setEntry_37 rfl ?_
      refine a_iload_n K dX4_setEntry_38 rfl ?_
      refine a_invV K (m_X4_openSlot h.1 (by rw [esS_len]; exact hk) (by rw [esS_len]; exact h8) h.ok) my_X4_openSlot ml_X4_59 im_X4_openSlot se_X4_openSlot (ci := 4) (by assumption) (by decide) ⟨_, _, rfl⟩ rfl (by omega) (by omega) (by omega) rfl (Nat.le_of_ble_eq_true rfl) dX4_setEntry_39 ?_
      intro r9 T hp9
      obtain ⟨rfl, hT, fT, hv⟩ := hp9
      have hw := h.ins (x := .inl (key, v)) (by rw [esS_len]; exact hk) (by rw [esS_len]; exact h8) hT fT hv rfl
      rw [esS_ins] at hw
      have hE2 := hT.2.1
      have oe2 := hT.2.2.2.1
      have hN2 := hT.2.2.2.2.1
      have o2 := hT.1
      simp only [if_true, reduceIte] at hE2 oe2 hN2
      first | refine a_aload_n K dX4_setEntry_42 rfl ?_ | refine a_aload_nN K dX4_setEntry_42 rfl ?_
      refine a_getRs K fd_X4_15 (by assumption) (Or.inr ⟨_, rfl⟩) (by assumption) dX4_setEntry_43 ?_
      refine a_iconst K dX4_setEntry_46 (v := 2) (by decide) ?_
      refine a_iload_n K dX4_setEntry_47 rfl ?_
      refine a_imul K dX4_setEntry_48 ?_
      rw [nI_2]
      refine a_iload_n K dX4_setEntry_49 rfl ?_
      refine a_iast K (by assumption) (by first | (rw [hN2]; exact vp_in_nI (by omega) (by omega)) | (rw [hN]; exact vp_in_nI (by omega) (by omega))) dX4_setEntry_50 ?_
      first | refine a_aload_n K dX4_setEntry_51 rfl ?_ | refine a_aload_nN K dX4_setEntry_51 rfl ?_
      refine a_getRs K fd_X4_15 (by assumption) (Or.inr ⟨_, rfl⟩) (by assumption) dX4_setEntry_52 ?_
      refine a_iconst K dX4_setEntry_55 (v := 2) (by decide) ?_
      refine a_iload_n K dX4_setEntry_56 rfl ?_
      refine a_imul K dX4_setEntry_57 ?_
      rw [nI_2]
      refine a_iconst K dX4_setEntry_58 (v := 1) (by decide) ?_
      refine a_iadd K dX4_setEntry_59 ?_
      rw [nI_1]
      refine a_iload_n K dX4_setEntry_60 rfl ?_
      refine a_iast K (by assumption) (by first | (show vp_in _ (sN T e); rw [hN2]; exact vp_in_nI (by omega) (by omega)) | (rw [sN_wA]; rw [hN]; exact vp_in_nI (by omega) (by omega))) dX4_setEntry_61 ?_
      exact a_vret K E (by omega) (by omega) dX4_setEntry_62 ⟨rfl, by rw [nI_clamp (show 2 * kpl es key < 2 ^ 31 by omega), nI_clamp (show 2 * kpl es key + 1 < 2 ^ 31 by omega)]; exact hw.1, by rw [nI_clamp (show 2 * kpl es key < 2 ^ 31 by omega), nI_clamp (show 2 * kpl es key + 1 < 2 ^ 31 by omega)]; first | exact hw.2 | exact hw.2.mono (fun _ z => Or.inr z)⟩
set_option maxHeartbeats 4000000 in
set_option maxRecDepth 100000 in
theorem m_X4_removeEntry {S : aw_S} {a e : Nat} {key : Int32} {es : List KV} (h : NL S a true e (esS es)) : aw_M yX4_removeEntry cX4_removeEntry 3 (none : Option FieldType) 2 0 0 [.ref a, .int key] S (fun r S2 => r = none ∧ NL S2 a true e (esS (remE es key)) ∧ frS S S2 (fun b => b = a ∨ b = e)) := by
  have o := h.1.1
  have hs := h.1.2.2.2.2.2.1
  have h7 := h.1.2.2.2.2.2.2
  rw [esS_len] at h7 hs
  refine aw_enter (by decide +kernel) (Nat.le_of_ble_eq_true rfl) (fun g K E => ?_)
  first | refine a_aload_n K dX4_removeEntry_0 rfl ?_ | refine a_aload_nN K dX4_removeEntry_0 rfl ?_
  refine a_iload_n K dX4_removeEntry_1 rfl ?_
  refine a_invV K (m_X4_placeOfKey h) my_X4_placeOfKey ml_X4_37 im_X4_placeOfKey se_X4_placeOfKey (ci := 4) (by assumption) (by decide) ⟨_, _, rfl⟩ rfl (by omega) (by omega) (by omega) rfl (Nat.le_of_ble_eq_true rfl) dX4_removeEntry_2 ?_
  intro r9 S9 hp9
  obtain ⟨rfl, hS9⟩ := hp9
  obtain rfl := hS9.symm
  have hk := kpl_le key es
  refine a_istore_n K dX4_removeEntry_5 (by decide) ?_
  refine a_iload_n K dX4_removeEntry_6 rfl ?_
  first | refine a_aload_n K dX4_removeEntry_7 rfl ?_ | refine a_aload_nN K dX4_removeEntry_7 rfl ?_
  refine a_getI K fd_X4_30 (by assumption) (Or.inl rfl) dX4_removeEntry_8 ?_
  refine a_icmp_ge K dX4_removeEntry_11 (tgt := 28) (by decide) (fun c_11 => ?_) (fun c_11 => ?_)
  · rw [hs] at c_11
    have hl : es.length ≤ kpl es key := (nI_leI (by omega) (by omega)).mp c_11
    rw [remE_no hl] at E
    exact a_vret K E (by omega) (by omega) dX4_removeEntry_28 ⟨rfl, by first | exact hw | exact h, by first | exact fT | exact frS.rf⟩
  · rw [hs] at c_11
    have hl : kpl es key < es.length := Nat.lt_of_not_le (fun z => c_11 (nI_le z (by omega)))
    first | refine a_aload_n K dX4_removeEntry_14 rfl ?_ | refine a_aload_nN K dX4_removeEntry_14 rfl ?_
    refine a_iload_n K dX4_removeEntry_15 rfl ?_
    refine a_invV K (m_X4_keyAt h (show kpl es key < 8 by omega)) my_X4_keyAt ml_X4_41 im_X4_keyAt se_X4_keyAt (ci := 4) (by assumption) (by decide) ⟨_, _, rfl⟩ rfl (by omega) (by omega) (by omega) rfl (Nat.le_of_ble_eq_true rfl) dX4_removeEntry_16 ?_
    intro r9 S9 hp9
    obtain ⟨rfl, hS9⟩ := hp9
    obtain rfl := hS9.symm
    rw [keyAtL_in (List.getElem?_eq_getElem hl)]
    refine a_iload_n K dX4_removeEntry_19 rfl ?_
    refine a_icmp_ne K dX4_removeEntry_20 (tgt := 28) (by decide) (fun c_20 => ?_) (fun c_20 => ?_)
    · rw [remE_no2 hl c_20] at E
      exact a_vret K E (by omega) (by omega) dX4_removeEntry_28 ⟨rfl, by first | exact hw | exact h, by first | exact fT | exact frS.rf⟩
    · rw [remE_is hl c_20] at E
      first | refine a_aload_n K dX4_removeEntry_23 rfl ?_ | refine a_aload_nN K dX4_removeEntry_23 rfl ?_
      refine a_iload_n K dX4_removeEntry_24 rfl ?_
      refine a_invV K (m_X4_closeSlot h.1 (by rw [esS_len]; exact hl) h.ok) my_X4_closeSlot ml_X4_63 im_X4_closeSlot se_X4_closeSlot (ci := 4) (by assumption) (by decide) ⟨_, _, rfl⟩ rfl (by omega) (by omega) (by omega) rfl (Nat.le_of_ble_eq_true rfl) dX4_removeEntry_25 ?_
      intro r9 T hp9
      obtain ⟨rfl, hT, fT, hv⟩ := hp9
      have hw := h.erase (by rw [esS_len]; exact hl) hT fT hv
      rw [esS_erase] at hw
      exact a_vret K E (by omega) (by omega) dX4_removeEntry_28 ⟨rfl, by first | exact hw | exact h, by first | exact fT | exact frS.rf⟩
set_option maxHeartbeats 4000000 in
set_option maxRecDepth 100000 in
theorem m_X4_setKid_w {S : aw_S} {a e p b n : Nat} (h : NW S a false e n) (hp : p < 7) (ob : aw_is S b 4) : aw_M yX4_setKid cX4_setKid 3 (none : Option FieldType) 0 0 0 [.ref a, .int (nI p), .ref b] S (fun r S2 => r = none ∧ S2 = wsl S e p (.inr (some b))) := by
  obtain ⟨o, hE, hK, oe, hN, hs, hn⟩ := h
  simp only [if_false, Bool.false_eq_true, reduceIte] at hE hK oe hN
  refine aw_enter (by decide +kernel) (Nat.le_of_ble_eq_true rfl) (fun g K E => ?_)
  first | refine a_aload_n K dX4_setKid_0 rfl ?_ | refine a_aload_nN K dX4_setKid_0 rfl ?_
  refine a_getRs K fd_X4_19 (by assumption) (Or.inr ⟨_, rfl⟩) (by assumption) dX4_setKid_1 ?_
  refine a_ifnull K dX4_setKid_4 ?_
  refine a_iload_n K dX4_setKid_7 rfl ?_
  refine a_if_lt K dX4_setKid_8 (tgt := 24) (by decide) (fun c_8 => absurd c_8 (nI_pos (show p < 2 ^ 31 by omega))) (fun c_8 => ?_)
  refine a_iload_n K dX4_setKid_11 rfl ?_
  refine a_bipush K dX4_setKid_12 (v := 7) (by decide) ?_
  refine a_icmp_ge K dX4_setKid_14 (tgt := 24) (by decide) (fun c_14 => absurd c_14 (nI_ge (b := 7) hp (by omega))) (fun c_14 => ?_)
  first | refine a_aload_n K dX4_setKid_17 rfl ?_ | refine a_aload_nN K dX4_setKid_17 rfl ?_
  refine a_getRs K fd_X4_19 (by assumption) (Or.inr ⟨_, rfl⟩) (by assumption) dX4_setKid_18 ?_
  refine a_iload_n K dX4_setKid_21 rfl ?_
  first | refine a_aload_n K dX4_setKid_22 rfl ?_ | refine a_aload_nN K dX4_setKid_22 rfl ?_
  refine a_aastN K (by assumption) (by assumption) (by rw [hN]; exact vp_in_nI (by omega) (by omega)) dX4_setKid_23 ?_
  exact a_vret K E (by omega) (by omega) dX4_setKid_24 ⟨rfl, by rw [nI_clamp (show p < 2 ^ 31 by omega)]; rfl⟩
theorem m_X4_setKid {S : aw_S} {a e p b : Nat} {ks : List Nat} (h : NL S a false e (ksS ks)) (hp : p < ks.length) (ob : aw_is S b 4) : aw_M yX4_setKid cX4_setKid 3 (none : Option FieldType) 0 0 0 [.ref a, .int (nI p), .ref b] S (fun r S2 => r = none ∧ NL S2 a false e (ksS (ks.set p b)) ∧ frS S S2 (fun b => b = e)) := by
  have h7 := h.1.2.2.2.2.2.2
  rw [ksS_len] at h7
  refine (m_X4_setKid_w h.1 (by omega) ob).post (fun r S2 hp2 => ?_)
  obtain ⟨h1, rfl⟩ := hp2
  have hw := h.set (x := .inr (some b)) (p := p) ⟨rfl, fun c hc => by injection hc with hc; rw [← hc]; exact ob⟩ (by rw [ksS_len]; exact hp)
  rw [ksS_set] at hw
  exact ⟨h1, hw⟩
set_option maxHeartbeats 4000000 in
set_option maxRecDepth 100000 in
theorem m_X4_insertKid {S : aw_S} {a e p b : Nat} {ks : List Nat} (h : NL S a false e (ksS ks)) (hp : p ≤ ks.length) (h8 : ks.length < 7) (ob : aw_is S b 4) : aw_M yX4_insertKid cX4_insertKid 3 (none : Option FieldType) 2 0 0 [.ref a, .int (nI p), .ref b] S (fun r S2 => r = none ∧ NL S2 a false e (ksS (ks.insertIdx p b)) ∧ frS S S2 (fun b => b = a ∨ b = e)) := by
  have o := h.1.1
  refine aw_enter (by decide +kernel) (Nat.le_of_ble_eq_true rfl) (fun g K E => ?_)
  first | refine a_aload_n K dX4_insertKid_0 rfl ?_ | refine a_aload_nN K dX4_insertKid_0 rfl ?_
  refine a_iload_n K dX4_insertKid_1 rfl ?_
  refine a_invV K (m_X4_openSlot h.1 (by rw [ksS_len]; exact hp) (by rw [ksS_len]; exact h8) h.ok) my_X4_openSlot ml_X4_59 im_X4_openSlot se_X4_openSlot (ci := 4) (by assumption) (by decide) ⟨_, _, rfl⟩ rfl (by omega) (by omega) (by omega) rfl (Nat.le_of_ble_eq_true rfl) dX4_insertKid_2 ?_
  intro r9 T hp9
  obtain ⟨rfl, hT, fT, hv⟩ := hp9
  have oT := hT.1
  first | refine a_aload_n K dX4_insertKid_5 rfl ?_ | refine a_aload_nN K dX4_insertKid_5 rfl ?_
  refine a_iload_n K dX4_insertKid_6 rfl ?_
  first | refine a_aload_n K dX4_insertKid_7 rfl ?_ | refine a_aload_nN K dX4_insertKid_7 rfl ?_
  refine a_invV K (m_X4_setKid_w hT (show p < 7 by omega) (fT.is ob)) my_X4_setKid ml_X4_66 im_X4_setKid se_X4_setKid (ci := 4) (by assumption) (by decide) ⟨_, _, rfl⟩ rfl (by omega) (by omega) (by omega) rfl (Nat.le_of_ble_eq_true rfl) dX4_insertKid_8 ?_
  intro r9 T2 hp9
  obtain ⟨rfl, hT2⟩ := hp9
  have hw := h.ins (x := .inr (some b)) (by rw [ksS_len]; exact hp) (by rw [ksS_len]; exact h8) hT fT hv ⟨rfl, fun c hc => by injection hc with hc; rw [← hc]; exact ob⟩
  rw [ksS_ins, ← hT2] at hw
  exact a_vret K E (by omega) (by omega) dX4_insertKid_11 ⟨rfl, hw⟩
set_option maxHeartbeats 4000000 in
set_option maxRecDepth 100000 in
theorem m_X4_moveLastToFirst {S : aw_S} {a e f fe : Nat} {lf : Bool} {l m : List SD} {x : SD} (h : NL S a lf e l) (h2 : NL S f lf fe m) (na : a ≠ f) (ne : e ≠ fe) (h7 : l.length < 7) (hx : m[m.length - 1]? = some x) : aw_M yX4_moveLastToFirst cX4_moveLastToFirst 2 (none : Option FieldType) 2 0 0 [.ref a, .ref f] S (fun r S2 => r = none ∧ NL S2 a lf e (x :: l) ∧ NL S2 f lf fe (m.eraseIdx (m.length - 1)) ∧ frS S S2 (fun b => b = a ∨ b = e ∨ b = f ∨ b = fe)) := by
  have o := h.1.1
  have o2 := h2.1.1
  have s2 := h2.1.2.2.2.2.2.1
  refine aw_enter (by decide +kernel) (Nat.le_of_ble_eq_true rfl) (fun g K E => ?_)
  first | refine a_aload_n K dX4_moveLastToFirst_0 rfl ?_ | refine a_aload_nN K dX4_moveLastToFirst_0 rfl ?_
  refine a_iconst K dX4_moveLastToFirst_1 (v := 0) (by decide) ?_
  refine a_invV K (m_X4_openSlot h.1 (Nat.zero_le _) h7 h.ok) my_X4_openSlot ml_X4_59 im_X4_openSlot se_X4_openSlot (ci := 4) (by assumption) (by decide) ⟨_, _, rfl⟩ rfl (by omega) (by omega) (by omega) rfl (Nat.le_of_ble_eq_true rfl) dX4_moveLastToFirst_2 ?_
  intro r9 T hp9
  obtain ⟨rfl, hT, fT, hv⟩ := hp9
  have oT := hT.1
  have n1 : ¬ (f = a ∨ f = e) := fun z => z.elim (fun y => na y.symm) (fun y => h.1.ne2 h2.1 y.symm)
  have n2 : ¬ (fe = a ∨ fe = e) := fun z => z.elim (h2.1.ne2 h.1) (fun y => ne y.symm)
  have h2T := h2.fr fT n1 n2
  have ofT := h2T.1.1
  have sfT := h2T.1.2.2.2.2.2.1
  have hm := (List.getElem?_eq_some_iff.mp hx).1
  have h27 := h2.1.2.2.2.2.2.2
  have em : nI m.length - 1 = nI (m.length - 1) := by
    obtain ⟨j, hj⟩ : ∃ j, m.length = j + 1 := ⟨m.length - 1, by omega⟩
    rw [hj]; exact nI_pred j
  first | refine a_aload_n K dX4_moveLastToFirst_5 rfl ?_ | refine a_aload_nN K dX4_moveLastToFirst_5 rfl ?_
  refine a_iconst K dX4_moveLastToFirst_6 (v := 0) (by decide) ?_
  first | refine a_aload_n K dX4_moveLastToFirst_7 rfl ?_ | refine a_aload_nN K dX4_moveLastToFirst_7 rfl ?_
  first | refine a_aload_n K dX4_moveLastToFirst_8 rfl ?_ | refine a_aload_nN K dX4_moveLastToFirst_8 rfl ?_
  refine a_getI K fd_X4_30 (by assumption) (Or.inl rfl) dX4_moveLastToFirst_9 ?_
  rw [sfT]
  refine a_iconst K dX4_moveLastToFirst_12 (v := 1) (by decide) ?_
  refine a_isub K dX4_moveLastToFirst_13 ?_
  rw [em]
  refine a_invV K (m_X4_copySlot (t := 0) (p := m.length - 1) hT h2T.1 (by omega) (by omega) (h2T.ok _ (by omega))) my_X4_copySlot ml_X4_70 im_X4_copySlot se_X4_copySlot (ci := 4) (by assumption) (by decide) ⟨_, _, rfl⟩ rfl (by omega) (by omega) (by omega) rfl (Nat.le_of_ble_eq_true rfl) dX4_moveLastToFirst_14 ?_
  intro r9 T2 hp9
  obtain ⟨rfl, hT2⟩ := hp9
  rw [h2T.at_ hx] at hT2
  have hw := h.ins (x := x) (Nat.zero_le _) h7 hT fT hv (h2.2 _ x hx).2
  rw [← hT2] at hw
  have f3 : frS S T2 (fun b => b = a ∨ b = e) := hw.2
  have h2T2 := h2.fr f3 n1 n2
  have ofT2 := h2T2.1.1
  have sfT2 := h2T2.1.2.2.2.2.2.1
  first | refine a_aload_n K dX4_moveLastToFirst_17 rfl ?_ | refine a_aload_nN K dX4_moveLastToFirst_17 rfl ?_
  first | refine a_aload_n K dX4_moveLastToFirst_18 rfl ?_ | refine a_aload_nN K dX4_moveLastToFirst_18 rfl ?_
  refine a_getI K fd_X4_30 (by assumption) (Or.inl rfl) dX4_moveLastToFirst_19 ?_
  rw [sfT2]
  refine a_iconst K dX4_moveLastToFirst_22 (v := 1) (by decide) ?_
  refine a_isub K dX4_moveLastToFirst_23 ?_
  rw [em]
  refine a_invV K (m_X4_closeSlot h2T2.1 (p := m.length - 1) (by omega) h2T2.ok) my_X4_closeSlot ml_X4_63 im_X4_closeSlot se_X4_closeSlot (ci := 4) (by assumption) (by decide) ⟨_, _, rfl⟩ rfl (by omega) (by omega) (by omega) rfl (Nat.le_of_ble_eq_true rfl) dX4_moveLastToFirst_24 ?_
  intro r9 T3 hp9
  obtain ⟨rfl, hT3, fT3, hv3⟩ := hp9
  exact a_vret K E (by omega) (by omega) dX4_moveLastToFirst_27 ⟨rfl, hw.1.fr fT3 (fun z => z.elim na (fun y => h2.1.ne2 h.1 y.symm)) (fun z => z.elim (h.1.ne2 h2.1) ne), h2T2.erase (by omega) hT3 fT3 hv3, f3.tr fT3 (fun _ z => z.elim Or.inl (fun y => Or.inr (Or.inl y))) (fun _ z => Or.inr (Or.inr z))⟩
set_option maxHeartbeats 4000000 in
set_option maxRecDepth 100000 in
theorem m_X4_moveFirstToLast {S : aw_S} {a e f fe : Nat} {lf : Bool} {l m : List SD} {x : SD} (h : NL S a lf e l) (h2 : NL S f lf fe m) (na : a ≠ f) (ne : e ≠ fe) (h7 : l.length < 7) (hx : m[0]? = some x) : aw_M yX4_moveFirstToLast cX4_moveFirstToLast 2 (none : Option FieldType) 2 0 0 [.ref a, .ref f] S (fun r S2 => r = none ∧ NL S2 a lf e (l ++ [x]) ∧ NL S2 f lf fe (m.eraseIdx 0) ∧ frS S S2 (fun b => b = a ∨ b = e ∨ b = f ∨ b = fe)) := by
  have o := h.1.1
  have o2 := h2.1.1
  have hm := (List.getElem?_eq_some_iff.mp hx).1
  have n1 : ¬ (f = a ∨ f = e) := fun z => z.elim (fun y => na y.symm) (fun y => h.1.ne2 h2.1 y.symm)
  have n2 : ¬ (fe = a ∨ fe = e) := fun z => z.elim (h2.1.ne2 h.1) (fun y => ne y.symm)
  refine aw_enter (by decide +kernel) (Nat.le_of_ble_eq_true rfl) (fun g K E => ?_)
  first | refine a_aload_n K dX4_moveFirstToLast_0 rfl ?_ | refine a_aload_nN K dX4_moveFirstToLast_0 rfl ?_
  first | refine a_aload_n K dX4_moveFirstToLast_1 rfl ?_ | refine a_aload_nN K dX4_moveFirstToLast_1 rfl ?_
  refine a_iconst K dX4_moveFirstToLast_2 (v := 0) (by decide) ?_
  refine a_invV K (m_X4_append (p := 0) h h2.1 h7 (by omega) (h2.ok _ hm)) my_X4_append ml_X4_74 im_X4_append se_X4_append (ci := 4) (by assumption) (by decide) ⟨_, _, rfl⟩ rfl (by omega) (by omega) (by omega) rfl (Nat.le_of_ble_eq_true rfl) dX4_moveFirstToLast_3 ?_
  intro r9 T hp9
  obtain ⟨rfl, hT, fT⟩ := hp9
  rw [h2.at_ hx] at hT
  have h2T := h2.fr fT n1 n2
  have ofT := h2T.1.1
  first | refine a_aload_n K dX4_moveFirstToLast_6 rfl ?_ | refine a_aload_nN K dX4_moveFirstToLast_6 rfl ?_
  refine a_iconst K dX4_moveFirstToLast_7 (v := 0) (by decide) ?_
  refine a_invV K (m_X4_closeSlot (p := 0) h2T.1 hm h2T.ok) my_X4_closeSlot ml_X4_63 im_X4_closeSlot se_X4_closeSlot (ci := 4) (by assumption) (by decide) ⟨_, _, rfl⟩ rfl (by omega) (by omega) (by omega) rfl (Nat.le_of_ble_eq_true rfl) dX4_moveFirstToLast_8 ?_
  intro r9 T3 hp9
  obtain ⟨rfl, hT3, fT3, hv3⟩ := hp9
  exact a_vret K E (by omega) (by omega) dX4_moveFirstToLast_11 ⟨rfl, hT.fr fT3 (fun z => z.elim na (fun y => h2.1.ne2 h.1 y.symm)) (fun z => z.elim (h.1.ne2 h2.1) ne), h2T.erase hm hT3 fT3 hv3, fT.tr fT3 (fun _ z => z.elim Or.inl (fun y => Or.inr (Or.inl y))) (fun _ z => Or.inr (Or.inr z))⟩
set_option maxHeartbeats 4000000 in
set_option maxRecDepth 100000 in
theorem m_X4_appendAll {S : aw_S} {a e f fe : Nat} {lf : Bool} {l m : List SD} (h : NL S a lf e l) (h2 : NL S f lf fe m) (na : a ≠ f) (ne : e ≠ fe) (h7 : l.length + m.length ≤ 7) : aw_M yX4_appendAll cX4_appendAll 3 (none : Option FieldType) 2 0 0 [.ref a, .ref f] S (fun r S2 => r = none ∧ NL S2 a lf e (l ++ m) ∧ frS S S2 (fun b => b = a ∨ b = e)) := by
  have h27 := h2.1.2.2.2.2.2.2
  have n1 : ¬ (f = a ∨ f = e) := fun z => z.elim (fun y => na y.symm) (fun y => h.1.ne2 h2.1 y.symm)
  have n2 : ¬ (fe = a ∨ fe = e) := fun z => z.elim (h2.1.ne2 h.1) (fun y => ne y.symm)
  refine aw_enter (by decide +kernel) (Nat.le_of_ble_eq_true rfl) (fun g K E => ?_)
  have loop : ∀ (i j : Nat) (x : Int32) (T : aw_S), x = nI j → j + i = m.length → NL T a lf e (l ++ m.take j) → frS S T (fun b => b = a ∨ b = e) → aw g 3 T 0 0 [(2, .int x), (1, .ref f), (0, .ref a)] [] 2 := by
    intro i
    induction i with
    | zero =>
      intro j x T hx hi hT fT
      subst hx
      have h2T := h2.fr fT n1 n2
      have ofT := h2T.1.1
      have oT := hT.1.1
      refine a_iload_n K dX4_appendAll_2 rfl ?_
      first | refine a_aload_n K dX4_appendAll_3 rfl ?_ | refine a_aload_nN K dX4_appendAll_3 rfl ?_
      refine a_getI K fd_X4_30 (by assumption) (Or.inl rfl) dX4_appendAll_4 ?_
      refine a_icmp_ge K dX4_appendAll_7 (tgt := 22) (by decide) (fun c_7 => ?_) (fun c_7 => absurd c_7 (by rw [h2T.1.2.2.2.2.2.1]; exact fun z => z (nI_le (by omega) (by omega))))
      exact a_vret K E (by omega) (by omega) dX4_appendAll_22 ⟨rfl, by rw [show j = m.length by omega, List.take_length] at hT; exact hT, fT⟩
    | succ i ih =>
      intro j x T hx hi hT fT
      subst hx
      have h2T := h2.fr fT n1 n2
      have ofT := h2T.1.1
      have oT := hT.1.1
      refine a_iload_n K dX4_appendAll_2 rfl ?_
      first | refine a_aload_n K dX4_appendAll_3 rfl ?_ | refine a_aload_nN K dX4_appendAll_3 rfl ?_
      refine a_getI K fd_X4_30 (by assumption) (Or.inl rfl) dX4_appendAll_4 ?_
      refine a_icmp_ge K dX4_appendAll_7 (tgt := 22) (by decide) (fun c_7 => absurd c_7 (by rw [h2T.1.2.2.2.2.2.1]; exact nI_ge (show j < m.length by omega) (by omega))) (fun c_7 => ?_)
      first | refine a_aload_n K dX4_appendAll_10 rfl ?_ | refine a_aload_nN K dX4_appendAll_10 rfl ?_
      first | refine a_aload_n K dX4_appendAll_11 rfl ?_ | refine a_aload_nN K dX4_appendAll_11 rfl ?_
      refine a_iload_n K dX4_appendAll_12 rfl ?_
      refine a_invV K (m_X4_append (p := j) hT h2T.1 (by rw [List.length_append, List.length_take]; omega) (by omega) (h2T.ok _ (by omega))) my_X4_append ml_X4_74 im_X4_append se_X4_append (ci := 4) (by assumption) (by decide) ⟨_, _, rfl⟩ rfl (by omega) (by omega) (by omega) rfl (Nat.le_of_ble_eq_true rfl) dX4_appendAll_13 ?_
      intro r9 T2 hp9
      obtain ⟨rfl, hT2, fT2⟩ := hp9
      rw [h2T.at_ (List.getElem?_eq_getElem (show j < m.length by omega)), List.append_assoc, ← List.take_succ_eq_append_getElem (show j < m.length by omega)] at hT2
      refine a_iinc K dX4_appendAll_16 (v := 1) rfl (by decide) (by decide) ?_
      refine a_goto K dX4_appendAll_19 (tgt := 2) (by decide) ?_
      exact aw_locl rfl (ih (j + 1) _ T2 (nI_1 j) (by omega) hT2 (fT.tr fT2 (fun _ z => z) (fun _ z => z)))
  refine a_iconst K dX4_appendAll_0 (v := 0) (by decide) ?_
  refine a_istore_n K dX4_appendAll_1 (by decide) ?_
  exact aw_locl rfl (loop m.length 0 0 S nI_0.symm (by omega) (by simpa using h) frS.rf)
theorem tk_drop {α : Type} {m : List α} {q j : Nat} (hq : q ≤ j) (hj : j < m.length) : (m.drop q).take (j - q) ++ [m[j]] = (m.drop q).take (j + 1 - q) := by
  have h1 : j - q < (m.drop q).length := by rw [List.length_drop]; omega
  have h2 : (m.drop q)[j - q] = m[j] := by
    rw [List.getElem_drop]
    congr 1
    omega
  rw [show j + 1 - q = j - q + 1 by omega, List.take_succ_eq_append_getElem h1, h2]
theorem NL.cut {S : aw_S} {f fe q : Nat} {lf : Bool} {m : List SD} (h : NL S f lf fe m) (hq : q ≤ m.length) : NL (wI S 259 f (nI q)) f lf fe (m.take q) := by
  have f3 := frS_wI (S := S) (F := 259) (a := f) (v := nI q) (by decide)
  have h7 := h.1.2.2.2.2.2.2
  refine ⟨by rw [List.length_take, Nat.min_eq_left hq]; exact h.1.fr f3 wI_at (by omega), fun k x hx => ?_⟩
  rw [List.getElem?_take] at hx
  by_cases hk : k < q
  · rw [if_pos hk] at hx
    rw [sl_fr f3 h.1.ne]
    exact ⟨(h.2 k x hx).1, (h.2 k x hx).2.fr f3⟩
  · rw [if_neg hk] at hx
    exact absurd hx (by simp)
theorem nI_sub {a b : Nat} (h : b ≤ a) : nI a - nI b = nI (a - b) := by
  obtain ⟨c, rfl⟩ : ∃ c, a = c + b := ⟨a - b, by omega⟩
  rw [← nI_add, Int32.add_sub_cancel, Nat.add_sub_cancel]
set_option maxHeartbeats 4000000 in
set_option maxRecDepth 100000 in
theorem m_X4_moveLast {S : aw_S} {a e f fe n q : Nat} {lf : Bool} {l m : List SD} (h : NL S a lf e l) (h2 : NL S f lf fe m) (na : a ≠ f) (ne : e ≠ fe) (h7 : l.length + n ≤ 7) (hq : n + q = m.length) : aw_M yX4_moveLast cX4_moveLast 5 (none : Option FieldType) 2 0 0 [.ref a, .ref f, .int (nI n)] S (fun r S2 => r = none ∧ NL S2 a lf e (l ++ m.drop q) ∧ NL S2 f lf fe (m.take q) ∧ frS S S2 (fun b => b = a ∨ b = e ∨ b = f ∨ b = fe)) := by
  have h27 := h2.1.2.2.2.2.2.2
  have o2 := h2.1.1
  have s2 := h2.1.2.2.2.2.2.1
  have n1 : ¬ (f = a ∨ f = e) := fun z => z.elim (fun y => na y.symm) (fun y => h.1.ne2 h2.1 y.symm)
  have n2 : ¬ (fe = a ∨ fe = e) := fun z => z.elim (h2.1.ne2 h.1) (fun y => ne y.symm)
  refine aw_enter (by decide +kernel) (Nat.le_of_ble_eq_true rfl) (fun g K E => ?_)
  have loop : ∀ (i j : Nat) (x : Int32) (T : aw_S), x = nI j → j + i = m.length → q ≤ j → NL T a lf e (l ++ (m.drop q).take (j - q)) → frS S T (fun b => b = a ∨ b = e) → aw g 5 T 0 0 [(4, .int x), (3, .int (nI q)), (1, .ref f), (0, .ref a)] [] 19 := by
    intro i
    induction i with
    | zero =>
      intro j x T hx hi hj hT fT
      subst hx
      have h2T := h2.fr fT n1 n2
      have ofT := h2T.1.1
      have oT := hT.1.1
      refine a_iload K dX4_moveLast_19 rfl ?_
      first | refine a_aload_n K dX4_moveLast_21 rfl ?_ | refine a_aload_nN K dX4_moveLast_21 rfl ?_
      refine a_getI K fd_X4_30 (by assumption) (Or.inl rfl) dX4_moveLast_22 ?_
      refine a_icmp_ge K dX4_moveLast_25 (tgt := 41) (by decide) (fun c_25 => ?_) (fun c_25 => absurd c_25 (by rw [h2T.1.2.2.2.2.2.1]; exact fun z => z (nI_le (by omega) (by omega))))
      have f3 := frS_wI (S := T) (F := 259) (a := f) (v := nI q) (by decide)
      first | refine a_aload_n K dX4_moveLast_41 rfl ?_ | refine a_aload_nN K dX4_moveLast_41 rfl ?_
      refine a_iload_n K dX4_moveLast_42 rfl ?_
      refine a_putI K fd_X4_30 (by assumption) rfl dX4_moveLast_43 ?_
      exact a_vret K E (by omega) (by omega) dX4_moveLast_46 ⟨rfl, by rw [show j - q = m.length - q by omega, ← List.length_drop, List.take_length] at hT; exact hT.fr f3 na (h.1.ne2 h2.1), NL.cut h2T (by omega), fT.tr f3 (fun _ z => z.elim Or.inl (fun y => Or.inr (Or.inl y))) (fun _ z => Or.inr (Or.inr (Or.inl z)))⟩
    | succ i ih =>
      intro j x T hx hi hj hT fT
      subst hx
      have h2T := h2.fr fT n1 n2
      have ofT := h2T.1.1
      have oT := hT.1.1
      refine a_iload K dX4_moveLast_19 rfl ?_
      first | refine a_aload_n K dX4_moveLast_21 rfl ?_ | refine a_aload_nN K dX4_moveLast_21 rfl ?_
      refine a_getI K fd_X4_30 (by assumption) (Or.inl rfl) dX4_moveLast_22 ?_
      refine a_icmp_ge K dX4_moveLast_25 (tgt := 41) (by decide) (fun c_25 => absurd c_25 (by rw [h2T.1.2.2.2.2.2.1]; exact nI_ge (show j < m.length by omega) (by omega))) (fun c_25 => ?_)
      first | refine a_aload_n K dX4_moveLast_28 rfl ?_ | refine a_aload_nN K dX4_moveLast_28 rfl ?_
      first | refine a_aload_n K dX4_moveLast_29 rfl ?_ | refine a_aload_nN K dX4_moveLast_29 rfl ?_
      refine a_iload K dX4_moveLast_30 rfl ?_
      refine a_invV K (m_X4_append (p := j) hT h2T.1 (by rw [List.length_append, List.length_take, List.length_drop]; omega) (by omega) (h2T.ok _ (by omega))) my_X4_append ml_X4_74 im_X4_append se_X4_append (ci := 4) (by assumption) (by decide) ⟨_, _, rfl⟩ rfl (by omega) (by omega) (by omega) rfl (Nat.le_of_ble_eq_true rfl) dX4_moveLast_32 ?_
      intro r9 T2 hp9
      obtain ⟨rfl, hT2, fT2⟩ := hp9
      rw [h2T.at_ (List.getElem?_eq_getElem (show j < m.length by omega)), List.append_assoc, tk_drop (by omega) (by omega)] at hT2
      refine a_iinc K dX4_moveLast_35 (v := 1) rfl (by decide) (by decide) ?_
      refine a_goto K dX4_moveLast_38 (tgt := 19) (by decide) ?_
      exact aw_locl rfl (ih (j + 1) _ T2 (nI_1 j) (by omega) (by omega) hT2 (fT.tr fT2 (fun _ z => z) (fun _ z => z)))
  first | refine a_aload_n K dX4_moveLast_0 rfl ?_ | refine a_aload_nN K dX4_moveLast_0 rfl ?_
  refine a_getI K fd_X4_30 (by assumption) (Or.inl rfl) dX4_moveLast_1 ?_
  rw [s2]
  refine a_iload_n K dX4_moveLast_4 rfl ?_
  refine a_isub K dX4_moveLast_5 ?_
  rw [nI_sub (by omega), show m.length - n = q by omega]
  refine a_istore_n K dX4_moveLast_6 (by decide) ?_
  refine a_iload_n K dX4_moveLast_7 rfl ?_
  refine a_if_lt K dX4_moveLast_8 (tgt := 15) (by decide) (fun c_8 => absurd c_8 (nI_pos (show n < 2 ^ 31 by omega))) (fun c_8 => ?_)
  refine a_iload_n K dX4_moveLast_11 rfl ?_
  refine a_if_ge K dX4_moveLast_12 (tgt := 16) (by decide) (fun c_12 => ?_) (fun c_12 => absurd c_12 (fun z => z (nI_pos' (show q < 2 ^ 31 by omega))))
  refine a_iload_n K dX4_moveLast_16 rfl ?_
  refine a_istore K dX4_moveLast_17 (by decide) ?_
  exact aw_locl rfl (loop (m.length - q) q _ S rfl (by omega) (by omega) (by simpa using h) frS.rf)
