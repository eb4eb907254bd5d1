theorem Qk37 {v : Nat → Nat} {ks : List Nat} (hk : ∀ k ∈ ks, k < 37) : ∀ b, Qk v ks b → ∃ k, k < 37 ∧ b = v k := fun b ⟨k, h, e⟩ => ⟨k, hk k h, e⟩
def incT (P : PS) : PS := ((pW P, pMd P, pTk P + 1, pU P), pM P, pH P, pI P, pY P, pB P, pR P, pG P, pT P, pS P)
def refP (P : PS) (k : Nat) : PS := (P.1, pM P, pH P, pI P, pY P, pB P, fun i => if i = k then pR P i + 1 else pR P i, pG P, pT P, pS P)
def addM (P : PS) (z : Tz) (a b : Int32) : PS := (P.1, pM P ++ [(z, a, b)], fun i => i == (pM P).length || pH P i, pI P, pY P, pB P, pR P, pG P, pT P, pS P)
theorem c_newToken {S : aw_S} {v ad ar : Nat → Nat} {PA : List (Nat × Nat)} {X : List Nat} {mb : Nat} {P : PS} (h : RC S v ad ar PA X mb P) : aw_M yX1_newToken cX1_newToken 1 (some FieldType.int) 0 0 0 [.ref (v 5)] S (fun r S2 => r = some (.int (nI (pTk P))) ∧ RC S2 v ad ar PA X mb (incT P) ∧ keepX X S S2) := by
  have hL := h.L
  refine (m_X1_newToken (lw_i5 hL)).post (fun r S2 hp => ?_)
  obtain ⟨hr, hS⟩ := hp
  have e := h.2.1.2.2
  rw [e] at hr hS
  rw [nI_1] at hS
  subst hS
  have f : frS S (wI S 66 (v 5) (nI (pTk P + 1))) (Qk v [5]) := (frS_wI (by decide)).mono (fun b z => ⟨5, by decide, z⟩)
  have no : ∀ j, j < 37 → j ≠ 5 → ¬ Qk v [5] (v j) := fun j hj h5 => Qk_no hL (by decide) hj (by simp; exact h5)
  have ei : ∀ F b, F ≠ 66 → sI (wI S 66 (v 5) (nI (pTk P + 1))) F b = sI S F b := fun F b hF => by rw [sI_wI, if_neg (fun z => hF z.1)]
  obtain ⟨a, b⟩ := RC.gen (P2 := incT P) h f (Qk37 (by decide)) (no 13 (by decide) (by decide)) (no 3 (by decide) (by decide)) (ei _ _ (by decide)) (ei _ _ (by decide)) rfl rfl ⟨(ei _ _ (by decide)).trans h.2.1.1, (ei _ _ (by decide)).trans h.2.1.2.1, wI_at⟩ (MaW.fr h.2.2.1 f (fun j h1 hj => no j (by omega) (by omega)) rfl rfl rfl rfl) (BuW.fr h.2.2.2.1 f (fun j hj => no _ (by omega) (by omega)) rfl) (ReW.fr h.2.2.2.2.1 f (no 18 (by decide) (by decide)) rfl) (TaW.fr h.2.2.2.2.2.2.1 f (no 0 (by decide) (by decide)) (no 1 (by decide) (by decide)) rfl) (h.2.2.2.2.2.2.2.1.fr f.fr (no 19 (by decide) (by decide)) (no 20 (by decide) (by decide))) h.2.2.2.2.2.2.2.2.1.2.1 h.2.2.2.2.2.2.2.2.1.2.2
  exact ⟨hr, a, b⟩
theorem c_refused {S : aw_S} {v ad ar : Nat → Nat} {PA : List (Nat × Nat)} {X : List Nat} {mb : Nat} {P : PS} (h : RC S v ad ar PA X mb P) (k : Nat) (hk : k < 5) : aw_M yX10_refused cX10_refused 2 (some FieldType.int) 0 0 0 [.ref (v 4), .int (nI k)] S (fun r S2 => r = some (.int (-1)) ∧ RC S2 v ad ar PA X mb (refP P k) ∧ keepX X S S2) := by
  have hL := h.L
  refine (w_refused hL k hk).post (fun r S2 hp => ?_)
  obtain ⟨hr, hS⟩ := hp
  subst hS
  have f : frS S (wA S (v 18) k (sA S (v 18) k + 1)) (Qk v [18]) := frS_wA.mono (fun b z => ⟨18, by decide, z⟩)
  have no : ∀ j, j < 37 → j ≠ 18 → ¬ Qk v [18] (v j) := fun j hj h5 => Qk_no hL (by decide) hj (by simp; exact h5)
  obtain ⟨a, b⟩ := RC.gen (P2 := refP P k) h f (Qk37 (by decide)) (no 13 (by decide) (by decide)) (no 3 (by decide) (by decide)) rfl rfl rfl rfl (GrW.fr h.2.1 f (no 5 (by decide) (by decide)) rfl rfl rfl) (MaW.fr h.2.2.1 f (fun j h1 hj => no j (by omega) (by omega)) rfl rfl rfl rfl) (BuW.fr h.2.2.2.1 f (fun j hj => no _ (by omega) (by omega)) rfl) (fun i hi => by
      show sA (wA S (v 18) k _) (v 18) i = if i = k then pR P i + 1 else pR P i
      rw [sA_wA, h.2.2.2.2.1 k hk]
      by_cases e : i = k
      · rw [if_pos ⟨rfl, e⟩, if_pos e, e]
      · rw [if_neg (fun z => e z.2), if_neg e]
        exact h.2.2.2.2.1 i hi) (TaW.fr h.2.2.2.2.2.2.1 f (no 0 (by decide) (by decide)) (no 1 (by decide) (by decide)) rfl) (h.2.2.2.2.2.2.2.1.fr f.fr (no 19 (by decide) (by decide)) (no 20 (by decide) (by decide))) h.2.2.2.2.2.2.2.2.1.2.1 h.2.2.2.2.2.2.2.2.1.2.2
  exact ⟨hr, a, b⟩
theorem hcnt_add {hd : Nat → Bool} {g : Nat} (h0 : hd g = false) : ∀ n, g < n → (List.range n).countP (fun i => i == g || hd i) = (List.range n).countP hd + 1
  | 0, h => absurd h (Nat.not_lt_zero _)
  | n + 1, h => by
    rw [List.range_succ, List.countP_append, List.countP_append, List.countP_singleton, List.countP_singleton]
    by_cases e : g = n
    · subst e
      have e1 : (List.range g).countP (fun i => i == g || hd i) = (List.range g).countP hd := List.countP_congr (fun i hi => by
        have h1 : i ≠ g := Nat.ne_of_lt (List.mem_range.mp hi)
        rw [show (i == g) = false from by simp [h1], Bool.false_or])
      rw [e1, h0]
      simp
    · have ih := hcnt_add h0 n (by omega)
      rw [ih, show (n == g) = false from by simp; exact fun z => e z.symm, Bool.false_or]
      omega
set_option maxHeartbeats 4000000 in
set_option maxRecDepth 100000 in
theorem m_X3_keep {S : aw_S} {a ra oa ta ha b g hc : Nat} {x y : Int32} (o3 : aw_is S a 3) (r1 : sR S 192 a = some ra) (r2 : sR S 193 a = some oa) (r3 : sR S 194 a = some ta) (r4 : sR S 195 a = some ha) (i7 : aw_is S ra 16) (i8 : aw_is S oa 13) (i9 : aw_is S ta 13) (i10 : aw_is S ha 14) (n7 : sN S ra = 999) (n8 : sN S oa = 999) (n9 : sN S ta = 999) (n10 : sN S ha = 999) (ob : aw_is S b 4) (hg : sI S 199 a = nI g) (hh : sI S 200 a = nI hc) (hlt : g < 999) : aw_M yX3_keep cX3_keep 4 (some FieldType.int) 0 0 0 [.ref a, .ref b, .int x, .int y] S (fun r S2 => r = some (.int (nI g)) ∧ S2 = wI (wI (wA (wA (wA (wQ S ra g (some b)) oa g x) ta g y) ha g (vp_nar .boolean 1)) 200 a (nI (hc + 1))) 199 a (nI (g + 1))) := by
  have hgb : g < 2 ^ 31 := by omega
  refine aw_enter (by decide +kernel) (Nat.le_of_ble_eq_true rfl) (fun g K EE => ?_)
  first | refine a_aload_n K dX3_keep_0 rfl ?_ | refine a_aload_nN K dX3_keep_0 rfl ?_
  refine a_getI K fd_X3_38 (by assumption) (Or.inl rfl) dX3_keep_1 ?_
  refine a_if_lt K dX3_keep_4 (tgt := 17) (by decide) (fun c_4 => absurd c_4 (by rw [hg]; exact nI_pos hgb)) (fun c_4 => ?_)
  first | refine a_aload_n K dX3_keep_7 rfl ?_ | refine a_aload_nN K dX3_keep_7 rfl ?_
  refine a_getI K fd_X3_38 (by assumption) (Or.inl rfl) dX3_keep_8 ?_
  refine a_sipush K dX3_keep_11 (v := 999) (by decide) ?_
  refine a_icmp_lt K dX3_keep_14 (tgt := 19) (by decide) (fun c_14 => ?_) (fun c_14 => absurd c_14 (by rw [hg]; exact fun z => z (nI_lt (b := 999) hlt (by decide))))
  first | refine a_aload_n K dX3_keep_19 rfl ?_ | refine a_aload_nN K dX3_keep_19 rfl ?_
  refine a_getRs K fd_X3_11 (by assumption) (Or.inr ⟨_, rfl⟩) (by assumption) dX3_keep_20 ?_
  first | refine a_aload_n K dX3_keep_23 rfl ?_ | refine a_aload_nN K dX3_keep_23 rfl ?_
  refine a_getI K fd_X3_38 (by assumption) (Or.inl rfl) dX3_keep_24 ?_
  first | refine a_aload_n K dX3_keep_27 rfl ?_ | refine a_aload_nN K dX3_keep_27 rfl ?_
  simp only [sI_wQ, sI_wA, hg, hh, nI_clamp hgb]
  refine a_aastN K (by assumption) (by assumption) (by rw [n7]; exact vp_in_nI (by omega) (by omega)) dX3_keep_28 ?_
  first | refine a_aload_n K dX3_keep_29 rfl ?_ | refine a_aload_nN K dX3_keep_29 rfl ?_
  refine a_getRs K fd_X3_17 (by assumption) (Or.inr ⟨_, rfl⟩) (by assumption) dX3_keep_30 ?_
  first | refine a_aload_n K dX3_keep_33 rfl ?_ | refine a_aload_nN K dX3_keep_33 rfl ?_
  refine a_getI K fd_X3_38 (by assumption) (Or.inl rfl) dX3_keep_34 ?_
  refine a_iload_n K dX3_keep_37 rfl ?_
  simp only [sI_wQ, sI_wA, hg, hh, nI_clamp hgb]
  refine a_iast K (by assumption) (by show vp_in _ (sN S oa); rw [n8]; exact vp_in_nI (by omega) (by omega)) dX3_keep_38 ?_
  first | refine a_aload_n K dX3_keep_39 rfl ?_ | refine a_aload_nN K dX3_keep_39 rfl ?_
  refine a_getRs K fd_X3_21 (by assumption) (Or.inr ⟨_, rfl⟩) (by assumption) dX3_keep_40 ?_
  first | refine a_aload_n K dX3_keep_43 rfl ?_ | refine a_aload_nN K dX3_keep_43 rfl ?_
  refine a_getI K fd_X3_38 (by assumption) (Or.inl rfl) dX3_keep_44 ?_
  refine a_iload_n K dX3_keep_47 rfl ?_
  simp only [sI_wQ, sI_wA, hg, hh, nI_clamp hgb]
  refine a_iast K (by assumption) (by show vp_in _ (sN S ta); rw [n9]; exact vp_in_nI (by omega) (by omega)) dX3_keep_48 ?_
  first | refine a_aload_n K dX3_keep_49 rfl ?_ | refine a_aload_nN K dX3_keep_49 rfl ?_
  refine a_getRs K fd_X3_24 (by assumption) (Or.inr ⟨_, rfl⟩) (by assumption) dX3_keep_50 ?_
  first | refine a_aload_n K dX3_keep_53 rfl ?_ | refine a_aload_nN K dX3_keep_53 rfl ?_
  refine a_getI K fd_X3_38 (by assumption) (Or.inl rfl) dX3_keep_54 ?_
  refine a_iconst K dX3_keep_57 (v := 1) (by decide) ?_
  simp only [sI_wQ, sI_wA, hg, hh, nI_clamp hgb]
  refine a_zast K (by assumption) (by show vp_in _ (sN S ha); rw [n10]; exact vp_in_nI (by omega) (by omega)) dX3_keep_58 ?_
  first | refine a_aload_n K dX3_keep_59 rfl ?_ | refine a_aload_nN K dX3_keep_59 rfl ?_
  refine a_dup K dX3_keep_60 rfl ?_
  refine a_getI K fd_X3_42 (by assumption) (Or.inl rfl) dX3_keep_61 ?_
  simp only [sI_wQ, sI_wA, hg, hh, nI_clamp hgb]
  refine a_iconst K dX3_keep_64 (v := 1) (by decide) ?_
  refine a_iadd K dX3_keep_65 ?_
  rw [nI_1]
  refine a_putI K fd_X3_42 (by assumption) rfl dX3_keep_66 ?_
  first | refine a_aload_n K dX3_keep_69 rfl ?_ | refine a_aload_nN K dX3_keep_69 rfl ?_
  refine a_dup K dX3_keep_70 rfl ?_
  refine a_getI K fd_X3_38 (by assumption) (Or.inl rfl) dX3_keep_71 ?_
  rw [sI_wI, if_neg (fun z => absurd z.1 (by decide))]
  simp only [sI_wQ, sI_wA, hg, hh, nI_clamp hgb]
  refine a_dup_x1 K dX3_keep_74 rfl rfl ?_
  refine a_iconst K dX3_keep_75 (v := 1) (by decide) ?_
  refine a_iadd K dX3_keep_76 ?_
  rw [nI_1]
  refine a_putI K fd_X3_38 (by assumption) rfl dX3_keep_77 ?_
  exact a_iret K EE rfl (by omega) (by omega) dX3_keep_80 ⟨rfl, by first | rfl | (simp only [nI_clamp hgb])⟩
theorem frS.st {S A B : aw_S} {Q R : Nat → Prop} (h : frS S A R) (k : frS A B Q) (hq : ∀ b, Q b → R b) : frS S B R := h.tr k (fun _ z => z) hq
theorem c_keep {S : aw_S} {v ad ar : Nat → Nat} {PA : List (Nat × Nat)} {X : List Nat} {mb : Nat} {P : PS} (h : RC S v ad ar PA X mb P) {z : Tz} (tz : TrW S ad ar (pU P) z) (hlt : (pM P).length < 999) {x y : Int32} : aw_M yX3_keep cX3_keep 4 (some FieldType.int) 0 0 0 [.ref (v 6), .ref (ad z.2.1), .int x, .int y] S (fun r S2 => r = some (.int (nI (pM P).length)) ∧ RC S2 v ad ar PA X mb (addM P z x y) ∧ keepX X S S2) := by
  have hL := h.L
  obtain ⟨m1, m2, m3, m4, m5, m6, m7⟩ := h.2.2.1
  refine (m_X3_keep (lw_i6 hL) (lw_f192_6 hL) (lw_f193_6 hL) (lw_f194_6 hL) (lw_f195_6 hL) (lw_i7 hL) (lw_i8 hL) (lw_i9 hL) (lw_i10 hL) (lw_n7 hL) (lw_n8 hL) (lw_n9 hL) (lw_n10 hL) tz.1.is m1 m3 hlt (x := x) (y := y)).post (fun r S2 hp => ?_)
  obtain ⟨hr, hS⟩ := hp
  have q : ∀ {k : Nat}, k ∈ ([6, 7, 8, 9, 10] : List Nat) → ∀ b, b = v k → Qk v [6, 7, 8, 9, 10] b := fun hk b e => ⟨_, hk, e⟩
  have f : frS S S2 (Qk v [6, 7, 8, 9, 10]) := by
    rw [hS]
    exact (((((((frS_wQ (S := S)).mono (q (by decide))).st frS_wA (q (by decide))).st frS_wA (q (by decide))).st frS_wA (q (by decide))).st (frS_wI (by decide)) (q (by decide))).st (frS_wI (by decide)) (q (by decide)))
  have no : ∀ j, j < 37 → j < 6 ∨ 10 < j → ¬ Qk v [6, 7, 8, 9, 10] (v j) := fun j hj h5 => Qk_no hL (by decide) hj (by simp; omega)
  have ne : ∀ a b, a < 37 → b < 37 → a ≠ b → v a ≠ v b := fun a b ha hb hn z => hn (lw_inj hL a b ha hb z)
  have eA : ∀ b k, sA S2 b k = if b = v 10 ∧ k = (pM P).length then vp_nar .boolean 1 else if b = v 9 ∧ k = (pM P).length then y else if b = v 8 ∧ k = (pM P).length then x else sA S b k := fun b k => by
    rw [hS, sA_wI, sA_wI, sA_wA, sA_wA, sA_wA, sA_wQ]
  have eQ : ∀ b k, sQ S2 b k = if b = v 7 ∧ k = (pM P).length then some (ad z.2.1) else sQ S b k := fun b k => by
    rw [hS, sQ_wI, sQ_wI, sQ_wA, sQ_wA, sQ_wA, sQ_wQ]
  have e7 : ∀ k, sQ S2 (v 7) k = if k = (pM P).length then some (ad z.2.1) else sQ S (v 7) k := fun k => by
    rw [eQ]
    by_cases e : k = (pM P).length
    · rw [if_pos ⟨rfl, e⟩, if_pos e]
    · rw [if_neg (fun q => e q.2), if_neg e]
  have e8 : ∀ k, sA S2 (v 8) k = if k = (pM P).length then x else sA S (v 8) k := fun k => by
    rw [eA, if_neg (fun q => ne 8 10 (by decide) (by decide) (by decide) q.1), if_neg (fun q => ne 8 9 (by decide) (by decide) (by decide) q.1)]
    by_cases e : k = (pM P).length
    · rw [if_pos ⟨rfl, e⟩, if_pos e]
    · rw [if_neg (fun q => e q.2), if_neg e]
  have e9 : ∀ k, sA S2 (v 9) k = if k = (pM P).length then y else sA S (v 9) k := fun k => by
    rw [eA, if_neg (fun q => ne 9 10 (by decide) (by decide) (by decide) q.1)]
    by_cases e : k = (pM P).length
    · rw [if_pos ⟨rfl, e⟩, if_pos e]
    · rw [if_neg (fun q => e q.2), if_neg (fun q => e q.2), if_neg e]
  have e10 : ∀ k, sA S2 (v 10) k = if k = (pM P).length then vp_nar .boolean 1 else sA S (v 10) k := fun k => by
    rw [eA]
    by_cases e : k = (pM P).length
    · rw [if_pos ⟨rfl, e⟩, if_pos e]
    · rw [if_neg (fun q => e q.2), if_neg (fun q => e q.2), if_neg (fun q => e q.2), if_neg e]
  have e11 : ∀ k, sA S2 (v 11) k = sA S (v 11) k := fun k => by
    rw [eA, if_neg (fun q => ne 11 10 (by decide) (by decide) (by decide) q.1), if_neg (fun q => ne 11 9 (by decide) (by decide) (by decide) q.1), if_neg (fun q => ne 11 8 (by decide) (by decide) (by decide) q.1)]
  have h0 := m7 _ (Nat.le_refl (pM P).length)
  refine ⟨hr, ?_⟩
  refine RC.gen (P2 := addM P z x y) h f (Qk37 (by decide)) (no 13 (by decide) (by decide)) (no 3 (by decide) (by decide)) ((f.2.2.2.2.2.2.2 _ (no 4 (by decide) (by decide))).1 _) ((f.2.2.2.2.2.2.2 _ (no 4 (by decide) (by decide))).1 _) rfl rfl (GrW.fr h.2.1 f (no 5 (by decide) (by decide)) rfl rfl rfl) ⟨?_, ?_, ?_, ?_, fun i w hw => ?_, fun i hi => ?_, fun i hi => ?_⟩ (BuW.fr h.2.2.2.1 f (fun j hj => no _ (by omega) (by omega)) rfl) (ReW.fr h.2.2.2.2.1 f (no 18 (by decide) (by decide)) rfl) (TaW.fr h.2.2.2.2.2.2.1 f (no 0 (by decide) (by decide)) (no 1 (by decide) (by decide)) rfl) (h.2.2.2.2.2.2.2.1.fr f.fr (no 19 (by decide) (by decide)) (no 20 (by decide) (by decide))) (fun w hw => ?_) h.2.2.2.2.2.2.2.2.1.2.2
  · show sI S2 199 (v 6) = nI (pM P ++ [(z, x, y)]).length
    rw [hS, wI_at, List.length_append]
    rfl
  · show (pM P ++ [(z, x, y)]).length ≤ 999
    rw [List.length_append]
    show (pM P).length + 1 ≤ 999
    omega
  · show sI S2 200 (v 6) = nI (hcnt (fun i => i == (pM P).length || pH P i))
    rw [hS, sI_wI, if_neg (fun z => absurd z.1 (by decide)), wI_at]
    unfold hcnt
    rw [hcnt_add h0.1 999 hlt]
  · show sI S2 198 (v 6) = if pY P then 1 else 0
    rw [hS, sI_wI, if_neg (fun z => absurd z.1 (by decide)), sI_wI, if_neg (fun z => absurd z.1 (by decide))]
    exact m4
  · have hw : (pM P ++ [(z, x, y)])[i]? = some w := hw
    rw [e7, e8, e9]
    by_cases hi : i < (pM P).length
    · rw [List.getElem?_append_left hi] at hw
      obtain ⟨q1, q2, q3⟩ := m5 i w hw
      rw [if_neg (by omega), if_neg (by omega), if_neg (by omega)]
      exact ⟨q1, q2, q3⟩
    · have hl := (List.getElem?_eq_some_iff.mp hw).1
      rw [List.length_append] at hl
      have hi2 : i = (pM P).length := by
        have : i < (pM P).length + 1 := hl
        omega
      subst hi2
      rw [List.getElem?_append_right (Nat.le_refl _), Nat.sub_self] at hw
      have hw2 : (z, x, y) = w := Option.some.inj hw
      rw [← hw2, if_pos rfl, if_pos rfl, if_pos rfl]
      exact ⟨rfl, rfl, rfl⟩
  · rw [e10, e11]
    refine ⟨?_, (m6 i hi).2⟩
    show _ = if (i == (pM P).length || pH P i) = true then (1 : Int32) else 0
    by_cases e : i = (pM P).length
    · rw [if_pos e, if_pos (by simp [e])]
      decide
    · rw [if_neg e, (m6 i hi).1, show (i == (pM P).length) = false from by simp [e], Bool.false_or]
  · have hi : (pM P).length + 1 ≤ i := by
      have h9 : (pM P ++ [(z, x, y)]).length ≤ i := hi
      rw [List.length_append] at h9
      exact h9
    obtain ⟨q1, q2⟩ := m7 i (by omega)
    exact ⟨by show (i == (pM P).length || pH P i) = false; rw [q1, show (i == (pM P).length) = false from by simp; omega]; rfl, q2⟩
  · have hw : w ∈ pM P ++ [(z, x, y)] := hw
    rcases List.mem_append.mp hw with hw | hw
    · exact h.2.2.2.2.2.2.2.2.1.2.1 w hw
    · rw [List.mem_singleton.mp hw]
      exact tz
