theorem setU_self (P : PS) : setU P (pU P) = P := by
  obtain ⟨⟨w, m, k, u⟩, M, H, I, Y, B, R, G, T, s⟩ := P
  have e1 : m + nI (u - u) = m := by
    rw [Nat.sub_self, show nI 0 = 0 from rfl, Int32.add_zero]
  show ((w, m + nI (u - u), k, u), M, H, I, Y, B, R, G, T, s) = ((w, m, k, u), M, H, I, Y, B, R, G, T, s)
  rw [e1]
theorem setU_setU {P : PS} {a b : Nat} (h1 : pU P ≤ a) (h2 : a ≤ b) : setU (setU P a) b = setU P b := by
  obtain ⟨⟨w, m, k, u⟩, M, H, I, Y, B, R, G, T, s⟩ := P
  have h1 : u ≤ a := h1
  have e1 : m + nI (a - u) + nI (b - a) = m + nI (b - u) := by
    rw [Int32.add_assoc, show nI (a - u) + nI (b - a) = nI (a - u + (b - a)) from (Int32.ofNat_add _ _).symm, show a - u + (b - a) = b - u by omega]
  show ((w, m + nI (a - u) + nI (b - a), k, b), M, H, I, Y, B, R, G, T, s) = ((w, m + nI (b - u), k, b), M, H, I, Y, B, R, G, T, s)
  rw [e1]
/-- a token that no map's and no builder's node has -/
def NTk (P : PS) (t : Nat) : Prop := (∀ x ∈ pM P, ∀ y ∈ ndl x.1.1 x.1.2, y.2 ≠ t) ∧ ∀ j b, pB P j = some b → ∀ y ∈ ndl b.1.1 b.1.2, y.2 ≠ t
theorem RC.grn {S S2 : aw_S} {v ad ar ad2 ar2 : Nat → Nat} {PA : List (Nat × Nat)} {X : List Nat} {mb u2 t : Nat} {P : PS} {z : Tz} (h : RC S v ad ar PA X mb P) (hn : NTk P t) (tz : TrW S ad ar (pU P) z) (G : GR S S2 ad ar ad2 ar2 (pU P) u2 (v 5) t (ndl z.1 z.2)) : RC S2 v ad2 ar2 PA X mb (setU P u2) ∧ keepX X S S2 := by
  have hN := h.2.2.2.2.2.2.2.2.1
  exact RC.grow h G (fun y hy => tz.2 y hy) (fun x hx y hy q hq hk e => hn.1 x hx y hy (by rw [← tok_det tz.1 (hN.2.1 x hx).1 hq hy e]; exact hk)) (fun i c hc y hy q hq hk e => hn.2 i c hc y hy (by rw [← tok_det tz.1 (hN.2.2 i c hc).1 hq hy e]; exact hk))
/-- keys outside are taken out -/
def sliE (w t : Nat) (a b : Int32) : List KV → Tz × Nat → Tz × Nat
  | [], s => s
  | x :: l, s => sliE w t a b l (if x.1 < a ∨ ¬ x.1 ≤ b then takT w t s.2 x.1 s.1 else s)
theorem sliE_stp {w tk t : Nat} {a b : Int32} (hw : 3 ≤ w) (ht : t < tk) : ∀ (l : List KV) (s : Tz × Nat), tok w s.2 tk s.1 → stp w tk t s (sliE w t a b l s)
  | [], s, h => stp.rf h
  | x :: l, s, h => by
    rw [sliE]
    by_cases e : x.1 < a ∨ ¬ x.1 ≤ b
    · rw [if_pos e]
      have h1 := stp_take (k := x.1) hw h ht
      exact h1.tr (sliE_stp hw ht l _ h1.1)
    · rw [if_neg e]
      exact sliE_stp hw ht l s h
theorem sliE_at {w t : Nat} {a b : Int32} {E : List KV} {i : Nat} (hi : i < E.length) (s : Tz × Nat) : sliE w t a b (E.drop i) s = sliE w t a b (E.drop (i + 1)) (if E[i].1 < a ∨ ¬ E[i].1 ≤ b then takT w t s.2 E[i].1 s.1 else s) := by rw [List.drop_eq_getElem_cons hi, sliE]
def slcF (P : PS) (m a b : Int32) : Int32 × PS := match rootP P m with
  | none => (-1, refP P 0)
  | some z => if rngR a b then (if hcnt (pH P) < 16 ∧ (pM P).length < 999 then (nI (pM P).length, addM (setU (incT P) (sliE (pW P) (pTk P) a b (ent z.1 z.2) (z, pU P)).2) (sliE (pW P) (pTk P) a b (ent z.1 z.2) (z, pU P)).1 m (-1)) else (-1, refP P 4)) else (-1, refP P 1)
set_option maxHeartbeats 4000000 in
set_option maxRecDepth 100000 in
theorem c_slice {S : aw_S} {v ad ar : Nat → Nat} {PA : List (Nat × Nat)} {X : List Nat} {mb : Nat} {P : PS} (h : RC S v ad ar PA X mb P) (hP : PI P) {m a b : Int32} : aw_M yX10_slice cX10_slice 8 (some FieldType.int) 12 140 1300 [.ref (v 4), .int m, .int a, .int b] S (mutQ X v PA mb S (slcF P m a b)) := by
  have hL := h.L
  cases hz : rootP P m with
  | none =>
    refine aw_enter (by decide +kernel) (Nat.le_of_ble_eq_true rfl) (fun g K EE => ?_)
    first | refine a_aload_n K dX10_slice_0 rfl ?_ | refine a_aload_nN K dX10_slice_0 rfl ?_
    refine a_getRs K fd_X10_46 (lw_i4 hL) (Or.inl ⟨_, rfl⟩) (lw_f646 hL) dX10_slice_1 ?_
    refine a_iload_n K dX10_slice_4 rfl ?_
    refine a_invV K (m_root h m) my_X3_heldRoot ml_X10_165 im_X3_heldRoot se_X3_heldRoot (ci := 3) (lw_i6 hL) (by decide) ⟨_, _, rfl⟩ rfl (by omega) (by omega) (by omega) rfl (Nat.le_of_ble_eq_true rfl) dX10_slice_5 ?_
    intro r9 S9 hp9
    obtain ⟨rfl, hS9⟩ := hp9
    obtain rfl := hS9.symm
    rw [hz]
    first | refine a_astore K dX10_slice_8 (by decide) ?_ | refine a_astoreN K dX10_slice_8 (by decide) ?_
    first | refine a_aload K dX10_slice_10 rfl ?_ | refine a_aloadN K dX10_slice_10 rfl ?_
    refine a_ifnonnullN K dX10_slice_12 ?_
    first | refine a_aload_n K dX10_slice_15 rfl ?_ | refine a_aload_nN K dX10_slice_15 rfl ?_
    refine a_iconst K dX10_slice_16 (v := 0) (by decide) ?_
    refine a_invV K (c_refused h 0 (by decide)) my_X10_refused ml_X10_128 im_X10_refused se_X10_refused (ci := 10) (lw_i4 hL) (by decide) ⟨_, _, rfl⟩ rfl (by omega) (by omega) (by omega) rfl (Nat.le_of_ble_eq_true rfl) dX10_slice_17 ?_
    intro r9 S9 hp9
    obtain ⟨rfl, h2, k2⟩ := hp9
    exact a_iret K EE rfl (by omega) (by omega) dX10_slice_20 (by unfold slcF; rw [hz]; exact ⟨ad, ar, rfl, h2, k2⟩)
  | some z =>
    have t := h.tt hP hz
    obtain ⟨h4x, -, -⟩ := t.2.h4 hP.1.1
    by_cases hx : rngR a b
    · by_cases hr : hcnt (pH P) < 16 ∧ (pM P).length < 999
      · have hd := trivial
        have hs0 := sliE_stp (a := a) (b := b) hP.1.1 (Nat.lt_succ_self (pTk P)) (ent z.1 z.2) (z, pU P) (t.2.mono (Nat.le_refl _) (Nat.le_succ _))
        have hs1 := hs0.le hP.1.1 (t.2.mono (Nat.le_refl _) (Nat.le_succ _))
        have hs2 : (sliE (pW P) (pTk P) a b (ent z.1 z.2) (z, pU P)).2 ≤ pU P + 61 := hs1
        have hE1 := t.2.2.2.1
        obtain ⟨F, hF1⟩ : ∃ F, setU (incT P) (sliE (pW P) (pTk P) a b (ent z.1 z.2) (z, pU P)).2 = F := ⟨_, rfl⟩
        obtain ⟨zF, hF2⟩ : ∃ zF, (sliE (pW P) (pTk P) a b (ent z.1 z.2) (z, pU P)).1 = zF := ⟨_, rfl⟩
        have hfu : (sliE (pW P) (pTk P) a b (ent z.1 z.2) (z, pU P)).2 = pU F := congrArg pU hF1
        rw [hfu] at hs2
        have hq : slcF P m a b = (nI (pM P).length, addM F zF m (-1)) := by
          unfold slcF
          rw [hz]
          show ite _ _ _ = _
          rw [if_pos hx, if_pos hr, hF1, hF2]
        rw [hq]
        obtain ⟨LN, hLN⟩ : ∃ n, n = (pM P).length := ⟨_, rfl⟩
        obtain ⟨E, hE⟩ : ∃ E, E = ent z.1 z.2 := ⟨_, rfl⟩
        obtain ⟨t9, ht9⟩ : ∃ n, n = pTk P := ⟨_, rfl⟩
        rw [← hLN]
        refine aw_enter (by decide +kernel) (Nat.le_of_ble_eq_true rfl) (fun g K EE => ?_)
        have loop : ∀ (i jj : Nat) (x : Int32) (T : aw_S) (ad ar : Nat → Nat) (P : PS) (z : Tz) (k n : Nat), x = nI jj → jj + i = E.length → RC T v ad ar PA X mb P → TrW T ad ar (pU P) z → tok (pW P) (pU P) (pTk P) z → (NTk P t9 ∧ t9 < pTk P ∧ pTk P < 2000000000 ∧ (3 ≤ pW P ∧ pW P ≤ 6)) → ((pM P).length = LN ∧ LN < 999) → RoW T (v 25) (v 26) (v 27) E → keepX X S T → (setU P (sliE (pW P) t9 a b (E.drop jj) (z, pU P)).2 = F ∧ (sliE (pW P) t9 a b (E.drop jj) (z, pU P)).1 = zF) → k + 2 * (pU F - pU P) ≤ 140 → n + 19 * (pU F - pU P) ≤ 1300 → aw g 8 T k n [(6, .int x), (5, .int (nI t9)), (4, .ref (ad z.2.1)), (3, .int b), (2, .int a), (1, .int m), (0, .ref (v 4))] [] 72 := by
          intro i
          induction i with
          | zero =>
            intro jj x T ad ar P z k n hxx hi h tz tk hnn hlen hR hX hF hk hn2
            subst hxx
            have hE60 := hR.2.2.2.2.2.2.2.2.2.1
            have hL := h.L
            obtain ⟨hn, htk, htl, hw3, hw6⟩ := id hnn
            obtain ⟨h40, -, -⟩ := tk.h4 hw3
            refine a_iload K dX10_slice_72 rfl ?_
            have hs := hR.2.2.2.2.2.2.2.2.1
            first | refine a_aload_n K dX10_slice_74 rfl ?_ | refine a_aload_nN K dX10_slice_74 rfl ?_
            refine a_getRs K fd_X10_77 (lw_i4 hL) (Or.inl ⟨_, rfl⟩) (lw_f652 hL) dX10_slice_75 ?_
            refine a_invV K (m_X7_size hR.1) my_X7_size ml_X10_138 im_X7_size se_X7_size (ci := 7) (by first | exact lw_i25 hL | exact lw_i28 hL | exact lw_i31 hL) (by decide) ⟨_, _, rfl⟩ rfl (by omega) (by omega) (by omega) rfl (Nat.le_of_ble_eq_true rfl) dX10_slice_78 ?_
            intro r9 S9 hp9
            obtain ⟨rfl, hS9⟩ := hp9
            obtain rfl := hS9.symm
            refine a_icmp_ge K dX10_slice_81 (tgt := 128) (by decide) (fun c_81 => ?_) (fun c_81 => absurd c_81 (by rw [hs]; exact fun z => z (nI_le (by omega) (by omega))))
            first | refine a_aload_n K dX10_slice_128 rfl ?_ | refine a_aload_nN K dX10_slice_128 rfl ?_
            refine a_getRs K fd_X10_46 (lw_i4 hL) (Or.inl ⟨_, rfl⟩) (lw_f646 hL) dX10_slice_129 ?_
            first | refine a_aload K dX10_slice_132 rfl ?_ | refine a_aloadN K dX10_slice_132 rfl ?_
            refine a_iload_n K dX10_slice_134 rfl ?_
            refine a_iconst K dX10_slice_135 (v := -1) (by decide) ?_
            refine a_invV K (c_keep h tz (by omega)) my_X3_keep ml_X10_149 im_X3_keep se_X3_keep (ci := 3) (lw_i6 hL) (by decide) ⟨_, _, rfl⟩ rfl (by omega) (by omega) (by omega) rfl (Nat.le_of_ble_eq_true rfl) dX10_slice_136 ?_
            intro r9 S9 hp9
            obtain ⟨rfl, h6, k6⟩ := hp9
            exact a_iret K EE rfl (by omega) (by omega) dX10_slice_139 (by obtain ⟨hF1, hF2⟩ := hF; rw [show jj = E.length by omega, List.drop_length] at hF1 hF2; have e1 : P = F := (setU_self P).symm.trans hF1; have e2 : z = zF := hF2; subst e1; subst e2; exact ⟨ad, ar, congrArg (fun q => some (Value.int (nI q))) hlen.1, h6, hX.tr k6⟩)
          | succ i ih =>
            intro jj x T ad ar P z k n hxx hi h tz tk hnn hlen hR hX hF hk hn2
            subst hxx
            have hE60 := hR.2.2.2.2.2.2.2.2.2.1
            have hL := h.L
            obtain ⟨hn, htk, htl, hw3, hw6⟩ := id hnn
            obtain ⟨h40, -, -⟩ := tk.h4 hw3
            refine a_iload K dX10_slice_72 rfl ?_
            have hs := hR.2.2.2.2.2.2.2.2.1
            have hjj : jj < E.length := by omega
            have hx9 := List.getElem?_eq_getElem hjj
            first | refine a_aload_n K dX10_slice_74 rfl ?_ | refine a_aload_nN K dX10_slice_74 rfl ?_
            refine a_getRs K fd_X10_77 (lw_i4 hL) (Or.inl ⟨_, rfl⟩) (lw_f652 hL) dX10_slice_75 ?_
            refine a_invV K (m_X7_size hR.1) my_X7_size ml_X10_138 im_X7_size se_X7_size (ci := 7) (by first | exact lw_i25 hL | exact lw_i28 hL | exact lw_i31 hL) (by decide) ⟨_, _, rfl⟩ rfl (by omega) (by omega) (by omega) rfl (Nat.le_of_ble_eq_true rfl) dX10_slice_78 ?_
            intro r9 S9 hp9
            obtain ⟨rfl, hS9⟩ := hp9
            obtain rfl := hS9.symm
            refine a_icmp_ge K dX10_slice_81 (tgt := 128) (by decide) (fun c_81 => absurd c_81 (by rw [hs]; exact nI_ge hjj (by omega))) (fun c_81 => ?_)
            first | refine a_aload_n K dX10_slice_84 rfl ?_ | refine a_aload_nN K dX10_slice_84 rfl ?_
            refine a_getRs K fd_X10_77 (lw_i4 hL) (Or.inl ⟨_, rfl⟩) (lw_f652 hL) dX10_slice_85 ?_
            refine a_iload K dX10_slice_88 rfl ?_
            refine a_invV K (m_R_keyAt hR (show jj < 2 ^ 31 by omega)) my_X7_keyAt ml_X10_139 im_X7_keyAt se_X7_keyAt (ci := 7) (by first | exact lw_i25 hL | exact lw_i28 hL | exact lw_i31 hL) (by decide) ⟨_, _, rfl⟩ rfl (by omega) (by omega) (by omega) rfl (Nat.le_of_ble_eq_true rfl) dX10_slice_90 ?_
            intro r9 S9 hp9
            obtain ⟨rfl, hS9⟩ := hp9
            obtain rfl := hS9.symm
            rw [keyAtL_in hx9]
            refine a_istore K dX10_slice_93 (by decide) ?_
            refine a_iload K dX10_slice_95 rfl ?_
            refine a_iload_n K dX10_slice_97 rfl ?_
            refine a_icmp_lt K dX10_slice_98 (tgt := 107) (by decide) (fun c_98 => ?_) (fun c_98 => ?_)
            · have hcond : E[jj].1 < a ∨ ¬ E[jj].1 ≤ b := Or.inl c_98
              have st2 : stp (pW P) (pTk P) t9 (z, pU P) (takT (pW P) t9 (pU P) E[jj].1 z) := stp_take (k := E[jj].1) (s := (z, pU P)) hw3 tk htk
              have st3 := sliE_stp (a := a) (b := b) hw3 htk (E.drop (jj + 1)) (takT (pW P) t9 (pU P) E[jj].1 z) st2.1
              have hfu : (sliE (pW P) t9 a b (E.drop (jj + 1)) (takT (pW P) t9 (pU P) E[jj].1 z)).2 = pU F := by have hF := hF.1; rw [sliE_at hjj, if_pos hcond] at hF; exact congrArg pU hF
              have hu1 := st2.2.1
              have hu2 := st3.2.1
              rw [hfu] at hu2
              have hu1 : pU P ≤ (takT (pW P) t9 (pU P) E[jj].1 z).2 := hu1
              have hu3 := st2.le hw3 tk
              have hu3 : (takT (pW P) t9 (pU P) E[jj].1 z).2 ≤ pU P + 61 := hu3
              first | refine a_aload_n K dX10_slice_107 rfl ?_ | refine a_aload_nN K dX10_slice_107 rfl ?_
              refine a_getRs K fd_X10_39 (lw_i4 hL) (Or.inl ⟨_, rfl⟩) (lw_f645 hL) dX10_slice_108 ?_
              first | refine a_aload K dX10_slice_111 rfl ?_ | refine a_aloadN K dX10_slice_111 rfl ?_
              refine a_iload K dX10_slice_113 rfl ?_
              refine a_iload K dX10_slice_115 rfl ?_
              refine a_invV K (m_takeOutZ hw3 hw6 (tk := t9) (u := pU P) (key := E[jj].1) (z := z) (lw_i5 hL) h.2.1.1 h.2.2.2.2.2.2.2.2.1.1 tz.1 tk.1 tk.2.2.2.1 (by omega) (by omega)) my_X1_takeOut ml_X10_245 im_X1_takeOut se_X1_takeOut (ci := 1) (lw_i5 hL) (by decide) ⟨_, _, rfl⟩ rfl (by omega) (by omega) (by omega) rfl (Nat.le_of_ble_eq_true rfl) dX10_slice_117 ?_
              intro r9 S9 hp9
              obtain ⟨ad2, ar2, rfl, G, rz⟩ := hp9
              obtain ⟨h5, k5⟩ := h.grn hn tz G
              have hL := h5.L
              have hR5 : RoW S9 (v 25) (v 26) (v 27) E := hR.fr G.2.2.2.2.2 (h.ngp tz.2 (by decide) (by decide)) (h.ngp tz.2 (by decide) (by decide)) (h.ngp tz.2 (by decide) (by decide))
              first | refine a_astore K dX10_slice_120 (by decide) ?_ | refine a_astoreN K dX10_slice_120 (by decide) ?_
              refine a_iinc K dX10_slice_122 (v := 1) rfl (by decide) (by decide) ?_
              refine a_goto K dX10_slice_125 (tgt := 72) (by decide) ?_
              first
                | exact aw_locl rfl (ih (jj + 1) _ T ad ar P z k n (nI_1 jj) (by omega) h tz tk hnn hlen hR hX (by rw [sliE_at hjj, if_neg hcond] at hF; exact hF) hk hn2)
                | exact aw_locl rfl (ih (jj + 1) _ S9 ad2 ar2 (setU P (takT (pW P) t9 (pU P) E[jj].1 z).2) (takT (pW P) t9 (pU P) E[jj].1 z).1 _ _ (nI_1 jj) (by omega) h5 ⟨rz, st2.1.2.2.2.1.1⟩ st2.1 hnn hlen hR5 (hX.tr k5) (by rw [sliE_at hjj, if_pos hcond] at hF; exact ⟨(setU_setU (P := P) st2.2.1 st3.2.1).trans hF.1, hF.2⟩) (by show _ + 2 * (pU F - (takT (pW P) t9 (pU P) E[jj].1 z).2) ≤ _; omega) (by show _ + 19 * (pU F - (takT (pW P) t9 (pU P) E[jj].1 z).2) ≤ _; omega))
            · refine a_iload K dX10_slice_101 rfl ?_
              refine a_iload_n K dX10_slice_103 rfl ?_
              refine a_icmp_le K dX10_slice_104 (tgt := 122) (by decide) (fun c_104 => ?_) (fun c_104 => ?_)
              · have hcond : ¬ (E[jj].1 < a ∨ ¬ E[jj].1 ≤ b) := fun w => w.elim (fun y => c_98 y) (fun y => y c_104)
                refine a_iinc K dX10_slice_122 (v := 1) rfl (by decide) (by decide) ?_
                refine a_goto K dX10_slice_125 (tgt := 72) (by decide) ?_
                first
                  | exact aw_locl rfl (ih (jj + 1) _ T ad ar P z k n (nI_1 jj) (by omega) h tz tk hnn hlen hR hX (by rw [sliE_at hjj, if_neg hcond] at hF; exact hF) hk hn2)
                  | exact aw_locl rfl (ih (jj + 1) _ S9 ad2 ar2 (setU P (takT (pW P) t9 (pU P) E[jj].1 z).2) (takT (pW P) t9 (pU P) E[jj].1 z).1 _ _ (nI_1 jj) (by omega) h5 ⟨rz, st2.1.2.2.2.1.1⟩ st2.1 hnn hlen hR5 (hX.tr k5) (by rw [sliE_at hjj, if_pos hcond] at hF; exact ⟨(setU_setU (P := P) st2.2.1 st3.2.1).trans hF.1, hF.2⟩) (by show _ + 2 * (pU F - (takT (pW P) t9 (pU P) E[jj].1 z).2) ≤ _; omega) (by show _ + 19 * (pU F - (takT (pW P) t9 (pU P) E[jj].1 z).2) ≤ _; omega))
              · have hcond : E[jj].1 < a ∨ ¬ E[jj].1 ≤ b := Or.inr (fun y => c_104 y)
                have st2 : stp (pW P) (pTk P) t9 (z, pU P) (takT (pW P) t9 (pU P) E[jj].1 z) := stp_take (k := E[jj].1) (s := (z, pU P)) hw3 tk htk
                have st3 := sliE_stp (a := a) (b := b) hw3 htk (E.drop (jj + 1)) (takT (pW P) t9 (pU P) E[jj].1 z) st2.1
                have hfu : (sliE (pW P) t9 a b (E.drop (jj + 1)) (takT (pW P) t9 (pU P) E[jj].1 z)).2 = pU F := by have hF := hF.1; rw [sliE_at hjj, if_pos hcond] at hF; exact congrArg pU hF
                have hu1 := st2.2.1
                have hu2 := st3.2.1
                rw [hfu] at hu2
                have hu1 : pU P ≤ (takT (pW P) t9 (pU P) E[jj].1 z).2 := hu1
                have hu3 := st2.le hw3 tk
                have hu3 : (takT (pW P) t9 (pU P) E[jj].1 z).2 ≤ pU P + 61 := hu3
                first | refine a_aload_n K dX10_slice_107 rfl ?_ | refine a_aload_nN K dX10_slice_107 rfl ?_
                refine a_getRs K fd_X10_39 (lw_i4 hL) (Or.inl ⟨_, rfl⟩) (lw_f645 hL) dX10_slice_108 ?_
                first | refine a_aload K dX10_slice_111 rfl ?_ | refine a_aloadN K dX10_slice_111 rfl ?_
                refine a_iload K dX10_slice_113 rfl ?_
                refine a_iload K dX10_slice_115 rfl ?_
                refine a_invV K (m_takeOutZ hw3 hw6 (tk := t9) (u := pU P) (key := E[jj].1) (z := z) (lw_i5 hL) h.2.1.1 h.2.2.2.2.2.2.2.2.1.1 tz.1 tk.1 tk.2.2.2.1 (by omega) (by omega)) my_X1_takeOut ml_X10_245 im_X1_takeOut se_X1_takeOut (ci := 1) (lw_i5 hL) (by decide) ⟨_, _, rfl⟩ rfl (by omega) (by omega) (by omega) rfl (Nat.le_of_ble_eq_true rfl) dX10_slice_117 ?_
                intro r9 S9 hp9
                obtain ⟨ad2, ar2, rfl, G, rz⟩ := hp9
                obtain ⟨h5, k5⟩ := h.grn hn tz G
                have hL := h5.L
                have hR5 : RoW S9 (v 25) (v 26) (v 27) E := hR.fr G.2.2.2.2.2 (h.ngp tz.2 (by decide) (by decide)) (h.ngp tz.2 (by decide) (by decide)) (h.ngp tz.2 (by decide) (by decide))
                first | refine a_astore K dX10_slice_120 (by decide) ?_ | refine a_astoreN K dX10_slice_120 (by decide) ?_
                refine a_iinc K dX10_slice_122 (v := 1) rfl (by decide) (by decide) ?_
                refine a_goto K dX10_slice_125 (tgt := 72) (by decide) ?_
                first
                  | exact aw_locl rfl (ih (jj + 1) _ T ad ar P z k n (nI_1 jj) (by omega) h tz tk hnn hlen hR hX (by rw [sliE_at hjj, if_neg hcond] at hF; exact hF) hk hn2)
                  | exact aw_locl rfl (ih (jj + 1) _ S9 ad2 ar2 (setU P (takT (pW P) t9 (pU P) E[jj].1 z).2) (takT (pW P) t9 (pU P) E[jj].1 z).1 _ _ (nI_1 jj) (by omega) h5 ⟨rz, st2.1.2.2.2.1.1⟩ st2.1 hnn hlen hR5 (hX.tr k5) (by rw [sliE_at hjj, if_pos hcond] at hF; exact ⟨(setU_setU (P := P) st2.2.1 st3.2.1).trans hF.1, hF.2⟩) (by show _ + 2 * (pU F - (takT (pW P) t9 (pU P) E[jj].1 z).2) ≤ _; omega) (by show _ + 19 * (pU F - (takT (pW P) t9 (pU P) E[jj].1 z).2) ≤ _; omega))
        subst hLN
        subst hE
        subst ht9
        first | refine a_aload_n K dX10_slice_0 rfl ?_ | refine a_aload_nN K dX10_slice_0 rfl ?_
        refine a_getRs K fd_X10_46 (lw_i4 hL) (Or.inl ⟨_, rfl⟩) (lw_f646 hL) dX10_slice_1 ?_
        refine a_iload_n K dX10_slice_4 rfl ?_
        refine a_invV K (m_root h m) my_X3_heldRoot ml_X10_165 im_X3_heldRoot se_X3_heldRoot (ci := 3) (lw_i6 hL) (by decide) ⟨_, _, rfl⟩ rfl (by omega) (by omega) (by omega) rfl (Nat.le_of_ble_eq_true rfl) dX10_slice_5 ?_
        intro r9 S9 hp9
        obtain ⟨rfl, hS9⟩ := hp9
        obtain rfl := hS9.symm
        rw [hz]
        first | refine a_astore K dX10_slice_8 (by decide) ?_ | refine a_astoreN K dX10_slice_8 (by decide) ?_
        first | refine a_aload K dX10_slice_10 rfl ?_ | refine a_aloadN K dX10_slice_10 rfl ?_
        refine a_ifnonnull K dX10_slice_12 (tgt := 21) (by decide) ?_
        refine a_iload_n K dX10_slice_21 rfl ?_
        refine a_iload_n K dX10_slice_22 rfl ?_
        refine a_invS K (m_X10_isRange) my_X10_isRange ml_X10_304 st_X10_isRange rfl (by omega) (by omega) (by omega) rfl (Nat.le_of_ble_eq_true rfl) dX10_slice_23 ?_
        intro r9 S9 hp9
        obtain ⟨hS9, hb9⟩ := hp9
        obtain rfl := hS9.symm
        obtain rfl : r9 = some (.int 1) := hb9.elim (fun y => y.2) (fun y => absurd hx y.1)
        refine a_if_ne K dX10_slice_26 (tgt := 35) (by decide) (fun c_26 => ?_) (fun c_26 => absurd c_26 (by decide))
        first | refine a_aload_n K dX10_slice_35 rfl ?_ | refine a_aload_nN K dX10_slice_35 rfl ?_
        refine a_getRs K fd_X10_46 (lw_i4 hL) (Or.inl ⟨_, rfl⟩) (lw_f646 hL) dX10_slice_36 ?_
        refine a_invV K (m_X3_hasRoom (lw_i6 hL) h.2.2.1.2.2.1 h.2.2.1.1 (show hcnt (pH P) < 1000000 by have h1 := List.countP_le_length (p := pH P) (l := List.range 999); rw [List.length_range] at h1; unfold hcnt; omega) (show (pM P).length < 1000000 by have h1 := h.2.2.1.2.1; omega)) my_X3_hasRoom ml_X10_124 im_X3_hasRoom se_X3_hasRoom (ci := 3) (lw_i6 hL) (by decide) ⟨_, _, rfl⟩ rfl (by omega) (by omega) (by omega) rfl (Nat.le_of_ble_eq_true rfl) dX10_slice_39 ?_
        intro r9 S9 hp9
        obtain ⟨hS9, hb9⟩ := hp9
        obtain rfl := hS9.symm
        obtain rfl : r9 = some (.int 1) := hb9.elim (fun y => y.2) (fun y => absurd hr y.1)
        refine a_if_ne K dX10_slice_42 (tgt := 51) (by decide) (fun c_42 => ?_) (fun c_42 => absurd c_42 (by decide))
        first | refine a_aload_n K dX10_slice_51 rfl ?_ | refine a_aload_nN K dX10_slice_51 rfl ?_
        refine a_getRs K fd_X10_39 (lw_i4 hL) (Or.inl ⟨_, rfl⟩) (lw_f645 hL) dX10_slice_52 ?_
        refine a_invV K (c_newToken h) my_X1_newToken ml_X10_131 im_X1_newToken se_X1_newToken (ci := 1) (lw_i5 hL) (by decide) ⟨_, _, rfl⟩ rfl (by omega) (by omega) (by omega) rfl (Nat.le_of_ble_eq_true rfl) dX10_slice_55 ?_
        intro r9 S9 hp9
        obtain ⟨rfl, h2, k2⟩ := hp9
        have hL := h2.L
        have t2 : TT_ S9 ad ar (incT P) z := ⟨h2.trw hz rfl, t.2.mono (Nat.le_refl _) (Nat.le_succ _)⟩
        refine a_istore K dX10_slice_58 (by decide) ?_
        first | refine a_aload_n K dX10_slice_60 rfl ?_ | refine a_aload_nN K dX10_slice_60 rfl ?_
        refine a_getRs K fd_X10_77 (lw_i4 hL) (Or.inl ⟨_, rfl⟩) (lw_f652 hL) dX10_slice_61 ?_
        first | refine a_aload K dX10_slice_64 rfl ?_ | refine a_aloadN K dX10_slice_64 rfl ?_
        refine a_invV K (m_fill25 h2 hP.1.1 t2) my_X7_fill ml_X10_173 im_X7_fill se_X7_fill (ci := 7) (by first | exact lw_i25 hL | exact lw_i28 hL | exact lw_i31 hL) (by decide) ⟨_, _, rfl⟩ rfl (by omega) (by omega) (by omega) rfl (Nat.le_of_ble_eq_true rfl) dX10_slice_66 ?_
        intro r9 S9 hp9
        obtain ⟨rfl, hR, h3, k3, f3⟩ := hp9
        have hL := h3.L
        have t3 : TT_ S9 ad ar (incT P) z := ⟨h3.trw hz rfl, t2.2⟩
        refine a_iconst K dX10_slice_69 (v := 0) (by decide) ?_
        refine a_istore K dX10_slice_70 (by decide) ?_
        exact aw_locl rfl (loop (ent z.1 z.2).length 0 _ S9 ad ar (incT P) z 0 0 nI_0.symm (by omega) h3 t3.1 t3.2 ⟨⟨fun x hx y hy => Nat.ne_of_lt (hP.new.1 x hx y hy), fun j b hb y hy => Nat.ne_of_lt (hP.new.2 j b hb y hy)⟩, Nat.lt_succ_self _, (by show pTk P + 1 < _; have h1 := hP.2.2.2; omega), hP.1⟩ ⟨rfl, hr.2⟩ hR (k2.tr k3) ⟨hF1, hF2⟩ (by show 0 + 2 * (pU F - pU P) ≤ _; omega) (by show 0 + 19 * (pU F - pU P) ≤ _; omega))
      · refine aw_enter (by decide +kernel) (Nat.le_of_ble_eq_true rfl) (fun g K EE => ?_)
        first | refine a_aload_n K dX10_slice_0 rfl ?_ | refine a_aload_nN K dX10_slice_0 rfl ?_
        refine a_getRs K fd_X10_46 (lw_i4 hL) (Or.inl ⟨_, rfl⟩) (lw_f646 hL) dX10_slice_1 ?_
        refine a_iload_n K dX10_slice_4 rfl ?_
        refine a_invV K (m_root h m) my_X3_heldRoot ml_X10_165 im_X3_heldRoot se_X3_heldRoot (ci := 3) (lw_i6 hL) (by decide) ⟨_, _, rfl⟩ rfl (by omega) (by omega) (by omega) rfl (Nat.le_of_ble_eq_true rfl) dX10_slice_5 ?_
        intro r9 S9 hp9
        obtain ⟨rfl, hS9⟩ := hp9
        obtain rfl := hS9.symm
        rw [hz]
        first | refine a_astore K dX10_slice_8 (by decide) ?_ | refine a_astoreN K dX10_slice_8 (by decide) ?_
        first | refine a_aload K dX10_slice_10 rfl ?_ | refine a_aloadN K dX10_slice_10 rfl ?_
        refine a_ifnonnull K dX10_slice_12 (tgt := 21) (by decide) ?_
        refine a_iload_n K dX10_slice_21 rfl ?_
        refine a_iload_n K dX10_slice_22 rfl ?_
        refine a_invS K (m_X10_isRange) my_X10_isRange ml_X10_304 st_X10_isRange rfl (by omega) (by omega) (by omega) rfl (Nat.le_of_ble_eq_true rfl) dX10_slice_23 ?_
        intro r9 S9 hp9
        obtain ⟨hS9, hb9⟩ := hp9
        obtain rfl := hS9.symm
        obtain rfl : r9 = some (.int 1) := hb9.elim (fun y => y.2) (fun y => absurd hx y.1)
        refine a_if_ne K dX10_slice_26 (tgt := 35) (by decide) (fun c_26 => ?_) (fun c_26 => absurd c_26 (by decide))
        first | refine a_aload_n K dX10_slice_35 rfl ?_ | refine a_aload_nN K dX10_slice_35 rfl ?_
        refine a_getRs K fd_X10_46 (lw_i4 hL) (Or.inl ⟨_, rfl⟩) (lw_f646 hL) dX10_slice_36 ?_
        refine a_invV K (m_X3_hasRoom (lw_i6 hL) h.2.2.1.2.2.1 h.2.2.1.1 (show hcnt (pH P) < 1000000 by have h1 := List.countP_le_length (p := pH P) (l := List.range 999); rw [List.length_range] at h1; unfold hcnt; omega) (show (pM P).length < 1000000 by have h1 := h.2.2.1.2.1; omega)) my_X3_hasRoom ml_X10_124 im_X3_hasRoom se_X3_hasRoom (ci := 3) (lw_i6 hL) (by decide) ⟨_, _, rfl⟩ rfl (by omega) (by omega) (by omega) rfl (Nat.le_of_ble_eq_true rfl) dX10_slice_39 ?_
        intro r9 S9 hp9
        obtain ⟨hS9, hb9⟩ := hp9
        obtain rfl := hS9.symm
        obtain rfl : r9 = some (.int 0) := hb9.elim (fun y => absurd y.1 hr) (fun y => y.2)
        refine a_if_ne K dX10_slice_42 (tgt := 51) (by decide) (fun c_42 => absurd c_42 (by decide)) (fun c_42 => ?_)
        first | refine a_aload_n K dX10_slice_45 rfl ?_ | refine a_aload_nN K dX10_slice_45 rfl ?_
        refine a_iconst K dX10_slice_46 (v := 4) (by decide) ?_
        refine a_invV K (c_refused h 4 (by decide)) my_X10_refused ml_X10_128 im_X10_refused se_X10_refused (ci := 10) (lw_i4 hL) (by decide) ⟨_, _, rfl⟩ rfl (by omega) (by omega) (by omega) rfl (Nat.le_of_ble_eq_true rfl) dX10_slice_47 ?_
        intro r9 S9 hp9
        obtain ⟨rfl, h2, k2⟩ := hp9
        exact a_iret K EE rfl (by omega) (by omega) dX10_slice_50 (by unfold slcF; rw [hz]; show mutQ X v PA mb S (ite _ _ _) _ _; rw [if_pos hx, if_neg hr]; exact ⟨ad, ar, rfl, h2, k2⟩)
    · refine aw_enter (by decide +kernel) (Nat.le_of_ble_eq_true rfl) (fun g K EE => ?_)
      first | refine a_aload_n K dX10_slice_0 rfl ?_ | refine a_aload_nN K dX10_slice_0 rfl ?_
      refine a_getRs K fd_X10_46 (lw_i4 hL) (Or.inl ⟨_, rfl⟩) (lw_f646 hL) dX10_slice_1 ?_
      refine a_iload_n K dX10_slice_4 rfl ?_
      refine a_invV K (m_root h m) my_X3_heldRoot ml_X10_165 im_X3_heldRoot se_X3_heldRoot (ci := 3) (lw_i6 hL) (by decide) ⟨_, _, rfl⟩ rfl (by omega) (by omega) (by omega) rfl (Nat.le_of_ble_eq_true rfl) dX10_slice_5 ?_
      intro r9 S9 hp9
      obtain ⟨rfl, hS9⟩ := hp9
      obtain rfl := hS9.symm
      rw [hz]
      first | refine a_astore K dX10_slice_8 (by decide) ?_ | refine a_astoreN K dX10_slice_8 (by decide) ?_
      first | refine a_aload K dX10_slice_10 rfl ?_ | refine a_aloadN K dX10_slice_10 rfl ?_
      refine a_ifnonnull K dX10_slice_12 (tgt := 21) (by decide) ?_
      refine a_iload_n K dX10_slice_21 rfl ?_
      refine a_iload_n K dX10_slice_22 rfl ?_
      refine a_invS K (m_X10_isRange) my_X10_isRange ml_X10_304 st_X10_isRange rfl (by omega) (by omega) (by omega) rfl (Nat.le_of_ble_eq_true rfl) dX10_slice_23 ?_
      intro r9 S9 hp9
      obtain ⟨hS9, hb9⟩ := hp9
      obtain rfl := hS9.symm
      obtain rfl : r9 = some (.int 0) := hb9.elim (fun y => absurd y.1 hx) (fun y => y.2)
      refine a_if_ne K dX10_slice_26 (tgt := 35) (by decide) (fun c_26 => absurd c_26 (by decide)) (fun c_26 => ?_)
      first | refine a_aload_n K dX10_slice_29 rfl ?_ | refine a_aload_nN K dX10_slice_29 rfl ?_
      refine a_iconst K dX10_slice_30 (v := 1) (by decide) ?_
      refine a_invV K (c_refused h 1 (by decide)) my_X10_refused ml_X10_128 im_X10_refused se_X10_refused (ci := 10) (lw_i4 hL) (by decide) ⟨_, _, rfl⟩ rfl (by omega) (by omega) (by omega) rfl (Nat.le_of_ble_eq_true rfl) dX10_slice_31 ?_
      intro r9 S9 hp9
      obtain ⟨rfl, h2, k2⟩ := hp9
      exact a_iret K EE rfl (by omega) (by omega) dX10_slice_34 (by unfold slcF; rw [hz]; show mutQ X v PA mb S (ite _ _ _) _ _; rw [if_neg hx]; exact ⟨ad, ar, rfl, h2, k2⟩)
