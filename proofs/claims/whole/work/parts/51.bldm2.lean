theorem okV.ne {x : Int32} (h : okV x) : ¬ x = -1000000 := by
  obtain ⟨m, hm, hv | ⟨h0, hv⟩⟩ := h
  · rw [hv]
    exact fun z => by
      have h1 := nI_toInt (show m < 2 ^ 31 by omega)
      rw [z] at h1
      have h2 : (-1000000 : Int32).toInt = -1000000 := by decide
      omega
  · rw [hv]
    exact fun z => by
      have h1 : nI m = 1000000 := by
        have h3 := congrArg (fun q : Int32 => -q) z
        rw [Int32.neg_neg] at h3
        exact h3
      have h2 := nI_toInt (show m < 2 ^ 31 by omega)
      rw [h1] at h2
      have h4 : (1000000 : Int32).toInt = 1000000 := by decide
      omega
/-- a builder's tree has changed, and no node was made for nothing -/
def stp (w tk t : Nat) (s r : Tz × Nat) : Prop := tok w r.2 tk r.1 ∧ s.2 ≤ r.2 ∧ r.2 + un t (ndl r.1.1 r.1.2) ≤ s.2 + un t (ndl s.1.1 s.1.2) ∧ ∀ y ∈ ndl r.1.1 r.1.2, y ∈ ndl s.1.1 s.1.2 ∨ y.2 = t
theorem stp.rf {w tk t : Nat} {s : Tz × Nat} (h : tok w s.2 tk s.1) : stp w tk t s s := ⟨h, Nat.le_refl _, Nat.le_refl _, fun _ z => Or.inl z⟩
theorem stp.tr {w tk t : Nat} {s r q : Tz × Nat} (h : stp w tk t s r) (k : stp w tk t r q) : stp w tk t s q := ⟨k.1, Nat.le_trans h.2.1 k.2.1, Nat.le_trans k.2.2.1 h.2.2.1, fun y hy => (k.2.2.2 y hy).elim (h.2.2.2 y) Or.inr⟩
theorem stp.le {w tk t : Nat} {s r : Tz × Nat} (hw : 3 ≤ w) (h : stp w tk t s r) (ht : tok w s.2 tk s.1) : r.2 ≤ s.2 + 61 := by
  have h2 := un_le t (ndl s.1.1 s.1.2)
  obtain ⟨-, -, h4⟩ := ht.h4 hw
  have h1 := h.2.2.1
  omega
theorem stp_take {w tk t : Nat} {k : Int32} {s : Tz × Nat} (hw : 3 ≤ w) (h : tok w s.2 tk s.1) (ht : t < tk) : stp w tk t s (takT w t s.2 k s.1) := by
  obtain ⟨a, b, c⟩ := tok_take (k := k) hw h ht
  exact ⟨a, b, (takT_gru (w := w) (tk := t) (key := k) h.2.2.2.1).2, c⟩
theorem stp_put {w tk t : Nat} {k v : Int32} {s : Tz × Nat} (hw : 3 ≤ w) (h : tok w s.2 tk s.1) (ht : t < tk) (hk : okE (k, v)) (hl : ¬ valIn (ent s.1.1 s.1.2) k = -1000000) : stp w tk t s (putT w t s.2 k v s.1) := by
  obtain ⟨a, b, c⟩ := tok_put hw h ht hk (Or.inl hl)
  exact ⟨a, b, Nat.le_of_eq (putT_old hw h.1 hl), c⟩
/-- keys from one to another are taken out of a builder's tree -/
def cutE (w t : Nat) (a b : Int32) : List KV → Tz × Nat → Tz × Nat
  | [], s => s
  | x :: l, s => cutE w t a b l (if x.1 < a ∨ b < x.1 then s else takT w t s.2 x.1 s.1)
theorem cutE_stp {w tk t : Nat} {a b : Int32} (hw : 3 ≤ w) (ht : t < tk) : ∀ (l : List KV) (s : Tz × Nat), tok w s.2 tk s.1 → stp w tk t s (cutE w t a b l s)
  | [], s, h => stp.rf h
  | x :: l, s, h => by
    rw [cutE]
    by_cases e : x.1 < a ∨ b < x.1
    · rw [if_pos e]
      exact cutE_stp hw ht l s h
    · rw [if_neg e]
      have h1 := stp_take (k := x.1) hw h ht
      exact h1.tr (cutE_stp hw ht l _ h1.1)
theorem cutE_at {w t : Nat} {a b : Int32} {E : List KV} {i : Nat} (hi : i < E.length) (s : Tz × Nat) : cutE w t a b (E.drop i) s = cutE w t a b (E.drop (i + 1)) (if E[i].1 < a ∨ b < E[i].1 then s else takT w t s.2 E[i].1 s.1) := by rw [List.drop_eq_getElem_cons hi, cutE]
/-- keys from one to another are raised -/
def raiE (w t : Nat) (a b d : Int32) : List KV → Tz × Nat → Tz × Nat
  | [], s => s
  | x :: l, s => raiE w t a b d l (if x.1 < a ∨ b < x.1 then s else putT w t s.2 x.1 (hldW (x.2 + d)) s.1)
theorem raiE_at {w t : Nat} {a b d : Int32} {E : List KV} {i : Nat} (hi : i < E.length) (s : Tz × Nat) : raiE w t a b d (E.drop i) s = raiE w t a b d (E.drop (i + 1)) (if E[i].1 < a ∨ b < E[i].1 then s else putT w t s.2 E[i].1 (hldW (E[i].2 + d)) s.1) := by rw [List.drop_eq_getElem_cons hi, raiE]
theorem put_has {w tk u : Nat} {k v q : Int32} {z : Tz} (hw : 3 ≤ w) (r : rok w z) (hv : okV v) (h : ¬ valIn (ent z.1 z.2) q = -1000000) : ¬ valIn (ent (putT w tk u k v z).1.1 (putT w tk u k v z).1.2) q = -1000000 := by
  rw [putT_ent hw r hv.ne, valIn_setE _ _ _ r.2.2.2.1]
  by_cases e : q = k
  · rw [if_pos e]
    exact hv.ne
  · rw [if_neg e]
    exact h
theorem raiE_stp {w tk t : Nat} {a b d : Int32} (hw : 3 ≤ w) (ht : t < tk) : ∀ (l : List KV) (s : Tz × Nat), tok w s.2 tk s.1 → (∀ x ∈ l, okE x ∧ ¬ valIn (ent s.1.1 s.1.2) x.1 = -1000000) → stp w tk t s (raiE w t a b d l s)
  | [], s, h, _ => stp.rf h
  | x :: l, s, h, hx => by
    rw [raiE]
    by_cases e : x.1 < a ∨ b < x.1
    · rw [if_pos e]
      exact raiE_stp hw ht l s h (fun y hy => hx y (List.mem_cons_of_mem _ hy))
    · rw [if_neg e]
      have h0 := hx x List.mem_cons_self
      have h1 := stp_put (k := x.1) (v := hldW (x.2 + d)) hw h ht ⟨h0.1.1, hldW_ok _⟩ h0.2
      exact h1.tr (raiE_stp hw ht l _ h1.1 (fun y hy => ⟨(hx y (List.mem_cons_of_mem _ hy)).1, put_has hw h.1 (hldW_ok _) (hx y (List.mem_cons_of_mem _ hy)).2⟩))
theorem RoW.grw {S S2 : aw_S} {v ad ar ad2 ar2 : Nat → Nat} {PA : List (Nat × Nat)} {X : List Nat} {mb u2 t : Nat} {L : List (Nat × Nat)} {P : PS} {E : List KV} (h : RC S v ad ar PA X mb P) (hR : RoW S (v 25) (v 26) (v 27) E) (G : GR S S2 ad ar ad2 ar2 (pU P) u2 (v 5) t L) (hL : ∀ y ∈ L, y.1 < pU P) {a : Nat} {x : Option Nat} : RoW (wR S2 0 a x) (v 25) (v 26) (v 27) E := RoW_w0 (hR.fr G.2.2.2.2.2 (h.ngp hL (by decide) (by decide)) (h.ngp hL (by decide) (by decide)) (h.ngp hL (by decide) (by decide)))
set_option maxHeartbeats 4000000 in
set_option maxRecDepth 100000 in
theorem c_cutRangeX {S : aw_S} {v ad ar : Nat → Nat} {PA : List (Nat × Nat)} {X : List Nat} {mb : Nat} {P : PS} (h : RC S v ad ar PA X mb P) (hP : PI P) {j t : Nat} {z : Tz} {f : Int32} (hj : j < 4) (hb : pB P j = some (z, t, f)) {a b : Int32} : aw_M yX10_cutRange cX10_cutRange 6 (none : Option FieldType) 11 (2 * ((cutE (pW P) t a b (ent z.1 z.2) (z, pU P)).2 - pU P)) (19 * ((cutE (pW P) t a b (ent z.1 z.2) (z, pU P)).2 - pU P)) [.ref (v 4), .ref (v (14 + j)), .int a, .int b] S (fun r S2 => ∃ ad2 ar2, r = none ∧ RC S2 v ad2 ar2 PA X mb (setT P j (cutE (pW P) t a b (ent z.1 z.2) (z, pU P)) t f) ∧ keepX X S S2) := by
  obtain ⟨ob, qr, qt, ht, htk, htl, hh⟩ := h.bk hP hj hb
  have hw3 := hP.1.1
  have hw6 := hP.1.2
  have hL := h.L
  obtain ⟨-, h61, -⟩ := ht.2.h4 hw3
  have hs0 := cutE_stp (a := a) (b := b)  hw3 htk (ent z.1 z.2) (z, pU P) ht.2 
  have hs1 := hs0.le hw3 ht.2
  have hE1 := ht.2.2.2.1
  obtain ⟨F, hF⟩ : ∃ F, setT P j (cutE (pW P) t a b (ent z.1 z.2) (z, pU P)) t f = F := ⟨_, rfl⟩
  rw [hF]
  obtain ⟨MC, hMC⟩ : ∃ n, 2 * ((cutE (pW P) t a b (ent z.1 z.2) (z, pU P)).2 - pU P) = n := ⟨_, rfl⟩
  obtain ⟨MS, hMS⟩ : ∃ n, 19 * ((cutE (pW P) t a b (ent z.1 z.2) (z, pU P)).2 - pU P) = n := ⟨_, rfl⟩
  rw [hMC, hMS]
  refine aw_enter (by decide +kernel) (Nat.le_of_ble_eq_true rfl) (fun g K EE => ?_)
  have hE : ∃ E, E = ent z.1 z.2 := ⟨_, rfl⟩
  obtain ⟨E, hE⟩ := hE
  have loop : ∀ (i jj : Nat) (x : Int32) (T : aw_S) (ad ar : Nat → Nat) (P : PS) (z : Tz) (k n : Nat), x = nI jj → jj + i = E.length → RC T v ad ar PA X mb P → PI P → pB P j = some (z, t, f) → RoW T (v 25) (v 26) (v 27) E → keepX X S T → setT P j (cutE (pW P) t a b (E.drop jj) (z, pU P)) t f = F → k + 2 * (pU F - pU P) ≤ MC → n + 19 * (pU F - pU P) ≤ MS → aw g 6 T k n [(4, .int x), (3, .int b), (2, .int a), (1, .ref (v (14 + j))), (0, .ref (v 4))] [] 14 := by
    intro i
    induction i with
    | zero =>
      intro jj x T ad ar P z k n hxx hi h hP hb hR hX hF hk hn
      subst hxx
      have hE60 := hR.2.2.2.2.2.2.2.2.2.1
      obtain ⟨ob, qr, qt, ht, htk, htl, hh⟩ := h.bk hP hj hb
      have hw3 := hP.1.1
      have hw6 := hP.1.2
      have hL := h.L
      obtain ⟨-, h61, -⟩ := ht.2.h4 hw3
      refine a_iload K dX10_cutRange_14 rfl ?_
      have hs := hR.2.2.2.2.2.2.2.2.1
      first | refine a_aload_n K dX10_cutRange_16 rfl ?_ | refine a_aload_nN K dX10_cutRange_16 rfl ?_
      refine a_getRs K fd_X10_77 (lw_i4 hL) (Or.inl ⟨_, rfl⟩) (lw_f652 hL) dX10_cutRange_17 ?_
      refine a_invV K (m_X7_size hR.1) my_X7_size ml_X10_138 im_X7_size se_X7_size (ci := 7) (by first | exact lw_i25 hL | exact lw_i28 hL | exact lw_i31 hL) (by decide) ⟨_, _, rfl⟩ rfl (by omega) (by omega) (by omega) rfl (Nat.le_of_ble_eq_true rfl) dX10_cutRange_20 ?_
      intro r9 S9 hp9
      obtain ⟨rfl, hS9⟩ := hp9
      obtain rfl := hS9.symm
      refine a_icmp_ge K dX10_cutRange_23 (tgt := 76) (by decide) (fun c_23 => ?_) (fun c_23 => absurd c_23 (by rw [hs]; exact fun z => z (nI_le (by omega) (by omega))))
      exact a_vret K EE (by omega) (by omega) dX10_cutRange_76 ⟨ad, ar, rfl, by rw [← hF, show jj = E.length by omega, List.drop_length]; show RC _ _ _ _ _ _ _ (setT P j (z, pU P) t f); rw [setT_self hb]; exact h, hX⟩
    | succ i ih =>
      intro jj x T ad ar P z k n hxx hi h hP hb hR hX hF hk hn
      subst hxx
      have hE60 := hR.2.2.2.2.2.2.2.2.2.1
      obtain ⟨ob, qr, qt, ht, htk, htl, hh⟩ := h.bk hP hj hb
      have hw3 := hP.1.1
      have hw6 := hP.1.2
      have hL := h.L
      obtain ⟨-, h61, -⟩ := ht.2.h4 hw3
      refine a_iload K dX10_cutRange_14 rfl ?_
      have hs := hR.2.2.2.2.2.2.2.2.1
      have hjj : jj < E.length := by omega
      have hx := List.getElem?_eq_getElem hjj
      first | refine a_aload_n K dX10_cutRange_16 rfl ?_ | refine a_aload_nN K dX10_cutRange_16 rfl ?_
      refine a_getRs K fd_X10_77 (lw_i4 hL) (Or.inl ⟨_, rfl⟩) (lw_f652 hL) dX10_cutRange_17 ?_
      refine a_invV K (m_X7_size hR.1) my_X7_size ml_X10_138 im_X7_size se_X7_size (ci := 7) (by first | exact lw_i25 hL | exact lw_i28 hL | exact lw_i31 hL) (by decide) ⟨_, _, rfl⟩ rfl (by omega) (by omega) (by omega) rfl (Nat.le_of_ble_eq_true rfl) dX10_cutRange_20 ?_
      intro r9 S9 hp9
      obtain ⟨rfl, hS9⟩ := hp9
      obtain rfl := hS9.symm
      refine a_icmp_ge K dX10_cutRange_23 (tgt := 76) (by decide) (fun c_23 => absurd c_23 (by rw [hs]; exact nI_ge hjj (by omega))) (fun c_23 => ?_)
      first | refine a_aload_n K dX10_cutRange_26 rfl ?_ | refine a_aload_nN K dX10_cutRange_26 rfl ?_
      refine a_getRs K fd_X10_77 (lw_i4 hL) (Or.inl ⟨_, rfl⟩) (lw_f652 hL) dX10_cutRange_27 ?_
      refine a_iload K dX10_cutRange_30 rfl ?_
      refine a_invV K (m_R_keyAt hR (show jj < 2 ^ 31 by omega)) my_X7_keyAt ml_X10_139 im_X7_keyAt se_X7_keyAt (ci := 7) (by first | exact lw_i25 hL | exact lw_i28 hL | exact lw_i31 hL) (by decide) ⟨_, _, rfl⟩ rfl (by omega) (by omega) (by omega) rfl (Nat.le_of_ble_eq_true rfl) dX10_cutRange_32 ?_
      intro r9 S9 hp9
      obtain ⟨rfl, hS9⟩ := hp9
      obtain rfl := hS9.symm
      rw [keyAtL_in hx]
      refine a_istore K dX10_cutRange_35 (by decide) ?_
      refine a_iload K dX10_cutRange_37 rfl ?_
      refine a_iload_n K dX10_cutRange_39 rfl ?_
      refine a_icmp_lt K dX10_cutRange_40 (tgt := 70) (by decide) (fun c_40 => ?_) (fun c_40 => ?_)
      · have hcond : E[jj].1 < a ∨ b < E[jj].1 := Or.inl c_40
        refine a_iinc K dX10_cutRange_70 (v := 1) rfl (by decide) (by decide) ?_
        refine a_goto K dX10_cutRange_73 (tgt := 14) (by decide) ?_
        first
          | exact aw_locl rfl (ih (jj + 1) _ T ad ar P z k n (nI_1 jj) (by omega) h hP hb hR hX  (by rw [cutE_at hjj, if_pos hcond] at hF; exact hF) hk hn)
          | (have hP2 := hP.bset (f := f) hb st2.1 st2.2.1 st2.2.2.2
             exact aw_locl rfl (ih (jj + 1) _ S10 ad2 ar2 (setT P j (takT (pW P) t (pU P) E[jj].1 z) t f) (takT (pW P) t (pU P) E[jj].1 z).1 _ _ (nI_1 jj) (by omega) h5 hP2 setT_B hR5 (hX.tr k5)  (by rw [cutE_at hjj, if_neg hcond] at hF; exact (setT_setT (P := P) st2.2.1 st3.2.1).trans hF) (by show _ + 2 * (pU F - (takT (pW P) t (pU P) E[jj].1 z).2) ≤ _; omega) (by show _ + 19 * (pU F - (takT (pW P) t (pU P) E[jj].1 z).2) ≤ _; omega)))
      · refine a_iload K dX10_cutRange_43 rfl ?_
        refine a_iload_n K dX10_cutRange_45 rfl ?_
        refine a_icmp_gt K dX10_cutRange_46 (tgt := 70) (by decide) (fun c_46 => ?_) (fun c_46 => ?_)
        · have hcond : E[jj].1 < a ∨ b < E[jj].1 := Or.inr c_46
          refine a_iinc K dX10_cutRange_70 (v := 1) rfl (by decide) (by decide) ?_
          refine a_goto K dX10_cutRange_73 (tgt := 14) (by decide) ?_
          first
            | exact aw_locl rfl (ih (jj + 1) _ T ad ar P z k n (nI_1 jj) (by omega) h hP hb hR hX  (by rw [cutE_at hjj, if_pos hcond] at hF; exact hF) hk hn)
            | (have hP2 := hP.bset (f := f) hb st2.1 st2.2.1 st2.2.2.2
               exact aw_locl rfl (ih (jj + 1) _ S10 ad2 ar2 (setT P j (takT (pW P) t (pU P) E[jj].1 z) t f) (takT (pW P) t (pU P) E[jj].1 z).1 _ _ (nI_1 jj) (by omega) h5 hP2 setT_B hR5 (hX.tr k5)  (by rw [cutE_at hjj, if_neg hcond] at hF; exact (setT_setT (P := P) st2.2.1 st3.2.1).trans hF) (by show _ + 2 * (pU F - (takT (pW P) t (pU P) E[jj].1 z).2) ≤ _; omega) (by show _ + 19 * (pU F - (takT (pW P) t (pU P) E[jj].1 z).2) ≤ _; omega)))
        · have hcond : ¬ (E[jj].1 < a ∨ b < E[jj].1) := fun w => w.elim (fun y => c_40 y) (fun y => c_46 y)
          have st2 : stp (pW P) (pTk P) t (z, pU P) (takT (pW P) t (pU P) E[jj].1 z) := stp_take (k := E[jj].1) (s := (z, pU P)) hw3 ht.2 htk
          have st3 := cutE_stp (a := a) (b := b)  hw3 htk (E.drop (jj + 1)) (takT (pW P) t (pU P) E[jj].1 z) st2.1 
          have hfu : (cutE (pW P) t a b (E.drop (jj + 1)) (takT (pW P) t (pU P) E[jj].1 z)).2 = pU F := by rw [cutE_at hjj, if_neg hcond] at hF; exact congrArg pU hF
          have hu1 := st2.2.1
          have hu2 := st3.2.1
          rw [hfu] at hu2
          have hu1 : pU P ≤ (takT (pW P) t (pU P) E[jj].1 z).2 := hu1
          have hu3 := st2.le hw3 ht.2
          have hu3 : (takT (pW P) t (pU P) E[jj].1 z).2 ≤ pU P + 61 := hu3
          first | refine a_aload_n K dX10_cutRange_49 rfl ?_ | refine a_aload_nN K dX10_cutRange_49 rfl ?_
          first | refine a_aload_n K dX10_cutRange_50 rfl ?_ | refine a_aload_nN K dX10_cutRange_50 rfl ?_
          refine a_getRs K fd_X10_39 (lw_i4 hL) (Or.inl ⟨_, rfl⟩) (lw_f645 hL) dX10_cutRange_51 ?_
          first | refine a_aload_n K dX10_cutRange_54 rfl ?_ | refine a_aload_nN K dX10_cutRange_54 rfl ?_
          refine a_invV K (m_X0_root ob) my_X0_root ml_X10_345 im_X0_root se_X0_root (ci := 0) (by assumption) (by decide) ⟨_, _, rfl⟩ rfl (by omega) (by omega) (by omega) rfl (Nat.le_of_ble_eq_true rfl) dX10_cutRange_55 ?_
          intro r9 S9 hp9
          obtain ⟨rfl, hS9⟩ := hp9
          obtain rfl := hS9.symm
          rw [qr]
          first | refine a_aload_n K dX10_cutRange_58 rfl ?_ | refine a_aload_nN K dX10_cutRange_58 rfl ?_
          refine a_invV K (m_X0_token ob) my_X0_token ml_X10_349 im_X0_token se_X0_token (ci := 0) (by assumption) (by decide) ⟨_, _, rfl⟩ rfl (by omega) (by omega) (by omega) rfl (Nat.le_of_ble_eq_true rfl) dX10_cutRange_59 ?_
          intro r9 S9 hp9
          obtain ⟨rfl, hS9⟩ := hp9
          obtain rfl := hS9.symm
          rw [qt]
          refine a_iload K dX10_cutRange_62 rfl ?_
          refine a_invV K (m_takeOutZ hw3 hw6 (tk := t) (u := pU P) (key := E[jj].1) (z := z) (lw_i5 hL) h.2.1.1 h.2.2.2.2.2.2.2.2.1.1 ht.1.1 ht.2.1 ht.2.2.2.2.1 (by omega) (by omega)) my_X1_takeOut ml_X10_245 im_X1_takeOut se_X1_takeOut (ci := 1) (lw_i5 hL) (by decide) ⟨_, _, rfl⟩ rfl (by omega) (by omega) (by omega) rfl (Nat.le_of_ble_eq_true rfl) dX10_cutRange_64 ?_
          intro r9 S9 hp9
          obtain ⟨ad2, ar2, rfl, G, rz⟩ := hp9
          have ob9 := G.is ob
          refine a_invV K (m_X0_change ob9) my_X0_change ml_X10_352 im_X0_change se_X0_change (ci := 0) (by assumption) (by decide) ⟨_, _, rfl⟩ rfl (by omega) (by omega) (by omega) rfl (Nat.le_of_ble_eq_true rfl) dX10_cutRange_67 ?_
          intro r9 S10 hp9
          obtain ⟨rfl, hS9⟩ := hp9
          have hR5 := hR.grw h G (fun y hy => ht.1.2 y hy) (a := v (14 + j)) (x := some (ad2 (takT (pW P) t (pU P) E[jj].1 z).1.2.1))
          obtain ⟨h5, k5⟩ := h.bput hP hj hb G ⟨rz, st2.1.2.2.2.1.1⟩
          rw [← hS9] at h5 k5 hR5
          refine a_iinc K dX10_cutRange_70 (v := 1) rfl (by decide) (by decide) ?_
          refine a_goto K dX10_cutRange_73 (tgt := 14) (by decide) ?_
          first
            | exact aw_locl rfl (ih (jj + 1) _ T ad ar P z k n (nI_1 jj) (by omega) h hP hb hR hX  (by rw [cutE_at hjj, if_pos hcond] at hF; exact hF) hk hn)
            | (have hP2 := hP.bset (f := f) hb st2.1 st2.2.1 st2.2.2.2
               exact aw_locl rfl (ih (jj + 1) _ S10 ad2 ar2 (setT P j (takT (pW P) t (pU P) E[jj].1 z) t f) (takT (pW P) t (pU P) E[jj].1 z).1 _ _ (nI_1 jj) (by omega) h5 hP2 setT_B hR5 (hX.tr k5)  (by rw [cutE_at hjj, if_neg hcond] at hF; exact (setT_setT (P := P) st2.2.1 st3.2.1).trans hF) (by show _ + 2 * (pU F - (takT (pW P) t (pU P) E[jj].1 z).2) ≤ _; omega) (by show _ + 19 * (pU F - (takT (pW P) t (pU P) E[jj].1 z).2) ≤ _; omega)))
  subst hE
  first | refine a_aload_n K dX10_cutRange_0 rfl ?_ | refine a_aload_nN K dX10_cutRange_0 rfl ?_
  refine a_getRs K fd_X10_77 (lw_i4 hL) (Or.inl ⟨_, rfl⟩) (lw_f652 hL) dX10_cutRange_1 ?_
  first | refine a_aload_n K dX10_cutRange_4 rfl ?_ | refine a_aload_nN K dX10_cutRange_4 rfl ?_
  refine a_invV K (m_X0_root ob) my_X0_root ml_X10_345 im_X0_root se_X0_root (ci := 0) (by assumption) (by decide) ⟨_, _, rfl⟩ rfl (by omega) (by omega) (by omega) rfl (Nat.le_of_ble_eq_true rfl) dX10_cutRange_5 ?_
  intro r9 S9 hp9
  obtain ⟨rfl, hS9⟩ := hp9
  obtain rfl := hS9.symm
  rw [qr]
  refine a_invV K (m_fill25 h hw3 ht) my_X7_fill ml_X10_173 im_X7_fill se_X7_fill (ci := 7) (by first | exact lw_i25 hL | exact lw_i28 hL | exact lw_i31 hL) (by decide) ⟨_, _, rfl⟩ rfl (by omega) (by omega) (by omega) rfl (Nat.le_of_ble_eq_true rfl) dX10_cutRange_8 ?_
  intro r9 S9 hp9
  obtain ⟨rfl, hR, h2, k2, f2⟩ := hp9
  have hL := h2.L
  refine a_iconst K dX10_cutRange_11 (v := 0) (by decide) ?_
  refine a_istore K dX10_cutRange_12 (by decide) ?_
  have hk0 : pU F = (cutE (pW P) t a b (ent z.1 z.2) (z, pU P)).2 := by rw [← hF]; rfl
  exact aw_locl rfl (loop (ent z.1 z.2).length 0 _ S9 ad ar P z 0 0 nI_0.symm (by omega) h2 hP hb hR k2  hF (by omega) (by omega))
set_option maxHeartbeats 4000000 in
set_option maxRecDepth 100000 in
theorem c_cutRange {S : aw_S} {v ad ar : Nat → Nat} {PA : List (Nat × Nat)} {X : List Nat} {mb : Nat} {P : PS} (h : RC S v ad ar PA X mb P) (hP : PI P) {j t : Nat} {z : Tz} {f : Int32} (hj : j < 4) (hb : pB P j = some (z, t, f)) {a b : Int32} : aw_M yX10_cutRange cX10_cutRange 6 (none : Option FieldType) 11 140 1300 [.ref (v 4), .ref (v (14 + j)), .int a, .int b] S (fun r S2 => ∃ ad2 ar2, r = none ∧ RC S2 v ad2 ar2 PA X mb (setT P j (cutE (pW P) t a b (ent z.1 z.2) (z, pU P)) t f) ∧ keepX X S S2) := by
  obtain ⟨ob, qr, qt, ht, htk, htl, hh⟩ := h.bk hP hj hb
  have hw3 := hP.1.1
  have hw6 := hP.1.2
  have hL := h.L
  obtain ⟨-, h61, -⟩ := ht.2.h4 hw3
  have hs0 := cutE_stp (a := a) (b := b)  hw3 htk (ent z.1 z.2) (z, pU P) ht.2 
  have hs1 := hs0.le hw3 ht.2
  have hE1 := ht.2.2.2.1
  have hs2 : (cutE (pW P) t a b (ent z.1 z.2) (z, pU P)).2 ≤ pU P + 61 := hs1
  exact (c_cutRangeX h hP hj hb).le (Nat.le_refl _) (by omega) (by omega)
set_option maxHeartbeats 4000000 in
set_option maxRecDepth 100000 in
theorem c_raiseRangeX {S : aw_S} {v ad ar : Nat → Nat} {PA : List (Nat × Nat)} {X : List Nat} {mb : Nat} {P : PS} (h : RC S v ad ar PA X mb P) (hP : PI P) {j t : Nat} {z : Tz} {f : Int32} (hj : j < 4) (hb : pB P j = some (z, t, f)) {a b d : Int32} : aw_M yX10_raiseRange cX10_raiseRange 8 (none : Option FieldType) 11 (2 * ((raiE (pW P) t a b d (ent z.1 z.2) (z, pU P)).2 - pU P)) (19 * ((raiE (pW P) t a b d (ent z.1 z.2) (z, pU P)).2 - pU P)) [.ref (v 4), .ref (v (14 + j)), .int a, .int b, .int d] S (fun r S2 => ∃ ad2 ar2, r = none ∧ RC S2 v ad2 ar2 PA X mb (setT P j (raiE (pW P) t a b d (ent z.1 z.2) (z, pU P)) t f) ∧ keepX X S S2) := by
  obtain ⟨ob, qr, qt, ht, htk, htl, hh⟩ := h.bk hP hj hb
  have hw3 := hP.1.1
  have hw6 := hP.1.2
  have hL := h.L
  obtain ⟨-, h61, -⟩ := ht.2.h4 hw3
  have hV0 : ∀ y ∈ ent z.1 z.2, okE y ∧ ¬ valIn (ent z.1 z.2) y.1 = -1000000 := fun y hy => ⟨ht.2.2.1 y hy, by rw [valIn_mem ht.2.1.2.2.2.1 hy]; exact ht.2.1.2.2.2.2 y hy⟩
  have hs0 := raiE_stp (a := a) (b := b) (d := d) hw3 htk (ent z.1 z.2) (z, pU P) ht.2 hV0
  have hs1 := hs0.le hw3 ht.2
  have hE1 := ht.2.2.2.1
  obtain ⟨F, hF⟩ : ∃ F, setT P j (raiE (pW P) t a b d (ent z.1 z.2) (z, pU P)) t f = F := ⟨_, rfl⟩
  rw [hF]
  obtain ⟨MC, hMC⟩ : ∃ n, 2 * ((raiE (pW P) t a b d (ent z.1 z.2) (z, pU P)).2 - pU P) = n := ⟨_, rfl⟩
  obtain ⟨MS, hMS⟩ : ∃ n, 19 * ((raiE (pW P) t a b d (ent z.1 z.2) (z, pU P)).2 - pU P) = n := ⟨_, rfl⟩
  rw [hMC, hMS]
  refine aw_enter (by decide +kernel) (Nat.le_of_ble_eq_true rfl) (fun g K EE => ?_)
  have hE : ∃ E, E = ent z.1 z.2 := ⟨_, rfl⟩
  obtain ⟨E, hE⟩ := hE
  have loop : ∀ (i jj : Nat) (x : Int32) (T : aw_S) (ad ar : Nat → Nat) (P : PS) (z : Tz) (k n : Nat), x = nI jj → jj + i = E.length → RC T v ad ar PA X mb P → PI P → pB P j = some (z, t, f) → RoW T (v 25) (v 26) (v 27) E → keepX X S T → (∀ y ∈ E.drop jj, okE y ∧ ¬ valIn (ent z.1 z.2) y.1 = -1000000) → setT P j (raiE (pW P) t a b d (E.drop jj) (z, pU P)) t f = F → k + 2 * (pU F - pU P) ≤ MC → n + 19 * (pU F - pU P) ≤ MS → aw g 8 T k n [(5, .int x), (4, .int d), (3, .int b), (2, .int a), (1, .ref (v (14 + j))), (0, .ref (v 4))] [] 14 := by
    intro i
    induction i with
    | zero =>
      intro jj x T ad ar P z k n hxx hi h hP hb hR hX hV hF hk hn
      subst hxx
      have hE60 := hR.2.2.2.2.2.2.2.2.2.1
      obtain ⟨ob, qr, qt, ht, htk, htl, hh⟩ := h.bk hP hj hb
      have hw3 := hP.1.1
      have hw6 := hP.1.2
      have hL := h.L
      obtain ⟨-, h61, -⟩ := ht.2.h4 hw3
      refine a_iload K dX10_raiseRange_14 rfl ?_
      have hs := hR.2.2.2.2.2.2.2.2.1
      first | refine a_aload_n K dX10_raiseRange_16 rfl ?_ | refine a_aload_nN K dX10_raiseRange_16 rfl ?_
      refine a_getRs K fd_X10_77 (lw_i4 hL) (Or.inl ⟨_, rfl⟩) (lw_f652 hL) dX10_raiseRange_17 ?_
      refine a_invV K (m_X7_size hR.1) my_X7_size ml_X10_138 im_X7_size se_X7_size (ci := 7) (by first | exact lw_i25 hL | exact lw_i28 hL | exact lw_i31 hL) (by decide) ⟨_, _, rfl⟩ rfl (by omega) (by omega) (by omega) rfl (Nat.le_of_ble_eq_true rfl) dX10_raiseRange_20 ?_
      intro r9 S9 hp9
      obtain ⟨rfl, hS9⟩ := hp9
      obtain rfl := hS9.symm
      refine a_icmp_ge K dX10_raiseRange_23 (tgt := 95) (by decide) (fun c_23 => ?_) (fun c_23 => absurd c_23 (by rw [hs]; exact fun z => z (nI_le (by omega) (by omega))))
      exact a_vret K EE (by omega) (by omega) dX10_raiseRange_95 ⟨ad, ar, rfl, by rw [← hF, show jj = E.length by omega, List.drop_length]; show RC _ _ _ _ _ _ _ (setT P j (z, pU P) t f); rw [setT_self hb]; exact h, hX⟩
    | succ i ih =>
      intro jj x T ad ar P z k n hxx hi h hP hb hR hX hV hF hk hn
      subst hxx
      have hE60 := hR.2.2.2.2.2.2.2.2.2.1
      obtain ⟨ob, qr, qt, ht, htk, htl, hh⟩ := h.bk hP hj hb
      have hw3 := hP.1.1
      have hw6 := hP.1.2
      have hL := h.L
      obtain ⟨-, h61, -⟩ := ht.2.h4 hw3
      refine a_iload K dX10_raiseRange_14 rfl ?_
      have hs := hR.2.2.2.2.2.2.2.2.1
      have hjj : jj < E.length := by omega
      have hx := List.getElem?_eq_getElem hjj
      first | refine a_aload_n K dX10_raiseRange_16 rfl ?_ | refine a_aload_nN K dX10_raiseRange_16 rfl ?_
      refine a_getRs K fd_X10_77 (lw_i4 hL) (Or.inl ⟨_, rfl⟩) (lw_f652 hL) dX10_raiseRange_17 ?_
      refine a_invV K (m_X7_size hR.1) my_X7_size ml_X10_138 im_X7_size se_X7_size (ci := 7) (by first | exact lw_i25 hL | exact lw_i28 hL | exact lw_i31 hL) (by decide) ⟨_, _, rfl⟩ rfl (by omega) (by omega) (by omega) rfl (Nat.le_of_ble_eq_true rfl) dX10_raiseRange_20 ?_
      intro r9 S9 hp9
      obtain ⟨rfl, hS9⟩ := hp9
      obtain rfl := hS9.symm
      refine a_icmp_ge K dX10_raiseRange_23 (tgt := 95) (by decide) (fun c_23 => absurd c_23 (by rw [hs]; exact nI_ge hjj (by omega))) (fun c_23 => ?_)
      first | refine a_aload_n K dX10_raiseRange_26 rfl ?_ | refine a_aload_nN K dX10_raiseRange_26 rfl ?_
      refine a_getRs K fd_X10_77 (lw_i4 hL) (Or.inl ⟨_, rfl⟩) (lw_f652 hL) dX10_raiseRange_27 ?_
      refine a_iload K dX10_raiseRange_30 rfl ?_
      refine a_invV K (m_R_keyAt hR (show jj < 2 ^ 31 by omega)) my_X7_keyAt ml_X10_139 im_X7_keyAt se_X7_keyAt (ci := 7) (by first | exact lw_i25 hL | exact lw_i28 hL | exact lw_i31 hL) (by decide) ⟨_, _, rfl⟩ rfl (by omega) (by omega) (by omega) rfl (Nat.le_of_ble_eq_true rfl) dX10_raiseRange_32 ?_
      intro r9 S9 hp9
      obtain ⟨rfl, hS9⟩ := hp9
      obtain rfl := hS9.symm
      rw [keyAtL_in hx]
      refine a_istore K dX10_raiseRange_35 (by decide) ?_
      refine a_iload K dX10_raiseRange_37 rfl ?_
      refine a_iload_n K dX10_raiseRange_39 rfl ?_
      refine a_icmp_lt K dX10_raiseRange_40 (tgt := 89) (by decide) (fun c_40 => ?_) (fun c_40 => ?_)
      · have hcond : E[jj].1 < a ∨ b < E[jj].1 := Or.inl c_40
        refine a_iinc K dX10_raiseRange_89 (v := 1) rfl (by decide) (by decide) ?_
        refine a_goto K dX10_raiseRange_92 (tgt := 14) (by decide) ?_
        first
          | exact aw_locl rfl (ih (jj + 1) _ T ad ar P z k n (nI_1 jj) (by omega) h hP hb hR hX (fun y hy => hV y (by rw [List.drop_eq_getElem_cons hjj]; exact List.mem_cons_of_mem _ hy)) (by rw [raiE_at hjj, if_pos hcond] at hF; exact hF) hk hn)
          | (have hP2 := hP.bset (f := f) hb st2.1 st2.2.1 st2.2.2.2
             exact aw_locl rfl (ih (jj + 1) _ S10 ad2 ar2 (setT P j (putT (pW P) t (pU P) E[jj].1 (hldW (E[jj].2 + d)) z) t f) (putT (pW P) t (pU P) E[jj].1 (hldW (E[jj].2 + d)) z).1 _ _ (nI_1 jj) (by omega) h5 hP2 setT_B hR5 (hX.tr k5) (fun y hy => ⟨(hV y (by rw [List.drop_eq_getElem_cons hjj]; exact List.mem_cons_of_mem _ hy)).1, put_has hw3 ht.2.1 (hldW_ok _) (hV y (by rw [List.drop_eq_getElem_cons hjj]; exact List.mem_cons_of_mem _ hy)).2⟩) (by rw [raiE_at hjj, if_neg hcond] at hF; exact (setT_setT (P := P) st2.2.1 st3.2.1).trans hF) (by show _ + 2 * (pU F - (putT (pW P) t (pU P) E[jj].1 (hldW (E[jj].2 + d)) z).2) ≤ _; omega) (by show _ + 19 * (pU F - (putT (pW P) t (pU P) E[jj].1 (hldW (E[jj].2 + d)) z).2) ≤ _; omega)))
      · refine a_iload K dX10_raiseRange_43 rfl ?_
        refine a_iload_n K dX10_raiseRange_45 rfl ?_
        refine a_icmp_gt K dX10_raiseRange_46 (tgt := 89) (by decide) (fun c_46 => ?_) (fun c_46 => ?_)
        · have hcond : E[jj].1 < a ∨ b < E[jj].1 := Or.inr c_46
          refine a_iinc K dX10_raiseRange_89 (v := 1) rfl (by decide) (by decide) ?_
          refine a_goto K dX10_raiseRange_92 (tgt := 14) (by decide) ?_
          first
            | exact aw_locl rfl (ih (jj + 1) _ T ad ar P z k n (nI_1 jj) (by omega) h hP hb hR hX (fun y hy => hV y (by rw [List.drop_eq_getElem_cons hjj]; exact List.mem_cons_of_mem _ hy)) (by rw [raiE_at hjj, if_pos hcond] at hF; exact hF) hk hn)
            | (have hP2 := hP.bset (f := f) hb st2.1 st2.2.1 st2.2.2.2
               exact aw_locl rfl (ih (jj + 1) _ S10 ad2 ar2 (setT P j (putT (pW P) t (pU P) E[jj].1 (hldW (E[jj].2 + d)) z) t f) (putT (pW P) t (pU P) E[jj].1 (hldW (E[jj].2 + d)) z).1 _ _ (nI_1 jj) (by omega) h5 hP2 setT_B hR5 (hX.tr k5) (fun y hy => ⟨(hV y (by rw [List.drop_eq_getElem_cons hjj]; exact List.mem_cons_of_mem _ hy)).1, put_has hw3 ht.2.1 (hldW_ok _) (hV y (by rw [List.drop_eq_getElem_cons hjj]; exact List.mem_cons_of_mem _ hy)).2⟩) (by rw [raiE_at hjj, if_neg hcond] at hF; exact (setT_setT (P := P) st2.2.1 st3.2.1).trans hF) (by show _ + 2 * (pU F - (putT (pW P) t (pU P) E[jj].1 (hldW (E[jj].2 + d)) z).2) ≤ _; omega) (by show _ + 19 * (pU F - (putT (pW P) t (pU P) E[jj].1 (hldW (E[jj].2 + d)) z).2) ≤ _; omega)))
        · have hcond : ¬ (E[jj].1 < a ∨ b < E[jj].1) := fun w => w.elim (fun y => c_40 y) (fun y => c_46 y)
          have hq := hV E[jj] (by rw [List.drop_eq_getElem_cons hjj]; exact List.mem_cons_self)
          have st2 : stp (pW P) (pTk P) t (z, pU P) (putT (pW P) t (pU P) E[jj].1 (hldW (E[jj].2 + d)) z) := stp_put (k := E[jj].1) (v := hldW (E[jj].2 + d)) (s := (z, pU P)) hw3 ht.2 htk ⟨hq.1.1, hldW_ok _⟩ hq.2
          have st3 := raiE_stp (a := a) (b := b) (d := d) hw3 htk (E.drop (jj + 1)) (putT (pW P) t (pU P) E[jj].1 (hldW (E[jj].2 + d)) z) st2.1 (fun y hy => ⟨(hV y (by rw [List.drop_eq_getElem_cons hjj]; exact List.mem_cons_of_mem _ hy)).1, put_has hw3 ht.2.1 (hldW_ok _) (hV y (by rw [List.drop_eq_getElem_cons hjj]; exact List.mem_cons_of_mem _ hy)).2⟩)
          have hfu : (raiE (pW P) t a b d (E.drop (jj + 1)) (putT (pW P) t (pU P) E[jj].1 (hldW (E[jj].2 + d)) z)).2 = pU F := by rw [raiE_at hjj, if_neg hcond] at hF; exact congrArg pU hF
          have hu1 := st2.2.1
          have hu2 := st3.2.1
          rw [hfu] at hu2
          have hu1 : pU P ≤ (putT (pW P) t (pU P) E[jj].1 (hldW (E[jj].2 + d)) z).2 := hu1
          have hu3 := st2.le hw3 ht.2
          have hu3 : (putT (pW P) t (pU P) E[jj].1 (hldW (E[jj].2 + d)) z).2 ≤ pU P + 61 := hu3
          first | refine a_aload_n K dX10_raiseRange_49 rfl ?_ | refine a_aload_nN K dX10_raiseRange_49 rfl ?_
          refine a_getRs K fd_X10_77 (lw_i4 hL) (Or.inl ⟨_, rfl⟩) (lw_f652 hL) dX10_raiseRange_50 ?_
          refine a_iload K dX10_raiseRange_53 rfl ?_
          refine a_invV K (m_R_valueAt hR (show jj < 2 ^ 31 by omega)) my_X7_valueAt ml_X10_142 im_X7_valueAt se_X7_valueAt (ci := 7) (by first | exact lw_i25 hL | exact lw_i28 hL | exact lw_i31 hL) (by decide) ⟨_, _, rfl⟩ rfl (by omega) (by omega) (by omega) rfl (Nat.le_of_ble_eq_true rfl) dX10_raiseRange_55 ?_
          intro r9 S9 hp9
          obtain ⟨rfl, hS9⟩ := hp9
          obtain rfl := hS9.symm
          rw [valAtL_in hx]
          refine a_iload K dX10_raiseRange_58 rfl ?_
          refine a_iadd K dX10_raiseRange_60 ?_
          refine a_invS K (m_X10_heldWithin) my_X10_heldWithin ml_X10_275 st_X10_heldWithin rfl (by omega) (by omega) (by omega) rfl (Nat.le_of_ble_eq_true rfl) dX10_raiseRange_61 ?_
          intro r9 S9 hp9
          obtain ⟨rfl, hS9⟩ := hp9
          obtain rfl := hS9.symm
          refine a_istore K dX10_raiseRange_64 (by decide) ?_
          first | refine a_aload_n K dX10_raiseRange_66 rfl ?_ | refine a_aload_nN K dX10_raiseRange_66 rfl ?_
          first | refine a_aload_n K dX10_raiseRange_67 rfl ?_ | refine a_aload_nN K dX10_raiseRange_67 rfl ?_
          refine a_getRs K fd_X10_39 (lw_i4 hL) (Or.inl ⟨_, rfl⟩) (lw_f645 hL) dX10_raiseRange_68 ?_
          first | refine a_aload_n K dX10_raiseRange_71 rfl ?_ | refine a_aload_nN K dX10_raiseRange_71 rfl ?_
          refine a_invV K (m_X0_root ob) my_X0_root ml_X10_345 im_X0_root se_X0_root (ci := 0) (by assumption) (by decide) ⟨_, _, rfl⟩ rfl (by omega) (by omega) (by omega) rfl (Nat.le_of_ble_eq_true rfl) dX10_raiseRange_72 ?_
          intro r9 S9 hp9
          obtain ⟨rfl, hS9⟩ := hp9
          obtain rfl := hS9.symm
          rw [qr]
          first | refine a_aload_n K dX10_raiseRange_75 rfl ?_ | refine a_aload_nN K dX10_raiseRange_75 rfl ?_
          refine a_invV K (m_X0_token ob) my_X0_token ml_X10_349 im_X0_token se_X0_token (ci := 0) (by assumption) (by decide) ⟨_, _, rfl⟩ rfl (by omega) (by omega) (by omega) rfl (Nat.le_of_ble_eq_true rfl) dX10_raiseRange_76 ?_
          intro r9 S9 hp9
          obtain ⟨rfl, hS9⟩ := hp9
          obtain rfl := hS9.symm
          rw [qt]
          refine a_iload K dX10_raiseRange_79 rfl ?_
          refine a_iload K dX10_raiseRange_81 rfl ?_
          refine a_invV K (m_putZ hw3 hw6 (tk := t) (u := pU P) (key := E[jj].1) (v := hldW (E[jj].2 + d)) (z := z) (lw_i5 hL) h.2.1.1 h.2.2.2.2.2.2.2.2.1.1 ht.1.1 ht.2.1 ht.2.2.2.2.1 (by omega) (by omega)) my_X1_put ml_X10_145 im_X1_put se_X1_put (ci := 1) (lw_i5 hL) (by decide) ⟨_, _, rfl⟩ rfl (by omega) (by omega) (by omega) rfl (Nat.le_of_ble_eq_true rfl) dX10_raiseRange_83 ?_
          intro r9 S9 hp9
          obtain ⟨ad2, ar2, rfl, G, rz⟩ := hp9
          have ob9 := G.is ob
          refine a_invV K (m_X0_change ob9) my_X0_change ml_X10_352 im_X0_change se_X0_change (ci := 0) (by assumption) (by decide) ⟨_, _, rfl⟩ rfl (by omega) (by omega) (by omega) rfl (Nat.le_of_ble_eq_true rfl) dX10_raiseRange_86 ?_
          intro r9 S10 hp9
          obtain ⟨rfl, hS9⟩ := hp9
          have hR5 := hR.grw h G (fun y hy => ht.1.2 y hy) (a := v (14 + j)) (x := some (ad2 (putT (pW P) t (pU P) E[jj].1 (hldW (E[jj].2 + d)) z).1.2.1))
          obtain ⟨h5, k5⟩ := h.bput hP hj hb G ⟨rz, st2.1.2.2.2.1.1⟩
          rw [← hS9] at h5 k5 hR5
          refine a_iinc K dX10_raiseRange_89 (v := 1) rfl (by decide) (by decide) ?_
          refine a_goto K dX10_raiseRange_92 (tgt := 14) (by decide) ?_
          first
            | exact aw_locl rfl (ih (jj + 1) _ T ad ar P z k n (nI_1 jj) (by omega) h hP hb hR hX (fun y hy => hV y (by rw [List.drop_eq_getElem_cons hjj]; exact List.mem_cons_of_mem _ hy)) (by rw [raiE_at hjj, if_pos hcond] at hF; exact hF) hk hn)
            | (have hP2 := hP.bset (f := f) hb st2.1 st2.2.1 st2.2.2.2
               exact aw_locl rfl (ih (jj + 1) _ S10 ad2 ar2 (setT P j (putT (pW P) t (pU P) E[jj].1 (hldW (E[jj].2 + d)) z) t f) (putT (pW P) t (pU P) E[jj].1 (hldW (E[jj].2 + d)) z).1 _ _ (nI_1 jj) (by omega) h5 hP2 setT_B hR5 (hX.tr k5) (fun y hy => ⟨(hV y (by rw [List.drop_eq_getElem_cons hjj]; exact List.mem_cons_of_mem _ hy)).1, put_has hw3 ht.2.1 (hldW_ok _) (hV y (by rw [List.drop_eq_getElem_cons hjj]; exact List.mem_cons_of_mem _ hy)).2⟩) (by rw [raiE_at hjj, if_neg hcond] at hF; exact (setT_setT (P := P) st2.2.1 st3.2.1).trans hF) (by show _ + 2 * (pU F - (putT (pW P) t (pU P) E[jj].1 (hldW (E[jj].2 + d)) z).2) ≤ _; omega) (by show _ + 19 * (pU F - (putT (pW P) t (pU P) E[jj].1 (hldW (E[jj].2 + d)) z).2) ≤ _; omega)))
  subst hE
  first | refine a_aload_n K dX10_raiseRange_0 rfl ?_ | refine a_aload_nN K dX10_raiseRange_0 rfl ?_
  refine a_getRs K fd_X10_77 (lw_i4 hL) (Or.inl ⟨_, rfl⟩) (lw_f652 hL) dX10_raiseRange_1 ?_
  first | refine a_aload_n K dX10_raiseRange_4 rfl ?_ | refine a_aload_nN K dX10_raiseRange_4 rfl ?_
  refine a_invV K (m_X0_root ob) my_X0_root ml_X10_345 im_X0_root se_X0_root (ci := 0) (by assumption) (by decide) ⟨_, _, rfl⟩ rfl (by omega) (by omega) (by omega) rfl (Nat.le_of_ble_eq_true rfl) dX10_raiseRange_5 ?_
  intro r9 S9 hp9
  obtain ⟨rfl, hS9⟩ := hp9
  obtain rfl := hS9.symm
  rw [qr]
  refine a_invV K (m_fill25 h hw3 ht) my_X7_fill ml_X10_173 im_X7_fill se_X7_fill (ci := 7) (by first | exact lw_i25 hL | exact lw_i28 hL | exact lw_i31 hL) (by decide) ⟨_, _, rfl⟩ rfl (by omega) (by omega) (by omega) rfl (Nat.le_of_ble_eq_true rfl) dX10_raiseRange_8 ?_
  intro r9 S9 hp9
  obtain ⟨rfl, hR, h2, k2, f2⟩ := hp9
  have hL := h2.L
  refine a_iconst K dX10_raiseRange_11 (v := 0) (by decide) ?_
  refine a_istore K dX10_raiseRange_12 (by decide) ?_
  have hk0 : pU F = (raiE (pW P) t a b d (ent z.1 z.2) (z, pU P)).2 := by rw [← hF]; rfl
  exact aw_locl rfl (loop (ent z.1 z.2).length 0 _ S9 ad ar P z 0 0 nI_0.symm (by omega) h2 hP hb hR k2 (fun y hy => hV0 y hy) hF (by omega) (by omega))
set_option maxHeartbeats 4000000 in
set_option maxRecDepth 100000 in
theorem c_raiseRange {S : aw_S} {v ad ar : Nat → Nat} {PA : List (Nat × Nat)} {X : List Nat} {mb : Nat} {P : PS} (h : RC S v ad ar PA X mb P) (hP : PI P) {j t : Nat} {z : Tz} {f : Int32} (hj : j < 4) (hb : pB P j = some (z, t, f)) {a b d : Int32} : aw_M yX10_raiseRange cX10_raiseRange 8 (none : Option FieldType) 11 140 1300 [.ref (v 4), .ref (v (14 + j)), .int a, .int b, .int d] S (fun r S2 => ∃ ad2 ar2, r = none ∧ RC S2 v ad2 ar2 PA X mb (setT P j (raiE (pW P) t a b d (ent z.1 z.2) (z, pU P)) t f) ∧ keepX X S S2) := by
  obtain ⟨ob, qr, qt, ht, htk, htl, hh⟩ := h.bk hP hj hb
  have hw3 := hP.1.1
  have hw6 := hP.1.2
  have hL := h.L
  obtain ⟨-, h61, -⟩ := ht.2.h4 hw3
  have hV0 : ∀ y ∈ ent z.1 z.2, okE y ∧ ¬ valIn (ent z.1 z.2) y.1 = -1000000 := fun y hy => ⟨ht.2.2.1 y hy, by rw [valIn_mem ht.2.1.2.2.2.1 hy]; exact ht.2.1.2.2.2.2 y hy⟩
  have hs0 := raiE_stp (a := a) (b := b) (d := d) hw3 htk (ent z.1 z.2) (z, pU P) ht.2 hV0
  have hs1 := hs0.le hw3 ht.2
  have hE1 := ht.2.2.2.1
  have hs2 : (raiE (pW P) t a b d (ent z.1 z.2) (z, pU P)).2 ≤ pU P + 61 := hs1
  exact (c_raiseRangeX h hP hj hb).le (Nat.le_refl _) (by omega) (by omega)
