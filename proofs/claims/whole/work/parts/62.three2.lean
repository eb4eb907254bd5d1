/-- at each key the tree becomes as told -/
def th3 (w t : Nat) (V : Nat → Int32) : Nat → Tz × Nat → Tz × Nat
  | 0, s => s
  | n + 1, s => th3 w t V n (if V (999 - n) = -1000000 then takT w t s.2 (nI (999 - n)) s.1 else putT w t s.2 (nI (999 - n)) (V (999 - n)) s.1)
def st3 (w t : Nat) (V : Nat → Int32) (q : Nat) (s : Tz × Nat) : Tz × Nat := if V q = -1000000 then takT w t s.2 (nI q) s.1 else putT w t s.2 (nI q) (V q) s.1
theorem th3_s (w t : Nat) (V : Nat → Int32) (n : Nat) (s : Tz × Nat) : th3 w t V (n + 1) s = th3 w t V n (st3 w t V (999 - n) s) := rfl
theorem takT_same {w t u : Nat} {k : Int32} {z : Tz} (h : val z.1 z.2 k = -1000000) : takT w t u k z = (z, u) := by
  rcases takT_cases (w := w) (tk := t) (u := u) (key := k) (z := z) with ⟨-, e⟩ | ⟨h2, -⟩
  · exact e
  · exact absurd h h2
theorem st3_same {w t q : Nat} {V : Nat → Int32} {s : Tz × Nat} (hw : 3 ≤ w) (r : rok w s.1) (h : valIn (ent s.1.1 s.1.2) (nI q) = V q) : st3 w t V q s = s := by
  unfold st3
  by_cases e : V q = -1000000
  · rw [if_pos e, takT_same (by rw [r.val hw, h, e])]
  · rw [if_neg e, putT_same (by rw [r.val hw, h])]
/-- at p and behind it the tree is still E's -/
def agr (E : List KV) (p : Nat) (z : Tz) : Prop := ∀ k, p ≤ k → k < 1000 → valIn (ent z.1 z.2) (nI k) = valIn E (nI k)
theorem th3_skip {w t : Nat} {V : Nat → Int32} {E : List KV} {s : Tz × Nat} {m : Nat} (hw : 3 ≤ w) (r : rok w s.1) : ∀ n, m ≤ n → agr E (1000 - n) s.1 → (∀ j, m ≤ j → j < n → V (999 - j) = valIn E (nI (999 - j))) → th3 w t V n s = th3 w t V m s
  | 0, h, _, _ => by rw [show m = 0 by omega]
  | n + 1, h, ha, hV => by
    by_cases e : m = n + 1
    · rw [e]
    · rw [th3_s, st3_same hw r (by rw [ha (999 - n) (by omega) (by omega), hV n (by omega) (by omega)])]
      exact th3_skip hw r n (by omega) (fun k h1 h2 => ha k (by omega) h2) (fun j h1 h2 => hV j h1 (by omega))
theorem st3_agr {w t q : Nat} {V : Nat → Int32} {E : List KV} {s : Tz × Nat} (hw : 3 ≤ w) (r : rok w s.1) (hq : q < 1000) (h : agr E q s.1) : agr E (q + 1) (st3 w t V q s).1 := fun k h1 h2 => by
  unfold st3
  have hk : ¬ nI k = nI q := nI_ne (by omega) (by omega) (by omega)
  by_cases e : V q = -1000000
  · rw [if_pos e, takT_ent hw r, valIn_remE _ _ r.2.2.2.1, if_neg hk]
    exact h k (by omega) h2
  · rw [if_neg e, putT_ent hw r e, valIn_setE _ _ _ r.2.2.2.1, if_neg hk]
    exact h k (by omega) h2
theorem v3V_ok {E B O : List KV} {r k : Int32} (hE : ∀ x ∈ E, okE x) (hB : ∀ x ∈ B, okE x) (hO : ∀ x ∈ O, okE x) : v3V E B O r k = -1000000 ∨ okV (v3V E B O r k) := by
  unfold v3V
  split
  · split
    · exact valIn_ok hO k
    · split
      · exact valIn_ok hE k
      · exact valIn_ok hB k
  · exact valIn_ok hE k
/-- a key that comes new is the other's -/
theorem v3V_new {E B O : List KV} {r k : Int32} (h : valIn E k = -1000000) (h2 : ¬ v3V E B O r k = -1000000) : ¬ valIn O k = -1000000 := fun z => by
  refine h2 ?_
  unfold v3V
  rw [if_neg (fun y => y.2 (z.trans h.symm))]
  exact h
theorem st3_stn {w tk t q N : Nat} {E B O : List KV} {r : Int32} {s : Tz × Nat} (hw : 3 ≤ w) (ht : t < tk) (hE : ∀ x ∈ E, okE x) (hB : ∀ x ∈ B, okE x) (hO : ∀ x ∈ O, okE x) (hq : q < 1000) (h : tkn N w s.2 tk s.1) (ha : agr E q s.1) (hN : N ≤ 126) : stn (N + if hsU O q then 1 else 0) (if hsU O q then 7 else 0) w tk t s (st3 w t (v3U E B O r) q s) := by
  unfold st3
  by_cases e : v3U E B O r q = -1000000
  · rw [if_pos e]
    exact (stn_take hw h ht).up (by omega) (by omega)
  · rw [if_neg e]
    have hk : okE (nI q, v3U E B O r q) := ⟨⟨q, hq, rfl⟩, (v3V_ok hE hB hO).elim (fun z => absurd z e) id⟩
    by_cases e2 : valIn E (nI q) = -1000000
    · have h3 : hsU O q = true := decide_eq_true (v3V_new e2 e)
      rw [if_pos h3, if_pos h3]
      exact stn_put hw h hN ht hk
    · exact (stn_old hw h ht hk (by rw [ha q (Nat.le_refl _) hq]; exact e2)).up (by omega) (by omega)
theorem th3_stn {w tk t : Nat} {E B O : List KV} {r : Int32} (hw : 3 ≤ w) (ht : t < tk) (hE : ∀ x ∈ E, okE x) (hB : ∀ x ∈ B, okE x) (hO : ∀ x ∈ O, okE x) : ∀ (n N : Nat) (s : Tz × Nat), n ≤ 1000 → tkn N w s.2 tk s.1 → agr E (1000 - n) s.1 → N + cntU (hsU O) n 0 ≤ 126 → stn (N + cntU (hsU O) n 0) (7 * cntU (hsU O) n 0) w tk t s (th3 w t (v3U E B O r) n s)
  | 0, N, s, _, h, _, _ => stn.rf h
  | n + 1, N, s, hn, h, ha, hN => by
    have hc : cntU (hsU O) (n + 1) 0 = cntU (hsU O) n 0 + if hsU O (999 - n) then 1 else 0 := by
      by_cases w : hsU O (999 - n) = true
      · rw [cntU_y w, cntU_add, if_pos w]; omega
      · rw [cntU_n (by simpa using w), if_neg w]; rfl
    rw [hc] at hN ⊢
    have h1 := st3_stn (r := r) hw ht hE hB hO (show 999 - n < 1000 by omega) h (by rw [show 999 - n = 1000 - (n + 1) by omega]; exact ha) (by omega)
    have h2 := th3_stn (r := r) hw ht hE hB hO n _ _ (by omega) h1.1 (by
      have := st3_agr (V := v3U E B O r) (t := t) hw h.1 (show 1000 - (n + 1) < 1000 by omega) ha
      rw [show 1000 - (n + 1) + 1 = 1000 - n by omega, show 1000 - (n + 1) = 999 - n by omega] at this
      exact this) (by omega)
    rw [th3_s]
    refine (h1.tr h2).up (by omega) ?_
    by_cases w : hsU O (999 - n) = true
    · rw [if_pos w, if_pos w]; omega
    · rw [if_neg w, if_neg w]; omega
def thrF (P : PS) (b m o r : Int32) : Int32 × PS := match rootP P b, rootP P m, rootP P o with
  | some x, some z, some y => if 0 ≤ r.toInt ∧ r.toInt ≤ 2 then (if cntU (vsU (v3U (ent z.1 z.2) (ent x.1 x.2) (ent y.1 y.2) r)) 1000 0 ≤ 60 then (if hcnt (pH P) < 16 ∧ (pM P).length < 999 then (nI (pM P).length, addM (setU (incT P) (th3 (pW P) (pTk P) (v3U (ent z.1 z.2) (ent x.1 x.2) (ent y.1 y.2) r) 1000 (z, pU P)).2) (th3 (pW P) (pTk P) (v3U (ent z.1 z.2) (ent x.1 x.2) (ent y.1 y.2) r) 1000 (z, pU P)).1 m o) else (-1, refP P 4)) else (-1, refP P 3)) else (-1, refP P 1)
  | _, _, _ => (-1, refP P 0)
theorem RoK.fr {S S2 : aw_S} {Q : Nat → Prop} {r ka va : Nat} {E : List KV} (h : RoK S r ka va E) (f : fr S S2 Q) (n1 : ¬ Q r) (n2 : ¬ Q ka) (n3 : ¬ Q va) : RoK S2 r ka va E := ⟨h.1.fr f n1 n2 n3, h.2⟩
theorem R3.gr {S S2 : aw_S} {v ad ar ad2 ar2 : Nat → Nat} {PA : List (Nat × Nat)} {X : List Nat} {mb u2 t : Nat} {P : PS} {z : Tz} {E O B : List KV} (h : RC S v ad ar PA X mb P) (tz : TrW S ad ar (pU P) z) (G : GR S S2 ad ar ad2 ar2 (pU P) u2 (v 5) t (ndl z.1 z.2)) (hR : R3 S v E O B) : R3 S2 v E O B :=
  ⟨hR.1.fr G.2.2.2.2.2 (h.ngp tz.2 (by decide) (by decide)) (h.ngp tz.2 (by decide) (by decide)) (h.ngp tz.2 (by decide) (by decide)), hR.2.1.fr G.2.2.2.2.2 (h.ngp tz.2 (by decide) (by decide)) (h.ngp tz.2 (by decide) (by decide)) (h.ngp tz.2 (by decide) (by decide)), hR.2.2.fr G.2.2.2.2.2 (h.ngp tz.2 (by decide) (by decide)) (h.ngp tz.2 (by decide) (by decide)) (h.ngp tz.2 (by decide) (by decide))⟩
set_option maxHeartbeats 4000000 in
set_option maxRecDepth 100000 in
theorem c_rootOfThree {S : aw_S} {v ad ar : Nat → Nat} {PA : List (Nat × Nat)} {X : List Nat} {mb : Nat} {P : PS} (h : RC S v ad ar PA X mb P) (hP : PI P) {m r : Int32} {z : Tz} (hz : rootP P m = some z) {E O B : List KV} (hEz : E = ent z.1 z.2) (hR : R3 S v E O B) : aw_M yX10_rootOfThree cX10_rootOfThree 8 (some (FieldType.object "WideMap$Node")) 12 962 9139 [.ref (v 4), .ref (ad z.2.1), .int r] S (fun q S2 => ∃ ad2 ar2, q = some (.ref (ad2 (th3 (pW P) (pTk P) (v3U E B O r) 1000 (z, pU P)).1.2.1)) ∧ RC S2 v ad2 ar2 PA X mb (setU (incT P) (th3 (pW P) (pTk P) (v3U E B O r) 1000 (z, pU P)).2) ∧ TrW S2 ad2 ar2 (pU (setU (incT P) (th3 (pW P) (pTk P) (v3U E B O r) 1000 (z, pU P)).2)) (th3 (pW P) (pTk P) (v3U E B O r) 1000 (z, pU P)).1 ∧ keepX X S S2) := by
  have hL := h.L
  have t := h.tt hP hz
  have hOl : cntU (hsU O) 1000 0 = O.length := cnt_len hR.2.1.2.1 hR.2.1.2.2
  have hO60 := hR.2.1.1.2.2.2.2.2.2.2.2.2.1
  have hs0 := th3_stn (E := E) (B := B) (O := O) (r := r) hP.1.1 (Nat.lt_succ_self (pTk P)) hR.1.2.2 hR.2.2.2.2 hR.2.1.2.2 1000 60 (z, pU P) (Nat.le_refl _) ((t.2.mono (Nat.le_refl _) (Nat.le_succ _)).n (Nat.le_refl _)) (fun k _ _ => by rw [hEz]) (by omega)
  have hs1 := hs0.le hP.1.1 (t.2.mono (Nat.le_refl _) (Nat.le_succ _))
  have hs2 : (th3 (pW P) (pTk P) (v3U E B O r) 1000 (z, pU P)).2 ≤ pU P + 61 + 7 * cntU (hsU O) 1000 0 := hs1
  obtain ⟨F, hF1⟩ : ∃ F, setU (incT P) (th3 (pW P) (pTk P) (v3U E B O r) 1000 (z, pU P)).2 = F := ⟨_, rfl⟩
  obtain ⟨zF, hF2⟩ : ∃ zF, (th3 (pW P) (pTk P) (v3U E B O r) 1000 (z, pU P)).1 = zF := ⟨_, rfl⟩
  have hfu : (th3 (pW P) (pTk P) (v3U E B O r) 1000 (z, pU P)).2 = pU F := congrArg pU hF1
  rw [hfu] at hs2
  rw [hF1, hF2]
  obtain ⟨t9, ht9⟩ : ∃ n, n = pTk P := ⟨_, rfl⟩
  refine aw_enter (by decide +kernel) (Nat.le_of_ble_eq_true rfl) (fun g K EE => ?_)
  have loop : ∀ (n c p : Nat) (x9 ky : Int32) (T : aw_S) (ad ar : Nat → Nat) (P : PS) (z : Tz) (N k n2 : Nat), p + n = 1000 → x9 = nI c → c ≤ p → nxt B O p ky → RC T v ad ar PA X mb P → TrW T ad ar (pU P) z → tkn N (pW P) (pU P) (pTk P) z → N + cntU (hsU O) n 0 ≤ 120 → agr E p z → (NTk P t9 ∧ t9 < pTk P ∧ pTk P < 2000000000 ∧ (3 ≤ pW P ∧ pW P ≤ 6)) → R3 T v E O B → keepX X S T → (setU P (th3 (pW P) t9 (v3U E B O r) n (z, pU P)).2 = F ∧ (th3 (pW P) t9 (v3U E B O r) n (z, pU P)).1 = zF) → k + 2 * (pU F - pU P) ≤ 962 → n2 + 19 * (pU F - pU P) ≤ 9139 → aw g 8 T k n2 [(6, .int x9), (5, .int ky), (4, .ref (ad z.2.1)), (3, .int (nI t9)), (2, .int r), (0, .ref (v 4))] [] 28 := by
    intro n
    induction n using Nat.strongRecOn with
    | ind n ih =>
      intro c p x9 ky T ad ar P z N k n2 hp hx9 hc hnx h tz tk hN hag hnn hR hX hF hk hn2
      subst hx9
      have hL := h.L
      obtain ⟨hn, htk, htl, hw3, hw6⟩ := id hnn
      have h50 := tk.h5 hw3 (show N ≤ 126 by omega)
      rcases hnx with ⟨rfl, ha⟩ | ⟨q, hq1, hq2, rfl, ha⟩
      · by_cases hc9 : c < 1000
        · refine a_iload K dX10_rootOfThree_28 rfl ?_
          refine a_sipush K dX10_rootOfThree_30 (v := 1000) (by decide) ?_
          refine a_icmp_ge K dX10_rootOfThree_33 (tgt := 110) (by decide) (fun c_33 => absurd c_33 (nI_ge (a := c) (b := 1000) (by omega) (by omega))) (fun c_33 => ?_)
          refine a_iload K dX10_rootOfThree_36 rfl ?_
          refine a_iconst K dX10_rootOfThree_38 (v := -1) (by decide) ?_
          refine a_icmp_eq K dX10_rootOfThree_39 (tgt := 110) (by decide) (fun c_39 => ?_) (fun c_39 => absurd c_39 (by decide))
          first | refine a_aload K dX10_rootOfThree_110 rfl ?_ | refine a_aloadN K dX10_rootOfThree_110 rfl ?_
          exact a_aret K EE (Or.inl ⟨_, rfl⟩) (Or.inr ⟨_, rfl⟩) (by omega) (by omega) dX10_rootOfThree_112 (by obtain ⟨hF1, hF2⟩ := hF; rw [th3_skip (m := 0) hw3 tk.1 n (Nat.zero_le _) (by rw [show 1000 - n = p by omega]; exact hag) (fun j h1 h2 => v3V_no (ha (999 - j) (by omega) (by omega)))] at hF1 hF2; have e1 : P = F := (setU_self P).symm.trans hF1; have e2 : z = zF := hF2; subst e1; subst e2; exact ⟨ad, ar, rfl, h, ⟨tz, hX⟩⟩)
        · obtain rfl : c = 1000 := by omega
          refine a_iload K dX10_rootOfThree_28 rfl ?_
          refine a_sipush K dX10_rootOfThree_30 (v := 1000) (by decide) ?_
          refine a_icmp_ge K dX10_rootOfThree_33 (tgt := 110) (by decide) (fun c_33 => ?_) (fun c_33 => absurd c_33 (fun z => z (nI_le (a := 1000) (b := 1000) (Nat.le_refl _) (by omega))))
          first | refine a_aload K dX10_rootOfThree_110 rfl ?_ | refine a_aloadN K dX10_rootOfThree_110 rfl ?_
          exact a_aret K EE (Or.inl ⟨_, rfl⟩) (Or.inr ⟨_, rfl⟩) (by omega) (by omega) dX10_rootOfThree_112 (by obtain ⟨hF1, hF2⟩ := hF; rw [th3_skip (m := 0) hw3 tk.1 n (Nat.zero_le _) (by rw [show 1000 - n = p by omega]; exact hag) (fun j h1 h2 => v3V_no (ha (999 - j) (by omega) (by omega)))] at hF1 hF2; have e1 : P = F := (setU_self P).symm.trans hF1; have e2 : z = zF := hF2; subst e1; subst e2; exact ⟨ad, ar, rfl, h, ⟨tz, hX⟩⟩)
      · have hag0 := hag
        have hsk : th3 (pW P) t9 (v3U E B O r) n (z, pU P) = th3 (pW P) t9 (v3U E B O r) (999 - q + 1) (z, pU P) := th3_skip hw3 tk.1 n (by omega) (by rw [show 1000 - n = p by omega]; exact hag0) (fun j h1 h2 => v3V_no (ha (999 - j) (by omega) (by omega)))
        rw [hsk] at hF
        have hcs : cntU (hsU O) n 0 = cntU (hsU O) (999 - q + 1) 0 := cntU_skip n (by omega) (fun j h1 h2 => decide_eq_false (fun z => z (ha (999 - j) (by omega) (by omega)).2))
        rw [hcs] at hN
        have hag : agr E q z := fun k h1 h2 => hag0 k (by omega) h2
        refine a_iload K dX10_rootOfThree_28 rfl ?_
        refine a_sipush K dX10_rootOfThree_30 (v := 1000) (by decide) ?_
        refine a_icmp_ge K dX10_rootOfThree_33 (tgt := 110) (by decide) (fun c_33 => absurd c_33 (nI_ge (a := c) (b := 1000) (by omega) (by omega))) (fun c_33 => ?_)
        refine a_iload K dX10_rootOfThree_36 rfl ?_
        refine a_iconst K dX10_rootOfThree_38 (v := -1) (by decide) ?_
        refine a_icmp_eq K dX10_rootOfThree_39 (tgt := 110) (by decide) (fun c_39 => absurd c_39 (nI_m1n (by omega))) (fun c_39 => ?_)
        first | refine a_aload_n K dX10_rootOfThree_42 rfl ?_ | refine a_aload_nN K dX10_rootOfThree_42 rfl ?_
        refine a_iload K dX10_rootOfThree_43 rfl ?_
        refine a_iload_n K dX10_rootOfThree_45 rfl ?_
        refine a_invV K (m_valueOfThree hL hR (k := nI q) (r := r)) my_X10_valueOfThree ml_X10_301 im_X10_valueOfThree se_X10_valueOfThree (ci := 10) (lw_i4 hL) (by decide) ⟨_, _, rfl⟩ rfl (by omega) (by omega) (by omega) rfl (Nat.le_of_ble_eq_true rfl) dX10_rootOfThree_46 ?_
        intro r9 S9 hp9
        obtain ⟨rfl, hS9⟩ := hp9
        obtain rfl := hS9.symm
        rw [show v3V E B O r (nI q) = (v3U E B O r) q from rfl]
        refine a_istore K dX10_rootOfThree_49 (by decide) ?_
        have hs2 := st3_stn (r := r) (s := (z, pU P)) hw3 htk hR.1.2.2 hR.2.2.2.2 hR.2.1.2.2 hq2 tk hag (by omega)
        have hag2 := st3_agr (V := (v3U E B O r)) (t := t9) (s := (z, pU P)) hw3 tk.1 hq2 hag
        have hc : cntU (hsU O) (999 - q + 1) 0 = cntU (hsU O) (999 - q) 0 + if hsU O q then 1 else 0 := by
          by_cases w : hsU O q = true
          · rw [cntU_y (by rw [show 999 - (999 - q) = q by omega]; exact w), cntU_add, if_pos w]; omega
          · rw [cntU_n (by rw [show 999 - (999 - q) = q by omega]; simpa using w), if_neg w]; rfl
        rw [hc] at hN
        have hs3 := th3_stn (r := r) hw3 htk hR.1.2.2 hR.2.2.2.2 hR.2.1.2.2 (999 - q) _ _ (by omega) hs2.1 (by rw [show 1000 - (999 - q) = q + 1 by omega]; exact hag2) (by omega)
        rw [th3_s, show 999 - (999 - q) = q by omega] at hF
        have hfu : (th3 (pW P) t9 (v3U E B O r) (999 - q) (st3 (pW P) t9 (v3U E B O r) q (z, pU P))).2 = pU F := congrArg pU hF.1
        have hu1 : pU P ≤ (st3 (pW P) t9 (v3U E B O r) q (z, pU P)).2 := hs2.2.1
        have hu2 := hs3.2.1
        rw [hfu] at hu2
        refine a_iload K dX10_rootOfThree_51 rfl ?_
        refine a_ldc K kc_X10_180 dX10_rootOfThree_53 ?_
        refine a_icmp_ne K dX10_rootOfThree_55 (tgt := 73) (by decide) (fun c_55 => ?_) (fun c_55 => ?_)
        · have c_55 : ¬ (v3U E B O r) q = -1000000 := c_55
          have es : (st3 (pW P) t9 (v3U E B O r) q (z, pU P)) = (putT (pW P) t9 (pU P) (nI q) ((v3U E B O r) q) z) := if_neg c_55
          rw [es] at hs2 hs3 hfu hF hag2 hu1 hu2
          first | refine a_aload_n K dX10_rootOfThree_73 rfl ?_ | refine a_aload_nN K dX10_rootOfThree_73 rfl ?_
          refine a_getRs K fd_X10_39 (lw_i4 hL) (Or.inl ⟨_, rfl⟩) (lw_f645 hL) dX10_rootOfThree_74 ?_
          first | refine a_aload K dX10_rootOfThree_77 rfl ?_ | refine a_aloadN K dX10_rootOfThree_77 rfl ?_
          refine a_iload_n K dX10_rootOfThree_79 rfl ?_
          refine a_iload K dX10_rootOfThree_80 rfl ?_
          refine a_iload K dX10_rootOfThree_82 rfl ?_
          refine a_invV K (m_putZ hw3 hw6 (tk := t9) (u := pU P) (key := nI q) (v := (v3U E B O r) q) (z := z) (lw_i5 hL) h.2.1.1 h.2.2.2.2.2.2.2.2.1.1 tz.1 tk.1 tk.2.2.2.1 (by omega) (by omega)) my_X1_put ml_X10_145 im_X1_put se_X1_put (ci := 1) (lw_i5 hL) (by decide) ⟨_, _, rfl⟩ rfl (by omega) (by omega) (by omega) rfl (Nat.le_of_ble_eq_true rfl) dX10_rootOfThree_84 ?_
          intro r9 S9 hp9
          obtain ⟨ad2, ar2, rfl, G, rz⟩ := hp9
          obtain ⟨h5, k5⟩ := h.grn hn tz G
          have hL := h5.L
          have hR5 := R3.gr h tz G hR
          first | refine a_astore K dX10_rootOfThree_87 (by decide) ?_ | refine a_astoreN K dX10_rootOfThree_87 (by decide) ?_
          first | refine a_aload_n K dX10_rootOfThree_89 rfl ?_ | refine a_aload_nN K dX10_rootOfThree_89 rfl ?_
          refine a_getRs K fd_X10_84 (lw_i4 hL) (Or.inl ⟨_, rfl⟩) (lw_f654 hL) dX10_rootOfThree_90 ?_
          first | refine a_aload_n K dX10_rootOfThree_93 rfl ?_ | refine a_aload_nN K dX10_rootOfThree_93 rfl ?_
          refine a_getRs K fd_X10_81 (lw_i4 hL) (Or.inl ⟨_, rfl⟩) (lw_f653 hL) dX10_rootOfThree_94 ?_
          refine a_iload K dX10_rootOfThree_97 rfl ?_
          refine a_invS K (m_lowestAbove (k := nI q) hR5.2.2 hR5.2.1) my_X10_lowestAbove ml_X10_288 st_X10_lowestAbove rfl (by omega) (by omega) (by omega) rfl (Nat.le_of_ble_eq_true rfl) dX10_rootOfThree_99 ?_
          intro r9 S9 hp9
          obtain ⟨rfl, hS9⟩ := hp9
          obtain rfl := hS9.symm
          refine a_istore K dX10_rootOfThree_102 (by decide) ?_
          refine a_iinc K dX10_rootOfThree_104 (v := 1) rfl (by decide) (by decide) ?_
          refine a_goto K dX10_rootOfThree_107 (tgt := 28) (by decide) ?_
          first
            | exact aw_locl rfl (ih (999 - q) (by omega) (c + 1) (q + 1) _ _ S9 ad2 ar2 (setU P (takT (pW P) t9 (pU P) (nI q) z).2) (takT (pW P) t9 (pU P) (nI q) z).1 _ _ _ (by omega) (nI_1 c) (by omega) (nxK_spec hR.2.2.2.2 hR.2.2.2.1 hR.2.1.2.2 hR.2.1.2.1 (by omega) (nI_1 q)) h5 ⟨rz, hs2.1.2.2.2.1.1⟩ hs2.1 (by omega) hag2 hnn hR5 (hX.tr k5) ⟨(setU_setU (P := P) hs2.2.1 hs3.2.1).trans hF.1, hF.2⟩ (by show _ + 2 * (pU F - (takT (pW P) t9 (pU P) (nI q) z).2) ≤ _; omega) (by show _ + 19 * (pU F - (takT (pW P) t9 (pU P) (nI q) z).2) ≤ _; omega))
            | exact aw_locl rfl (ih (999 - q) (by omega) (c + 1) (q + 1) _ _ S9 ad2 ar2 (setU P (putT (pW P) t9 (pU P) (nI q) ((v3U E B O r) q) z).2) (putT (pW P) t9 (pU P) (nI q) ((v3U E B O r) q) z).1 _ _ _ (by omega) (nI_1 c) (by omega) (nxK_spec hR.2.2.2.2 hR.2.2.2.1 hR.2.1.2.2 hR.2.1.2.1 (by omega) (nI_1 q)) h5 ⟨rz, hs2.1.2.2.2.1.1⟩ hs2.1 (by omega) hag2 hnn hR5 (hX.tr k5) ⟨(setU_setU (P := P) hs2.2.1 hs3.2.1).trans hF.1, hF.2⟩ (by show _ + 2 * (pU F - (putT (pW P) t9 (pU P) (nI q) ((v3U E B O r) q) z).2) ≤ _; omega) (by show _ + 19 * (pU F - (putT (pW P) t9 (pU P) (nI q) ((v3U E B O r) q) z).2) ≤ _; omega))
        · have c_55 : (v3U E B O r) q = -1000000 := c_55
          have es : (st3 (pW P) t9 (v3U E B O r) q (z, pU P)) = (takT (pW P) t9 (pU P) (nI q) z) := if_pos c_55
          rw [es] at hs2 hs3 hfu hF hag2 hu1 hu2
          first | refine a_aload_n K dX10_rootOfThree_58 rfl ?_ | refine a_aload_nN K dX10_rootOfThree_58 rfl ?_
          refine a_getRs K fd_X10_39 (lw_i4 hL) (Or.inl ⟨_, rfl⟩) (lw_f645 hL) dX10_rootOfThree_59 ?_
          first | refine a_aload K dX10_rootOfThree_62 rfl ?_ | refine a_aloadN K dX10_rootOfThree_62 rfl ?_
          refine a_iload_n K dX10_rootOfThree_64 rfl ?_
          refine a_iload K dX10_rootOfThree_65 rfl ?_
          refine a_invV K (m_takeOutZ hw3 hw6 (tk := t9) (u := pU P) (key := nI q) (z := z) (lw_i5 hL) h.2.1.1 h.2.2.2.2.2.2.2.2.1.1 tz.1 tk.1 tk.2.2.2.1 (by omega) (by omega)) my_X1_takeOut ml_X10_245 im_X1_takeOut se_X1_takeOut (ci := 1) (lw_i5 hL) (by decide) ⟨_, _, rfl⟩ rfl (by omega) (by omega) (by omega) rfl (Nat.le_of_ble_eq_true rfl) dX10_rootOfThree_67 ?_
          intro r9 S9 hp9
          obtain ⟨ad2, ar2, rfl, G, rz⟩ := hp9
          obtain ⟨h5, k5⟩ := h.grn hn tz G
          have hL := h5.L
          have hR5 := R3.gr h tz G hR
          refine a_goto K dX10_rootOfThree_70 (tgt := 87) (by decide) ?_
          first | refine a_astore K dX10_rootOfThree_87 (by decide) ?_ | refine a_astoreN K dX10_rootOfThree_87 (by decide) ?_
          first | refine a_aload_n K dX10_rootOfThree_89 rfl ?_ | refine a_aload_nN K dX10_rootOfThree_89 rfl ?_
          refine a_getRs K fd_X10_84 (lw_i4 hL) (Or.inl ⟨_, rfl⟩) (lw_f654 hL) dX10_rootOfThree_90 ?_
          first | refine a_aload_n K dX10_rootOfThree_93 rfl ?_ | refine a_aload_nN K dX10_rootOfThree_93 rfl ?_
          refine a_getRs K fd_X10_81 (lw_i4 hL) (Or.inl ⟨_, rfl⟩) (lw_f653 hL) dX10_rootOfThree_94 ?_
          refine a_iload K dX10_rootOfThree_97 rfl ?_
          refine a_invS K (m_lowestAbove (k := nI q) hR5.2.2 hR5.2.1) my_X10_lowestAbove ml_X10_288 st_X10_lowestAbove rfl (by omega) (by omega) (by omega) rfl (Nat.le_of_ble_eq_true rfl) dX10_rootOfThree_99 ?_
          intro r9 S9 hp9
          obtain ⟨rfl, hS9⟩ := hp9
          obtain rfl := hS9.symm
          refine a_istore K dX10_rootOfThree_102 (by decide) ?_
          refine a_iinc K dX10_rootOfThree_104 (v := 1) rfl (by decide) (by decide) ?_
          refine a_goto K dX10_rootOfThree_107 (tgt := 28) (by decide) ?_
          first
            | exact aw_locl rfl (ih (999 - q) (by omega) (c + 1) (q + 1) _ _ S9 ad2 ar2 (setU P (takT (pW P) t9 (pU P) (nI q) z).2) (takT (pW P) t9 (pU P) (nI q) z).1 _ _ _ (by omega) (nI_1 c) (by omega) (nxK_spec hR.2.2.2.2 hR.2.2.2.1 hR.2.1.2.2 hR.2.1.2.1 (by omega) (nI_1 q)) h5 ⟨rz, hs2.1.2.2.2.1.1⟩ hs2.1 (by omega) hag2 hnn hR5 (hX.tr k5) ⟨(setU_setU (P := P) hs2.2.1 hs3.2.1).trans hF.1, hF.2⟩ (by show _ + 2 * (pU F - (takT (pW P) t9 (pU P) (nI q) z).2) ≤ _; omega) (by show _ + 19 * (pU F - (takT (pW P) t9 (pU P) (nI q) z).2) ≤ _; omega))
            | exact aw_locl rfl (ih (999 - q) (by omega) (c + 1) (q + 1) _ _ S9 ad2 ar2 (setU P (putT (pW P) t9 (pU P) (nI q) ((v3U E B O r) q) z).2) (putT (pW P) t9 (pU P) (nI q) ((v3U E B O r) q) z).1 _ _ _ (by omega) (nI_1 c) (by omega) (nxK_spec hR.2.2.2.2 hR.2.2.2.1 hR.2.1.2.2 hR.2.1.2.1 (by omega) (nI_1 q)) h5 ⟨rz, hs2.1.2.2.2.1.1⟩ hs2.1 (by omega) hag2 hnn hR5 (hX.tr k5) ⟨(setU_setU (P := P) hs2.2.1 hs3.2.1).trans hF.1, hF.2⟩ (by show _ + 2 * (pU F - (putT (pW P) t9 (pU P) (nI q) ((v3U E B O r) q) z).2) ≤ _; omega) (by show _ + 19 * (pU F - (putT (pW P) t9 (pU P) (nI q) ((v3U E B O r) q) z).2) ≤ _; omega))
  subst ht9
  first | refine a_aload_n K dX10_rootOfThree_0 rfl ?_ | refine a_aload_nN K dX10_rootOfThree_0 rfl ?_
  refine a_getRs K fd_X10_39 (lw_i4 hL) (Or.inl ⟨_, rfl⟩) (lw_f645 hL) dX10_rootOfThree_1 ?_
  refine a_invV K (c_newTokenR h) my_X1_newToken ml_X10_131 im_X1_newToken se_X1_newToken (ci := 1) (lw_i5 hL) (by decide) ⟨_, _, rfl⟩ rfl (by omega) (by omega) (by omega) rfl (Nat.le_of_ble_eq_true rfl) dX10_rootOfThree_4 ?_
  intro r9 S9 hp9
  obtain ⟨rfl, h2, k2, e2⟩ := hp9
  have hL := h2.L
  have t2 : TT_ S9 ad ar (incT P) z := ⟨h2.trw hz rfl, t.2.mono (Nat.le_refl _) (Nat.le_succ _)⟩
  have hR2 : R3 S9 v E O B := ⟨hR.1.fr e2.fr (Qk_no hL (by decide) (by decide) (by decide)) (Qk_no hL (by decide) (by decide) (by decide)) (Qk_no hL (by decide) (by decide) (by decide)), hR.2.1.fr e2.fr (Qk_no hL (by decide) (by decide) (by decide)) (Qk_no hL (by decide) (by decide) (by decide)) (Qk_no hL (by decide) (by decide) (by decide)), hR.2.2.fr e2.fr (Qk_no hL (by decide) (by decide) (by decide)) (Qk_no hL (by decide) (by decide) (by decide)) (Qk_no hL (by decide) (by decide) (by decide))⟩
  refine a_istore_n K dX10_rootOfThree_7 (by decide) ?_
  first | refine a_aload_n K dX10_rootOfThree_8 rfl ?_ | refine a_aload_nN K dX10_rootOfThree_8 rfl ?_
  first | refine a_astore K dX10_rootOfThree_9 (by decide) ?_ | refine a_astoreN K dX10_rootOfThree_9 (by decide) ?_
  first | refine a_aload_n K dX10_rootOfThree_11 rfl ?_ | refine a_aload_nN K dX10_rootOfThree_11 rfl ?_
  refine a_getRs K fd_X10_84 (lw_i4 hL) (Or.inl ⟨_, rfl⟩) (lw_f654 hL) dX10_rootOfThree_12 ?_
  first | refine a_aload_n K dX10_rootOfThree_15 rfl ?_ | refine a_aload_nN K dX10_rootOfThree_15 rfl ?_
  refine a_getRs K fd_X10_81 (lw_i4 hL) (Or.inl ⟨_, rfl⟩) (lw_f653 hL) dX10_rootOfThree_16 ?_
  refine a_iconst K dX10_rootOfThree_19 (v := -1) (by decide) ?_
  refine a_invS K (m_lowestAbove (k := -1) hR2.2.2 hR2.2.1) my_X10_lowestAbove ml_X10_288 st_X10_lowestAbove rfl (by omega) (by omega) (by omega) rfl (Nat.le_of_ble_eq_true rfl) dX10_rootOfThree_20 ?_
  intro r9 S9 hp9
  obtain ⟨rfl, hS9⟩ := hp9
  obtain rfl := hS9.symm
  refine a_istore K dX10_rootOfThree_23 (by decide) ?_
  refine a_iconst K dX10_rootOfThree_25 (v := 0) (by decide) ?_
  refine a_istore K dX10_rootOfThree_26 (by decide) ?_
  exact aw_locl rfl (loop 1000 0 0 _ _ S9 ad ar (incT P) z 60 0 0 rfl nI_0.symm (Nat.le_refl _) (nxK_spec hR2.2.2.2.2 hR2.2.2.2.1 hR2.2.1.2.2 hR2.2.1.2.1 (by omega) (by decide)) h2 t2.1 (t2.2.n (Nat.le_refl _)) (by omega) (fun k _ _ => by rw [hEz]) ⟨⟨fun x hx y hy => Nat.ne_of_lt (hP.new.1 x hx y hy), fun j b hb y hy => Nat.ne_of_lt (hP.new.2 j b hb y hy)⟩, Nat.lt_succ_self _, (by show pTk P + 1 < _; have h1 := hP.2.2.2; omega), hP.1⟩ hR2 k2 ⟨hF1, hF2⟩ (by show 0 + 2 * (pU F - pU P) ≤ _; omega) (by show 0 + 19 * (pU F - pU P) ≤ _; omega))
theorem rng02 {r : Int32} (hx : ¬ (0 ≤ r.toInt ∧ r.toInt ≤ 2)) (c1 : ¬ r < 0) (c2 : r ≤ 2) : False := by
  rw [i32_lt] at c1
  rw [i32_le] at c2
  have e0 : (0 : Int32).toInt = 0 := by decide
  have e3 : (2 : Int32).toInt = 2 := by decide
  omega
theorem rng02_hi {r : Int32} (hx : r.toInt ≤ 2) : r ≤ 2 := by
  rw [i32_le]
  have e3 : (2 : Int32).toInt = 2 := by decide
  omega
set_option maxHeartbeats 4000000 in
set_option maxRecDepth 100000 in
theorem c_three {S : aw_S} {v ad ar : Nat → Nat} {PA : List (Nat × Nat)} {X : List Nat} {mb : Nat} {P : PS} (h : RC S v ad ar PA X mb P) (hP : PI P) {b m o r : Int32} : aw_M yX10_three cX10_three 5 (some FieldType.int) 13 962 9139 [.ref (v 4), .int b, .int m, .int o, .int r] S (mutQ X v PA mb S (thrF P b m o r)) := by
  have hL := h.L
  cases hx : rootP P b with
  | none =>
    refine aw_enter (by decide +kernel) (Nat.le_of_ble_eq_true rfl) (fun g K EE => ?_)
    first | refine a_aload_n K dX10_three_0 rfl ?_ | refine a_aload_nN K dX10_three_0 rfl ?_
    refine a_iload_n K dX10_three_1 rfl ?_
    refine a_iload_n K dX10_three_2 rfl ?_
    refine a_iload_n K dX10_three_3 rfl ?_
    refine a_invV K (c_fillThree_n h hP (Or.inl hx)) my_X10_fillThree ml_X10_278 im_X10_fillThree se_X10_fillThree (ci := 10) (lw_i4 hL) (by decide) ⟨_, _, rfl⟩ rfl (by omega) (by omega) (by omega) rfl (Nat.le_of_ble_eq_true rfl) dX10_three_4 ?_
    intro r9 S9 hp9
    obtain ⟨rfl, hS9⟩ := hp9
    obtain rfl := hS9.symm
    refine a_if_ne K dX10_three_7 (tgt := 16) (by decide) (fun c_7 => absurd c_7 (fun z => z rfl)) (fun c_7 => ?_)
    first | refine a_aload_n K dX10_three_10 rfl ?_ | refine a_aload_nN K dX10_three_10 rfl ?_
    refine a_iconst K dX10_three_11 (v := 0) (by decide) ?_
    refine a_invV K (c_refused h 0 (by decide)) my_X10_refused ml_X10_128 im_X10_refused se_X10_refused (ci := 10) (lw_i4 hL) (by decide) ⟨_, _, rfl⟩ rfl (by omega) (by omega) (by omega) rfl (Nat.le_of_ble_eq_true rfl) dX10_three_12 ?_
    intro r9 S9 hp9
    obtain ⟨rfl, h8, k8⟩ := hp9
    exact a_iret K EE rfl (by omega) (by omega) dX10_three_15 (by unfold thrF; rw [hx]; exact ⟨ad, ar, rfl, h8, k8⟩)
  | some x =>
    cases hz : rootP P m with
    | none =>
      refine aw_enter (by decide +kernel) (Nat.le_of_ble_eq_true rfl) (fun g K EE => ?_)
      first | refine a_aload_n K dX10_three_0 rfl ?_ | refine a_aload_nN K dX10_three_0 rfl ?_
      refine a_iload_n K dX10_three_1 rfl ?_
      refine a_iload_n K dX10_three_2 rfl ?_
      refine a_iload_n K dX10_three_3 rfl ?_
      refine a_invV K (c_fillThree_n h hP (Or.inr (Or.inl hz))) my_X10_fillThree ml_X10_278 im_X10_fillThree se_X10_fillThree (ci := 10) (lw_i4 hL) (by decide) ⟨_, _, rfl⟩ rfl (by omega) (by omega) (by omega) rfl (Nat.le_of_ble_eq_true rfl) dX10_three_4 ?_
      intro r9 S9 hp9
      obtain ⟨rfl, hS9⟩ := hp9
      obtain rfl := hS9.symm
      refine a_if_ne K dX10_three_7 (tgt := 16) (by decide) (fun c_7 => absurd c_7 (fun z => z rfl)) (fun c_7 => ?_)
      first | refine a_aload_n K dX10_three_10 rfl ?_ | refine a_aload_nN K dX10_three_10 rfl ?_
      refine a_iconst K dX10_three_11 (v := 0) (by decide) ?_
      refine a_invV K (c_refused h 0 (by decide)) my_X10_refused ml_X10_128 im_X10_refused se_X10_refused (ci := 10) (lw_i4 hL) (by decide) ⟨_, _, rfl⟩ rfl (by omega) (by omega) (by omega) rfl (Nat.le_of_ble_eq_true rfl) dX10_three_12 ?_
      intro r9 S9 hp9
      obtain ⟨rfl, h8, k8⟩ := hp9
      exact a_iret K EE rfl (by omega) (by omega) dX10_three_15 (by unfold thrF; rw [hx, hz]; exact ⟨ad, ar, rfl, h8, k8⟩)
    | some z =>
      cases hy : rootP P o with
      | none =>
        refine aw_enter (by decide +kernel) (Nat.le_of_ble_eq_true rfl) (fun g K EE => ?_)
        first | refine a_aload_n K dX10_three_0 rfl ?_ | refine a_aload_nN K dX10_three_0 rfl ?_
        refine a_iload_n K dX10_three_1 rfl ?_
        refine a_iload_n K dX10_three_2 rfl ?_
        refine a_iload_n K dX10_three_3 rfl ?_
        refine a_invV K (c_fillThree_n h hP (Or.inr (Or.inr hy))) my_X10_fillThree ml_X10_278 im_X10_fillThree se_X10_fillThree (ci := 10) (lw_i4 hL) (by decide) ⟨_, _, rfl⟩ rfl (by omega) (by omega) (by omega) rfl (Nat.le_of_ble_eq_true rfl) dX10_three_4 ?_
        intro r9 S9 hp9
        obtain ⟨rfl, hS9⟩ := hp9
        obtain rfl := hS9.symm
        refine a_if_ne K dX10_three_7 (tgt := 16) (by decide) (fun c_7 => absurd c_7 (fun z => z rfl)) (fun c_7 => ?_)
        first | refine a_aload_n K dX10_three_10 rfl ?_ | refine a_aload_nN K dX10_three_10 rfl ?_
        refine a_iconst K dX10_three_11 (v := 0) (by decide) ?_
        refine a_invV K (c_refused h 0 (by decide)) my_X10_refused ml_X10_128 im_X10_refused se_X10_refused (ci := 10) (lw_i4 hL) (by decide) ⟨_, _, rfl⟩ rfl (by omega) (by omega) (by omega) rfl (Nat.le_of_ble_eq_true rfl) dX10_three_12 ?_
        intro r9 S9 hp9
        obtain ⟨rfl, h8, k8⟩ := hp9
        exact a_iret K EE rfl (by omega) (by omega) dX10_three_15 (by unfold thrF; rw [hx, hz, hy]; exact ⟨ad, ar, rfl, h8, k8⟩)
      | some y =>
        by_cases hr : 0 ≤ r.toInt ∧ r.toInt ≤ 2
        · by_cases hsz : cntU (vsU (v3U (ent z.1 z.2) (ent x.1 x.2) (ent y.1 y.2) r)) 1000 0 ≤ 60
          · by_cases hq : hcnt (pH P) < 16 ∧ (pM P).length < 999
            · refine aw_enter (by decide +kernel) (Nat.le_of_ble_eq_true rfl) (fun g K EE => ?_)
              first | refine a_aload_n K dX10_three_0 rfl ?_ | refine a_aload_nN K dX10_three_0 rfl ?_
              refine a_iload_n K dX10_three_1 rfl ?_
              refine a_iload_n K dX10_three_2 rfl ?_
              refine a_iload_n K dX10_three_3 rfl ?_
              refine a_invV K (c_fillThree_y h hP hx hz hy) my_X10_fillThree ml_X10_278 im_X10_fillThree se_X10_fillThree (ci := 10) (lw_i4 hL) (by decide) ⟨_, _, rfl⟩ rfl (by omega) (by omega) (by omega) rfl (Nat.le_of_ble_eq_true rfl) dX10_three_4 ?_
              intro r9 S3 hp9
              obtain ⟨rfl, hR, h3, k3⟩ := hp9
              have hL := h3.L
              refine a_if_ne K dX10_three_7 (tgt := 16) (by decide) (fun c_7 => ?_) (fun c_7 => absurd c_7 (by decide))
              refine a_iload K dX10_three_16 rfl ?_
              refine a_if_lt K dX10_three_18 (tgt := 27) (by decide) (fun c_18 => absurd c_18 (rng03_lo hr.1)) (fun c_18 => ?_)
              refine a_iload K dX10_three_21 rfl ?_
              refine a_iconst K dX10_three_23 (v := 2) (by decide) ?_
              refine a_icmp_le K dX10_three_24 (tgt := 33) (by decide) (fun c_24 => ?_) (fun c_24 => absurd c_24 (fun z => z (rng02_hi hr.2)))
              first | refine a_aload_n K dX10_three_33 rfl ?_ | refine a_aload_nN K dX10_three_33 rfl ?_
              refine a_iload K dX10_three_34 rfl ?_
              refine a_invV K (m_sizeOfThree hL hR (r := r)) my_X10_sizeOfThree ml_X10_282 im_X10_sizeOfThree se_X10_sizeOfThree (ci := 10) (lw_i4 hL) (by decide) ⟨_, _, rfl⟩ rfl (by omega) (by omega) (by omega) rfl (Nat.le_of_ble_eq_true rfl) dX10_three_36 ?_
              intro r9 S9 hp9
              obtain ⟨rfl, hS9⟩ := hp9
              obtain rfl := hS9.symm
              refine a_bipush K dX10_three_39 (v := 60) (by decide) ?_
              refine a_icmp_le K dX10_three_41 (tgt := 50) (by decide) (fun c_41 => ?_) (fun c_41 => absurd c_41 (fun y => y (nI_le (b := 60) hsz (by omega))))
              first | refine a_aload_n K dX10_three_50 rfl ?_ | refine a_aload_nN K dX10_three_50 rfl ?_
              refine a_getRs K fd_X10_46 (lw_i4 hL) (Or.inl ⟨_, rfl⟩) (lw_f646 hL) dX10_three_51 ?_
              refine a_invV K (m_X3_hasRoom (lw_i6 hL) h3.2.2.1.2.2.1 h3.2.2.1.1 (show hcnt (pH P) < 1000000 by have h1 := List.countP_le_length (p := pH P) (l := List.range 999); rw [List.length_range] at h1; unfold hcnt; omega) (show (pM P).length < 1000000 by have h1 := h3.2.2.1.2.1; omega)) my_X3_hasRoom ml_X10_124 im_X3_hasRoom se_X3_hasRoom (ci := 3) (lw_i6 hL) (by decide) ⟨_, _, rfl⟩ rfl (by omega) (by omega) (by omega) rfl (Nat.le_of_ble_eq_true rfl) dX10_three_54 ?_
              intro r9 S9 hp9
              obtain ⟨hS9, hb9⟩ := hp9
              obtain rfl := hS9.symm
              obtain rfl : r9 = some (.int 1) := hb9.elim (fun y => y.2) (fun y => absurd hq y.1)
              refine a_if_ne K dX10_three_57 (tgt := 66) (by decide) (fun c_57 => ?_) (fun c_57 => absurd c_57 (by decide))
              first | refine a_aload_n K dX10_three_66 rfl ?_ | refine a_aload_nN K dX10_three_66 rfl ?_
              refine a_getRs K fd_X10_46 (lw_i4 hL) (Or.inl ⟨_, rfl⟩) (lw_f646 hL) dX10_three_67 ?_
              first | refine a_aload_n K dX10_three_70 rfl ?_ | refine a_aload_nN K dX10_three_70 rfl ?_
              first | refine a_aload_n K dX10_three_71 rfl ?_ | refine a_aload_nN K dX10_three_71 rfl ?_
              refine a_getRs K fd_X10_46 (lw_i4 hL) (Or.inl ⟨_, rfl⟩) (lw_f646 hL) dX10_three_72 ?_
              refine a_iload_n K dX10_three_75 rfl ?_
              refine a_invV K (m_root h3 m) my_X3_heldRoot ml_X10_165 im_X3_heldRoot se_X3_heldRoot (ci := 3) (lw_i6 hL) (by decide) ⟨_, _, rfl⟩ rfl (by omega) (by omega) (by omega) rfl (Nat.le_of_ble_eq_true rfl) dX10_three_76 ?_
              intro r9 S9 hp9
              obtain ⟨rfl, hS9⟩ := hp9
              obtain rfl := hS9.symm
              rw [hz]
              refine a_iload K dX10_three_79 rfl ?_
              refine a_invV K (c_rootOfThree h3 hP hz (r := r) rfl hR) my_X10_rootOfThree ml_X10_285 im_X10_rootOfThree se_X10_rootOfThree (ci := 10) (lw_i4 hL) (by decide) ⟨_, _, rfl⟩ rfl (by omega) (by omega) (by omega) rfl (Nat.le_of_ble_eq_true rfl) dX10_three_81 ?_
              intro r9 S9 hp9
              obtain ⟨ad2, ar2, rfl, h5, t5, k5⟩ := hp9
              have hL := h5.L
              refine a_iload_n K dX10_three_84 rfl ?_
              refine a_iload_n K dX10_three_85 rfl ?_
              refine a_invV K (c_keep h5 t5 hq.2) my_X3_keep ml_X10_149 im_X3_keep se_X3_keep (ci := 3) (lw_i6 hL) (by decide) ⟨_, _, rfl⟩ rfl (by omega) (by omega) (by omega) rfl (Nat.le_of_ble_eq_true rfl) dX10_three_86 ?_
              intro r9 S9 hp9
              obtain ⟨rfl, h8, k8⟩ := hp9
              exact a_iret K EE rfl (by omega) (by omega) dX10_three_89 (by unfold thrF; rw [hx, hz, hy]; show mutQ X v PA mb S (ite _ _ _) _ _; rw [if_pos hr]; show mutQ X v PA mb S (ite _ _ _) _ _; rw [if_pos hsz]; show mutQ X v PA mb S (ite _ _ _) _ _; rw [if_pos hq]; exact ⟨ad2, ar2, rfl, h8, (k3.tr k5).tr k8⟩)
            · refine aw_enter (by decide +kernel) (Nat.le_of_ble_eq_true rfl) (fun g K EE => ?_)
              first | refine a_aload_n K dX10_three_0 rfl ?_ | refine a_aload_nN K dX10_three_0 rfl ?_
              refine a_iload_n K dX10_three_1 rfl ?_
              refine a_iload_n K dX10_three_2 rfl ?_
              refine a_iload_n K dX10_three_3 rfl ?_
              refine a_invV K (c_fillThree_y h hP hx hz hy) my_X10_fillThree ml_X10_278 im_X10_fillThree se_X10_fillThree (ci := 10) (lw_i4 hL) (by decide) ⟨_, _, rfl⟩ rfl (by omega) (by omega) (by omega) rfl (Nat.le_of_ble_eq_true rfl) dX10_three_4 ?_
              intro r9 S3 hp9
              obtain ⟨rfl, hR, h3, k3⟩ := hp9
              have hL := h3.L
              refine a_if_ne K dX10_three_7 (tgt := 16) (by decide) (fun c_7 => ?_) (fun c_7 => absurd c_7 (by decide))
              refine a_iload K dX10_three_16 rfl ?_
              refine a_if_lt K dX10_three_18 (tgt := 27) (by decide) (fun c_18 => absurd c_18 (rng03_lo hr.1)) (fun c_18 => ?_)
              refine a_iload K dX10_three_21 rfl ?_
              refine a_iconst K dX10_three_23 (v := 2) (by decide) ?_
              refine a_icmp_le K dX10_three_24 (tgt := 33) (by decide) (fun c_24 => ?_) (fun c_24 => absurd c_24 (fun z => z (rng02_hi hr.2)))
              first | refine a_aload_n K dX10_three_33 rfl ?_ | refine a_aload_nN K dX10_three_33 rfl ?_
              refine a_iload K dX10_three_34 rfl ?_
              refine a_invV K (m_sizeOfThree hL hR (r := r)) my_X10_sizeOfThree ml_X10_282 im_X10_sizeOfThree se_X10_sizeOfThree (ci := 10) (lw_i4 hL) (by decide) ⟨_, _, rfl⟩ rfl (by omega) (by omega) (by omega) rfl (Nat.le_of_ble_eq_true rfl) dX10_three_36 ?_
              intro r9 S9 hp9
              obtain ⟨rfl, hS9⟩ := hp9
              obtain rfl := hS9.symm
              refine a_bipush K dX10_three_39 (v := 60) (by decide) ?_
              refine a_icmp_le K dX10_three_41 (tgt := 50) (by decide) (fun c_41 => ?_) (fun c_41 => absurd c_41 (fun y => y (nI_le (b := 60) hsz (by omega))))
              first | refine a_aload_n K dX10_three_50 rfl ?_ | refine a_aload_nN K dX10_three_50 rfl ?_
              refine a_getRs K fd_X10_46 (lw_i4 hL) (Or.inl ⟨_, rfl⟩) (lw_f646 hL) dX10_three_51 ?_
              refine a_invV K (m_X3_hasRoom (lw_i6 hL) h3.2.2.1.2.2.1 h3.2.2.1.1 (show hcnt (pH P) < 1000000 by have h1 := List.countP_le_length (p := pH P) (l := List.range 999); rw [List.length_range] at h1; unfold hcnt; omega) (show (pM P).length < 1000000 by have h1 := h3.2.2.1.2.1; omega)) my_X3_hasRoom ml_X10_124 im_X3_hasRoom se_X3_hasRoom (ci := 3) (lw_i6 hL) (by decide) ⟨_, _, rfl⟩ rfl (by omega) (by omega) (by omega) rfl (Nat.le_of_ble_eq_true rfl) dX10_three_54 ?_
              intro r9 S9 hp9
              obtain ⟨hS9, hb9⟩ := hp9
              obtain rfl := hS9.symm
              obtain rfl : r9 = some (.int 0) := hb9.elim (fun y => absurd y.1 hq) (fun y => y.2)
              refine a_if_ne K dX10_three_57 (tgt := 66) (by decide) (fun c_57 => absurd c_57 (by decide)) (fun c_57 => ?_)
              first | refine a_aload_n K dX10_three_60 rfl ?_ | refine a_aload_nN K dX10_three_60 rfl ?_
              refine a_iconst K dX10_three_61 (v := 4) (by decide) ?_
              refine a_invV K (c_refused h3 4 (by decide)) my_X10_refused ml_X10_128 im_X10_refused se_X10_refused (ci := 10) (lw_i4 hL) (by decide) ⟨_, _, rfl⟩ rfl (by omega) (by omega) (by omega) rfl (Nat.le_of_ble_eq_true rfl) dX10_three_62 ?_
              intro r9 S9 hp9
              obtain ⟨rfl, h8, k8⟩ := hp9
              exact a_iret K EE rfl (by omega) (by omega) dX10_three_65 (by unfold thrF; rw [hx, hz, hy]; show mutQ X v PA mb S (ite _ _ _) _ _; rw [if_pos hr]; show mutQ X v PA mb S (ite _ _ _) _ _; rw [if_pos hsz]; show mutQ X v PA mb S (ite _ _ _) _ _; rw [if_neg hq]; exact ⟨ad, ar, rfl, h8, k3.tr k8⟩)
          · refine aw_enter (by decide +kernel) (Nat.le_of_ble_eq_true rfl) (fun g K EE => ?_)
            first | refine a_aload_n K dX10_three_0 rfl ?_ | refine a_aload_nN K dX10_three_0 rfl ?_
            refine a_iload_n K dX10_three_1 rfl ?_
            refine a_iload_n K dX10_three_2 rfl ?_
            refine a_iload_n K dX10_three_3 rfl ?_
            refine a_invV K (c_fillThree_y h hP hx hz hy) my_X10_fillThree ml_X10_278 im_X10_fillThree se_X10_fillThree (ci := 10) (lw_i4 hL) (by decide) ⟨_, _, rfl⟩ rfl (by omega) (by omega) (by omega) rfl (Nat.le_of_ble_eq_true rfl) dX10_three_4 ?_
            intro r9 S3 hp9
            obtain ⟨rfl, hR, h3, k3⟩ := hp9
            have hL := h3.L
            refine a_if_ne K dX10_three_7 (tgt := 16) (by decide) (fun c_7 => ?_) (fun c_7 => absurd c_7 (by decide))
            refine a_iload K dX10_three_16 rfl ?_
            refine a_if_lt K dX10_three_18 (tgt := 27) (by decide) (fun c_18 => absurd c_18 (rng03_lo hr.1)) (fun c_18 => ?_)
            refine a_iload K dX10_three_21 rfl ?_
            refine a_iconst K dX10_three_23 (v := 2) (by decide) ?_
            refine a_icmp_le K dX10_three_24 (tgt := 33) (by decide) (fun c_24 => ?_) (fun c_24 => absurd c_24 (fun z => z (rng02_hi hr.2)))
            first | refine a_aload_n K dX10_three_33 rfl ?_ | refine a_aload_nN K dX10_three_33 rfl ?_
            refine a_iload K dX10_three_34 rfl ?_
            refine a_invV K (m_sizeOfThree hL hR (r := r)) my_X10_sizeOfThree ml_X10_282 im_X10_sizeOfThree se_X10_sizeOfThree (ci := 10) (lw_i4 hL) (by decide) ⟨_, _, rfl⟩ rfl (by omega) (by omega) (by omega) rfl (Nat.le_of_ble_eq_true rfl) dX10_three_36 ?_
            intro r9 S9 hp9
            obtain ⟨rfl, hS9⟩ := hp9
            obtain rfl := hS9.symm
            refine a_bipush K dX10_three_39 (v := 60) (by decide) ?_
            refine a_icmp_le K dX10_three_41 (tgt := 50) (by decide) (fun c_41 => absurd c_41 (fun y8 => hsz (by have h9 := nI_le9 y8; have h8 := cntU_le (vsU (v3U (ent z.1 z.2) (ent x.1 x.2) (ent y.1 y.2) r)) 1000 0; omega))) (fun c_41 => ?_)
            first | refine a_aload_n K dX10_three_44 rfl ?_ | refine a_aload_nN K dX10_three_44 rfl ?_
            refine a_iconst K dX10_three_45 (v := 3) (by decide) ?_
            refine a_invV K (c_refused h3 3 (by decide)) my_X10_refused ml_X10_128 im_X10_refused se_X10_refused (ci := 10) (lw_i4 hL) (by decide) ⟨_, _, rfl⟩ rfl (by omega) (by omega) (by omega) rfl (Nat.le_of_ble_eq_true rfl) dX10_three_46 ?_
            intro r9 S9 hp9
            obtain ⟨rfl, h8, k8⟩ := hp9
            exact a_iret K EE rfl (by omega) (by omega) dX10_three_49 (by unfold thrF; rw [hx, hz, hy]; show mutQ X v PA mb S (ite _ _ _) _ _; rw [if_pos hr]; show mutQ X v PA mb S (ite _ _ _) _ _; rw [if_neg hsz]; exact ⟨ad, ar, rfl, h8, k3.tr k8⟩)
        · refine aw_enter (by decide +kernel) (Nat.le_of_ble_eq_true rfl) (fun g K EE => ?_)
          first | refine a_aload_n K dX10_three_0 rfl ?_ | refine a_aload_nN K dX10_three_0 rfl ?_
          refine a_iload_n K dX10_three_1 rfl ?_
          refine a_iload_n K dX10_three_2 rfl ?_
          refine a_iload_n K dX10_three_3 rfl ?_
          refine a_invV K (c_fillThree_y h hP hx hz hy) my_X10_fillThree ml_X10_278 im_X10_fillThree se_X10_fillThree (ci := 10) (lw_i4 hL) (by decide) ⟨_, _, rfl⟩ rfl (by omega) (by omega) (by omega) rfl (Nat.le_of_ble_eq_true rfl) dX10_three_4 ?_
          intro r9 S3 hp9
          obtain ⟨rfl, hR, h3, k3⟩ := hp9
          have hL := h3.L
          refine a_if_ne K dX10_three_7 (tgt := 16) (by decide) (fun c_7 => ?_) (fun c_7 => absurd c_7 (by decide))
          refine a_iload K dX10_three_16 rfl ?_
          refine a_if_lt K dX10_three_18 (tgt := 27) (by decide) (fun c_18 => ?_) (fun c_18 => ?_)
          · first | refine a_aload_n K dX10_three_27 rfl ?_ | refine a_aload_nN K dX10_three_27 rfl ?_
            refine a_iconst K dX10_three_28 (v := 1) (by decide) ?_
            refine a_invV K (c_refused h3 1 (by decide)) my_X10_refused ml_X10_128 im_X10_refused se_X10_refused (ci := 10) (lw_i4 hL) (by decide) ⟨_, _, rfl⟩ rfl (by omega) (by omega) (by omega) rfl (Nat.le_of_ble_eq_true rfl) dX10_three_29 ?_
            intro r9 S9 hp9
            obtain ⟨rfl, h8, k8⟩ := hp9
            exact a_iret K EE rfl (by omega) (by omega) dX10_three_32 (by unfold thrF; rw [hx, hz, hy]; show mutQ X v PA mb S (ite _ _ _) _ _; rw [if_neg hr]; exact ⟨ad, ar, rfl, h8, k3.tr k8⟩)
          · refine a_iload K dX10_three_21 rfl ?_
            refine a_iconst K dX10_three_23 (v := 2) (by decide) ?_
            refine a_icmp_le K dX10_three_24 (tgt := 33) (by decide) (fun c_24 => ?_) (fun c_24 => ?_)
            · exact (rng02 hr c_18 c_24).elim
            · first | refine a_aload_n K dX10_three_27 rfl ?_ | refine a_aload_nN K dX10_three_27 rfl ?_
              refine a_iconst K dX10_three_28 (v := 1) (by decide) ?_
              refine a_invV K (c_refused h3 1 (by decide)) my_X10_refused ml_X10_128 im_X10_refused se_X10_refused (ci := 10) (lw_i4 hL) (by decide) ⟨_, _, rfl⟩ rfl (by omega) (by omega) (by omega) rfl (Nat.le_of_ble_eq_true rfl) dX10_three_29 ?_
              intro r9 S9 hp9
              obtain ⟨rfl, h8, k8⟩ := hp9
              exact a_iret K EE rfl (by omega) (by omega) dX10_three_32 (by unfold thrF; rw [hx, hz, hy]; show mutQ X v PA mb S (ite _ _ _) _ _; rw [if_neg hr]; exact ⟨ad, ar, rfl, h8, k3.tr k8⟩)
