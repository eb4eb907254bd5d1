/-! a builder's root changes -/
def setB (P : PS) (j : Nat) (b : Option BI) : PS := (P.1, pM P, pH P, pI P, pY P, fun i => if i = j then b else pB P i, pR P, pG P, pT P, pS P)
theorem RepW_w0 {S : aw_S} {ad ar : Nat → Nat} {a : Nat} {x : Option Nat} : ∀ (h : Nat) {t : Tr h}, RepW S ad ar h t → RepW (wR S 0 a x) ad ar h t
  | 0, _, r => r
  | h + 1, _, r => ⟨r.1, fun c hc => RepW_w0 h (r.2 c hc)⟩
theorem RC.wr0 {S : aw_S} {v ad ar : Nat → Nat} {PA : List (Nat × Nat)} {X : List Nat} {mb : Nat} {P : PS} (h : RC S v ad ar PA X mb P) {j : Nat} (hj : j < 4) {x : Option Nat} {b : Option BI} (hb : (b = none ∧ x = none) ∨ ∃ q : BI, b = some q ∧ x = some (ad q.1.2.1) ∧ TrW S ad ar (pU P) q.1 ∧ sI S 1 (v (14 + j)) = nI q.2.1 ∧ sI S 2 (v (14 + j)) = q.2.2) : RC (wR S 0 (v (14 + j)) x) v ad ar PA X mb (setB P j b) ∧ keepX X S (wR S 0 (v (14 + j)) x) := by
  obtain ⟨hL, hG, hM, hB, hR, hP, hT, hS, hN, hK, hV⟩ := h
  have e0 : ∀ a, sR (wR S 0 (v (14 + j)) x) 0 a = if a = v (14 + j) then x else sR S 0 a := fun a => by
    rw [sR_wR]
    by_cases e : a = v (14 + j)
    · rw [if_pos ⟨rfl, e⟩, if_pos e]
    · rw [if_neg (fun z => e z.2), if_neg e]
  refine ⟨⟨LW_w0 hL, hG, hM, fun i hi => ?_, hR, ?_, hT, hS, ⟨hN.1, fun y hy => ⟨RepW_w0 _ (hN.2.1 y hy).1, (hN.2.1 y hy).2⟩, fun i c hc => ?_⟩, hK, hV⟩, fun y hy => ?_⟩
  · rw [e0]
    show ((if i = j then b else pB P i) = none → _) ∧ ∀ c, (if i = j then b else pB P i) = some c → _
    by_cases e : i = j
    · subst e
      rw [if_pos rfl, if_pos rfl]
      rcases hb with ⟨h1, h2⟩ | ⟨q, h1, h2, h3, h4, h5⟩
      · rw [h1, h2]
        exact ⟨fun _ => rfl, fun c hc => absurd hc (by simp)⟩
      · rw [h1, h2]
        refine ⟨fun z => absurd z (by simp), fun c hc => ?_⟩
        cases hc
        exact ⟨rfl, h4, h5⟩
    · rw [if_neg e, if_neg (fun z => by have := lw_inj hL _ _ (by omega) (by omega) z; omega)]
      exact hB i hi
  · exact hP
  · have hc : (if i = j then b else pB P i) = some c := hc
    by_cases e : i = j
    · rw [if_pos e] at hc
      rcases hb with ⟨h1, h2⟩ | ⟨q, h1, h2, h3, h4, h5⟩
      · rw [h1] at hc
        exact absurd hc (by simp)
      · rw [h1] at hc
        cases hc
        exact ⟨RepW_w0 _ h3.1, h3.2⟩
    · rw [if_neg e] at hc
      exact ⟨RepW_w0 _ (hN.2.2 i c hc).1, (hN.2.2 i c hc).2⟩
  · have hin := (hV.2.2.1 y hy).1
    obtain ⟨q1, q2⟩ := keeps_wR (S := S) (F := 0) (a := v (14 + j)) (v := x) y hin
    exact ⟨q1, q2 ((hV.2.2.1 y hy).2.1 (14 + j) (by omega))⟩
theorem GR_w0 {S S2 : aw_S} {ad ar ad2 ar2 : Nat → Nat} {u u2 g tk : Nat} {L : List (Nat × Nat)} (G : GR S S2 ad ar ad2 ar2 u u2 g tk L) (a : Nat) (x : Option Nat) : GR (wR S 0 a x) (wR S2 0 a x) ad ar ad2 ar2 u u2 g tk L := by
  obtain ⟨h1, h2, h3, h4, h5, h6⟩ := G
  refine ⟨h1, h2, h3, h4, h5, fun b hb => ?_⟩
  obtain ⟨⟨a1, a2, a3, a4, a5⟩, a6⟩ := h6 b hb
  refine ⟨⟨a1, a2, a3, fun F => ?_, a5⟩, a6⟩
  rw [sR_wR, sR_wR, a4]
theorem w0_w0 (S : aw_S) (a : Nat) (x y : Option Nat) : wR (wR S 0 a x) 0 a y = wR S 0 a y := by
  unfold wR
  refine congrArg (fun r => (sL S, sK S, sI S, r, sJ S, sN S, sA S, sQ S, sB S)) ?_
  funext F b
  show va_up (va_up (sR S) 0 (va_up (sR S 0) a x)) 0 (va_up (va_up (sR S) 0 (va_up (sR S 0) a x) 0) a y) F b = va_up (sR S) 0 (va_up (sR S 0) a y) F b
  by_cases hF : F = 0
  · subst hF
    rw [va_up_self, va_up_self, va_up_self]
    by_cases hb : b = a
    · rw [hb, va_up_self, va_up_self]
    · rw [va_up_ne _ _ hb, va_up_ne _ _ hb, va_up_ne _ _ hb]
  · rw [va_up_ne _ _ hF, va_up_ne _ _ hF, va_up_ne _ _ hF]
theorem RepW_tok {S : aw_S} {ad ar : Nat → Nat} : ∀ (h : Nat) {t : Tr h}, RepW S ad ar h t → ∀ q ∈ ndl h t, sI S 256 (ad q.1) = nI q.2 ∧ q.2 < 2147483648
  | 0, t, r, q, hq => by rw [List.mem_singleton.mp hq]; exact r.1
  | h + 1, t, r, q, hq => by
    rcases List.mem_cons.mp hq with rfl | hq
    · exact r.1.1
    · obtain ⟨c, hc, hq⟩ := List.mem_flatMap.mp hq
      exact RepW_tok h (r.2 c hc) q hq
theorem tok_det {S : aw_S} {ad ar : Nat → Nat} {z y : Tz} (r : RepW S ad ar z.1 z.2) (s : RepW S ad ar y.1 y.2) {q p : Nat × Nat} (hq : q ∈ ndl z.1 z.2) (hp : p ∈ ndl y.1 y.2) (e : q.1 = p.1) : q.2 = p.2 := by
  obtain ⟨a, b⟩ := RepW_tok _ r q hq
  obtain ⟨c, d⟩ := RepW_tok _ s p hp
  rw [e, c] at a
  exact (nI_inj d b a).symm
theorem RC.bput {S S2 : aw_S} {v ad ar ad2 ar2 : Nat → Nat} {PA : List (Nat × Nat)} {X : List Nat} {mb u2 j t : Nat} {f : Int32} {z z2 : Tz} {P : PS} (h : RC S v ad ar PA X mb P) (hP : PI P) (hj : j < 4) (hb : pB P j = some (z, t, f)) (G : GR S S2 ad ar ad2 ar2 (pU P) u2 (v 5) t (ndl z.1 z.2)) (tz : TrW S2 ad2 ar2 u2 z2) : RC (wR S2 0 (v (14 + j)) (some (ad2 z2.2.1))) v ad2 ar2 PA X mb (setB (setU P u2) j (some (z2, t, f))) ∧ keepX X S (wR S2 0 (v (14 + j)) (some (ad2 z2.2.1))) := by
  have hN := h.2.2.2.2.2.2.2.2.1
  obtain ⟨h1, k1⟩ := h.wr0 hj (x := none) (b := none) (Or.inl ⟨rfl, rfl⟩)
  have G1 := GR_w0 G (v (14 + j)) none
  obtain ⟨-, ht, htk, hmt, hbt⟩ := hP.2.2.1 j _ hb
  have zr := hN.2.2 j _ hb
  obtain ⟨h2, k2⟩ := RC.grow h1 G1 (fun y hy => zr.2 y hy) (fun x hx y hy q hq hk e => hmt x hx y hy (by rw [← tok_det zr.1 (hN.2.1 x hx).1 hq hy e]; exact hk)) (fun i c hc y hy q hq hk e => by
    have hc : (if i = j then none else pB P i) = some c := hc
    by_cases e2 : i = j
    · rw [if_pos e2] at hc
      exact absurd hc (by simp)
    · rw [if_neg e2] at hc
      exact (hbt i c hc e2).2 y hy (by rw [← tok_det zr.1 (hN.2.2 i c hc).1 hq hy e]; exact hk))
  have hL := h.L
  have nv : ¬ GP ad ar (v 5) t (ndl z.1 z.2) (v (14 + j)) := fun w => by
    rcases w with w | ⟨y, hy, -, w | w⟩
    · have := lw_inj hL (14 + j) 5 (by omega) (by decide) w
      omega
    · exact (h.nod (zr.2 y hy) (show 14 + j < 37 by omega)).1 w.symm
    · exact (h.nod (zr.2 y hy) (show 14 + j < 37 by omega)).2 w.symm
  obtain ⟨-, e2⟩ := G.2.2.2.2.2 _ (lw_in hL (14 + j) (by omega))
  obtain ⟨q1, q2, q3⟩ := (h.2.2.2.1 j hj).2 _ hb
  obtain ⟨h3, k3⟩ := h2.wr0 hj (x := some (ad2 z2.2.1)) (b := some (z2, t, f)) (Or.inr ⟨(z2, t, f), rfl, rfl, ⟨RepW_w0 _ tz.1, tz.2⟩, ((e2 nv).1 1).trans q2, ((e2 nv).1 2).trans q3⟩)
  rw [w0_w0] at h3 k3
  refine ⟨?_, (k1.tr k2).tr k3⟩
  have e : setB (setU (setB P j none) u2) j (some (z2, t, f)) = setB (setU P u2) j (some (z2, t, f)) := by
    unfold setB setU
    refine congrArg (fun w => (_, _, _, _, _, w, _, _, _, _)) (funext fun i => ?_)
    show (if i = j then some (z2, t, f) else if i = j then none else pB P i) = if i = j then some (z2, t, f) else pB P i
    by_cases e : i = j
    · rw [if_pos e, if_pos e]
    · rw [if_neg e, if_neg e, if_neg e]
  rw [← e]
  exact h3
theorem PI.bset {P : PS} (hP : PI P) {u2 j t : Nat} {f : Int32} {z z2 : Tz} (hb : pB P j = some (z, t, f)) (hz : tok (pW P) u2 (pTk P) z2) (hu : pU P ≤ u2) (hn : ∀ y ∈ ndl z2.1 z2.2, y ∈ ndl z.1 z.2 ∨ y.2 = t) : PI (setB (setU P u2) j (some (z2, t, f))) := by
  obtain ⟨h1, h2, h3, h4⟩ := hP
  obtain ⟨a1, a2, a3, a4, a5⟩ := h3 j _ hb
  refine ⟨h1, fun x hx => (h2 x hx).mono hu (Nat.le_refl _), fun i c hc => ?_, h4⟩
  have hc : (if i = j then some (z2, t, f) else pB P i) = some c := hc
  by_cases e : i = j
  · rw [if_pos e] at hc
    cases hc
    subst e
    refine ⟨a1, hz, a3, a4, fun k d hd hk => ?_⟩
    have hd : (if k = i then some (z2, t, f) else pB P k) = some d := hd
    rw [if_neg hk] at hd
    exact a5 k d hd hk
  · rw [if_neg e] at hc
    obtain ⟨b1, b2, b3, b4, b5⟩ := h3 i c hc
    refine ⟨b1, b2.mono hu (Nat.le_refl _), b3, b4, fun k d hd hk => ?_⟩
    have hd : (if k = j then some (z2, t, f) else pB P k) = some d := hd
    by_cases e2 : k = j
    · rw [if_pos e2] at hd
      cases hd
      subst e2
      obtain ⟨c1, c2⟩ := b5 k _ hb hk
      exact ⟨c1, fun y hy => (hn y hy).elim (c2 y) (fun z => by rw [z]; exact c1)⟩
    · rw [if_neg e2] at hd
      exact b5 k d hd hk
theorem tok_take {w u tk t : Nat} {k : Int32} {z : Tz} (hw : 3 ≤ w) (h : tok w u tk z) (ht : t < tk) : tok w (takT w t u k z).2 tk (takT w t u k z).1 ∧ u ≤ (takT w t u k z).2 ∧ ∀ y ∈ ndl (takT w t u k z).1.1 (takT w t u k z).1.2, y ∈ ndl z.1 z.2 ∨ y.2 = t := by
  obtain ⟨r, o, l, b, n⟩ := h
  have e := takT_ent (tk := t) (u := u) (key := k) hw r
  obtain ⟨g, -⟩ := takT_gru (w := w) (tk := t) (key := k) b
  refine ⟨⟨rok_takT hw r, fun x hx => o x (mem_remE (by rw [e] at hx; exact hx)), by rw [e]; exact Nat.le_trans (remE_len2 _ _).1 l, g.bd b, fun y hy => (g.2.1 y hy).elim (n y) (fun z => by rw [z.2.2]; exact ht)⟩, g.1, fun y hy => (g.2.1 y hy).imp id (fun z => z.2.2)⟩
theorem tok_put {w u tk t : Nat} {k v : Int32} {z : Tz} (hw : 3 ≤ w) (h : tok w u tk z) (ht : t < tk) (hk : okE (k, v)) (hl : ¬ valIn (ent z.1 z.2) k = -1000000 ∨ (ent z.1 z.2).length < 60) : tok w (putT w t u k v z).2 tk (putT w t u k v z).1 ∧ u ≤ (putT w t u k v z).2 ∧ ∀ y ∈ ndl (putT w t u k v z).1.1 (putT w t u k v z).1.2, y ∈ ndl z.1 z.2 ∨ y.2 = t := by
  obtain ⟨r, o, l, b, n⟩ := h
  have hv : ¬ v = -1000000 := by
    obtain ⟨-, m, hm, hv⟩ := hk
    rcases hv with hv | ⟨h0, hv⟩
    · have hv : v = nI m := hv
      rw [hv]
      exact fun z => by
        have h1 := nI_toInt (show m < 2 ^ 31 by omega)
        rw [z] at h1
        have h2 : (-1000000 : Int32).toInt = -1000000 := by decide
        omega
    · have hv : v = -(nI m) := hv
      rw [hv]
      exact fun z => by
        have h1 : nI m = 1000000 := by
          have h3 := congrArg (fun q : Int32 => -q) z
          rw [Int32.neg_neg] at h3
          exact h3
        have h2 := nI_toInt (show m < 2 ^ 31 by omega)
        rw [h1] at h2
        have h4 : (1000000 : Int32).toInt = 1000000 := by decide
        omega
  have e := putT_ent (tk := t) (u := u) (key := k) hw r hv
  have g := putT_grw (w := w) (tk := t) (key := k) (v := v) b
  refine ⟨⟨rok_putT hw r hv, fun x hx => ?_, ?_, g.bd b, fun y hy => (g.2.1 y hy).elim (n y) (fun z => by rw [z.2.2]; exact ht)⟩, g.1, fun y hy => (g.2.1 y hy).imp id (fun z => z.2.2)⟩
  · rw [e] at hx
    exact (mem_setE hx).elim (fun z => by rw [z]; exact hk) (o x)
  · rw [e, setE_length v r.2.2.2.2]
    split
    · rename_i h0
      rcases hl with hl | hl
      · exact absurd h0 hl
      · omega
    · exact l
