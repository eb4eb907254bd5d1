/-! the model: a builder's tree changed -/
theorem RM.tk6 {S : aw_S} {m ρ : Nat → Nat} {Z : List Nat × Nat} {mb : Nat} {P : PS} (h : RM S m ρ Z mb P) {z : Tz} (hz : LvT P z) {x : Nat × Nat} (hx : x ∈ ndl z.1 z.2) : sA S (m 6) (ρ x.1) = nI (x.2 + 1) := by
  rw [← sub_ndl] at hx
  obtain ⟨w, hw, e⟩ := List.mem_map.mp hx
  have h1 := ((h.rep hz).tks w hw).2
  rw [← e]
  exact h1
theorem RM.tk_eq {S : aw_S} {m ρ : Nat → Nat} {Z : List Nat × Nat} {mb : Nat} {P : PS} (h : RM S m ρ Z mb P) (hP : PI P) {z y : Tz} (hz : LvT P z) (hy : LvT P y) {x w : Nat × Nat} (hx : x ∈ ndl z.1 z.2) (hw : w ∈ ndl y.1 y.2) (e : x.1 = w.1) : x.2 = w.2 := by
  have h1 := h.tk6 hz hx
  have h2 := h.tk6 hy hw
  rw [e, h2] at h1
  have b1 := (hP.tz hz).2.2.2.2 x hx
  have b2 := (hP.tz hy).2.2.2.2 w hw
  have b3 := hP.2.2.2
  have := nI_inj (by omega) (by omega) h1
  omega
theorem obN_set {P : PS} {j u : Nat} {b c : BI} (hb : pB P j = some b) : ∀ n, obN (setB (setU P u) j (some c)) n = obN P n
  | 0 => rfl
  | n + 1 => by
    rw [obN, obN, obN_set hb n]
    have e : (pB (setB (setU P u) j (some c)) n).isSome = (pB P n).isSome := by
      show (if n = j then some c else pB P n).isSome = _
      by_cases q : n = j
      · rw [if_pos q, q, hb]
        rfl
      · rw [if_neg q]
    rw [e]
theorem RM_bset {S S2 : aw_S} {m ρ ρ2 : Nat → Nat} {Z Z2 : List Nat × Nat} {mb u2 j : Nat} {P : PS} {b : BI} {z2 : Tz} (h : RM S m ρ Z mb P) (hP : PI P) (hb : pB P j = some b) (hj : j < 4) (ts : TS S S2 m ρ ρ2 (pU P) u2 Z Z2 b.2.1 (ndl b.1.1 b.1.2) z2) : RM (wA S2 (m 20) j (nI (ρ2 z2.2.1))) m ρ2 Z2 mb (setT P j (z2, u2) b.2.1 b.2.2) ∧ frS S (wA S2 (m 20) j (nI (ρ2 z2.2.1))) (mQ m) := by
  have hh := h
  obtain ⟨g, rp, hx⟩ := ts
  have f := g.2.2.2.2.2.2.2.2.2.1
  have er := g.2.1
  have f2 : frM S2 (wA S2 (m 20) j (nI (ρ2 z2.2.1))) m [20] [] := frM_wA (by decide)
  have hbl := bui_live hj hb
  obtain ⟨h1, h2, h3, h4, h5, h6, h7, h8⟩ := h
  have hM2 := f.lay h1
  obtain ⟨a1, a2, a3, a4, a5, a6, a7, a8, a9, a10⟩ := (h2.fr h1 f (by decide) (by decide) (by decide)).fr hM2 f2 (by decide) (by decide) (by decide)
  have p4 := (hP.2.2.1 j b hb).2.2.2
  have hT : ∀ z, LvT (setT P j (z2, u2) b.2.1 b.2.2) z → (LvT P z ∧ ∀ x ∈ ndl z.1 z.2, ∀ y ∈ ndl b.1.1 b.1.2, y.2 = b.2.1 → x.1 ≠ y.1) ∨ (RepM S2 m ρ2 z.1 z.2 ∧ ∀ x ∈ ndl z.1 z.2, PN (LvN P) (pU P) u2 x.1) := by
    intro z hz
    rcases hz with ⟨i, x, hx9, e, hq⟩ | ⟨k, c, hk, hc, e⟩
    · have hl : LvT P z := Or.inl ⟨i, x, hx9, e, hq⟩
      have hxm : x ∈ pM P := List.mem_of_getElem? hx9
      refine Or.inl ⟨hl, fun w hw y hy ey q => ?_⟩
      have e2 := hh.tk_eq hP hl hbl hw hy q
      rw [← e] at hw
      exact p4.1 x hxm w hw (e2.trans ey)
    · by_cases q : k = j
      · have hc : (if k = j then some (z2, b.2.1, b.2.2) else pB P k) = some c := hc
        rw [if_pos q] at hc
        have e3 := Option.some.inj hc
        have e4 : z = z2 := by rw [← e, ← e3]
        rw [e4]
        exact Or.inr ⟨rp, fun w hw => (hx w hw).imp (live_in hbl w) (fun y => ⟨y.1, y.2.1⟩)⟩
      · have hc : (if k = j then some (z2, b.2.1, b.2.2) else pB P k) = some c := hc
        rw [if_neg q] at hc
        have hl : LvT P z := Or.inr ⟨k, c, hk, hc, e⟩
        refine Or.inl ⟨hl, fun w hw y hy ey q2 => ?_⟩
        have e2 := hh.tk_eq hP hl hbl hw hy q2
        rw [← e] at hw
        exact (p4.2 k c hc q).2 w hw (e2.trans ey)
  have n20 : ∀ k i, k < 33 → k ≠ 20 → sA (wA S2 (m 20) j (nI (ρ2 z2.2.1))) (m k) i = sA S2 (m k) i := fun k i hk hn => by
    rw [sA_wA, if_neg (fun z => lm_ne h1 (by omega) (by decide) hn z.1)]
  have b4 := (h4.fr h1 f (by decide) (by decide) (by decide) (by decide)).ro hP.ids er
  refine ⟨⟨f2.lay hM2, ⟨a1, a2, a3, a4, a5, a6, ?_, a8, a9, a10⟩, ((h3.fr h1 f (by decide) (by decide) (by decide) (by decide)).ro hP.ids er).fr (P := P) hM2 f2 (by decide) (by decide) (by decide) (by decide), fun k c hk hc => ?_, (h5.fr h1 f (by decide) (by decide) (by decide) (by decide) (by decide)).fr (P := P) hM2 f2 (by decide) (by decide) (by decide) (by decide) (by decide), (h6.fr h1 f (by decide) (by decide) (by decide)).fr (P := P) hM2 f2 (by decide) (by decide) (by decide), (h7.gm (P2 := setT P j (z2, u2) b.2.1 b.2.2) g (fun y hy _ => live_in hbl y hy) hT rfl rfl).fr hM2 f2 (by decide) (by decide) (by decide) (by decide) (by decide) (by decide) (by decide) (by decide) (by decide) (by decide), (h8.fr h1 f (by decide) (by decide) (by decide)).fr hM2 f2 (by decide) (by decide) (by decide)⟩, mQ_tr (f.mq (by decide)) (f2.mq (by decide))⟩
  · exact a7.trans (obN_set (u := u2) (c := (z2, b.2.1, b.2.2)) hb 4).symm
  · have hc : (if k = j then some (z2, b.2.1, b.2.2) else pB P k) = some c := hc
    by_cases q : k = j
    · rw [if_pos q] at hc
      have e3 := Option.some.inj hc
      have b5 := b4 j b hj hb
      rw [← e3, q]
      refine ⟨?_, ?_, ?_⟩
      · rw [sA_wA, if_pos ⟨rfl, rfl⟩]
      · rw [n20 21 j (by decide) (by decide)]
        exact b5.2.1
      · rw [n20 22 j (by decide) (by decide)]
        exact b5.2.2
    · rw [if_neg q] at hc
      have b5 := b4 k c hk hc
      refine ⟨?_, ?_, ?_⟩
      · rw [sA_wA, if_neg (fun z => q z.2)]
        exact b5.1
      · rw [n20 21 k (by decide) (by decide)]
        exact b5.2.1
      · rw [n20 22 k (by decide) (by decide)]
        exact b5.2.2
