/-! what holds of the state all along -/
theorem PI.cg {P Q : PS} (h : PI P) (eW : pW Q = pW P) (eU : pU Q = pU P) (eT : pTk Q = pTk P) (eM : pM Q = pM P) (eB : pB Q = pB P) : PI Q := by
  unfold PI
  rw [eW, eU, eT, eM, eB]
  exact h
def okK (x : Int32) : Prop := ∃ n, n < 1000 ∧ x = nI n
/-- a step of a program -/
def okS9 (s : ST) : Prop := (s 0 = 0 ∧ okK (s 1) ∧ okV (s 2) ∧ s 3 = -1000000) ∨ (s 0 = 1 ∧ okK (s 1) ∧ s 2 = -1000000 ∧ s 3 = -1000000) ∨ (s 0 = 2 ∧ okK (s 1) ∧ okV (s 2) ∧ s 3 = -1000000) ∨ (s 0 = 3 ∧ okK (s 1) ∧ okK (s 2) ∧ s 3 = -1000000) ∨ (s 0 = 4 ∧ okK (s 1) ∧ okK (s 2) ∧ okV (s 3)) ∨ (s 0 = 5 ∧ s 1 = -1000000 ∧ s 2 = -1000000 ∧ s 3 = -1000000)
def PF (P : PS) : Prop := ∀ j b, pB P j = some b → ∃ f, f < (pM P).length ∧ b.2.2 = nI f
def PG (P : PS) : Prop := (pG P).length ≤ 4 ∧ ∀ p ∈ pG P, p.length ≤ 16 ∧ ∀ s ∈ p, okS9 s
def PT (P : PS) : Prop := (pT P).length ≤ 240 ∧ ∀ x ∈ pT P, ∃ n, 0 < n ∧ n < 256 ∧ x = nI n
def PH (P : PS) : Prop := (∀ i, (pM P).length ≤ i → pH P i = false ∧ pI P i = false) ∧ hcnt (pH P) ≤ 16 ∧ hcnt (pI P) ≤ 16 ∧ (pM P).length ≤ 999
def PJ (n : Nat) (P : PS) : Prop := PI P ∧ PL P ∧ PF P ∧ PG P ∧ PT P ∧ PH P ∧ pTk P ≤ n
theorem PJ.up {n m : Nat} {P : PS} (h : PJ n P) (hn : n ≤ m) : PJ m P := ⟨h.1, h.2.1, h.2.2.1, h.2.2.2.1, h.2.2.2.2.1, h.2.2.2.2.2.1, Nat.le_trans h.2.2.2.2.2.2 hn⟩
theorem PJ.ref {n : Nat} {P : PS} (h : PJ n P) (k : Nat) : PJ (n + 20) (refP P k) := by
  obtain ⟨a, b, c, d, e, f, g⟩ := h
  exact ⟨a.cg rfl rfl rfl rfl rfl, b, c, d, e, f, Nat.le_trans g (Nat.le_add_right _ _)⟩
theorem PJ.shw {n : Nat} {P : PS} (h : PJ n P) (B : List Nat) : PJ (n + 20) (setS P B) := by
  obtain ⟨a, b, c, d, e, f, g⟩ := h
  exact ⟨a.cg rfl rfl rfl rfl rfl, b, c, d, e, f, Nat.le_trans g (Nat.le_add_right _ _)⟩
/-- a map is added whose nodes are old or new -/
theorem PI_add {P : PS} (hP : PI P) (ht : pTk P + 1 < 1000000000) {u2 : Nat} {z2 : Tz} {a b : Int32} (hz : tok (pW P) u2 (pTk P + 1) z2) (hu : pU P ≤ u2) (hn : ∀ y ∈ ndl z2.1 z2.2, (∃ x ∈ pM P, y ∈ ndl x.1.1 x.1.2) ∨ y.2 = pTk P) : PI (addM (setU (incT P) u2) z2 a b) := by
  obtain ⟨h1, h2, h3, h4⟩ := hP
  refine ⟨h1, fun x hx => ?_, fun j c hc => ?_, ht⟩
  · have hx : x ∈ pM P ++ [(z2, a, b)] := hx
    rcases List.mem_append.mp hx with hx | hx
    · exact (h2 x hx).mono hu (Nat.le_succ _)
    · rw [List.mem_singleton.mp hx]
      exact hz
  · obtain ⟨a1, a2, a3, a4, a5⟩ := h3 j c hc
    refine ⟨a1, a2.mono hu (Nat.le_succ _), Nat.lt_succ_of_lt a3, fun x hx y hy => ?_, a5⟩
    have hx : x ∈ pM P ++ [(z2, a, b)] := hx
    rcases List.mem_append.mp hx with hx | hx
    · exact a4 x hx y hy
    · rw [List.mem_singleton.mp hx] at hy
      rcases hn y hy with ⟨x2, hx2, hy2⟩ | e
      · exact a4 x2 hx2 y hy2
      · rw [e]
        exact Nat.ne_of_gt a3
theorem PL_add {P Q : PS} (h : PL P) {z : Tz} {a b : Int32} (e : pM Q = pM P ++ [(z, a, b)]) (ha : a = -1 ∨ ∃ j, j < (pM P).length ∧ a = nI j) (hb : b = -1 ∨ ∃ j, j < (pM P).length ∧ b = nI j) : PL Q := by
  intro i x hx
  rw [e] at hx
  by_cases hi : i < (pM P).length
  · rw [List.getElem?_append_left hi] at hx
    exact h i x hx
  · rw [List.getElem?_append_right (by omega)] at hx
    have h0 : i - (pM P).length = 0 := by
      have := (List.getElem?_eq_some_iff.mp hx).1
      rw [List.length_singleton] at this
      omega
    rw [h0] at hx
    have hx : some (z, a, b) = some x := hx
    cases hx
    rw [show i = (pM P).length by omega]
    exact ⟨ha, hb⟩
theorem PH_add {P Q : PS} (h : PH P) {x : MI} (eM : pM Q = pM P ++ [x]) (eH : pH Q = fun i => i == (pM P).length || pH P i) (eI : pI Q = pI P) (hr : hcnt (pH P) < 16 ∧ (pM P).length < 999) : PH Q := by
  obtain ⟨h1, h2, h3, h4⟩ := h
  refine ⟨fun i hi => ?_, ?_, by rw [eI]; exact h3, by rw [eM, List.length_append, List.length_singleton]; omega⟩
  · rw [eM, List.length_append, List.length_singleton] at hi
    obtain ⟨a, b⟩ := h1 i (by omega)
    rw [eH, eI]
    refine ⟨?_, b⟩
    show (i == (pM P).length || pH P i) = false
    rw [a, show (i == (pM P).length) = false from by simp; omega]
    rfl
  · rw [eH]
    unfold hcnt
    rw [hcnt_add (h1 _ (Nat.le_refl _)).1 999 hr.2]
    have : (List.range 999).countP (pH P) < 16 := hr.1
    omega
theorem PJ.addm {n : Nat} {P : PS} (h : PJ n P) (hn : n + 20 < 1000000000) {u2 : Nat} {z2 : Tz} {a b : Int32} (hz : tok (pW P) u2 (pTk P + 1) z2) (hu : pU P ≤ u2) (hy : ∀ y ∈ ndl z2.1 z2.2, (∃ x ∈ pM P, y ∈ ndl x.1.1 x.1.2) ∨ y.2 = pTk P) (ha : a = -1 ∨ ∃ j, j < (pM P).length ∧ a = nI j) (hb : b = -1 ∨ ∃ j, j < (pM P).length ∧ b = nI j) (hr : hcnt (pH P) < 16 ∧ (pM P).length < 999) : PJ (n + 20) (addM (setU (incT P) u2) z2 a b) := by
  obtain ⟨p1, p2, p3, p4, p5, p6, p7⟩ := h
  refine ⟨PI_add p1 (by omega) hz hu hy, PL_add p2 (z := z2) (a := a) (b := b) rfl ha hb, fun j c hc => ?_, p4, p5, PH_add p6 (x := (z2, a, b)) rfl rfl rfl hr, ?_⟩
  · obtain ⟨f, hf, e⟩ := p3 j c hc
    refine ⟨f, ?_, e⟩
    show f < (pM P ++ [(z2, a, b)]).length
    rw [List.length_append]
    omega
  · show pTk P + 1 ≤ n + 20
    omega
theorem rootP_j {P : PS} {m : Int32} {z : Tz} (hz : rootP P m = some z) : (∃ j, j < (pM P).length ∧ m = nI j) ∧ ∃ x ∈ pM P, x.1 = z := by
  obtain ⟨j, x, e, hj, hx, ez, -⟩ := rootP_mem hz
  exact ⟨⟨j, hj, e⟩, x, List.mem_of_getElem? hx, ez⟩
theorem PJ.tk {n : Nat} {P : PS} (h : PJ n P) {m : Int32} {z : Tz} (hz : rootP P m = some z) : tok (pW P) (pU P) (pTk P + 1) z := by
  obtain ⟨-, x, hx, rfl⟩ := rootP_j hz
  exact (h.1.2.1 x hx).mono (Nat.le_refl _) (Nat.le_succ _)
theorem old_new {P : PS} {m : Int32} {z : Tz} (hz : rootP P m = some z) {L : List (Nat × Nat)} {t : Nat} (h : ∀ y ∈ L, y ∈ ndl z.1 z.2 ∨ y.2 = t) : ∀ y ∈ L, (∃ x ∈ pM P, y ∈ ndl x.1.1 x.1.2) ∨ y.2 = t := fun y hy => by
  obtain ⟨-, x, hx, rfl⟩ := rootP_j hz
  exact (h y hy).imp (fun q => ⟨x, hx, q⟩) id
theorem PJ_hav {n : Nat} {P : PS} (h : PJ n P) (hn : n + 20 < 1000000000) (m k v : Int32) : PJ (n + 20) (hav P m k v).2 := by
  have hw := h.1.1.1
  unfold hav
  split
  · exact h.ref 0
  · rename_i z hz
    split
    · rename_i c1
      split
      · rename_i c2
        split
        · rename_i c3
          obtain ⟨a, b, c⟩ := tok_put hw (h.tk hz) (Nat.lt_succ_self _) (okE_of c1.1 (okV_of c1.2)) c2
          exact h.addm hn a b (old_new hz c) (Or.inr (rootP_j hz).1) (Or.inl rfl) c3
        · exact h.ref 4
      · exact h.ref 3
    · exact h.ref 1
theorem PJ_lac {n : Nat} {P : PS} (h : PJ n P) (hn : n + 20 < 1000000000) (m k : Int32) : PJ (n + 20) (lac P m k).2 := by
  have hw := h.1.1.1
  unfold lac
  split
  · exact h.ref 0
  · rename_i z hz
    split
    · rename_i c1
      split
      · rename_i c3
        obtain ⟨a, b, c⟩ := tok_take (k := k) hw (h.tk hz) (Nat.lt_succ_self _)
        exact h.addm hn a b (old_new hz c) (Or.inr (rootP_j hz).1) (Or.inl rfl) c3
      · exact h.ref 4
    · exact h.ref 1
theorem PJ_slc {n : Nat} {P : PS} (h : PJ n P) (hn : n + 20 < 1000000000) (m a b : Int32) : PJ (n + 20) (slcF P m a b).2 := by
  have hw := h.1.1.1
  unfold slcF
  split
  · exact h.ref 0
  · rename_i z hz
    split
    · split
      · rename_i c3
        have s := sliE_stp (a := a) (b := b) hw (Nat.lt_succ_self (pTk P)) (ent z.1 z.2) (z, pU P) (h.tk hz)
        exact h.addm hn s.1 s.2.1 (old_new hz s.2.2.2) (Or.inr (rootP_j hz).1) (Or.inl rfl) c3
      · exact h.ref 4
    · exact h.ref 1
/-- how many keys a merge has -/
theorem mrgL_len {w tk t : Nat} {E : List KV} {r : Int32} (hw : 3 ≤ w) (ht : t < tk) (hE : ∀ x ∈ E, okE x) : ∀ (l : List KV) (n : Nat) (s : Tz × Nat), tkn n w s.2 tk s.1 → srt l → (∀ x ∈ l, okE x ∧ valIn (ent s.1.1 s.1.2) x.1 = valIn E x.1) → n + l.length ≤ 126 → (ent (mrgL w t E r l s).1.1 (mrgL w t E r l s).1.2).length = swE E l (ent s.1.1 s.1.2).length
  | [], n, s, _, _, _, _ => rfl
  | x :: l, n, s, h, hs, hl, hn => by
    rw [mrgL, swE]
    rw [List.length_cons] at hn
    have h0 := hl x List.mem_cons_self
    have hv : okV (rulV (valIn E x.1) x.2 r) := rulV_ok (valIn_ok hE _) h0.1.2
    have h1 := stn_put (k := x.1) (v := rulV (valIn E x.1) x.2 r) hw h (by omega) ht ⟨h0.1.1, hv⟩
    have he := putT_ent (tk := t) (u := s.2) (key := x.1) (v := rulV (valIn E x.1) x.2 r) hw h.1 (okV.ne hv)
    rw [mrgL_len hw ht hE l (n + 1) _ h1.1 (List.pairwise_cons.mp hs).2 (fun y hy => ⟨(hl y (List.mem_cons_of_mem _ hy)).1, by
      rw [he, valIn_setE _ _ _ h.1.2.2.2.1, if_neg (fun z => lt_ir x.1 (by have := (List.pairwise_cons.mp hs).1 y hy; rw [z] at this; exact this))]
      exact (hl y (List.mem_cons_of_mem _ hy)).2⟩) (by omega), he, setE_length _ h.1.2.2.2.2, h0.2]
theorem srt_ownE {z y : Tz} (h : srt (ent y.1 y.2)) : srt (ownE z y) := List.Pairwise.sublist (entU_sub _ y.1 y.2) h
theorem PJ_mrg {n : Nat} {P : PS} (h : PJ n P) (hn : n + 20 < 1000000000) (m o r : Int32) : PJ (n + 20) (mrgF P m o r).2 := by
  have hw := h.1.1.1
  unfold mrgF
  split
  · rename_i z y hz hy
    split
    · split
      · rename_i c2
        split
        · rename_i c3
          have tz := h.tk hz
          have ty := h.tk hy
          have hO6 : (ownE z y).length ≤ 60 := Nat.le_trans (entU_sub _ y.1 y.2).length_le ty.2.2.1
          have hOk : ∀ x ∈ ownE z y, okE x := fun x hx => ty.2.1 x ((entU_sub _ y.1 y.2).subset hx)
          have s := mrgL_stn (r := r) hw (Nat.lt_succ_self (pTk P)) tz.2.1 (ownE z y) 60 (z, pU P) (tz.n (Nat.le_refl _)) hOk (by omega)
          have e := mrgL_len (r := r) hw (Nat.lt_succ_self (pTk P)) tz.2.1 (ownE z y) 60 (z, pU P) (tz.n (Nat.le_refl _)) (srt_ownE ty.1.2.2.2.1) (fun x hx => ⟨hOk x hx, rfl⟩) (by omega)
          exact h.addm hn (s.1.tok (by rw [e]; exact c2)) s.2.1 (old_new hz s.2.2.2) (Or.inr (rootP_j hz).1) (Or.inr (rootP_j hy).1) c3
        · exact h.ref 4
      · exact h.ref 3
    · exact h.ref 1
  · exact h.ref 0
/-- the tree of three maps is as told -/
theorem th3_val {w tk t : Nat} {E B O : List KV} {r : Int32} (hw : 3 ≤ w) (ht : t < tk) (hE : ∀ x ∈ E, okE x) (hB : ∀ x ∈ B, okE x) (hO : ∀ x ∈ O, okE x) : ∀ (n N : Nat) (s : Tz × Nat), n ≤ 1000 → tkn N w s.2 tk s.1 → agr E (1000 - n) s.1 → N + cntU (hsU O) n 0 ≤ 126 → ∀ k, k < 1000 → valIn (ent (th3 w t (v3U E B O r) n s).1.1 (th3 w t (v3U E B O r) n s).1.2) (nI k) = if k < 1000 - n then valIn (ent s.1.1 s.1.2) (nI k) else v3U E B O r k
  | 0, N, s, _, _, _, _, k, hk => by
    rw [if_pos (by omega)]
    rfl
  | n + 1, N, s, hn, h, ha, hN, k, hk => by
    have hc : cntU (hsU O) (n + 1) 0 = cntU (hsU O) n 0 + if hsU O (999 - n) then 1 else 0 := by
      by_cases w : hsU O (999 - n) = true
      · rw [cntU_y w, cntU_add, if_pos w]; omega
      · rw [cntU_n (by simpa using w), if_neg w]; rfl
    rw [hc] at hN
    have h1 := st3_stn (r := r) hw ht hE hB hO (show 999 - n < 1000 by omega) h (by rw [show 999 - n = 1000 - (n + 1) by omega]; exact ha) (by omega)
    have h2 := th3_val (r := r) hw ht hE hB hO n _ _ (by omega) h1.1 (by
      have := st3_agr (V := v3U E B O r) (t := t) hw h.1 (show 1000 - (n + 1) < 1000 by omega) ha
      rw [show 1000 - (n + 1) + 1 = 1000 - n by omega, show 1000 - (n + 1) = 999 - n by omega] at this
      exact this) (by omega) k hk
    rw [th3_s, h2]
    by_cases e : k < 1000 - n
    · rw [if_pos e]
      have hst : valIn (ent (st3 w t (v3U E B O r) (999 - n) s).1.1 (st3 w t (v3U E B O r) (999 - n) s).1.2) (nI k) = if nI k = nI (999 - n) then v3U E B O r (999 - n) else valIn (ent s.1.1 s.1.2) (nI k) := by
        unfold st3
        by_cases q : v3U E B O r (999 - n) = -1000000
        · rw [if_pos q, takT_ent hw h.1, valIn_remE _ _ h.1.2.2.2.1, q]
        · rw [if_neg q, putT_ent hw h.1 q, valIn_setE _ _ _ h.1.2.2.2.1]
      rw [hst]
      by_cases e2 : k = 999 - n
      · rw [if_pos (by rw [e2]), if_neg (by omega), e2]
      · rw [if_neg (nI_ne (by omega) (by omega) e2), if_pos (by omega)]
    · rw [if_neg e, if_neg (by omega)]
theorem cntU_cg {U W : Nat → Bool} (h : ∀ k, k < 1000 → U k = W k) : ∀ n f, n ≤ 1000 → cntU U n f = cntU W n f
  | 0, f, _ => rfl
  | n + 1, f, hn => by
    rw [cntU, cntU, h (999 - n) (by omega)]
    split
    · exact cntU_cg h n _ (by omega)
    · exact cntU_cg h n _ (by omega)
theorem PJ_thr {n : Nat} {P : PS} (h : PJ n P) (hn : n + 20 < 1000000000) (b m o r : Int32) : PJ (n + 20) (thrF P b m o r).2 := by
  have hw := h.1.1.1
  unfold thrF
  split
  · rename_i x z y hx hz hy
    split
    · split
      · rename_i c2
        split
        · rename_i c3
          have tx := h.tk hx
          have tz := h.tk hz
          have ty := h.tk hy
          have hc := cnt_len ty.1.2.2.2.1 ty.2.1
          have hy60 := ty.2.2.1
          have s := th3_stn (r := r) (E := ent z.1 z.2) (B := ent x.1 x.2) (O := ent y.1 y.2) hw (Nat.lt_succ_self (pTk P)) tz.2.1 tx.2.1 ty.2.1 1000 60 (z, pU P) (Nat.le_refl _) (tz.n (Nat.le_refl _)) (fun k _ _ => rfl) (by omega)
          have e := th3_val (r := r) (E := ent z.1 z.2) (B := ent x.1 x.2) (O := ent y.1 y.2) hw (Nat.lt_succ_self (pTk P)) tz.2.1 tx.2.1 ty.2.1 1000 60 (z, pU P) (Nat.le_refl _) (tz.n (Nat.le_refl _)) (fun k _ _ => rfl) (by omega)
          refine h.addm hn (s.1.tok ?_) s.2.1 (old_new hz s.2.2.2) (Or.inr (rootP_j hz).1) (Or.inr (rootP_j hy).1) c3
          rw [← cnt_len s.1.1.2.2.2.1 s.1.2.1, cntU_cg (W := vsU (v3U (ent z.1 z.2) (ent x.1 x.2) (ent y.1 y.2) r)) (fun k hk => ?_) 1000 0 (Nat.le_refl _)]
          · exact c2
          · unfold hsU vsU
            rw [e k hk, if_neg (by omega)]
        · exact h.ref 4
      · exact h.ref 3
    · exact h.ref 1
  · exact h.ref 0
/-! builders -/
theorem PJ.set0 {n : Nat} {P : PS} (h : PJ n P) {j t : Nat} {f : Int32} {z : Tz} {r : Tz × Nat} (hb : pB P j = some (z, t, f)) (hz : tok (pW P) r.2 (pTk P) r.1) (hu : pU P ≤ r.2) (hn : ∀ y ∈ ndl r.1.1 r.1.2, y ∈ ndl z.1 z.2 ∨ y.2 = t) : PJ n (setT P j r t f) := by
  obtain ⟨p1, p2, p3, p4, p5, p6, p7⟩ := h
  refine ⟨p1.bset hb hz hu hn, p2, fun i c hc => ?_, p4, p5, p6, p7⟩
  have hc : (if i = j then some (r.1, t, f) else pB P i) = some c := hc
  by_cases e : i = j
  · rw [if_pos e] at hc
    cases hc
    obtain ⟨q, hq, e⟩ := p3 j _ hb
    exact ⟨q, hq, e⟩
  · rw [if_neg e] at hc
    exact p3 i c hc
theorem PJ.sett {n : Nat} {P : PS} (h : PJ n P) {j t : Nat} {f : Int32} {z : Tz} {r : Tz × Nat} (hb : pB P j = some (z, t, f)) (hz : tok (pW P) r.2 (pTk P) r.1) (hu : pU P ≤ r.2) (hn : ∀ y ∈ ndl r.1.1 r.1.2, y ∈ ndl z.1 z.2 ∨ y.2 = t) : PJ (n + 20) (setT P j r t f) := (h.set0 hb hz hu hn).up (Nat.le_add_right _ _)
theorem PI_snp {P : PS} (hP : PI P) (ht : pTk P + 1 < 1000000000) {j t : Nat} {f : Int32} {z : Tz} (hb : pB P j = some (z, t, f)) : PI (snpP P j (z, t, f)) := by
  obtain ⟨h1, h2, h3, h4⟩ := hP
  obtain ⟨a1, a2, a3, a4, a5⟩ := h3 j _ hb
  refine ⟨h1, fun x hx => ?_, fun i c hc => ?_, ht⟩
  · have hx : x ∈ pM P ++ [(z, f, -1)] := hx
    rcases List.mem_append.mp hx with hx | hx
    · exact (h2 x hx).mono (Nat.le_refl _) (Nat.le_succ _)
    · rw [List.mem_singleton.mp hx]
      exact a2.mono (Nat.le_refl _) (Nat.le_succ _)
  · have hc : (if i = j then some (z, pTk P, nI (pM P).length) else pB P i) = some c := hc
    by_cases e : i = j
    · rw [if_pos e] at hc
      cases hc
      subst e
      refine ⟨a1, a2.mono (Nat.le_refl _) (Nat.le_succ _), Nat.lt_succ_self _, fun x hx y hy => ?_, fun k d hd hk => ?_⟩
      · have hx : x ∈ pM P ++ [(z, f, -1)] := hx
        rcases List.mem_append.mp hx with hx | hx
        · exact Nat.ne_of_lt ((h2 x hx).2.2.2.2 y hy)
        · rw [List.mem_singleton.mp hx] at hy
          exact Nat.ne_of_lt (a2.2.2.2.2 y hy)
      · have hd : (if k = i then some (z, pTk P, nI (pM P).length) else pB P k) = some d := hd
        rw [if_neg hk] at hd
        obtain ⟨b1, b2, b3, b4, b5⟩ := h3 k d hd
        exact ⟨Nat.ne_of_lt b3, fun y hy => Nat.ne_of_lt (b2.2.2.2.2 y hy)⟩
    · rw [if_neg e] at hc
      obtain ⟨b1, b2, b3, b4, b5⟩ := h3 i c hc
      refine ⟨b1, b2.mono (Nat.le_refl _) (Nat.le_succ _), Nat.lt_succ_of_lt b3, fun x hx y hy => ?_, fun k d hd hk => ?_⟩
      · have hx : x ∈ pM P ++ [(z, f, -1)] := hx
        rcases List.mem_append.mp hx with hx | hx
        · exact b4 x hx y hy
        · rw [List.mem_singleton.mp hx] at hy
          exact (b5 j _ hb (fun q => e q.symm)).2 y hy
      · have hd : (if k = j then some (z, pTk P, nI (pM P).length) else pB P k) = some d := hd
        by_cases e2 : k = j
        · rw [if_pos e2] at hd
          cases hd
          exact ⟨Nat.ne_of_gt b3, fun y hy => (b5 j _ hb (fun q => e q.symm)).2 y hy⟩
        · rw [if_neg e2] at hd
          exact b5 k d hd hk
theorem PJ.snp1 {n : Nat} {P : PS} (h : PJ n P) (hn : n + 1 < 1000000000) {j t : Nat} {f : Int32} {z : Tz} (hb : pB P j = some (z, t, f)) (hr : hcnt (pH P) < 16 ∧ (pM P).length < 999) : PJ (n + 1) (snpP P j (z, t, f)) := by
  obtain ⟨p1, p2, p3, p4, p5, p6, p7⟩ := h
  refine ⟨PI_snp p1 (by omega) hb, PL_add p2 (Q := snpP P j (z, t, f)) (z := z) (a := f) (b := -1) rfl (Or.inr (p3 j _ hb)) (Or.inl rfl), fun i c hc => ?_, p4, p5, PH_add p6 (Q := snpP P j (z, t, f)) (x := (z, f, -1)) rfl rfl rfl hr, Nat.succ_le_succ p7⟩
  have hc : (if i = j then some (z, pTk P, nI (pM P).length) else pB P i) = some c := hc
  have hlen : (pM (snpP P j (z, t, f))).length = (pM P).length + 1 := by
    show (pM P ++ [(z, f, -1)]).length = _
    rw [List.length_append, List.length_singleton]
  rw [hlen]
  by_cases e : i = j
  · rw [if_pos e] at hc
    cases hc
    exact ⟨_, Nat.lt_succ_self _, rfl⟩
  · rw [if_neg e] at hc
    obtain ⟨q, hq, e⟩ := p3 i c hc
    exact ⟨q, Nat.lt_succ_of_lt hq, e⟩
theorem PJ.non {n : Nat} {P : PS} (h : PJ n P) (j : Nat) : PJ n (setB P j none) := by
  obtain ⟨⟨h1, h2, h3, h4⟩, p2, p3, p4, p5, p6, p7⟩ := h
  have hs : ∀ {i : Nat} {c : BI}, pB (setB P j none) i = some c → pB P i = some c := fun {i c} hc => by
    have hc : (if i = j then none else pB P i) = some c := hc
    by_cases e : i = j
    · rw [if_pos e] at hc
      exact absurd hc (by simp)
    · rw [if_neg e] at hc
      exact hc
  refine ⟨⟨h1, h2, fun i c hc => ?_, h4⟩, p2, fun i c hc => p3 i c (hs hc), p4, p5, p6, p7⟩
  obtain ⟨b1, b2, b3, b4, b5⟩ := h3 i c (hs hc)
  exact ⟨b1, b2, b3, b4, fun k d hd hk => b5 k d (hs hd) hk⟩
theorem PJ_snp {n : Nat} {P : PS} (h : PJ n P) (hn : n + 20 < 1000000000) {j : Nat} {b : BI} (hb : pB P j = some b) : PJ (n + 20) (snpF P j b).2 := by
  unfold snpF
  split
  · rename_i c
    exact (h.snp1 (by omega) hb c).up (by omega)
  · exact h.ref 4
theorem PJ_frz {n : Nat} {P : PS} (h : PJ n P) (hn : n + 20 < 1000000000) {j : Nat} {b : BI} (hb : pB P j = some b) : PJ (n + 20) (frzF P j b).2 := by
  unfold frzF
  split
  · rename_i c
    exact ((h.snp1 (by omega) hb c).non j).up (by omega)
  · exact h.ref 4
theorem PJ_bldG {n : Nat} {P : PS} (h : PJ n P) (i : Int32) (ok : Prop) [Decidable ok] (f : Nat → BI → Int32 × PS) (hf : ∀ j b, pB P j = some b → ok → PJ (n + 20) (f j b).2) : PJ (n + 20) (bld P i ok f).2 := by
  unfold bld
  split
  · exact h.ref 0
  · split
    · rename_i c
      split
      · exact h.ref 2
      · rename_i b hb
        exact hf _ b hb c
    · exact h.ref 1
theorem PJ_lay {n : Nat} {P : PS} (h : PJ n P) {k w : Int32} {j : Nat} {b : BI} (hb : pB P j = some b) (hx : keyR k ∧ valR w) : PJ (n + 20) (layF P k w j b).2 := by
  have hw := h.1.1.1
  obtain ⟨z, t, f⟩ := b
  obtain ⟨a1, a2, a3, -⟩ := h.1.2.2.1 j _ hb
  unfold layF
  split
  · rename_i c
    obtain ⟨p, q, r⟩ := tok_put hw a2 a3 (okE_of hx.1 (okV_of hx.2)) c
    exact h.sett hb p q r
  · exact h.ref 3
theorem PJ_ad {n : Nat} {P : PS} (h : PJ n P) {k w : Int32} {j : Nat} {b : BI} (hb : pB P j = some b) (hx : keyR k ∧ valR w) : PJ (n + 20) (addF P k w j b).2 := by
  have hw := h.1.1.1
  obtain ⟨z, t, f⟩ := b
  obtain ⟨a1, a2, a3, -⟩ := h.1.2.2.1 j _ hb
  unfold addF layF
  split
  · rename_i c
    obtain ⟨p, q, r⟩ := tok_put hw a2 a3 (okE_of hx.1 (addV_ok (E := ent z.1 z.2) (k := k) (okV_of hx.2))) c
    exact h.sett hb p q r
  · exact h.ref 3
theorem PJ_cut {n : Nat} {P : PS} (h : PJ n P) {a c : Int32} {j : Nat} {b : BI} (hb : pB P j = some b) : PJ (n + 20) (cutF P a c j b).2 := by
  obtain ⟨z, t, f⟩ := b
  obtain ⟨a1, a2, a3, -⟩ := h.1.2.2.1 j _ hb
  have s := cutE_stp (a := a) (b := c) h.1.1.1 a3 (ent z.1 z.2) (z, pU P) a2
  exact h.sett hb s.1 s.2.1 s.2.2.2
theorem ent_has {z : Tz} (hs : srt (ent z.1 z.2)) (hv : vok (ent z.1 z.2)) : ∀ x ∈ ent z.1 z.2, ¬ valIn (ent z.1 z.2) x.1 = -1000000 := fun x hx => by
  rw [valIn_mem hs hx]
  exact hv x hx
theorem PJ_inc {n : Nat} {P : PS} (h : PJ n P) {a c w : Int32} {j : Nat} {b : BI} (hb : pB P j = some b) : PJ (n + 20) (incF P a c w j b).2 := by
  obtain ⟨z, t, f⟩ := b
  obtain ⟨a1, a2, a3, -⟩ := h.1.2.2.1 j _ hb
  have s := raiE_stp (a := a) (b := c) (d := w) h.1.1.1 a3 (ent z.1 z.2) (z, pU P) a2 (fun x hx => ⟨a2.2.1 x hx, ent_has a2.1.2.2.2.1 a2.1.2.2.2.2 x hx⟩)
  exact h.sett hb s.1 s.2.1 s.2.2.2
theorem PJ_drw {n : Nat} {P : PS} (h : PJ n P) {m : Int32} {sd : Int64} {j : Nat} {b : BI} (hb : pB P j = some b) : PJ (n + 20) (drwF P m sd j b).2 := by
  obtain ⟨z, t, f⟩ := b
  obtain ⟨a1, a2, a3, -⟩ := h.1.2.2.1 j _ hb
  have s := drwE_stc h.1.1.1 a3 m.toNatClampNeg sd (z, pU P) a2
  exact h.sett hb s.1 s.2.1 s.2.2.2
theorem PJ_bldB {n : Nat} {P : PS} (h : PJ n P) (hn : n + 20 < 1000000000) (i m : Int32) (hi : ∀ j, bAt i = some j → j < 4) : PJ (n + 20) (bldB P i m).2 := by
  unfold bldB
  split
  · exact h.ref 0
  · rename_i j hj
    unfold bldC
    split
    · exact h.ref 0
    · rename_i z hz
      have hj4 := hi j hj
      have tz := h.tk hz
      obtain ⟨⟨q, hq, eq⟩, x, hx, ex⟩ := rootP_j hz
      obtain ⟨⟨h1, h2, h3, h4⟩, p2, p3, p4, p5, p6, p7⟩ := h
      refine ⟨⟨h1, fun x hx => (h2 x hx).mono (Nat.le_refl _) (Nat.le_succ _), fun i c hc => ?_, by show pTk P + 1 < _; omega⟩, p2, fun i c hc => ?_, p4, p5, p6, by show pTk P + 1 ≤ _; omega⟩
      · have hc : (if i = j then some (z, pTk P, m) else pB P i) = some c := hc
        by_cases e : i = j
        · rw [if_pos e] at hc
          cases hc
          refine ⟨by omega, tz, Nat.lt_succ_self _, fun x hx y hy => Nat.ne_of_lt ((h2 x hx).2.2.2.2 y hy), fun k d hd hk => ?_⟩
          have hd : (if k = j then some (z, pTk P, m) else pB P k) = some d := hd
          rw [if_neg (by omega)] at hd
          obtain ⟨b1, b2, b3, b4, b5⟩ := h3 k d hd
          exact ⟨Nat.ne_of_lt b3, fun y hy => Nat.ne_of_lt (b2.2.2.2.2 y hy)⟩
        · rw [if_neg e] at hc
          obtain ⟨b1, b2, b3, b4, b5⟩ := h3 i c hc
          refine ⟨b1, b2.mono (Nat.le_refl _) (Nat.le_succ _), Nat.lt_succ_of_lt b3, b4, fun k d hd hk => ?_⟩
          have hd : (if k = j then some (z, pTk P, m) else pB P k) = some d := hd
          by_cases e2 : k = j
          · rw [if_pos e2] at hd
            cases hd
            refine ⟨Nat.ne_of_gt b3, fun y hy => ?_⟩
            rw [← ex] at hy
            exact b4 x hx y hy
          · rw [if_neg e2] at hd
            exact b5 k d hd hk
      · have hc : (if i = j then some (z, pTk P, m) else pB P i) = some c := hc
        by_cases e : i = j
        · rw [if_pos e] at hc
          cases hc
          exact ⟨q, hq, eq⟩
        · rw [if_neg e] at hc
          exact p3 i c hc
theorem PJ_drp {n : Nat} {P : PS} (h : PJ n P) (m : Int32) : PJ (n + 20) (drpF P m).2 := by
  unfold drpF
  split
  · exact h.ref 0
  · rename_i z hz
    obtain ⟨j, x, rfl, hj, hx, -, hh⟩ := rootP_mem hz
    obtain ⟨a, b, c, d, e, ⟨f1, f2, f3, f4⟩, g⟩ := h
    have hj9 : j < 999 := by omega
    refine ⟨a.cg rfl rfl rfl rfl rfl, b, c, d, e, ⟨fun i hi => ⟨?_, (f1 i hi).2⟩, ?_, f3, f4⟩, Nat.le_trans g (Nat.le_add_right _ _)⟩
    · show (if i = _ then false else pH P i) = false
      split
      · rfl
      · exact (f1 i hi).1
    · have hq := hcnt_rel (hd := pH P) hh 999 hj9
      show (List.range 999).countP (fun i => if i = (nI j).toNatClampNeg then false else pH P i) ≤ 16
      rw [nI_clamp (show j < 2 ^ 31 by omega)]
      have f2 : (List.range 999).countP (pH P) ≤ 16 := f2
      omega
theorem PJ_img {n : Nat} {P : PS} (h : PJ n P) : PJ (n + 20) (imgP P) := by
  obtain ⟨a, b, c, d, e, ⟨f1, f2, f3, f4⟩, g⟩ := h
  exact ⟨a.cg rfl rfl rfl rfl rfl, b, c, d, e, ⟨fun i hi => ⟨(f1 i hi).1, (f1 i hi).1⟩, f2, f2, f4⟩, Nat.le_trans g (Nat.le_add_right _ _)⟩
theorem PJ.clo {n : Nat} {P : PS} (h : PJ n P) : PJ n (cloP P) := (((h.non 0).non 1).non 2).non 3
theorem PJ_bck {n : Nat} {P : PS} (h : PJ n P) : PJ (n + 20) (bckF P).2 := by
  unfold bckF
  split
  · obtain ⟨a, b, c, d, e, ⟨f1, f2, f3, f4⟩, g⟩ := h
    have h2 : PJ n (bckP P) := ⟨a.cg rfl rfl rfl rfl rfl, b, c, d, e, ⟨fun i hi => ⟨(f1 i hi).2, (f1 i hi).2⟩, f3, f3, f4⟩, g⟩
    exact h2.clo.up (Nat.le_add_right _ _)
  · exact h.up (Nat.le_add_right _ _)
theorem cloP_none {P : PS} (h4 : ∀ j b, pB P j = some b → j < 4) (i : Nat) : pB (cloP P) i = none := by
  show (if i = 3 then none else if i = 2 then none else if i = 1 then none else if i = 0 then none else pB P i) = none
  by_cases h3 : i = 3
  · rw [if_pos h3]
  · rw [if_neg h3]
    by_cases h2 : i = 2
    · rw [if_pos h2]
    · rw [if_neg h2]
      by_cases h1 : i = 1
      · rw [if_pos h1]
      · rw [if_neg h1]
        by_cases h0 : i = 0
        · rw [if_pos h0]
        · rw [if_neg h0]
          cases hb : pB P i with
          | none => rfl
          | some b => exact absurd (h4 i b hb) (by omega)
theorem PJ_wid {n : Nat} {P : PS} (h : PJ n P) (w : Int32) : PJ (n + 20) (widF P w).2 := by
  unfold widF
  split
  · rename_i c
    obtain ⟨⟨a1, a2, a3, a4⟩, b, c9, d, e, f, g⟩ := h
    have hB : ∀ i, pB (cloP (widP P w.toNatClampNeg)) i = none := cloP_none (fun j b hb => (a3 j b hb).1)
    have hw : 3 ≤ w.toNatClampNeg ∧ w.toNatClampNeg ≤ 6 := by
      obtain ⟨k, hk, rfl⟩ := nI_of (x := w) (by rw [i32_lt]; show ¬ w.toInt < 0; omega)
      rw [nI_toInt hk] at c
      rw [nI_clamp hk]
      omega
    refine ⟨⟨hw, fun x hx => absurd hx (by simp [cloP, setB, widP, pM]), fun j b hb => ?_, a4⟩, fun i x hx => ?_, fun j b hb => ?_, d, e, ⟨fun i _ => ⟨rfl, rfl⟩, ?_, ?_, Nat.zero_le _⟩, Nat.le_trans g (Nat.le_add_right _ _)⟩
    · rw [show pB _ j = none from hB j] at hb
      exact absurd hb (by simp)
    · have hx : ([] : List MI)[i]? = some x := hx
      exact absurd hx (by simp)
    · rw [show pB _ j = none from hB j] at hb
      exact absurd hb (by simp)
    · show hcnt (fun _ => false) ≤ 16
      rw [hcnt_0]
      omega
    · show hcnt (fun _ => false) ≤ 16
      rw [hcnt_0]
      omega
  · exact h.ref 1
theorem bAt_lt {i : Int32} {j : Nat} (h : bAt i = some j) : j < 4 := by
  unfold bAt at h
  split at h
  · rename_i c
    obtain ⟨k, hk, rfl⟩ := nI_of (x := i) (by rw [i32_lt]; show ¬ i.toInt < 0; omega)
    rw [nI_toInt hk] at c
    rw [nI_clamp hk] at h
    cases h
    omega
  · exact absurd h (by simp)
theorem PJ_nSh {n : Nat} {P : PS} (h : PJ n P) (m : Int32) : PJ (n + 20) (nShow P m) := by
  unfold nShow
  split
  · exact h.up (Nat.le_add_right _ _)
  · exact h.shw _
