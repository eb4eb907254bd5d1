/-- as tok, with n entries at most -/
def tkn (n w u tk : Nat) (z : Tz) : Prop := rok w z ∧ (∀ x ∈ ent z.1 z.2, okE x) ∧ (ent z.1 z.2).length ≤ n ∧ bdd u (ndl z.1 z.2) ∧ ∀ y ∈ ndl z.1 z.2, y.2 < tk
theorem tok.n {w u tk n : Nat} {z : Tz} (h : tok w u tk z) (hn : 60 ≤ n) : tkn n w u tk z := ⟨h.1, h.2.1, Nat.le_trans h.2.2.1 hn, h.2.2.2⟩
theorem tkn.tok {w u tk n : Nat} {z : Tz} (h : tkn n w u tk z) (hn : (ent z.1 z.2).length ≤ 60) : tok w u tk z := ⟨h.1, h.2.1, hn, h.2.2.2⟩
theorem tkn.up {w u tk n m : Nat} {z : Tz} (h : tkn n w u tk z) (hn : n ≤ m) : tkn m w u tk z := ⟨h.1, h.2.1, Nat.le_trans h.2.2.1 hn, h.2.2.2⟩
theorem tkn.h5 {w u tk n : Nat} {z : Tz} (hw : 3 ≤ w) (h : tkn n w u tk z) (hn : n ≤ 126) : z.1 ≤ 5 := by
  obtain ⟨c1, c2, c3⟩ := h.1.cnt hw
  have h60 := h.2.2.1
  refine Classical.byContradiction (fun hq => ?_)
  have h5 := c1 (by omega)
  have h6 : 2 ^ 7 ≤ 2 ^ (z.1 + 1) := Nat.pow_le_pow_right (by decide) (by omega)
  have h7 : (2 : Nat) ^ 7 = 128 := by decide
  omega
/-- a tree has changed, with c more nodes made than were new, n entries at most -/
def stn (n c w tk t : Nat) (s r : Tz × Nat) : Prop := tkn n w r.2 tk r.1 ∧ s.2 ≤ r.2 ∧ r.2 + un t (ndl r.1.1 r.1.2) ≤ s.2 + un t (ndl s.1.1 s.1.2) + c ∧ ∀ y ∈ ndl r.1.1 r.1.2, y ∈ ndl s.1.1 s.1.2 ∨ y.2 = t
theorem stn.rf {n w tk t : Nat} {s : Tz × Nat} (h : tkn n w s.2 tk s.1) : stn n 0 w tk t s s := ⟨h, Nat.le_refl _, Nat.le_refl _, fun _ z => Or.inl z⟩
theorem stn.tr {n m c d w tk t : Nat} {s r q : Tz × Nat} (h : stn m c w tk t s r) (k : stn n d w tk t r q) : stn n (c + d) w tk t s q := ⟨k.1, Nat.le_trans h.2.1 k.2.1, by have h1 := h.2.2.1; have h2 := k.2.2.1; omega, fun y hy => (k.2.2.2 y hy).elim (h.2.2.2 y) Or.inr⟩
theorem stn.up {n m c d w tk t : Nat} {s r : Tz × Nat} (h : stn m c w tk t s r) (hn : m ≤ n) (hc : c ≤ d) : stn n d w tk t s r := ⟨h.1.up hn, h.2.1, by have h1 := h.2.2.1; omega, h.2.2.2⟩
theorem stn.le {n c w tk t : Nat} {s r : Tz × Nat} (hw : 3 ≤ w) (h : stn n c w tk t s r) (ht : tok w s.2 tk s.1) : r.2 ≤ s.2 + 61 + c := by
  have h2 := un_le t (ndl s.1.1 s.1.2)
  obtain ⟨-, -, h4⟩ := ht.h4 hw
  have h1 := h.2.2.1
  omega
theorem stn_put {n w tk t : Nat} {k v : Int32} {s : Tz × Nat} (hw : 3 ≤ w) (h : tkn n w s.2 tk s.1) (hn : n ≤ 126) (ht : t < tk) (hk : okE (k, v)) : stn (n + 1) 7 w tk t s (putT w t s.2 k v s.1) := by
  have h5 := h.h5 hw hn
  obtain ⟨r, o, l, b, n⟩ := h
  have hv : ¬ v = -1000000 := okV.ne hk.2
  have e := putT_ent (tk := t) (u := s.2) (key := k) (v := v) hw r hv
  have g := putT_grw (w := w) (tk := t) (key := k) (v := v) b
  have h1 := putT_un (w := w) (tk := t) (u := s.2) (key := k) (v := v) (z := s.1)
  exact ⟨⟨rok_putT hw r hv, fun x hx => (mem_setE (by rw [e] at hx; exact hx)).elim (fun y => by rw [y]; exact hk) (o x), by rw [e]; exact Nat.le_trans (setE_len2 _ _ _).2 (Nat.succ_le_succ l), g.bd b, fun y hy => (g.2.1 y hy).elim (n y) (fun z => by rw [z.2.2]; exact ht)⟩, g.1, by omega, fun y hy => (g.2.1 y hy).imp id (fun z => z.2.2)⟩
theorem stn_old {n w tk t : Nat} {k v : Int32} {s : Tz × Nat} (hw : 3 ≤ w) (h : tkn n w s.2 tk s.1) (ht : t < tk) (hk : okE (k, v)) (hl : ¬ valIn (ent s.1.1 s.1.2) k = -1000000) : stn n 0 w tk t s (putT w t s.2 k v s.1) := by
  obtain ⟨r, o, l, b, n⟩ := h
  have hv : ¬ v = -1000000 := okV.ne hk.2
  have e := putT_ent (tk := t) (u := s.2) (key := k) (v := v) hw r hv
  have g := putT_grw (w := w) (tk := t) (key := k) (v := v) b
  have e2 := setE_length (key := k) v r.2.2.2.2
  rw [if_neg hl] at e2
  exact ⟨⟨rok_putT hw r hv, fun x hx => (mem_setE (by rw [e] at hx; exact hx)).elim (fun y => by rw [y]; exact hk) (o x), by rw [e, e2]; exact l, g.bd b, fun y hy => (g.2.1 y hy).elim (n y) (fun z => by rw [z.2.2]; exact ht)⟩, g.1, Nat.le_of_eq (putT_old hw r hl), fun y hy => (g.2.1 y hy).imp id (fun z => z.2.2)⟩
theorem stn_take {n w tk t : Nat} {k : Int32} {s : Tz × Nat} (hw : 3 ≤ w) (h : tkn n w s.2 tk s.1) (ht : t < tk) : stn n 0 w tk t s (takT w t s.2 k s.1) := by
  obtain ⟨r, o, l, b, n⟩ := h
  have e := takT_ent (tk := t) (u := s.2) (key := k) hw r
  obtain ⟨g, g2⟩ := takT_gru (w := w) (tk := t) (key := k) b
  exact ⟨⟨rok_takT hw r, fun x hx => o x (mem_remE (by rw [e] at hx; exact hx)), by rw [e]; exact Nat.le_trans (remE_len2 _ _).1 l, g.bd b, fun y hy => (g.2.1 y hy).elim (n y) (fun z => by rw [z.2.2]; exact ht)⟩, g.1, g2, fun y hy => (g.2.1 y hy).imp id (fun z => z.2.2)⟩
/-- merge's value by a rule -/
def rulV (a b r : Int32) : Int32 := if a = -1000000 ∨ r = 1 then b else if r = 0 then a else if r = 2 then (if a < b then b else a) else hldW (a + b)
def mrgL (w t : Nat) (E : List KV) (r : Int32) : List KV → Tz × Nat → Tz × Nat
  | [], s => s
  | x :: l, s => mrgL w t E r l (putT w t s.2 x.1 (rulV (valIn E x.1) x.2 r) s.1)
theorem rulV_ok {a b r : Int32} (ha : a = -1000000 ∨ okV a) (hb : okV b) : okV (rulV a b r) := by
  unfold rulV
  split
  · exact hb
  · rename_i h1
    have ha : okV a := ha.elim (fun z => absurd (Or.inl z) h1) id
    split
    · exact ha
    · split
      · split
        · exact hb
        · exact ha
      · exact hldW_ok _
theorem valIn_ok {E : List KV} (hE : ∀ x ∈ E, okE x) (k : Int32) : valIn E k = -1000000 ∨ okV (valIn E k) := by
  by_cases h : valIn E k = -1000000
  · exact Or.inl h
  · exact Or.inr (hE _ (valIn_some h)).2
theorem mrgL_at {w t : Nat} {E : List KV} {r : Int32} {O : List KV} {i : Nat} (hi : i < O.length) (s : Tz × Nat) : mrgL w t E r (O.drop i) s = mrgL w t E r (O.drop (i + 1)) (putT w t s.2 O[i].1 (rulV (valIn E O[i].1) O[i].2 r) s.1) := by rw [List.drop_eq_getElem_cons hi, mrgL]
theorem mrgL_stn {w tk t : Nat} {E : List KV} {r : Int32} (hw : 3 ≤ w) (ht : t < tk) (hE : ∀ x ∈ E, okE x) : ∀ (l : List KV) (n : Nat) (s : Tz × Nat), tkn n w s.2 tk s.1 → (∀ x ∈ l, okE x) → n + l.length ≤ 126 → stn (n + l.length) (7 * l.length) w tk t s (mrgL w t E r l s)
  | [], n, s, h, _, _ => stn.rf h
  | x :: l, n, s, h, hl, hn => by
    rw [mrgL]
    rw [List.length_cons] at hn ⊢
    have h0 := hl x List.mem_cons_self
    have h1 := stn_put (k := x.1) (v := rulV (valIn E x.1) x.2 r) hw h (by omega) ht ⟨h0.1, rulV_ok (valIn_ok hE _) h0.2⟩
    have h2 := mrgL_stn (r := r) hw ht hE l (n + 1) _ h1.1 (fun y hy => hl y (List.mem_cons_of_mem _ hy)) (by omega)
    exact (h1.tr h2).up (by omega) (by omega)
/-- what another map has of its own -/
def ownE (z y : Tz) : List KV := entU (mkS (fun _ => false) (sub z.1 z.2)) y.1 y.2
theorem entU_sub (mk : Nat → Bool) : ∀ (h : Nat) (t : Tr h), (entU mk h t).Sublist (ent h t)
  | 0, t => by
    unfold entU
    split
    · exact List.nil_sublist _
    · exact List.Sublist.refl _
  | h + 1, t => by
    show ((kds t).flatMap (entU mk h)).Sublist ((kds t).flatMap (ent h))
    have hh := entU_sub mk h
    generalize kds t = l
    induction l with
    | nil => exact List.Sublist.refl _
    | cons c l ih =>
      rw [List.flatMap_cons, List.flatMap_cons]
      exact List.Sublist.append (hh c) ih
def mrgF (P : PS) (m o r : Int32) : Int32 × PS := match rootP P m, rootP P o with
  | some z, some y => if 0 ≤ r.toInt ∧ r.toInt ≤ 3 then (if swE (ent z.1 z.2) (ownE z y) (ent z.1 z.2).length ≤ 60 then (if hcnt (pH P) < 16 ∧ (pM P).length < 999 then (nI (pM P).length, addM (setU (incT P) (mrgL (pW P) (pTk P) (ent z.1 z.2) r (ownE z y) (z, pU P)).2) (mrgL (pW P) (pTk P) (ent z.1 z.2) r (ownE z y) (z, pU P)).1 m o) else (-1, refP P 4)) else (-1, refP P 3)) else (-1, refP P 1)
  | _, _ => (-1, refP P 0)
theorem RoW.mkr {S T : aw_S} {ad : Nat → Nat} {m : Int32} {ids : List Nat} (k : mkR S T ad m ids) {r ka va : Nat} {E : List KV} (h : RoW S r ka va E) : RoW T r ka va E := by
  obtain ⟨h1, h2, h3, h4, h5, h6, h7, h8, h9, h10, h11⟩ := h
  obtain ⟨⟨e1, e2, e3, e4, e5, e6, e7, e8⟩, k2, k3⟩ := id k
  exact ⟨k.is h1, by rw [e3]; exact h2, by rw [e3]; exact h3, k.is h4, k.is h5, by rw [e4]; exact h6, by rw [e4]; exact h7, h8, (k2 450 _ (by decide)).trans h9, h10, fun i x hx => by rw [e7]; exact h11 i x hx⟩
set_option maxHeartbeats 4000000 in
set_option maxRecDepth 100000 in
theorem c_markedR {S : aw_S} {v ad ar : Nat → Nat} {PA : List (Nat × Nat)} {X : List Nat} {mb : Nat} {P : PS} (h : RC S v ad ar PA X mb P) (hP : PI P) (hm : mb + 1 < 2147483000) {z : Tz} (t : TT_ S ad ar P z) : aw_M yX10_marked cX10_marked 2 (some FieldType.int) 9 0 0 [.ref (v 4), .ref (ad z.2.1)] S (fun r S2 => ∃ mr, r = some (.int (nI mr)) ∧ mr < 2147483648 ∧ RC S2 v ad ar PA X (mb + 1) P ∧ keepX X S S2 ∧ sI S2 656 (v 4) = nI mr ∧ (∀ i, i < pU P → (sI S2 260 (ad i) = nI mr ↔ mkS (fun _ => false) (sub z.1 z.2) i = true)) ∧ ∀ E, RoW S (v 25) (v 26) (v 27) E → RoW S2 (v 25) (v 26) (v 27) E) := by
  have hL := h.L
  obtain ⟨mr, hmr, hmr2, h1, k1, n1⟩ := h.m656 hm
  obtain ⟨hz4, -, -⟩ := t.2.h4 hP.1.1
  have t1 : TT_ (wI S 656 (v 4) (nI (mr + 1))) ad ar P z := ⟨⟨NL.frq t.1.1 (frS_wI (by decide)) (h.scq (fun b y => ⟨4, by decide, y⟩) t.1), t.1.2⟩, t.2⟩
  have hu := sub_ids t.1.2
  refine aw_enter (by decide +kernel) (Nat.le_of_ble_eq_true rfl) (fun g K EE => ?_)
  first | refine a_aload_n K dX10_marked_0 rfl ?_ | refine a_aload_nN K dX10_marked_0 rfl ?_
  refine a_dup K dX10_marked_1 rfl ?_
  refine a_getI K fd_X10_395 (lw_i4 hL) (Or.inl rfl) dX10_marked_2 ?_
  refine a_iconst K dX10_marked_5 (v := 1) (by decide) ?_
  rw [hmr]
  refine a_iadd K dX10_marked_6 ?_
  rw [nI_1]
  refine a_putI K fd_X10_395 (lw_i4 hL) rfl dX10_marked_7 ?_
  first | refine a_aload_n K dX10_marked_10 rfl ?_ | refine a_aload_nN K dX10_marked_10 rfl ?_
  refine a_getRs K fd_X10_90 (lw_i4 hL) (Or.inl ⟨_, rfl⟩) (lw_f655 hL) dX10_marked_11 ?_
  first | refine a_aload_n K dX10_marked_14 rfl ?_ | refine a_aload_nN K dX10_marked_14 rfl ?_
  refine a_invV K (m_fillL h1 hP.1.1 t1) my_X2_fill ml_X10_181 im_X2_fill se_X2_fill (ci := 2) (lw_i34 hL) (by decide) ⟨_, _, rfl⟩ rfl (by omega) (by omega) (by omega) rfl (Nat.le_of_ble_eq_true rfl) dX10_marked_15 ?_
  intro r9 S9 hp9
  obtain ⟨rfl, hLs, h3, k3, f3⟩ := hp9
  have hL := h3.L
  have e3 : sI S9 656 (v 4) = nI (mr + 1) := by rw [(f3.2.2.2.2.2.2.2 _ (vqls hL (by decide))).1]; exact wI_at
  have h0 : ∀ i, i < pU P → (sI S9 260 (ad i) = nI (mr + 1) ↔ (fun _ => false) i = true) := fun i hi => ⟨fun y => absurd ((f3.2.2.2.2.2.2.1 _ 260 (Or.inl rfl)).symm.trans y) (n1 i hi), fun y => absurd y (by simp)⟩
  first | refine a_aload_n K dX10_marked_18 rfl ?_ | refine a_aload_nN K dX10_marked_18 rfl ?_
  refine a_getRs K fd_X10_90 (lw_i4 hL) (Or.inl ⟨_, rfl⟩) (lw_f655 hL) dX10_marked_19 ?_
  first | refine a_aload_n K dX10_marked_22 rfl ?_ | refine a_aload_nN K dX10_marked_22 rfl ?_
  refine a_getI K fd_X10_395 (lw_i4 hL) (Or.inl rfl) dX10_marked_23 ?_
  rw [e3]
  refine a_invV K (m_Ls_mark (m0 := fun _ => false) hLs h3.2.2.2.2.2.2.2.2.1.1 hu h0 rfl) my_X2_mark ml_X10_392 im_X2_mark se_X2_mark (ci := 2) (lw_i34 hL) (by decide) ⟨_, _, rfl⟩ rfl (by omega) (by omega) (by omega) rfl (Nat.le_of_ble_eq_true rfl) dX10_marked_26 ?_
  intro r9 T hp9
  obtain ⟨rfl, hmk⟩ := hp9
  have h4 := h3.mkr hmk e3 (fun i hi => by obtain ⟨y, hy, e⟩ := List.mem_map.mp hi; rw [← e]; exact hu y hy)
  have e4 : sI T 656 (v 4) = nI (mr + 1) := by rw [hmk.2.1 656 _ (by decide)]; exact e3
  have hL := h4.1.L
  refine a_pop K dX10_marked_29 rfl ?_
  first | refine a_aload_n K dX10_marked_30 rfl ?_ | refine a_aload_nN K dX10_marked_30 rfl ?_
  refine a_getI K fd_X10_395 (lw_i4 hL) (Or.inl rfl) dX10_marked_31 ?_
  rw [e4]
  exact a_iret K EE rfl (by omega) (by omega) dX10_marked_34 ⟨mr + 1, rfl, by omega, h4.1, k1.tr (k3.tr h4.2), e4, mkR.tr hmk h3.2.2.2.2.2.2.2.2.1.1 hu h0, fun E hE => RoW.mkr hmk (RoW.fr (RoW.fr hE (frS_wI (S := S) (F := 656) (a := v 4) (v := nI (mr + 1)) (by decide)).fr (fun z => absurd (lw_inj hL 25 4 (by decide) (by decide) z) (by decide)) (fun z => absurd (lw_inj hL 26 4 (by decide) (by decide) z) (by decide)) (fun z => absurd (lw_inj hL 27 4 (by decide) (by decide) z) (by decide))) f3.fr (vqls hL (by decide)) (vqls hL (by decide)) (vqls hL (by decide)))⟩
set_option maxHeartbeats 4000000 in
set_option maxRecDepth 100000 in
theorem m_X10_ruled {S : aw_S} {a b r : Int32} : aw_M yX10_ruled cX10_ruled 3 (some FieldType.int) 2 0 0 [.int a, .int b, .int r] S (fun q S2 => q = some (.int (rulV a b r)) ∧ S2 = S) := by
  refine aw_enter (by decide +kernel) (Nat.le_of_ble_eq_true rfl) (fun g K EE => ?_)
  refine a_iload_n K dX10_ruled_0 rfl ?_
  refine a_ldc K kc_X10_180 dX10_ruled_1 ?_
  refine a_icmp_eq K dX10_ruled_3 (tgt := 11) (by decide) (fun c_3 => ?_) (fun c_3 => ?_)
  · refine a_iload_n K dX10_ruled_11 rfl ?_
    exact a_iret K EE rfl (by omega) (by omega) dX10_ruled_12 ⟨by unfold rulV; rw [if_pos (by first | exact Or.inl c_3 | exact Or.inl (Classical.not_not.mp c_3) | exact Or.inr c_8 | exact Or.inr (Classical.not_not.mp c_8))], rfl⟩
  · refine a_iload_n K dX10_ruled_6 rfl ?_
    refine a_iconst K dX10_ruled_7 (v := 1) (by decide) ?_
    refine a_icmp_ne K dX10_ruled_8 (tgt := 13) (by decide) (fun c_8 => ?_) (fun c_8 => ?_)
    · refine a_iload_n K dX10_ruled_13 rfl ?_
      refine a_if_ne K dX10_ruled_14 (tgt := 19) (by decide) (fun c_14 => ?_) (fun c_14 => ?_)
      · refine a_iload_n K dX10_ruled_19 rfl ?_
        refine a_iconst K dX10_ruled_20 (v := 2) (by decide) ?_
        refine a_icmp_ne K dX10_ruled_21 (tgt := 32) (by decide) (fun c_21 => ?_) (fun c_21 => ?_)
        · refine a_iload_n K dX10_ruled_32 rfl ?_
          refine a_iload_n K dX10_ruled_33 rfl ?_
          refine a_iadd K dX10_ruled_34 ?_
          refine a_invS K (m_X10_heldWithin) my_X10_heldWithin ml_X10_275 st_X10_heldWithin rfl (by omega) (by omega) (by omega) rfl (Nat.le_of_ble_eq_true rfl) dX10_ruled_35 ?_
          intro r9 S9 hp9
          obtain ⟨rfl, hS9⟩ := hp9
          obtain rfl := hS9.symm
          exact a_iret K EE rfl (by omega) (by omega) dX10_ruled_38 ⟨by refine congrArg (fun q => some (Value.int q)) ?_; symm; unfold rulV; rw [if_neg (fun y => y.elim c_3 (fun q => c_8 q)), if_neg (fun q => c_14 q)]; first | rw [if_pos (by first | exact c_21 | exact Classical.not_not.mp c_21)] | rw [if_neg (fun q => c_21 q)], rfl⟩
        · refine a_iload_n K dX10_ruled_24 rfl ?_
          refine a_iload_n K dX10_ruled_25 rfl ?_
          refine a_mmax K ml_X10_270 (by omega) (Nat.le_of_ble_eq_true rfl) (by omega) (by omega) dX10_ruled_26 ?_
          refine a_goto K dX10_ruled_29 (tgt := 38) (by decide) ?_
          exact a_iret K EE rfl (by omega) (by omega) dX10_ruled_38 ⟨by refine congrArg (fun q => some (Value.int q)) ?_; symm; unfold rulV; rw [if_neg (fun y => y.elim c_3 (fun q => c_8 q)), if_neg (fun q => c_14 q)]; first | rw [if_pos (by first | exact c_21 | exact Classical.not_not.mp c_21)] | rw [if_neg (fun q => c_21 q)], rfl⟩
      · refine a_iload_n K dX10_ruled_17 rfl ?_
        exact a_iret K EE rfl (by omega) (by omega) dX10_ruled_18 ⟨by unfold rulV; rw [if_neg (fun y => y.elim c_3 (fun q => c_8 q)), if_pos (by first | exact c_14 | exact Classical.not_not.mp c_14)], rfl⟩
    · refine a_iload_n K dX10_ruled_11 rfl ?_
      exact a_iret K EE rfl (by omega) (by omega) dX10_ruled_12 ⟨by unfold rulV; rw [if_pos (by first | exact Or.inl c_3 | exact Or.inl (Classical.not_not.mp c_3) | exact Or.inr c_8 | exact Or.inr (Classical.not_not.mp c_8))], rfl⟩
theorem c_newTokenR {S : aw_S} {v ad ar : Nat → Nat} {PA : List (Nat × Nat)} {X : List Nat} {mb : Nat} {P : PS} (h : RC S v ad ar PA X mb P) : aw_M yX1_newToken cX1_newToken 1 (some FieldType.int) 0 0 0 [.ref (v 5)] S (fun r S2 => r = some (.int (nI (pTk P))) ∧ RC S2 v ad ar PA X mb (incT P) ∧ keepX X S S2 ∧ frS S S2 (Qk v [5])) := by
  have hL := h.L
  refine (m_X1_newToken (lw_i5 hL)).post (fun r S2 hp => ?_)
  obtain ⟨hr, hS⟩ := hp
  have e := h.2.1.2.2
  rw [e] at hr hS
  rw [nI_1] at hS
  subst hS
  have f : frS S (wI S 66 (v 5) (nI (pTk P + 1))) (Qk v [5]) := (frS_wI (by decide)).mono (fun b z => ⟨5, by decide, z⟩)
  have no : ∀ j, j < 37 → j ≠ 5 → ¬ Qk v [5] (v j) := fun j hj h5 => Qk_no hL (by decide) hj (by simp; exact h5)
  have ei : ∀ F b, F ≠ 66 → sI (wI S 66 (v 5) (nI (pTk P + 1))) F b = sI S F b := fun F b hF => by rw [sI_wI, if_neg (fun z => hF z.1)]
  obtain ⟨a, b⟩ := RC.gen (P2 := incT P) h f (Qk37 (by decide)) (no 13 (by decide) (by decide)) (no 3 (by decide) (by decide)) (ei _ _ (by decide)) (ei _ _ (by decide)) rfl rfl ⟨(ei _ _ (by decide)).trans h.2.1.1, (ei _ _ (by decide)).trans h.2.1.2.1, wI_at⟩ (MaW.fr h.2.2.1 f (fun j h1 hj => no j (by omega) (by omega)) rfl rfl rfl rfl) (BuW.fr h.2.2.2.1 f (fun j hj => no _ (by omega) (by omega)) rfl) (ReW.fr h.2.2.2.2.1 f (no 18 (by decide) (by decide)) rfl) (TaW.fr h.2.2.2.2.2.2.1 f (no 0 (by decide) (by decide)) (no 1 (by decide) (by decide)) rfl) (h.2.2.2.2.2.2.2.1.fr f.fr (no 19 (by decide) (by decide)) (no 20 (by decide) (by decide))) h.2.2.2.2.2.2.2.2.1.2.1 h.2.2.2.2.2.2.2.2.1.2.2
  exact ⟨hr, a, b, f⟩
set_option maxHeartbeats 4000000 in
set_option maxRecDepth 100000 in
theorem c_mergedRoot {S : aw_S} {v ad ar : Nat → Nat} {PA : List (Nat × Nat)} {X : List Nat} {mb : Nat} {P : PS} (h : RC S v ad ar PA X mb P) (hP : PI P) {m r : Int32} {z : Tz} (hz : rootP P m = some z) {E O : List KV} (hR : RoW S (v 25) (v 26) (v 27) E) (hO : RoW S (v 28) (v 29) (v 30) O) (hsE : srt E) (hEk : ∀ x ∈ E, okE x) (hOk : ∀ x ∈ O, okE x) (hO6 : O.length ≤ 60) : aw_M yX10_mergedRoot cX10_mergedRoot 8 (some (FieldType.object "WideMap$Node")) 11 962 9139 [.ref (v 4), .ref (ad z.2.1), .int r] S (fun q S2 => ∃ ad2 ar2, q = some (.ref (ad2 (mrgL (pW P) (pTk P) E r O (z, pU P)).1.2.1)) ∧ RC S2 v ad2 ar2 PA X mb (setU (incT P) (mrgL (pW P) (pTk P) E r O (z, pU P)).2) ∧ TrW S2 ad2 ar2 (pU (setU (incT P) (mrgL (pW P) (pTk P) E r O (z, pU P)).2)) (mrgL (pW P) (pTk P) E r O (z, pU P)).1 ∧ keepX X S S2) := by
  have hL := h.L
  have t := h.tt hP hz
  have hs0 := mrgL_stn (E := E) (r := r) hP.1.1 (Nat.lt_succ_self (pTk P)) hEk O 60 (z, pU P) ((t.2.mono (Nat.le_refl _) (Nat.le_succ _)).n (Nat.le_refl _)) hOk (by omega)
  have hs1 := hs0.le hP.1.1 (t.2.mono (Nat.le_refl _) (Nat.le_succ _))
  have hs2 : (mrgL (pW P) (pTk P) E r O (z, pU P)).2 ≤ pU P + 61 + 7 * O.length := hs1
  obtain ⟨F, hF1⟩ : ∃ F, setU (incT P) (mrgL (pW P) (pTk P) E r O (z, pU P)).2 = F := ⟨_, rfl⟩
  obtain ⟨zF, hF2⟩ : ∃ zF, (mrgL (pW P) (pTk P) E r O (z, pU P)).1 = zF := ⟨_, rfl⟩
  have hfu : (mrgL (pW P) (pTk P) E r O (z, pU P)).2 = pU F := congrArg pU hF1
  rw [hfu] at hs2
  rw [hF1, hF2]
  obtain ⟨t9, ht9⟩ : ∃ n, n = pTk P := ⟨_, rfl⟩
  refine aw_enter (by decide +kernel) (Nat.le_of_ble_eq_true rfl) (fun g K EE => ?_)
  have loop : ∀ (i jj : Nat) (x : Int32) (T : aw_S) (ad ar : Nat → Nat) (P : PS) (z : Tz) (N k n : Nat), x = nI jj → jj + i = O.length → RC T v ad ar PA X mb P → TrW T ad ar (pU P) z → tkn N (pW P) (pU P) (pTk P) z → N + i ≤ 120 → (NTk P t9 ∧ t9 < pTk P ∧ pTk P < 2000000000 ∧ (3 ≤ pW P ∧ pW P ≤ 6)) → RoW T (v 25) (v 26) (v 27) E → RoW T (v 28) (v 29) (v 30) O → keepX X S T → (setU P (mrgL (pW P) t9 E r (O.drop jj) (z, pU P)).2 = F ∧ (mrgL (pW P) t9 E r (O.drop jj) (z, pU P)).1 = zF) → k + 2 * (pU F - pU P) ≤ 962 → n + 19 * (pU F - pU P) ≤ 9139 → aw g 8 T k n [(5, .int x), (4, .ref (ad z.2.1)), (3, .int (nI t9)), (2, .int r), (0, .ref (v 4))] [] 14 := by
    intro i
    induction i with
    | zero =>
      intro jj x T ad ar P z N k n hxx hi h tz tk hN hnn hR hO hX hF hk hn2
      subst hxx
      have hO60 := hO.2.2.2.2.2.2.2.2.2.1
      have hL := h.L
      obtain ⟨hn, htk, htl, hw3, hw6⟩ := id hnn
      have h50 := tk.h5 hw3 (show N ≤ 126 by omega)
      refine a_iload K dX10_mergedRoot_14 rfl ?_
      first | refine a_aload_n K dX10_mergedRoot_16 rfl ?_ | refine a_aload_nN K dX10_mergedRoot_16 rfl ?_
      refine a_getRs K fd_X10_81 (lw_i4 hL) (Or.inl ⟨_, rfl⟩) (lw_f653 hL) dX10_mergedRoot_17 ?_
      have hs := hO.2.2.2.2.2.2.2.2.1
      refine a_invV K (m_X7_size hO.1) my_X7_size ml_X10_138 im_X7_size se_X7_size (ci := 7) (by first | exact lw_i25 hL | exact lw_i28 hL | exact lw_i31 hL) (by decide) ⟨_, _, rfl⟩ rfl (by omega) (by omega) (by omega) rfl (Nat.le_of_ble_eq_true rfl) dX10_mergedRoot_20 ?_
      intro r9 S9 hp9
      obtain ⟨rfl, hS9⟩ := hp9
      obtain rfl := hS9.symm
      refine a_icmp_ge K dX10_mergedRoot_23 (tgt := 83) (by decide) (fun c_23 => ?_) (fun c_23 => absurd c_23 (by rw [hs]; exact fun z => z (nI_le (by omega) (by omega))))
      first | refine a_aload K dX10_mergedRoot_83 rfl ?_ | refine a_aloadN K dX10_mergedRoot_83 rfl ?_
      exact a_aret K EE (Or.inl ⟨_, rfl⟩) (Or.inr ⟨_, rfl⟩) (by omega) (by omega) dX10_mergedRoot_85 (by obtain ⟨hF1, hF2⟩ := hF; rw [show jj = O.length by omega, List.drop_length] at hF1 hF2; have e1 : P = F := (setU_self P).symm.trans hF1; have e2 : z = zF := hF2; subst e1; subst e2; exact ⟨ad, ar, rfl, h, ⟨tz, hX⟩⟩)
    | succ i ih =>
      intro jj x T ad ar P z N k n hxx hi h tz tk hN hnn hR hO hX hF hk hn2
      subst hxx
      have hO60 := hO.2.2.2.2.2.2.2.2.2.1
      have hL := h.L
      obtain ⟨hn, htk, htl, hw3, hw6⟩ := id hnn
      have h50 := tk.h5 hw3 (show N ≤ 126 by omega)
      refine a_iload K dX10_mergedRoot_14 rfl ?_
      first | refine a_aload_n K dX10_mergedRoot_16 rfl ?_ | refine a_aload_nN K dX10_mergedRoot_16 rfl ?_
      refine a_getRs K fd_X10_81 (lw_i4 hL) (Or.inl ⟨_, rfl⟩) (lw_f653 hL) dX10_mergedRoot_17 ?_
      have hs := hO.2.2.2.2.2.2.2.2.1
      have hjj : jj < O.length := by omega
      have hx9 := List.getElem?_eq_getElem hjj
      refine a_invV K (m_X7_size hO.1) my_X7_size ml_X10_138 im_X7_size se_X7_size (ci := 7) (by first | exact lw_i25 hL | exact lw_i28 hL | exact lw_i31 hL) (by decide) ⟨_, _, rfl⟩ rfl (by omega) (by omega) (by omega) rfl (Nat.le_of_ble_eq_true rfl) dX10_mergedRoot_20 ?_
      intro r9 S9 hp9
      obtain ⟨rfl, hS9⟩ := hp9
      obtain rfl := hS9.symm
      refine a_icmp_ge K dX10_mergedRoot_23 (tgt := 83) (by decide) (fun c_23 => absurd c_23 (by rw [hs]; exact nI_ge hjj (by omega))) (fun c_23 => ?_)
      first | refine a_aload_n K dX10_mergedRoot_26 rfl ?_ | refine a_aload_nN K dX10_mergedRoot_26 rfl ?_
      refine a_getRs K fd_X10_81 (lw_i4 hL) (Or.inl ⟨_, rfl⟩) (lw_f653 hL) dX10_mergedRoot_27 ?_
      refine a_iload K dX10_mergedRoot_30 rfl ?_
      refine a_invV K (m_R_keyAt hO (show jj < 2 ^ 31 by omega)) my_X7_keyAt ml_X10_139 im_X7_keyAt se_X7_keyAt (ci := 7) (by first | exact lw_i25 hL | exact lw_i28 hL | exact lw_i31 hL) (by decide) ⟨_, _, rfl⟩ rfl (by omega) (by omega) (by omega) rfl (Nat.le_of_ble_eq_true rfl) dX10_mergedRoot_32 ?_
      intro r9 S9 hp9
      obtain ⟨rfl, hS9⟩ := hp9
      obtain rfl := hS9.symm
      rw [keyAtL_in hx9]
      refine a_istore K dX10_mergedRoot_35 (by decide) ?_
      first | refine a_aload_n K dX10_mergedRoot_37 rfl ?_ | refine a_aload_nN K dX10_mergedRoot_37 rfl ?_
      refine a_getRs K fd_X10_77 (lw_i4 hL) (Or.inl ⟨_, rfl⟩) (lw_f652 hL) dX10_mergedRoot_38 ?_
      refine a_iload K dX10_mergedRoot_41 rfl ?_
      refine a_invV K (m_R_valueOf (key := O[jj].1) hR hsE) my_X7_valueOf ml_X10_263 im_X7_valueOf se_X7_valueOf (ci := 7) (by first | exact lw_i25 hL | exact lw_i28 hL | exact lw_i31 hL) (by decide) ⟨_, _, rfl⟩ rfl (by omega) (by omega) (by omega) rfl (Nat.le_of_ble_eq_true rfl) dX10_mergedRoot_43 ?_
      intro r9 S9 hp9
      obtain ⟨rfl, hS9⟩ := hp9
      obtain rfl := hS9.symm
      first | refine a_aload_n K dX10_mergedRoot_46 rfl ?_ | refine a_aload_nN K dX10_mergedRoot_46 rfl ?_
      refine a_getRs K fd_X10_81 (lw_i4 hL) (Or.inl ⟨_, rfl⟩) (lw_f653 hL) dX10_mergedRoot_47 ?_
      refine a_iload K dX10_mergedRoot_50 rfl ?_
      refine a_invV K (m_R_valueAt hO (show jj < 2 ^ 31 by omega)) my_X7_valueAt ml_X10_142 im_X7_valueAt se_X7_valueAt (ci := 7) (by first | exact lw_i25 hL | exact lw_i28 hL | exact lw_i31 hL) (by decide) ⟨_, _, rfl⟩ rfl (by omega) (by omega) (by omega) rfl (Nat.le_of_ble_eq_true rfl) dX10_mergedRoot_52 ?_
      intro r9 S9 hp9
      obtain ⟨rfl, hS9⟩ := hp9
      obtain rfl := hS9.symm
      rw [valAtL_in hx9]
      refine a_iload_n K dX10_mergedRoot_55 rfl ?_
      refine a_invS K (m_X10_ruled) my_X10_ruled ml_X10_266 st_X10_ruled rfl (by omega) (by omega) (by omega) rfl (Nat.le_of_ble_eq_true rfl) dX10_mergedRoot_56 ?_
      intro r9 S9 hp9
      obtain ⟨rfl, hS9⟩ := hp9
      obtain rfl := hS9.symm
      refine a_istore K dX10_mergedRoot_59 (by decide) ?_
      have st2 : stn (N + 1) 7 (pW P) (pTk P) t9 (z, pU P) (putT (pW P) t9 (pU P) O[jj].1 (rulV (valIn E O[jj].1) O[jj].2 r) z) := stn_put (k := O[jj].1) (s := (z, pU P)) hw3 tk (by omega) htk ⟨(hOk _ (List.getElem_mem hjj)).1, rulV_ok (valIn_ok hEk _) (hOk _ (List.getElem_mem hjj)).2⟩
      have st3 := mrgL_stn (r := r) hw3 htk hEk (O.drop (jj + 1)) (N + 1) (putT (pW P) t9 (pU P) O[jj].1 (rulV (valIn E O[jj].1) O[jj].2 r) z) st2.1 (fun y hy => hOk y (List.mem_of_mem_drop hy)) (by rw [List.length_drop]; omega)
      have hfu : (mrgL (pW P) t9 E r (O.drop (jj + 1)) (putT (pW P) t9 (pU P) O[jj].1 (rulV (valIn E O[jj].1) O[jj].2 r) z)).2 = pU F := by have hF := hF.1; rw [mrgL_at hjj] at hF; exact congrArg pU hF
      have hu1 : pU P ≤ (putT (pW P) t9 (pU P) O[jj].1 (rulV (valIn E O[jj].1) O[jj].2 r) z).2 := st2.2.1
      have hu2 := st3.2.1
      rw [hfu] at hu2
      first | refine a_aload_n K dX10_mergedRoot_61 rfl ?_ | refine a_aload_nN K dX10_mergedRoot_61 rfl ?_
      refine a_getRs K fd_X10_39 (lw_i4 hL) (Or.inl ⟨_, rfl⟩) (lw_f645 hL) dX10_mergedRoot_62 ?_
      first | refine a_aload K dX10_mergedRoot_65 rfl ?_ | refine a_aloadN K dX10_mergedRoot_65 rfl ?_
      refine a_iload_n K dX10_mergedRoot_67 rfl ?_
      refine a_iload K dX10_mergedRoot_68 rfl ?_
      refine a_iload K dX10_mergedRoot_70 rfl ?_
      refine a_invV K (m_putZ hw3 hw6 (tk := t9) (u := pU P) (key := O[jj].1) (v := rulV (valIn E O[jj].1) O[jj].2 r) (z := z) (lw_i5 hL) h.2.1.1 h.2.2.2.2.2.2.2.2.1.1 tz.1 tk.1 tk.2.2.2.1 (by omega) (by omega)) my_X1_put ml_X10_145 im_X1_put se_X1_put (ci := 1) (lw_i5 hL) (by decide) ⟨_, _, rfl⟩ rfl (by omega) (by omega) (by omega) rfl (Nat.le_of_ble_eq_true rfl) dX10_mergedRoot_72 ?_
      intro r9 S9 hp9
      obtain ⟨ad2, ar2, rfl, G, rz⟩ := hp9
      obtain ⟨h5, k5⟩ := h.grn hn tz G
      have hL := h5.L
      have hR5 : RoW S9 (v 25) (v 26) (v 27) E := hR.fr G.2.2.2.2.2 (h.ngp tz.2 (by decide) (by decide)) (h.ngp tz.2 (by decide) (by decide)) (h.ngp tz.2 (by decide) (by decide))
      have hO5 : RoW S9 (v 28) (v 29) (v 30) O := hO.fr G.2.2.2.2.2 (h.ngp tz.2 (by decide) (by decide)) (h.ngp tz.2 (by decide) (by decide)) (h.ngp tz.2 (by decide) (by decide))
      first | refine a_astore K dX10_mergedRoot_75 (by decide) ?_ | refine a_astoreN K dX10_mergedRoot_75 (by decide) ?_
      refine a_iinc K dX10_mergedRoot_77 (v := 1) rfl (by decide) (by decide) ?_
      refine a_goto K dX10_mergedRoot_80 (tgt := 14) (by decide) ?_
      exact aw_locl rfl (ih (jj + 1) _ S9 ad2 ar2 (setU P (putT (pW P) t9 (pU P) O[jj].1 (rulV (valIn E O[jj].1) O[jj].2 r) z).2) (putT (pW P) t9 (pU P) O[jj].1 (rulV (valIn E O[jj].1) O[jj].2 r) z).1 (N + 1) _ _ (nI_1 jj) (by omega) h5 ⟨rz, st2.1.2.2.2.1.1⟩ st2.1 (by omega) hnn hR5 hO5 (hX.tr k5) (by rw [mrgL_at hjj] at hF; exact ⟨(setU_setU (P := P) st2.2.1 st3.2.1).trans hF.1, hF.2⟩) (by show _ + 2 * (pU F - (putT (pW P) t9 (pU P) O[jj].1 (rulV (valIn E O[jj].1) O[jj].2 r) z).2) ≤ _; omega) (by show _ + 19 * (pU F - (putT (pW P) t9 (pU P) O[jj].1 (rulV (valIn E O[jj].1) O[jj].2 r) z).2) ≤ _; omega))
  subst ht9
  first | refine a_aload_n K dX10_mergedRoot_0 rfl ?_ | refine a_aload_nN K dX10_mergedRoot_0 rfl ?_
  refine a_getRs K fd_X10_39 (lw_i4 hL) (Or.inl ⟨_, rfl⟩) (lw_f645 hL) dX10_mergedRoot_1 ?_
  refine a_invV K (c_newTokenR h) my_X1_newToken ml_X10_131 im_X1_newToken se_X1_newToken (ci := 1) (lw_i5 hL) (by decide) ⟨_, _, rfl⟩ rfl (by omega) (by omega) (by omega) rfl (Nat.le_of_ble_eq_true rfl) dX10_mergedRoot_4 ?_
  intro r9 S9 hp9
  obtain ⟨rfl, h2, k2, e2⟩ := hp9
  have hL := h2.L
  have t2 : TT_ S9 ad ar (incT P) z := ⟨h2.trw hz rfl, t.2.mono (Nat.le_refl _) (Nat.le_succ _)⟩
  have hR2 := hR.fr e2.fr (Qk_no hL (by decide) (by decide) (by decide)) (Qk_no hL (by decide) (by decide) (by decide)) (Qk_no hL (by decide) (by decide) (by decide))
  have hO2 := hO.fr e2.fr (Qk_no hL (by decide) (by decide) (by decide)) (Qk_no hL (by decide) (by decide) (by decide)) (Qk_no hL (by decide) (by decide) (by decide))
  refine a_istore_n K dX10_mergedRoot_7 (by decide) ?_
  first | refine a_aload_n K dX10_mergedRoot_8 rfl ?_ | refine a_aload_nN K dX10_mergedRoot_8 rfl ?_
  first | refine a_astore K dX10_mergedRoot_9 (by decide) ?_ | refine a_astoreN K dX10_mergedRoot_9 (by decide) ?_
  refine a_iconst K dX10_mergedRoot_11 (v := 0) (by decide) ?_
  refine a_istore K dX10_mergedRoot_12 (by decide) ?_
  exact aw_locl rfl (loop O.length 0 _ S9 ad ar (incT P) z 60 0 0 nI_0.symm (by omega) h2 t2.1 (t2.2.n (Nat.le_refl _)) (by omega) ⟨⟨fun x hx y hy => Nat.ne_of_lt (hP.new.1 x hx y hy), fun j b hb y hy => Nat.ne_of_lt (hP.new.2 j b hb y hy)⟩, Nat.lt_succ_self _, (by show pTk P + 1 < _; have h1 := hP.2.2.2; omega), hP.1⟩ hR2 hO2 k2 ⟨hF1, hF2⟩ (by show 0 + 2 * (pU F - pU P) ≤ _; omega) (by show 0 + 19 * (pU F - pU P) ≤ _; omega))
theorem rng03 {r : Int32} (hx : ¬ (0 ≤ r.toInt ∧ r.toInt ≤ 3)) (c1 : ¬ r < 0) (c2 : r ≤ 3) : False := by
  rw [i32_lt] at c1
  rw [i32_le] at c2
  have e0 : (0 : Int32).toInt = 0 := by decide
  have e3 : (3 : Int32).toInt = 3 := by decide
  omega
theorem rng03_lo {r : Int32} (hx : 0 ≤ r.toInt) : ¬ r < 0 := by
  rw [i32_lt]
  have e0 : (0 : Int32).toInt = 0 := by decide
  omega
theorem rng03_hi {r : Int32} (hx : r.toInt ≤ 3) : r ≤ 3 := by
  rw [i32_le]
  have e3 : (3 : Int32).toInt = 3 := by decide
  omega
theorem nI_le9 {n : Nat} (h : nI n ≤ 60) : n ≤ 60 ∨ 2147483648 ≤ n := by
  by_cases e : 2147483648 ≤ n
  · exact Or.inr e
  · have h1 := i32_le.mp h
    rw [nI_toInt (by omega)] at h1
    have e3 : (60 : Int32).toInt = 60 := by decide
    omega
set_option maxHeartbeats 4000000 in
set_option maxRecDepth 100000 in
theorem c_merge {S : aw_S} {v ad ar : Nat → Nat} {PA : List (Nat × Nat)} {X : List Nat} {mb : Nat} {P : PS} (h : RC S v ad ar PA X mb P) (hP : PI P) (hm : mb + 1 < 2147483000) {m o r : Int32} : aw_M yX10_merge cX10_merge 6 (some FieldType.int) 12 962 9139 [.ref (v 4), .int m, .int o, .int r] S (mutQ X v PA (mb + 1) S (mrgF P m o r)) := by
  have hL := h.L
  cases hz : rootP P m with
  | none =>
    cases hy : rootP P o with
    | none =>
      refine aw_enter (by decide +kernel) (Nat.le_of_ble_eq_true rfl) (fun g K EE => ?_)
      first | refine a_aload_n K dX10_merge_0 rfl ?_ | refine a_aload_nN K dX10_merge_0 rfl ?_
      refine a_getRs K fd_X10_46 (lw_i4 hL) (Or.inl ⟨_, rfl⟩) (lw_f646 hL) dX10_merge_1 ?_
      refine a_iload_n K dX10_merge_4 rfl ?_
      refine a_invV K (m_root h m) my_X3_heldRoot ml_X10_165 im_X3_heldRoot se_X3_heldRoot (ci := 3) (lw_i6 hL) (by decide) ⟨_, _, rfl⟩ rfl (by omega) (by omega) (by omega) rfl (Nat.le_of_ble_eq_true rfl) dX10_merge_5 ?_
      intro r9 S9 hp9
      obtain ⟨rfl, hS9⟩ := hp9
      obtain rfl := hS9.symm
      rw [hz]
      first | refine a_astore K dX10_merge_8 (by decide) ?_ | refine a_astoreN K dX10_merge_8 (by decide) ?_
      first | refine a_aload_n K dX10_merge_10 rfl ?_ | refine a_aload_nN K dX10_merge_10 rfl ?_
      refine a_getRs K fd_X10_46 (lw_i4 hL) (Or.inl ⟨_, rfl⟩) (lw_f646 hL) dX10_merge_11 ?_
      refine a_iload_n K dX10_merge_14 rfl ?_
      refine a_invV K (m_root h o) my_X3_heldRoot ml_X10_165 im_X3_heldRoot se_X3_heldRoot (ci := 3) (lw_i6 hL) (by decide) ⟨_, _, rfl⟩ rfl (by omega) (by omega) (by omega) rfl (Nat.le_of_ble_eq_true rfl) dX10_merge_15 ?_
      intro r9 S9 hp9
      obtain ⟨rfl, hS9⟩ := hp9
      obtain rfl := hS9.symm
      rw [hy]
      first | refine a_astore K dX10_merge_18 (by decide) ?_ | refine a_astoreN K dX10_merge_18 (by decide) ?_
      first | refine a_aload K dX10_merge_20 rfl ?_ | refine a_aloadN K dX10_merge_20 rfl ?_
      refine a_ifnullN K dX10_merge_22 (tgt := 30) (by decide) ?_
      first | refine a_aload_n K dX10_merge_30 rfl ?_ | refine a_aload_nN K dX10_merge_30 rfl ?_
      refine a_iconst K dX10_merge_31 (v := 0) (by decide) ?_
      refine a_invV K (c_refused h 0 (by decide)) my_X10_refused ml_X10_128 im_X10_refused se_X10_refused (ci := 10) (lw_i4 hL) (by decide) ⟨_, _, rfl⟩ rfl (by omega) (by omega) (by omega) rfl (Nat.le_of_ble_eq_true rfl) dX10_merge_32 ?_
      intro r9 S9 hp9
      obtain ⟨rfl, h8, k8⟩ := hp9
      exact a_iret K EE rfl (by omega) (by omega) dX10_merge_35 (by unfold mrgF; rw [hz]; exact ⟨ad, ar, rfl, h8.up (by omega) (by omega), k8⟩)
    | some y =>
      refine aw_enter (by decide +kernel) (Nat.le_of_ble_eq_true rfl) (fun g K EE => ?_)
      first | refine a_aload_n K dX10_merge_0 rfl ?_ | refine a_aload_nN K dX10_merge_0 rfl ?_
      refine a_getRs K fd_X10_46 (lw_i4 hL) (Or.inl ⟨_, rfl⟩) (lw_f646 hL) dX10_merge_1 ?_
      refine a_iload_n K dX10_merge_4 rfl ?_
      refine a_invV K (m_root h m) my_X3_heldRoot ml_X10_165 im_X3_heldRoot se_X3_heldRoot (ci := 3) (lw_i6 hL) (by decide) ⟨_, _, rfl⟩ rfl (by omega) (by omega) (by omega) rfl (Nat.le_of_ble_eq_true rfl) dX10_merge_5 ?_
      intro r9 S9 hp9
      obtain ⟨rfl, hS9⟩ := hp9
      obtain rfl := hS9.symm
      rw [hz]
      first | refine a_astore K dX10_merge_8 (by decide) ?_ | refine a_astoreN K dX10_merge_8 (by decide) ?_
      first | refine a_aload_n K dX10_merge_10 rfl ?_ | refine a_aload_nN K dX10_merge_10 rfl ?_
      refine a_getRs K fd_X10_46 (lw_i4 hL) (Or.inl ⟨_, rfl⟩) (lw_f646 hL) dX10_merge_11 ?_
      refine a_iload_n K dX10_merge_14 rfl ?_
      refine a_invV K (m_root h o) my_X3_heldRoot ml_X10_165 im_X3_heldRoot se_X3_heldRoot (ci := 3) (lw_i6 hL) (by decide) ⟨_, _, rfl⟩ rfl (by omega) (by omega) (by omega) rfl (Nat.le_of_ble_eq_true rfl) dX10_merge_15 ?_
      intro r9 S9 hp9
      obtain ⟨rfl, hS9⟩ := hp9
      obtain rfl := hS9.symm
      rw [hy]
      first | refine a_astore K dX10_merge_18 (by decide) ?_ | refine a_astoreN K dX10_merge_18 (by decide) ?_
      first | refine a_aload K dX10_merge_20 rfl ?_ | refine a_aloadN K dX10_merge_20 rfl ?_
      refine a_ifnullN K dX10_merge_22 (tgt := 30) (by decide) ?_
      first | refine a_aload_n K dX10_merge_30 rfl ?_ | refine a_aload_nN K dX10_merge_30 rfl ?_
      refine a_iconst K dX10_merge_31 (v := 0) (by decide) ?_
      refine a_invV K (c_refused h 0 (by decide)) my_X10_refused ml_X10_128 im_X10_refused se_X10_refused (ci := 10) (lw_i4 hL) (by decide) ⟨_, _, rfl⟩ rfl (by omega) (by omega) (by omega) rfl (Nat.le_of_ble_eq_true rfl) dX10_merge_32 ?_
      intro r9 S9 hp9
      obtain ⟨rfl, h8, k8⟩ := hp9
      exact a_iret K EE rfl (by omega) (by omega) dX10_merge_35 (by unfold mrgF; rw [hz]; exact ⟨ad, ar, rfl, h8.up (by omega) (by omega), k8⟩)
  | some z =>
    have tz := h.tt hP hz
    obtain ⟨hz4, -, -⟩ := tz.2.h4 hP.1.1
    cases hy : rootP P o with
    | none =>
      refine aw_enter (by decide +kernel) (Nat.le_of_ble_eq_true rfl) (fun g K EE => ?_)
      first | refine a_aload_n K dX10_merge_0 rfl ?_ | refine a_aload_nN K dX10_merge_0 rfl ?_
      refine a_getRs K fd_X10_46 (lw_i4 hL) (Or.inl ⟨_, rfl⟩) (lw_f646 hL) dX10_merge_1 ?_
      refine a_iload_n K dX10_merge_4 rfl ?_
      refine a_invV K (m_root h m) my_X3_heldRoot ml_X10_165 im_X3_heldRoot se_X3_heldRoot (ci := 3) (lw_i6 hL) (by decide) ⟨_, _, rfl⟩ rfl (by omega) (by omega) (by omega) rfl (Nat.le_of_ble_eq_true rfl) dX10_merge_5 ?_
      intro r9 S9 hp9
      obtain ⟨rfl, hS9⟩ := hp9
      obtain rfl := hS9.symm
      rw [hz]
      first | refine a_astore K dX10_merge_8 (by decide) ?_ | refine a_astoreN K dX10_merge_8 (by decide) ?_
      first | refine a_aload_n K dX10_merge_10 rfl ?_ | refine a_aload_nN K dX10_merge_10 rfl ?_
      refine a_getRs K fd_X10_46 (lw_i4 hL) (Or.inl ⟨_, rfl⟩) (lw_f646 hL) dX10_merge_11 ?_
      refine a_iload_n K dX10_merge_14 rfl ?_
      refine a_invV K (m_root h o) my_X3_heldRoot ml_X10_165 im_X3_heldRoot se_X3_heldRoot (ci := 3) (lw_i6 hL) (by decide) ⟨_, _, rfl⟩ rfl (by omega) (by omega) (by omega) rfl (Nat.le_of_ble_eq_true rfl) dX10_merge_15 ?_
      intro r9 S9 hp9
      obtain ⟨rfl, hS9⟩ := hp9
      obtain rfl := hS9.symm
      rw [hy]
      first | refine a_astore K dX10_merge_18 (by decide) ?_ | refine a_astoreN K dX10_merge_18 (by decide) ?_
      first | refine a_aload K dX10_merge_20 rfl ?_ | refine a_aloadN K dX10_merge_20 rfl ?_
      refine a_ifnull K dX10_merge_22 ?_
      first | refine a_aload K dX10_merge_25 rfl ?_ | refine a_aloadN K dX10_merge_25 rfl ?_
      refine a_ifnonnullN K dX10_merge_27 ?_
      first | refine a_aload_n K dX10_merge_30 rfl ?_ | refine a_aload_nN K dX10_merge_30 rfl ?_
      refine a_iconst K dX10_merge_31 (v := 0) (by decide) ?_
      refine a_invV K (c_refused h 0 (by decide)) my_X10_refused ml_X10_128 im_X10_refused se_X10_refused (ci := 10) (lw_i4 hL) (by decide) ⟨_, _, rfl⟩ rfl (by omega) (by omega) (by omega) rfl (Nat.le_of_ble_eq_true rfl) dX10_merge_32 ?_
      intro r9 S9 hp9
      obtain ⟨rfl, h8, k8⟩ := hp9
      exact a_iret K EE rfl (by omega) (by omega) dX10_merge_35 (by unfold mrgF; rw [hz, hy]; exact ⟨ad, ar, rfl, h8.up (by omega) (by omega), k8⟩)
    | some y =>
      have ty := h.tt hP hy
      obtain ⟨hy4, -, -⟩ := ty.2.h4 hP.1.1
      have hO6 : (ownE z y).length ≤ 60 := Nat.le_trans (entU_sub _ y.1 y.2).length_le ty.2.2.2.1
      have hOk : ∀ x ∈ ownE z y, okE x := fun x hx => ty.2.2.1 x ((entU_sub _ y.1 y.2).subset hx)
      have hsw := (swE_le (ent z.1 z.2) (ownE z y) (ent z.1 z.2).length).2
      have hz60 := tz.2.2.2.1
      by_cases hx : 0 ≤ r.toInt ∧ r.toInt ≤ 3
      · by_cases hsz : swE (ent z.1 z.2) (ownE z y) (ent z.1 z.2).length ≤ 60
        · by_cases hr : hcnt (pH P) < 16 ∧ (pM P).length < 999
          · refine aw_enter (by decide +kernel) (Nat.le_of_ble_eq_true rfl) (fun g K EE => ?_)
            first | refine a_aload_n K dX10_merge_0 rfl ?_ | refine a_aload_nN K dX10_merge_0 rfl ?_
            refine a_getRs K fd_X10_46 (lw_i4 hL) (Or.inl ⟨_, rfl⟩) (lw_f646 hL) dX10_merge_1 ?_
            refine a_iload_n K dX10_merge_4 rfl ?_
            refine a_invV K (m_root h m) my_X3_heldRoot ml_X10_165 im_X3_heldRoot se_X3_heldRoot (ci := 3) (lw_i6 hL) (by decide) ⟨_, _, rfl⟩ rfl (by omega) (by omega) (by omega) rfl (Nat.le_of_ble_eq_true rfl) dX10_merge_5 ?_
            intro r9 S9 hp9
            obtain ⟨rfl, hS9⟩ := hp9
            obtain rfl := hS9.symm
            rw [hz]
            first | refine a_astore K dX10_merge_8 (by decide) ?_ | refine a_astoreN K dX10_merge_8 (by decide) ?_
            first | refine a_aload_n K dX10_merge_10 rfl ?_ | refine a_aload_nN K dX10_merge_10 rfl ?_
            refine a_getRs K fd_X10_46 (lw_i4 hL) (Or.inl ⟨_, rfl⟩) (lw_f646 hL) dX10_merge_11 ?_
            refine a_iload_n K dX10_merge_14 rfl ?_
            refine a_invV K (m_root h o) my_X3_heldRoot ml_X10_165 im_X3_heldRoot se_X3_heldRoot (ci := 3) (lw_i6 hL) (by decide) ⟨_, _, rfl⟩ rfl (by omega) (by omega) (by omega) rfl (Nat.le_of_ble_eq_true rfl) dX10_merge_15 ?_
            intro r9 S9 hp9
            obtain ⟨rfl, hS9⟩ := hp9
            obtain rfl := hS9.symm
            rw [hy]
            first | refine a_astore K dX10_merge_18 (by decide) ?_ | refine a_astoreN K dX10_merge_18 (by decide) ?_
            first | refine a_aload K dX10_merge_20 rfl ?_ | refine a_aloadN K dX10_merge_20 rfl ?_
            refine a_ifnull K dX10_merge_22 ?_
            first | refine a_aload K dX10_merge_25 rfl ?_ | refine a_aloadN K dX10_merge_25 rfl ?_
            refine a_ifnonnull K dX10_merge_27 (tgt := 36) (by decide) ?_
            refine a_iload_n K dX10_merge_36 rfl ?_
            refine a_if_lt K dX10_merge_37 (tgt := 45) (by decide) (fun c_37 => absurd c_37 (rng03_lo hx.1)) (fun c_37 => ?_)
            refine a_iload_n K dX10_merge_40 rfl ?_
            refine a_iconst K dX10_merge_41 (v := 3) (by decide) ?_
            refine a_icmp_le K dX10_merge_42 (tgt := 51) (by decide) (fun c_42 => ?_) (fun c_42 => absurd c_42 (fun z => z (rng03_hi hx.2)))
            first | refine a_aload_n K dX10_merge_51 rfl ?_ | refine a_aload_nN K dX10_merge_51 rfl ?_
            refine a_getRs K fd_X10_77 (lw_i4 hL) (Or.inl ⟨_, rfl⟩) (lw_f652 hL) dX10_merge_52 ?_
            first | refine a_aload K dX10_merge_55 rfl ?_ | refine a_aloadN K dX10_merge_55 rfl ?_
            refine a_invV K (m_fill25 h hP.1.1 tz) my_X7_fill ml_X10_173 im_X7_fill se_X7_fill (ci := 7) (by first | exact lw_i25 hL | exact lw_i28 hL | exact lw_i31 hL) (by decide) ⟨_, _, rfl⟩ rfl (by omega) (by omega) (by omega) rfl (Nat.le_of_ble_eq_true rfl) dX10_merge_57 ?_
            intro r9 S9 hp9
            obtain ⟨rfl, hR, h2, k2, f2⟩ := hp9
            have hL := h2.L
            have tz2 := TT_.fr h f2 (scr_Ro25 v) tz
            first | refine a_aload_n K dX10_merge_60 rfl ?_ | refine a_aload_nN K dX10_merge_60 rfl ?_
            refine a_getRs K fd_X10_81 (lw_i4 hL) (Or.inl ⟨_, rfl⟩) (lw_f653 hL) dX10_merge_61 ?_
            first | refine a_aload K dX10_merge_64 rfl ?_ | refine a_aloadN K dX10_merge_64 rfl ?_
            first | refine a_aload_n K dX10_merge_66 rfl ?_ | refine a_aload_nN K dX10_merge_66 rfl ?_
            first | refine a_aload K dX10_merge_67 rfl ?_ | refine a_aloadN K dX10_merge_67 rfl ?_
            refine a_invV K (c_markedR h2 hP hm tz2) my_X10_marked ml_X10_249 im_X10_marked se_X10_marked (ci := 10) (lw_i4 hL) (by decide) ⟨_, _, rfl⟩ rfl (by omega) (by omega) (by omega) rfl (Nat.le_of_ble_eq_true rfl) dX10_merge_69 ?_
            intro r9 S9 hp9
            obtain ⟨mr, rfl, hmr, h3, k3, e3, n3, rr3⟩ := hp9
            have hL := h3.L
            have hR3 := rr3 _ hR
            have ty3 : TT_ S9 ad ar P y := ⟨h3.trw hy rfl, ty.2⟩
            refine a_invV K (m_R_fillU (mk := mkS (fun _ => false) (sub z.1 z.2)) (lw_Ro28 hL) ty3.1.1 (by omega) (h3.scq (fun b y => scr37 (scr_Ro28 v b y)) ty3.1) (fun x hx => n3 x.1 (ty3.1.2 x hx)) hO6) my_X7_fillUnmarked ml_X10_252 im_X7_fillUnmarked se_X7_fillUnmarked (ci := 7) (by first | exact lw_i25 hL | exact lw_i28 hL | exact lw_i31 hL) (by decide) ⟨_, _, rfl⟩ rfl (by omega) (by omega) (by omega) rfl (Nat.le_of_ble_eq_true rfl) dX10_merge_72 ?_
            intro r9 S9 hp9
            obtain ⟨rfl, hO, f4⟩ := hp9
            obtain ⟨h4, k4⟩ := h3.scr f4 (scr_Ro28 v)
            have hL := h4.L
            have hR4 := hR3.fr f4.fr (vqro28 hL (by decide)) (vqro28 hL (by decide)) (vqro28 hL (by decide))
            first | refine a_aload_n K dX10_merge_75 rfl ?_ | refine a_aload_nN K dX10_merge_75 rfl ?_
            refine a_getRs K fd_X10_77 (lw_i4 hL) (Or.inl ⟨_, rfl⟩) (lw_f652 hL) dX10_merge_76 ?_
            first | refine a_aload_n K dX10_merge_79 rfl ?_ | refine a_aload_nN K dX10_merge_79 rfl ?_
            refine a_getRs K fd_X10_81 (lw_i4 hL) (Or.inl ⟨_, rfl⟩) (lw_f653 hL) dX10_merge_80 ?_
            refine a_invV K (m_R_sizeWith hR4 hO tz.2.1.2.2.2.1 rfl) my_X7_sizeWith ml_X10_256 im_X7_sizeWith se_X7_sizeWith (ci := 7) (by first | exact lw_i25 hL | exact lw_i28 hL | exact lw_i31 hL) (by decide) ⟨_, _, rfl⟩ rfl (by omega) (by omega) (by omega) rfl (Nat.le_of_ble_eq_true rfl) dX10_merge_83 ?_
            intro r9 S9 hp9
            obtain ⟨rfl, hS9⟩ := hp9
            obtain rfl := hS9.symm
            refine a_bipush K dX10_merge_86 (v := 60) (by decide) ?_
            refine a_icmp_le K dX10_merge_88 (tgt := 97) (by decide) (fun c_88 => ?_) (fun c_88 => absurd c_88 (fun z => z (nI_le (b := 60) hsz (by omega))))
            first | refine a_aload_n K dX10_merge_97 rfl ?_ | refine a_aload_nN K dX10_merge_97 rfl ?_
            refine a_getRs K fd_X10_46 (lw_i4 hL) (Or.inl ⟨_, rfl⟩) (lw_f646 hL) dX10_merge_98 ?_
            refine a_invV K (m_X3_hasRoom (lw_i6 hL) h4.2.2.1.2.2.1 h4.2.2.1.1 (show hcnt (pH P) < 1000000 by have h1 := List.countP_le_length (p := pH P) (l := List.range 999); rw [List.length_range] at h1; unfold hcnt; omega) (show (pM P).length < 1000000 by have h1 := h4.2.2.1.2.1; omega)) my_X3_hasRoom ml_X10_124 im_X3_hasRoom se_X3_hasRoom (ci := 3) (lw_i6 hL) (by decide) ⟨_, _, rfl⟩ rfl (by omega) (by omega) (by omega) rfl (Nat.le_of_ble_eq_true rfl) dX10_merge_101 ?_
            intro r9 S9 hp9
            obtain ⟨hS9, hb9⟩ := hp9
            obtain rfl := hS9.symm
            obtain rfl : r9 = some (.int 1) := hb9.elim (fun y => y.2) (fun y => absurd hr y.1)
            refine a_if_ne K dX10_merge_104 (tgt := 113) (by decide) (fun c_104 => ?_) (fun c_104 => absurd c_104 (by decide))
            first | refine a_aload_n K dX10_merge_113 rfl ?_ | refine a_aload_nN K dX10_merge_113 rfl ?_
            refine a_getRs K fd_X10_46 (lw_i4 hL) (Or.inl ⟨_, rfl⟩) (lw_f646 hL) dX10_merge_114 ?_
            first | refine a_aload_n K dX10_merge_117 rfl ?_ | refine a_aload_nN K dX10_merge_117 rfl ?_
            first | refine a_aload K dX10_merge_118 rfl ?_ | refine a_aloadN K dX10_merge_118 rfl ?_
            refine a_iload_n K dX10_merge_120 rfl ?_
            refine a_invV K (c_mergedRoot h4 hP hz hR4 hO tz.2.1.2.2.2.1 tz.2.2.1 hOk hO6) my_X10_mergedRoot ml_X10_259 im_X10_mergedRoot se_X10_mergedRoot (ci := 10) (lw_i4 hL) (by decide) ⟨_, _, rfl⟩ rfl (by omega) (by omega) (by omega) rfl (Nat.le_of_ble_eq_true rfl) dX10_merge_121 ?_
            intro r9 S9 hp9
            obtain ⟨ad2, ar2, rfl, h5, t5, k5⟩ := hp9
            have hL := h5.L
            refine a_iload_n K dX10_merge_124 rfl ?_
            refine a_iload_n K dX10_merge_125 rfl ?_
            refine a_invV K (c_keep h5 t5 hr.2) my_X3_keep ml_X10_149 im_X3_keep se_X3_keep (ci := 3) (lw_i6 hL) (by decide) ⟨_, _, rfl⟩ rfl (by omega) (by omega) (by omega) rfl (Nat.le_of_ble_eq_true rfl) dX10_merge_126 ?_
            intro r9 S9 hp9
            obtain ⟨rfl, h8, k8⟩ := hp9
            exact a_iret K EE rfl (by omega) (by omega) dX10_merge_129 (by unfold mrgF; rw [hz, hy]; show mutQ X v PA (mb + 1) S (ite _ _ _) _ _; rw [if_pos hx]; show mutQ X v PA (mb + 1) S (ite _ _ _) _ _; rw [if_pos hsz]; show mutQ X v PA (mb + 1) S (ite _ _ _) _ _; rw [if_pos hr]; exact ⟨ad2, ar2, rfl, h8, (((k2.tr k3).tr k4).tr k5).tr k8⟩)
          · refine aw_enter (by decide +kernel) (Nat.le_of_ble_eq_true rfl) (fun g K EE => ?_)
            first | refine a_aload_n K dX10_merge_0 rfl ?_ | refine a_aload_nN K dX10_merge_0 rfl ?_
            refine a_getRs K fd_X10_46 (lw_i4 hL) (Or.inl ⟨_, rfl⟩) (lw_f646 hL) dX10_merge_1 ?_
            refine a_iload_n K dX10_merge_4 rfl ?_
            refine a_invV K (m_root h m) my_X3_heldRoot ml_X10_165 im_X3_heldRoot se_X3_heldRoot (ci := 3) (lw_i6 hL) (by decide) ⟨_, _, rfl⟩ rfl (by omega) (by omega) (by omega) rfl (Nat.le_of_ble_eq_true rfl) dX10_merge_5 ?_
            intro r9 S9 hp9
            obtain ⟨rfl, hS9⟩ := hp9
            obtain rfl := hS9.symm
            rw [hz]
            first | refine a_astore K dX10_merge_8 (by decide) ?_ | refine a_astoreN K dX10_merge_8 (by decide) ?_
            first | refine a_aload_n K dX10_merge_10 rfl ?_ | refine a_aload_nN K dX10_merge_10 rfl ?_
            refine a_getRs K fd_X10_46 (lw_i4 hL) (Or.inl ⟨_, rfl⟩) (lw_f646 hL) dX10_merge_11 ?_
            refine a_iload_n K dX10_merge_14 rfl ?_
            refine a_invV K (m_root h o) my_X3_heldRoot ml_X10_165 im_X3_heldRoot se_X3_heldRoot (ci := 3) (lw_i6 hL) (by decide) ⟨_, _, rfl⟩ rfl (by omega) (by omega) (by omega) rfl (Nat.le_of_ble_eq_true rfl) dX10_merge_15 ?_
            intro r9 S9 hp9
            obtain ⟨rfl, hS9⟩ := hp9
            obtain rfl := hS9.symm
            rw [hy]
            first | refine a_astore K dX10_merge_18 (by decide) ?_ | refine a_astoreN K dX10_merge_18 (by decide) ?_
            first | refine a_aload K dX10_merge_20 rfl ?_ | refine a_aloadN K dX10_merge_20 rfl ?_
            refine a_ifnull K dX10_merge_22 ?_
            first | refine a_aload K dX10_merge_25 rfl ?_ | refine a_aloadN K dX10_merge_25 rfl ?_
            refine a_ifnonnull K dX10_merge_27 (tgt := 36) (by decide) ?_
            refine a_iload_n K dX10_merge_36 rfl ?_
            refine a_if_lt K dX10_merge_37 (tgt := 45) (by decide) (fun c_37 => absurd c_37 (rng03_lo hx.1)) (fun c_37 => ?_)
            refine a_iload_n K dX10_merge_40 rfl ?_
            refine a_iconst K dX10_merge_41 (v := 3) (by decide) ?_
            refine a_icmp_le K dX10_merge_42 (tgt := 51) (by decide) (fun c_42 => ?_) (fun c_42 => absurd c_42 (fun z => z (rng03_hi hx.2)))
            first | refine a_aload_n K dX10_merge_51 rfl ?_ | refine a_aload_nN K dX10_merge_51 rfl ?_
            refine a_getRs K fd_X10_77 (lw_i4 hL) (Or.inl ⟨_, rfl⟩) (lw_f652 hL) dX10_merge_52 ?_
            first | refine a_aload K dX10_merge_55 rfl ?_ | refine a_aloadN K dX10_merge_55 rfl ?_
            refine a_invV K (m_fill25 h hP.1.1 tz) my_X7_fill ml_X10_173 im_X7_fill se_X7_fill (ci := 7) (by first | exact lw_i25 hL | exact lw_i28 hL | exact lw_i31 hL) (by decide) ⟨_, _, rfl⟩ rfl (by omega) (by omega) (by omega) rfl (Nat.le_of_ble_eq_true rfl) dX10_merge_57 ?_
            intro r9 S9 hp9
            obtain ⟨rfl, hR, h2, k2, f2⟩ := hp9
            have hL := h2.L
            have tz2 := TT_.fr h f2 (scr_Ro25 v) tz
            first | refine a_aload_n K dX10_merge_60 rfl ?_ | refine a_aload_nN K dX10_merge_60 rfl ?_
            refine a_getRs K fd_X10_81 (lw_i4 hL) (Or.inl ⟨_, rfl⟩) (lw_f653 hL) dX10_merge_61 ?_
            first | refine a_aload K dX10_merge_64 rfl ?_ | refine a_aloadN K dX10_merge_64 rfl ?_
            first | refine a_aload_n K dX10_merge_66 rfl ?_ | refine a_aload_nN K dX10_merge_66 rfl ?_
            first | refine a_aload K dX10_merge_67 rfl ?_ | refine a_aloadN K dX10_merge_67 rfl ?_
            refine a_invV K (c_markedR h2 hP hm tz2) my_X10_marked ml_X10_249 im_X10_marked se_X10_marked (ci := 10) (lw_i4 hL) (by decide) ⟨_, _, rfl⟩ rfl (by omega) (by omega) (by omega) rfl (Nat.le_of_ble_eq_true rfl) dX10_merge_69 ?_
            intro r9 S9 hp9
            obtain ⟨mr, rfl, hmr, h3, k3, e3, n3, rr3⟩ := hp9
            have hL := h3.L
            have hR3 := rr3 _ hR
            have ty3 : TT_ S9 ad ar P y := ⟨h3.trw hy rfl, ty.2⟩
            refine a_invV K (m_R_fillU (mk := mkS (fun _ => false) (sub z.1 z.2)) (lw_Ro28 hL) ty3.1.1 (by omega) (h3.scq (fun b y => scr37 (scr_Ro28 v b y)) ty3.1) (fun x hx => n3 x.1 (ty3.1.2 x hx)) hO6) my_X7_fillUnmarked ml_X10_252 im_X7_fillUnmarked se_X7_fillUnmarked (ci := 7) (by first | exact lw_i25 hL | exact lw_i28 hL | exact lw_i31 hL) (by decide) ⟨_, _, rfl⟩ rfl (by omega) (by omega) (by omega) rfl (Nat.le_of_ble_eq_true rfl) dX10_merge_72 ?_
            intro r9 S9 hp9
            obtain ⟨rfl, hO, f4⟩ := hp9
            obtain ⟨h4, k4⟩ := h3.scr f4 (scr_Ro28 v)
            have hL := h4.L
            have hR4 := hR3.fr f4.fr (vqro28 hL (by decide)) (vqro28 hL (by decide)) (vqro28 hL (by decide))
            first | refine a_aload_n K dX10_merge_75 rfl ?_ | refine a_aload_nN K dX10_merge_75 rfl ?_
            refine a_getRs K fd_X10_77 (lw_i4 hL) (Or.inl ⟨_, rfl⟩) (lw_f652 hL) dX10_merge_76 ?_
            first | refine a_aload_n K dX10_merge_79 rfl ?_ | refine a_aload_nN K dX10_merge_79 rfl ?_
            refine a_getRs K fd_X10_81 (lw_i4 hL) (Or.inl ⟨_, rfl⟩) (lw_f653 hL) dX10_merge_80 ?_
            refine a_invV K (m_R_sizeWith hR4 hO tz.2.1.2.2.2.1 rfl) my_X7_sizeWith ml_X10_256 im_X7_sizeWith se_X7_sizeWith (ci := 7) (by first | exact lw_i25 hL | exact lw_i28 hL | exact lw_i31 hL) (by decide) ⟨_, _, rfl⟩ rfl (by omega) (by omega) (by omega) rfl (Nat.le_of_ble_eq_true rfl) dX10_merge_83 ?_
            intro r9 S9 hp9
            obtain ⟨rfl, hS9⟩ := hp9
            obtain rfl := hS9.symm
            refine a_bipush K dX10_merge_86 (v := 60) (by decide) ?_
            refine a_icmp_le K dX10_merge_88 (tgt := 97) (by decide) (fun c_88 => ?_) (fun c_88 => absurd c_88 (fun z => z (nI_le (b := 60) hsz (by omega))))
            first | refine a_aload_n K dX10_merge_97 rfl ?_ | refine a_aload_nN K dX10_merge_97 rfl ?_
            refine a_getRs K fd_X10_46 (lw_i4 hL) (Or.inl ⟨_, rfl⟩) (lw_f646 hL) dX10_merge_98 ?_
            refine a_invV K (m_X3_hasRoom (lw_i6 hL) h4.2.2.1.2.2.1 h4.2.2.1.1 (show hcnt (pH P) < 1000000 by have h1 := List.countP_le_length (p := pH P) (l := List.range 999); rw [List.length_range] at h1; unfold hcnt; omega) (show (pM P).length < 1000000 by have h1 := h4.2.2.1.2.1; omega)) my_X3_hasRoom ml_X10_124 im_X3_hasRoom se_X3_hasRoom (ci := 3) (lw_i6 hL) (by decide) ⟨_, _, rfl⟩ rfl (by omega) (by omega) (by omega) rfl (Nat.le_of_ble_eq_true rfl) dX10_merge_101 ?_
            intro r9 S9 hp9
            obtain ⟨hS9, hb9⟩ := hp9
            obtain rfl := hS9.symm
            obtain rfl : r9 = some (.int 0) := hb9.elim (fun y => absurd y.1 hr) (fun y => y.2)
            refine a_if_ne K dX10_merge_104 (tgt := 113) (by decide) (fun c_104 => absurd c_104 (by decide)) (fun c_104 => ?_)
            first | refine a_aload_n K dX10_merge_107 rfl ?_ | refine a_aload_nN K dX10_merge_107 rfl ?_
            refine a_iconst K dX10_merge_108 (v := 4) (by decide) ?_
            refine a_invV K (c_refused h4 4 (by decide)) my_X10_refused ml_X10_128 im_X10_refused se_X10_refused (ci := 10) (lw_i4 hL) (by decide) ⟨_, _, rfl⟩ rfl (by omega) (by omega) (by omega) rfl (Nat.le_of_ble_eq_true rfl) dX10_merge_109 ?_
            intro r9 S9 hp9
            obtain ⟨rfl, h8, k8⟩ := hp9
            exact a_iret K EE rfl (by omega) (by omega) dX10_merge_112 (by unfold mrgF; rw [hz, hy]; show mutQ X v PA (mb + 1) S (ite _ _ _) _ _; rw [if_pos hx]; show mutQ X v PA (mb + 1) S (ite _ _ _) _ _; rw [if_pos hsz]; show mutQ X v PA (mb + 1) S (ite _ _ _) _ _; rw [if_neg hr]; exact ⟨ad, ar, rfl, h8, ((k2.tr k3).tr k4).tr k8⟩)
        · refine aw_enter (by decide +kernel) (Nat.le_of_ble_eq_true rfl) (fun g K EE => ?_)
          first | refine a_aload_n K dX10_merge_0 rfl ?_ | refine a_aload_nN K dX10_merge_0 rfl ?_
          refine a_getRs K fd_X10_46 (lw_i4 hL) (Or.inl ⟨_, rfl⟩) (lw_f646 hL) dX10_merge_1 ?_
          refine a_iload_n K dX10_merge_4 rfl ?_
          refine a_invV K (m_root h m) my_X3_heldRoot ml_X10_165 im_X3_heldRoot se_X3_heldRoot (ci := 3) (lw_i6 hL) (by decide) ⟨_, _, rfl⟩ rfl (by omega) (by omega) (by omega) rfl (Nat.le_of_ble_eq_true rfl) dX10_merge_5 ?_
          intro r9 S9 hp9
          obtain ⟨rfl, hS9⟩ := hp9
          obtain rfl := hS9.symm
          rw [hz]
          first | refine a_astore K dX10_merge_8 (by decide) ?_ | refine a_astoreN K dX10_merge_8 (by decide) ?_
          first | refine a_aload_n K dX10_merge_10 rfl ?_ | refine a_aload_nN K dX10_merge_10 rfl ?_
          refine a_getRs K fd_X10_46 (lw_i4 hL) (Or.inl ⟨_, rfl⟩) (lw_f646 hL) dX10_merge_11 ?_
          refine a_iload_n K dX10_merge_14 rfl ?_
          refine a_invV K (m_root h o) my_X3_heldRoot ml_X10_165 im_X3_heldRoot se_X3_heldRoot (ci := 3) (lw_i6 hL) (by decide) ⟨_, _, rfl⟩ rfl (by omega) (by omega) (by omega) rfl (Nat.le_of_ble_eq_true rfl) dX10_merge_15 ?_
          intro r9 S9 hp9
          obtain ⟨rfl, hS9⟩ := hp9
          obtain rfl := hS9.symm
          rw [hy]
          first | refine a_astore K dX10_merge_18 (by decide) ?_ | refine a_astoreN K dX10_merge_18 (by decide) ?_
          first | refine a_aload K dX10_merge_20 rfl ?_ | refine a_aloadN K dX10_merge_20 rfl ?_
          refine a_ifnull K dX10_merge_22 ?_
          first | refine a_aload K dX10_merge_25 rfl ?_ | refine a_aloadN K dX10_merge_25 rfl ?_
          refine a_ifnonnull K dX10_merge_27 (tgt := 36) (by decide) ?_
          refine a_iload_n K dX10_merge_36 rfl ?_
          refine a_if_lt K dX10_merge_37 (tgt := 45) (by decide) (fun c_37 => absurd c_37 (rng03_lo hx.1)) (fun c_37 => ?_)
          refine a_iload_n K dX10_merge_40 rfl ?_
          refine a_iconst K dX10_merge_41 (v := 3) (by decide) ?_
          refine a_icmp_le K dX10_merge_42 (tgt := 51) (by decide) (fun c_42 => ?_) (fun c_42 => absurd c_42 (fun z => z (rng03_hi hx.2)))
          first | refine a_aload_n K dX10_merge_51 rfl ?_ | refine a_aload_nN K dX10_merge_51 rfl ?_
          refine a_getRs K fd_X10_77 (lw_i4 hL) (Or.inl ⟨_, rfl⟩) (lw_f652 hL) dX10_merge_52 ?_
          first | refine a_aload K dX10_merge_55 rfl ?_ | refine a_aloadN K dX10_merge_55 rfl ?_
          refine a_invV K (m_fill25 h hP.1.1 tz) my_X7_fill ml_X10_173 im_X7_fill se_X7_fill (ci := 7) (by first | exact lw_i25 hL | exact lw_i28 hL | exact lw_i31 hL) (by decide) ⟨_, _, rfl⟩ rfl (by omega) (by omega) (by omega) rfl (Nat.le_of_ble_eq_true rfl) dX10_merge_57 ?_
          intro r9 S9 hp9
          obtain ⟨rfl, hR, h2, k2, f2⟩ := hp9
          have hL := h2.L
          have tz2 := TT_.fr h f2 (scr_Ro25 v) tz
          first | refine a_aload_n K dX10_merge_60 rfl ?_ | refine a_aload_nN K dX10_merge_60 rfl ?_
          refine a_getRs K fd_X10_81 (lw_i4 hL) (Or.inl ⟨_, rfl⟩) (lw_f653 hL) dX10_merge_61 ?_
          first | refine a_aload K dX10_merge_64 rfl ?_ | refine a_aloadN K dX10_merge_64 rfl ?_
          first | refine a_aload_n K dX10_merge_66 rfl ?_ | refine a_aload_nN K dX10_merge_66 rfl ?_
          first | refine a_aload K dX10_merge_67 rfl ?_ | refine a_aloadN K dX10_merge_67 rfl ?_
          refine a_invV K (c_markedR h2 hP hm tz2) my_X10_marked ml_X10_249 im_X10_marked se_X10_marked (ci := 10) (lw_i4 hL) (by decide) ⟨_, _, rfl⟩ rfl (by omega) (by omega) (by omega) rfl (Nat.le_of_ble_eq_true rfl) dX10_merge_69 ?_
          intro r9 S9 hp9
          obtain ⟨mr, rfl, hmr, h3, k3, e3, n3, rr3⟩ := hp9
          have hL := h3.L
          have hR3 := rr3 _ hR
          have ty3 : TT_ S9 ad ar P y := ⟨h3.trw hy rfl, ty.2⟩
          refine a_invV K (m_R_fillU (mk := mkS (fun _ => false) (sub z.1 z.2)) (lw_Ro28 hL) ty3.1.1 (by omega) (h3.scq (fun b y => scr37 (scr_Ro28 v b y)) ty3.1) (fun x hx => n3 x.1 (ty3.1.2 x hx)) hO6) my_X7_fillUnmarked ml_X10_252 im_X7_fillUnmarked se_X7_fillUnmarked (ci := 7) (by first | exact lw_i25 hL | exact lw_i28 hL | exact lw_i31 hL) (by decide) ⟨_, _, rfl⟩ rfl (by omega) (by omega) (by omega) rfl (Nat.le_of_ble_eq_true rfl) dX10_merge_72 ?_
          intro r9 S9 hp9
          obtain ⟨rfl, hO, f4⟩ := hp9
          obtain ⟨h4, k4⟩ := h3.scr f4 (scr_Ro28 v)
          have hL := h4.L
          have hR4 := hR3.fr f4.fr (vqro28 hL (by decide)) (vqro28 hL (by decide)) (vqro28 hL (by decide))
          first | refine a_aload_n K dX10_merge_75 rfl ?_ | refine a_aload_nN K dX10_merge_75 rfl ?_
          refine a_getRs K fd_X10_77 (lw_i4 hL) (Or.inl ⟨_, rfl⟩) (lw_f652 hL) dX10_merge_76 ?_
          first | refine a_aload_n K dX10_merge_79 rfl ?_ | refine a_aload_nN K dX10_merge_79 rfl ?_
          refine a_getRs K fd_X10_81 (lw_i4 hL) (Or.inl ⟨_, rfl⟩) (lw_f653 hL) dX10_merge_80 ?_
          refine a_invV K (m_R_sizeWith hR4 hO tz.2.1.2.2.2.1 rfl) my_X7_sizeWith ml_X10_256 im_X7_sizeWith se_X7_sizeWith (ci := 7) (by first | exact lw_i25 hL | exact lw_i28 hL | exact lw_i31 hL) (by decide) ⟨_, _, rfl⟩ rfl (by omega) (by omega) (by omega) rfl (Nat.le_of_ble_eq_true rfl) dX10_merge_83 ?_
          intro r9 S9 hp9
          obtain ⟨rfl, hS9⟩ := hp9
          obtain rfl := hS9.symm
          refine a_bipush K dX10_merge_86 (v := 60) (by decide) ?_
          refine a_icmp_le K dX10_merge_88 (tgt := 97) (by decide) (fun c_88 => absurd c_88 (fun y8 => hsz (by have h9 : swE (ent z.1 z.2) (ownE z y) (ent z.1 z.2).length ≤ 60 ∨ 2147483648 ≤ swE (ent z.1 z.2) (ownE z y) (ent z.1 z.2).length := nI_le9 y8; omega))) (fun c_88 => ?_)
          first | refine a_aload_n K dX10_merge_91 rfl ?_ | refine a_aload_nN K dX10_merge_91 rfl ?_
          refine a_iconst K dX10_merge_92 (v := 3) (by decide) ?_
          refine a_invV K (c_refused h4 3 (by decide)) my_X10_refused ml_X10_128 im_X10_refused se_X10_refused (ci := 10) (lw_i4 hL) (by decide) ⟨_, _, rfl⟩ rfl (by omega) (by omega) (by omega) rfl (Nat.le_of_ble_eq_true rfl) dX10_merge_93 ?_
          intro r9 S9 hp9
          obtain ⟨rfl, h8, k8⟩ := hp9
          exact a_iret K EE rfl (by omega) (by omega) dX10_merge_96 (by unfold mrgF; rw [hz, hy]; show mutQ X v PA (mb + 1) S (ite _ _ _) _ _; rw [if_pos hx]; show mutQ X v PA (mb + 1) S (ite _ _ _) _ _; rw [if_neg hsz]; exact ⟨ad, ar, rfl, h8, ((k2.tr k3).tr k4).tr k8⟩)
      · refine aw_enter (by decide +kernel) (Nat.le_of_ble_eq_true rfl) (fun g K EE => ?_)
        first | refine a_aload_n K dX10_merge_0 rfl ?_ | refine a_aload_nN K dX10_merge_0 rfl ?_
        refine a_getRs K fd_X10_46 (lw_i4 hL) (Or.inl ⟨_, rfl⟩) (lw_f646 hL) dX10_merge_1 ?_
        refine a_iload_n K dX10_merge_4 rfl ?_
        refine a_invV K (m_root h m) my_X3_heldRoot ml_X10_165 im_X3_heldRoot se_X3_heldRoot (ci := 3) (lw_i6 hL) (by decide) ⟨_, _, rfl⟩ rfl (by omega) (by omega) (by omega) rfl (Nat.le_of_ble_eq_true rfl) dX10_merge_5 ?_
        intro r9 S9 hp9
        obtain ⟨rfl, hS9⟩ := hp9
        obtain rfl := hS9.symm
        rw [hz]
        first | refine a_astore K dX10_merge_8 (by decide) ?_ | refine a_astoreN K dX10_merge_8 (by decide) ?_
        first | refine a_aload_n K dX10_merge_10 rfl ?_ | refine a_aload_nN K dX10_merge_10 rfl ?_
        refine a_getRs K fd_X10_46 (lw_i4 hL) (Or.inl ⟨_, rfl⟩) (lw_f646 hL) dX10_merge_11 ?_
        refine a_iload_n K dX10_merge_14 rfl ?_
        refine a_invV K (m_root h o) my_X3_heldRoot ml_X10_165 im_X3_heldRoot se_X3_heldRoot (ci := 3) (lw_i6 hL) (by decide) ⟨_, _, rfl⟩ rfl (by omega) (by omega) (by omega) rfl (Nat.le_of_ble_eq_true rfl) dX10_merge_15 ?_
        intro r9 S9 hp9
        obtain ⟨rfl, hS9⟩ := hp9
        obtain rfl := hS9.symm
        rw [hy]
        first | refine a_astore K dX10_merge_18 (by decide) ?_ | refine a_astoreN K dX10_merge_18 (by decide) ?_
        first | refine a_aload K dX10_merge_20 rfl ?_ | refine a_aloadN K dX10_merge_20 rfl ?_
        refine a_ifnull K dX10_merge_22 ?_
        first | refine a_aload K dX10_merge_25 rfl ?_ | refine a_aloadN K dX10_merge_25 rfl ?_
        refine a_ifnonnull K dX10_merge_27 (tgt := 36) (by decide) ?_
        refine a_iload_n K dX10_merge_36 rfl ?_
        refine a_if_lt K dX10_merge_37 (tgt := 45) (by decide) (fun c_37 => ?_) (fun c_37 => ?_)
        · first | refine a_aload_n K dX10_merge_45 rfl ?_ | refine a_aload_nN K dX10_merge_45 rfl ?_
          refine a_iconst K dX10_merge_46 (v := 1) (by decide) ?_
          refine a_invV K (c_refused h 1 (by decide)) my_X10_refused ml_X10_128 im_X10_refused se_X10_refused (ci := 10) (lw_i4 hL) (by decide) ⟨_, _, rfl⟩ rfl (by omega) (by omega) (by omega) rfl (Nat.le_of_ble_eq_true rfl) dX10_merge_47 ?_
          intro r9 S9 hp9
          obtain ⟨rfl, h8, k8⟩ := hp9
          exact a_iret K EE rfl (by omega) (by omega) dX10_merge_50 (by unfold mrgF; rw [hz, hy]; show mutQ X v PA (mb + 1) S (ite _ _ _) _ _; rw [if_neg hx]; exact ⟨ad, ar, rfl, h8.up (by omega) (by omega), k8⟩)
        · refine a_iload_n K dX10_merge_40 rfl ?_
          refine a_iconst K dX10_merge_41 (v := 3) (by decide) ?_
          refine a_icmp_le K dX10_merge_42 (tgt := 51) (by decide) (fun c_42 => ?_) (fun c_42 => ?_)
          · exact (rng03 hx c_37 c_42).elim
          · first | refine a_aload_n K dX10_merge_45 rfl ?_ | refine a_aload_nN K dX10_merge_45 rfl ?_
            refine a_iconst K dX10_merge_46 (v := 1) (by decide) ?_
            refine a_invV K (c_refused h 1 (by decide)) my_X10_refused ml_X10_128 im_X10_refused se_X10_refused (ci := 10) (lw_i4 hL) (by decide) ⟨_, _, rfl⟩ rfl (by omega) (by omega) (by omega) rfl (Nat.le_of_ble_eq_true rfl) dX10_merge_47 ?_
            intro r9 S9 hp9
            obtain ⟨rfl, h8, k8⟩ := hp9
            exact a_iret K EE rfl (by omega) (by omega) dX10_merge_50 (by unfold mrgF; rw [hz, hy]; show mutQ X v PA (mb + 1) S (ite _ _ _) _ _; rw [if_neg hx]; exact ⟨ad, ar, rfl, h8.up (by omega) (by omega), k8⟩)
