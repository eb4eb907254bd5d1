/-! the model: trees grown, over states -/
def IdP (P : PS) : Prop := (∀ (i : Nat) (x : MI), (pM P)[i]? = some x → x.1.2.1 < pU P) ∧ ∀ (j : Nat) (b : BI), pB P j = some b → b.1.2.1 < pU P
theorem PI.ids {P : PS} (hP : PI P) : IdP P := ⟨fun _ _ hx => hP.idm hx, fun _ _ hb => hP.idb hb⟩
theorem RBm.ro {S : aw_S} {m ρ ρ2 : Nat → Nat} {P : PS} (a : RBm S m ρ P) (hI : IdP P) (er : ∀ i, i < pU P → ρ2 i = ρ i) : RBm S m ρ2 P := fun i x hx => by
  rw [er _ (hI.1 i x hx)]
  exact a i x hx
theorem RBb.ro {S : aw_S} {m ρ ρ2 : Nat → Nat} {P : PS} (a : RBb S m ρ P) (hI : IdP P) (er : ∀ i, i < pU P → ρ2 i = ρ i) : RBb S m ρ2 P := fun j b hj hb => by
  rw [er _ (hI.2 j b hb)]
  exact a j b hj hb
/-- nodes that grow by a token that no node has that lives -/
theorem RM_grow {S S2 : aw_S} {m ρ ρ2 : Nat → Nat} {Z Z2 : List Nat × Nat} {mb u2 tk : Nat} {L : List (Nat × Nat)} {P : PS} (h : RM S m ρ Z mb P) (hI : IdP P) (g : GM S S2 m ρ ρ2 (pU P) u2 Z Z2 tk L) (hL : ∀ y ∈ L, y.2 ≠ tk) : RM S2 m ρ2 Z2 mb (setU P u2) ∧ frS S S2 (mQ m) ∧ AL ρ2 u2 Z2 (PN (LvN P) (pU P) u2) := by
  have f := g.2.2.2.2.2.2.2.2.2.1
  have er := g.2.1
  obtain ⟨h1, h2, h3, h4, h5, h6, h7, h8⟩ := h
  exact ⟨⟨f.lay h1, h2.fr h1 f (by decide) (by decide) (by decide), (h3.fr h1 f (by decide) (by decide) (by decide) (by decide)).ro hI er, (h4.fr h1 f (by decide) (by decide) (by decide) (by decide)).ro hI er, h5.fr h1 f (by decide) (by decide) (by decide) (by decide) (by decide), h6.fr h1 f (by decide) (by decide) (by decide), h7.gm (P2 := setU P u2) g (fun y hy e => absurd e (hL y hy)) (fun z hz => Or.inl ⟨hz, fun x _ y hy e => absurd e (hL y hy)⟩) rfl rfl, h8.fr h1 f (by decide) (by decide) (by decide)⟩, f.mq (by decide), g.al h7.2.2.1⟩
/-- a tree that has grown: old nodes and new ones -/
def TS (S S2 : aw_S) (m ρ ρ2 : Nat → Nat) (u u2 : Nat) (Z Z2 : List Nat × Nat) (tk : Nat) (L0 : List (Nat × Nat)) (z : Tz) : Prop := GM S S2 m ρ ρ2 u u2 Z Z2 tk L0 ∧ RepM S2 m ρ2 z.1 z.2 ∧ ∀ x ∈ ndl z.1 z.2, x ∈ L0 ∨ (u ≤ x.1 ∧ x.1 < u2 ∧ x.2 = tk)
theorem TS.rf {S : aw_S} {m ρ : Nat → Nat} {u tk : Nat} {Z : List Nat × Nat} {z : Tz} (hF : FrM S m Z.1 Z.2) (nd : Z.1.Nodup) (rp : RepM S m ρ z.1 z.2) : TS S S m ρ ρ u u Z Z tk (ndl z.1 z.2) z := ⟨GM.rf hF nd, rp, fun _ hx => Or.inl hx⟩
theorem TS.put {S S2 : aw_S} {m ρ ρ2 : Nat → Nat} {u u2 tk w : Nat} {Z Z2 : List Nat × Nat} {L0 : List (Nat × Nat)} {z : Tz} {Q : Nat → Prop} {key v : Int32} (ts : TS S S2 m ρ ρ2 u u2 Z Z2 tk L0 z) (hM : LM S m) (aB : AL ρ u Z Q) (hQ : ∀ x ∈ L0, Q x.1) (ht9 : ∀ x ∈ L0, x.2 < 2147483000) (htk : tk < 2147483000) (hw : sI S 723 (m 33) = nI w) (hw3 : 3 ≤ w) (hw6 : w ≤ 6) (ro : rok w z) (b : bdd u2 (ndl z.1 z.2)) (hrm : 2 * z.1 + 5 ≤ rmM Z2) (h9 : z.1 ≤ 9) : aw_M yX11_puts cX11_puts 11 (some FieldType.int) 5 0 0 [.ref (m 33), .int (nI (ρ2 z.2.1)), .int key, .int v, .int (nI (tk + 1))] S2 (fun q S3 => ∃ ρ3 Z3, q = some (.int (nI (ρ3 (putT w tk u2 key v z).1.2.1))) ∧ TS S S3 m ρ ρ3 u (putT w tk u2 key v z).2 Z Z3 tk L0 (putT w tk u2 key v z).1) := by
  obtain ⟨g, rp, hx⟩ := ts
  have hxn : ∀ x ∈ ndl z.1 z.2, PN Q u u2 x.1 := fun x hm => (hx x hm).imp (hQ x) (fun y => ⟨y.1, y.2.1⟩)
  have hx9 : ∀ x ∈ ndl z.1 z.2, x.2 < 2147483000 := fun x hm => (hx x hm).elim (ht9 x) (fun y => by rw [y.2.2]; exact htk)
  refine (m_puts (u0 := u2) (tk := tk) (key := key) (v := v) (g.lay hM) (g.wid.trans hw) hw3 hw6 rp ro g.F.1 g.F.2.1 hrm (g.al aB) hxn b htk hx9 h9).post (fun q S3 hp => ?_)
  obtain ⟨ρ3, Z3, hq, g3, r3⟩ := hp
  have gr := putT_grw (w := w) (tk := tk) (key := key) (v := v) b
  have hL0 : ∀ x ∈ L0, x.1 < u := fun x hm => (aB.1 _ (hQ x hm)).1
  have hu := g.F.2.2.2
  exact ⟨ρ3, Z3, hq, g.tr g3 (fun x hm _ => (hx x hm).imp id (fun y => ⟨y.1, y.2.1⟩)) hL0, r3, fun x hm => (gr.2.1 x hm).elim (fun y => (hx x y).imp id (fun q => ⟨q.1, Nat.lt_of_lt_of_le q.2.1 gr.1, q.2.2⟩)) (fun y => Or.inr ⟨by have := y.1; omega, y.2⟩)⟩
theorem TS.take {S S2 : aw_S} {m ρ ρ2 : Nat → Nat} {u u2 tk w : Nat} {Z Z2 : List Nat × Nat} {L0 : List (Nat × Nat)} {z : Tz} {Q : Nat → Prop} {key : Int32} (ts : TS S S2 m ρ ρ2 u u2 Z Z2 tk L0 z) (hM : LM S m) (aB : AL ρ u Z Q) (hQ : ∀ x ∈ L0, Q x.1) (ht9 : ∀ x ∈ L0, x.2 < 2147483000) (htk : tk < 2147483000) (hw : sI S 723 (m 33) = nI w) (hw3 : 3 ≤ w) (hw6 : w ≤ 6) (ro : rok w z) (b : bdd u2 (ndl z.1 z.2)) (hrm : 2 * z.1 + 5 ≤ rmM Z2) (h9 : z.1 ≤ 9) : aw_M yX11_takes cX11_takes 7 (some FieldType.int) 5 0 0 [.ref (m 33), .int (nI (ρ2 z.2.1)), .int key, .int (nI (tk + 1))] S2 (fun q S3 => ∃ ρ3 Z3, q = some (.int (nI (ρ3 (takT w tk u2 key z).1.2.1))) ∧ TS S S3 m ρ ρ3 u (takT w tk u2 key z).2 Z Z3 tk L0 (takT w tk u2 key z).1) := by
  obtain ⟨g, rp, hx⟩ := ts
  have hxn : ∀ x ∈ ndl z.1 z.2, PN Q u u2 x.1 := fun x hm => (hx x hm).imp (hQ x) (fun y => ⟨y.1, y.2.1⟩)
  have hx9 : ∀ x ∈ ndl z.1 z.2, x.2 < 2147483000 := fun x hm => (hx x hm).elim (ht9 x) (fun y => by rw [y.2.2]; exact htk)
  refine (m_takes (u0 := u2) (tk := tk) (key := key) (g.lay hM) (g.wid.trans hw) hw3 hw6 rp ro g.F.1 g.F.2.1 hrm (g.al aB) hxn b htk hx9 h9).post (fun q S3 hp => ?_)
  obtain ⟨ρ3, Z3, hq, g3, r3⟩ := hp
  have gr := (takT_gru (w := w) (tk := tk) (key := key) b).1
  have hL0 : ∀ x ∈ L0, x.1 < u := fun x hm => (aB.1 _ (hQ x hm)).1
  have hu := g.F.2.2.2
  exact ⟨ρ3, Z3, hq, g.tr g3 (fun x hm _ => (hx x hm).imp id (fun y => ⟨y.1, y.2.1⟩)) hL0, r3, fun x hm => (gr.2.1 x hm).elim (fun y => (hx x y).imp id (fun q => ⟨q.1, Nat.lt_of_lt_of_le q.2.1 gr.1, q.2.2⟩)) (fun y => Or.inr ⟨by have := y.1; omega, y.2⟩)⟩
theorem RM.wid {S : aw_S} {m ρ : Nat → Nat} {Z : List Nat × Nat} {mb : Nat} {P : PS} (h : RM S m ρ Z mb P) : sI S 723 (m 33) = nI (pW P) := h.2.1.2.2.1
theorem RM.N {S : aw_S} {m ρ : Nat → Nat} {Z : List Nat × Nat} {mb : Nat} {P : PS} (h : RM S m ρ Z mb P) : RN S m ρ Z P := h.2.2.2.2.2.2.1
theorem live_in {P : PS} {z : Tz} (hz : LvT P z) : ∀ x ∈ ndl z.1 z.2, LvN P x.1 := fun x hx => ⟨z, hz, x, hx, rfl⟩
/-- behind the growing: the state, and all for a new map -/
theorem TS.fin {S S2 : aw_S} {m ρ ρ2 : Nat → Nat} {u2 mb : Nat} {Z Z2 : List Nat × Nat} {tk : Nat} {L0 : List (Nat × Nat)} {z : Tz} {P : PS} (ts : TS S S2 m ρ ρ2 (pU P) u2 Z Z2 tk L0 z) (h : RM S m ρ Z mb P) (hI : IdP P) (hL : ∀ y ∈ L0, y.2 ≠ tk) (hQ : ∀ x ∈ L0, LvN P x.1) : RM S2 m ρ2 Z2 mb (setU P u2) ∧ frS S S2 (mQ m) ∧ RepM S2 m ρ2 z.1 z.2 ∧ ∃ Q : Nat → Prop, AL ρ2 (pU (setU P u2)) Z2 Q ∧ (∀ i, LvN (setU P u2) i → Q i) ∧ ∀ x ∈ ndl z.1 z.2, Q x.1 := by
  obtain ⟨g1, g2, g3⟩ := RM_grow h hI ts.1 hL
  exact ⟨g1, g2, ts.2.1, PN (LvN P) (pU P) u2, g3, fun i hi => Or.inl hi, fun x hx => (ts.2.2 x hx).imp (hQ x) (fun y => ⟨y.1, y.2.1⟩)⟩
theorem tok.tk9 {P : PS} (hP : PI P) {z : Tz} (tz : tok (pW P) (pU P) (pTk P) z) : (∀ x ∈ ndl z.1 z.2, x.2 < 2147483000) ∧ ∀ x ∈ ndl z.1 z.2, x.2 ≠ pTk P := ⟨fun x hx => by have h1 := tz.2.2.2.2 x hx; have h2 := hP.2.2.2; omega, fun x hx e => by have h1 := tz.2.2.2.2 x hx; omega⟩
set_option maxHeartbeats 4000000 in
set_option maxRecDepth 100000 in
theorem q_having {S : aw_S} {m ρ : Nat → Nat} {Z : List Nat × Nat} {mb n9 : Nat} {P : PS} (h0 : RM S m ρ Z mb P) (hJ : PJ n9 P) (hmb : mb + 1 < 2147483000) {i k v0 : Int32} : aw_M yX11_having cX11_having 4 (some FieldType.int) 9 0 0 [.ref (m 33), .int i, .int k, .int v0] S (fun r S2 => ∃ ρ2 Z2, r = some (.int (hav P i k v0).1) ∧ RM S2 m ρ2 Z2 (mb + 1) (hav P i k v0).2 ∧ frS S S2 (mQ m)) := by
  have hP := hJ.1
  have hw3 := hP.1.1
  have hM := h0.1
  have hl9 := hJ.ln
  have hw6 := hP.1.2
  have hpH := hJ.2.2.2.2.2.1.1
  have hc16 := hJ.2.2.2.2.2.1.2.1
  refine aw_enter (by decide +kernel) (Nat.le_of_ble_eq_true rfl) (fun g K EE => ?_)
  cases hz : rootP P i with
  | none =>
    first | refine a_aload_n K dX11_having_0 rfl ?_ | refine a_aload_nN K dX11_having_0 rfl ?_
    refine a_iconst K dX11_having_1 (v := 0) (by decide) ?_
    refine a_putI K fd_X11_116 (by exact lm_o hM) rfl dX11_having_2 ?_
    have f0 : frM S (wI S 704 (m 33) 0) m [] [704] := frM_wI (by decide) (by decide)
    obtain ⟨T, hT⟩ : ∃ T, T = wI S 704 (m 33) 0 := ⟨_, rfl⟩
    rw [← hT] at f0 ⊢
    obtain ⟨h, q0⟩ := h0.scr hP f0 (by decide) (by decide)
    have hM := h.1
    first | refine a_aload_n K dX11_having_5 rfl ?_ | refine a_aload_nN K dX11_having_5 rfl ?_
    refine a_iload_n K dX11_having_6 rfl ?_
    refine a_invV K (q_mapN h hl9 hz) my_X11_isMap ml_X11_309 im_X11_isMap se_X11_isMap (ci := 11) (by exact lm_o hM) (by decide) ⟨_, _, rfl⟩ rfl (by omega) (by omega) (by omega) rfl (Nat.le_of_ble_eq_true rfl) dX11_having_7 ?_
    intro r9 S9 hp9
    obtain ⟨rfl, hS9⟩ := hp9
    obtain rfl := hS9.symm
    refine a_if_ne K dX11_having_10 (tgt := 19) (by decide) (fun c_10 => absurd c_10 (fun q => q rfl)) (fun c_10 => ?_)
    first | refine a_aload_n K dX11_having_13 rfl ?_ | refine a_aload_nN K dX11_having_13 rfl ?_
    refine a_iconst K dX11_having_14 (v := 0) (by decide) ?_
    rw [show (0 : Int32) = nI 0 from rfl]
    refine a_invV K (q_refP h (k := 0) (by decide)) my_X11_refused ml_X11_292 im_X11_refused se_X11_refused (ci := 11) (by exact lm_o hM) (by decide) ⟨_, _, rfl⟩ rfl (by omega) (by omega) (by omega) rfl (Nat.le_of_ble_eq_true rfl) dX11_having_15 ?_
    intro r9 S9 hp9
    obtain ⟨rfl, hR, qR⟩ := hp9
    exact a_iret K EE rfl (by omega) (by omega) dX11_having_18 ⟨ρ, Z, by unfold hav; rw [hz], by unfold hav; rw [hz]; exact hR.up (Nat.le_succ mb) (by omega), mQ_tr q0 qR⟩
  | some z =>
    obtain ⟨j, hij, hj, -⟩ := h0.root hz
    subst hij
    have tz := hP.tz (rootP_live hz)
    have h4z := tz.h4 hw3
    have e60z := tz.2.2.1
    by_cases hk : ¬ (0 ≤ k.toInt ∧ k.toInt ≤ 999)
    · have hE : hav P (nI j) k v0 = (-1, refP P 1) := by
        unfold hav
        rw [hz]
        exact if_neg (fun q => hk ⟨q.1.1, by have := q.1.2; omega⟩)
      first | refine a_aload_n K dX11_having_0 rfl ?_ | refine a_aload_nN K dX11_having_0 rfl ?_
      refine a_iconst K dX11_having_1 (v := 0) (by decide) ?_
      refine a_putI K fd_X11_116 (by exact lm_o hM) rfl dX11_having_2 ?_
      have f0 : frM S (wI S 704 (m 33) 0) m [] [704] := frM_wI (by decide) (by decide)
      obtain ⟨T, hT⟩ : ∃ T, T = wI S 704 (m 33) 0 := ⟨_, rfl⟩
      rw [← hT] at f0 ⊢
      obtain ⟨h, q0⟩ := h0.scr hP f0 (by decide) (by decide)
      have hM := h.1
      first | refine a_aload_n K dX11_having_5 rfl ?_ | refine a_aload_nN K dX11_having_5 rfl ?_
      refine a_iload_n K dX11_having_6 rfl ?_
      refine a_invV K (q_mapY h hl9 hz) my_X11_isMap ml_X11_309 im_X11_isMap se_X11_isMap (ci := 11) (by exact lm_o hM) (by decide) ⟨_, _, rfl⟩ rfl (by omega) (by omega) (by omega) rfl (Nat.le_of_ble_eq_true rfl) dX11_having_7 ?_
      intro r9 S9 hp9
      obtain ⟨rfl, hS9⟩ := hp9
      obtain rfl := hS9.symm
      refine a_if_ne K dX11_having_10 (tgt := 19) (by decide) (fun c_10 => ?_) (fun c_10 => absurd c_10 (by decide))
      refine a_iload_n K dX11_having_19 rfl ?_
      refine a_i2l K dX11_having_20 ?_
      refine a_lconst K dX11_having_21 (v := 0) (by decide) ?_
      refine a_ldc2 K kc_X11_335 dX11_having_22 ?_
      refine a_invS K (q_inN (p := 0) (q := 999) (by decide) (by decide) (by first | assumption | omega)) my_X11_isIn ml_X11_174 st_X11_isIn rfl (by omega) (by omega) (by omega) rfl (Nat.le_of_ble_eq_true rfl) dX11_having_25 ?_
      intro r9 S9 hp9
      obtain ⟨rfl, hS9⟩ := hp9
      obtain rfl := hS9.symm
      refine a_if_eq K dX11_having_28 (tgt := 45) (by decide) (fun c_28 => ?_) (fun c_28 => absurd c_28 (by decide))
      first | refine a_aload_n K dX11_having_45 rfl ?_ | refine a_aload_nN K dX11_having_45 rfl ?_
      refine a_iconst K dX11_having_46 (v := 1) (by decide) ?_
      rw [show (1 : Int32) = nI 1 from rfl]
      refine a_invV K (q_refP h (k := 1) (by decide)) my_X11_refused ml_X11_292 im_X11_refused se_X11_refused (ci := 11) (by exact lm_o hM) (by decide) ⟨_, _, rfl⟩ rfl (by omega) (by omega) (by omega) rfl (Nat.le_of_ble_eq_true rfl) dX11_having_47 ?_
      intro r9 S9 hp9
      obtain ⟨rfl, hR, qR⟩ := hp9
      exact a_iret K EE rfl (by omega) (by omega) dX11_having_50 ⟨ρ, Z, by rw [hE], by rw [hE]; exact hR.up (Nat.le_succ mb) (by omega), mQ_tr q0 qR⟩
    have hk := Classical.not_not.mp hk
    by_cases hv9 : ¬ (-999 ≤ v0.toInt ∧ v0.toInt ≤ 999)
    · have hE : hav P (nI j) k v0 = (-1, refP P 1) := by
        unfold hav
        rw [hz]
        exact if_neg (fun q => hv9 q.2)
      first | refine a_aload_n K dX11_having_0 rfl ?_ | refine a_aload_nN K dX11_having_0 rfl ?_
      refine a_iconst K dX11_having_1 (v := 0) (by decide) ?_
      refine a_putI K fd_X11_116 (by exact lm_o hM) rfl dX11_having_2 ?_
      have f0 : frM S (wI S 704 (m 33) 0) m [] [704] := frM_wI (by decide) (by decide)
      obtain ⟨T, hT⟩ : ∃ T, T = wI S 704 (m 33) 0 := ⟨_, rfl⟩
      rw [← hT] at f0 ⊢
      obtain ⟨h, q0⟩ := h0.scr hP f0 (by decide) (by decide)
      have hM := h.1
      first | refine a_aload_n K dX11_having_5 rfl ?_ | refine a_aload_nN K dX11_having_5 rfl ?_
      refine a_iload_n K dX11_having_6 rfl ?_
      refine a_invV K (q_mapY h hl9 hz) my_X11_isMap ml_X11_309 im_X11_isMap se_X11_isMap (ci := 11) (by exact lm_o hM) (by decide) ⟨_, _, rfl⟩ rfl (by omega) (by omega) (by omega) rfl (Nat.le_of_ble_eq_true rfl) dX11_having_7 ?_
      intro r9 S9 hp9
      obtain ⟨rfl, hS9⟩ := hp9
      obtain rfl := hS9.symm
      refine a_if_ne K dX11_having_10 (tgt := 19) (by decide) (fun c_10 => ?_) (fun c_10 => absurd c_10 (by decide))
      refine a_iload_n K dX11_having_19 rfl ?_
      refine a_i2l K dX11_having_20 ?_
      refine a_lconst K dX11_having_21 (v := 0) (by decide) ?_
      refine a_ldc2 K kc_X11_335 dX11_having_22 ?_
      refine a_invS K (q_inY (p := 0) (q := 999) (by decide) (by decide) (by first | assumption | omega)) my_X11_isIn ml_X11_174 st_X11_isIn rfl (by omega) (by omega) (by omega) rfl (Nat.le_of_ble_eq_true rfl) dX11_having_25 ?_
      intro r9 S9 hp9
      obtain ⟨rfl, hS9⟩ := hp9
      obtain rfl := hS9.symm
      refine a_if_eq K dX11_having_28 (tgt := 45) (by decide) (fun c_28 => absurd c_28 (by decide)) (fun c_28 => ?_)
      refine a_iload_n K dX11_having_31 rfl ?_
      refine a_i2l K dX11_having_32 ?_
      refine a_ldc2 K kc_X11_337 dX11_having_33 ?_
      refine a_ldc2 K kc_X11_335 dX11_having_36 ?_
      refine a_invS K (q_inN (p := -999) (q := 999) (by decide) (by decide) (by first | assumption | omega)) my_X11_isIn ml_X11_174 st_X11_isIn rfl (by omega) (by omega) (by omega) rfl (Nat.le_of_ble_eq_true rfl) dX11_having_39 ?_
      intro r9 S9 hp9
      obtain ⟨rfl, hS9⟩ := hp9
      obtain rfl := hS9.symm
      refine a_if_ne K dX11_having_42 (tgt := 51) (by decide) (fun c_42 => absurd c_42 (fun q => q rfl)) (fun c_42 => ?_)
      first | refine a_aload_n K dX11_having_45 rfl ?_ | refine a_aload_nN K dX11_having_45 rfl ?_
      refine a_iconst K dX11_having_46 (v := 1) (by decide) ?_
      rw [show (1 : Int32) = nI 1 from rfl]
      refine a_invV K (q_refP h (k := 1) (by decide)) my_X11_refused ml_X11_292 im_X11_refused se_X11_refused (ci := 11) (by exact lm_o hM) (by decide) ⟨_, _, rfl⟩ rfl (by omega) (by omega) (by omega) rfl (Nat.le_of_ble_eq_true rfl) dX11_having_47 ?_
      intro r9 S9 hp9
      obtain ⟨rfl, hR, qR⟩ := hp9
      exact a_iret K EE rfl (by omega) (by omega) dX11_having_50 ⟨ρ, Z, by rw [hE], by rw [hE]; exact hR.up (Nat.le_succ mb) (by omega), mQ_tr q0 qR⟩
    have hv9 := Classical.not_not.mp hv9
    by_cases hfit : ¬ (¬ valIn (ent z.1 z.2) k = -1000000 ∨ (ent z.1 z.2).length < 60)
    · have hv : valIn (ent z.1 z.2) k = -1000000 := Classical.byContradiction (fun q => hfit (Or.inl q))
      have h60e : (ent z.1 z.2).length = 60 := Classical.byContradiction (fun q => hfit (Or.inr (by omega)))
      have hE : hav P (nI j) k v0 = (-1, refP P 3) := by
        unfold hav
        rw [hz]
        exact (if_pos ⟨⟨hk.1, by omega⟩, hv9⟩).trans (if_neg (fun q => q.elim (fun y => y hv) (fun y => by omega)))
      first | refine a_aload_n K dX11_having_0 rfl ?_ | refine a_aload_nN K dX11_having_0 rfl ?_
      refine a_iconst K dX11_having_1 (v := 0) (by decide) ?_
      refine a_putI K fd_X11_116 (by exact lm_o hM) rfl dX11_having_2 ?_
      have f0 : frM S (wI S 704 (m 33) 0) m [] [704] := frM_wI (by decide) (by decide)
      obtain ⟨T, hT⟩ : ∃ T, T = wI S 704 (m 33) 0 := ⟨_, rfl⟩
      rw [← hT] at f0 ⊢
      obtain ⟨h, q0⟩ := h0.scr hP f0 (by decide) (by decide)
      have hM := h.1
      first | refine a_aload_n K dX11_having_5 rfl ?_ | refine a_aload_nN K dX11_having_5 rfl ?_
      refine a_iload_n K dX11_having_6 rfl ?_
      refine a_invV K (q_mapY h hl9 hz) my_X11_isMap ml_X11_309 im_X11_isMap se_X11_isMap (ci := 11) (by exact lm_o hM) (by decide) ⟨_, _, rfl⟩ rfl (by omega) (by omega) (by omega) rfl (Nat.le_of_ble_eq_true rfl) dX11_having_7 ?_
      intro r9 S9 hp9
      obtain ⟨rfl, hS9⟩ := hp9
      obtain rfl := hS9.symm
      refine a_if_ne K dX11_having_10 (tgt := 19) (by decide) (fun c_10 => ?_) (fun c_10 => absurd c_10 (by decide))
      refine a_iload_n K dX11_having_19 rfl ?_
      refine a_i2l K dX11_having_20 ?_
      refine a_lconst K dX11_having_21 (v := 0) (by decide) ?_
      refine a_ldc2 K kc_X11_335 dX11_having_22 ?_
      refine a_invS K (q_inY (p := 0) (q := 999) (by decide) (by decide) (by first | assumption | omega)) my_X11_isIn ml_X11_174 st_X11_isIn rfl (by omega) (by omega) (by omega) rfl (Nat.le_of_ble_eq_true rfl) dX11_having_25 ?_
      intro r9 S9 hp9
      obtain ⟨rfl, hS9⟩ := hp9
      obtain rfl := hS9.symm
      refine a_if_eq K dX11_having_28 (tgt := 45) (by decide) (fun c_28 => absurd c_28 (by decide)) (fun c_28 => ?_)
      refine a_iload_n K dX11_having_31 rfl ?_
      refine a_i2l K dX11_having_32 ?_
      refine a_ldc2 K kc_X11_337 dX11_having_33 ?_
      refine a_ldc2 K kc_X11_335 dX11_having_36 ?_
      refine a_invS K (q_inY (p := -999) (q := 999) (by decide) (by decide) (by first | assumption | omega)) my_X11_isIn ml_X11_174 st_X11_isIn rfl (by omega) (by omega) (by omega) rfl (Nat.le_of_ble_eq_true rfl) dX11_having_39 ?_
      intro r9 S9 hp9
      obtain ⟨rfl, hS9⟩ := hp9
      obtain rfl := hS9.symm
      refine a_if_ne K dX11_having_42 (tgt := 51) (by decide) (fun c_42 => ?_) (fun c_42 => absurd c_42 (by decide))
      first | refine a_aload_n K dX11_having_51 rfl ?_ | refine a_aload_nN K dX11_having_51 rfl ?_
      first | refine a_aload_n K dX11_having_52 rfl ?_ | refine a_aload_nN K dX11_having_52 rfl ?_
      refine a_getRs K fd_X11_67 (by exact lm_o hM) (Or.inr ⟨_, rfl⟩) (by exact lm_r736 hM) dX11_having_53 ?_
      refine a_iload_n K dX11_having_56 rfl ?_
      refine a_iald K (by exact lm_kk hM (by decide) (by decide)) (by show vp_in _ (sN T (m 17)); exact lm_ix (z := 999) hM (by decide) (by decide) (show j < 999 by omega) (by decide)) dX11_having_57 ?_
      rw [nI_clamp (by omega)]
      rw [h.root2 hz (by omega)]
      refine a_invV K (m_keysOf hM (h.rep (rootP_live hz)) (by omega) (by omega) (by omega)) my_X11_keysOf ml_X11_332 im_X11_keysOf se_X11_keysOf (ci := 11) (by exact lm_o hM) (by decide) ⟨_, _, rfl⟩ rfl (by omega) (by omega) (by omega) rfl (Nat.le_of_ble_eq_true rfl) dX11_having_58 ?_
      intro r9 S9 hp9
      obtain ⟨rfl, hLy, f9⟩ := hp9
      obtain ⟨h9, q9⟩ := h.scr hP f9 (by decide) (by decide)
      have hM := h9.1
      skip
      refine a_bipush K dX11_having_61 (v := 60) (by decide) ?_
      refine a_icmp_ne K dX11_having_63 (tgt := 88) (by decide) (fun c_63 => absurd c_63 (fun q => q (by rw [h60e]; rfl))) (fun c_63 => ?_)
      first | refine a_aload_n K dX11_having_66 rfl ?_ | refine a_aload_nN K dX11_having_66 rfl ?_
      first | refine a_aload_n K dX11_having_67 rfl ?_ | refine a_aload_nN K dX11_having_67 rfl ?_
      refine a_getRs K fd_X11_67 (by exact lm_o hM) (Or.inr ⟨_, rfl⟩) (by exact lm_r736 hM) dX11_having_68 ?_
      refine a_iload_n K dX11_having_71 rfl ?_
      refine a_iald K (by exact lm_kk hM (by decide) (by decide)) (by show vp_in _ (sN S9 (m 17)); exact lm_ix (z := 999) hM (by decide) (by decide) (show j < 999 by omega) (by decide)) dX11_having_72 ?_
      rw [nI_clamp (by omega)]
      rw [h9.root2 hz (by omega)]
      refine a_iload_n K dX11_having_73 rfl ?_
      refine a_invV K (m_valueAt hM (h9.rep (rootP_live hz)) (tz.1.ne hw3) tz.hs (key := k)) my_X11_valueAt ml_X11_218 im_X11_valueAt se_X11_valueAt (ci := 11) (by exact lm_o hM) (by decide) ⟨_, _, rfl⟩ rfl (by omega) (by omega) (by omega) rfl (Nat.le_of_ble_eq_true rfl) dX11_having_74 ?_
      intro r8 S8 hp8
      obtain ⟨rfl, hS8⟩ := hp8
      obtain rfl := hS8.symm
      rw [tz.1.val hw3 k]
      refine a_ldc K kc_X11_170 dX11_having_77 ?_
      refine a_icmp_ne K dX11_having_79 (tgt := 88) (by decide) (fun c_79 => absurd c_79 (fun q => q hv)) (fun c_79 => ?_)
      first | refine a_aload_n K dX11_having_82 rfl ?_ | refine a_aload_nN K dX11_having_82 rfl ?_
      refine a_iconst K dX11_having_83 (v := 3) (by decide) ?_
      rw [show (3 : Int32) = nI 3 from rfl]
      refine a_invV K (q_refP h9 (k := 3) (by decide)) my_X11_refused ml_X11_292 im_X11_refused se_X11_refused (ci := 11) (by exact lm_o hM) (by decide) ⟨_, _, rfl⟩ rfl (by omega) (by omega) (by omega) rfl (Nat.le_of_ble_eq_true rfl) dX11_having_84 ?_
      intro r9 S9 hp9
      obtain ⟨rfl, hR, qR⟩ := hp9
      exact a_iret K EE rfl (by omega) (by omega) dX11_having_87 ⟨ρ, Z, by rw [hE], by rw [hE]; exact hR.up (Nat.le_succ mb) (by omega), mQ_tr q0 (mQ_tr q9 qR)⟩
    have hfit := Classical.not_not.mp hfit
    by_cases hr : hcnt (pH P) < 16 ∧ (pM P).length < 999
    · have hE : hav P (nI j) k v0 = (nI (pM P).length, addM (setU (incT P) (putT (pW P) (pTk P) (pU P) k v0 z).2) (putT (pW P) (pTk P) (pU P) k v0 z).1 (nI j) (-1)) := by
        unfold hav
        rw [hz]
        exact (if_pos ⟨⟨hk.1, by omega⟩, hv9⟩).trans ((if_pos hfit).trans (if_pos hr))
      have tail : ∀ (T S9 : aw_S), frS S T (mQ m) → RM S9 m ρ Z mb P → frS T S9 (mQ m) → aw g 4 S9 0 0 [(3, .int v0), (2, .int k), (1, .int (nI j)), (0, .ref (m 33))] [] 88 := by
        intro T S9 q0 h9 q9
        have hM := h9.1
        first | refine a_aload_n K dX11_having_88 rfl ?_ | refine a_aload_nN K dX11_having_88 rfl ?_
        refine a_invV K ((h9.room hl9 hc16).1 hr) my_X11_hasRoom ml_X11_289 im_X11_hasRoom se_X11_hasRoom (ci := 11) (by exact lm_o hM) (by decide) ⟨_, _, rfl⟩ rfl (by omega) (by omega) (by omega) rfl (Nat.le_of_ble_eq_true rfl) dX11_having_89 ?_
        intro r9 S9 hp9
        obtain ⟨rfl, hS9⟩ := hp9
        obtain rfl := hS9.symm
        refine a_if_ne K dX11_having_92 (tgt := 101) (by decide) (fun c_92 => ?_) (fun c_92 => absurd c_92 (by decide))
        first | refine a_aload_n K dX11_having_101 rfl ?_ | refine a_aload_nN K dX11_having_101 rfl ?_
        first | refine a_aload_n K dX11_having_102 rfl ?_ | refine a_aload_nN K dX11_having_102 rfl ?_
        first | refine a_aload_n K dX11_having_103 rfl ?_ | refine a_aload_nN K dX11_having_103 rfl ?_
        refine a_getRs K fd_X11_67 (by exact lm_o hM) (Or.inr ⟨_, rfl⟩) (by exact lm_r736 hM) dX11_having_104 ?_
        refine a_iload_n K dX11_having_107 rfl ?_
        refine a_iald K (by exact lm_kk hM (by decide) (by decide)) (by show vp_in _ (sN S9 (m 17)); exact lm_ix (z := 999) hM (by decide) (by decide) (show j < 999 by omega) (by decide)) dX11_having_108 ?_
        rw [nI_clamp (by omega)]
        rw [h9.root2 hz (by omega)]
        refine a_iload_n K dX11_having_109 rfl ?_
        refine a_iload_n K dX11_having_110 rfl ?_
        first | refine a_aload_n K dX11_having_111 rfl ?_ | refine a_aload_nN K dX11_having_111 rfl ?_
        refine a_invV K (q_newTk h9 hJ hmb) my_X11_newToken ml_X11_295 im_X11_newToken se_X11_newToken (ci := 11) (by exact lm_o hM) (by decide) ⟨_, _, rfl⟩ rfl (by omega) (by omega) (by omega) rfl (Nat.le_of_ble_eq_true rfl) dX11_having_112 ?_
        intro r9 S1 hp9
        obtain ⟨rfl, Z1, h1, hrm1, q1⟩ := hp9
        have hM := h1.1
        have ts0 : TS S1 S1 m ρ ρ (pU P) (pU P) Z1 Z1 (pTk P) (ndl z.1 z.2) z := TS.rf h1.N.1 h1.N.2.1 (h1.rep (rootP_live hz))
        have hQ0 : ∀ x ∈ ndl z.1 z.2, LvN (incT P) x.1 := live_in (P := incT P) (rootP_live hz)
        refine a_invV K (ts0.put h1.1 h1.N.2.2.1 hQ0 (tok.tk9 hP tz).1 (by have := hP.2.2.2; omega) h1.wid hw3 hw6 tz.1 tz.2.2.2.1 (by omega) (by omega)) my_X11_puts ml_X11_298 im_X11_puts se_X11_puts (ci := 11) (by exact lm_o hM) (by decide) ⟨_, _, rfl⟩ rfl (by omega) (by omega) (by omega) rfl (Nat.le_of_ble_eq_true rfl) dX11_having_115 ?_
        intro r9 S5 hp9
        obtain ⟨ρ5, Z5, rfl, ts⟩ := hp9
        obtain ⟨h5, q5, r5, a5⟩ := ts.fin (P := incT P) h1 (show IdP (incT P) from hP.ids) (tok.tk9 hP tz).2 hQ0
        have hM := h5.1
        refine a_iload_n K dX11_having_118 rfl ?_
        refine a_iconst K dX11_having_119 (v := -1) (by decide) ?_
        refine a_invV K (q_newMapR h5 hpH hr.2 r5 a5) my_X11_newMap ml_X11_302 im_X11_newMap se_X11_newMap (ci := 11) (by exact lm_o hM) (by decide) ⟨_, _, rfl⟩ rfl (by omega) (by omega) (by omega) rfl (Nat.le_of_ble_eq_true rfl) dX11_having_120 ?_
        intro r9 S6 hp9
        obtain ⟨rfl, h6, q6⟩ := hp9
        exact a_iret K EE rfl (by omega) (by omega) dX11_having_123 ⟨ρ5, Z5, by rw [hE]; rfl, by rw [hE]; exact h6, mQ_tr q0 (mQ_tr q9 (mQ_tr q1 (mQ_tr q5 q6)))⟩
      by_cases h60e : (ent z.1 z.2).length = 60
      · have hv : ¬ valIn (ent z.1 z.2) k = -1000000 := hfit.elim id (fun q => by omega)
        first | refine a_aload_n K dX11_having_0 rfl ?_ | refine a_aload_nN K dX11_having_0 rfl ?_
        refine a_iconst K dX11_having_1 (v := 0) (by decide) ?_
        refine a_putI K fd_X11_116 (by exact lm_o hM) rfl dX11_having_2 ?_
        have f0 : frM S (wI S 704 (m 33) 0) m [] [704] := frM_wI (by decide) (by decide)
        obtain ⟨T, hT⟩ : ∃ T, T = wI S 704 (m 33) 0 := ⟨_, rfl⟩
        rw [← hT] at f0 ⊢
        obtain ⟨h, q0⟩ := h0.scr hP f0 (by decide) (by decide)
        have hM := h.1
        first | refine a_aload_n K dX11_having_5 rfl ?_ | refine a_aload_nN K dX11_having_5 rfl ?_
        refine a_iload_n K dX11_having_6 rfl ?_
        refine a_invV K (q_mapY h hl9 hz) my_X11_isMap ml_X11_309 im_X11_isMap se_X11_isMap (ci := 11) (by exact lm_o hM) (by decide) ⟨_, _, rfl⟩ rfl (by omega) (by omega) (by omega) rfl (Nat.le_of_ble_eq_true rfl) dX11_having_7 ?_
        intro r9 S9 hp9
        obtain ⟨rfl, hS9⟩ := hp9
        obtain rfl := hS9.symm
        refine a_if_ne K dX11_having_10 (tgt := 19) (by decide) (fun c_10 => ?_) (fun c_10 => absurd c_10 (by decide))
        refine a_iload_n K dX11_having_19 rfl ?_
        refine a_i2l K dX11_having_20 ?_
        refine a_lconst K dX11_having_21 (v := 0) (by decide) ?_
        refine a_ldc2 K kc_X11_335 dX11_having_22 ?_
        refine a_invS K (q_inY (p := 0) (q := 999) (by decide) (by decide) (by first | assumption | omega)) my_X11_isIn ml_X11_174 st_X11_isIn rfl (by omega) (by omega) (by omega) rfl (Nat.le_of_ble_eq_true rfl) dX11_having_25 ?_
        intro r9 S9 hp9
        obtain ⟨rfl, hS9⟩ := hp9
        obtain rfl := hS9.symm
        refine a_if_eq K dX11_having_28 (tgt := 45) (by decide) (fun c_28 => absurd c_28 (by decide)) (fun c_28 => ?_)
        refine a_iload_n K dX11_having_31 rfl ?_
        refine a_i2l K dX11_having_32 ?_
        refine a_ldc2 K kc_X11_337 dX11_having_33 ?_
        refine a_ldc2 K kc_X11_335 dX11_having_36 ?_
        refine a_invS K (q_inY (p := -999) (q := 999) (by decide) (by decide) (by first | assumption | omega)) my_X11_isIn ml_X11_174 st_X11_isIn rfl (by omega) (by omega) (by omega) rfl (Nat.le_of_ble_eq_true rfl) dX11_having_39 ?_
        intro r9 S9 hp9
        obtain ⟨rfl, hS9⟩ := hp9
        obtain rfl := hS9.symm
        refine a_if_ne K dX11_having_42 (tgt := 51) (by decide) (fun c_42 => ?_) (fun c_42 => absurd c_42 (by decide))
        first | refine a_aload_n K dX11_having_51 rfl ?_ | refine a_aload_nN K dX11_having_51 rfl ?_
        first | refine a_aload_n K dX11_having_52 rfl ?_ | refine a_aload_nN K dX11_having_52 rfl ?_
        refine a_getRs K fd_X11_67 (by exact lm_o hM) (Or.inr ⟨_, rfl⟩) (by exact lm_r736 hM) dX11_having_53 ?_
        refine a_iload_n K dX11_having_56 rfl ?_
        refine a_iald K (by exact lm_kk hM (by decide) (by decide)) (by show vp_in _ (sN T (m 17)); exact lm_ix (z := 999) hM (by decide) (by decide) (show j < 999 by omega) (by decide)) dX11_having_57 ?_
        rw [nI_clamp (by omega)]
        rw [h.root2 hz (by omega)]
        refine a_invV K (m_keysOf hM (h.rep (rootP_live hz)) (by omega) (by omega) (by omega)) my_X11_keysOf ml_X11_332 im_X11_keysOf se_X11_keysOf (ci := 11) (by exact lm_o hM) (by decide) ⟨_, _, rfl⟩ rfl (by omega) (by omega) (by omega) rfl (Nat.le_of_ble_eq_true rfl) dX11_having_58 ?_
        intro r9 S9 hp9
        obtain ⟨rfl, hLy, f9⟩ := hp9
        obtain ⟨h9, q9⟩ := h.scr hP f9 (by decide) (by decide)
        have hM := h9.1
        skip
        refine a_bipush K dX11_having_61 (v := 60) (by decide) ?_
        refine a_icmp_ne K dX11_having_63 (tgt := 88) (by decide) (fun c_63 => absurd c_63 (fun q => q (by rw [h60e]; rfl))) (fun c_63 => ?_)
        first | refine a_aload_n K dX11_having_66 rfl ?_ | refine a_aload_nN K dX11_having_66 rfl ?_
        first | refine a_aload_n K dX11_having_67 rfl ?_ | refine a_aload_nN K dX11_having_67 rfl ?_
        refine a_getRs K fd_X11_67 (by exact lm_o hM) (Or.inr ⟨_, rfl⟩) (by exact lm_r736 hM) dX11_having_68 ?_
        refine a_iload_n K dX11_having_71 rfl ?_
        refine a_iald K (by exact lm_kk hM (by decide) (by decide)) (by show vp_in _ (sN S9 (m 17)); exact lm_ix (z := 999) hM (by decide) (by decide) (show j < 999 by omega) (by decide)) dX11_having_72 ?_
        rw [nI_clamp (by omega)]
        rw [h9.root2 hz (by omega)]
        refine a_iload_n K dX11_having_73 rfl ?_
        refine a_invV K (m_valueAt hM (h9.rep (rootP_live hz)) (tz.1.ne hw3) tz.hs (key := k)) my_X11_valueAt ml_X11_218 im_X11_valueAt se_X11_valueAt (ci := 11) (by exact lm_o hM) (by decide) ⟨_, _, rfl⟩ rfl (by omega) (by omega) (by omega) rfl (Nat.le_of_ble_eq_true rfl) dX11_having_74 ?_
        intro r8 S8 hp8
        obtain ⟨rfl, hS8⟩ := hp8
        obtain rfl := hS8.symm
        rw [tz.1.val hw3 k]
        refine a_ldc K kc_X11_170 dX11_having_77 ?_
        refine a_icmp_ne K dX11_having_79 (tgt := 88) (by decide) (fun c_79 => ?_) (fun c_79 => absurd c_79 (hv))
        exact aw_locl rfl (tail T S9 q0 h9 q9)
      · first | refine a_aload_n K dX11_having_0 rfl ?_ | refine a_aload_nN K dX11_having_0 rfl ?_
        refine a_iconst K dX11_having_1 (v := 0) (by decide) ?_
        refine a_putI K fd_X11_116 (by exact lm_o hM) rfl dX11_having_2 ?_
        have f0 : frM S (wI S 704 (m 33) 0) m [] [704] := frM_wI (by decide) (by decide)
        obtain ⟨T, hT⟩ : ∃ T, T = wI S 704 (m 33) 0 := ⟨_, rfl⟩
        rw [← hT] at f0 ⊢
        obtain ⟨h, q0⟩ := h0.scr hP f0 (by decide) (by decide)
        have hM := h.1
        first | refine a_aload_n K dX11_having_5 rfl ?_ | refine a_aload_nN K dX11_having_5 rfl ?_
        refine a_iload_n K dX11_having_6 rfl ?_
        refine a_invV K (q_mapY h hl9 hz) my_X11_isMap ml_X11_309 im_X11_isMap se_X11_isMap (ci := 11) (by exact lm_o hM) (by decide) ⟨_, _, rfl⟩ rfl (by omega) (by omega) (by omega) rfl (Nat.le_of_ble_eq_true rfl) dX11_having_7 ?_
        intro r9 S9 hp9
        obtain ⟨rfl, hS9⟩ := hp9
        obtain rfl := hS9.symm
        refine a_if_ne K dX11_having_10 (tgt := 19) (by decide) (fun c_10 => ?_) (fun c_10 => absurd c_10 (by decide))
        refine a_iload_n K dX11_having_19 rfl ?_
        refine a_i2l K dX11_having_20 ?_
        refine a_lconst K dX11_having_21 (v := 0) (by decide) ?_
        refine a_ldc2 K kc_X11_335 dX11_having_22 ?_
        refine a_invS K (q_inY (p := 0) (q := 999) (by decide) (by decide) (by first | assumption | omega)) my_X11_isIn ml_X11_174 st_X11_isIn rfl (by omega) (by omega) (by omega) rfl (Nat.le_of_ble_eq_true rfl) dX11_having_25 ?_
        intro r9 S9 hp9
        obtain ⟨rfl, hS9⟩ := hp9
        obtain rfl := hS9.symm
        refine a_if_eq K dX11_having_28 (tgt := 45) (by decide) (fun c_28 => absurd c_28 (by decide)) (fun c_28 => ?_)
        refine a_iload_n K dX11_having_31 rfl ?_
        refine a_i2l K dX11_having_32 ?_
        refine a_ldc2 K kc_X11_337 dX11_having_33 ?_
        refine a_ldc2 K kc_X11_335 dX11_having_36 ?_
        refine a_invS K (q_inY (p := -999) (q := 999) (by decide) (by decide) (by first | assumption | omega)) my_X11_isIn ml_X11_174 st_X11_isIn rfl (by omega) (by omega) (by omega) rfl (Nat.le_of_ble_eq_true rfl) dX11_having_39 ?_
        intro r9 S9 hp9
        obtain ⟨rfl, hS9⟩ := hp9
        obtain rfl := hS9.symm
        refine a_if_ne K dX11_having_42 (tgt := 51) (by decide) (fun c_42 => ?_) (fun c_42 => absurd c_42 (by decide))
        first | refine a_aload_n K dX11_having_51 rfl ?_ | refine a_aload_nN K dX11_having_51 rfl ?_
        first | refine a_aload_n K dX11_having_52 rfl ?_ | refine a_aload_nN K dX11_having_52 rfl ?_
        refine a_getRs K fd_X11_67 (by exact lm_o hM) (Or.inr ⟨_, rfl⟩) (by exact lm_r736 hM) dX11_having_53 ?_
        refine a_iload_n K dX11_having_56 rfl ?_
        refine a_iald K (by exact lm_kk hM (by decide) (by decide)) (by show vp_in _ (sN T (m 17)); exact lm_ix (z := 999) hM (by decide) (by decide) (show j < 999 by omega) (by decide)) dX11_having_57 ?_
        rw [nI_clamp (by omega)]
        rw [h.root2 hz (by omega)]
        refine a_invV K (m_keysOf hM (h.rep (rootP_live hz)) (by omega) (by omega) (by omega)) my_X11_keysOf ml_X11_332 im_X11_keysOf se_X11_keysOf (ci := 11) (by exact lm_o hM) (by decide) ⟨_, _, rfl⟩ rfl (by omega) (by omega) (by omega) rfl (Nat.le_of_ble_eq_true rfl) dX11_having_58 ?_
        intro r9 S9 hp9
        obtain ⟨rfl, hLy, f9⟩ := hp9
        obtain ⟨h9, q9⟩ := h.scr hP f9 (by decide) (by decide)
        have hM := h9.1
        skip
        refine a_bipush K dX11_having_61 (v := 60) (by decide) ?_
        refine a_icmp_ne K dX11_having_63 (tgt := 88) (by decide) (fun c_63 => ?_) (fun c_63 => absurd c_63 (fun q => h60e (by have h9 := nI_inj (a := (ent z.1 z.2).length) (b := 60) (by omega) (by decide) q; omega)))
        exact aw_locl rfl (tail T S9 q0 h9 q9)
    · have hE : hav P (nI j) k v0 = (-1, refP P 4) := by
        unfold hav
        rw [hz]
        exact (if_pos ⟨⟨hk.1, by omega⟩, hv9⟩).trans ((if_pos hfit).trans (if_neg hr))
      have tail : ∀ (T S9 : aw_S), frS S T (mQ m) → RM S9 m ρ Z mb P → frS T S9 (mQ m) → aw g 4 S9 0 0 [(3, .int v0), (2, .int k), (1, .int (nI j)), (0, .ref (m 33))] [] 88 := by
        intro T S9 q0 h9 q9
        have hM := h9.1
        first | refine a_aload_n K dX11_having_88 rfl ?_ | refine a_aload_nN K dX11_having_88 rfl ?_
        refine a_invV K ((h9.room hl9 hc16).2 hr) my_X11_hasRoom ml_X11_289 im_X11_hasRoom se_X11_hasRoom (ci := 11) (by exact lm_o hM) (by decide) ⟨_, _, rfl⟩ rfl (by omega) (by omega) (by omega) rfl (Nat.le_of_ble_eq_true rfl) dX11_having_89 ?_
        intro r9 S9 hp9
        obtain ⟨rfl, hS9⟩ := hp9
        obtain rfl := hS9.symm
        refine a_if_ne K dX11_having_92 (tgt := 101) (by decide) (fun c_92 => absurd c_92 (fun q => q rfl)) (fun c_92 => ?_)
        first | refine a_aload_n K dX11_having_95 rfl ?_ | refine a_aload_nN K dX11_having_95 rfl ?_
        refine a_iconst K dX11_having_96 (v := 4) (by decide) ?_
        rw [show (4 : Int32) = nI 4 from rfl]
        refine a_invV K (q_refP h9 (k := 4) (by decide)) my_X11_refused ml_X11_292 im_X11_refused se_X11_refused (ci := 11) (by exact lm_o hM) (by decide) ⟨_, _, rfl⟩ rfl (by omega) (by omega) (by omega) rfl (Nat.le_of_ble_eq_true rfl) dX11_having_97 ?_
        intro r9 S9 hp9
        obtain ⟨rfl, hR, qR⟩ := hp9
        exact a_iret K EE rfl (by omega) (by omega) dX11_having_100 ⟨ρ, Z, by rw [hE], by rw [hE]; exact hR.up (Nat.le_succ mb) (by omega), mQ_tr q0 (mQ_tr q9 qR)⟩
      by_cases h60e : (ent z.1 z.2).length = 60
      · have hv : ¬ valIn (ent z.1 z.2) k = -1000000 := hfit.elim id (fun q => by omega)
        first | refine a_aload_n K dX11_having_0 rfl ?_ | refine a_aload_nN K dX11_having_0 rfl ?_
        refine a_iconst K dX11_having_1 (v := 0) (by decide) ?_
        refine a_putI K fd_X11_116 (by exact lm_o hM) rfl dX11_having_2 ?_
        have f0 : frM S (wI S 704 (m 33) 0) m [] [704] := frM_wI (by decide) (by decide)
        obtain ⟨T, hT⟩ : ∃ T, T = wI S 704 (m 33) 0 := ⟨_, rfl⟩
        rw [← hT] at f0 ⊢
        obtain ⟨h, q0⟩ := h0.scr hP f0 (by decide) (by decide)
        have hM := h.1
        first | refine a_aload_n K dX11_having_5 rfl ?_ | refine a_aload_nN K dX11_having_5 rfl ?_
        refine a_iload_n K dX11_having_6 rfl ?_
        refine a_invV K (q_mapY h hl9 hz) my_X11_isMap ml_X11_309 im_X11_isMap se_X11_isMap (ci := 11) (by exact lm_o hM) (by decide) ⟨_, _, rfl⟩ rfl (by omega) (by omega) (by omega) rfl (Nat.le_of_ble_eq_true rfl) dX11_having_7 ?_
        intro r9 S9 hp9
        obtain ⟨rfl, hS9⟩ := hp9
        obtain rfl := hS9.symm
        refine a_if_ne K dX11_having_10 (tgt := 19) (by decide) (fun c_10 => ?_) (fun c_10 => absurd c_10 (by decide))
        refine a_iload_n K dX11_having_19 rfl ?_
        refine a_i2l K dX11_having_20 ?_
        refine a_lconst K dX11_having_21 (v := 0) (by decide) ?_
        refine a_ldc2 K kc_X11_335 dX11_having_22 ?_
        refine a_invS K (q_inY (p := 0) (q := 999) (by decide) (by decide) (by first | assumption | omega)) my_X11_isIn ml_X11_174 st_X11_isIn rfl (by omega) (by omega) (by omega) rfl (Nat.le_of_ble_eq_true rfl) dX11_having_25 ?_
        intro r9 S9 hp9
        obtain ⟨rfl, hS9⟩ := hp9
        obtain rfl := hS9.symm
        refine a_if_eq K dX11_having_28 (tgt := 45) (by decide) (fun c_28 => absurd c_28 (by decide)) (fun c_28 => ?_)
        refine a_iload_n K dX11_having_31 rfl ?_
        refine a_i2l K dX11_having_32 ?_
        refine a_ldc2 K kc_X11_337 dX11_having_33 ?_
        refine a_ldc2 K kc_X11_335 dX11_having_36 ?_
        refine a_invS K (q_inY (p := -999) (q := 999) (by decide) (by decide) (by first | assumption | omega)) my_X11_isIn ml_X11_174 st_X11_isIn rfl (by omega) (by omega) (by omega) rfl (Nat.le_of_ble_eq_true rfl) dX11_having_39 ?_
        intro r9 S9 hp9
        obtain ⟨rfl, hS9⟩ := hp9
        obtain rfl := hS9.symm
        refine a_if_ne K dX11_having_42 (tgt := 51) (by decide) (fun c_42 => ?_) (fun c_42 => absurd c_42 (by decide))
        first | refine a_aload_n K dX11_having_51 rfl ?_ | refine a_aload_nN K dX11_having_51 rfl ?_
        first | refine a_aload_n K dX11_having_52 rfl ?_ | refine a_aload_nN K dX11_having_52 rfl ?_
        refine a_getRs K fd_X11_67 (by exact lm_o hM) (Or.inr ⟨_, rfl⟩) (by exact lm_r736 hM) dX11_having_53 ?_
        refine a_iload_n K dX11_having_56 rfl ?_
        refine a_iald K (by exact lm_kk hM (by decide) (by decide)) (by show vp_in _ (sN T (m 17)); exact lm_ix (z := 999) hM (by decide) (by decide) (show j < 999 by omega) (by decide)) dX11_having_57 ?_
        rw [nI_clamp (by omega)]
        rw [h.root2 hz (by omega)]
        refine a_invV K (m_keysOf hM (h.rep (rootP_live hz)) (by omega) (by omega) (by omega)) my_X11_keysOf ml_X11_332 im_X11_keysOf se_X11_keysOf (ci := 11) (by exact lm_o hM) (by decide) ⟨_, _, rfl⟩ rfl (by omega) (by omega) (by omega) rfl (Nat.le_of_ble_eq_true rfl) dX11_having_58 ?_
        intro r9 S9 hp9
        obtain ⟨rfl, hLy, f9⟩ := hp9
        obtain ⟨h9, q9⟩ := h.scr hP f9 (by decide) (by decide)
        have hM := h9.1
        skip
        refine a_bipush K dX11_having_61 (v := 60) (by decide) ?_
        refine a_icmp_ne K dX11_having_63 (tgt := 88) (by decide) (fun c_63 => absurd c_63 (fun q => q (by rw [h60e]; rfl))) (fun c_63 => ?_)
        first | refine a_aload_n K dX11_having_66 rfl ?_ | refine a_aload_nN K dX11_having_66 rfl ?_
        first | refine a_aload_n K dX11_having_67 rfl ?_ | refine a_aload_nN K dX11_having_67 rfl ?_
        refine a_getRs K fd_X11_67 (by exact lm_o hM) (Or.inr ⟨_, rfl⟩) (by exact lm_r736 hM) dX11_having_68 ?_
        refine a_iload_n K dX11_having_71 rfl ?_
        refine a_iald K (by exact lm_kk hM (by decide) (by decide)) (by show vp_in _ (sN S9 (m 17)); exact lm_ix (z := 999) hM (by decide) (by decide) (show j < 999 by omega) (by decide)) dX11_having_72 ?_
        rw [nI_clamp (by omega)]
        rw [h9.root2 hz (by omega)]
        refine a_iload_n K dX11_having_73 rfl ?_
        refine a_invV K (m_valueAt hM (h9.rep (rootP_live hz)) (tz.1.ne hw3) tz.hs (key := k)) my_X11_valueAt ml_X11_218 im_X11_valueAt se_X11_valueAt (ci := 11) (by exact lm_o hM) (by decide) ⟨_, _, rfl⟩ rfl (by omega) (by omega) (by omega) rfl (Nat.le_of_ble_eq_true rfl) dX11_having_74 ?_
        intro r8 S8 hp8
        obtain ⟨rfl, hS8⟩ := hp8
        obtain rfl := hS8.symm
        rw [tz.1.val hw3 k]
        refine a_ldc K kc_X11_170 dX11_having_77 ?_
        refine a_icmp_ne K dX11_having_79 (tgt := 88) (by decide) (fun c_79 => ?_) (fun c_79 => absurd c_79 (hv))
        exact aw_locl rfl (tail T S9 q0 h9 q9)
      · first | refine a_aload_n K dX11_having_0 rfl ?_ | refine a_aload_nN K dX11_having_0 rfl ?_
        refine a_iconst K dX11_having_1 (v := 0) (by decide) ?_
        refine a_putI K fd_X11_116 (by exact lm_o hM) rfl dX11_having_2 ?_
        have f0 : frM S (wI S 704 (m 33) 0) m [] [704] := frM_wI (by decide) (by decide)
        obtain ⟨T, hT⟩ : ∃ T, T = wI S 704 (m 33) 0 := ⟨_, rfl⟩
        rw [← hT] at f0 ⊢
        obtain ⟨h, q0⟩ := h0.scr hP f0 (by decide) (by decide)
        have hM := h.1
        first | refine a_aload_n K dX11_having_5 rfl ?_ | refine a_aload_nN K dX11_having_5 rfl ?_
        refine a_iload_n K dX11_having_6 rfl ?_
        refine a_invV K (q_mapY h hl9 hz) my_X11_isMap ml_X11_309 im_X11_isMap se_X11_isMap (ci := 11) (by exact lm_o hM) (by decide) ⟨_, _, rfl⟩ rfl (by omega) (by omega) (by omega) rfl (Nat.le_of_ble_eq_true rfl) dX11_having_7 ?_
        intro r9 S9 hp9
        obtain ⟨rfl, hS9⟩ := hp9
        obtain rfl := hS9.symm
        refine a_if_ne K dX11_having_10 (tgt := 19) (by decide) (fun c_10 => ?_) (fun c_10 => absurd c_10 (by decide))
        refine a_iload_n K dX11_having_19 rfl ?_
        refine a_i2l K dX11_having_20 ?_
        refine a_lconst K dX11_having_21 (v := 0) (by decide) ?_
        refine a_ldc2 K kc_X11_335 dX11_having_22 ?_
        refine a_invS K (q_inY (p := 0) (q := 999) (by decide) (by decide) (by first | assumption | omega)) my_X11_isIn ml_X11_174 st_X11_isIn rfl (by omega) (by omega) (by omega) rfl (Nat.le_of_ble_eq_true rfl) dX11_having_25 ?_
        intro r9 S9 hp9
        obtain ⟨rfl, hS9⟩ := hp9
        obtain rfl := hS9.symm
        refine a_if_eq K dX11_having_28 (tgt := 45) (by decide) (fun c_28 => absurd c_28 (by decide)) (fun c_28 => ?_)
        refine a_iload_n K dX11_having_31 rfl ?_
        refine a_i2l K dX11_having_32 ?_
        refine a_ldc2 K kc_X11_337 dX11_having_33 ?_
        refine a_ldc2 K kc_X11_335 dX11_having_36 ?_
        refine a_invS K (q_inY (p := -999) (q := 999) (by decide) (by decide) (by first | assumption | omega)) my_X11_isIn ml_X11_174 st_X11_isIn rfl (by omega) (by omega) (by omega) rfl (Nat.le_of_ble_eq_true rfl) dX11_having_39 ?_
        intro r9 S9 hp9
        obtain ⟨rfl, hS9⟩ := hp9
        obtain rfl := hS9.symm
        refine a_if_ne K dX11_having_42 (tgt := 51) (by decide) (fun c_42 => ?_) (fun c_42 => absurd c_42 (by decide))
        first | refine a_aload_n K dX11_having_51 rfl ?_ | refine a_aload_nN K dX11_having_51 rfl ?_
        first | refine a_aload_n K dX11_having_52 rfl ?_ | refine a_aload_nN K dX11_having_52 rfl ?_
        refine a_getRs K fd_X11_67 (by exact lm_o hM) (Or.inr ⟨_, rfl⟩) (by exact lm_r736 hM) dX11_having_53 ?_
        refine a_iload_n K dX11_having_56 rfl ?_
        refine a_iald K (by exact lm_kk hM (by decide) (by decide)) (by show vp_in _ (sN T (m 17)); exact lm_ix (z := 999) hM (by decide) (by decide) (show j < 999 by omega) (by decide)) dX11_having_57 ?_
        rw [nI_clamp (by omega)]
        rw [h.root2 hz (by omega)]
        refine a_invV K (m_keysOf hM (h.rep (rootP_live hz)) (by omega) (by omega) (by omega)) my_X11_keysOf ml_X11_332 im_X11_keysOf se_X11_keysOf (ci := 11) (by exact lm_o hM) (by decide) ⟨_, _, rfl⟩ rfl (by omega) (by omega) (by omega) rfl (Nat.le_of_ble_eq_true rfl) dX11_having_58 ?_
        intro r9 S9 hp9
        obtain ⟨rfl, hLy, f9⟩ := hp9
        obtain ⟨h9, q9⟩ := h.scr hP f9 (by decide) (by decide)
        have hM := h9.1
        skip
        refine a_bipush K dX11_having_61 (v := 60) (by decide) ?_
        refine a_icmp_ne K dX11_having_63 (tgt := 88) (by decide) (fun c_63 => ?_) (fun c_63 => absurd c_63 (fun q => h60e (by have h9 := nI_inj (a := (ent z.1 z.2).length) (b := 60) (by omega) (by decide) q; omega)))
        exact aw_locl rfl (tail T S9 q0 h9 q9)
set_option maxHeartbeats 4000000 in
set_option maxRecDepth 100000 in
theorem q_lacking {S : aw_S} {m ρ : Nat → Nat} {Z : List Nat × Nat} {mb n9 : Nat} {P : PS} (h0 : RM S m ρ Z mb P) (hJ : PJ n9 P) (hmb : mb + 1 < 2147483000) {i k : Int32} : aw_M yX11_lacking cX11_lacking 3 (some FieldType.int) 9 0 0 [.ref (m 33), .int i, .int k] S (fun r S2 => ∃ ρ2 Z2, r = some (.int (lac P i k).1) ∧ RM S2 m ρ2 Z2 (mb + 1) (lac P i k).2 ∧ frS S S2 (mQ m)) := by
  have hP := hJ.1
  have hw3 := hP.1.1
  have hM := h0.1
  have hl9 := hJ.ln
  have hw6 := hP.1.2
  have hpH := hJ.2.2.2.2.2.1.1
  have hc16 := hJ.2.2.2.2.2.1.2.1
  refine aw_enter (by decide +kernel) (Nat.le_of_ble_eq_true rfl) (fun g K EE => ?_)
  cases hz : rootP P i with
  | none =>
    first | refine a_aload_n K dX11_lacking_0 rfl ?_ | refine a_aload_nN K dX11_lacking_0 rfl ?_
    refine a_iconst K dX11_lacking_1 (v := 0) (by decide) ?_
    refine a_putI K fd_X11_116 (by exact lm_o hM) rfl dX11_lacking_2 ?_
    have f0 : frM S (wI S 704 (m 33) 0) m [] [704] := frM_wI (by decide) (by decide)
    obtain ⟨T, hT⟩ : ∃ T, T = wI S 704 (m 33) 0 := ⟨_, rfl⟩
    rw [← hT] at f0 ⊢
    obtain ⟨h, q0⟩ := h0.scr hP f0 (by decide) (by decide)
    have hM := h.1
    first | refine a_aload_n K dX11_lacking_5 rfl ?_ | refine a_aload_nN K dX11_lacking_5 rfl ?_
    refine a_iload_n K dX11_lacking_6 rfl ?_
    refine a_invV K (q_mapN h hl9 hz) my_X11_isMap ml_X11_309 im_X11_isMap se_X11_isMap (ci := 11) (by exact lm_o hM) (by decide) ⟨_, _, rfl⟩ rfl (by omega) (by omega) (by omega) rfl (Nat.le_of_ble_eq_true rfl) dX11_lacking_7 ?_
    intro r9 S9 hp9
    obtain ⟨rfl, hS9⟩ := hp9
    obtain rfl := hS9.symm
    refine a_if_ne K dX11_lacking_10 (tgt := 19) (by decide) (fun c_10 => absurd c_10 (fun q => q rfl)) (fun c_10 => ?_)
    first | refine a_aload_n K dX11_lacking_13 rfl ?_ | refine a_aload_nN K dX11_lacking_13 rfl ?_
    refine a_iconst K dX11_lacking_14 (v := 0) (by decide) ?_
    rw [show (0 : Int32) = nI 0 from rfl]
    refine a_invV K (q_refP h (k := 0) (by decide)) my_X11_refused ml_X11_292 im_X11_refused se_X11_refused (ci := 11) (by exact lm_o hM) (by decide) ⟨_, _, rfl⟩ rfl (by omega) (by omega) (by omega) rfl (Nat.le_of_ble_eq_true rfl) dX11_lacking_15 ?_
    intro r9 S9 hp9
    obtain ⟨rfl, hR, qR⟩ := hp9
    exact a_iret K EE rfl (by omega) (by omega) dX11_lacking_18 ⟨ρ, Z, by unfold lac; rw [hz], by unfold lac; rw [hz]; exact hR.up (Nat.le_succ mb) (by omega), mQ_tr q0 qR⟩
  | some z =>
    obtain ⟨j, hij, hj, -⟩ := h0.root hz
    subst hij
    have tz := hP.tz (rootP_live hz)
    have h4z := tz.h4 hw3
    have e60z := tz.2.2.1
    by_cases hk : ¬ (0 ≤ k.toInt ∧ k.toInt ≤ 999)
    · have hE : lac P (nI j) k = (-1, refP P 1) := by
        unfold lac
        rw [hz]
        exact if_neg (fun q => hk ⟨q.1, by have := q.2; omega⟩)
      first | refine a_aload_n K dX11_lacking_0 rfl ?_ | refine a_aload_nN K dX11_lacking_0 rfl ?_
      refine a_iconst K dX11_lacking_1 (v := 0) (by decide) ?_
      refine a_putI K fd_X11_116 (by exact lm_o hM) rfl dX11_lacking_2 ?_
      have f0 : frM S (wI S 704 (m 33) 0) m [] [704] := frM_wI (by decide) (by decide)
      obtain ⟨T, hT⟩ : ∃ T, T = wI S 704 (m 33) 0 := ⟨_, rfl⟩
      rw [← hT] at f0 ⊢
      obtain ⟨h, q0⟩ := h0.scr hP f0 (by decide) (by decide)
      have hM := h.1
      first | refine a_aload_n K dX11_lacking_5 rfl ?_ | refine a_aload_nN K dX11_lacking_5 rfl ?_
      refine a_iload_n K dX11_lacking_6 rfl ?_
      refine a_invV K (q_mapY h hl9 hz) my_X11_isMap ml_X11_309 im_X11_isMap se_X11_isMap (ci := 11) (by exact lm_o hM) (by decide) ⟨_, _, rfl⟩ rfl (by omega) (by omega) (by omega) rfl (Nat.le_of_ble_eq_true rfl) dX11_lacking_7 ?_
      intro r9 S9 hp9
      obtain ⟨rfl, hS9⟩ := hp9
      obtain rfl := hS9.symm
      refine a_if_ne K dX11_lacking_10 (tgt := 19) (by decide) (fun c_10 => ?_) (fun c_10 => absurd c_10 (by decide))
      refine a_iload_n K dX11_lacking_19 rfl ?_
      refine a_i2l K dX11_lacking_20 ?_
      refine a_lconst K dX11_lacking_21 (v := 0) (by decide) ?_
      refine a_ldc2 K kc_X11_335 dX11_lacking_22 ?_
      refine a_invS K (q_inN (p := 0) (q := 999) (by decide) (by decide) (by first | assumption | omega)) my_X11_isIn ml_X11_174 st_X11_isIn rfl (by omega) (by omega) (by omega) rfl (Nat.le_of_ble_eq_true rfl) dX11_lacking_25 ?_
      intro r9 S9 hp9
      obtain ⟨rfl, hS9⟩ := hp9
      obtain rfl := hS9.symm
      refine a_if_ne K dX11_lacking_28 (tgt := 37) (by decide) (fun c_28 => absurd c_28 (fun q => q rfl)) (fun c_28 => ?_)
      first | refine a_aload_n K dX11_lacking_31 rfl ?_ | refine a_aload_nN K dX11_lacking_31 rfl ?_
      refine a_iconst K dX11_lacking_32 (v := 1) (by decide) ?_
      rw [show (1 : Int32) = nI 1 from rfl]
      refine a_invV K (q_refP h (k := 1) (by decide)) my_X11_refused ml_X11_292 im_X11_refused se_X11_refused (ci := 11) (by exact lm_o hM) (by decide) ⟨_, _, rfl⟩ rfl (by omega) (by omega) (by omega) rfl (Nat.le_of_ble_eq_true rfl) dX11_lacking_33 ?_
      intro r9 S9 hp9
      obtain ⟨rfl, hR, qR⟩ := hp9
      exact a_iret K EE rfl (by omega) (by omega) dX11_lacking_36 ⟨ρ, Z, by rw [hE], by rw [hE]; exact hR.up (Nat.le_succ mb) (by omega), mQ_tr q0 qR⟩
    have hk := Classical.not_not.mp hk
    by_cases hr : hcnt (pH P) < 16 ∧ (pM P).length < 999
    · have hE : lac P (nI j) k = (nI (pM P).length, addM (setU (incT P) (takT (pW P) (pTk P) (pU P) k z).2) (takT (pW P) (pTk P) (pU P) k z).1 (nI j) (-1)) := by
        unfold lac
        rw [hz]
        exact (if_pos ⟨hk.1, by omega⟩).trans (if_pos hr)
      first | refine a_aload_n K dX11_lacking_0 rfl ?_ | refine a_aload_nN K dX11_lacking_0 rfl ?_
      refine a_iconst K dX11_lacking_1 (v := 0) (by decide) ?_
      refine a_putI K fd_X11_116 (by exact lm_o hM) rfl dX11_lacking_2 ?_
      have f0 : frM S (wI S 704 (m 33) 0) m [] [704] := frM_wI (by decide) (by decide)
      obtain ⟨T, hT⟩ : ∃ T, T = wI S 704 (m 33) 0 := ⟨_, rfl⟩
      rw [← hT] at f0 ⊢
      obtain ⟨h, q0⟩ := h0.scr hP f0 (by decide) (by decide)
      have hM := h.1
      first | refine a_aload_n K dX11_lacking_5 rfl ?_ | refine a_aload_nN K dX11_lacking_5 rfl ?_
      refine a_iload_n K dX11_lacking_6 rfl ?_
      refine a_invV K (q_mapY h hl9 hz) my_X11_isMap ml_X11_309 im_X11_isMap se_X11_isMap (ci := 11) (by exact lm_o hM) (by decide) ⟨_, _, rfl⟩ rfl (by omega) (by omega) (by omega) rfl (Nat.le_of_ble_eq_true rfl) dX11_lacking_7 ?_
      intro r9 S9 hp9
      obtain ⟨rfl, hS9⟩ := hp9
      obtain rfl := hS9.symm
      refine a_if_ne K dX11_lacking_10 (tgt := 19) (by decide) (fun c_10 => ?_) (fun c_10 => absurd c_10 (by decide))
      refine a_iload_n K dX11_lacking_19 rfl ?_
      refine a_i2l K dX11_lacking_20 ?_
      refine a_lconst K dX11_lacking_21 (v := 0) (by decide) ?_
      refine a_ldc2 K kc_X11_335 dX11_lacking_22 ?_
      refine a_invS K (q_inY (p := 0) (q := 999) (by decide) (by decide) (by first | assumption | omega)) my_X11_isIn ml_X11_174 st_X11_isIn rfl (by omega) (by omega) (by omega) rfl (Nat.le_of_ble_eq_true rfl) dX11_lacking_25 ?_
      intro r9 S9 hp9
      obtain ⟨rfl, hS9⟩ := hp9
      obtain rfl := hS9.symm
      refine a_if_ne K dX11_lacking_28 (tgt := 37) (by decide) (fun c_28 => ?_) (fun c_28 => absurd c_28 (by decide))
      first | refine a_aload_n K dX11_lacking_37 rfl ?_ | refine a_aload_nN K dX11_lacking_37 rfl ?_
      refine a_invV K ((h.room hl9 hc16).1 hr) my_X11_hasRoom ml_X11_289 im_X11_hasRoom se_X11_hasRoom (ci := 11) (by exact lm_o hM) (by decide) ⟨_, _, rfl⟩ rfl (by omega) (by omega) (by omega) rfl (Nat.le_of_ble_eq_true rfl) dX11_lacking_38 ?_
      intro r9 S9 hp9
      obtain ⟨rfl, hS9⟩ := hp9
      obtain rfl := hS9.symm
      refine a_if_ne K dX11_lacking_41 (tgt := 50) (by decide) (fun c_41 => ?_) (fun c_41 => absurd c_41 (by decide))
      first | refine a_aload_n K dX11_lacking_50 rfl ?_ | refine a_aload_nN K dX11_lacking_50 rfl ?_
      first | refine a_aload_n K dX11_lacking_51 rfl ?_ | refine a_aload_nN K dX11_lacking_51 rfl ?_
      first | refine a_aload_n K dX11_lacking_52 rfl ?_ | refine a_aload_nN K dX11_lacking_52 rfl ?_
      refine a_getRs K fd_X11_67 (by exact lm_o hM) (Or.inr ⟨_, rfl⟩) (by exact lm_r736 hM) dX11_lacking_53 ?_
      refine a_iload_n K dX11_lacking_56 rfl ?_
      refine a_iald K (by exact lm_kk hM (by decide) (by decide)) (by show vp_in _ (sN T (m 17)); exact lm_ix (z := 999) hM (by decide) (by decide) (show j < 999 by omega) (by decide)) dX11_lacking_57 ?_
      rw [nI_clamp (by omega)]
      rw [h.root2 hz (by omega)]
      refine a_iload_n K dX11_lacking_58 rfl ?_
      first | refine a_aload_n K dX11_lacking_59 rfl ?_ | refine a_aload_nN K dX11_lacking_59 rfl ?_
      refine a_invV K (q_newTk h hJ hmb) my_X11_newToken ml_X11_295 im_X11_newToken se_X11_newToken (ci := 11) (by exact lm_o hM) (by decide) ⟨_, _, rfl⟩ rfl (by omega) (by omega) (by omega) rfl (Nat.le_of_ble_eq_true rfl) dX11_lacking_60 ?_
      intro r9 S1 hp9
      obtain ⟨rfl, Z1, h1, hrm1, q1⟩ := hp9
      have hM := h1.1
      have ts0 : TS S1 S1 m ρ ρ (pU P) (pU P) Z1 Z1 (pTk P) (ndl z.1 z.2) z := TS.rf h1.N.1 h1.N.2.1 (h1.rep (rootP_live hz))
      have hQ0 : ∀ x ∈ ndl z.1 z.2, LvN (incT P) x.1 := live_in (P := incT P) (rootP_live hz)
      refine a_invV K (ts0.take h1.1 h1.N.2.2.1 hQ0 (tok.tk9 hP tz).1 (by have := hP.2.2.2; omega) h1.wid hw3 hw6 tz.1 tz.2.2.2.1 (by omega) (by omega)) my_X11_takes ml_X11_339 im_X11_takes se_X11_takes (ci := 11) (by exact lm_o hM) (by decide) ⟨_, _, rfl⟩ rfl (by omega) (by omega) (by omega) rfl (Nat.le_of_ble_eq_true rfl) dX11_lacking_63 ?_
      intro r9 S5 hp9
      obtain ⟨ρ5, Z5, rfl, ts⟩ := hp9
      obtain ⟨h5, q5, r5, a5⟩ := ts.fin (P := incT P) h1 (show IdP (incT P) from hP.ids) (tok.tk9 hP tz).2 hQ0
      have hM := h5.1
      refine a_iload_n K dX11_lacking_66 rfl ?_
      refine a_iconst K dX11_lacking_67 (v := -1) (by decide) ?_
      refine a_invV K (q_newMapR h5 hpH hr.2 r5 a5) my_X11_newMap ml_X11_302 im_X11_newMap se_X11_newMap (ci := 11) (by exact lm_o hM) (by decide) ⟨_, _, rfl⟩ rfl (by omega) (by omega) (by omega) rfl (Nat.le_of_ble_eq_true rfl) dX11_lacking_68 ?_
      intro r9 S6 hp9
      obtain ⟨rfl, h6, q6⟩ := hp9
      exact a_iret K EE rfl (by omega) (by omega) dX11_lacking_71 ⟨ρ5, Z5, by rw [hE]; rfl, by rw [hE]; exact h6, mQ_tr q0 (mQ_tr q1 (mQ_tr q5 q6))⟩
    · have hE : lac P (nI j) k = (-1, refP P 4) := by
        unfold lac
        rw [hz]
        exact (if_pos ⟨hk.1, by omega⟩).trans (if_neg hr)
      first | refine a_aload_n K dX11_lacking_0 rfl ?_ | refine a_aload_nN K dX11_lacking_0 rfl ?_
      refine a_iconst K dX11_lacking_1 (v := 0) (by decide) ?_
      refine a_putI K fd_X11_116 (by exact lm_o hM) rfl dX11_lacking_2 ?_
      have f0 : frM S (wI S 704 (m 33) 0) m [] [704] := frM_wI (by decide) (by decide)
      obtain ⟨T, hT⟩ : ∃ T, T = wI S 704 (m 33) 0 := ⟨_, rfl⟩
      rw [← hT] at f0 ⊢
      obtain ⟨h, q0⟩ := h0.scr hP f0 (by decide) (by decide)
      have hM := h.1
      first | refine a_aload_n K dX11_lacking_5 rfl ?_ | refine a_aload_nN K dX11_lacking_5 rfl ?_
      refine a_iload_n K dX11_lacking_6 rfl ?_
      refine a_invV K (q_mapY h hl9 hz) my_X11_isMap ml_X11_309 im_X11_isMap se_X11_isMap (ci := 11) (by exact lm_o hM) (by decide) ⟨_, _, rfl⟩ rfl (by omega) (by omega) (by omega) rfl (Nat.le_of_ble_eq_true rfl) dX11_lacking_7 ?_
      intro r9 S9 hp9
      obtain ⟨rfl, hS9⟩ := hp9
      obtain rfl := hS9.symm
      refine a_if_ne K dX11_lacking_10 (tgt := 19) (by decide) (fun c_10 => ?_) (fun c_10 => absurd c_10 (by decide))
      refine a_iload_n K dX11_lacking_19 rfl ?_
      refine a_i2l K dX11_lacking_20 ?_
      refine a_lconst K dX11_lacking_21 (v := 0) (by decide) ?_
      refine a_ldc2 K kc_X11_335 dX11_lacking_22 ?_
      refine a_invS K (q_inY (p := 0) (q := 999) (by decide) (by decide) (by first | assumption | omega)) my_X11_isIn ml_X11_174 st_X11_isIn rfl (by omega) (by omega) (by omega) rfl (Nat.le_of_ble_eq_true rfl) dX11_lacking_25 ?_
      intro r9 S9 hp9
      obtain ⟨rfl, hS9⟩ := hp9
      obtain rfl := hS9.symm
      refine a_if_ne K dX11_lacking_28 (tgt := 37) (by decide) (fun c_28 => ?_) (fun c_28 => absurd c_28 (by decide))
      first | refine a_aload_n K dX11_lacking_37 rfl ?_ | refine a_aload_nN K dX11_lacking_37 rfl ?_
      refine a_invV K ((h.room hl9 hc16).2 hr) my_X11_hasRoom ml_X11_289 im_X11_hasRoom se_X11_hasRoom (ci := 11) (by exact lm_o hM) (by decide) ⟨_, _, rfl⟩ rfl (by omega) (by omega) (by omega) rfl (Nat.le_of_ble_eq_true rfl) dX11_lacking_38 ?_
      intro r9 S9 hp9
      obtain ⟨rfl, hS9⟩ := hp9
      obtain rfl := hS9.symm
      refine a_if_ne K dX11_lacking_41 (tgt := 50) (by decide) (fun c_41 => absurd c_41 (fun q => q rfl)) (fun c_41 => ?_)
      first | refine a_aload_n K dX11_lacking_44 rfl ?_ | refine a_aload_nN K dX11_lacking_44 rfl ?_
      refine a_iconst K dX11_lacking_45 (v := 4) (by decide) ?_
      rw [show (4 : Int32) = nI 4 from rfl]
      refine a_invV K (q_refP h (k := 4) (by decide)) my_X11_refused ml_X11_292 im_X11_refused se_X11_refused (ci := 11) (by exact lm_o hM) (by decide) ⟨_, _, rfl⟩ rfl (by omega) (by omega) (by omega) rfl (Nat.le_of_ble_eq_true rfl) dX11_lacking_46 ?_
      intro r9 S9 hp9
      obtain ⟨rfl, hR, qR⟩ := hp9
      exact a_iret K EE rfl (by omega) (by omega) dX11_lacking_49 ⟨ρ, Z, by rw [hE], by rw [hE]; exact hR.up (Nat.le_succ mb) (by omega), mQ_tr q0 qR⟩
