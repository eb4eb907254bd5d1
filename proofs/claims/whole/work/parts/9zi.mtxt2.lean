/-! the model: text -/
/-- a new leaf without entries, over trees -/
theorem q_freshL {S : aw_S} {m ρ : Nat → Nat} (hM : LM S m) {u tk : Nat} {Z : List Nat × Nat} (hF : FrM S m Z.1 Z.2) (nd : Z.1.Nodup) (hrm : 1 ≤ rmM Z) : aw_M yX11_fresh cX11_fresh 4 (some FieldType.int) 0 0 0 [.ref (m 33), .int 1, .int (nI (tk + 1))] S (fun q S2 => ∃ ρ2 Z2, q = some (.int (nI (ρ2 (lf0 u tk).2.1))) ∧ TS S S2 m ρ ρ2 u (u + 1) Z Z2 tk [] (lf0 u tk)) := by
  obtain ⟨n1, n2, n3, n4, n5, n6, n7⟩ := nx_ok hF nd hrm
  refine (m_fresh hM hF n1).post (fun q S2 hp => ?_)
  obtain ⟨hq, hF2, hL2, hN2, hT2, h7, f2⟩ := hp
  have eu : va_up ρ u (nxR Z.1 Z.2) u = nxR Z.1 Z.2 := va_up_self _ _ _
  have en : ∀ i, i < u → va_up ρ u (nxR Z.1 Z.2) i = ρ i := fun i hi => va_up_ne _ _ (by omega)
  refine ⟨va_up ρ u (nxR Z.1 Z.2), nxF Z.1 Z.2, by show q = some (Value.int (nI (va_up ρ u (nxR Z.1 Z.2) u))); rw [eu]; exact hq, ⟨Nat.le_succ u, en, hF2, n5, by rw [Nat.add_sub_cancel_left]; exact n6, n7, fun i h1 h2 => ?_, fun i j h1 h2 h3 h4 _ => by omega, by rw [Nat.add_sub_cancel_left]; exact h7, f2.g (fun q z => Or.inr (fun y => n3 (z ▸ y))) (by decide)⟩, ?_, fun x hx => ?_⟩
  · have : i = u := by omega
    rw [this, eu]
    exact ⟨n3, n4, n2⟩
  · show NdM S2 m (va_up ρ u (nxR Z.1 Z.2)) 0 (u, tk, [])
    refine NdM_of (l := []) ?_ ?_ ?_ ?_ rfl (Nat.zero_le _)
    · show va_up ρ u (nxR Z.1 Z.2) u < 12000
      rw [eu]; exact n2
    · show gL S2 m (va_up ρ u (nxR Z.1 Z.2) u) = _
      rw [eu, hL2]
      rfl
    · show gT S2 m (va_up ρ u (nxR Z.1 Z.2) u) = _
      rw [eu, hT2]
    · show RwM S2 m (va_up ρ u (nxR Z.1 Z.2) u) []
      rw [eu]
      exact ⟨hN2, fun k x hx => absurd hx (by simp)⟩
  · have : x = (u, tk) := by simpa [lf0, ndl] using hx
    rw [this]
    exact Or.inr ⟨Nat.le_refl u, Nat.lt_succ_self u, rfl⟩
theorem nI_s1 (n : Nat) : nI (n + 1) - 1 = nI n := by rw [← nI_1, Int32.add_sub_cancel]
theorem stn.le0 {n c w tk t u : Nat} {r : Tz × Nat} (h : stn n c w tk t (lf0 u t, u + 1) r) : r.2 ≤ u + 1 + c := by
  have h1 := h.2.2.1
  have e : un t (ndl (lf0 u t).1 (lf0 u t).2) = 0 := by simp [lf0, ndl, un]
  have h1 : r.2 + un t (ndl r.1.1 r.1.2) ≤ u + 1 + un t (ndl (lf0 u t).1 (lf0 u t).2) + c := h1
  rw [e] at h1
  omega
/-- a program is told -/
theorem RM_addG {S S2 : aw_S} {m ρ : Nat → Nat} {Z : List Nat × Nat} {mb : Nat} {P : PS} {g : List ST} (h : RM S m ρ Z mb P) (hG : PG P) (hl : (pG P).length < 4) (f : frM S S2 m [2, 3] [706, 713]) (e706 : sI S2 706 (m 33) = 0) (e713 : sI S2 713 (m 33) = nI ((pG P).length + 1)) (e3 : ∀ i, i < 4 → sA S2 (m 3) i = if i = (pG P).length then nI g.length else sA S (m 3) i) (k2 : ∀ i, i < 64 * (pG P).length → sA S2 (m 2) i = sA S (m 2) i) (hg : ∀ k s, g[k]? = some s → ∀ w, w < 4 → sA S2 (m 2) (4 * (16 * (pG P).length + k) + w) = s w) : RM S2 m ρ Z mb (setTp (addG P g) []) ∧ frS S S2 (mQ m) := by
  obtain ⟨h1, ⟨a1, a2, a3, a4, a5, a6, a7, a8, a9, a10⟩, h3, h4, h5, h6, h7, h8⟩ := h
  refine ⟨⟨f.lay h1, ⟨⟨e706, Nat.zero_le _, fun i x (hx : ([] : List Int32)[i]? = some x) => absurd hx (by simp)⟩, ?_, (f.2 723 (by decide)).trans a3, (f.2 725 (by decide)).trans a4, (f.2 745 (by decide)).trans a5, (f.2 746 (by decide)).trans a6, (f.2 747 (by decide)).trans a7, (f.2 748 (by decide)).trans a8, (f.2 758 (by decide)).trans a9, a10⟩, h3.fr (P := P) h1 f (by decide) (by decide) (by decide) (by decide), h4.fr (P := P) h1 f (by decide) (by decide) (by decide) (by decide), h5.fr (P := P) h1 f (by decide) (by decide) (by decide) (by decide) (by decide), fun i p hp => ?_, (h7.fr h1 f (by decide) (by decide) (by decide) (by decide) (by decide) (by decide) (by decide) (by decide) (by decide) (by decide)).sub (P2 := setTp (addG P g) []) (fun z hz => hz) rfl rfl, h8.fr h1 f (by decide) (by decide) (by decide)⟩, f.mq (by decide)⟩
  · rw [e713]
    show _ = nI (pG P ++ [g]).length
    rw [List.length_append, List.length_singleton]
  · have hp : (pG P ++ [g])[i]? = some p := hp
    rcases get_app1 hp with ⟨q1, q2⟩ | ⟨q1, q2⟩
    · have hp16 := (hG.2 p (List.mem_of_getElem? q2)).1
      rw [e3 i (by omega), if_neg (by omega)]
      refine ⟨(h6 i p q2).1, fun k s hs w hw => ?_⟩
      have hk := (List.getElem?_eq_some_iff.mp hs).1
      rw [k2 _ (by omega)]
      exact (h6 i p q2).2 k s hs w hw
    · rw [q1, q2, e3 _ hl, if_pos rfl]
      exact ⟨rfl, hg⟩
set_option maxHeartbeats 4000000 in
set_option maxRecDepth 100000 in
theorem q_text {S : aw_S} {m ρ : Nat → Nat} {Z : List Nat × Nat} {mb n9 : Nat} {P : PS} (h0 : RM S m ρ Z mb P) (hJ : PJ n9 P) (hmb : mb + 1 < 2147483000) {w : Int32} : aw_M yX11_text cX11_text 5 (some FieldType.int) 10 0 0 [.ref (m 33), .int w] S (fun r S2 => ∃ ρ2 Z2, r = some (.int (txtF P w).1) ∧ RM S2 m ρ2 Z2 (mb + 1) (txtF P w).2 ∧ frS S S2 (mQ m)) := by
  have hP := hJ.1
  have hw3 := hP.1.1
  have hM := h0.1
  have hl9 := hJ.ln
  have hw6 := hP.1.2
  have hpH := hJ.2.2.2.2.2.1.1
  have hc16 := hJ.2.2.2.2.2.1.2.1
  refine aw_enter (by decide +kernel) (Nat.le_of_ble_eq_true rfl) (fun g K EE => ?_)
  by_cases hw : ¬ (0 ≤ w.toInt ∧ w.toInt ≤ 1)
  · have hE0 : fauA P w = -2 := by
      unfold fauA
      rw [if_neg (fun z => hw (by rw [z]; decide)), if_neg (fun z => hw (by rw [z]; decide))]
    have hE : txtF P w = (-1, P) := by
      unfold txtF
      rw [if_neg (fun z => hw (by rw [z]; decide)), if_neg (fun z => hw (by rw [z]; decide))]
    first | refine a_aload_n K dX11_text_0 rfl ?_ | refine a_aload_nN K dX11_text_0 rfl ?_
    refine a_iload_n K dX11_text_1 rfl ?_
    refine a_invV K (q_faultX h0 hJ (w := w)) my_X11_fault ml_X11_284 im_X11_fault se_X11_fault (ci := 11) (by exact lm_o hM) (by decide) ⟨_, _, rfl⟩ rfl (by omega) (by omega) (by omega) rfl (Nat.le_of_ble_eq_true rfl) dX11_text_2 ?_
    intro r9 T hp9
    obtain ⟨rfl, h, q0, fx0, fx1⟩ := hp9
    rw [hE0]
    have hM := h.1
    refine a_iconst K dX11_text_5 (v := -1) (by decide) ?_
    refine a_icmp_eq K dX11_text_6 (tgt := 11) (by decide) (fun c_6 => absurd c_6 (by decide)) (fun c_6 => ?_)
    refine a_iconst K dX11_text_9 (v := -1) (by decide) ?_
    exact a_iret K EE rfl (by omega) (by omega) dX11_text_10 ⟨ρ, Z, by rw [hE], by rw [hE]; exact h.up (Nat.le_succ mb) (by omega), q0⟩
  rcases alk_w (Classical.not_not.mp hw) with rfl | rfl
  · have hT0 : txtF P 0 = txtM P := if_pos rfl
    cases hr : (redE (pT P)).1 with
    | some q =>
      have hE0 : fauA P 0 = nI q := by
        unfold fauA
        rw [if_pos rfl, hr]
        rfl
      have hq := (redE_ok hJ.2.2.2.2.1.1).2.2 q hr
      have h240 := hJ.2.2.2.2.1.1
      have hne : ¬ nI q = -1 := nI_m1n (by omega)
      have hE : txtF P 0 = (-1, P) := by
        rw [hT0]
        unfold txtM
        rw [hr]
      first | refine a_aload_n K dX11_text_0 rfl ?_ | refine a_aload_nN K dX11_text_0 rfl ?_
      refine a_iload_n K dX11_text_1 rfl ?_
      refine a_invV K (q_faultX h0 hJ (w := 0)) my_X11_fault ml_X11_284 im_X11_fault se_X11_fault (ci := 11) (by exact lm_o hM) (by decide) ⟨_, _, rfl⟩ rfl (by omega) (by omega) (by omega) rfl (Nat.le_of_ble_eq_true rfl) dX11_text_2 ?_
      intro r9 T hp9
      obtain ⟨rfl, h, q0, fx0, fx1⟩ := hp9
      rw [hE0]
      have hM := h.1
      refine a_iconst K dX11_text_5 (v := -1) (by decide) ?_
      refine a_icmp_eq K dX11_text_6 (tgt := 11) (by decide) (fun c_6 => absurd c_6 (hne)) (fun c_6 => ?_)
      refine a_iconst K dX11_text_9 (v := -1) (by decide) ?_
      exact a_iret K EE rfl (by omega) (by omega) dX11_text_10 ⟨ρ, Z, by rw [hE], by rw [hE]; exact h.up (Nat.le_succ mb) (by omega), q0⟩
    | none =>
      have hE0 : fauA P 0 = -1 := by
        unfold fauA
        rw [if_pos rfl, hr]
        rfl
      by_cases hroom : hcnt (pH P) < 16 ∧ (pM P).length < 999
      · have hr9 := hroom
        obtain ⟨R, hRR⟩ : ∃ R, (putL (pW P) (pTk P) (redE (pT P)).2 ((lf0 (pU P) (pTk P)), pU P + 1)) = R := ⟨_, rfl⟩
        have hE : txtF P 0 = (nI (pM P).length, addM (setU (incT (setTp P [])) R.2) R.1 (-1) (-1)) := by
          rw [hT0]
          unfold txtM
          rw [hr]
          refine (if_pos hroom).trans ?_
          rw [← hRR]
          rfl
        have hr := hr
        first | refine a_aload_n K dX11_text_0 rfl ?_ | refine a_aload_nN K dX11_text_0 rfl ?_
        refine a_iload_n K dX11_text_1 rfl ?_
        refine a_invV K (q_faultX h0 hJ (w := 0)) my_X11_fault ml_X11_284 im_X11_fault se_X11_fault (ci := 11) (by exact lm_o hM) (by decide) ⟨_, _, rfl⟩ rfl (by omega) (by omega) (by omega) rfl (Nat.le_of_ble_eq_true rfl) dX11_text_2 ?_
        intro r9 T hp9
        obtain ⟨rfl, h, q0, fx0, fx1⟩ := hp9
        rw [hE0]
        have hM := h.1
        refine a_iconst K dX11_text_5 (v := -1) (by decide) ?_
        refine a_icmp_eq K dX11_text_6 (tgt := 11) (by decide) (fun c_6 => ?_) (fun c_6 => absurd c_6 (fun z => z rfl))
        refine a_iload_n K dX11_text_11 rfl ?_
        refine a_iconst K dX11_text_12 (v := 1) (by decide) ?_
        refine a_icmp_ne K dX11_text_13 (tgt := 101) (by decide) (fun c_13 => ?_) (fun c_13 => absurd c_13 (by decide))
        first | refine a_aload_n K dX11_text_101 rfl ?_ | refine a_aload_nN K dX11_text_101 rfl ?_
        refine a_invV K ((h.room hl9 hc16).1 hroom) my_X11_hasRoom ml_X11_289 im_X11_hasRoom se_X11_hasRoom (ci := 11) (by exact lm_o hM) (by decide) ⟨_, _, rfl⟩ rfl (by omega) (by omega) (by omega) rfl (Nat.le_of_ble_eq_true rfl) dX11_text_102 ?_
        intro r9 S9 hp9
        obtain ⟨rfl, hS9⟩ := hp9
        obtain rfl := hS9.symm
        refine a_if_ne K dX11_text_105 (tgt := 114) (by decide) (fun c_105 => ?_) (fun c_105 => absurd c_105 (by decide))
        first | refine a_aload_n K dX11_text_114 rfl ?_ | refine a_aload_nN K dX11_text_114 rfl ?_
        refine a_iconst K dX11_text_115 (v := 0) (by decide) ?_
        refine a_putI K fd_X11_119 (by exact lm_o hM) rfl dX11_text_116 ?_
        have fE : EnM T m (redE (pT P)).2 := fx0 rfl hr
        have fT1 : frM T (wI T 706 (m 33) 0) m [0] [706] := frM_wI (by decide) (by decide)
        have hEn := fE.fr hM fT1 (by decide) (by decide) (by decide)
        obtain ⟨h1, q1⟩ := RM_tp h fT1 (L := []) ⟨wI_at, Nat.zero_le _, fun i x hx => absurd hx (by simp)⟩
        have hJ1 : PJ n9 (setTp P []) := PJ_tp hJ (Nat.zero_le _) (fun x hx => absurd hx (by simp))
        have hM := h1.1
        first | refine a_aload_n K dX11_text_119 rfl ?_ | refine a_aload_nN K dX11_text_119 rfl ?_
        refine a_invV K (q_newTkF h1 hJ1 hmb) my_X11_newToken ml_X11_295 im_X11_newToken se_X11_newToken (ci := 11) (by exact lm_o hM) (by decide) ⟨_, _, rfl⟩ rfl (by omega) (by omega) (by omega) rfl (Nat.le_of_ble_eq_true rfl) dX11_text_120 ?_
        intro r9 S2 hp9
        obtain ⟨rfl, Z2, h2, hrm2, f2⟩ := hp9
        have q2 := f2.mq (by decide)
        have hEn := hEn.fr h1.1 f2 (by decide) (by decide) (by decide)
        have hM := h2.1
        refine a_istore_n K dX11_text_123 (by decide) ?_
        first | refine a_aload_n K dX11_text_124 rfl ?_ | refine a_aload_nN K dX11_text_124 rfl ?_
        refine a_iconst K dX11_text_125 (v := 1) (by decide) ?_
        refine a_iload_n K dX11_text_126 rfl ?_
        refine a_invV K (q_freshL (ρ := ρ) (u := pU P) (tk := pTk P) h2.1 h2.N.1 h2.N.2.1 (by omega)) my_X11_fresh ml_X11_193 im_X11_fresh se_X11_fresh (ci := 11) (by exact lm_o hM) (by decide) ⟨_, _, rfl⟩ rfl (by omega) (by omega) (by omega) rfl (Nat.le_of_ble_eq_true rfl) dX11_text_127 ?_
        intro r9 S3 hp9
        obtain ⟨ρ3, Z3, rfl, ts0⟩ := hp9
        have hM := ts0.1.lay h2.1
        refine a_istore_n K dX11_text_130 (by decide) ?_
        refine a_iconst K dX11_text_131 (v := 0) (by decide) ?_
        refine a_istore K dX11_text_132 (by decide) ?_
        obtain ⟨hol, hok, -⟩ := redE_ok hJ.2.2.2.2.1.1
        have loop : ∀ (n i : Nat) (x : Int32) (s : Tz × Nat) (W : aw_S) (ρ4 : Nat → Nat) (Z4 : List Nat × Nat), x = nI i → i + n = (redE (pT P)).2.length → TS S2 W m ρ ρ4 (pU P) s.2 Z2 Z4 (pTk P) [] s.1 → stn i (7 * i) (pW P) (pTk P + 1) (pTk P) ((lf0 (pU P) (pTk P)), pU P + 1) s → putL (pW P) (pTk P) ((redE (pT P)).2.drop i) s = R → aw g 5 W 0 0 [(4, .int x), (3, .int (nI (ρ4 s.1.2.1))), (2, .int (nI (pTk P + 1))), (1, .int 0), (0, .ref (m 33))] [] 134 := by
          intro n
          induction n with
          | zero =>
            intro i x s W ρ4 Z4 hx hn ts hst hR
            subst hx
            have fW := ts.1.2.2.2.2.2.2.2.2.2.1
            have hM := fW.lay h2.1
            have hEW : EnM W m (redE (pT P)).2 := hEn.fr h2.1 fW (by decide) (by decide) (by decide)
            have hgF := ts.1.F
            have hle := hst.le0
            have h5 := hst.1.h5 hw3 (by omega)
            obtain rfl : s = R := by rw [show i = (redE (pT P)).2.length by omega, List.drop_length] at hR; exact hR
            obtain ⟨h5, q5, r5, a5⟩ := ts.fin (P := (incT (setTp P []))) h2 (show IdP (incT (setTp P [])) from hP.ids) (fun y hy => absurd hy (by simp)) (fun x hx => absurd hx (by simp))
            refine a_iload K dX11_text_134 rfl ?_
            first | refine a_aload_n K dX11_text_136 rfl ?_ | refine a_aload_nN K dX11_text_136 rfl ?_
            refine a_getI K fd_X11_153 (by exact lm_o hM) (Or.inl rfl) dX11_text_137 ?_
            rw [hEW.1]
            refine a_icmp_ge K dX11_text_140 (tgt := 176) (by decide) (fun c_140 => ?_) (fun c_140 => absurd c_140 (fun z9 => z9 (nI_le (a := (redE (pT P)).2.length) (b := i) (by omega) (by omega))))
            first | refine a_aload_n K dX11_text_176 rfl ?_ | refine a_aload_nN K dX11_text_176 rfl ?_
            refine a_iload_n K dX11_text_177 rfl ?_
            refine a_iconst K dX11_text_178 (v := -1) (by decide) ?_
            refine a_iconst K dX11_text_179 (v := -1) (by decide) ?_
            refine a_invV K (q_newMapR (P := setU (incT (setTp P [])) s.2) h5 hpH hroom.2 r5 a5) my_X11_newMap ml_X11_302 im_X11_newMap se_X11_newMap (ci := 11) (by exact lm_o hM) (by decide) ⟨_, _, rfl⟩ rfl (by omega) (by omega) (by omega) rfl (Nat.le_of_ble_eq_true rfl) dX11_text_180 ?_
            intro r9 S6 hp9
            obtain ⟨rfl, h6, q6⟩ := hp9
            have hM := h6.1
            exact a_iret K EE rfl (by omega) (by omega) dX11_text_183 ⟨ρ4, Z4, by rw [hE]; rfl, by rw [hE]; exact h6, mQ_tr q0 (mQ_tr q1 (mQ_tr q2 (mQ_tr q5 q6)))⟩
          | succ n ih =>
            intro i x s W ρ4 Z4 hx hn ts hst hR
            subst hx
            have fW := ts.1.2.2.2.2.2.2.2.2.2.1
            have hM := fW.lay h2.1
            have hEW : EnM W m (redE (pT P)).2 := hEn.fr h2.1 fW (by decide) (by decide) (by decide)
            have hgF := ts.1.F
            have hle := hst.le0
            have h5 := hst.1.h5 hw3 (by omega)
            have hi : i < (redE (pT P)).2.length := by omega
            have hxi := List.getElem?_eq_getElem hi
            have hgo : stn (i + 1) (7 * (i + 1)) (pW P) (pTk P + 1) (pTk P) ((lf0 (pU P) (pTk P)), pU P + 1) (putT (pW P) (pTk P) s.2 (redE (pT P)).2[i].1 (redE (pT P)).2[i].2 s.1) := ((hst.up (Nat.le_succ i) (Nat.le_refl _)).tr (stn_put hw3 hst.1 (by omega) (Nat.lt_succ_self _) (hok _ (List.getElem_mem hi)))).up (Nat.le_refl _) (by omega)
            refine a_iload K dX11_text_134 rfl ?_
            first | refine a_aload_n K dX11_text_136 rfl ?_ | refine a_aload_nN K dX11_text_136 rfl ?_
            refine a_getI K fd_X11_153 (by exact lm_o hM) (Or.inl rfl) dX11_text_137 ?_
            rw [hEW.1]
            refine a_icmp_ge K dX11_text_140 (tgt := 176) (by decide) (fun c_140 => absurd c_140 (nI_ge (a := i) (b := (redE (pT P)).2.length) (by omega) (by omega))) (fun c_140 => ?_)
            first | refine a_aload_n K dX11_text_143 rfl ?_ | refine a_aload_nN K dX11_text_143 rfl ?_
            refine a_iload_n K dX11_text_144 rfl ?_
            first | refine a_aload_n K dX11_text_145 rfl ?_ | refine a_aload_nN K dX11_text_145 rfl ?_
            refine a_getRs K fd_X11_13 (by exact lm_o hM) (Or.inr ⟨_, rfl⟩) (by exact lm_r709 hM) dX11_text_146 ?_
            refine a_iconst K dX11_text_149 (v := 2) (by decide) ?_
            refine a_iload K dX11_text_150 rfl ?_
            refine a_imul K dX11_text_152 ?_
            rw [nI_2]
            refine a_iald K (by exact lm_kk hM (by decide) (by decide)) (by show vp_in _ (sN W (m 1)); exact lm_ix (z := 480) hM (by decide) (by decide) (show 2 * i < 480 by omega) (by decide)) dX11_text_153 ?_
            rw [nI_clamp (by omega)]
            rw [(hEW.2 i _ hxi).1]
            first | refine a_aload_n K dX11_text_154 rfl ?_ | refine a_aload_nN K dX11_text_154 rfl ?_
            refine a_getRs K fd_X11_13 (by exact lm_o hM) (Or.inr ⟨_, rfl⟩) (by exact lm_r709 hM) dX11_text_155 ?_
            refine a_iconst K dX11_text_158 (v := 2) (by decide) ?_
            refine a_iload K dX11_text_159 rfl ?_
            refine a_imul K dX11_text_161 ?_
            rw [nI_2]
            refine a_iconst K dX11_text_162 (v := 1) (by decide) ?_
            refine a_iadd K dX11_text_163 ?_
            rw [nI_1]
            refine a_iald K (by exact lm_kk hM (by decide) (by decide)) (by show vp_in _ (sN W (m 1)); exact lm_ix (z := 480) hM (by decide) (by decide) (show 2 * i + 1 < 480 by omega) (by decide)) dX11_text_164 ?_
            rw [nI_clamp (by omega)]
            rw [(hEW.2 i _ hxi).2]
            refine a_iload_n K dX11_text_165 rfl ?_
            refine a_invV K (ts.put (key := (redE (pT P)).2[i].1) (v := (redE (pT P)).2[i].2) h2.1 h2.N.2.2.1 (fun x hx => absurd hx (by simp)) (fun x hx => absurd hx (by simp)) (by have := hP.2.2.2; omega) h2.wid hw3 hw6 hst.1.1 hst.1.2.2.2.1 (by omega) (by omega)) my_X11_puts ml_X11_298 im_X11_puts se_X11_puts (ci := 11) (by exact lm_o hM) (by decide) ⟨_, _, rfl⟩ rfl (by omega) (by omega) (by omega) rfl (Nat.le_of_ble_eq_true rfl) dX11_text_166 ?_
            intro r9 W2 hp9
            obtain ⟨ρ5, Z5, rfl, ts5⟩ := hp9
            refine a_istore_n K dX11_text_169 (by decide) ?_
            refine a_iinc K dX11_text_170 (v := 1) rfl (by decide) (by decide) ?_
            refine a_goto K dX11_text_173 (tgt := 134) (by decide) ?_
            exact aw_locl rfl (ih (i + 1) _ (putT (pW P) (pTk P) s.2 (redE (pT P)).2[i].1 (redE (pT P)).2[i].2 s.1) W2 ρ5 Z5 (nI_1 i) (by omega) ts5 hgo (by rw [putL_at hi] at hR; exact hR))
        exact aw_locl rfl (loop (redE (pT P)).2.length 0 _ ((lf0 (pU P) (pTk P)), pU P + 1) S3 ρ3 Z3 nI_0.symm (Nat.zero_add _) ts0 (stn.rf (lf0_tkn hw3 (Nat.lt_succ_self _))) hRR)
      · have hE : txtF P 0 = (-1, refP P 4) := by
          rw [hT0]
          unfold txtM
          rw [hr]
          exact if_neg hroom
        first | refine a_aload_n K dX11_text_0 rfl ?_ | refine a_aload_nN K dX11_text_0 rfl ?_
        refine a_iload_n K dX11_text_1 rfl ?_
        refine a_invV K (q_faultX h0 hJ (w := 0)) my_X11_fault ml_X11_284 im_X11_fault se_X11_fault (ci := 11) (by exact lm_o hM) (by decide) ⟨_, _, rfl⟩ rfl (by omega) (by omega) (by omega) rfl (Nat.le_of_ble_eq_true rfl) dX11_text_2 ?_
        intro r9 T hp9
        obtain ⟨rfl, h, q0, fx0, fx1⟩ := hp9
        rw [hE0]
        have hM := h.1
        refine a_iconst K dX11_text_5 (v := -1) (by decide) ?_
        refine a_icmp_eq K dX11_text_6 (tgt := 11) (by decide) (fun c_6 => ?_) (fun c_6 => absurd c_6 (fun z => z rfl))
        refine a_iload_n K dX11_text_11 rfl ?_
        refine a_iconst K dX11_text_12 (v := 1) (by decide) ?_
        refine a_icmp_ne K dX11_text_13 (tgt := 101) (by decide) (fun c_13 => ?_) (fun c_13 => absurd c_13 (by decide))
        first | refine a_aload_n K dX11_text_101 rfl ?_ | refine a_aload_nN K dX11_text_101 rfl ?_
        refine a_invV K ((h.room hl9 hc16).2 hroom) my_X11_hasRoom ml_X11_289 im_X11_hasRoom se_X11_hasRoom (ci := 11) (by exact lm_o hM) (by decide) ⟨_, _, rfl⟩ rfl (by omega) (by omega) (by omega) rfl (Nat.le_of_ble_eq_true rfl) dX11_text_102 ?_
        intro r9 S9 hp9
        obtain ⟨rfl, hS9⟩ := hp9
        obtain rfl := hS9.symm
        refine a_if_ne K dX11_text_105 (tgt := 114) (by decide) (fun c_105 => absurd c_105 (fun z => z rfl)) (fun c_105 => ?_)
        first | refine a_aload_n K dX11_text_108 rfl ?_ | refine a_aload_nN K dX11_text_108 rfl ?_
        refine a_iconst K dX11_text_109 (v := 4) (by decide) ?_
        rw [show (4 : Int32) = nI 4 from rfl]
        refine a_invV K (q_refP h (k := 4) (by decide)) my_X11_refused ml_X11_292 im_X11_refused se_X11_refused (ci := 11) (by exact lm_o hM) (by decide) ⟨_, _, rfl⟩ rfl (by omega) (by omega) (by omega) rfl (Nat.le_of_ble_eq_true rfl) dX11_text_110 ?_
        intro r9 S9 hp9
        obtain ⟨rfl, hR, qR⟩ := hp9
        exact a_iret K EE rfl (by omega) (by omega) dX11_text_113 ⟨ρ, Z, by rw [hE], by rw [hE]; exact hR.up (Nat.le_succ mb) (by omega), mQ_tr q0 qR⟩
  · have hT1 : txtF P 1 = txtP P := (if_neg (by decide)).trans (if_pos rfl)
    cases hr : (redP (pT P)).1 with
    | some q =>
      have hE0 : fauA P 1 = nI q := by
        unfold fauA
        rw [if_neg (by decide), if_pos rfl, hr]
        rfl
      have hq := redP_le hr
      have h240 := hJ.2.2.2.2.1.1
      have hne : ¬ nI q = -1 := nI_m1n (by omega)
      have hE : txtF P 1 = (-1, P) := by
        rw [hT1]
        unfold txtP
        rw [hr]
      first | refine a_aload_n K dX11_text_0 rfl ?_ | refine a_aload_nN K dX11_text_0 rfl ?_
      refine a_iload_n K dX11_text_1 rfl ?_
      refine a_invV K (q_faultX h0 hJ (w := 1)) my_X11_fault ml_X11_284 im_X11_fault se_X11_fault (ci := 11) (by exact lm_o hM) (by decide) ⟨_, _, rfl⟩ rfl (by omega) (by omega) (by omega) rfl (Nat.le_of_ble_eq_true rfl) dX11_text_2 ?_
      intro r9 T hp9
      obtain ⟨rfl, h, q0, fx0, fx1⟩ := hp9
      rw [hE0]
      have hM := h.1
      refine a_iconst K dX11_text_5 (v := -1) (by decide) ?_
      refine a_icmp_eq K dX11_text_6 (tgt := 11) (by decide) (fun c_6 => absurd c_6 (hne)) (fun c_6 => ?_)
      refine a_iconst K dX11_text_9 (v := -1) (by decide) ?_
      exact a_iret K EE rfl (by omega) (by omega) dX11_text_10 ⟨ρ, Z, by rw [hE], by rw [hE]; exact h.up (Nat.le_succ mb) (by omega), q0⟩
    | none =>
      have hE0 : fauA P 1 = -1 := by
        unfold fauA
        rw [if_neg (by decide), if_pos rfl, hr]
        rfl
      have hG4 := hJ.2.2.2.1.1
      by_cases hl4 : (pG P).length < 4
      · have hE : txtF P 1 = (nI (pG P).length, setTp (addG P (redP (pT P)).2) []) := by
          rw [hT1]
          unfold txtP
          rw [hr]
          exact if_pos hl4
        first | refine a_aload_n K dX11_text_0 rfl ?_ | refine a_aload_nN K dX11_text_0 rfl ?_
        refine a_iload_n K dX11_text_1 rfl ?_
        refine a_invV K (q_faultX h0 hJ (w := 1)) my_X11_fault ml_X11_284 im_X11_fault se_X11_fault (ci := 11) (by exact lm_o hM) (by decide) ⟨_, _, rfl⟩ rfl (by omega) (by omega) (by omega) rfl (Nat.le_of_ble_eq_true rfl) dX11_text_2 ?_
        intro r9 T hp9
        obtain ⟨rfl, h, q0, fx0, fx1⟩ := hp9
        rw [hE0]
        have hM := h.1
        refine a_iconst K dX11_text_5 (v := -1) (by decide) ?_
        refine a_icmp_eq K dX11_text_6 (tgt := 11) (by decide) (fun c_6 => ?_) (fun c_6 => absurd c_6 (fun z => z rfl))
        refine a_iload_n K dX11_text_11 rfl ?_
        refine a_iconst K dX11_text_12 (v := 1) (by decide) ?_
        refine a_icmp_ne K dX11_text_13 (tgt := 101) (by decide) (fun c_13 => absurd c_13 (fun z => z rfl)) (fun c_13 => ?_)
        first | refine a_aload_n K dX11_text_16 rfl ?_ | refine a_aload_nN K dX11_text_16 rfl ?_
        refine a_getI K fd_X11_286 (by exact lm_o hM) (Or.inl rfl) dX11_text_17 ?_
        rw [show sI T 713 (m 33) = nI (pG P).length from h.2.1.2.1]
        refine a_iconst K dX11_text_20 (v := 4) (by decide) ?_
        refine a_icmp_ne K dX11_text_21 (tgt := 26) (by decide) (fun c_21 => ?_) (fun c_21 => absurd c_21 (fun z => absurd (nI_inj (a := (pG P).length) (b := 4) (by omega) (by decide) z) (by omega)))
        first | refine a_aload_n K dX11_text_26 rfl ?_ | refine a_aload_nN K dX11_text_26 rfl ?_
        refine a_iconst K dX11_text_27 (v := 0) (by decide) ?_
        refine a_putI K fd_X11_119 (by exact lm_o hM) rfl dX11_text_28 ?_
        refine a_iconst K dX11_text_31 (v := 0) (by decide) ?_
        refine a_istore_n K dX11_text_32 (by decide) ?_
        obtain ⟨T1, hT1⟩ : ∃ T1, wI T 706 (m 33) 0 = T1 := ⟨_, rfl⟩
        rw [hT1]
        have hM : LM T1 m := by rw [← hT1]; exact LM.fr hM (show frM T (wI T 706 (m 33) 0) m [] [706] from frM_wI (by decide) (by decide)).1
        have hMT1 := hM
        have e713 : sI T1 713 (m 33) = nI (pG P).length := by rw [← hT1, sI_wI, if_neg (fun z => absurd z.1 (by decide))]; exact h.2.1.2.1
        have loop : ∀ (n i : Nat) (x : Int32) (W : aw_S), x = nI i → i + n = 64 → frM T1 W m [2] [] → (∀ q, q < i → sA W (m 2) (64 * (pG P).length + q) = sA T1 (m 2) (256 + q)) → (∀ q, (q < 64 * (pG P).length ∨ 64 * (pG P).length + 64 ≤ q) → sA W (m 2) q = sA T1 (m 2) q) → aw g 5 W 0 0 [(2, .int x), (1, .int 1), (0, .ref (m 33))] [] 33 := by
          intro n
          induction n with
          | zero =>
            intro i x W hx hn fW hc hk
            subst hx
            have hM := fW.lay hMT1
            have hM9 := hM
            have hc : ∀ q, q < 64 → sA W (m 2) (64 * (pG P).length + q) = sA T1 (m 2) (256 + q) := fun q hq => hc q (by omega)
            refine a_iload_n K dX11_text_33 rfl ?_
            refine a_bipush K dX11_text_34 (v := 64) (by decide) ?_
            refine a_icmp_ge K dX11_text_36 (tgt := 69) (by decide) (fun c_36 => ?_) (fun c_36 => absurd c_36 (fun q => q (nI_le (a := 64) (b := i) (by omega) (by omega))))
            first | refine a_aload_n K dX11_text_69 rfl ?_ | refine a_aload_nN K dX11_text_69 rfl ?_
            refine a_getRs K fd_X11_20 (by exact lm_o hM) (Or.inr ⟨_, rfl⟩) (by exact lm_r711 hM) dX11_text_70 ?_
            first | refine a_aload_n K dX11_text_73 rfl ?_ | refine a_aload_nN K dX11_text_73 rfl ?_
            refine a_getI K fd_X11_286 (by exact lm_o hM) (Or.inl rfl) dX11_text_74 ?_
            rw [show sI W 713 (m 33) = nI (pG P).length from (fW.2 713 (by decide)).trans e713]
            first | refine a_aload_n K dX11_text_77 rfl ?_ | refine a_aload_nN K dX11_text_77 rfl ?_
            refine a_getRs K fd_X11_20 (by exact lm_o hM) (Or.inr ⟨_, rfl⟩) (by exact lm_r711 hM) dX11_text_78 ?_
            refine a_iconst K dX11_text_81 (v := 4) (by decide) ?_
            refine a_iald K (by exact lm_kk hM (by decide) (by decide)) (by show vp_in _ (sN W (m 3)); exact lm_ix (z := 5) hM (by decide) (by decide) (show 4 < 5 by omega) (by decide)) dX11_text_82 ?_
            rw [show (4 : Int32).toNatClampNeg = 4 from rfl, show sA W (m 3) 4 = nI (redP (pT P)).2.length from by rw [fW.A hMT1 (by decide) (by decide) (by decide), ← hT1]; exact (fx1 rfl hr).2]
            refine a_iast K (by exact lm_kk hM (by decide) (by decide)) (by show vp_in _ (sN W (m 3)); exact lm_ix (z := 5) hM (by decide) (by decide) (show (pG P).length < 5 by omega) (by decide)) dX11_text_83 ?_
            rw [nI_clamp (by omega)]
            first | refine a_aload_n K dX11_text_84 rfl ?_ | refine a_aload_nN K dX11_text_84 rfl ?_
            refine a_dup K dX11_text_85 rfl ?_
            refine a_getI K fd_X11_286 (by exact lm_o hM) (Or.inl rfl) dX11_text_86 ?_
            rw [show sI (wA W (m 3) (pG P).length (nI (redP (pT P)).2.length)) 713 (m 33) = nI (pG P).length from (fW.2 713 (by decide)).trans e713]
            refine a_iconst K dX11_text_89 (v := 1) (by decide) ?_
            refine a_iadd K dX11_text_90 ?_
            rw [nI_1]
            refine a_putI K fd_X11_286 (by exact lm_o hM) rfl dX11_text_91 ?_
            obtain ⟨hPl, hP4⟩ := fx1 rfl hr
            have hPo := redP_ok (pT P)
            have fT1 : frM T T1 m [] [706] := by rw [← hT1]; exact frM_wI (by decide) (by decide)
            have fW5 : frM T (wI (wA W (m 3) (pG P).length (nI (redP (pT P)).2.length)) 713 (m 33) (nI ((pG P).length + 1))) m [2, 3] [706, 713] := (fT1.up (by decide) (by decide)).tr ((fW.up (by decide) (by decide)).tr ((show frM W (wA W (m 3) (pG P).length (nI (redP (pT P)).2.length)) m [2, 3] [706, 713] from frM_wA (by decide)).tr (frM_wI (by decide) (by decide))))
            have n3 : ∀ q, sA (wI (wA W (m 3) (pG P).length (nI (redP (pT P)).2.length)) 713 (m 33) (nI ((pG P).length + 1))) (m 2) q = sA W (m 2) q := fun q => by rw [sA_wI_, sA_wA, if_neg (fun z => lm_ne hM9 (by decide) (by decide) (by decide) z.1)]
            have t12 : ∀ j q, sA T1 j q = sA T j q := fun j q => by rw [← hT1]; rfl
            obtain ⟨hF, qF⟩ := RM_addG (g := (redP (pT P)).2) h hJ.2.2.2.1 hl4 fW5 (by rw [sI_wI, if_neg (fun z => absurd z.1 (by decide))]; show sI W 706 (m 33) = 0; rw [fW.2 706 (by decide), ← hT1]; exact wI_at) wI_at (fun i hi => by
              rw [sA_wI_, sA_wA]
              by_cases e : i = (pG P).length
              · rw [if_pos ⟨rfl, e⟩, if_pos e]
              · rw [if_neg (fun z => e z.2), if_neg e, fW.A hMT1 (by decide) (by decide) (by decide), t12]) (fun i hi => by
              rw [n3, hk i (Or.inl (by omega)), t12]) (fun k s hs w hw => by
              have hkl := (List.getElem?_eq_some_iff.mp hs).1
              rw [n3, show 4 * (16 * (pG P).length + k) + w = 64 * (pG P).length + (4 * k + w) by omega, hc _ (by omega), t12, show 256 + (4 * k + w) = 4 * (64 + k) + w by omega]
              exact hPl k s hs w hw)
            have hM := hF.1
            first | refine a_aload_n K dX11_text_94 rfl ?_ | refine a_aload_nN K dX11_text_94 rfl ?_
            refine a_getI K fd_X11_286 (by exact lm_o hM) (Or.inl rfl) dX11_text_95 ?_
            rw [wI_at]
            refine a_iconst K dX11_text_98 (v := 1) (by decide) ?_
            refine a_isub K dX11_text_99 ?_
            rw [show nI ((pG P).length + 1) - 1 = nI (pG P).length from nI_s1 _]
            exact a_iret K EE rfl (by omega) (by omega) dX11_text_100 ⟨ρ, Z, by rw [hE], by rw [hE]; exact hF.up (Nat.le_succ mb) (by omega), mQ_tr q0 qF⟩
          | succ n ih =>
            intro i x W hx hn fW hc hk
            subst hx
            have hM := fW.lay hMT1
            have hM9 := hM
            refine a_iload_n K dX11_text_33 rfl ?_
            refine a_bipush K dX11_text_34 (v := 64) (by decide) ?_
            refine a_icmp_ge K dX11_text_36 (tgt := 69) (by decide) (fun c_36 => absurd c_36 (nI_ge (a := i) (b := 64) (by omega) (by decide))) (fun c_36 => ?_)
            first | refine a_aload_n K dX11_text_39 rfl ?_ | refine a_aload_nN K dX11_text_39 rfl ?_
            refine a_getRs K fd_X11_17 (by exact lm_o hM) (Or.inr ⟨_, rfl⟩) (by exact lm_r710 hM) dX11_text_40 ?_
            refine a_bipush K dX11_text_43 (v := 64) (by decide) ?_
            first | refine a_aload_n K dX11_text_45 rfl ?_ | refine a_aload_nN K dX11_text_45 rfl ?_
            refine a_getI K fd_X11_286 (by exact lm_o hM) (Or.inl rfl) dX11_text_46 ?_
            rw [show sI W 713 (m 33) = nI (pG P).length from (fW.2 713 (by decide)).trans e713]
            refine a_imul K dX11_text_49 ?_
            rw [show (64 : Int32) * nI (pG P).length = nI (64 * (pG P).length) from (Int32.ofNat_mul 64 _).symm]
            refine a_iload_n K dX11_text_50 rfl ?_
            refine a_iadd K dX11_text_51 ?_
            rw [nI_add]
            first | refine a_aload_n K dX11_text_52 rfl ?_ | refine a_aload_nN K dX11_text_52 rfl ?_
            refine a_getRs K fd_X11_17 (by exact lm_o hM) (Or.inr ⟨_, rfl⟩) (by exact lm_r710 hM) dX11_text_53 ?_
            refine a_sipush K dX11_text_56 (v := 256) (by decide) ?_
            refine a_iload_n K dX11_text_59 rfl ?_
            refine a_iadd K dX11_text_60 ?_
            rw [show (256 : Int32) + nI i = nI (256 + i) from by rw [show (256 : Int32) = nI 256 from rfl, nI_add]]
            refine a_iald K (by exact lm_kk hM (by decide) (by decide)) (by show vp_in _ (sN W (m 2)); exact lm_ix (z := 320) hM (by decide) (by decide) (show 256 + i < 320 by omega) (by decide)) dX11_text_61 ?_
            rw [nI_clamp (show 256 + i < 2147483648 by omega)]
            refine a_iast K (by exact lm_kk hM (by decide) (by decide)) (by show vp_in _ (sN W (m 2)); exact lm_ix (z := 320) hM (by decide) (by decide) (show 64 * (pG P).length + i < 320 by omega) (by decide)) dX11_text_62 ?_
            rw [nI_clamp (show 64 * (pG P).length + i < 2147483648 by omega)]
            refine a_iinc K dX11_text_63 (v := 1) rfl (by decide) (by decide) ?_
            refine a_goto K dX11_text_66 (tgt := 33) (by decide) ?_
            have fN : frM W (wA W (m 2) (64 * (pG P).length + i) (sA W (m 2) (256 + i))) m [2] [] := frM_wA (by decide)
            exact aw_locl rfl (ih (i + 1) _ (wA W (m 2) (64 * (pG P).length + i) (sA W (m 2) (256 + i))) (nI_1 i) (by omega) (fW.tr fN) (fun q hq => by
              rw [sA_wA]
              by_cases e : q = i
              · rw [if_pos ⟨rfl, by rw [e]⟩, e]
                exact hk (256 + i) (Or.inr (by omega))
              · rw [if_neg (fun z => e (by have := z.2; omega))]
                exact hc q (by omega)) (fun q hq => by
              rw [sA_wA, if_neg (fun z => by have := z.2; omega)]
              exact hk q hq))
        exact aw_locl rfl (loop 64 0 _ T1 nI_0.symm rfl frM.rf (fun q hq => absurd hq (Nat.not_lt_zero q)) (fun _ _ => rfl))
      · have hE : txtF P 1 = (-1, P) := by
          rw [hT1]
          unfold txtP
          rw [hr]
          exact if_neg hl4
        first | refine a_aload_n K dX11_text_0 rfl ?_ | refine a_aload_nN K dX11_text_0 rfl ?_
        refine a_iload_n K dX11_text_1 rfl ?_
        refine a_invV K (q_faultX h0 hJ (w := 1)) my_X11_fault ml_X11_284 im_X11_fault se_X11_fault (ci := 11) (by exact lm_o hM) (by decide) ⟨_, _, rfl⟩ rfl (by omega) (by omega) (by omega) rfl (Nat.le_of_ble_eq_true rfl) dX11_text_2 ?_
        intro r9 T hp9
        obtain ⟨rfl, h, q0, fx0, fx1⟩ := hp9
        rw [hE0]
        have hM := h.1
        refine a_iconst K dX11_text_5 (v := -1) (by decide) ?_
        refine a_icmp_eq K dX11_text_6 (tgt := 11) (by decide) (fun c_6 => ?_) (fun c_6 => absurd c_6 (fun z => z rfl))
        refine a_iload_n K dX11_text_11 rfl ?_
        refine a_iconst K dX11_text_12 (v := 1) (by decide) ?_
        refine a_icmp_ne K dX11_text_13 (tgt := 101) (by decide) (fun c_13 => absurd c_13 (fun z => z rfl)) (fun c_13 => ?_)
        first | refine a_aload_n K dX11_text_16 rfl ?_ | refine a_aload_nN K dX11_text_16 rfl ?_
        refine a_getI K fd_X11_286 (by exact lm_o hM) (Or.inl rfl) dX11_text_17 ?_
        rw [show sI T 713 (m 33) = nI (pG P).length from h.2.1.2.1]
        refine a_iconst K dX11_text_20 (v := 4) (by decide) ?_
        refine a_icmp_ne K dX11_text_21 (tgt := 26) (by decide) (fun c_21 => absurd c_21 (fun z => z (by rw [show (pG P).length = 4 by omega]; rfl))) (fun c_21 => ?_)
        refine a_iconst K dX11_text_24 (v := -1) (by decide) ?_
        exact a_iret K EE rfl (by omega) (by omega) dX11_text_25 ⟨ρ, Z, by rw [hE], by rw [hE]; exact h.up (Nat.le_succ mb) (by omega), q0⟩
