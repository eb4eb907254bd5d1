/-! the tape -/
def byL (w : Int32) : Nat → List Int32
  | 0 => []
  | n + 1 => if byN w n = 0 then byL w n else byN w n :: byL w n
theorem byL_len (w : Int32) : ∀ n, (byL w n).length ≤ n
  | 0 => Nat.le_refl _
  | n + 1 => by
    have := byL_len w n
    rw [byL]
    split
    · omega
    · rw [List.length_cons]; omega
theorem byL_ok (w : Int32) : ∀ n, ∀ x ∈ byL w n, ∃ k, 0 < k ∧ k < 256 ∧ x = nI k
  | 0, x, hx => absurd hx (by simp [byL])
  | n + 1, x, hx => by
    rw [byL] at hx
    split at hx
    · exact byL_ok w n x hx
    · rename_i c
      rcases List.mem_cons.mp hx with rfl | hx
      · obtain ⟨j, hj, e⟩ := pk_andE ((w.toUInt32 >>> ((nI (8 * n)).toUInt32 &&& Int32.toUInt32 31)).toInt32) (m := 255) 8 (by decide)
        have e : byN w n = nI j := e
        refine ⟨j, ?_, by omega, e⟩
        refine Nat.pos_of_ne_zero (fun z => c ?_)
        rw [e, z]
        rfl
      · exact byL_ok w n x hx
theorem sgn_len (w : Int32) : ∀ n m, sgn w n (nI m) = nI (m + (byL w n).length)
  | 0, m => rfl
  | n + 1, m => by
    show sgn w n (if byN w n = 0 then nI m else nI m + 1) = _
    rw [byL]
    by_cases h : byN w n = 0
    · rw [if_pos h, if_pos h]
      exact sgn_len w n m
    · rw [if_neg h, if_neg h, nI_1, sgn_len w n (m + 1), List.length_cons, show m + 1 + (byL w n).length = m + ((byL w n).length + 1) by omega]
def TL (S : aw_S) (t bt : Nat) (L : List Int32) : Prop := TP S t bt L.length ∧ ∀ i x, L[i]? = some x → sA S bt i = x
theorem TL_N {t bt : Nat} {w : Int32} : ∀ (n : Nat) {S : aw_S} {L : List Int32}, TL S t bt L → L.length + (byL w n).length ≤ 240 → TL (tpN t bt w n S) t bt (L ++ byL w n) ∧ frS S (tpN t bt w n S) (fun b => b = t ∨ b = bt)
  | 0, S, L, h, _ => ⟨by rw [show byL w 0 = [] from rfl, List.append_nil]; exact h, frS.rf⟩
  | n + 1, S, L, h, hl => by
    show TL (tpN t bt w n (tpB S t bt (byN w n))) t bt _ ∧ frS S (tpN t bt w n (tpB S t bt (byN w n))) _
    by_cases hb : byN w n = 0
    · have e : byL w (n + 1) = byL w n := by rw [byL, if_pos hb]
      rw [e] at hl ⊢
      rw [tpB_z hb]
      exact TL_N n h hl
    · have e : byL w (n + 1) = byN w n :: byL w n := by rw [byL, if_neg hb]
      rw [e] at hl ⊢
      rw [List.length_cons] at hl
      obtain ⟨⟨h1, h2, h3, h4, h5, h6⟩, h7⟩ := h
      have hB : tpB S t bt (byN w n) = wI (wA S bt L.length (byN w n)) 577 t (nI (L.length + 1)) := by
        rw [tpB_n hb (by rw [h5, nI_toInt (by omega)]; omega), h5, nI_clamp (by omega), nI_1]
      have f : frS S (tpB S t bt (byN w n)) (fun b => b = t ∨ b = bt) := by
        rw [hB]
        exact (frS_wA.mono (fun _ z => Or.inr z)).st (frS_wI (by decide)) (fun _ z => Or.inl z)
      have hT : TL (tpB S t bt (byN w n)) t bt (L ++ [byN w n]) := by
        rw [hB]
        refine ⟨⟨h1, h2, h3, h4, by rw [wI_at, List.length_append]; rfl, by rw [List.length_append, List.length_singleton]; omega⟩, fun i x hx => ?_⟩
        show sA (wA S bt L.length (byN w n)) bt i = x
        rw [sA_wA]
        by_cases hi : i < L.length
        · rw [List.getElem?_append_left hi] at hx
          rw [if_neg (by omega)]
          exact h7 i x hx
        · rw [List.getElem?_append_right (by omega)] at hx
          have hi2 : i - L.length = 0 := by
            have := (List.getElem?_eq_some_iff.mp hx).1
            rw [List.length_singleton] at this
            omega
          rw [hi2] at hx
          have hx : some (byN w n) = some x := hx
          rw [if_pos ⟨rfl, by omega⟩]
          exact Option.some.inj hx
      obtain ⟨a, b⟩ := TL_N (w := w) n hT (by rw [List.length_append, List.length_singleton]; omega)
      rw [List.append_assoc] at a
      exact ⟨a, f.st b (fun _ z => z)⟩
def setTp (P : PS) (L : List Int32) : PS := (P.1, pM P, pH P, pI P, pY P, pB P, pR P, pG P, L, pS P)
theorem RC_tp {S S2 : aw_S} {v ad ar : Nat → Nat} {PA : List (Nat × Nat)} {X : List Nat} {mb : Nat} {P : PS} (h : RC S v ad ar PA X mb P) {L : List Int32} (f0 : frS S S2 (fun b => b = v 0 ∨ b = v 1)) (t : TaW S2 v (setTp P L)) : RC S2 v ad ar PA X mb (setTp P L) ∧ keepX X S S2 := by
  have hL := h.L
  have f : frS S S2 (Qk v [0, 1]) := f0.mono (fun b z => z.elim (fun y => ⟨0, by decide, y⟩) (fun y => ⟨1, by decide, y⟩))
  have no : ∀ j, 2 ≤ j → j < 37 → ¬ Qk v [0, 1] (v j) := fun j h2 hj => Qk_no hL (by decide) hj (by simp; omega)
  exact RC.gen (P2 := setTp P L) h f (Qk37 (by decide)) (no 13 (by decide) (by decide)) (no 3 (by decide) (by decide)) ((f.2.2.2.2.2.2.2 _ (no 4 (by decide) (by decide))).1 _) ((f.2.2.2.2.2.2.2 _ (no 4 (by decide) (by decide))).1 _) rfl rfl (GrW.fr h.2.1 f (no 5 (by decide) (by decide)) rfl rfl rfl) (MaW.fr h.2.2.1 f (fun j h1 hj => no j (by omega) (by omega)) rfl rfl rfl rfl) (BuW.fr h.2.2.2.1 f (fun j hj => no _ (by omega) (by omega)) rfl) (ReW.fr h.2.2.2.2.1 f (no 18 (by decide) (by decide)) rfl) t (h.2.2.2.2.2.2.2.1.fr f.fr (no 19 (by decide) (by decide)) (no 20 (by decide) (by decide))) h.2.2.2.2.2.2.2.2.1.2.1 h.2.2.2.2.2.2.2.2.1.2.2
theorem RC.tl {S : aw_S} {v ad ar : Nat → Nat} {PA : List (Nat × Nat)} {X : List Nat} {mb : Nat} {P : PS} (h : RC S v ad ar PA X mb P) : TL S (v 0) (v 1) (pT P) := ⟨lw_TP h.L h.2.2.2.2.2.2.1.1 h.2.2.2.2.2.2.1.2.1, h.2.2.2.2.2.2.1.2.2⟩
def feedL (a b c d e : Int32) : List Int32 := byL a 4 ++ byL b 4 ++ byL c 4 ++ byL d 4 ++ byL e 4
def feedF (P : PS) (a b c d e : Int32) : Int32 × PS := if (pT P).length + (feedL a b c d e).length ≤ 240 then (nI ((pT P).length + (feedL a b c d e).length), setTp P (pT P ++ feedL a b c d e)) else (-1, P)
theorem feedL_len (a b c d e : Int32) : (feedL a b c d e).length = (byL a 4).length + (byL b 4).length + (byL c 4).length + (byL d 4).length + (byL e 4).length := by
  unfold feedL
  rw [List.length_append, List.length_append, List.length_append, List.length_append]
theorem sg5_len (a b c d e : Int32) : sg5 a b c d e = nI (feedL a b c d e).length := by
  have h : ∀ w, sgn w 4 0 = nI (byL w 4).length := fun w => by
    have := sgn_len w 4 0
    rw [Nat.zero_add] at this
    exact this
  unfold sg5
  rw [h, h, h, h, h, nI_add, nI_add, nI_add, nI_add, feedL_len]
theorem feedL_le (a b c d e : Int32) : (feedL a b c d e).length ≤ 20 := by
  rw [feedL_len]
  have h1 := byL_len a 4
  have h2 := byL_len b 4
  have h3 := byL_len c 4
  have h4 := byL_len d 4
  have h5 := byL_len e 4
  omega
theorem LW_tp {S S2 : aw_S} {v : Nat → Nat} (f : frS S S2 (fun b => b = v 0 ∨ b = v 1)) (hL : LW S v) : LW S2 v := LW_fr hL f.fr (fun z => z.elim (fun y => absurd (lw_inj hL 13 0 (by decide) (by decide) y) (by decide)) (fun y => absurd (lw_inj hL 13 1 (by decide) (by decide) y) (by decide)))
theorem TaW_tl {S : aw_S} {v : Nat → Nat} {P : PS} {L : List Int32} (h : TL S (v 0) (v 1) L) : TaW S v (setTp P L) := ⟨h.1.2.2.2.2.1, h.1.2.2.2.2.2, h.2⟩
set_option maxHeartbeats 4000000 in
set_option maxRecDepth 100000 in
theorem c_feed {S : aw_S} {v ad ar : Nat → Nat} {PA : List (Nat × Nat)} {X : List Nat} {mb : Nat} {P : PS} (h : RC S v ad ar PA X mb P) {a b c d e : Int32} : aw_M yX10_feed cX10_feed 7 (some FieldType.int) 2 0 0 [.ref (v 4), .int a, .int b, .int c, .int d, .int e] S (mutQ X v PA mb S (feedF P a b c d e)) := by
  have hL := h.L
  have hL0 := h.L
  have hn0 := h.2.2.2.2.2.2.1.1
  have h240 := h.2.2.2.2.2.2.1.2.1
  have h20 := feedL_le a b c d e
  have hlen := feedL_len a b c d e
  have hsum : nI (pT P).length + (sgn a 4 0 + sgn b 4 0 + sgn c 4 0 + sgn d 4 0 + sgn e 4 0) = nI ((pT P).length + (feedL a b c d e).length) := by
    rw [show sgn a 4 0 + sgn b 4 0 + sgn c 4 0 + sgn d 4 0 + sgn e 4 0 = nI (feedL a b c d e).length from sg5_len a b c d e, nI_add]
  by_cases hc : (pT P).length + (feedL a b c d e).length ≤ 240
  · have h0 := h.tl
    have g0 : frS S S (fun b => b = v 0 ∨ b = v 1) := frS.rf
    have happ : pT P ++ feedL a b c d e = pT P ++ byL a 4 ++ byL b 4 ++ byL c 4 ++ byL d 4 ++ byL e 4 := by unfold feedL; simp only [List.append_assoc]
    refine aw_enter (by decide +kernel) (Nat.le_of_ble_eq_true rfl) (fun g K EE => ?_)
    refine a_iload_n K dX10_feed_0 rfl ?_
    refine a_invS K (m_X9_signsIn) my_X9_signsIn ml_X10_94 st_X9_signsIn rfl (by omega) (by omega) (by omega) rfl (Nat.le_of_ble_eq_true rfl) dX10_feed_1 ?_
    intro r9 S9 hp9
    obtain ⟨rfl, hS9⟩ := hp9
    obtain rfl := hS9.symm
    refine a_iload_n K dX10_feed_4 rfl ?_
    refine a_invS K (m_X9_signsIn) my_X9_signsIn ml_X10_94 st_X9_signsIn rfl (by omega) (by omega) (by omega) rfl (Nat.le_of_ble_eq_true rfl) dX10_feed_5 ?_
    intro r9 S9 hp9
    obtain ⟨rfl, hS9⟩ := hp9
    obtain rfl := hS9.symm
    refine a_iadd K dX10_feed_8 ?_
    refine a_iload_n K dX10_feed_9 rfl ?_
    refine a_invS K (m_X9_signsIn) my_X9_signsIn ml_X10_94 st_X9_signsIn rfl (by omega) (by omega) (by omega) rfl (Nat.le_of_ble_eq_true rfl) dX10_feed_10 ?_
    intro r9 S9 hp9
    obtain ⟨rfl, hS9⟩ := hp9
    obtain rfl := hS9.symm
    refine a_iadd K dX10_feed_13 ?_
    refine a_iload K dX10_feed_14 rfl ?_
    refine a_invS K (m_X9_signsIn) my_X9_signsIn ml_X10_94 st_X9_signsIn rfl (by omega) (by omega) (by omega) rfl (Nat.le_of_ble_eq_true rfl) dX10_feed_16 ?_
    intro r9 S9 hp9
    obtain ⟨rfl, hS9⟩ := hp9
    obtain rfl := hS9.symm
    refine a_iadd K dX10_feed_19 ?_
    refine a_iload K dX10_feed_20 rfl ?_
    refine a_invS K (m_X9_signsIn) my_X9_signsIn ml_X10_94 st_X9_signsIn rfl (by omega) (by omega) (by omega) rfl (Nat.le_of_ble_eq_true rfl) dX10_feed_22 ?_
    intro r9 S9 hp9
    obtain ⟨rfl, hS9⟩ := hp9
    obtain rfl := hS9.symm
    refine a_iadd K dX10_feed_25 ?_
    refine a_istore K dX10_feed_26 (by decide) ?_
    first | refine a_aload_n K dX10_feed_28 rfl ?_ | refine a_aload_nN K dX10_feed_28 rfl ?_
    refine a_getRs K fd_X10_10 (lw_i4 hL) (Or.inl ⟨_, rfl⟩) (lw_f640 hL) dX10_feed_29 ?_
    refine a_invV K (m_X9_size (lw_i0 hL)) my_X9_size ml_X10_98 im_X9_size se_X9_size (ci := 9) (lw_i0 hL) (by decide) ⟨_, _, rfl⟩ rfl (by omega) (by omega) (by omega) rfl (Nat.le_of_ble_eq_true rfl) dX10_feed_32 ?_
    intro r9 S9 hp9
    obtain ⟨rfl, hS9⟩ := hp9
    obtain rfl := hS9.symm
    refine a_iload K dX10_feed_35 rfl ?_
    rw [hn0]
    refine a_iadd K dX10_feed_37 ?_
    refine a_sipush K dX10_feed_38 (v := 240) (by decide) ?_
    refine a_icmp_le K dX10_feed_41 (tgt := 46) (by decide) (fun c_41 => ?_) (fun c_41 => absurd c_41 (by
  rw [hsum]
  exact fun z => z (nI_le (b := 240) hc (by omega))))
    first | refine a_aload_n K dX10_feed_46 rfl ?_ | refine a_aload_nN K dX10_feed_46 rfl ?_
    refine a_getRs K fd_X10_10 (lw_i4 hL) (Or.inl ⟨_, rfl⟩) (lw_f640 hL) dX10_feed_47 ?_
    refine a_iload_n K dX10_feed_50 rfl ?_
    refine a_invV K (m_X9_append h0.1) my_X9_append ml_X10_102 im_X9_append se_X9_append (ci := 9) (lw_i0 hL) (by decide) ⟨_, _, rfl⟩ rfl (by omega) (by omega) (by omega) rfl (Nat.le_of_ble_eq_true rfl) dX10_feed_51 ?_
    intro r9 T1 hp9
    obtain ⟨rfl, hT1⟩ := hp9
    obtain ⟨h1, f1⟩ := TL_N 4 h0 (w := a) (by first | omega | (simp only [List.length_append]; omega))
    rw [← hT1] at h1 f1
    have g1 := g0.st f1 (fun _ z => z)
    have hL := LW_tp g1 hL0
    first | refine a_aload_n K dX10_feed_54 rfl ?_ | refine a_aload_nN K dX10_feed_54 rfl ?_
    refine a_getRs K fd_X10_10 (lw_i4 hL) (Or.inl ⟨_, rfl⟩) (lw_f640 hL) dX10_feed_55 ?_
    refine a_iload_n K dX10_feed_58 rfl ?_
    refine a_invV K (m_X9_append h1.1) my_X9_append ml_X10_102 im_X9_append se_X9_append (ci := 9) (lw_i0 hL) (by decide) ⟨_, _, rfl⟩ rfl (by omega) (by omega) (by omega) rfl (Nat.le_of_ble_eq_true rfl) dX10_feed_59 ?_
    intro r9 T2 hp9
    obtain ⟨rfl, hT2⟩ := hp9
    obtain ⟨h2, f2⟩ := TL_N 4 h1 (w := b) (by first | omega | (simp only [List.length_append]; omega))
    rw [← hT2] at h2 f2
    have g2 := g1.st f2 (fun _ z => z)
    have hL := LW_tp g2 hL0
    first | refine a_aload_n K dX10_feed_62 rfl ?_ | refine a_aload_nN K dX10_feed_62 rfl ?_
    refine a_getRs K fd_X10_10 (lw_i4 hL) (Or.inl ⟨_, rfl⟩) (lw_f640 hL) dX10_feed_63 ?_
    refine a_iload_n K dX10_feed_66 rfl ?_
    refine a_invV K (m_X9_append h2.1) my_X9_append ml_X10_102 im_X9_append se_X9_append (ci := 9) (lw_i0 hL) (by decide) ⟨_, _, rfl⟩ rfl (by omega) (by omega) (by omega) rfl (Nat.le_of_ble_eq_true rfl) dX10_feed_67 ?_
    intro r9 T3 hp9
    obtain ⟨rfl, hT3⟩ := hp9
    obtain ⟨h3, f3⟩ := TL_N 4 h2 (w := c) (by first | omega | (simp only [List.length_append]; omega))
    rw [← hT3] at h3 f3
    have g3 := g2.st f3 (fun _ z => z)
    have hL := LW_tp g3 hL0
    first | refine a_aload_n K dX10_feed_70 rfl ?_ | refine a_aload_nN K dX10_feed_70 rfl ?_
    refine a_getRs K fd_X10_10 (lw_i4 hL) (Or.inl ⟨_, rfl⟩) (lw_f640 hL) dX10_feed_71 ?_
    refine a_iload K dX10_feed_74 rfl ?_
    refine a_invV K (m_X9_append h3.1) my_X9_append ml_X10_102 im_X9_append se_X9_append (ci := 9) (lw_i0 hL) (by decide) ⟨_, _, rfl⟩ rfl (by omega) (by omega) (by omega) rfl (Nat.le_of_ble_eq_true rfl) dX10_feed_76 ?_
    intro r9 T4 hp9
    obtain ⟨rfl, hT4⟩ := hp9
    obtain ⟨h4, f4⟩ := TL_N 4 h3 (w := d) (by first | omega | (simp only [List.length_append]; omega))
    rw [← hT4] at h4 f4
    have g4 := g3.st f4 (fun _ z => z)
    have hL := LW_tp g4 hL0
    first | refine a_aload_n K dX10_feed_79 rfl ?_ | refine a_aload_nN K dX10_feed_79 rfl ?_
    refine a_getRs K fd_X10_10 (lw_i4 hL) (Or.inl ⟨_, rfl⟩) (lw_f640 hL) dX10_feed_80 ?_
    refine a_iload K dX10_feed_83 rfl ?_
    refine a_invV K (m_X9_append h4.1) my_X9_append ml_X10_102 im_X9_append se_X9_append (ci := 9) (lw_i0 hL) (by decide) ⟨_, _, rfl⟩ rfl (by omega) (by omega) (by omega) rfl (Nat.le_of_ble_eq_true rfl) dX10_feed_85 ?_
    intro r9 T5 hp9
    obtain ⟨rfl, hT5⟩ := hp9
    obtain ⟨h5, f5⟩ := TL_N 4 h4 (w := e) (by first | omega | (simp only [List.length_append]; omega))
    rw [← hT5] at h5 f5
    have g5 := g4.st f5 (fun _ z => z)
    have hL := LW_tp g5 hL0
    first | refine a_aload_n K dX10_feed_88 rfl ?_ | refine a_aload_nN K dX10_feed_88 rfl ?_
    refine a_getRs K fd_X10_10 (lw_i4 hL) (Or.inl ⟨_, rfl⟩) (lw_f640 hL) dX10_feed_89 ?_
    refine a_invV K (m_X9_size (lw_i0 hL)) my_X9_size ml_X10_98 im_X9_size se_X9_size (ci := 9) (lw_i0 hL) (by decide) ⟨_, _, rfl⟩ rfl (by omega) (by omega) (by omega) rfl (Nat.le_of_ble_eq_true rfl) dX10_feed_92 ?_
    intro r9 S9 hp9
    obtain ⟨rfl, hS9⟩ := hp9
    obtain rfl := hS9.symm
    exact a_iret K EE rfl (by omega) (by omega) dX10_feed_95 (by unfold feedF; rw [if_pos hc]; obtain ⟨h6, k6⟩ := RC_tp h (L := pT P ++ feedL a b c d e) g5 (TaW_tl (by rw [happ]; exact h5)); exact ⟨ad, ar, by rw [h5.1.2.2.2.2.1]; simp only [List.length_append, feedL_len]; rw [Nat.add_assoc, Nat.add_assoc, Nat.add_assoc, Nat.add_assoc]; simp only [Nat.add_assoc], h6, k6⟩)
  · refine ((m_X10_feed_full (a := a) (b := b) (c := c) (d := d) (e := e) h.L hn0 (fun z => hc ?_)).post (fun r S2 hp => ?_)).le (by decide) (Nat.le_refl _) (Nat.le_refl _)
    · rw [sg5_len, nI_add] at z
      have h1 := i32_le.mp z
      rw [nI_toInt (by omega)] at h1
      have e3 : (240 : Int32).toInt = 240 := by decide
      omega
    · obtain ⟨rfl, rfl⟩ := hp
      unfold feedF
      rw [if_neg hc]
      exact ⟨ad, ar, rfl, h, h.X⟩
def endF (P : PS) (n : Int32) : Int32 × PS := if 0 ≤ n.toInt ∧ n.toInt ≤ (pT P).length then (1, setTp P ((pT P).take n.toNatClampNeg)) else (0, P)
theorem RC_sht {S : aw_S} {v ad ar : Nat → Nat} {PA : List (Nat × Nat)} {X : List Nat} {mb : Nat} {P : PS} (h : RC S v ad ar PA X mb P) {n : Nat} (hn : n ≤ (pT P).length) : RC (wI S 577 (v 0) (nI n)) v ad ar PA X mb (setTp P ((pT P).take n)) ∧ keepX X S (wI S 577 (v 0) (nI n)) := by
  obtain ⟨t1, t2, t3⟩ := h.2.2.2.2.2.2.1
  refine RC_tp h ((frS_wI (by decide)).mono (fun _ z => Or.inl z)) ⟨by rw [wI_at]; show nI n = nI ((pT P).take n).length; rw [List.length_take, Nat.min_eq_left hn], by show ((pT P).take n).length ≤ 240; rw [List.length_take]; omega, fun i x hx => ?_⟩
  have hx : ((pT P).take n)[i]? = some x := hx
  have hi := (List.getElem?_eq_some_iff.mp hx).1
  rw [List.length_take] at hi
  rw [List.getElem?_take, if_pos (by omega)] at hx
  exact t3 i x hx
set_option maxHeartbeats 4000000 in
set_option maxRecDepth 100000 in
theorem c_end {S : aw_S} {v ad ar : Nat → Nat} {PA : List (Nat × Nat)} {X : List Nat} {mb : Nat} {P : PS} (h : RC S v ad ar PA X mb P) {n : Int32} : aw_M yX10_end cX10_end 2 (some FieldType.boolean) 2 0 0 [.ref (v 4), .int n] S (mutQ X v PA mb S (endF P n)) := by
  have hL := h.L
  have h240 := h.2.2.2.2.2.2.1.2.1
  by_cases hn : 0 ≤ n.toInt ∧ n.toInt ≤ (pT P).length
  · obtain ⟨n, hn9, rfl⟩ := nI_of (x := n) (by rw [i32_lt]; show ¬ n.toInt < 0; omega)
    have hn8 : n ≤ (pT P).length := by rw [nI_toInt hn9] at hn; omega
    obtain ⟨h2, k2⟩ := RC_sht h hn8
    refine aw_enter (by decide +kernel) (Nat.le_of_ble_eq_true rfl) (fun g K EE => ?_)
    first | refine a_aload_n K dX10_end_0 rfl ?_ | refine a_aload_nN K dX10_end_0 rfl ?_
    refine a_getRs K fd_X10_10 (lw_i4 hL) (Or.inl ⟨_, rfl⟩) (lw_f640 hL) dX10_end_1 ?_
    refine a_iload_n K dX10_end_4 rfl ?_
    refine a_invV K (m_X9_shorten (i := nI n) (lw_i0 hL) h.2.2.2.2.2.2.1.1 h.2.2.2.2.2.2.1.2.1) my_X9_shorten ml_X10_106 im_X9_shorten se_X9_shorten (ci := 9) (lw_i0 hL) (by decide) ⟨_, _, rfl⟩ rfl (by omega) (by omega) (by omega) rfl (Nat.le_of_ble_eq_true rfl) dX10_end_5 ?_
    intro r9 S9 hq
    obtain ⟨rfl, rfl⟩ : r9 = some (.int 1) ∧ S9 = wI S 577 (v 0) (nI n) := hq.elim (fun q => q.2.2) (fun q => absurd hn q.1)
    exact a_iret K EE rfl (by omega) (by omega) dX10_end_8 (by unfold endF; rw [if_pos hn]; exact ⟨ad, ar, rfl, by rw [nI_clamp (by omega)]; exact h2, k2⟩)
  · refine aw_enter (by decide +kernel) (Nat.le_of_ble_eq_true rfl) (fun g K EE => ?_)
    first | refine a_aload_n K dX10_end_0 rfl ?_ | refine a_aload_nN K dX10_end_0 rfl ?_
    refine a_getRs K fd_X10_10 (lw_i4 hL) (Or.inl ⟨_, rfl⟩) (lw_f640 hL) dX10_end_1 ?_
    refine a_iload_n K dX10_end_4 rfl ?_
    refine a_invV K (m_X9_shorten (i := n) (lw_i0 hL) h.2.2.2.2.2.2.1.1 h.2.2.2.2.2.2.1.2.1) my_X9_shorten ml_X10_106 im_X9_shorten se_X9_shorten (ci := 9) (lw_i0 hL) (by decide) ⟨_, _, rfl⟩ rfl (by omega) (by omega) (by omega) rfl (Nat.le_of_ble_eq_true rfl) dX10_end_5 ?_
    intro r9 S9 hq
    obtain ⟨rfl, rfl⟩ : r9 = some (.int 0) ∧ S9 = S := hq.elim (fun q => absurd ⟨q.1, q.2.1⟩ hn) (fun q => q.2)
    exact a_iret K EE rfl (by omega) (by omega) dX10_end_8 (by unfold endF; rw [if_neg hn]; exact ⟨ad, ar, rfl, h, h.X⟩)
theorem PJ_tp {n : Nat} {P : PS} (h : PJ n P) {L : List Int32} (hl : L.length ≤ 240) (ho : ∀ x ∈ L, ∃ k, 0 < k ∧ k < 256 ∧ x = nI k) : PJ n (setTp P L) := by
  obtain ⟨a, b, c, d, e, f, g⟩ := h
  exact ⟨a.cg rfl rfl rfl rfl rfl, b, c, d, ⟨hl, ho⟩, f, g⟩
theorem PJ_feed {n : Nat} {P : PS} (h : PJ n P) (a b c d e : Int32) : PJ (n + 20) (feedF P a b c d e).2 := by
  unfold feedF
  split
  · rename_i q
    refine (PJ_tp h (by rw [List.length_append]; exact q) (fun x hx => ?_)).up (Nat.le_add_right _ _)
    rcases List.mem_append.mp hx with hx | hx
    · exact h.2.2.2.2.1.2 x hx
    · unfold feedL at hx
      simp only [List.mem_append] at hx
      rcases hx with (((hx | hx) | hx) | hx) | hx <;> exact byL_ok _ 4 x hx
  · exact h.up (Nat.le_add_right _ _)
theorem PJ_end {n : Nat} {P : PS} (h : PJ n P) (k : Int32) : PJ (n + 20) (endF P k).2 := by
  unfold endF
  split
  · refine (PJ_tp h ?_ (fun x hx => h.2.2.2.2.1.2 x (List.mem_of_mem_take hx))).up (Nat.le_add_right _ _)
    rw [List.length_take]
    have := h.2.2.2.2.1.1
    omega
  · exact h.up (Nat.le_add_right _ _)
