theorem m_refill {w tk : Nat} {S : aw_S} {ad ar : Nat → Nat} {gw u h id : Nat} {A B : List (Tr h)} {k : Tr h} (hw3 : 3 ≤ w) (hw6 : w ≤ 6) (o : aw_is S gw 1) (hwd : sI S 64 gw = nI w) (hA : AD S ad ar u) (r : RepW S ad ar (h + 1) (nod id tk (A.reverse ++ k :: B))) (hb : bdd u (ndl (h + 1) (nod id tk (A.reverse ++ k :: B)))) (ht : tk < 2147483648) (hkt : k.2.1 = tk) (hkl : k.2.2.length + 1 ≤ lea w) (hne : A ≠ [] ∨ B ≠ []) : aw_M yX1_refill cX1_refill 8 (none : Option FieldType) 4 (2 * ((refZ w tk u A k B).2 - u)) (19 * ((refZ w tk u A k B).2 - u)) [.ref gw, .ref (ad id), .int (nI A.length), .ref (ad k.1), .int (nI tk)] S (RQ S ad ar gw u h tk id (ndl (h + 1) (nod id tk (A.reverse ++ k :: B))) (refZ w tk u A k B)) := by
  cases A with
  | nil =>
    cases B with
    | nil => exact absurd hne (by simp)
    | cons b B =>
      by_cases hq : lea w < b.2.2.length
      · have e : refZ w tk u [] k (b :: B) = ([] ++ (k.1, k.2.1, k.2.2 ++ b.2.2.take 1) :: ((edt tk u b).1.1, tk, b.2.2.drop 1) :: B, (edt tk u b).2) := if_pos hq
        rw [e]
        exact m_refill_2 (P := []) (a := k) hw3 hw6 o hwd hA r hb ht hkt hkl hq
      · have e : refZ w tk u [] k (b :: B) = ([] ++ (k.1, k.2.1, k.2.2 ++ b.2.2) :: B, u) := if_neg hq
        rw [e]
        show aw_M _ _ _ _ _ (2 * (u - u)) (19 * (u - u)) _ _ _
        rw [Nat.sub_self]
        exact m_refill_4 (P := []) (a := k) hw3 hw6 o hwd hA r hb ht hkt hkl hq
  | cons a A =>
    have el : (a :: A).reverse ++ k :: B = A.reverse ++ a :: k :: B := by rw [List.reverse_cons, List.append_assoc]; rfl
    have el2 : (a :: A).length = A.reverse.length + 1 := by rw [List.length_cons, List.length_reverse]
    rw [el] at r hb ⊢
    rw [el2]
    by_cases ha : lea w < a.2.2.length
    · have e : refZ w tk u (a :: A) k B = (A.reverse ++ ((edt tk u a).1.1, tk, a.2.2.take (a.2.2.length - 1)) :: (k.1, k.2.1, a.2.2.drop (a.2.2.length - 1) ++ k.2.2) :: B, (edt tk u a).2) := if_pos ha
      rw [e]
      cases B with
      | nil => exact m_refill_1 (B := []) (b := k) hw3 hw6 o hwd hA r hb ht hkt hkl ha
      | cons b B => exact m_refill_1b hw3 hw6 o hwd hA r hb ht hkt hkl ha
    · cases B with
      | nil =>
        have e : refZ w tk u (a :: A) k [] = (A.reverse ++ [((edt tk u a).1.1, tk, a.2.2 ++ k.2.2)], (edt tk u a).2) := if_neg ha
        rw [e]
        exact m_refill_3 (B := []) (b := k) hw3 hw6 o hwd hA r hb ht hkt hkl ha
      | cons b B =>
        by_cases hq : lea w < b.2.2.length
        · have e : refZ w tk u (a :: A) k (b :: B) = (A.reverse ++ a :: (k.1, k.2.1, k.2.2 ++ b.2.2.take 1) :: ((edt tk u b).1.1, tk, b.2.2.drop 1) :: B, (edt tk u b).2) := (if_neg ha).trans (if_pos hq)
          rw [e]
          have e2 : A.reverse ++ a :: k :: b :: B = (A.reverse ++ [a]) ++ k :: b :: B := by rw [List.append_assoc]; rfl
          rw [e2] at r hb ⊢
          have M := m_refill_2a hw3 hw6 o hwd hA r hb ht hkt hkl ha hq
          rw [List.append_assoc (A.reverse) [a] (((k.1, k.2.1, k.2.2 ++ b.2.2.take 1) : Tr h) :: _)] at M
          exact M
        · have e : refZ w tk u (a :: A) k (b :: B) = (A.reverse ++ ((edt tk u a).1.1, tk, a.2.2 ++ k.2.2) :: b :: B, (edt tk u a).2) := (if_neg ha).trans (if_neg hq)
          rw [e]
          exact m_refill_3b hw3 hw6 o hwd hA r hb ht hkt hkl ha hq
/-- what takeBelow leaves -/
def TBq (S : aw_S) (ad ar : Nat → Nat) (gw u h tk : Nat) (L : List (Nat × Nat)) (R : Tr h × Nat) (r : Option Value) (S2 : aw_S) : Prop := r = none ∧ ∃ ad2 ar2, GR S S2 ad ar ad2 ar2 u R.2 gw tk L ∧ RepW S2 ad2 ar2 h R.1
theorem refZ_le {h w tk u : Nat} (A : List (Tr h)) (k : Tr h) (B : List (Tr h)) : u ≤ (refZ w tk u A k B).2 := refZ_elim (P := fun r => u ≤ r.2) A k B (fun a _ _ _ => edt_le a) (fun b _ _ _ _ => edt_le b) (fun a _ _ _ _ => edt_le a) (fun _ _ _ _ _ => Nat.le_refl _) (fun _ _ => Nat.le_refl _)
theorem remT_gru {w tk : Nat} {key : Int32} {h u : Nat} {t : Tr (h + 1)} {c : Tr h} (hb : bdd u (ndl (h + 1) t)) (hc : (kds t)[place key (kds t)]? = some c) : grw u (remB w tk key h (edt tk u c).2 (edt tk u c).1).2 tk (ndl (h + 1) t) (ndl (h + 1) (nod t.1 t.2.1 ((kds t).take (place key (kds t)) ++ (remB w tk key h (edt tk u c).2 (edt tk u c).1).1 :: (kds t).drop (place key (kds t) + 1)))) := by
  have g1 := edk_grw (tk := tk) hb hc
  have b1 := g1.bd hb
  obtain ⟨-, g2⟩ := remB_gru (w := w) (tk := tk) (key := key) h (bdd_edt (tk := tk) hb hc).2
  have g3 := g1.tr (grw.con _ b1 (grw.ctx _ _ b1.tl g2.1))
  rw [ndl_nod, List.flatMap_append, List.flatMap_cons]
  exact g3
set_option maxHeartbeats 4000000 in
set_option maxRecDepth 100000 in
theorem m_takeBelow {w tk : Nat} {key : Int32} (hw3 : 3 ≤ w) (hw6 : w ≤ 6) : ∀ (h : Nat) {S : aw_S} {ad ar : Nat → Nat} {gw u dep : Nat} {t : Tr h} (_ : aw_is S gw 1) (_ : sI S 64 gw = nI w) (_ : AD S ad ar u) (_ : RepW S ad ar h t) (_ : okT (lea w) w h t) (_ : t.2.2.length ≤ w) (_ : 0 < h → 2 ≤ t.2.2.length) (_ : bdd u (ndl h t)) (_ : tk < 2147483648) (_ : t.2.1 = tk) (_ : dep + h < 12), aw_M yX1_takeBelow cX1_takeBelow 7 (none : Option FieldType) (h + 5) (2 * ((remB w tk key h u t).2 - u)) (19 * ((remB w tk key h u t).2 - u)) [.ref gw, .ref (ad t.1), .int (nI tk), .int key, .int (nI dep)] S (TBq S ad ar gw u h tk (ndl h t) (remB w tk key h u t)) := by
  intro h
  induction h with
  | zero =>
    intro S ad ar gw u dep t o hwd hA r ok hl hm hb ht hk hd
    have o4 := r.is
    refine aw_enter (by decide +kernel) (Nat.le_of_ble_eq_true rfl) (fun g K E => ?_)
    first | refine a_aload_n K dX1_takeBelow_0 rfl ?_ | refine a_aload_nN K dX1_takeBelow_0 rfl ?_
    refine a_ifnull K dX1_takeBelow_1 ?_
    refine a_iload K dX1_takeBelow_4 rfl ?_
    refine a_bipush K dX1_takeBelow_6 (v := 12) (by decide) ?_
    refine a_icmp_lt K dX1_takeBelow_8 (tgt := 12) (by decide) (fun c_8 => ?_) (fun c_8 => absurd c_8 (fun z => z (nI_lt (b := 12) (by omega) (by omega))))
    first | refine a_aload_n K dX1_takeBelow_12 rfl ?_ | refine a_aload_nN K dX1_takeBelow_12 rfl ?_
    refine a_invV K (m_X4_isLeaf_y o4 r.own.l.hE) my_X4_isLeaf ml_X1_60 im_X4_isLeaf se_X4_isLeaf (ci := 4) (by assumption) (by decide) ⟨_, _, rfl⟩ rfl (by omega) (by omega) (by omega) rfl (Nat.le_of_ble_eq_true rfl) dX1_takeBelow_13 ?_
    intro r9 S9 hp9
    obtain ⟨hS9, rfl⟩ := hp9
    obtain rfl := hS9.symm
    refine a_if_eq K dX1_takeBelow_16 (tgt := 25) (by decide) (fun c_16 => absurd c_16 (by decide)) (fun c_16 => ?_)
    first | refine a_aload_n K dX1_takeBelow_19 rfl ?_ | refine a_aload_nN K dX1_takeBelow_19 rfl ?_
    refine a_iload_n K dX1_takeBelow_20 rfl ?_
    refine a_invV K (m_X4_removeEntry (key := key) r.own.l) my_X4_removeEntry ml_X1_93 im_X4_removeEntry se_X4_removeEntry (ci := 4) (by assumption) (by decide) ⟨_, _, rfl⟩ rfl (by omega) (by omega) (by omega) rfl (Nat.le_of_ble_eq_true rfl) dX1_takeBelow_21 ?_
    intro r9 S9 hp9
    obtain ⟨rfl, nl, f9⟩ := hp9
    exact a_vret K E (by omega) (by omega) dX1_takeBelow_24 ⟨rfl, ad, ar, f9.gr hA o hb.1 (fun b hb2 => ⟨_, mem_own t, hk, hb2⟩), OwnW_l (by rw [f9.2.2.2.2.2.2.1 _ 256 (Or.inr rfl)]; exact r.own.1.1) r.own.1.2 nl⟩
  | succ h ih =>
    intro S ad ar gw u dep t o hwd hA r ok hl hm hb ht hk hd
    have o4 := r.is
    have h7 := kds_le7 r.own
    have hl2 : 2 ≤ lea w := by unfold lea; omega
    have hlw : 1 ≤ lea w := by omega
    have hlm : lea w + lea w ≤ w + 1 := by unfold lea; omega
    have ne := NeT_fan hlw (h + 1) ok
    have hp : place key (kds t) < (kds t).length := place_lt (okT_ne ok)
    obtain ⟨c, hc⟩ : ∃ c, (kds t)[place key (kds t)]? = some c := ⟨_, List.getElem?_eq_getElem hp⟩
    have hcm := List.mem_of_getElem? hc
    have hfc := okT_k ok c hcm
    have hu : t.1 < u := hb.1 _ (mem_own t)
    have hM1 := edt_le (tk := tk) (u := u) c
    obtain ⟨⟨hX, hXk⟩, hgr⟩ := remB_gru (w := w) (tk := tk) (key := key) h (bdd_edt (tk := tk) hb hc).2
    have hM2 := hgr.1.1
    have gT := remT_gru (w := w) (tk := tk) (key := key) hb hc
    have bX := gT.bd hb
    have hM3 : (remB w tk key h (edt tk u c).2 (edt tk u c).1).2 ≤ (remB w tk key (h + 1) u t).2 := by
      by_cases hn : (remB w tk key h (edt tk u c).2 (edt tk u c).1).1.2.2.length < lea w
      · rw [remB_lt hc hn]; exact refZ_le _ _ _
      · rw [remB_ge hc hn]; exact Nat.le_refl _
    have hfl := (fan_L.mp hfc).1
    obtain ⟨-, j2, j3⟩ := remB_fan (w := w) (tk := tk) (key := key) hw3 h (u := (edt tk u c).2) (t := (edt tk u c).1) (edt_ok (okT_fan hlw hfc)) (by rw [edt_it]; exact hfl.2) (fun _ => by rw [edt_it]; omega)
    rw [edt_it] at j2 j3
    have hne : ((kds t).take (place key (kds t))).reverse ≠ [] ∨ (kds t).drop (place key (kds t) + 1) ≠ [] := by
      have h22 : 2 ≤ (kds t).length := hm (Nat.succ_pos _)
      by_cases h0 : 0 < place key (kds t)
      · refine Or.inl (fun z => ?_)
        have h1 := congrArg List.length z
        rw [List.length_reverse, List.length_take, List.length_nil] at h1
        omega
      · refine Or.inr (fun z => ?_)
        have h1 := congrArg List.length z
        rw [List.length_drop, List.length_nil] at h1
        omega
    have hlk : (kds t).length ≤ w := hl
    refine aw_enter (by decide +kernel) (Nat.le_of_ble_eq_true rfl) (fun g K E => ?_)
    first | refine a_aload_n K dX1_takeBelow_0 rfl ?_ | refine a_aload_nN K dX1_takeBelow_0 rfl ?_
    refine a_ifnull K dX1_takeBelow_1 ?_
    refine a_iload K dX1_takeBelow_4 rfl ?_
    refine a_bipush K dX1_takeBelow_6 (v := 12) (by decide) ?_
    refine a_icmp_lt K dX1_takeBelow_8 (tgt := 12) (by decide) (fun c_8 => ?_) (fun c_8 => absurd c_8 (fun z => z (nI_lt (b := 12) (by omega) (by omega))))
    first | refine a_aload_n K dX1_takeBelow_12 rfl ?_ | refine a_aload_nN K dX1_takeBelow_12 rfl ?_
    refine a_invV K (m_X4_isLeaf_n o4 r.own.k.hE0) my_X4_isLeaf ml_X1_60 im_X4_isLeaf se_X4_isLeaf (ci := 4) (by assumption) (by decide) ⟨_, _, rfl⟩ rfl (by omega) (by omega) (by omega) rfl (Nat.le_of_ble_eq_true rfl) dX1_takeBelow_13 ?_
    intro r9 S9 hp9
    obtain ⟨hS9, rfl⟩ := hp9
    obtain rfl := hS9.symm
    refine a_if_eq K dX1_takeBelow_16 (tgt := 25) (by decide) (fun c_16 => ?_) (fun c_16 => absurd c_16 (by decide))
    first | refine a_aload_n K dX1_takeBelow_25 rfl ?_ | refine a_aload_nN K dX1_takeBelow_25 rfl ?_
    refine a_iload_n K dX1_takeBelow_26 rfl ?_
    refine a_invV K (m_X4_placeOfKid (key := key) r ne (by omega)) my_X4_placeOfKid ml_X1_68 im_X4_placeOfKid se_X4_placeOfKid (ci := 4) (by assumption) (by decide) ⟨_, _, rfl⟩ rfl (by omega) (by omega) (by omega) rfl (Nat.le_of_ble_eq_true rfl) dX1_takeBelow_27 ?_
    intro r9 S9 hp9
    obtain ⟨rfl, hS9⟩ := hp9
    obtain rfl := hS9.symm
    refine a_istore K dX1_takeBelow_30 (by decide) ?_
    first | refine a_aload_n K dX1_takeBelow_32 rfl ?_ | refine a_aload_nN K dX1_takeBelow_32 rfl ?_
    first | refine a_aload_n K dX1_takeBelow_33 rfl ?_ | refine a_aload_nN K dX1_takeBelow_33 rfl ?_
    refine a_iload K dX1_takeBelow_34 rfl ?_
    refine a_iload_n K dX1_takeBelow_36 rfl ?_
    refine a_invV K (m_editedKid o hA r hb ht hk hc) my_X1_editedKid ml_X1_72 im_X1_editedKid se_X1_editedKid (ci := 1) (by assumption) (by decide) ⟨_, _, rfl⟩ rfl (by omega) (by omega) (by omega) rfl (Nat.le_of_ble_eq_true rfl) dX1_takeBelow_37 ?_
    intro r9 S9 hp9
    obtain ⟨ad2, ar2, rfl, G1, r1⟩ := hp9
    have o9 := G1.is o
    first | refine a_astore K dX1_takeBelow_40 (by decide) ?_ | refine a_astoreN K dX1_takeBelow_40 (by decide) ?_
    first | refine a_aload_n K dX1_takeBelow_42 rfl ?_ | refine a_aload_nN K dX1_takeBelow_42 rfl ?_
    first | refine a_aload K dX1_takeBelow_43 rfl ?_ | refine a_aloadN K dX1_takeBelow_43 rfl ?_
    refine a_iload_n K dX1_takeBelow_45 rfl ?_
    refine a_iload_n K dX1_takeBelow_46 rfl ?_
    refine a_iload K dX1_takeBelow_47 rfl ?_
    refine a_iconst K dX1_takeBelow_49 (v := 1) (by decide) ?_
    refine a_iadd K dX1_takeBelow_50 ?_
    rw [nI_1]
    refine a_invS K (ih (dep := dep + 1) (t := (edt tk u c).1) (u := (edt tk u c).2) o9 (G1.wd.trans hwd) G1.2.2.1 (r1.2 _ (List.mem_append_right _ List.mem_cons_self)) (edt_ok (okT_fan hlw hfc)) (by rw [edt_it]; exact (fan_L.mp hfc).1.2) (fun _ => by rw [edt_it]; exact Nat.le_trans hl2 (fan_L.mp hfc).1.1) (bdd_edt hb hc).2 ht (edt_tk tk u c) (by omega)) my_X1_takeBelow ml_X1_89 st_X1_takeBelow rfl (by omega) (by omega) (by omega) rfl (Nat.le_of_ble_eq_true rfl) dX1_takeBelow_51 ?_
    intro r9 S10 hp9
    obtain ⟨rfl, ad3, ar3, G2, r2⟩ := hp9
    obtain ⟨rM, GM⟩ := mid_rep o hb hc G1 r1 (X := (remB w tk key h (edt tk u c).2 (edt tk u c).1).1) hX G2 r2
    have e3 := (GM.2.1 t.1 hu).1
    have e36 : ad3 (edt tk u c).1.1 = ad2 (edt tk u c).1.1 := (G2.2.1 _ ((bdd_edt (tk := tk) hb hc).2.1 _ (mem_own _))).1
    have o10 := GM.is o
    have ok10 : aw_is S10 (ad2 (edt tk u c).1.1) 4 := by rw [← e36, ← hX]; exact r2.is
    have rlen := r2.own.le7
    first | refine a_aload K dX1_takeBelow_54 rfl ?_ | refine a_aloadN K dX1_takeBelow_54 rfl ?_
    refine a_ifnull K dX1_takeBelow_56 ?_
    first | refine a_aload K dX1_takeBelow_59 rfl ?_ | refine a_aloadN K dX1_takeBelow_59 rfl ?_
    refine a_invV K (m_X4_size ok10) my_X4_size ml_X1_76 im_X4_size se_X4_size (ci := 4) (by assumption) (by decide) ⟨_, _, rfl⟩ rfl (by omega) (by omega) (by omega) rfl (Nat.le_of_ble_eq_true rfl) dX1_takeBelow_61 ?_
    intro r9 S9 hp9
    obtain ⟨rfl, hS9⟩ := hp9
    obtain rfl := hS9.symm
    first | refine a_aload_n K dX1_takeBelow_64 rfl ?_ | refine a_aload_nN K dX1_takeBelow_64 rfl ?_
    refine a_invV K (m_X1_least (w := w) o10 (GM.wd.trans hwd) (by omega)) my_X1_least ml_X1_82 im_X1_least se_X1_least (ci := 1) (by assumption) (by decide) ⟨_, _, rfl⟩ rfl (by omega) (by omega) (by omega) rfl (Nat.le_of_ble_eq_true rfl) dX1_takeBelow_65 ?_
    intro r9 S9 hp9
    obtain ⟨rfl, hS9⟩ := hp9
    obtain rfl := hS9.symm
    rw [(show sI S10 259 (ad2 (edt tk u c).1.1) = nI (remB w tk key h (edt tk u c).2 (edt tk u c).1).1.2.2.length by rw [← e36, ← hX]; exact r2.own.sz)]
    refine a_icmp_ge K dX1_takeBelow_68 (tgt := 81) (by decide) (fun c_68 => ?_) (fun c_68 => ?_)
    · have hn : ¬ (remB w tk key h (edt tk u c).2 (edt tk u c).1).1.2.2.length < lea w := Nat.not_lt.mpr ((nI_leI (by omega) (by omega)).mp c_68)
      exact a_vret K E (by omega) (by omega) dX1_takeBelow_81 (by first | exact ⟨rfl, ad3, ar3, by rw [remB_ge hc hn]; exact GM, by rw [remB_ge hc hn]; exact rM⟩ | exact ⟨rfl, ad4, ar4, by rw [e9]; exact GM.trg G3 gTk hb, by rw [e9, hk]; exact r4⟩)
    · have hn : (remB w tk key h (edt tk u c).2 (edt tk u c).1).1.2.2.length < lea w := Nat.lt_of_not_le (fun z => c_68 (nI_le z (by omega)))
      have e9 := remB_lt (w := w) (tk := tk) hc hn
      have hI2 : (remB w tk key (h + 1) u t).2 = (refZ w tk (remB w tk key h (edt tk u c).2 (edt tk u c).1).2 ((kds t).take (place key (kds t))).reverse (remB w tk key h (edt tk u c).2 (edt tk u c).1).1 ((kds t).drop (place key (kds t) + 1))).2 := by rw [e9]
      have hI3 := refZ_le (w := w) (tk := tk) (u := (remB w tk key h (edt tk u c).2 (edt tk u c).1).2) ((kds t).take (place key (kds t))).reverse (remB w tk key h (edt tk u c).2 (edt tk u c).1).1 ((kds t).drop (place key (kds t) + 1))
      first | refine a_aload_n K dX1_takeBelow_71 rfl ?_ | refine a_aload_nN K dX1_takeBelow_71 rfl ?_
      first | refine a_aload_n K dX1_takeBelow_72 rfl ?_ | refine a_aload_nN K dX1_takeBelow_72 rfl ?_
      refine a_iload K dX1_takeBelow_73 rfl ?_
      first | refine a_aload K dX1_takeBelow_75 rfl ?_ | refine a_aloadN K dX1_takeBelow_75 rfl ?_
      refine a_iload_n K dX1_takeBelow_77 rfl ?_
      have e40 : ad3 (remB w tk key h (edt tk u c).2 (edt tk u c).1).1.1 = ad2 (edt tk u c).1.1 := by rw [hX]; exact e36
      rw [← e40, ← e3, show nI (place key (kds t)) = nI ((kds t).take (place key (kds t))).reverse.length by rw [List.length_reverse, List.length_take, Nat.min_eq_left (Nat.le_of_lt hp)]]
      refine a_invV K (m_refill (A := ((kds t).take (place key (kds t))).reverse) (B := (kds t).drop (place key (kds t) + 1)) (k := (remB w tk key h (edt tk u c).2 (edt tk u c).1).1) (id := t.1) (tk := tk) hw3 hw6 o10 (GM.wd.trans hwd) GM.2.2.1 (by rw [List.reverse_reverse]; rw [hk] at rM; exact rM) (by rw [List.reverse_reverse]; rw [hk] at bX; exact bX) ht (hXk.trans (edt_tk tk u c)) (by omega) hne) my_X1_refill ml_X1_97 im_X1_refill se_X1_refill (ci := 1) (by assumption) (by decide) ⟨_, _, rfl⟩ rfl (by omega) (by omega) (by omega) rfl (Nat.le_of_ble_eq_true rfl) dX1_takeBelow_78 ?_
      intro r9 S11 hp9
      obtain ⟨rfl, ad4, ar4, G3, r4⟩ := hp9
      rw [List.reverse_reverse] at G3
      have gTk := gT
      rw [hk] at gTk
      exact a_vret K E (by omega) (by omega) dX1_takeBelow_81 (by first | exact ⟨rfl, ad3, ar3, by rw [remB_ge hc hn]; exact GM, by rw [remB_ge hc hn]; exact rM⟩ | exact ⟨rfl, ad4, ar4, by rw [e9]; exact GM.trg G3 gTk hb, by rw [e9, hk]; exact r4⟩)
theorem takT_y {w tk u : Nat} {key : Int32} {z : Tz} (h : val z.1 z.2 key = -1000000) : takT w tk u key z = (z, u) := if_pos h
theorem takT_n {w tk u : Nat} {key : Int32} {z : Tz} (h : ¬ val z.1 z.2 key = -1000000) : takT w tk u key z = (dwn ⟨z.1, (remB w tk key z.1 (edt tk u z.2).2 (edt tk u z.2).1).1⟩, (remB w tk key z.1 (edt tk u z.2).2 (edt tk u z.2).1).2) := if_neg h
set_option maxHeartbeats 4000000 in
set_option maxRecDepth 100000 in
theorem m_takeOut_l {w tk : Nat} {key : Int32} (hw3 : 3 ≤ w) (hw6 : w ≤ 6) {S : aw_S} {ad ar : Nat → Nat} {gw u h : Nat} {t : Tr 0} (o : aw_is S gw 1) (hwd : sI S 64 gw = nI w) (hA : AD S ad ar u) (r : RepW S ad ar 0 t) (ok : okT (lea w) w 0 t) (hl : t.2.2.length ≤ w) (hm : 0 < 0 → 2 ≤ t.2.2.length) (hb : bdd u (ndl 0 t)) (ht : tk < 2147483648) (hh : 0 < 12) : aw_M yX1_takeOut cX1_takeOut 5 (some (FieldType.object "WideMap$Node")) (0 + 6) (2 * ((takT w tk u key ⟨0, t⟩).2 - u)) (19 * ((takT w tk u key ⟨0, t⟩).2 - u)) [.ref gw, .ref (ad t.1), .int (nI tk), .int key] S (PTq S ad ar gw u tk (ndl 0 t) (takT w tk u key ⟨0, t⟩)) := by
  have o4 := r.is
  have ne := NeT_fan (show 1 ≤ lea w by unfold lea; omega) 0 ok
  have hgE := edt_grw (tk := tk) hb
  have hbE := hgE.bd hb
  obtain ⟨⟨hX, -⟩, hgI⟩ := remB_gru (w := w) (tk := tk) (key := key) 0 hbE
  have hM1 := edt_le (tk := tk) (u := u) t
  have hM2 := hgI.1.1
  refine aw_enter (by decide +kernel) (Nat.le_of_ble_eq_true rfl) (fun g K E => ?_)
  first | refine a_aload_n K dX1_takeOut_0 rfl ?_ | refine a_aload_nN K dX1_takeOut_0 rfl ?_
  refine a_ifnull K dX1_takeOut_1 ?_
  first | refine a_aload_n K dX1_takeOut_4 rfl ?_ | refine a_aload_nN K dX1_takeOut_4 rfl ?_
  refine a_iload_n K dX1_takeOut_5 rfl ?_
  refine a_invSN K (m_X10_valueIn (key := key) r ne (by omega) rfl) my_X10_valueIn (fun _ _ _ z => z.1.2.2.1) st_X10_valueIn rfl (by omega) (by omega) (by omega) rfl (Nat.le_of_ble_eq_true rfl) dX1_takeOut_6 ?_
  intro r9 S9 hp9
  obtain ⟨rfl, hS9⟩ := hp9
  obtain rfl := hS9.symm
  refine a_ldc K kc_X1_88 dX1_takeOut_9 ?_
  refine a_icmp_ne K dX1_takeOut_11 (tgt := 16) (by decide) (fun c_11 => ?_) (fun c_11 => ?_)
  · have hT := takT_n (w := w) (tk := tk) (u := u) (z := ⟨0, t⟩) c_11
    have hM4 : (takT w tk u key ⟨0, t⟩).2 = (remB w tk key 0 (edt tk u t).2 (edt tk u t).1).2 := by rw [hT]
    first | refine a_aload_n K dX1_takeOut_16 rfl ?_ | refine a_aload_nN K dX1_takeOut_16 rfl ?_
    first | refine a_aload_n K dX1_takeOut_17 rfl ?_ | refine a_aload_nN K dX1_takeOut_17 rfl ?_
    refine a_iload_n K dX1_takeOut_18 rfl ?_
    refine a_invV K (m_edited o hA r.own (fun x hx => hb.1 x (mem_blw hx)) ht) my_X1_edited ml_X1_37 im_X1_edited se_X1_edited (ci := 1) (by assumption) (by decide) ⟨_, _, rfl⟩ rfl (by omega) (by omega) (by omega) rfl (Nat.le_of_ble_eq_true rfl) dX1_takeOut_19 ?_
    intro r9 S9 hp9
    obtain ⟨ad2, ar2, rfl, wE, G1⟩ := hp9
    have reE := edt_rep o hA r hb.1 wE G1
    first | refine a_astore K dX1_takeOut_22 (by decide) ?_ | refine a_astoreN K dX1_takeOut_22 (by decide) ?_
    first | refine a_aload_n K dX1_takeOut_24 rfl ?_ | refine a_aload_nN K dX1_takeOut_24 rfl ?_
    first | refine a_aload K dX1_takeOut_25 rfl ?_ | refine a_aloadN K dX1_takeOut_25 rfl ?_
    refine a_iload_n K dX1_takeOut_27 rfl ?_
    refine a_iload_n K dX1_takeOut_28 rfl ?_
    refine a_iconst K dX1_takeOut_29 (v := 0) (by decide) ?_
    refine a_invS K (m_takeBelow hw3 hw6 0 (dep := 0) (t := (edt tk u t).1) (u := (edt tk u t).2) (G1.is o) (G1.wd.trans hwd) G1.2.2.1 reE (edt_ok ok) (by rw [edt_it]; exact hl) (by rw [edt_it]; exact hm) hbE ht (edt_tk tk u t) (by omega)) my_X1_takeBelow ml_X1_89 st_X1_takeBelow rfl (by omega) (by omega) (by omega) rfl (Nat.le_of_ble_eq_true rfl) dX1_takeOut_30 ?_
    intro r9 S10 hp9
    obtain ⟨rfl, ad3, ar3, G2, r2⟩ := hp9
    have GM := (G1.mono (fun x hx => absurd hx (by simp))).trg G2 hgE hb
    have e36 : ad3 (edt tk u t).1.1 = ad2 (edt tk u t).1.1 := (G2.2.1 _ (hbE.1 _ (mem_own _))).1
    have o10 := GM.is o
    have ok10 : aw_is S10 (ad2 (edt tk u t).1.1) 4 := by rw [← e36, ← hX]; exact r2.is
    have rlen := r2.own.le7
    first | refine a_aload K dX1_takeOut_33 rfl ?_ | refine a_aloadN K dX1_takeOut_33 rfl ?_
    refine a_invV K (m_X4_isLeaf_y ok10 (e36 ▸ hX ▸ r2.own.l.hE)) my_X4_isLeaf ml_X1_60 im_X4_isLeaf se_X4_isLeaf (ci := 4) (by assumption) (by decide) ⟨_, _, rfl⟩ rfl (by omega) (by omega) (by omega) rfl (Nat.le_of_ble_eq_true rfl) dX1_takeOut_35 ?_
    intro r9 S11 hp9
    obtain ⟨hS9, rfl⟩ := hp9
    obtain rfl := hS9.symm
    refine a_if_ne K dX1_takeOut_38 (tgt := 59) (by decide) (fun c_38 => ?_) (fun c_38 => absurd c_38 (by decide))
    first | refine a_aload K dX1_takeOut_59 rfl ?_ | refine a_aloadN K dX1_takeOut_59 rfl ?_
    exact a_aret K E (Or.inl ⟨_, rfl⟩) (Or.inr ⟨_, rfl⟩) (by omega) (by omega) dX1_takeOut_61 ⟨ad3, ar3, by rw [hT]; show _ = some (Value.ref (ad3 (remB w tk key 0 (edt tk u t).2 (edt tk u t).1).1.1)); rw [hX, e36], by rw [hT]; exact GM, by rw [hT]; exact r2⟩
  · first | refine a_aload_n K dX1_takeOut_14 rfl ?_ | refine a_aload_nN K dX1_takeOut_14 rfl ?_
    exact a_aret K E (Or.inl ⟨_, rfl⟩) (Or.inr ⟨_, rfl⟩) (by omega) (by omega) dX1_takeOut_15 ⟨ad, ar, by rw [takT_y (z := ⟨0, t⟩) c_11], by rw [takT_y (z := ⟨0, t⟩) c_11]; exact GR.rf hA, by rw [takT_y (z := ⟨0, t⟩) c_11]; exact r⟩
set_option maxHeartbeats 4000000 in
set_option maxRecDepth 100000 in
theorem m_takeOut_k {w tk : Nat} {key : Int32} (hw3 : 3 ≤ w) (hw6 : w ≤ 6) {S : aw_S} {ad ar : Nat → Nat} {gw u h : Nat} {t : Tr (h + 1)} (o : aw_is S gw 1) (hwd : sI S 64 gw = nI w) (hA : AD S ad ar u) (r : RepW S ad ar (h + 1) t) (ok : okT (lea w) w (h + 1) t) (hl : t.2.2.length ≤ w) (hm : 0 < (h + 1) → 2 ≤ t.2.2.length) (hb : bdd u (ndl (h + 1) t)) (ht : tk < 2147483648) (hh : (h + 1) < 12) : aw_M yX1_takeOut cX1_takeOut 5 (some (FieldType.object "WideMap$Node")) ((h + 1) + 6) (2 * ((takT w tk u key ⟨(h + 1), t⟩).2 - u)) (19 * ((takT w tk u key ⟨(h + 1), t⟩).2 - u)) [.ref gw, .ref (ad t.1), .int (nI tk), .int key] S (PTq S ad ar gw u tk (ndl (h + 1) t) (takT w tk u key ⟨(h + 1), t⟩)) := by
  have o4 := r.is
  have ne := NeT_fan (show 1 ≤ lea w by unfold lea; omega) (h + 1) ok
  have hgE := edt_grw (tk := tk) hb
  have hbE := hgE.bd hb
  obtain ⟨⟨hX, -⟩, hgI⟩ := remB_gru (w := w) (tk := tk) (key := key) (h + 1) hbE
  have hM1 := edt_le (tk := tk) (u := u) t
  have hM2 := hgI.1.1
  refine aw_enter (by decide +kernel) (Nat.le_of_ble_eq_true rfl) (fun g K E => ?_)
  first | refine a_aload_n K dX1_takeOut_0 rfl ?_ | refine a_aload_nN K dX1_takeOut_0 rfl ?_
  refine a_ifnull K dX1_takeOut_1 ?_
  first | refine a_aload_n K dX1_takeOut_4 rfl ?_ | refine a_aload_nN K dX1_takeOut_4 rfl ?_
  refine a_iload_n K dX1_takeOut_5 rfl ?_
  refine a_invSN K (m_X10_valueIn (key := key) r ne (by omega) rfl) my_X10_valueIn (fun _ _ _ z => z.1.2.2.1) st_X10_valueIn rfl (by omega) (by omega) (by omega) rfl (Nat.le_of_ble_eq_true rfl) dX1_takeOut_6 ?_
  intro r9 S9 hp9
  obtain ⟨rfl, hS9⟩ := hp9
  obtain rfl := hS9.symm
  refine a_ldc K kc_X1_88 dX1_takeOut_9 ?_
  refine a_icmp_ne K dX1_takeOut_11 (tgt := 16) (by decide) (fun c_11 => ?_) (fun c_11 => ?_)
  · have hT := takT_n (w := w) (tk := tk) (u := u) (z := ⟨(h + 1), t⟩) c_11
    have hM4 : (takT w tk u key ⟨(h + 1), t⟩).2 = (remB w tk key (h + 1) (edt tk u t).2 (edt tk u t).1).2 := by rw [hT]
    first | refine a_aload_n K dX1_takeOut_16 rfl ?_ | refine a_aload_nN K dX1_takeOut_16 rfl ?_
    first | refine a_aload_n K dX1_takeOut_17 rfl ?_ | refine a_aload_nN K dX1_takeOut_17 rfl ?_
    refine a_iload_n K dX1_takeOut_18 rfl ?_
    refine a_invV K (m_edited o hA r.own (fun x hx => hb.1 x (mem_blw hx)) ht) my_X1_edited ml_X1_37 im_X1_edited se_X1_edited (ci := 1) (by assumption) (by decide) ⟨_, _, rfl⟩ rfl (by omega) (by omega) (by omega) rfl (Nat.le_of_ble_eq_true rfl) dX1_takeOut_19 ?_
    intro r9 S9 hp9
    obtain ⟨ad2, ar2, rfl, wE, G1⟩ := hp9
    have reE := edt_rep o hA r hb.1 wE G1
    first | refine a_astore K dX1_takeOut_22 (by decide) ?_ | refine a_astoreN K dX1_takeOut_22 (by decide) ?_
    first | refine a_aload_n K dX1_takeOut_24 rfl ?_ | refine a_aload_nN K dX1_takeOut_24 rfl ?_
    first | refine a_aload K dX1_takeOut_25 rfl ?_ | refine a_aloadN K dX1_takeOut_25 rfl ?_
    refine a_iload_n K dX1_takeOut_27 rfl ?_
    refine a_iload_n K dX1_takeOut_28 rfl ?_
    refine a_iconst K dX1_takeOut_29 (v := 0) (by decide) ?_
    refine a_invS K (m_takeBelow hw3 hw6 (h + 1) (dep := 0) (t := (edt tk u t).1) (u := (edt tk u t).2) (G1.is o) (G1.wd.trans hwd) G1.2.2.1 reE (edt_ok ok) (by rw [edt_it]; exact hl) (by rw [edt_it]; exact hm) hbE ht (edt_tk tk u t) (by omega)) my_X1_takeBelow ml_X1_89 st_X1_takeBelow rfl (by omega) (by omega) (by omega) rfl (Nat.le_of_ble_eq_true rfl) dX1_takeOut_30 ?_
    intro r9 S10 hp9
    obtain ⟨rfl, ad3, ar3, G2, r2⟩ := hp9
    have GM := (G1.mono (fun x hx => absurd hx (by simp))).trg G2 hgE hb
    have e36 : ad3 (edt tk u t).1.1 = ad2 (edt tk u t).1.1 := (G2.2.1 _ (hbE.1 _ (mem_own _))).1
    have o10 := GM.is o
    have ok10 : aw_is S10 (ad2 (edt tk u t).1.1) 4 := by rw [← e36, ← hX]; exact r2.is
    have rlen := r2.own.le7
    first | refine a_aload K dX1_takeOut_33 rfl ?_ | refine a_aloadN K dX1_takeOut_33 rfl ?_
    refine a_invV K (m_X4_isLeaf_n ok10 (e36 ▸ hX ▸ r2.own.k.hE0)) my_X4_isLeaf ml_X1_60 im_X4_isLeaf se_X4_isLeaf (ci := 4) (by assumption) (by decide) ⟨_, _, rfl⟩ rfl (by omega) (by omega) (by omega) rfl (Nat.le_of_ble_eq_true rfl) dX1_takeOut_35 ?_
    intro r9 S11 hp9
    obtain ⟨hS9, rfl⟩ := hp9
    obtain rfl := hS9.symm
    refine a_if_ne K dX1_takeOut_38 (tgt := 59) (by decide) (fun c_38 => absurd c_38 (fun z => z rfl)) (fun c_38 => ?_)
    first | refine a_aload K dX1_takeOut_41 rfl ?_ | refine a_aloadN K dX1_takeOut_41 rfl ?_
    refine a_invV K (m_X4_size ok10) my_X4_size ml_X1_76 im_X4_size se_X4_size (ci := 4) (by assumption) (by decide) ⟨_, _, rfl⟩ rfl (by omega) (by omega) (by omega) rfl (Nat.le_of_ble_eq_true rfl) dX1_takeOut_43 ?_
    intro r9 S9 hp9
    obtain ⟨rfl, hS9⟩ := hp9
    obtain rfl := hS9.symm
    refine a_iconst K dX1_takeOut_46 (v := 1) (by decide) ?_
    rw [(show sI S10 259 (ad2 (edt tk u t).1.1) = nI (remB w tk key (h + 1) (edt tk u t).2 (edt tk u t).1).1.2.2.length by rw [← e36, ← hX]; exact r2.own.sz)]
    refine a_icmp_ne K dX1_takeOut_47 (tgt := 59) (by decide) (fun c_47 => ?_) (fun c_47 => ?_)
    · have hn : ¬ (remB w tk key (h + 1) (edt tk u t).2 (edt tk u t).1).1.2.2.length = 1 := fun z => c_47 (by rw [z]; rfl)
      have hD : dwn ⟨h + 1, (remB w tk key (h + 1) (edt tk u t).2 (edt tk u t).1).1⟩ = ⟨h + 1, (remB w tk key (h + 1) (edt tk u t).2 (edt tk u t).1).1⟩ := (dwn_cases ⟨h + 1, (remB w tk key (h + 1) (edt tk u t).2 (edt tk u t).1).1⟩).elim (fun z => z.1) (fun z => by
        obtain ⟨h2, t2, c2, ez, hq, -⟩ := z
        have key2 : ∀ y : Tz, y = ⟨h2 + 1, t2⟩ → y.2.2.2.length = 1 := fun y hy => by subst hy; show (kds t2).length = 1; rw [hq]; rfl
        exact absurd (key2 _ ez) hn)
      first | refine a_aload K dX1_takeOut_59 rfl ?_ | refine a_aloadN K dX1_takeOut_59 rfl ?_
      exact a_aret K E (Or.inl ⟨_, rfl⟩) (Or.inr ⟨_, rfl⟩) (by omega) (by omega) dX1_takeOut_61 (by first | exact ⟨ad3, ar3, by rw [hT, hD]; show _ = some (Value.ref (ad3 (remB w tk key (h + 1) (edt tk u t).2 (edt tk u t).1).1.1)); rw [hX, e36], by rw [hT]; exact GM, by rw [hT, hD]; exact r2⟩ | exact ⟨ad3, ar3, by rw [hT, hD]; rfl, by rw [hT]; exact GM, by rw [hT, hD]; exact r2.2 c (by rw [hc]; exact List.mem_cons_self)⟩)
    · have hn : (remB w tk key (h + 1) (edt tk u t).2 (edt tk u t).1).1.2.2.length = 1 := nI_inj (by omega) (by decide) c_47
      obtain ⟨c, hc⟩ := List.length_eq_one_iff.mp (show (kds (remB w tk key (h + 1) (edt tk u t).2 (edt tk u t).1).1).length = 1 from hn)
      have hD : dwn ⟨h + 1, (remB w tk key (h + 1) (edt tk u t).2 (edt tk u t).1).1⟩ = ⟨h, c⟩ := by
        show (match kds (remB w tk key (h + 1) (edt tk u t).2 (edt tk u t).1).1 with | [c] => (⟨h, c⟩ : Tz) | _ => ⟨h + 1, (remB w tk key (h + 1) (edt tk u t).2 (edt tk u t).1).1⟩) = _
        rw [hc]
      have nkK := r2.own.k
      rw [hc, hX, e36] at nkK
      first | refine a_aload K dX1_takeOut_50 rfl ?_ | refine a_aloadN K dX1_takeOut_50 rfl ?_
      refine a_iconst K dX1_takeOut_52 (v := 0) (by decide) ?_
      refine a_invV K (m_X4_kidAt (k := 0) nkK (by decide)) my_X4_kidAt ml_X1_33 im_X4_kidAt se_X4_kidAt (ci := 4) (by assumption) (by decide) ⟨_, _, rfl⟩ rfl (by omega) (by omega) (by omega) rfl (Nat.le_of_ble_eq_true rfl) dX1_takeOut_53 ?_
      intro r9 S9 hp9
      obtain ⟨rfl, hS9⟩ := hp9
      obtain rfl := hS9.symm
      refine a_goto K dX1_takeOut_56 (tgt := 61) (by decide) ?_
      exact a_aret K E (Or.inl ⟨_, rfl⟩) (Or.inr ⟨_, rfl⟩) (by omega) (by omega) dX1_takeOut_61 (by first | exact ⟨ad3, ar3, by rw [hT, hD]; show _ = some (Value.ref (ad3 (remB w tk key (h + 1) (edt tk u t).2 (edt tk u t).1).1.1)); rw [hX, e36], by rw [hT]; exact GM, by rw [hT, hD]; exact r2⟩ | exact ⟨ad3, ar3, by rw [hT, hD]; rfl, by rw [hT]; exact GM, by rw [hT, hD]; exact r2.2 c (by rw [hc]; exact List.mem_cons_self)⟩)
  · first | refine a_aload_n K dX1_takeOut_14 rfl ?_ | refine a_aload_nN K dX1_takeOut_14 rfl ?_
    exact a_aret K E (Or.inl ⟨_, rfl⟩) (Or.inr ⟨_, rfl⟩) (by omega) (by omega) dX1_takeOut_15 ⟨ad, ar, by rw [takT_y (z := ⟨(h + 1), t⟩) c_11], by rw [takT_y (z := ⟨(h + 1), t⟩) c_11]; exact GR.rf hA, by rw [takT_y (z := ⟨(h + 1), t⟩) c_11]; exact r⟩
theorem m_takeOut {w tk : Nat} {key : Int32} (hw3 : 3 ≤ w) (hw6 : w ≤ 6) {S : aw_S} {ad ar : Nat → Nat} {gw u h : Nat} {t : Tr h} (o : aw_is S gw 1) (hwd : sI S 64 gw = nI w) (hA : AD S ad ar u) (r : RepW S ad ar h t) (ok : okT (lea w) w h t) (hl : t.2.2.length ≤ w) (hm : 0 < h → 2 ≤ t.2.2.length) (hb : bdd u (ndl h t)) (ht : tk < 2147483648) (hh : h < 12) : aw_M yX1_takeOut cX1_takeOut 5 (some (FieldType.object "WideMap$Node")) (h + 6) (2 * ((takT w tk u key ⟨h, t⟩).2 - u)) (19 * ((takT w tk u key ⟨h, t⟩).2 - u)) [.ref gw, .ref (ad t.1), .int (nI tk), .int key] S (PTq S ad ar gw u tk (ndl h t) (takT w tk u key ⟨h, t⟩)) := by
  cases h with
  | zero => exact m_takeOut_l (h := 0) hw3 hw6 o hwd hA r ok hl hm hb ht hh
  | succ h => exact m_takeOut_k hw3 hw6 o hwd hA r ok hl hm hb ht hh
