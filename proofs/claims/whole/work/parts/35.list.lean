set_option maxHeartbeats 4000000 in
set_option maxRecDepth 100000 in
theorem m_X2_append_w {S : aw_S} {a ka va n b : Nat} {k : Int32} (o : aw_is S a 2) (hk : sR S 128 a = some ka) (hv : sR S 129 a = some va) (ok : aw_is S ka 16) (ov : aw_is S va 13) (hN : sN S ka = 64) (hN2 : sN S va = 64) (hs : sI S 130 a = nI n) (hn : n < 64) (ob : aw_is S b 4) : aw_M yX2_append cX2_append 3 (none : Option FieldType) 0 0 0 [.ref a, .ref b, .int k] S (fun r S2 => r = none ∧ S2 = wI (wA (wQ S ka n (some b)) va n k) 130 a (nI (n + 1))) := by
  refine aw_enter (by decide +kernel) (Nat.le_of_ble_eq_true rfl) (fun g K EE => ?_)
  first | refine a_aload_n K dX2_append_0 rfl ?_ | refine a_aload_nN K dX2_append_0 rfl ?_
  refine a_getI K fd_X2_21 (by assumption) (Or.inl rfl) dX2_append_1 ?_
  first | refine a_aload_n K dX2_append_4 rfl ?_ | refine a_aload_nN K dX2_append_4 rfl ?_
  refine a_getRs K fd_X2_11 (by assumption) (Or.inr ⟨_, rfl⟩) (by assumption) dX2_append_5 ?_
  refine a_alen K (v := 64) (by assumption) (by decide) (by decide) (by first | (rw [hN]; rfl) | (rw [hN2]; rfl)) dX2_append_8 ?_
  refine a_icmp_ge K dX2_append_9 (tgt := 54) (by decide) (fun c_9 => absurd c_9 (by rw [hs]; exact nI_ge (b := 64) hn (by omega))) (fun c_9 => ?_)
  first | refine a_aload_n K dX2_append_12 rfl ?_ | refine a_aload_nN K dX2_append_12 rfl ?_
  refine a_getI K fd_X2_21 (by assumption) (Or.inl rfl) dX2_append_13 ?_
  first | refine a_aload_n K dX2_append_16 rfl ?_ | refine a_aload_nN K dX2_append_16 rfl ?_
  refine a_getRs K fd_X2_17 (by assumption) (Or.inr ⟨_, rfl⟩) (by assumption) dX2_append_17 ?_
  refine a_alen K (v := 64) (by assumption) (by decide) (by decide) (by first | (rw [hN]; rfl) | (rw [hN2]; rfl)) dX2_append_20 ?_
  refine a_icmp_ge K dX2_append_21 (tgt := 54) (by decide) (fun c_21 => absurd c_21 (by rw [hs]; exact nI_ge (b := 64) hn (by omega))) (fun c_21 => ?_)
  first | refine a_aload_n K dX2_append_24 rfl ?_ | refine a_aload_nN K dX2_append_24 rfl ?_
  refine a_getRs K fd_X2_11 (by assumption) (Or.inr ⟨_, rfl⟩) (by assumption) dX2_append_25 ?_
  first | refine a_aload_n K dX2_append_28 rfl ?_ | refine a_aload_nN K dX2_append_28 rfl ?_
  refine a_getI K fd_X2_21 (by assumption) (Or.inl rfl) dX2_append_29 ?_
  first | refine a_aload_n K dX2_append_32 rfl ?_ | refine a_aload_nN K dX2_append_32 rfl ?_
  rw [hs]
  refine a_aastN K (by assumption) (by assumption) (by rw [hN]; exact vp_in_nI (by omega) (by omega)) dX2_append_33 ?_
  first | refine a_aload_n K dX2_append_34 rfl ?_ | refine a_aload_nN K dX2_append_34 rfl ?_
  refine a_getRs K fd_X2_17 (by assumption) (Or.inr ⟨_, rfl⟩) (by assumption) dX2_append_35 ?_
  first | refine a_aload_n K dX2_append_38 rfl ?_ | refine a_aload_nN K dX2_append_38 rfl ?_
  refine a_getI K fd_X2_21 (by assumption) (Or.inl rfl) dX2_append_39 ?_
  refine a_iload_n K dX2_append_42 rfl ?_
  rw [show sI (wQ S ka (nI n).toNatClampNeg (some b)) 130 a = nI n from hs]
  refine a_iast K (by assumption) (by show vp_in _ (sN S va); rw [hN2]; exact vp_in_nI (by omega) (by omega)) dX2_append_43 ?_
  first | refine a_aload_n K dX2_append_44 rfl ?_ | refine a_aload_nN K dX2_append_44 rfl ?_
  refine a_dup K dX2_append_45 rfl ?_
  refine a_getI K fd_X2_21 (by assumption) (Or.inl rfl) dX2_append_46 ?_
  refine a_iconst K dX2_append_49 (v := 1) (by decide) ?_
  rw [show sI (wA (wQ S ka (nI n).toNatClampNeg (some b)) va (nI n).toNatClampNeg k) 130 a = nI n from hs]
  refine a_iadd K dX2_append_50 ?_
  rw [nI_1]
  refine a_putI K fd_X2_21 (by assumption) rfl dX2_append_51 ?_
  exact a_vret K EE (by omega) (by omega) dX2_append_54 ⟨rfl, by rw [nI_clamp (show n < 2 ^ 31 by omega)]⟩
/-- a listing at l: nodes na, depths da; H the height of what was listed -/
def LsW (S : aw_S) (ad : Nat → Nat) (l na da H : Nat) (L : List Tz) : Prop := aw_is S l 2 ∧ sR S 128 l = some na ∧ sR S 129 l = some da ∧ aw_is S na 16 ∧ aw_is S da 13 ∧ sN S na = 64 ∧ sN S da = 64 ∧ sI S 130 l = nI L.length ∧ L.length ≤ 64 ∧ ∀ i z, L[i]? = some z → sQ S na i = some (ad z.2.1) ∧ sA S da i = nI (H - z.1) ∧ aw_is S (ad z.2.1) 4
def Qls (l na da b : Nat) : Prop := b = l ∨ b = na ∨ b = da
theorem LsW.fr {S S2 : aw_S} {P : Nat → Prop} {ad : Nat → Nat} {l na da H : Nat} {L : List Tz} (h : LsW S ad l na da H L) (f : fr S S2 P) (n1 : ¬ P l) (n2 : ¬ P na) (n3 : ¬ P da) : LsW S2 ad l na da H L := by
  obtain ⟨h1, h2, h3, h4, h5, h6, h7, h9, h10, h11⟩ := h
  obtain ⟨⟨a1, a2, a3, a4, -⟩, a8⟩ := f l h1.1
  obtain ⟨⟨b1, b2, b3, b4, -⟩, b8⟩ := f na h4.1
  obtain ⟨⟨c1, c2, c3, c4, -⟩, c8⟩ := f da h5.1
  exact ⟨f.is h1, (a4 _).trans h2, (a4 _).trans h3, f.is h4, f.is h5, b3.trans h6, c3.trans h7, ((a8 n1).1 _).trans h9, h10, fun i x hx => by
    rw [(b8 n2).2.2, (c8 n3).2.1]
    obtain ⟨e1, e2, e3⟩ := h11 i x hx
    exact ⟨e1, e2, f.is e3⟩⟩
/-- all nodes of a tree, as they are shown -/
def sub : (h : Nat) → Tr h → List Tz
  | 0, t => [⟨0, t⟩]
  | h + 1, t => ⟨h + 1, t⟩ :: (kds t).flatMap (sub h)
theorem sub_ndl : ∀ (h : Nat) (t : Tr h), (sub h t).map (fun z => (z.2.1, z.2.2.1)) = ndl h t
  | 0, _ => rfl
  | h + 1, t => by
    show (_ :: ((kds t).flatMap (sub h)).map (fun z : Tz => (z.2.1, z.2.2.1))) = _ :: (kds t).flatMap (ndl h)
    rw [List.map_flatMap]
    congr 2
    funext c
    exact sub_ndl h c
theorem sub_len (h : Nat) (t : Tr h) : (sub h t).length = (ndl h t).length := by rw [← sub_ndl, List.length_map]
theorem sub_top (h : Nat) (t : Tr h) : sub h t = ⟨h, t⟩ :: (sub h t).tail := by cases h <;> rfl
theorem m_LsW_append {S : aw_S} {ad : Nat → Nat} {l na da H dep : Nat} {L : List Tz} {z : Tz} (h : LsW S ad l na da H L) (hn : L.length < 64) (hz : aw_is S (ad z.2.1) 4) (hd : dep = H - z.1) : aw_M yX2_append cX2_append 3 (none : Option FieldType) 0 0 0 [.ref l, .ref (ad z.2.1), .int (nI dep)] S (fun r2 S2 => r2 = none ∧ LsW S2 ad l na da H (L ++ [z]) ∧ frS S S2 (Qls l na da)) := by
  obtain ⟨h1, h2, h3, h4, h5, h6, h7, h9, h10, h11⟩ := h
  have hne : na ≠ da := ne_of_kind h4 h5 (by decide)
  refine (m_X2_append_w (a := l) (ka := na) (va := da) (n := L.length) (b := ad z.2.1) (k := nI dep) h1 h2 h3 h4 h5 h6 h7 h9 hn hz).post (fun r2 S2 hp => ?_)
  obtain ⟨hr, rfl⟩ := hp
  refine ⟨hr, ⟨h1, h2, h3, h4, h5, h6, h7, ?_, by rw [List.length_append]; show L.length + 1 ≤ 64; omega, fun i x hx => ?_⟩, ((frS_wQ (S := S)).tr frS_wA (T := Qls l na da) (fun _ z => Or.inr (Or.inl z)) (fun _ z => Or.inr (Or.inr z))).tr (frS_wI (by decide)) (fun _ z => z) (fun _ z => Or.inl z)⟩
  · rw [wI_at, List.length_append]
    rfl
  · show sQ (wQ S na L.length _) na i = _ ∧ sA (wA (wQ S na L.length (some (ad z.2.1))) da L.length (nI dep)) da i = _ ∧ _
    rw [sA_wA, sQ_wQ]
    by_cases hi : i < L.length
    · rw [List.getElem?_append_left hi] at hx
      obtain ⟨e1, e2, e3⟩ := h11 i x hx
      rw [if_neg (by omega), if_neg (by omega)]
      exact ⟨e1, e2, e3⟩
    · rw [List.getElem?_append_right (by omega)] at hx
      have hi2 : i = L.length := by
        have h12 := (List.getElem?_eq_some_iff.mp hx).1
        simp at h12
        omega
      subst hi2
      rw [Nat.sub_self] at hx
      have hx2 : z = x := Option.some.inj hx
      subst hx2
      rw [if_pos ⟨rfl, rfl⟩, if_pos ⟨rfl, rfl⟩, hd]
      exact ⟨rfl, rfl, hz⟩
set_option maxHeartbeats 4000000 in
set_option maxRecDepth 100000 in
theorem m_X2_list {l na da H : Nat} {ad ar : Nat → Nat} : ∀ (h : Nat) {S : aw_S} {t : Tr h} {dep : Nat} {L : List Tz} (_ : LsW S ad l na da H L) (_ : RepW S ad ar h t) (_ : dep + h = H) (_ : H < 12) (_ : ∀ x ∈ ndl h t, ¬ Qls l na da (ad x.1) ∧ ¬ Qls l na da (ar x.1)) (_ : L.length + (sub h t).length ≤ 64), aw_M yX2_list cX2_list 4 (none : Option FieldType) (h + 1) 0 0 [.ref l, .ref (ad t.1), .int (nI dep)] S (fun r2 S2 => r2 = none ∧ LsW S2 ad l na da H (L ++ sub h t) ∧ frS S S2 (Qls l na da)) := by
  intro h
  induction h with
  | zero =>
    intro S t dep L hL r hd hH hq hl
    have oL := hL.1
    refine aw_enter (by decide +kernel) (Nat.le_of_ble_eq_true rfl) (fun g K E => ?_)
    first | refine a_aload_n K dX2_list_0 rfl ?_ | refine a_aload_nN K dX2_list_0 rfl ?_
    refine a_ifnull K dX2_list_1 ?_
    refine a_iload_n K dX2_list_4 rfl ?_
    refine a_bipush K dX2_list_5 (v := 12) (by decide) ?_
    refine a_icmp_lt K dX2_list_7 (tgt := 11) (by decide) (fun c_7 => ?_) (fun c_7 => absurd c_7 (fun z => z (nI_lt (b := 12) (by omega) (by omega))))
    first | refine a_aload_n K dX2_list_11 rfl ?_ | refine a_aload_nN K dX2_list_11 rfl ?_
    first | refine a_aload_n K dX2_list_12 rfl ?_ | refine a_aload_nN K dX2_list_12 rfl ?_
    refine a_iload_n K dX2_list_13 rfl ?_
    refine a_invV K (m_LsW_append (z := ⟨0, t⟩) hL (by have h1 : 1 = (sub 0 t).length := rfl; omega) r.is (by show dep = H - 0; omega)) my_X2_append ml_X2_29 im_X2_append se_X2_append (ci := 2) (by assumption) (by decide) ⟨_, _, rfl⟩ rfl (by omega) (by omega) (by omega) rfl (Nat.le_of_ble_eq_true rfl) dX2_list_14 ?_
    intro r9 S1 hp9
    obtain ⟨rfl, hL1, f1⟩ := hp9
    have r1 := NL.frq r f1 hq
    have o1 := r1.is
    first | refine a_aload_n K dX2_list_17 rfl ?_ | refine a_aload_nN K dX2_list_17 rfl ?_
    refine a_invV K (m_X4_isLeaf_y o1 r1.own.l.hE) my_X4_isLeaf ml_X2_33 im_X4_isLeaf se_X4_isLeaf (ci := 4) (by assumption) (by decide) ⟨_, _, rfl⟩ rfl (by omega) (by omega) (by omega) rfl (Nat.le_of_ble_eq_true rfl) dX2_list_18 ?_
    intro r9 S9 hp9
    obtain ⟨hS9, rfl⟩ := hp9
    obtain rfl := hS9.symm
    refine a_if_eq K dX2_list_21 (tgt := 25) (by decide) (fun c_21 => absurd c_21 (by decide)) (fun c_21 => ?_)
    exact a_vret K E (by omega) (by omega) dX2_list_24 ⟨rfl, hL1, f1⟩
  | succ h ih =>
    intro S t dep L hL r hd hH hq hl
    have oL := hL.1
    have h7 := kds_le7 r.own
    have hl : L.length + (((kds t).flatMap (sub h)).length + 1) ≤ 64 := hl
    refine aw_enter (by decide +kernel) (Nat.le_of_ble_eq_true rfl) (fun g K E => ?_)
    have loop : ∀ (i j : Nat) (x : Int32) (T : aw_S), x = nI j → j + i = (kds t).length → LsW T ad l na da H (L ++ (⟨h + 1, t⟩ :: ((kds t).take j).flatMap (sub h))) → frS S T (Qls l na da) → aw g 4 T 0 0 [(3, .int x), (2, .int (nI dep)), (1, .ref (ad t.1)), (0, .ref l)] [] 27 := by
      intro i
      induction i with
      | zero =>
        intro j x T hx hi hR fT
        subst hx
        have hT := NL.frq r fT hq
        have oT := hT.is
        have oR := hR.1
        have hs : sI T 259 (ad t.1) = nI (kds t).length := hT.own.sz
        refine a_iload_n K dX2_list_27 rfl ?_
        first | refine a_aload_n K dX2_list_28 rfl ?_ | refine a_aload_nN K dX2_list_28 rfl ?_
        refine a_invV K (m_X4_size oT) my_X4_size ml_X2_37 im_X4_size se_X4_size (ci := 4) (by assumption) (by decide) ⟨_, _, rfl⟩ rfl (by omega) (by omega) (by omega) rfl (Nat.le_of_ble_eq_true rfl) dX2_list_29 ?_
        intro r9 S9 hp9
        obtain ⟨rfl, hS9⟩ := hp9
        obtain rfl := hS9.symm
        refine a_icmp_ge K dX2_list_32 (tgt := 53) (by decide) (fun c_32 => ?_) (fun c_32 => absurd c_32 (by rw [hs]; exact fun z => z (nI_le (by omega) (by omega))))
        exact a_vret K E (by omega) (by omega) dX2_list_53 ⟨rfl, by rw [show j = (kds t).length by omega, List.take_length] at hR; exact hR, fT⟩
      | succ i ihl =>
        intro j x T hx hi hR fT
        subst hx
        have hT := NL.frq r fT hq
        have oT := hT.is
        have oR := hR.1
        have hs : sI T 259 (ad t.1) = nI (kds t).length := hT.own.sz
        refine a_iload_n K dX2_list_27 rfl ?_
        first | refine a_aload_n K dX2_list_28 rfl ?_ | refine a_aload_nN K dX2_list_28 rfl ?_
        refine a_invV K (m_X4_size oT) my_X4_size ml_X2_37 im_X4_size se_X4_size (ci := 4) (by assumption) (by decide) ⟨_, _, rfl⟩ rfl (by omega) (by omega) (by omega) rfl (Nat.le_of_ble_eq_true rfl) dX2_list_29 ?_
        intro r9 S9 hp9
        obtain ⟨rfl, hS9⟩ := hp9
        obtain rfl := hS9.symm
        refine a_icmp_ge K dX2_list_32 (tgt := 53) (by decide) (fun c_32 => absurd c_32 (by rw [hs]; exact nI_ge (show j < (kds t).length by omega) (by omega))) (fun c_32 => ?_)
        first | refine a_aload_n K dX2_list_35 rfl ?_ | refine a_aload_nN K dX2_list_35 rfl ?_
        first | refine a_aload_n K dX2_list_36 rfl ?_ | refine a_aload_nN K dX2_list_36 rfl ?_
        refine a_iload_n K dX2_list_37 rfl ?_
        refine a_invV K (m_X4_kidAt (k := j) hT.own.k (by omega)) my_X4_kidAt ml_X2_40 im_X4_kidAt se_X4_kidAt (ci := 4) (by assumption) (by decide) ⟨_, _, rfl⟩ rfl (by omega) (by omega) (by omega) rfl (Nat.le_of_ble_eq_true rfl) dX2_list_38 ?_
        intro r9 S9 hp9
        obtain ⟨rfl, hS9⟩ := hp9
        obtain rfl := hS9.symm
        have hj : j < (kds t).length := by omega
        rw [List.getElem?_map, List.getElem?_eq_getElem hj]
        refine a_iload_n K dX2_list_41 rfl ?_
        refine a_iconst K dX2_list_42 (v := 1) (by decide) ?_
        refine a_iadd K dX2_list_43 ?_
        rw [nI_1]
        refine a_invS K (ih (t := (kds t)[j]) (dep := dep + 1) (L := L ++ (⟨h + 1, t⟩ :: ((kds t).take j).flatMap (sub h))) hR (hT.2 _ (List.getElem_mem hj)) (by omega) (by omega) (fun x hx => hq x (mem_kd (List.getElem_mem hj) hx)) (by have h1 := fm_len (sub h) (kds t) hj; rw [List.length_append, List.length_cons]; omega)) my_X2_list ml_X2_25 st_X2_list rfl (by omega) (by omega) (by omega) rfl (Nat.le_of_ble_eq_true rfl) dX2_list_44 ?_
        intro r9 T2 hp9
        obtain ⟨rfl, hR2, f2⟩ := hp9
        rw [List.append_assoc, List.cons_append, ← fm_take (sub h) (kds t) hj] at hR2
        refine a_iinc K dX2_list_47 (v := 1) rfl (by decide) (by decide) ?_
        refine a_goto K dX2_list_50 (tgt := 27) (by decide) ?_
        exact aw_locl rfl (ihl (j + 1) _ T2 (nI_1 j) (by omega) hR2 (fT.tr f2 (fun _ z => z) (fun _ z => z)))
    first | refine a_aload_n K dX2_list_0 rfl ?_ | refine a_aload_nN K dX2_list_0 rfl ?_
    refine a_ifnull K dX2_list_1 ?_
    refine a_iload_n K dX2_list_4 rfl ?_
    refine a_bipush K dX2_list_5 (v := 12) (by decide) ?_
    refine a_icmp_lt K dX2_list_7 (tgt := 11) (by decide) (fun c_7 => ?_) (fun c_7 => absurd c_7 (fun z => z (nI_lt (b := 12) (by omega) (by omega))))
    first | refine a_aload_n K dX2_list_11 rfl ?_ | refine a_aload_nN K dX2_list_11 rfl ?_
    first | refine a_aload_n K dX2_list_12 rfl ?_ | refine a_aload_nN K dX2_list_12 rfl ?_
    refine a_iload_n K dX2_list_13 rfl ?_
    refine a_invV K (m_LsW_append (z := ⟨h + 1, t⟩) hL (by have h1 : (sub (h + 1) t).length = ((kds t).flatMap (sub h)).length + 1 := rfl; omega) r.is (by show dep = H - (h + 1); omega)) my_X2_append ml_X2_29 im_X2_append se_X2_append (ci := 2) (by assumption) (by decide) ⟨_, _, rfl⟩ rfl (by omega) (by omega) (by omega) rfl (Nat.le_of_ble_eq_true rfl) dX2_list_14 ?_
    intro r9 S1 hp9
    obtain ⟨rfl, hL1, f1⟩ := hp9
    have r1 := NL.frq r f1 hq
    have o1 := r1.is
    first | refine a_aload_n K dX2_list_17 rfl ?_ | refine a_aload_nN K dX2_list_17 rfl ?_
    refine a_invV K (m_X4_isLeaf_n o1 r1.own.k.hE0) my_X4_isLeaf ml_X2_33 im_X4_isLeaf se_X4_isLeaf (ci := 4) (by assumption) (by decide) ⟨_, _, rfl⟩ rfl (by omega) (by omega) (by omega) rfl (Nat.le_of_ble_eq_true rfl) dX2_list_18 ?_
    intro r9 S9 hp9
    obtain ⟨hS9, rfl⟩ := hp9
    obtain rfl := hS9.symm
    refine a_if_eq K dX2_list_21 (tgt := 25) (by decide) (fun c_21 => ?_) (fun c_21 => absurd c_21 (by decide))
    refine a_iconst K dX2_list_25 (v := 0) (by decide) ?_
    refine a_istore_n K dX2_list_26 (by decide) ?_
    exact aw_locl rfl (loop (kds t).length 0 0 _ nI_0.symm (by omega) hL1 f1)
/-- a listing's shape -/
def LsS (S : aw_S) (l na da : Nat) : Prop := aw_is S l 2 ∧ sR S 128 l = some na ∧ sR S 129 l = some da ∧ aw_is S na 16 ∧ aw_is S da 13 ∧ sN S na = 64 ∧ sN S da = 64
theorem LsS.clear {S : aw_S} {ad2 : Nat → Nat} {l na da H2 : Nat} (h : LsS S l na da) : LsW (wI S 130 l 0) ad2 l na da H2 [] ∧ frS S (wI S 130 l 0) (Qls l na da) := by
  obtain ⟨h1, h2, h3, h4, h5, h6, h7⟩ := h
  exact ⟨⟨h1, h2, h3, h4, h5, h6, h7, wI_at, Nat.zero_le _, fun i x hx => absurd hx (by simp)⟩, (frS_wI (by decide)).mono (fun _ z => Or.inl z)⟩
set_option maxHeartbeats 4000000 in
set_option maxRecDepth 100000 in
theorem m_Ls_fill {S : aw_S} {ad ar : Nat → Nat} {l na da h : Nat} {t : Tr h} (hL : LsS S l na da) (r : RepW S ad ar h t) (hh : h < 12) (hq : ∀ x ∈ ndl h t, ¬ Qls l na da (ad x.1) ∧ ¬ Qls l na da (ar x.1)) (hl : (sub h t).length ≤ 64) : aw_M yX2_fill cX2_fill 2 (none : Option FieldType) (h + 2) 0 0 [.ref l, .ref (ad t.1)] S (fun r2 S2 => r2 = none ∧ LsW S2 ad l na da h (sub h t) ∧ frS S S2 (Qls l na da)) := by
  have oL := hL.1
  obtain ⟨hL1, f1⟩ := LsS.clear (ad2 := ad) (H2 := h) hL
  have r1 := NL.frq r f1 hq
  refine aw_enter (by decide +kernel) (Nat.le_of_ble_eq_true rfl) (fun g K EE => ?_)
  first | refine a_aload_n K dX2_fill_0 rfl ?_ | refine a_aload_nN K dX2_fill_0 rfl ?_
  refine a_iconst K dX2_fill_1 (v := 0) (by decide) ?_
  refine a_putI K fd_X2_21 (by assumption) rfl dX2_fill_2 ?_
  first | refine a_aload_n K dX2_fill_5 rfl ?_ | refine a_aload_nN K dX2_fill_5 rfl ?_
  first | refine a_aload_n K dX2_fill_6 rfl ?_ | refine a_aload_nN K dX2_fill_6 rfl ?_
  refine a_iconst K dX2_fill_7 (v := 0) (by decide) ?_
  refine a_invS K (m_X2_list h (dep := 0) hL1 r1 (by omega) hh hq (by rw [List.length_nil]; omega)) my_X2_list ml_X2_25 st_X2_list rfl (by omega) (by omega) (by omega) rfl (Nat.le_of_ble_eq_true rfl) dX2_fill_8 ?_
  intro r9 S9 hp9
  obtain ⟨rfl, hL2, f2⟩ := hp9
  rw [List.nil_append] at hL2
  exact a_vret K EE (by omega) (by omega) dX2_fill_11 ⟨rfl, hL2, f1.tr f2 (fun _ z => z) (fun _ z => z)⟩
theorem m_Ls_fill_null {S : aw_S} {ad : Nat → Nat} {l na da H2 : Nat} (hL : LsS S l na da) : aw_M yX2_fill cX2_fill 2 (none : Option FieldType) 1 0 0 [.ref l, .null] S (fun r2 S2 => r2 = none ∧ LsW S2 ad l na da H2 [] ∧ frS S S2 (Qls l na da)) := by
  obtain ⟨hL1, f1⟩ := LsS.clear (ad2 := ad) (H2 := H2) hL
  have m := m_X2_fill_null hL.1
  refine aw_M.post m (fun r2 S2 hp => ?_)
  obtain ⟨hr, rfl⟩ := hp
  exact ⟨hr, hL1, f1⟩
