theorem nd_own {u h : Nat} {t : Tr h} (hb : bdd u (ndl h t)) : ∀ x ∈ blw h t.2.2, x.1 ≠ t.1 := fun x hx z => by
  have h2 := hb.2
  rw [ndl_L, List.map_cons] at h2
  exact (List.nodup_cons.mp h2).1 (List.mem_map.mpr ⟨x, hx, z⟩)
theorem blw_take {h q : Nat} {l : List (Ct h)} {x : Nat × Nat} (hx : x ∈ blw h (l.take q)) : x ∈ blw h l := by
  rw [← List.take_append_drop q l, blw_app]
  exact List.mem_append_left _ hx
theorem blw_drop {h q : Nat} {l : List (Ct h)} {x : Nat × Nat} (hx : x ∈ blw h (l.drop q)) : x ∈ blw h l := by
  rw [← List.take_append_drop q l, blw_app]
  exact List.mem_append_right _ hx
theorem RepL_take {S : aw_S} {ad ar : Nat → Nat} {h : Nat} (q : Nat) {l : List (Ct h)} (r : RepL S ad ar h l) : RepL S ad ar h (l.take q) ∧ RepL S ad ar h (l.drop q) := by
  rw [← List.take_append_drop q l] at r
  exact RepL_app.mp r
theorem pt_ret {S S9 S10 : aw_S} {ad ar : Nat → Nat} {gw u h tk q q1 q2 : Nat} {t : Tr h} (o : aw_is S gw 1) (hA : AD S ad ar u) (r : RepW S ad ar h t) (hb : bdd u (ndl h t)) (ht : tk < 2147483648) (hk : t.2.1 = tk) (m : mkN S S9 gw q1 q2 (lfB h) [] (nI tk)) (n1 : NL S10 q1 (lfB h) q2 ([] ++ (t.2.2.map (rawC ad h)).drop q)) (n2 : NL S10 (ad t.1) (lfB h) (ar t.1) ((t.2.2.map (rawC ad h)).take q)) (f : frS S9 S10 (fun b => b = q1 ∨ b = q2 ∨ b = ad t.1 ∨ b = ar t.1)) : ∃ ad2 ar2, some (Value.ref q1) = some (.ref (ad2 u)) ∧ GR S S10 ad ar ad2 ar2 u (u + 1) gw tk [(t.1, t.2.1)] ∧ RepW S10 ad2 ar2 h (t.1, t.2.1, t.2.2.take q) ∧ RepW S10 ad2 ar2 h (u, tk, t.2.2.drop q) := by
  have hu : t.1 < u := hb.1 _ (mem_own t)
  have G1 := m.gr (tk := tk) hA [(t.1, t.2.1)]
  have o9 := G1.is o
  have e1 := (G1.2.1 t.1 hu).1
  have e2 := (G1.2.1 t.1 hu).2
  have e3 : va_up ad u q1 u = q1 := va_up_self _ _ _
  have e4 : va_up ar u q2 u = q2 := va_up_self _ _ _
  have G2 : GR S9 S10 (va_up ad u q1) (va_up ar u q2) (va_up ad u q1) (va_up ar u q2) (u + 1) (u + 1) gw tk [(t.1, t.2.1), (u, tk)] := f.gr G1.2.2.1 o9 (fun x hx => by
      rcases List.mem_cons.mp hx with rfl | hx
      · exact Nat.lt_succ_of_lt hu
      · rw [List.mem_singleton.mp hx]; exact Nat.lt_succ_self u) (fun b hb2 => by
      rcases hb2 with rfl | rfl | rfl | rfl
      · exact ⟨(u, tk), List.mem_cons_of_mem _ List.mem_cons_self, rfl, Or.inl e3.symm⟩
      · exact ⟨(u, tk), List.mem_cons_of_mem _ List.mem_cons_self, rfl, Or.inr e4.symm⟩
      · exact ⟨_, List.mem_cons_self, hk, Or.inl e1.symm⟩
      · exact ⟨_, List.mem_cons_self, hk, Or.inr e2.symm⟩)
  have G := G1.tr G2 (fun x hx _ => by
      rcases List.mem_cons.mp hx with rfl | hx
      · exact Or.inl ⟨List.mem_cons_self, hu⟩
      · rw [List.mem_singleton.mp hx]; exact Or.inr ⟨Nat.le_refl _, Nat.lt_succ_self u⟩)
  have rk : RepL S10 (va_up ad u q1) (va_up ar u q2) h t.2.2 := RepL.gr hA o G (RepW_L.mp r).2 (fun x hx => ⟨hb.1 x (mem_blw hx), fun y hy _ => by
    rw [List.mem_singleton.mp hy]
    exact ⟨hu, fun z => nd_own hb x hx z.symm⟩⟩)
  have cg : ∀ x ∈ blw h t.2.2, va_up ad u q1 x.1 = ad x.1 := fun x hx => (G1.2.1 x.1 (hb.1 x (mem_blw hx))).1
  refine ⟨va_up ad u q1, va_up ar u q2, by rw [e3], G, RepW_L.mpr ⟨⟨⟨?_, r.own.1.2⟩, ?_⟩, (RepL_take q rk).1⟩, RepW_L.mpr ⟨⟨⟨?_, ht⟩, ?_⟩, (RepL_take q rk).2⟩⟩
  · show sI S10 256 (va_up ad u q1 t.1) = _
    rw [f.2.2.2.2.2.2.1 _ 256 (Or.inr rfl), e1, (m.2.2.2.2.2.2.1 _ r.own.2.1.1.1).1.2.2.2.2.2.2 256 (Or.inr rfl)]
    exact r.own.1.1
  · show NL S10 (va_up ad u q1 t.1) (lfB h) (va_up ar u q2 t.1) ((t.2.2.take q).map (rawC (va_up ad u q1) h))
    rw [e1, e2, rawC_cg (ad := ad) (fun x hx => cg x (blw_take hx)), List.map_take]
    exact n2
  · show sI S10 256 (va_up ad u q1 u) = _
    rw [e3, f.2.2.2.2.2.2.1 _ 256 (Or.inr rfl)]
    exact m.2.2.2.2.1
  · show NL S10 (va_up ad u q1 u) (lfB h) (va_up ar u q2 u) ((t.2.2.drop q).map (rawC (va_up ad u q1) h))
    rw [e3, e4, rawC_cg (ad := ad) (fun x hx => cg x (blw_drop hx)), List.map_drop]
    rw [List.nil_append] at n1
    exact n1
set_option maxHeartbeats 4000000 in
set_option maxRecDepth 100000 in
theorem m_parted_l {S : aw_S} {ad ar : Nat → Nat} {gw u h tk w : Nat} {t : Tr 0} (o : aw_is S gw 1) (hwd : sI S 64 gw = nI w) (hA : AD S ad ar u) (r : RepW S ad ar 0 t) (hb : bdd u (ndl 0 t)) (ht : tk < 2147483648) (hk : t.2.1 = tk) (hw : w < t.2.2.length) (hw3 : 3 ≤ w) : aw_M yX1_parted cX1_parted 4 (some (FieldType.object "WideMap$Node")) 3 2 19 [.ref gw, .ref (ad t.1), .int (nI tk)] S (fun r S2 => ∃ ad2 ar2, r = some (.ref (ad2 u)) ∧ GR S S2 ad ar ad2 ar2 u (u + 1) gw tk [(t.1, t.2.1)] ∧ RepW S2 ad2 ar2 0 (t.1, t.2.1, t.2.2.take (t.2.2.length - lea w)) ∧ RepW S2 ad2 ar2 0 (u, tk, t.2.2.drop (t.2.2.length - lea w))) := by
  have oT := r.is
  have h7 := r.own.le7
  have hle : lea w ≤ w := by unfold lea; omega
  refine aw_enter (by decide +kernel) (Nat.le_of_ble_eq_true rfl) (fun g K E => ?_)
  first | refine a_aload_n K dX1_parted_0 rfl ?_ | refine a_aload_nN K dX1_parted_0 rfl ?_
  first | refine a_aload_n K dX1_parted_1 rfl ?_ | refine a_aload_nN K dX1_parted_1 rfl ?_
  refine a_invV K (m_X4_isLeaf_y oT r.own.l.hE) my_X4_isLeaf ml_X1_60 im_X4_isLeaf se_X4_isLeaf (ci := 4) (by assumption) (by decide) ⟨_, _, rfl⟩ rfl (by omega) (by omega) (by omega) rfl (Nat.le_of_ble_eq_true rfl) dX1_parted_2 ?_
  intro r9 S9 hp9
  obtain ⟨hS9, rfl⟩ := hp9
  obtain rfl := hS9.symm
  refine a_iload_n K dX1_parted_5 rfl ?_
  refine a_invV K (m_X1_newNode_l o) my_X1_newNode ml_X1_53 im_X1_newNode se_X1_newNode (ci := 1) (by assumption) (by decide) ⟨_, _, rfl⟩ rfl (by omega) (by omega) (by omega) rfl (Nat.le_of_ble_eq_true rfl) dX1_parted_6 ?_
  intro r9 S9 hp9
  obtain ⟨q1, q2, rfl, hm⟩ := hp9
  have o9 : aw_is S9 gw 1 := hm.2.2.2.2.2.2.1.is o
  have oq9 := hm.2.2.2.1.1.1
  have a1 := GP_no (g := gw) (tk := tk) (L := []) hA o (hb.1 _ (mem_own t)) (fun y hy => absurd hy (by simp))
  have nl9 := NL_frn r.own.2 hm.2.2.2.2.2.2.1 (fun z => a1.1 (Or.inl z)) (fun z => a1.2 (Or.inl z))
  have hwd9 : sI S9 64 gw = nI w := by rw [hm.2.2.2.2.2.2.2.2.1]; exact hwd
  first | refine a_astore_n K dX1_parted_9 (by decide) ?_ | refine a_astore_nN K dX1_parted_9 (by decide) ?_
  first | refine a_aload_n K dX1_parted_10 rfl ?_ | refine a_aload_nN K dX1_parted_10 rfl ?_
  first | refine a_aload_n K dX1_parted_11 rfl ?_ | refine a_aload_nN K dX1_parted_11 rfl ?_
  first | refine a_aload_n K dX1_parted_12 rfl ?_ | refine a_aload_nN K dX1_parted_12 rfl ?_
  refine a_invV K (m_X1_least (w := w) o9 hwd9 (by omega)) my_X1_least ml_X1_82 im_X1_least se_X1_least (ci := 1) (by assumption) (by decide) ⟨_, _, rfl⟩ rfl (by omega) (by omega) (by omega) rfl (Nat.le_of_ble_eq_true rfl) dX1_parted_13 ?_
  intro r9 S9 hp9
  obtain ⟨rfl, hS9⟩ := hp9
  obtain rfl := hS9.symm
  refine a_invV K (m_X4_moveLast (n := lea w) (q := t.2.2.length - lea w) hm.2.2.2.1 nl9 (fun z => hm.1 (z ▸ oT.1)) (fun z => hm.2.1 (z ▸ (hA _ (hb.1 _ (mem_own t))).1.2.1)) (by show 0 + lea w ≤ 7; omega) (by rw [List.length_map]; omega)) my_X4_moveLast ml_X1_85 im_X4_moveLast se_X4_moveLast (ci := 4) (by assumption) (by decide) ⟨_, _, rfl⟩ rfl (by omega) (by omega) (by omega) rfl (Nat.le_of_ble_eq_true rfl) dX1_parted_16 ?_
  intro r9 S10 hp9
  obtain ⟨rfl, n1, n2, f10⟩ := hp9
  first | refine a_aload_n K dX1_parted_19 rfl ?_ | refine a_aload_nN K dX1_parted_19 rfl ?_
  exact a_aret K E (Or.inl ⟨_, rfl⟩) (Or.inr ⟨_, rfl⟩) (by omega) (by omega) dX1_parted_20 (pt_ret o hA r hb ht hk hm n1 n2 f10)
set_option maxHeartbeats 4000000 in
set_option maxRecDepth 100000 in
theorem m_parted_k {S : aw_S} {ad ar : Nat → Nat} {gw u h tk w : Nat} {t : Tr (h + 1)} (o : aw_is S gw 1) (hwd : sI S 64 gw = nI w) (hA : AD S ad ar u) (r : RepW S ad ar (h + 1) t) (hb : bdd u (ndl (h + 1) t)) (ht : tk < 2147483648) (hk : t.2.1 = tk) (hw : w < t.2.2.length) (hw3 : 3 ≤ w) : aw_M yX1_parted cX1_parted 4 (some (FieldType.object "WideMap$Node")) 3 2 19 [.ref gw, .ref (ad t.1), .int (nI tk)] S (fun r S2 => ∃ ad2 ar2, r = some (.ref (ad2 u)) ∧ GR S S2 ad ar ad2 ar2 u (u + 1) gw tk [(t.1, t.2.1)] ∧ RepW S2 ad2 ar2 (h + 1) (t.1, t.2.1, t.2.2.take (t.2.2.length - lea w)) ∧ RepW S2 ad2 ar2 (h + 1) (u, tk, t.2.2.drop (t.2.2.length - lea w))) := by
  have oT := r.is
  have h7 := r.own.le7
  have hle : lea w ≤ w := by unfold lea; omega
  refine aw_enter (by decide +kernel) (Nat.le_of_ble_eq_true rfl) (fun g K E => ?_)
  first | refine a_aload_n K dX1_parted_0 rfl ?_ | refine a_aload_nN K dX1_parted_0 rfl ?_
  first | refine a_aload_n K dX1_parted_1 rfl ?_ | refine a_aload_nN K dX1_parted_1 rfl ?_
  refine a_invV K (m_X4_isLeaf_n oT r.own.k.hE0) my_X4_isLeaf ml_X1_60 im_X4_isLeaf se_X4_isLeaf (ci := 4) (by assumption) (by decide) ⟨_, _, rfl⟩ rfl (by omega) (by omega) (by omega) rfl (Nat.le_of_ble_eq_true rfl) dX1_parted_2 ?_
  intro r9 S9 hp9
  obtain ⟨hS9, rfl⟩ := hp9
  obtain rfl := hS9.symm
  refine a_iload_n K dX1_parted_5 rfl ?_
  refine a_invV K (m_X1_newNode_k o) my_X1_newNode ml_X1_53 im_X1_newNode se_X1_newNode (ci := 1) (by assumption) (by decide) ⟨_, _, rfl⟩ rfl (by omega) (by omega) (by omega) rfl (Nat.le_of_ble_eq_true rfl) dX1_parted_6 ?_
  intro r9 S9 hp9
  obtain ⟨q1, q2, rfl, hm⟩ := hp9
  have o9 : aw_is S9 gw 1 := hm.2.2.2.2.2.2.1.is o
  have oq9 := hm.2.2.2.1.1.1
  have a1 := GP_no (g := gw) (tk := tk) (L := []) hA o (hb.1 _ (mem_own t)) (fun y hy => absurd hy (by simp))
  have nl9 := NL_frn r.own.2 hm.2.2.2.2.2.2.1 (fun z => a1.1 (Or.inl z)) (fun z => a1.2 (Or.inl z))
  have hwd9 : sI S9 64 gw = nI w := by rw [hm.2.2.2.2.2.2.2.2.1]; exact hwd
  first | refine a_astore_n K dX1_parted_9 (by decide) ?_ | refine a_astore_nN K dX1_parted_9 (by decide) ?_
  first | refine a_aload_n K dX1_parted_10 rfl ?_ | refine a_aload_nN K dX1_parted_10 rfl ?_
  first | refine a_aload_n K dX1_parted_11 rfl ?_ | refine a_aload_nN K dX1_parted_11 rfl ?_
  first | refine a_aload_n K dX1_parted_12 rfl ?_ | refine a_aload_nN K dX1_parted_12 rfl ?_
  refine a_invV K (m_X1_least (w := w) o9 hwd9 (by omega)) my_X1_least ml_X1_82 im_X1_least se_X1_least (ci := 1) (by assumption) (by decide) ⟨_, _, rfl⟩ rfl (by omega) (by omega) (by omega) rfl (Nat.le_of_ble_eq_true rfl) dX1_parted_13 ?_
  intro r9 S9 hp9
  obtain ⟨rfl, hS9⟩ := hp9
  obtain rfl := hS9.symm
  refine a_invV K (m_X4_moveLast (n := lea w) (q := t.2.2.length - lea w) hm.2.2.2.1 nl9 (fun z => hm.1 (z ▸ oT.1)) (fun z => hm.2.1 (z ▸ (hA _ (hb.1 _ (mem_own t))).1.2.1)) (by show 0 + lea w ≤ 7; omega) (by rw [List.length_map]; omega)) my_X4_moveLast ml_X1_85 im_X4_moveLast se_X4_moveLast (ci := 4) (by assumption) (by decide) ⟨_, _, rfl⟩ rfl (by omega) (by omega) (by omega) rfl (Nat.le_of_ble_eq_true rfl) dX1_parted_16 ?_
  intro r9 S10 hp9
  obtain ⟨rfl, n1, n2, f10⟩ := hp9
  first | refine a_aload_n K dX1_parted_19 rfl ?_ | refine a_aload_nN K dX1_parted_19 rfl ?_
  exact a_aret K E (Or.inl ⟨_, rfl⟩) (Or.inr ⟨_, rfl⟩) (by omega) (by omega) dX1_parted_20 (pt_ret o hA r hb ht hk hm n1 n2 f10)
theorem m_parted {S : aw_S} {ad ar : Nat → Nat} {gw u h tk w : Nat} {t : Tr h} (o : aw_is S gw 1) (hwd : sI S 64 gw = nI w) (hA : AD S ad ar u) (r : RepW S ad ar h t) (hb : bdd u (ndl h t)) (ht : tk < 2147483648) (hk : t.2.1 = tk) (hw : w < t.2.2.length) (hw3 : 3 ≤ w) : aw_M yX1_parted cX1_parted 4 (some (FieldType.object "WideMap$Node")) 3 2 19 [.ref gw, .ref (ad t.1), .int (nI tk)] S (fun r S2 => ∃ ad2 ar2, r = some (.ref (ad2 u)) ∧ GR S S2 ad ar ad2 ar2 u (u + 1) gw tk [(t.1, t.2.1)] ∧ RepW S2 ad2 ar2 h (t.1, t.2.1, t.2.2.take (t.2.2.length - lea w)) ∧ RepW S2 ad2 ar2 h (u, tk, t.2.2.drop (t.2.2.length - lea w))) := by
  cases h with
  | zero => exact m_parted_l (h := 0) o hwd hA r hb ht hk hw hw3
  | succ h => exact m_parted_k o hwd hA r hb ht hk hw hw3
theorem spl_y {w tk u h : Nat} {t : Tr h} (hl : w < t.2.2.length) : spl w tk u t = ((t.1, t.2.1, t.2.2.take (t.2.2.length - lea w)), some (u, tk, t.2.2.drop (t.2.2.length - lea w)), u + 1) := if_pos hl
theorem spl_n {w tk u h : Nat} {t : Tr h} (hl : ¬ w < t.2.2.length) : spl w tk u t = (t, none, u) := if_neg hl
/-- what putBelow answers -/
def PBq (S : aw_S) (ad ar : Nat → Nat) (gw u h tk : Nat) (L : List (Nat × Nat)) (R : Tr h × Option (Tr h) × Nat) (r : Option Value) (S2 : aw_S) : Prop := ∃ ad2 ar2, r = some (va_rf (R.2.1.map (fun b => ad2 b.1))) ∧ GR S S2 ad ar ad2 ar2 u R.2.2 gw tk L ∧ RepW S2 ad2 ar2 h R.1 ∧ ∀ b, R.2.1 = some b → RepW S2 ad2 ar2 h b
set_option maxHeartbeats 4000000 in
set_option maxRecDepth 100000 in
theorem pb_tail {g : aw_G} {d mc ms : Nat} {post : Option Value → aw_S → Prop} (K : aw_K g yX1_putBelow cX1_putBelow 9 (some (FieldType.object "WideMap$Node")) d mc ms) (E : aw_end g mc ms post) {S : aw_S} {ad ar : Nat → Nat} {gw u h tk w k n : Nat} {T : Tr h} (hd : 4 ≤ d) (hmc : k + 2 * ((spl w tk u T).2.2 - u) ≤ mc ∧ n + 19 * ((spl w tk u T).2.2 - u) ≤ ms) (o : aw_is S gw 1) (hwd : sI S 64 gw = nI w) (hA : AD S ad ar u) (r : RepW S ad ar h T) (hb : bdd u (ndl h T)) (ht : tk < 2147483648) (hk : T.2.1 = tk) (hw3 : 3 ≤ w) (hw6 : w ≤ 6) {a : Nat} (ha : ad T.1 = a) (hpost : ∀ r2 S2, PBq S ad ar gw u h tk [(T.1, T.2.1)] (spl w tk u T) r2 S2 → post r2 S2) : aw g 9 S k n [(2, .int (nI tk)), (1, .ref a), (0, .ref gw)] [] 78 := by
  subst ha
  have oT := r.is
  have hsz := r.own.sz
  have h7 := r.own.le7
  first | refine a_aload_n K dX1_putBelow_78 rfl ?_ | refine a_aload_nN K dX1_putBelow_78 rfl ?_
  refine a_invV K (m_X4_size oT) my_X4_size ml_X1_76 im_X4_size se_X4_size (ci := 4) (by assumption) (by decide) ⟨_, _, rfl⟩ rfl (by omega) (by omega) (by omega) rfl (Nat.le_of_ble_eq_true rfl) dX1_putBelow_79 ?_
  intro r9 S9 hp9
  obtain ⟨rfl, hS9⟩ := hp9
  obtain rfl := hS9.symm
  first | refine a_aload_n K dX1_putBelow_82 rfl ?_ | refine a_aload_nN K dX1_putBelow_82 rfl ?_
  refine a_getI K fd_X1_9 (by assumption) (Or.inl rfl) dX1_putBelow_83 ?_
  refine a_icmp_le K dX1_putBelow_86 (tgt := 98) (by decide) (fun c_86 => ?_) (fun c_86 => ?_)
  · rw [hsz, hwd] at c_86
    have hn : ¬ w < T.2.2.length := Nat.not_lt.mpr ((nI_leI (by omega) (by omega)).mp c_86)
    rw [spl_n hn] at hmc hpost
    replace hmc : k + 2 * (u - u) ≤ mc ∧ n + 19 * (u - u) ≤ ms := hmc
    refine a_null K dX1_putBelow_98 ?_
    exact a_aret K E (Or.inl ⟨_, rfl⟩) (by first | exact Or.inl rfl | exact Or.inr ⟨_, rfl⟩) (by omega) (by omega) dX1_putBelow_99 (by first | exact hpost _ _ ⟨ad, ar, rfl, GR.rf hA, r, fun b hb2 => absurd hb2 (by simp)⟩ | exact hpost _ _ ⟨ad2, ar2, rfl, G1, r1, fun b hb2 => by cases hb2; exact r2⟩)
  · rw [hsz, hwd] at c_86
    have hn : w < T.2.2.length := Nat.lt_of_not_le (fun z => c_86 (nI_le z (by omega)))
    rw [spl_y hn] at hmc hpost
    replace hmc : k + 2 * (u + 1 - u) ≤ mc ∧ n + 19 * (u + 1 - u) ≤ ms := hmc
    first | refine a_aload_n K dX1_putBelow_89 rfl ?_ | refine a_aload_nN K dX1_putBelow_89 rfl ?_
    first | refine a_aload_n K dX1_putBelow_90 rfl ?_ | refine a_aload_nN K dX1_putBelow_90 rfl ?_
    refine a_iload_n K dX1_putBelow_91 rfl ?_
    refine a_invV K (m_parted o hwd hA r hb ht hk hn hw3) my_X1_parted ml_X1_79 im_X1_parted se_X1_parted (ci := 1) (by assumption) (by decide) ⟨_, _, rfl⟩ rfl (by omega) (by omega) (by omega) rfl (Nat.le_of_ble_eq_true rfl) dX1_putBelow_92 ?_
    intro r9 S9 hp9
    obtain ⟨ad2, ar2, rfl, G1, r1, r2⟩ := hp9
    refine a_goto K dX1_putBelow_95 (tgt := 99) (by decide) ?_
    exact a_aret K E (Or.inl ⟨_, rfl⟩) (by first | exact Or.inl rfl | exact Or.inr ⟨_, rfl⟩) (by omega) (by omega) dX1_putBelow_99 (by first | exact hpost _ _ ⟨ad, ar, rfl, GR.rf hA, r, fun b hb2 => absurd hb2 (by simp)⟩ | exact hpost _ _ ⟨ad2, ar2, rfl, G1, r1, fun b hb2 => by cases hb2; exact r2⟩)
theorem bdd.dis {u : Nat} {n : Nat × Nat} {PA M PB : List (Nat × Nat)} (b : bdd u (n :: (PA ++ (M ++ PB)))) {y : Nat × Nat} (hy : y ∈ M) : y.1 ≠ n.1 ∧ (∀ x ∈ PA, y.1 ≠ x.1) ∧ ∀ x ∈ PB, y.1 ≠ x.1 := by
  have h2 := b.2
  rw [List.map_cons, List.map_append, List.map_append] at h2
  obtain ⟨a1, a2⟩ := List.nodup_cons.mp h2
  obtain ⟨b1, b2, b3⟩ := List.nodup_append.mp a2
  obtain ⟨c1, c2, c3⟩ := List.nodup_append.mp b2
  have my := List.mem_map_of_mem (f := Prod.fst) hy
  exact ⟨fun z => a1 (z ▸ List.mem_append_right _ (List.mem_append_left _ my)), fun x hx z => b3 _ (List.mem_map_of_mem hx) _ (List.mem_append_left _ my) z.symm, fun x hx => c3 _ my _ (List.mem_map_of_mem hx)⟩
theorem bdd.hd {u : Nat} {n : Nat × Nat} {L : List (Nat × Nat)} (b : bdd u (n :: L)) {x : Nat × Nat} (hx : x ∈ L) : x.1 ≠ n.1 := fun z => by
  have h2 := b.2
  rw [List.map_cons] at h2
  exact (List.nodup_cons.mp h2).1 (List.mem_map.mpr ⟨x, hx, z⟩)
theorem kid_L {h : Nat} {id tk : Nat} (A : List (Tr h)) (X : List (Tr h)) (B : List (Tr h)) : ndl (h + 1) (nod id tk (A ++ (X ++ B))) = (id, tk) :: (A.flatMap (ndl h) ++ (X.flatMap (ndl h) ++ B.flatMap (ndl h))) := by
  rw [ndl_nod, List.flatMap_append, List.flatMap_append]
theorem edk_grw {h tk u p : Nat} {t : Tr (h + 1)} {c : Tr h} (hb : bdd u (ndl (h + 1) t)) (hc : (kds t)[p]? = some c) : grw u (edt tk u c).2 tk (ndl (h + 1) t) ((t.1, t.2.1) :: (((kds t).take p).flatMap (ndl h) ++ (ndl h (edt tk u c).1 ++ ((kds t).drop (p + 1)).flatMap (ndl h)))) := by
  have b := hb
  rw [ndl_kds (get_split hc)] at b ⊢
  exact grw.con _ b (grw.ctx _ _ b.tl (edt_grw b.tl.mid))
/-- one child has become another one, the same cell -/
theorem mid_rep {S S9 S10 : aw_S} {ad ar ad2 ar2 ad3 ar3 : Nat → Nat} {gw u u3 h tk p : Nat} {t : Tr (h + 1)} {c X : Tr h} (o : aw_is S gw 1) (hb : bdd u (ndl (h + 1) t)) (hc : (kds t)[p]? = some c) (G1 : GR S S9 ad ar ad2 ar2 u (edt tk u c).2 gw tk [(t.1, t.2.1)]) (r1 : RepW S9 ad2 ar2 (h + 1) (nod t.1 t.2.1 ((kds t).take p ++ (edt tk u c).1 :: (kds t).drop (p + 1)))) (hX : X.1 = (edt tk u c).1.1) (G2 : GR S9 S10 ad2 ar2 ad3 ar3 (edt tk u c).2 u3 gw tk (ndl h (edt tk u c).1)) (rX : RepW S10 ad3 ar3 h X) : RepW S10 ad3 ar3 (h + 1) (nod t.1 t.2.1 ((kds t).take p ++ X :: (kds t).drop (p + 1))) ∧ GR S S10 ad ar ad3 ar3 u u3 gw tk (ndl (h + 1) t) := by
  have gT := edk_grw (tk := tk) hb hc
  have b1 := gT.bd hb
  have o9 := G1.is o
  have hA9 := G1.2.2.1
  have hcm := List.mem_of_getElem? hc
  have hbc : bdd u (ndl h c) := by
    have b := hb
    rw [ndl_kds (get_split hc)] at b
    exact b.tl.mid
  have gc := edt_grw (tk := tk) hbc
  have ids : ∀ y ∈ ndl h (edt tk u c).1, y.1 < (edt tk u c).2 := fun y hy => (gc.bd hbc).1 y hy
  have inA : ∀ d ∈ (kds t).take p, ∀ x ∈ ndl h d, x ∈ ((kds t).take p).flatMap (ndl h) := fun d hd x hx => List.mem_flatMap.mpr ⟨d, hd, hx⟩
  have inB : ∀ d ∈ (kds t).drop (p + 1), ∀ x ∈ ndl h d, x ∈ ((kds t).drop (p + 1)).flatMap (ndl h) := fun d hd x hx => List.mem_flatMap.mpr ⟨d, hd, hx⟩
  have ow : OwnW S10 ad3 ar3 (h + 1) (nod t.1 t.2.1 ((kds t).take p ++ (edt tk u c).1 :: (kds t).drop (p + 1))) := OwnW.gr hA9 o9 G2 r1.own (b1.1 _ List.mem_cons_self) (fun x hx => b1.1 x (List.mem_cons_of_mem _ (by
    have e : blw (h + 1) ((kds t).take p ++ (edt tk u c).1 :: (kds t).drop (p + 1)) = ((kds t).take p).flatMap (ndl h) ++ (ndl h (edt tk u c).1 ++ ((kds t).drop (p + 1)).flatMap (ndl h)) := by
      show List.flatMap (ndl h) _ = _
      rw [List.flatMap_append, List.flatMap_cons]
    exact e ▸ hx))) (fun y hy _ => ⟨ids y hy, (b1.dis hy).1⟩)
  refine ⟨⟨OwnW_k ow.1.1 ow.1.2 ?_, fun d hd => ?_⟩, (G1.mono (fun x hx _ => by rw [List.mem_singleton.mp hx]; exact mem_own t)).tr G2 (fun x hx _ => (gc.2.1 x hx).imp (fun z => ⟨mem_kd hcm z, hbc.1 x z⟩) (fun z => ⟨z.1, z.2.1⟩))⟩
  · have nk := ow.k
    have e : (kds (nod t.1 t.2.1 ((kds t).take p ++ (edt tk u c).1 :: (kds t).drop (p + 1)))).map (fun c => ad3 c.1) = ((kds t).take p ++ X :: (kds t).drop (p + 1)).map (fun c => ad3 c.1) := by
      show ((kds t).take p ++ (edt tk u c).1 :: (kds t).drop (p + 1)).map (fun c => ad3 c.1) = _
      rw [List.map_append, List.map_append, List.map_cons, List.map_cons, hX]
    rw [e] at nk
    exact nk
  · rcases List.mem_append.mp hd with hd | hd
    · exact RepW.gr hA9 o9 G2 (r1.2 d (List.mem_append_left _ hd)) (fun x hx => ⟨b1.1 x (List.mem_cons_of_mem _ (List.mem_append_left _ (inA d hd x hx))), fun y hy _ => ⟨ids y hy, (b1.dis hy).2.1 x (inA d hd x hx)⟩⟩)
    · rcases List.mem_cons.mp hd with rfl | hd
      · exact rX
      · exact RepW.gr hA9 o9 G2 (r1.2 d (List.mem_append_right _ (List.mem_cons_of_mem _ hd))) (fun x hx => ⟨b1.1 x (List.mem_cons_of_mem _ (List.mem_append_right _ (List.mem_append_right _ (inB d hd x hx)))), fun y hy _ => ⟨ids y hy, (b1.dis hy).2.2 x (inB d hd x hx)⟩⟩)
/-- a node's own cells written anew: its children may be any that are there -/
theorem own_rep {S S2 : aw_S} {ad ar : Nat → Nat} {gw u h tk : Nat} {t : Tr (h + 1)} {l : List (Tr h)} (o : aw_is S gw 1) (hA : AD S ad ar u) (ow : OwnW S ad ar (h + 1) t) (hu : t.1 < u) (hk : t.2.1 = tk) (f : frS S S2 (fun b => b = ad t.1 ∨ b = ar t.1)) (nl : NL S2 (ad t.1) false (ar t.1) (ksS (l.map (fun c => ad c.1)))) (rl : ∀ c ∈ l, RepW S ad ar h c ∧ ∀ x ∈ ndl h c, x.1 < u ∧ x.1 ≠ t.1) : RepW S2 ad ar (h + 1) (nod t.1 t.2.1 l) ∧ GR S S2 ad ar ad ar u u gw tk [(t.1, t.2.1)] := by
  have G : GR S S2 ad ar ad ar u u gw tk [(t.1, t.2.1)] := f.gr hA o (fun x hx => by rw [List.mem_singleton.mp hx]; exact hu) (fun b hb => ⟨_, List.mem_cons_self, hk, hb⟩)
  refine ⟨⟨OwnW_k ?_ ow.1.2 nl, fun c hc => RepW.gr hA o G (rl c hc).1 (fun x hx => ⟨((rl c hc).2 x hx).1, fun y hy _ => by rw [List.mem_singleton.mp hy]; exact ⟨hu, fun z => ((rl c hc).2 x hx).2 z.symm⟩⟩)⟩, G⟩
  rw [f.2.2.2.2.2.2.1 _ 256 (Or.inr rfl)]
  exact ow.1.1
theorem kins {α : Type} : ∀ (A : List α) (x b : α) (B : List α), (A ++ x :: B).insertIdx (A.length + 1) b = A ++ x :: b :: B
  | [], _, _, _ => rfl
  | a :: A, x, b, B => by
    rw [List.cons_append, List.length_cons, List.insertIdx_succ_cons, kins A x b B, List.cons_append]
theorem insB_0 {w tk u : Nat} {key v : Int32} {t : Tr 0} : insB w tk key v 0 u t = spl (h := 0) w tk u (t.1, t.2.1, setE (ets t) key v) := rfl
theorem PBq.tr {S S2 : aw_S} {ad ar ad2 ar2 : Nat → Nat} {gw u u2 h tk : Nat} {t : Tr h} {n : Nat × Nat} {R : Tr h × Option (Tr h) × Nat} (G : GR S S2 ad ar ad2 ar2 u u2 gw tk (ndl h t)) (hn : n ∈ ndl h t) (hu : n.1 < u) {r2 : Option Value} {S3 : aw_S} (q : PBq S2 ad2 ar2 gw u2 h tk [n] R r2 S3) : PBq S ad ar gw u h tk (ndl h t) R r2 S3 := by
  obtain ⟨ad3, ar3, e, G2, r1, r2⟩ := q
  exact ⟨ad3, ar3, e, G.tr G2 (fun x hx _ => by rw [List.mem_singleton.mp hx]; exact Or.inl ⟨hn, hu⟩), r1, r2⟩
theorem GRu {S S2 : aw_S} {ad ar ad2 ar2 : Nat → Nat} {u u2 gw tk : Nat} {L : List (Nat × Nat)} (G : GR S S2 ad ar ad2 ar2 u u2 gw tk L) : u ≤ u2 := G.1
theorem bdd_edt {h tk u p : Nat} {t : Tr (h + 1)} {c : Tr h} (hb : bdd u (ndl (h + 1) t)) (hc : (kds t)[p]? = some c) : bdd u (ndl h c) ∧ bdd (edt tk u c).2 (ndl h (edt tk u c).1) := by
  have b := hb
  rw [ndl_kds (get_split hc)] at b
  exact ⟨b.tl.mid, (edt_grw (tk := tk) b.tl.mid).bd b.tl.mid⟩
theorem insT_grw {w tk : Nat} {key v : Int32} {h u : Nat} {t : Tr (h + 1)} {c : Tr h} (hb : bdd u (ndl (h + 1) t)) (hc : (kds t)[place key (kds t)]? = some c) : grw u (insB w tk key v h (edt tk u c).2 (edt tk u c).1).2.2 tk (ndl (h + 1) t) (ndl (h + 1) ((nod t.1 t.2.1 ((kds t).take (place key (kds t)) ++ ((insB w tk key v h (edt tk u c).2 (edt tk u c).1).1 :: (insB w tk key v h (edt tk u c).2 (edt tk u c).1).2.1.toList ++ (kds t).drop (place key (kds t) + 1)))) : Tr (h + 1))) := by
  have g1 := edk_grw (tk := tk) hb hc
  have b1 := g1.bd hb
  obtain ⟨-, g2⟩ := insB_grw (w := w) (tk := tk) (key := key) (v := v) h (bdd_edt (tk := tk) hb hc).2
  have g3 := g1.tr (grw.con _ b1 (grw.ctx _ _ b1.tl g2))
  rw [kid_L, List.flatMap_cons]
  exact g3
theorem spl_le {w tk u h : Nat} (t : Tr h) : u ≤ (spl w tk u t).2.2 := by
  unfold spl
  split
  · exact Nat.le_succ u
  · exact Nat.le_refl u
theorem insK_list {f : Nat → Nat} {h p : Nat} {ks : List (Tr h)} {X b : Tr h} (hp : p < ks.length) : ((ks.take p ++ X :: ks.drop (p + 1)).map (fun c => f c.1)).insertIdx (p + 1) (f b.1) = (ks.take p ++ X :: b :: ks.drop (p + 1)).map (fun c => f c.1) := by
  have e : ((ks.take p).map (fun c => f c.1)).length = p := by rw [List.length_map, List.length_take]; omega
  have k := kins ((ks.take p).map (fun c => f c.1)) (f X.1) (f b.1) ((ks.drop (p + 1)).map (fun c => f c.1))
  rw [e] at k
  rw [List.map_append, List.map_cons, List.map_append, List.map_cons, List.map_cons]
  exact k
set_option maxHeartbeats 4000000 in
set_option maxRecDepth 100000 in
theorem m_putBelow {w tk : Nat} {key v : Int32} (hw3 : 3 ≤ w) (hw6 : w ≤ 6) : ∀ (h : Nat) {S : aw_S} {ad ar : Nat → Nat} {gw u dep : Nat} {t : Tr h} (_ : aw_is S gw 1) (_ : sI S 64 gw = nI w) (_ : AD S ad ar u) (_ : RepW S ad ar h t) (_ : okT (lea w) w h t) (_ : t.2.2.length ≤ w) (_ : bdd u (ndl h t)) (_ : tk < 2147483648) (_ : t.2.1 = tk) (_ : dep + h < 12), aw_M yX1_putBelow cX1_putBelow 9 (some (FieldType.object "WideMap$Node")) (h + 4) (2 * ((insB w tk key v h u t).2.2 - u)) (19 * ((insB w tk key v h u t).2.2 - u)) [.ref gw, .ref (ad t.1), .int (nI tk), .int key, .int v, .int (nI dep)] S (PBq S ad ar gw u h tk (ndl h t) (insB w tk key v h u t)) := by
  intro h
  induction h with
  | zero =>
    intro S ad ar gw u dep t o hwd hA r ok hl hb ht hk hd
    have o4 := r.is
    have h7 := r.own.le7
    have hI := spl_le (h := 0) (w := w) (tk := tk) (u := u) (t.1, t.2.1, setE (ets t) key v)
    refine aw_enter (by decide +kernel) (Nat.le_of_ble_eq_true rfl) (fun g K E => ?_)
    first | refine a_aload_n K dX1_putBelow_0 rfl ?_ | refine a_aload_nN K dX1_putBelow_0 rfl ?_
    refine a_ifnull K dX1_putBelow_1 ?_
    refine a_iload K dX1_putBelow_4 rfl ?_
    refine a_bipush K dX1_putBelow_6 (v := 12) (by decide) ?_
    refine a_icmp_lt K dX1_putBelow_8 (tgt := 13) (by decide) (fun c_8 => ?_) (fun c_8 => absurd c_8 (fun z => z (nI_lt (b := 12) (by omega) (by omega))))
    first | refine a_aload_n K dX1_putBelow_13 rfl ?_ | refine a_aload_nN K dX1_putBelow_13 rfl ?_
    refine a_invV K (m_X4_isLeaf_y o4 r.own.l.hE) my_X4_isLeaf ml_X1_60 im_X4_isLeaf se_X4_isLeaf (ci := 4) (by assumption) (by decide) ⟨_, _, rfl⟩ rfl (by omega) (by omega) (by omega) rfl (Nat.le_of_ble_eq_true rfl) dX1_putBelow_14 ?_
    intro r9 S9 hp9
    obtain ⟨hS9, rfl⟩ := hp9
    obtain rfl := hS9.symm
    refine a_if_eq K dX1_putBelow_17 (tgt := 30) (by decide) (fun c_17 => absurd c_17 (by decide)) (fun c_17 => ?_)
    first | refine a_aload_n K dX1_putBelow_20 rfl ?_ | refine a_aload_nN K dX1_putBelow_20 rfl ?_
    refine a_iload_n K dX1_putBelow_21 rfl ?_
    refine a_iload K dX1_putBelow_22 rfl ?_
    refine a_invV K (m_X4_setEntry r.own.l (by have h := hl; show t.2.2.length < 7; omega)) my_X4_setEntry ml_X1_64 im_X4_setEntry se_X4_setEntry (ci := 4) (by assumption) (by decide) ⟨_, _, rfl⟩ rfl (by omega) (by omega) (by omega) rfl (Nat.le_of_ble_eq_true rfl) dX1_putBelow_24 ?_
    intro r9 S9 hp9
    obtain ⟨rfl, nl, f9⟩ := hp9
    have G1 : GR S S9 ad ar ad ar u u gw tk (ndl 0 t) := f9.gr hA o hb.1 (fun b hb2 => ⟨_, mem_own t, hk, hb2⟩)
    refine a_goto K dX1_putBelow_27 (tgt := 78) (by decide) ?_
    exact aw_locl rfl (pb_tail K E (T := ((t.1, t.2.1, setE (ets t) key v) : Tr 0)) (a := ad t.1) (by omega) ⟨by rw [insB_0]; omega, by rw [insB_0]; omega⟩ (G1.is o) (G1.wd.trans hwd) G1.2.2.1 (OwnW_l (by rw [f9.2.2.2.2.2.2.1 _ 256 (Or.inr rfl)]; exact r.own.1.1) r.own.1.2 nl) hb ht hk hw3 hw6 rfl (fun r2 S2 q => PBq.tr (t := t) G1 (mem_own t) (hb.1 _ (mem_own t)) q))
  | succ h ih =>
    intro S ad ar gw u dep t o hwd hA r ok hl hb ht hk hd
    have o4 := r.is
    have h7 := kds_le7 r.own
    have hlw : 1 ≤ lea w := by unfold lea; omega
    have ne := NeT_fan hlw (h + 1) ok
    have hp : place key (kds t) < (kds t).length := place_lt (okT_ne ok)
    obtain ⟨c, hc⟩ : ∃ c, (kds t)[place key (kds t)]? = some c := ⟨_, List.getElem?_eq_getElem hp⟩
    have hcm := List.mem_of_getElem? hc
    have hfc := okT_k ok c hcm
    have hu : t.1 < u := hb.1 _ (mem_own t)
    have hM1 := edt_le (tk := tk) (u := u) c
    have hM2 : (edt tk u c).2 ≤ (insB w tk key v h (edt tk u c).2 (edt tk u c).1).2.2 := (insB_grw h (bdd_edt (tk := tk) hb hc).2).2.1
    have hX : (insB w tk key v h (edt tk u c).2 (edt tk u c).1).1.1 = (edt tk u c).1.1 := (insB_grw h (bdd_edt (tk := tk) hb hc).2).1.1
    have hI2 : (insB w tk key v (h + 1) u t).2.2 = (spl w tk (insB w tk key v h (edt tk u c).2 (edt tk u c).1).2.2 (nod t.1 t.2.1 ((kds t).take (place key (kds t)) ++ ((insB w tk key v h (edt tk u c).2 (edt tk u c).1).1 :: (insB w tk key v h (edt tk u c).2 (edt tk u c).1).2.1.toList ++ (kds t).drop (place key (kds t) + 1))))).2.2 := by rw [insB_s hc]
    have hI3 := spl_le (w := w) (tk := tk) (u := (insB w tk key v h (edt tk u c).2 (edt tk u c).1).2.2) (nod t.1 t.2.1 ((kds t).take (place key (kds t)) ++ ((insB w tk key v h (edt tk u c).2 (edt tk u c).1).1 :: (insB w tk key v h (edt tk u c).2 (edt tk u c).1).2.1.toList ++ (kds t).drop (place key (kds t) + 1))))
    rw [← hI2] at hI3
    have bX := (insT_grw (w := w) (tk := tk) (key := key) (v := v) hb hc).bd hb
    have hlen : ((kds t).take (place key (kds t)) ++ (insB w tk key v h (edt tk u c).2 (edt tk u c).1).1 :: (kds t).drop (place key (kds t) + 1)).length = (kds t).length := by
      rw [List.length_append, List.length_cons, List.length_take, List.length_drop]
      omega
    have hlk : (kds t).length ≤ w := hl
    refine aw_enter (by decide +kernel) (Nat.le_of_ble_eq_true rfl) (fun g K E => ?_)
    first | refine a_aload_n K dX1_putBelow_0 rfl ?_ | refine a_aload_nN K dX1_putBelow_0 rfl ?_
    refine a_ifnull K dX1_putBelow_1 ?_
    refine a_iload K dX1_putBelow_4 rfl ?_
    refine a_bipush K dX1_putBelow_6 (v := 12) (by decide) ?_
    refine a_icmp_lt K dX1_putBelow_8 (tgt := 13) (by decide) (fun c_8 => ?_) (fun c_8 => absurd c_8 (fun z => z (nI_lt (b := 12) (by omega) (by omega))))
    first | refine a_aload_n K dX1_putBelow_13 rfl ?_ | refine a_aload_nN K dX1_putBelow_13 rfl ?_
    refine a_invV K (m_X4_isLeaf_n o4 r.own.k.hE0) my_X4_isLeaf ml_X1_60 im_X4_isLeaf se_X4_isLeaf (ci := 4) (by assumption) (by decide) ⟨_, _, rfl⟩ rfl (by omega) (by omega) (by omega) rfl (Nat.le_of_ble_eq_true rfl) dX1_putBelow_14 ?_
    intro r9 S9 hp9
    obtain ⟨hS9, rfl⟩ := hp9
    obtain rfl := hS9.symm
    refine a_if_eq K dX1_putBelow_17 (tgt := 30) (by decide) (fun c_17 => ?_) (fun c_17 => absurd c_17 (by decide))
    first | refine a_aload_n K dX1_putBelow_30 rfl ?_ | refine a_aload_nN K dX1_putBelow_30 rfl ?_
    refine a_iload_n K dX1_putBelow_31 rfl ?_
    refine a_invV K (m_X4_placeOfKid (key := key) r ne (by omega)) my_X4_placeOfKid ml_X1_68 im_X4_placeOfKid se_X4_placeOfKid (ci := 4) (by assumption) (by decide) ⟨_, _, rfl⟩ rfl (by omega) (by omega) (by omega) rfl (Nat.le_of_ble_eq_true rfl) dX1_putBelow_32 ?_
    intro r9 S9 hp9
    obtain ⟨rfl, hS9⟩ := hp9
    obtain rfl := hS9.symm
    refine a_istore K dX1_putBelow_35 (by decide) ?_
    first | refine a_aload_n K dX1_putBelow_37 rfl ?_ | refine a_aload_nN K dX1_putBelow_37 rfl ?_
    first | refine a_aload_n K dX1_putBelow_38 rfl ?_ | refine a_aload_nN K dX1_putBelow_38 rfl ?_
    refine a_iload K dX1_putBelow_39 rfl ?_
    refine a_iload_n K dX1_putBelow_41 rfl ?_
    refine a_invV K (m_editedKid o hA r hb ht hk hc) my_X1_editedKid ml_X1_72 im_X1_editedKid se_X1_editedKid (ci := 1) (by assumption) (by decide) ⟨_, _, rfl⟩ rfl (by omega) (by omega) (by omega) rfl (Nat.le_of_ble_eq_true rfl) dX1_putBelow_42 ?_
    intro r9 S9 hp9
    obtain ⟨ad2, ar2, rfl, G1, r1⟩ := hp9
    have o9 := G1.is o
    first | refine a_astore K dX1_putBelow_45 (by decide) ?_ | refine a_astoreN K dX1_putBelow_45 (by decide) ?_
    first | refine a_aload_n K dX1_putBelow_47 rfl ?_ | refine a_aload_nN K dX1_putBelow_47 rfl ?_
    first | refine a_aload K dX1_putBelow_48 rfl ?_ | refine a_aloadN K dX1_putBelow_48 rfl ?_
    refine a_iload_n K dX1_putBelow_50 rfl ?_
    refine a_iload_n K dX1_putBelow_51 rfl ?_
    refine a_iload K dX1_putBelow_52 rfl ?_
    refine a_iload K dX1_putBelow_54 rfl ?_
    refine a_iconst K dX1_putBelow_56 (v := 1) (by decide) ?_
    refine a_iadd K dX1_putBelow_57 ?_
    rw [nI_1]
    refine a_invS K (ih (dep := dep + 1) (t := (edt tk u c).1) (u := (edt tk u c).2) o9 (G1.wd.trans hwd) G1.2.2.1 (r1.2 _ (List.mem_append_right _ List.mem_cons_self)) (edt_ok (okT_fan hlw hfc)) (by rw [edt_it]; exact (fan_L.mp hfc).1.2) (bdd_edt hb hc).2 ht (edt_tk tk u c) (by omega)) my_X1_putBelow ml_X1_49 st_X1_putBelow rfl (by omega) (by omega) (by omega) rfl (Nat.le_of_ble_eq_true rfl) dX1_putBelow_58 ?_
    intro r9 S10 hp9
    obtain ⟨ad3, ar3, rfl, G2, r2, r3⟩ := hp9
    obtain ⟨rM, GM⟩ := mid_rep o hb hc G1 r1 (X := (insB w tk key v h (edt tk u c).2 (edt tk u c).1).1) hX G2 r2
    have e3 := (GM.2.1 t.1 hu).1
    have nk0 := rM.own.k
    rw [kds_nod] at nk0
    have nkM : NL S10 (ad3 t.1) false (ar3 t.1) _ := nk0
    rw [e3] at nkM
    have o10 := (GM.is r.is)
    have rl_ : ∀ b, (insB w tk key v h (edt tk u c).2 (edt tk u c).1).2.1 = some b → ∀ d ∈ (kds t).take (place key (kds t)) ++ (insB w tk key v h (edt tk u c).2 (edt tk u c).1).1 :: b :: (kds t).drop (place key (kds t) + 1), RepW S10 ad3 ar3 h d ∧ ∀ x ∈ ndl h d, x.1 < (insB w tk key v h (edt tk u c).2 (edt tk u c).1).2.2 ∧ x.1 ≠ t.1 := fun b hb2 d hd => by
      have hm : ∀ x ∈ ndl h d, x ∈ ((kds t).take (place key (kds t)) ++ ((insB w tk key v h (edt tk u c).2 (edt tk u c).1).1 :: (insB w tk key v h (edt tk u c).2 (edt tk u c).1).2.1.toList ++ (kds t).drop (place key (kds t) + 1))).flatMap (ndl h) := fun x hx => List.mem_flatMap.mpr ⟨d, by rw [hb2]; exact hd, hx⟩
      refine ⟨?_, fun x hx => ⟨bX.1 x (List.mem_cons_of_mem _ (hm x hx)), bX.hd (hm x hx)⟩⟩
      rcases List.mem_append.mp hd with hd | hd
      · exact rM.2 d (List.mem_append_left _ hd)
      · rcases List.mem_cons.mp hd with rfl | hd
        · exact r2
        · rcases List.mem_cons.mp hd with rfl | hd
          · exact r3 _ hb2
          · exact rM.2 d (List.mem_append_right _ (List.mem_cons_of_mem _ hd))
    cases hq : (insB w tk key v h (edt tk u c).2 (edt tk u c).1).2.1 with
    | none =>
      first | refine a_astore K dX1_putBelow_61 (by decide) ?_ | refine a_astoreN K dX1_putBelow_61 (by decide) ?_
      first | refine a_aload K dX1_putBelow_63 rfl ?_ | refine a_aloadN K dX1_putBelow_63 rfl ?_
      refine a_ifnullN K dX1_putBelow_65 (tgt := 78) (by decide) ?_
      have GX := GM
      have RX_ := rM
      exact aw_locl rfl (pb_tail K E (T := (nod t.1 t.2.1 ((kds t).take (place key (kds t)) ++ ((insB w tk key v h (edt tk u c).2 (edt tk u c).1).1 :: (insB w tk key v h (edt tk u c).2 (edt tk u c).1).2.1.toList ++ (kds t).drop (place key (kds t) + 1))))) (u := (insB w tk key v h (edt tk u c).2 (edt tk u c).1).2.2) (a := ad t.1) (by omega) ⟨by rw [← hI2]; omega, by rw [← hI2]; omega⟩ (GX.is o) (GX.wd.trans hwd) GX.2.2.1 (by rw [hq]; exact RX_) bX ht hk hw3 hw6 e3 (fun r2 S2 q => by rw [insB_s hc]; exact PBq.tr (t := t) GX (mem_own t) hu q))
    | some b =>
      first | refine a_astore K dX1_putBelow_61 (by decide) ?_ | refine a_astoreN K dX1_putBelow_61 (by decide) ?_
      first | refine a_aload K dX1_putBelow_63 rfl ?_ | refine a_aloadN K dX1_putBelow_63 rfl ?_
      refine a_ifnull K dX1_putBelow_65 ?_
      first | refine a_aload_n K dX1_putBelow_68 rfl ?_ | refine a_aload_nN K dX1_putBelow_68 rfl ?_
      refine a_iload K dX1_putBelow_69 rfl ?_
      refine a_iconst K dX1_putBelow_71 (v := 1) (by decide) ?_
      refine a_iadd K dX1_putBelow_72 ?_
      first | refine a_aload K dX1_putBelow_73 rfl ?_ | refine a_aloadN K dX1_putBelow_73 rfl ?_
      rw [nI_1]
      refine a_invV K (m_X4_insertKid (p := place key (kds t) + 1) (b := ad3 b.1) nkM (by rw [List.length_map, hlen]; omega) (by rw [List.length_map, hlen]; omega) (r3 b hq).is) my_X4_insertKid ml_X1_57 im_X4_insertKid se_X4_insertKid (ci := 4) (by assumption) (by decide) ⟨_, _, rfl⟩ rfl (by omega) (by omega) (by omega) rfl (Nat.le_of_ble_eq_true rfl) dX1_putBelow_75 ?_
      intro r9 S11 hp9
      obtain ⟨rfl, nl, f11⟩ := hp9
      rw [← e3] at nl f11
      rw [insK_list (f := ad3) (b := b) hp] at nl
      obtain ⟨rI, G3⟩ := own_rep (GM.is o) GM.2.2.1 rM.own (Nat.lt_of_lt_of_le hu GM.1) hk f11 nl (rl_ b hq)
      have GX := GM.tr G3 (fun x hx _ => by rw [List.mem_singleton.mp hx]; exact Or.inl ⟨mem_own t, hu⟩)
      have RX_ := rI
      exact aw_locl rfl (pb_tail K E (T := (nod t.1 t.2.1 ((kds t).take (place key (kds t)) ++ ((insB w tk key v h (edt tk u c).2 (edt tk u c).1).1 :: (insB w tk key v h (edt tk u c).2 (edt tk u c).1).2.1.toList ++ (kds t).drop (place key (kds t) + 1))))) (u := (insB w tk key v h (edt tk u c).2 (edt tk u c).1).2.2) (a := ad t.1) (by omega) ⟨by rw [← hI2]; omega, by rw [← hI2]; omega⟩ (GX.is o) (GX.wd.trans hwd) GX.2.2.1 (by rw [hq]; exact RX_) bX ht hk hw3 hw6 e3 (fun r2 S2 q => by rw [insB_s hc]; exact PBq.tr (t := t) GX (mem_own t) hu q))
