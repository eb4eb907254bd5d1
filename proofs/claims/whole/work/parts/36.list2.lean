theorem m_Ls_nodeAt {S : aw_S} {ad : Nat → Nat} {l na da H j : Nat} {L : List Tz} (hL : LsW S ad l na da H L) (hj : j < 2 ^ 31) : aw_M yX2_nodeAt cX2_nodeAt 2 (some (FieldType.object "WideMap$Node")) 0 0 0 [.ref l, .int (nI j)] S (fun r S2 => r = some (va_rf (L[j]?.map (fun z => ad z.2.1))) ∧ S2 = S) := by
  have h64 := hL.2.2.2.2.2.2.2.2.1
  refine (m_X2_nodeAt (i := nI j) hL.1 hL.2.1 hL.2.2.2.1 hL.2.2.2.2.2.1 hL.2.2.2.2.2.2.2.1 h64).post (fun r S2 hp => ?_)
  obtain ⟨hS, hr⟩ := hp
  refine ⟨?_, hS⟩
  rw [hr]
  by_cases hl : j < L.length
  · have hx := List.getElem?_eq_getElem hl
    rw [atR_in hl (by omega), hx, (hL.2.2.2.2.2.2.2.2.2 j _ hx).1]
    rfl
  · rw [atR_big (by omega) (nI_le (Nat.le_of_not_lt hl) hj), List.getElem?_eq_none (Nat.le_of_not_lt hl)]
    rfl
theorem m_Ls_nodeAt_neg {S : aw_S} {ad : Nat → Nat} {l na da H : Nat} {L : List Tz} {i : Int32} (hL : LsW S ad l na da H L) (hi : i < 0) : aw_M yX2_nodeAt cX2_nodeAt 2 (some (FieldType.object "WideMap$Node")) 0 0 0 [.ref l, .int i] S (fun r S2 => r = some .null ∧ S2 = S) := by
  refine (m_X2_nodeAt (i := i) hL.1 hL.2.1 hL.2.2.2.1 hL.2.2.2.2.2.1 hL.2.2.2.2.2.2.2.1 hL.2.2.2.2.2.2.2.2.1).post (fun r S2 hp => ?_)
  obtain ⟨hS, hr⟩ := hp
  rw [atR_neg hi] at hr
  exact ⟨hr, hS⟩
theorem m_Ls_depthAt {S : aw_S} {ad : Nat → Nat} {l na da H j : Nat} {L : List Tz} {z : Tz} (hL : LsW S ad l na da H L) (hz : L[j]? = some z) : aw_M yX2_depthAt cX2_depthAt 2 (some FieldType.int) 0 0 0 [.ref l, .int (nI j)] S (fun r S2 => r = some (.int (nI (H - z.1))) ∧ S2 = S) := by
  have h64 := hL.2.2.2.2.2.2.2.2.1
  have hl := (List.getElem?_eq_some_iff.mp hz).1
  have m := m_X2_depthAt (i := nI j) hL.1 hL.2.2.1 hL.2.2.2.2.1 hL.2.2.2.2.2.2.1 hL.2.2.2.2.2.2.2.1 h64 (by decide)
  rw [at0_in hl (by omega), (hL.2.2.2.2.2.2.2.2.2 j _ hz).2.1] at m
  exact m
/-- leaves, and nodes with a token, counted from a count on -/
def lvC : List Tz → Nat → Nat
  | [], n => n
  | z :: r, n => lvC r (if z.1 = 0 then n + 1 else n)
def tkC (tk : Nat) : List Tz → Nat → Nat
  | [], n => n
  | z :: r, n => tkC tk r (if z.2.2.1 = tk then n + 1 else n)
/-- how many do not have a mark yet; all have it then -/
def mkC : (Nat → Bool) → List Tz → Nat → Nat
  | _, [], n => n
  | m0, z :: r, n => if m0 z.2.1 then mkC m0 r n else mkC (fun i => m0 i || i == z.2.1) r (n + 1)
def mkS (mk : Nat → Bool) (L : List Tz) : Nat → Bool := fun i => mk i || L.any (fun z => i == z.2.1)
theorem lvC_at {L : List Tz} {j : Nat} (hj : j < L.length) (n : Nat) : lvC (L.drop j) n = lvC (L.drop (j + 1)) (if L[j].1 = 0 then n + 1 else n) := by rw [List.drop_eq_getElem_cons hj, lvC]
theorem tkC_at {tk : Nat} {L : List Tz} {j : Nat} (hj : j < L.length) (n : Nat) : tkC tk (L.drop j) n = tkC tk (L.drop (j + 1)) (if L[j].2.2.1 = tk then n + 1 else n) := by rw [List.drop_eq_getElem_cons hj, tkC]
theorem mkC_at {mk : Nat → Bool} {L : List Tz} {j : Nat} (hj : j < L.length) (n : Nat) : mkC mk (L.drop j) n = if mk L[j].2.1 then mkC mk (L.drop (j + 1)) n else mkC (fun i => mk i || i == L[j].2.1) (L.drop (j + 1)) (n + 1) := by rw [List.drop_eq_getElem_cons hj, mkC]
/-- what is asked of the nodes listed: their own cells -/
def LsO (S : aw_S) (ad ar : Nat → Nat) (L : List Tz) : Prop := ∀ z ∈ L, OwnW S ad ar z.1 z.2
theorem LsO_sub {S : aw_S} {ad ar : Nat → Nat} : ∀ (h : Nat) {t : Tr h}, RepW S ad ar h t → LsO S ad ar (sub h t)
  | 0, t, r => fun z hz => by rw [List.mem_singleton.mp hz]; exact r
  | h + 1, t, r => fun z hz => by
    rcases List.mem_cons.mp hz with rfl | hz
    · exact r.1
    · obtain ⟨c, hc, hz⟩ := List.mem_flatMap.mp hz
      exact LsO_sub h (r.2 c hc) z hz
theorem m_isLeaf_z {S : aw_S} {ad ar : Nat → Nat} {z : Tz} (w : OwnW S ad ar z.1 z.2) : aw_M yX4_isLeaf cX4_isLeaf 1 (some FieldType.boolean) 0 0 0 [.ref (ad z.2.1)] S (fun r S2 => S2 = S ∧ bR (z.1 = 0) r) := by
  obtain ⟨h, t⟩ := z
  cases h with
  | zero => exact (m_X4_isLeaf_y w.2.1.1 w.l.hE).post (fun r S2 hp => ⟨hp.1, Or.inl ⟨rfl, hp.2⟩⟩)
  | succ h => exact (m_X4_isLeaf_n w.2.1.1 w.k.hE0).post (fun r S2 hp => ⟨hp.1, Or.inr ⟨Nat.succ_ne_zero h, hp.2⟩⟩)
set_option maxHeartbeats 4000000 in
set_option maxRecDepth 100000 in
theorem m_Ls_leaves {S : aw_S} {ad : Nat → Nat} {l na da H : Nat} {L : List Tz} {ar : Nat → Nat} {R : Nat} (hL : LsW S ad l na da H L) (hO : LsO S ad ar L) (hq : lvC L 0 = R) : aw_M yX2_leaves cX2_leaves 4 (some FieldType.int) 1 0 0 [.ref l] S (fun r2 S2 => r2 = some (.int (nI R)) ∧ S2 = S) := by
  have oL := hL.1
  have h64 := hL.2.2.2.2.2.2.2.2.1
  have hs := hL.2.2.2.2.2.2.2.1
  have hIs : ∀ j (hj : j < L.length), aw_is S (ad L[j].2.1) 4 := fun j hj => (hO L[j] (List.getElem_mem hj)).2.1.1
  refine aw_enter (by decide +kernel) (Nat.le_of_ble_eq_true rfl) (fun g K EE => ?_)
  have loop : ∀ (i j n : Nat) (x b : Int32), x = nI j → b = nI n → j + i = L.length → lvC (L.drop j) n = R → aw g 4 S 0 0 [(2, .int x), (1, .int b), (0, .ref l)] [] 4 := by
    intro i
    induction i with
    | zero =>
      intro j n x b hx hb0 hi hb
      subst hx
      subst hb0
      refine a_iload_n K dX2_leaves_4 rfl ?_
      first | refine a_aload_n K dX2_leaves_5 rfl ?_ | refine a_aload_nN K dX2_leaves_5 rfl ?_
      refine a_getI K fd_X2_21 (by assumption) (Or.inl rfl) dX2_leaves_6 ?_
      refine a_icmp_ge K dX2_leaves_9 (tgt := 38) (by decide) (fun c_9 => ?_) (fun c_9 => absurd c_9 (by rw [hs]; exact fun z => z (nI_le (by omega) (by omega))))
      refine a_iload_n K dX2_leaves_38 rfl ?_
      exact a_iret K EE rfl (by omega) (by omega) dX2_leaves_39 ⟨by rw [← hb, show j = L.length by omega, List.drop_length]; rfl, rfl⟩
    | succ i ih =>
      intro j n x b hx hb0 hi hb
      subst hx
      subst hb0
      refine a_iload_n K dX2_leaves_4 rfl ?_
      have hj : j < L.length := by omega
      have hx := List.getElem?_eq_getElem hj
      first | refine a_aload_n K dX2_leaves_5 rfl ?_ | refine a_aload_nN K dX2_leaves_5 rfl ?_
      refine a_getI K fd_X2_21 (by assumption) (Or.inl rfl) dX2_leaves_6 ?_
      refine a_icmp_ge K dX2_leaves_9 (tgt := 38) (by decide) (fun c_9 => absurd c_9 (by rw [hs]; exact nI_ge hj (by omega))) (fun c_9 => ?_)
      first | refine a_aload_n K dX2_leaves_12 rfl ?_ | refine a_aload_nN K dX2_leaves_12 rfl ?_
      refine a_iload_n K dX2_leaves_13 rfl ?_
      refine a_invV K (m_Ls_nodeAt hL (show j < 2 ^ 31 by omega)) my_X2_nodeAt ml_X2_48 im_X2_nodeAt se_X2_nodeAt (ci := 2) (by assumption) (by decide) ⟨_, _, rfl⟩ rfl (by omega) (by omega) (by omega) rfl (Nat.le_of_ble_eq_true rfl) dX2_leaves_14 ?_
      intro r9 S9 hp9
      obtain ⟨rfl, hS9⟩ := hp9
      obtain rfl := hS9.symm
      rw [hx]
      first | refine a_astore_n K dX2_leaves_17 (by decide) ?_ | refine a_astore_nN K dX2_leaves_17 (by decide) ?_
      first | refine a_aload_n K dX2_leaves_18 rfl ?_ | refine a_aload_nN K dX2_leaves_18 rfl ?_
      refine a_ifnull K dX2_leaves_19 ?_
      have oN := hIs j hj
      first | refine a_aload_n K dX2_leaves_22 rfl ?_ | refine a_aload_nN K dX2_leaves_22 rfl ?_
      refine a_invV K (m_isLeaf_z (hO L[j] (List.getElem_mem hj))) my_X4_isLeaf ml_X2_33 im_X4_isLeaf se_X4_isLeaf (ci := 4) (by assumption) (by decide) ⟨_, _, rfl⟩ rfl (by omega) (by omega) (by omega) rfl (Nat.le_of_ble_eq_true rfl) dX2_leaves_23 ?_
      intro r9 S9 hp9
      obtain ⟨hS9, hb9⟩ := hp9
      obtain rfl := hS9.symm
      rcases hb9 with ⟨b_23, rfl⟩ | ⟨b_23, rfl⟩
      · refine a_if_eq K dX2_leaves_26 (tgt := 32) (by decide) (fun z => absurd z (by decide)) (fun _ => ?_)
        refine a_iinc K dX2_leaves_29 (v := 1) rfl (by decide) (by decide) ?_
        refine a_iinc K dX2_leaves_32 (v := 1) rfl (by decide) (by decide) ?_
        refine a_goto K dX2_leaves_35 (tgt := 4) (by decide) ?_
        exact aw_locl rfl (by first | exact ih (j + 1) _ _ _ (nI_1 j) (nI_1 n) (by omega) (by rw [lvC_at hj, if_pos b_23] at hb; exact hb) | exact ih (j + 1) _ _ _ (nI_1 j) rfl (by omega) (by rw [lvC_at hj, if_neg b_23] at hb; exact hb))
      · refine a_if_eq K dX2_leaves_26 (tgt := 32) (by decide) (fun _ => ?_) (fun z => absurd z (by decide))
        refine a_iinc K dX2_leaves_32 (v := 1) rfl (by decide) (by decide) ?_
        refine a_goto K dX2_leaves_35 (tgt := 4) (by decide) ?_
        exact aw_locl rfl (by first | exact ih (j + 1) _ _ _ (nI_1 j) (nI_1 n) (by omega) (by rw [lvC_at hj, if_pos b_23] at hb; exact hb) | exact ih (j + 1) _ _ _ (nI_1 j) rfl (by omega) (by rw [lvC_at hj, if_neg b_23] at hb; exact hb))
  refine a_iconst K dX2_leaves_0 (v := 0) (by decide) ?_
  refine a_istore_n K dX2_leaves_1 (by decide) ?_
  refine a_iconst K dX2_leaves_2 (v := 0) (by decide) ?_
  refine a_istore_n K dX2_leaves_3 (by decide) ?_
  exact aw_locl rfl (loop L.length 0 0 0 0 nI_0.symm nI_0.symm (by omega) hq)
set_option maxHeartbeats 4000000 in
set_option maxRecDepth 100000 in
theorem m_Ls_sizeOf {S : aw_S} {ad : Nat → Nat} {l na da H : Nat} {L : List Tz} {ar : Nat → Nat} {R tk : Nat} (hL : LsW S ad l na da H L) (hO : LsO S ad ar L) (ht : tk < 2147483648) (hq : tkC tk L 0 = R) : aw_M yX2_sizeOf cX2_sizeOf 5 (some FieldType.int) 1 0 0 [.ref l, .int (nI tk)] S (fun r2 S2 => r2 = some (.int (nI R)) ∧ S2 = S) := by
  have oL := hL.1
  have h64 := hL.2.2.2.2.2.2.2.2.1
  have hs := hL.2.2.2.2.2.2.2.1
  refine aw_enter (by decide +kernel) (Nat.le_of_ble_eq_true rfl) (fun g K EE => ?_)
  have loop : ∀ (i j n : Nat) (x b : Int32), x = nI j → b = nI n → j + i = L.length → tkC tk (L.drop j) n = R → aw g 5 S 0 0 [(3, .int x), (2, .int b), (1, .int (nI tk)), (0, .ref l)] [] 4 := by
    intro i
    induction i with
    | zero =>
      intro j n x b hx hb0 hi hb
      subst hx
      subst hb0
      refine a_iload_n K dX2_sizeOf_4 rfl ?_
      first | refine a_aload_n K dX2_sizeOf_5 rfl ?_ | refine a_aload_nN K dX2_sizeOf_5 rfl ?_
      refine a_getI K fd_X2_21 (by assumption) (Or.inl rfl) dX2_sizeOf_6 ?_
      refine a_icmp_ge K dX2_sizeOf_9 (tgt := 42) (by decide) (fun c_9 => ?_) (fun c_9 => absurd c_9 (by rw [hs]; exact fun z => z (nI_le (by omega) (by omega))))
      refine a_iload_n K dX2_sizeOf_42 rfl ?_
      exact a_iret K EE rfl (by omega) (by omega) dX2_sizeOf_43 ⟨by rw [← hb, show j = L.length by omega, List.drop_length]; rfl, rfl⟩
    | succ i ih =>
      intro j n x b hx hb0 hi hb
      subst hx
      subst hb0
      refine a_iload_n K dX2_sizeOf_4 rfl ?_
      have hj : j < L.length := by omega
      have hx := List.getElem?_eq_getElem hj
      first | refine a_aload_n K dX2_sizeOf_5 rfl ?_ | refine a_aload_nN K dX2_sizeOf_5 rfl ?_
      refine a_getI K fd_X2_21 (by assumption) (Or.inl rfl) dX2_sizeOf_6 ?_
      refine a_icmp_ge K dX2_sizeOf_9 (tgt := 42) (by decide) (fun c_9 => absurd c_9 (by rw [hs]; exact nI_ge hj (by omega))) (fun c_9 => ?_)
      first | refine a_aload_n K dX2_sizeOf_12 rfl ?_ | refine a_aload_nN K dX2_sizeOf_12 rfl ?_
      refine a_iload_n K dX2_sizeOf_13 rfl ?_
      refine a_invV K (m_Ls_nodeAt hL (show j < 2 ^ 31 by omega)) my_X2_nodeAt ml_X2_48 im_X2_nodeAt se_X2_nodeAt (ci := 2) (by assumption) (by decide) ⟨_, _, rfl⟩ rfl (by omega) (by omega) (by omega) rfl (Nat.le_of_ble_eq_true rfl) dX2_sizeOf_14 ?_
      intro r9 S9 hp9
      obtain ⟨rfl, hS9⟩ := hp9
      obtain rfl := hS9.symm
      rw [hx]
      first | refine a_astore K dX2_sizeOf_17 (by decide) ?_ | refine a_astoreN K dX2_sizeOf_17 (by decide) ?_
      first | refine a_aload K dX2_sizeOf_19 rfl ?_ | refine a_aloadN K dX2_sizeOf_19 rfl ?_
      refine a_ifnull K dX2_sizeOf_21 ?_
      have oN := (hO L[j] (List.getElem_mem hj)).2.1.1
      have w := hO L[j] (List.getElem_mem hj)
      first | refine a_aload K dX2_sizeOf_24 rfl ?_ | refine a_aloadN K dX2_sizeOf_24 rfl ?_
      refine a_invV K (m_X4_token oN) my_X4_token ml_X2_51 im_X4_token se_X4_token (ci := 4) (by assumption) (by decide) ⟨_, _, rfl⟩ rfl (by omega) (by omega) (by omega) rfl (Nat.le_of_ble_eq_true rfl) dX2_sizeOf_26 ?_
      intro r9 S9 hp9
      obtain ⟨rfl, hS9⟩ := hp9
      obtain rfl := hS9.symm
      rw [w.1.1]
      refine a_iload_n K dX2_sizeOf_29 rfl ?_
      refine a_icmp_ne K dX2_sizeOf_30 (tgt := 36) (by decide) (fun c_30 => ?_) (fun c_30 => ?_)
      · refine a_iinc K dX2_sizeOf_36 (v := 1) rfl (by decide) (by decide) ?_
        refine a_goto K dX2_sizeOf_39 (tgt := 4) (by decide) ?_
        exact aw_locl rfl (by first | exact ih (j + 1) _ _ _ (nI_1 j) rfl (by omega) (by rw [tkC_at hj, if_neg (fun z => c_30 (by rw [z]))] at hb; exact hb) | exact ih (j + 1) _ _ _ (nI_1 j) (nI_1 n) (by omega) (by rw [tkC_at hj, if_pos (nI_inj w.1.2 ht c_30)] at hb; exact hb))
      · refine a_iinc K dX2_sizeOf_33 (v := 1) rfl (by decide) (by decide) ?_
        refine a_iinc K dX2_sizeOf_36 (v := 1) rfl (by decide) (by decide) ?_
        refine a_goto K dX2_sizeOf_39 (tgt := 4) (by decide) ?_
        exact aw_locl rfl (by first | exact ih (j + 1) _ _ _ (nI_1 j) rfl (by omega) (by rw [tkC_at hj, if_neg (fun z => c_30 (by rw [z]))] at hb; exact hb) | exact ih (j + 1) _ _ _ (nI_1 j) (nI_1 n) (by omega) (by rw [tkC_at hj, if_pos (nI_inj w.1.2 ht c_30)] at hb; exact hb))
  refine a_iconst K dX2_sizeOf_0 (v := 0) (by decide) ?_
  refine a_istore_n K dX2_sizeOf_1 (by decide) ?_
  refine a_iconst K dX2_sizeOf_2 (v := 0) (by decide) ?_
  refine a_istore_n K dX2_sizeOf_3 (by decide) ?_
  exact aw_locl rfl (loop L.length 0 0 0 0 nI_0.symm nI_0.symm (by omega) hq)
set_option maxHeartbeats 4000000 in
set_option maxRecDepth 100000 in
theorem m_Ls_has {S : aw_S} {ad : Nat → Nat} {l na da H : Nat} {L : List Tz} {b : Nat} (hL : LsW S ad l na da H L) : aw_M yX2_has cX2_has 3 (some FieldType.boolean) 1 0 0 [.ref l, .ref b] S (fun r2 S2 => S2 = S ∧ bR (∃ z ∈ L, ad z.2.1 = b) r2) := by
  have oL := hL.1
  have h64 := hL.2.2.2.2.2.2.2.2.1
  have hs := hL.2.2.2.2.2.2.2.1
  refine aw_enter (by decide +kernel) (Nat.le_of_ble_eq_true rfl) (fun g K EE => ?_)
  have loop : ∀ (i j : Nat) (x : Int32), x = nI j → j + i = L.length → (∀ k (hk : k < L.length), k < j → ¬ ad L[k].2.1 = b) → aw g 3 S 0 0 [(2, .int x), (1, .ref b), (0, .ref l)] [] 2 := by
    intro i
    induction i with
    | zero =>
      intro j x hx hi hb
      subst hx
      refine a_iload_n K dX2_has_2 rfl ?_
      first | refine a_aload_n K dX2_has_3 rfl ?_ | refine a_aload_nN K dX2_has_3 rfl ?_
      refine a_getI K fd_X2_21 (by assumption) (Or.inl rfl) dX2_has_4 ?_
      refine a_icmp_ge K dX2_has_7 (tgt := 27) (by decide) (fun c_7 => ?_) (fun c_7 => absurd c_7 (by rw [hs]; exact fun z => z (nI_le (by omega) (by omega))))
      refine a_iconst K dX2_has_27 (v := 0) (by decide) ?_
      exact a_iret K EE rfl (by omega) (by omega) dX2_has_28 ⟨rfl, Or.inr ⟨fun ⟨z, hz, e⟩ => by
    obtain ⟨k, hk, e2⟩ := List.mem_iff_getElem.mp hz
    exact hb k hk (by omega) (e2 ▸ e), rfl⟩⟩
    | succ i ih =>
      intro j x hx hi hb
      subst hx
      refine a_iload_n K dX2_has_2 rfl ?_
      have hj : j < L.length := by omega
      have hx := List.getElem?_eq_getElem hj
      first | refine a_aload_n K dX2_has_3 rfl ?_ | refine a_aload_nN K dX2_has_3 rfl ?_
      refine a_getI K fd_X2_21 (by assumption) (Or.inl rfl) dX2_has_4 ?_
      refine a_icmp_ge K dX2_has_7 (tgt := 27) (by decide) (fun c_7 => absurd c_7 (by rw [hs]; exact nI_ge hj (by omega))) (fun c_7 => ?_)
      first | refine a_aload_n K dX2_has_10 rfl ?_ | refine a_aload_nN K dX2_has_10 rfl ?_
      refine a_iload_n K dX2_has_11 rfl ?_
      refine a_invV K (m_Ls_nodeAt hL (show j < 2 ^ 31 by omega)) my_X2_nodeAt ml_X2_48 im_X2_nodeAt se_X2_nodeAt (ci := 2) (by assumption) (by decide) ⟨_, _, rfl⟩ rfl (by omega) (by omega) (by omega) rfl (Nat.le_of_ble_eq_true rfl) dX2_has_12 ?_
      intro r9 S9 hp9
      obtain ⟨rfl, hS9⟩ := hp9
      obtain rfl := hS9.symm
      rw [hx]
      first | refine a_aload_n K dX2_has_15 rfl ?_ | refine a_aload_nN K dX2_has_15 rfl ?_
      refine a_acmp_ne K dX2_has_16 (tgt := 21) (by decide) (rx := some (ad L[j].2.1)) (rz := some b) rfl rfl (fun c_16 => ?_) (fun c_16 => ?_)
      · refine a_iinc K dX2_has_21 (v := 1) rfl (by decide) (by decide) ?_
        refine a_goto K dX2_has_24 (tgt := 2) (by decide) ?_
        exact aw_locl rfl (ih (j + 1) _ (nI_1 j) (by omega) (fun k hk hkj e => (Nat.lt_succ_iff_lt_or_eq.mp hkj).elim (fun z => hb k hk z e) (fun z => by subst z; exact c_16 (by rw [e]))))
      · refine a_iconst K dX2_has_19 (v := 1) (by decide) ?_
        exact a_iret K EE rfl (by omega) (by omega) dX2_has_20 ⟨rfl, Or.inl ⟨⟨L[j], List.getElem_mem hj, by first | exact Option.some.inj c_16 | exact Option.some.inj (Classical.not_not.mp c_16)⟩, rfl⟩⟩
  refine a_iconst K dX2_has_0 (v := 0) (by decide) ?_
  refine a_istore_n K dX2_has_1 (by decide) ?_
  exact aw_locl rfl (loop L.length 0 0 nI_0.symm (by omega) (fun k _ hk => absurd hk (by omega)))
theorem mkS_at {m0 : Nat → Bool} {L : List Tz} {j : Nat} (hj : j < L.length) : mkS m0 (L.take (j + 1)) = fun i => mkS m0 (L.take j) i || i == L[j].2.1 := by
  funext i
  unfold mkS
  rw [List.take_succ_eq_append_getElem hj, List.any_append, List.any_cons, List.any_nil, Bool.or_false, Bool.or_assoc]
theorem mkS_old {m1 : Nat → Bool} {k : Nat} (h : m1 k = true) : (fun i => m1 i || i == k) = m1 := by
  funext i
  by_cases e : i = k
  · subst e
    rw [h]
    rfl
  · rw [show (i == k) = false from by simp [e], Bool.or_false]
/-- only marks have changed: those of these nodes are m now -/
def mkR (S T : aw_S) (ad : Nat → Nat) (m : Int32) (ids : List Nat) : Prop := (sL T = sL S ∧ sK T = sK S ∧ sR T = sR S ∧ sN T = sN S ∧ sJ T = sJ S ∧ sB T = sB S ∧ sA T = sA S ∧ sQ T = sQ S) ∧ (∀ F b, F ≠ 260 → sI T F b = sI S F b) ∧ ∀ b, sI T 260 b = if ∃ i ∈ ids, b = ad i then m else sI S 260 b
theorem mkR.rf {S : aw_S} {ad : Nat → Nat} {m : Int32} : mkR S S ad m [] := ⟨⟨rfl, rfl, rfl, rfl, rfl, rfl, rfl, rfl⟩, fun _ _ _ => rfl, fun b => by rw [if_neg (fun ⟨i, hi, _⟩ => absurd hi (by simp))]⟩
theorem mkR.w {S T : aw_S} {ad : Nat → Nat} {m : Int32} {ids : List Nat} (h : mkR S T ad m ids) (k : Nat) : mkR S (wI T 260 (ad k) m) ad m (ids ++ [k]) := by
  obtain ⟨h1, h2, h3⟩ := h
  refine ⟨h1, fun F b hF => by rw [sI_wI, if_neg (fun z => hF z.1)]; exact h2 F b hF, fun b => ?_⟩
  rw [sI_wI]
  by_cases hb : b = ad k
  · rw [if_pos ⟨rfl, hb⟩, if_pos ⟨k, List.mem_append_right _ List.mem_cons_self, hb⟩]
  · rw [if_neg (fun z => hb z.2), h3 b]
    by_cases hi : ∃ i ∈ ids, b = ad i
    · obtain ⟨i, hi, e⟩ := hi
      rw [if_pos ⟨i, hi, e⟩, if_pos ⟨i, List.mem_append_left _ hi, e⟩]
    · have hn : ¬ ∃ i ∈ ids ++ [k], b = ad i := fun ⟨i, h5, e⟩ => (List.mem_append.mp h5).elim (fun h6 => hi ⟨i, h6, e⟩) (fun h6 => hb (by rw [List.mem_singleton.mp h6] at e; exact e))
      rw [if_neg hi, if_neg hn]
theorem mkR.old {S T : aw_S} {ad : Nat → Nat} {m : Int32} {ids : List Nat} (h : mkR S T ad m ids) {k : Nat} (hk : sI T 260 (ad k) = m) : mkR S T ad m (ids ++ [k]) := by
  obtain ⟨h1, h2, h3⟩ := h
  refine ⟨h1, h2, fun b => ?_⟩
  by_cases hb : b = ad k
  · rw [if_pos ⟨k, List.mem_append_right _ List.mem_cons_self, hb⟩, hb]
    exact hk
  · rw [h3 b]
    by_cases hi : ∃ i ∈ ids, b = ad i
    · obtain ⟨i, hi, e⟩ := hi
      rw [if_pos ⟨i, hi, e⟩, if_pos ⟨i, List.mem_append_left _ hi, e⟩]
    · have hn : ¬ ∃ i ∈ ids ++ [k], b = ad i := fun ⟨i, h5, e⟩ => (List.mem_append.mp h5).elim (fun h6 => hi ⟨i, h6, e⟩) (fun h6 => hb (by rw [List.mem_singleton.mp h6] at e; exact e))
      rw [if_neg hi, if_neg hn]
theorem mkR.is {S T : aw_S} {ad : Nat → Nat} {m : Int32} {ids : List Nat} (h : mkR S T ad m ids) {a c : Nat} (k : aw_is S a c) : aw_is T a c := ⟨by rw [h.1.1]; exact k.1, by rw [h.1.2.1]; exact k.2⟩
theorem LsW.mk_ {S T : aw_S} {ad ad2 : Nat → Nat} {m : Int32} {ids : List Nat} {l na da H : Nat} {L : List Tz} (hL : LsW S ad l na da H L) (h : mkR S T ad2 m ids) : LsW T ad l na da H L := by
  obtain ⟨h1, h2, h3, h4, h5, h6, h7, h9, h10, h11⟩ := hL
  obtain ⟨⟨e1, e2, e3, e4, e5, e6, e7, e8⟩, k2, k3⟩ := id h
  exact ⟨h.is h1, by rw [e3]; exact h2, by rw [e3]; exact h3, h.is h4, h.is h5, by rw [e4]; exact h6, by rw [e4]; exact h7, by rw [k2 130 _ (by decide)]; exact h9, h10, fun i x hx => by
    rw [e8, e7]
    obtain ⟨q1, q2, q3⟩ := h11 i x hx
    exact ⟨q1, q2, h.is q3⟩⟩
/-- which nodes bear the mark after -/
theorem mkR.tr {S T : aw_S} {ad ar : Nat → Nat} {m : Int32} {u : Nat} {L : List Tz} {m0 : Nat → Bool} (h : mkR S T ad m (L.map (fun z => z.2.1))) (hA : AD S ad ar u) (hu : ∀ z ∈ L, z.2.1 < u) (h0 : ∀ i, i < u → (sI S 260 (ad i) = m ↔ m0 i = true)) : ∀ i, i < u → (sI T 260 (ad i) = m ↔ mkS m0 L i = true) := by
  intro i hi
  rw [h.2.2 (ad i)]
  unfold mkS
  rw [Bool.or_eq_true, List.any_eq_true]
  by_cases hm : ∃ k ∈ L.map (fun z => z.2.1), ad i = ad k
  · rw [if_pos hm]
    obtain ⟨k, hk, e⟩ := hm
    obtain ⟨z, hz, rfl⟩ := List.mem_map.mp hk
    have e2 := ((hA i hi).2 _ (hu z hz)).1 e
    exact ⟨fun _ => Or.inr ⟨z, hz, by rw [e2]; exact beq_self_eq_true _⟩, fun _ => rfl⟩
  · rw [if_neg hm, h0 i hi]
    refine ⟨Or.inl, fun z => z.elim id (fun ⟨z, hz, e⟩ => absurd ⟨z.2.1, List.mem_map_of_mem hz, by rw [eq_of_beq e]⟩ hm)⟩
set_option maxHeartbeats 4000000 in
set_option maxRecDepth 100000 in
theorem m_Ls_mark {S : aw_S} {ad : Nat → Nat} {l na da H : Nat} {L : List Tz} {ar : Nat → Nat} {u R : Nat} {mm : Int32} {m0 : Nat → Bool} (hL : LsW S ad l na da H L) (hA : AD S ad ar u) (hu : ∀ z ∈ L, z.2.1 < u) (h0 : ∀ i, i < u → (sI S 260 (ad i) = mm ↔ m0 i = true)) (hq : mkC m0 L 0 = R) : aw_M yX2_mark cX2_mark 5 (some FieldType.int) 1 0 0 [.ref l, .int mm] S (fun r2 S2 => r2 = some (.int (nI R)) ∧ mkR S S2 ad mm (L.map (fun z => z.2.1))) := by
  have oL := hL.1
  have h64 := hL.2.2.2.2.2.2.2.2.1
  have hs := hL.2.2.2.2.2.2.2.1
  have e0 : mkS m0 (L.take 0) = m0 := by funext i; show (m0 i || false) = _; rw [Bool.or_false]
  refine aw_enter (by decide +kernel) (Nat.le_of_ble_eq_true rfl) (fun g K EE => ?_)
  have loop : ∀ (i j n : Nat) (x b : Int32) (T : aw_S), x = nI j → b = nI n → j + i = L.length → mkR S T ad mm ((L.take j).map (fun z => z.2.1)) → mkC (mkS m0 (L.take j)) (L.drop j) n = R → aw g 5 T 0 0 [(3, .int x), (2, .int b), (1, .int mm), (0, .ref l)] [] 4 := by
    intro i
    induction i with
    | zero =>
      intro j n x b T hx hb0 hi hT hb
      subst hx
      subst hb0
      have oT := hT.is oL
      have hsT : sI T 130 l = nI L.length := by rw [hT.2.1 130 _ (by decide)]; exact hs
      refine a_iload_n K dX2_mark_4 rfl ?_
      first | refine a_aload_n K dX2_mark_5 rfl ?_ | refine a_aload_nN K dX2_mark_5 rfl ?_
      refine a_getI K fd_X2_21 (by assumption) (Or.inl rfl) dX2_mark_6 ?_
      refine a_icmp_ge K dX2_mark_9 (tgt := 48) (by decide) (fun c_9 => ?_) (fun c_9 => absurd c_9 (by rw [hsT]; exact fun z => z (nI_le (by omega) (by omega))))
      refine a_iload_n K dX2_mark_48 rfl ?_
      exact a_iret K EE rfl (by omega) (by omega) dX2_mark_49 ⟨by rw [← hb, show j = L.length by omega, List.drop_length]; rfl, by rw [show j = L.length by omega, List.take_length] at hT; exact hT⟩
    | succ i ih =>
      intro j n x b T hx hb0 hi hT hb
      subst hx
      subst hb0
      have oT := hT.is oL
      have hsT : sI T 130 l = nI L.length := by rw [hT.2.1 130 _ (by decide)]; exact hs
      refine a_iload_n K dX2_mark_4 rfl ?_
      have hj : j < L.length := by omega
      have hx := List.getElem?_eq_getElem hj
      first | refine a_aload_n K dX2_mark_5 rfl ?_ | refine a_aload_nN K dX2_mark_5 rfl ?_
      refine a_getI K fd_X2_21 (by assumption) (Or.inl rfl) dX2_mark_6 ?_
      refine a_icmp_ge K dX2_mark_9 (tgt := 48) (by decide) (fun c_9 => absurd c_9 (by rw [hsT]; exact nI_ge hj (by omega))) (fun c_9 => ?_)
      first | refine a_aload_n K dX2_mark_12 rfl ?_ | refine a_aload_nN K dX2_mark_12 rfl ?_
      refine a_iload_n K dX2_mark_13 rfl ?_
      refine a_invV K (m_Ls_nodeAt (LsW.mk_ hL hT) (show j < 2 ^ 31 by omega)) my_X2_nodeAt ml_X2_48 im_X2_nodeAt se_X2_nodeAt (ci := 2) (by assumption) (by decide) ⟨_, _, rfl⟩ rfl (by omega) (by omega) (by omega) rfl (Nat.le_of_ble_eq_true rfl) dX2_mark_14 ?_
      intro r9 S9 hp9
      obtain ⟨rfl, hS9⟩ := hp9
      obtain rfl := hS9.symm
      rw [hx]
      first | refine a_astore K dX2_mark_17 (by decide) ?_ | refine a_astoreN K dX2_mark_17 (by decide) ?_
      first | refine a_aload K dX2_mark_19 rfl ?_ | refine a_aloadN K dX2_mark_19 rfl ?_
      refine a_ifnull K dX2_mark_21 ?_
      have oN : aw_is T (ad L[j].2.1) 4 := hT.is (hL.2.2.2.2.2.2.2.2.2 j _ hx).2.2
      have hmT := mkR.tr hT hA (fun z hz => hu z (List.mem_of_mem_take hz)) h0 L[j].2.1 (hu _ (List.getElem_mem hj))
      rw [mkC_at hj] at hb
      first | refine a_aload K dX2_mark_24 rfl ?_ | refine a_aloadN K dX2_mark_24 rfl ?_
      refine a_iload_n K dX2_mark_26 rfl ?_
      refine a_invV K (m_X4_bears (m := mm) oN) my_X4_bears ml_X2_54 im_X4_bears se_X4_bears (ci := 4) (by assumption) (by decide) ⟨_, _, rfl⟩ rfl (by omega) (by omega) (by omega) rfl (Nat.le_of_ble_eq_true rfl) dX2_mark_27 ?_
      intro r9 S9 hp9
      obtain ⟨hS9, hb9⟩ := hp9
      obtain rfl := hS9.symm
      rcases hb9 with ⟨b_27, rfl⟩ | ⟨b_27, rfl⟩
      · refine a_if_ne K dX2_mark_30 (tgt := 42) (by decide) (fun _ => ?_) (fun z => absurd z (by decide))
        refine a_iinc K dX2_mark_42 (v := 1) rfl (by decide) (by decide) ?_
        refine a_goto K dX2_mark_45 (tgt := 4) (by decide) ?_
        exact aw_locl rfl (by first | exact ih (j + 1) _ _ _ T (nI_1 j) rfl (by omega) (by rw [List.take_succ_eq_append_getElem hj, List.map_append]; exact hT.old b_27) (by rw [mkS_at hj, mkS_old (hmT.mp b_27)]; rw [if_pos (hmT.mp b_27)] at hb; exact hb) | exact ih (j + 1) _ _ _ _ (nI_1 j) (nI_1 n) (by omega) (by rw [List.take_succ_eq_append_getElem hj, List.map_append]; exact hT.w L[j].2.1) (by rw [mkS_at hj]; rw [if_neg (fun z => b_27 (hmT.mpr z))] at hb; exact hb))
      · refine a_if_ne K dX2_mark_30 (tgt := 42) (by decide) (fun z => absurd z (by decide)) (fun _ => ?_)
        first | refine a_aload K dX2_mark_33 rfl ?_ | refine a_aloadN K dX2_mark_33 rfl ?_
        refine a_iload_n K dX2_mark_35 rfl ?_
        refine a_invV K (m_X4_bear oN) my_X4_bear ml_X2_58 im_X4_bear se_X4_bear (ci := 4) (by assumption) (by decide) ⟨_, _, rfl⟩ rfl (by omega) (by omega) (by omega) rfl (Nat.le_of_ble_eq_true rfl) dX2_mark_36 ?_
        intro r9 S9 hp9
        obtain ⟨rfl, hS9⟩ := hp9
        obtain rfl := hS9.symm
        refine a_iinc K dX2_mark_39 (v := 1) rfl (by decide) (by decide) ?_
        refine a_iinc K dX2_mark_42 (v := 1) rfl (by decide) (by decide) ?_
        refine a_goto K dX2_mark_45 (tgt := 4) (by decide) ?_
        exact aw_locl rfl (by first | exact ih (j + 1) _ _ _ T (nI_1 j) rfl (by omega) (by rw [List.take_succ_eq_append_getElem hj, List.map_append]; exact hT.old b_27) (by rw [mkS_at hj, mkS_old (hmT.mp b_27)]; rw [if_pos (hmT.mp b_27)] at hb; exact hb) | exact ih (j + 1) _ _ _ _ (nI_1 j) (nI_1 n) (by omega) (by rw [List.take_succ_eq_append_getElem hj, List.map_append]; exact hT.w L[j].2.1) (by rw [mkS_at hj]; rw [if_neg (fun z => b_27 (hmT.mpr z))] at hb; exact hb))
  refine a_iconst K dX2_mark_0 (v := 0) (by decide) ?_
  refine a_istore_n K dX2_mark_1 (by decide) ?_
  refine a_iconst K dX2_mark_2 (v := 0) (by decide) ?_
  refine a_istore_n K dX2_mark_3 (by decide) ?_
  exact aw_locl rfl (loop L.length 0 0 0 0 S nI_0.symm nI_0.symm (by omega) mkR.rf (by rw [e0]; exact hq))
set_option maxHeartbeats 4000000 in
set_option maxRecDepth 100000 in
theorem m_Ls_levels {S : aw_S} {ad : Nat → Nat} {l na da H : Nat} {L : List Tz} {z : Tz} (hL : LsW S ad l na da H L) (hz : L[L.length - 1]? = some z) (h0 : z.1 = 0) : aw_M yX2_levels cX2_levels 1 (some FieldType.int) 1 0 0 [.ref l] S (fun r2 S2 => r2 = some (.int (nI (H + 1))) ∧ S2 = S) := by
  have oL := hL.1
  have h64 := hL.2.2.2.2.2.2.2.2.1
  have hs := hL.2.2.2.2.2.2.2.1
  have hpos := (List.getElem?_eq_some_iff.mp hz).1
  refine aw_enter (by decide +kernel) (Nat.le_of_ble_eq_true rfl) (fun g K EE => ?_)
  first | refine a_aload_n K dX2_levels_0 rfl ?_ | refine a_aload_nN K dX2_levels_0 rfl ?_
  first | refine a_aload_n K dX2_levels_1 rfl ?_ | refine a_aload_nN K dX2_levels_1 rfl ?_
  refine a_getI K fd_X2_21 (by assumption) (Or.inl rfl) dX2_levels_2 ?_
  rw [hs]
  refine a_iconst K dX2_levels_5 (v := 1) (by decide) ?_
  refine a_isub K dX2_levels_6 ?_
  rw [show nI L.length - 1 = nI (L.length - 1) from by rw [show nI L.length = nI (L.length - 1 + 1) from by rw [show L.length - 1 + 1 = L.length by omega]]; exact nI_pred _]
  refine a_invV K (m_Ls_depthAt hL hz) my_X2_depthAt ml_X2_44 im_X2_depthAt se_X2_depthAt (ci := 2) (by assumption) (by decide) ⟨_, _, rfl⟩ rfl (by omega) (by omega) (by omega) rfl (Nat.le_of_ble_eq_true rfl) dX2_levels_7 ?_
  intro r9 S9 hp9
  obtain ⟨rfl, hS9⟩ := hp9
  obtain rfl := hS9.symm
  refine a_iconst K dX2_levels_10 (v := 1) (by decide) ?_
  refine a_iadd K dX2_levels_11 ?_
  exact a_iret K EE rfl (by omega) (by omega) dX2_levels_12 ⟨by rw [h0, Nat.sub_zero, nI_1], rfl⟩
