/-! nodes counted over all maps -/
def sbO : Option Tz → List Tz
  | none => []
  | some z => sub z.1 z.2
theorem m_fillO {S : aw_S} {v ad ar : Nat → Nat} {PA : List (Nat × Nat)} {X : List Nat} {mb : Nat} {P : PS} (h : RC S v ad ar PA X mb P) (hw : 3 ≤ pW P) {zo : Option Tz} (ht : ∀ z, zo = some z → TT_ S ad ar P z) : aw_M yX2_fill cX2_fill 2 (none : Option FieldType) 6 0 0 [.ref (v 34), va_rf (zo.map (fun z => ad z.2.1))] S (fun r2 S2 => r2 = none ∧ (∃ H, LsW S2 ad (v 34) (v 35) (v 36) H (sbO zo)) ∧ LsO S2 ad ar (sbO zo) ∧ (∀ z ∈ sbO zo, z.2.1 < pU P) ∧ RC S2 v ad ar PA X mb P ∧ keepX X S S2 ∧ frS S S2 (Qls (v 34) (v 35) (v 36))) := by
  cases zo with
  | none =>
    refine ((m_Ls_fill_null (ad := ad) (H2 := 0) (lw_Ls h.L)).post (fun r2 S2 hp => ?_)).le (by decide) (Nat.le_refl _) (Nat.le_refl _)
    obtain ⟨a, b, f⟩ := hp
    obtain ⟨c, d⟩ := h.scr f (scr_Ls v)
    exact ⟨a, ⟨0, b⟩, fun z hz => absurd hz (by simp [sbO]), fun z hz => absurd hz (by simp [sbO]), c, d, f⟩
  | some z =>
    have t := ht z rfl
    have h4 := (t.2.h4 hw).1
    refine ((m_fillL h hw t).post (fun r2 S2 hp => ?_)).le (by omega) (Nat.le_refl _) (Nat.le_refl _)
    obtain ⟨a, b, c, d, f⟩ := hp
    have t2 := TT_.fr h f (scr_Ls v) t
    exact ⟨a, ⟨z.1, b⟩, LsO_sub z.1 t2.1.1, sub_ids t2.1.2, c, d, f⟩
theorem rootP_nI {P : PS} {j : Nat} (hj : j < (pM P).length) (hl : (pM P).length ≤ 999) : rootP P (nI j) = if pH P j then ((pM P)[j]?).map (fun x => x.1) else none := by
  unfold rootP
  rw [nI_toInt (by omega), if_pos (by omega), nI_clamp (by omega)]
/-- in how many maps held a node is -/
def hwN (P : PS) (id : Nat) (n : Nat) : Nat := (List.range n).countP (fun i => (sbO (rootP P (nI i))).any (fun y => y.2.1 == id))
set_option maxHeartbeats 4000000 in
set_option maxRecDepth 100000 in
theorem c_mapsWith {S : aw_S} {v ad ar : Nat → Nat} {PA : List (Nat × Nat)} {X : List Nat} {mb : Nat} {P : PS} (h : RC S v ad ar PA X mb P) (hP : PI P) {id : Nat} (hid : id < pU P) : aw_M yX10_mapsWith cX10_mapsWith 4 (some FieldType.int) 9 0 0 [.ref (v 4), .ref (ad id)] S (fun r S2 => r = some (.int (nI (hwN P id (pM P).length))) ∧ RC S2 v ad ar PA X mb P ∧ keepX X S S2) := by
  have hL := h.L
  refine aw_enter (by decide +kernel) (Nat.le_of_ble_eq_true rfl) (fun g K EE => ?_)
  have loop : ∀ (i j : Nat) (x : Int32) (T : aw_S), x = nI j → j + i = (pM P).length → RC T v ad ar PA X mb P → keepX X S T → aw g 4 T 0 0 [(3, .int x), (2, .int (nI (hwN P id j))), (1, .ref (ad id)), (0, .ref (v 4))] [] 4 := by
    intro i
    induction i with
    | zero =>
      intro j x T hx hi hT kT
      subst hx
      have hL := hT.L
      have hl9 := hT.2.2.1.2.1
      refine a_iload_n K dX10_mapsWith_4 rfl ?_
      first | refine a_aload_n K dX10_mapsWith_5 rfl ?_ | refine a_aload_nN K dX10_mapsWith_5 rfl ?_
      refine a_getRs K fd_X10_46 (lw_i4 hL) (Or.inl ⟨_, rfl⟩) (lw_f646 hL) dX10_mapsWith_6 ?_
      refine a_invV K (m_X3_given (lw_i6 hL)) my_X3_given ml_X10_228 im_X3_given se_X3_given (ci := 3) (lw_i6 hL) (by decide) ⟨_, _, rfl⟩ rfl (by omega) (by omega) (by omega) rfl (Nat.le_of_ble_eq_true rfl) dX10_mapsWith_9 ?_
      intro r9 S9 hp9
      obtain ⟨rfl, hS9⟩ := hp9
      obtain rfl := hS9.symm
      rw [hT.lg.1]
      refine a_icmp_ge K dX10_mapsWith_12 (tgt := 50) (by decide) (fun c_12 => ?_) (fun c_12 => absurd c_12 (fun z => z (nI_le (by omega) (by omega))))
      refine a_iload_n K dX10_mapsWith_50 rfl ?_
      exact a_iret K EE rfl (by omega) (by omega) dX10_mapsWith_51 ⟨by rw [show j = (pM P).length by omega], hT, kT⟩
    | succ i ih =>
      intro j x T hx hi hT kT
      subst hx
      have hL := hT.L
      have hl9 := hT.2.2.1.2.1
      have hw1 : (sbO (rootP P (nI j))).any (fun y => y.2.1 == id) = true → hwN P id (j + 1) = hwN P id j + 1 := fun q => by
        unfold hwN
        rw [List.range_succ, List.countP_append, List.countP_singleton, q]
        rfl
      have hw0 : ¬ (sbO (rootP P (nI j))).any (fun y => y.2.1 == id) = true → hwN P id (j + 1) = hwN P id j := fun q => by
        unfold hwN
        rw [List.range_succ, List.countP_append, List.countP_singleton, if_neg q]
        rfl
      refine a_iload_n K dX10_mapsWith_4 rfl ?_
      first | refine a_aload_n K dX10_mapsWith_5 rfl ?_ | refine a_aload_nN K dX10_mapsWith_5 rfl ?_
      refine a_getRs K fd_X10_46 (lw_i4 hL) (Or.inl ⟨_, rfl⟩) (lw_f646 hL) dX10_mapsWith_6 ?_
      refine a_invV K (m_X3_given (lw_i6 hL)) my_X3_given ml_X10_228 im_X3_given se_X3_given (ci := 3) (lw_i6 hL) (by decide) ⟨_, _, rfl⟩ rfl (by omega) (by omega) (by omega) rfl (Nat.le_of_ble_eq_true rfl) dX10_mapsWith_9 ?_
      intro r9 S9 hp9
      obtain ⟨rfl, hS9⟩ := hp9
      obtain rfl := hS9.symm
      rw [hT.lg.1]
      refine a_icmp_ge K dX10_mapsWith_12 (tgt := 50) (by decide) (fun c_12 => absurd c_12 (nI_ge (by omega) (by omega))) (fun c_12 => ?_)
      first | refine a_aload_n K dX10_mapsWith_15 rfl ?_ | refine a_aload_nN K dX10_mapsWith_15 rfl ?_
      refine a_getRs K fd_X10_90 (lw_i4 hL) (Or.inl ⟨_, rfl⟩) (lw_f655 hL) dX10_mapsWith_16 ?_
      first | refine a_aload_n K dX10_mapsWith_19 rfl ?_ | refine a_aload_nN K dX10_mapsWith_19 rfl ?_
      refine a_getRs K fd_X10_46 (lw_i4 hL) (Or.inl ⟨_, rfl⟩) (lw_f646 hL) dX10_mapsWith_20 ?_
      refine a_iload_n K dX10_mapsWith_23 rfl ?_
      refine a_invV K (m_root hT (nI j)) my_X3_heldRoot ml_X10_165 im_X3_heldRoot se_X3_heldRoot (ci := 3) (lw_i6 hL) (by decide) ⟨_, _, rfl⟩ rfl (by omega) (by omega) (by omega) rfl (Nat.le_of_ble_eq_true rfl) dX10_mapsWith_24 ?_
      intro r9 S9 hp9
      obtain ⟨rfl, hS9⟩ := hp9
      obtain rfl := hS9.symm
      refine a_invV K (m_fillO hT hP.1.1 (zo := rootP P (nI j)) (fun z hz => hT.tt hP hz)) my_X2_fill ml_X10_181 im_X2_fill se_X2_fill (ci := 2) (lw_i34 hL) (by decide) ⟨_, _, rfl⟩ rfl (by omega) (by omega) (by omega) rfl (Nat.le_of_ble_eq_true rfl) dX10_mapsWith_27 ?_
      intro r9 T2 hp9
      obtain ⟨rfl, ⟨H, hLs⟩, hO, hu, h3, k3, f3⟩ := hp9
      have hL := h3.L
      have hE : (∃ z ∈ sbO (rootP P (nI j)), ad z.2.1 = ad id) ↔ (sbO (rootP P (nI j))).any (fun y => y.2.1 == id) = true := by
        rw [List.any_eq_true]
        exact ⟨fun ⟨z, hz, e⟩ => ⟨z, hz, by simpa using ((h3.2.2.2.2.2.2.2.2.1.1 z.2.1 (hu z hz)).2 id hid).1 e⟩, fun ⟨z, hz, e⟩ => ⟨z, hz, by rw [show z.2.1 = id by simpa using e]⟩⟩
      first | refine a_aload_n K dX10_mapsWith_30 rfl ?_ | refine a_aload_nN K dX10_mapsWith_30 rfl ?_
      refine a_getRs K fd_X10_90 (lw_i4 hL) (Or.inl ⟨_, rfl⟩) (lw_f655 hL) dX10_mapsWith_31 ?_
      first | refine a_aload_n K dX10_mapsWith_34 rfl ?_ | refine a_aload_nN K dX10_mapsWith_34 rfl ?_
      refine a_invV K (m_Ls_has (b := ad id) hLs) my_X2_has ml_X10_231 im_X2_has se_X2_has (ci := 2) (lw_i34 hL) (by decide) ⟨_, _, rfl⟩ rfl (by omega) (by omega) (by omega) rfl (Nat.le_of_ble_eq_true rfl) dX10_mapsWith_35 ?_
      intro r9 S9 hp9
      obtain ⟨hS9, hb9⟩ := hp9
      obtain rfl := hS9.symm
      rcases hb9 with ⟨b_35, rfl⟩ | ⟨b_35, rfl⟩
      · refine a_if_eq K dX10_mapsWith_38 (tgt := 44) (by decide) (fun z => absurd z (by decide)) (fun _ => ?_)
        refine a_iinc K dX10_mapsWith_41 (v := 1) rfl (by decide) (by decide) ?_
        refine a_iinc K dX10_mapsWith_44 (v := 1) rfl (by decide) (by decide) ?_
        refine a_goto K dX10_mapsWith_47 (tgt := 4) (by decide) ?_
        first
          | exact aw_locl rfl (show aw g 4 T2 0 0 [(3, .int (nI j + 1)), (2, .int (nI (hwN P id j) + 1)), (1, .ref (ad id)), (0, .ref (v 4))] [] 4 by rw [nI_1 (hwN P id j), ← hw1 (hE.mp b_35)]; exact ih (j + 1) _ T2 (nI_1 j) (by omega) h3 (kT.tr k3))
          | exact aw_locl rfl (show aw g 4 T2 0 0 [(3, .int (nI j + 1)), (2, .int (nI (hwN P id j))), (1, .ref (ad id)), (0, .ref (v 4))] [] 4 by rw [← hw0 (fun q => b_35 (hE.mpr q))]; exact ih (j + 1) _ T2 (nI_1 j) (by omega) h3 (kT.tr k3))
      · refine a_if_eq K dX10_mapsWith_38 (tgt := 44) (by decide) (fun _ => ?_) (fun z => absurd z (by decide))
        refine a_iinc K dX10_mapsWith_44 (v := 1) rfl (by decide) (by decide) ?_
        refine a_goto K dX10_mapsWith_47 (tgt := 4) (by decide) ?_
        first
          | exact aw_locl rfl (show aw g 4 T2 0 0 [(3, .int (nI j + 1)), (2, .int (nI (hwN P id j) + 1)), (1, .ref (ad id)), (0, .ref (v 4))] [] 4 by rw [nI_1 (hwN P id j), ← hw1 (hE.mp b_35)]; exact ih (j + 1) _ T2 (nI_1 j) (by omega) h3 (kT.tr k3))
          | exact aw_locl rfl (show aw g 4 T2 0 0 [(3, .int (nI j + 1)), (2, .int (nI (hwN P id j))), (1, .ref (ad id)), (0, .ref (v 4))] [] 4 by rw [← hw0 (fun q => b_35 (hE.mpr q))]; exact ih (j + 1) _ T2 (nI_1 j) (by omega) h3 (kT.tr k3))
  refine a_iconst K dX10_mapsWith_0 (v := 0) (by decide) ?_
  refine a_istore_n K dX10_mapsWith_1 (by decide) ?_
  refine a_iconst K dX10_mapsWith_2 (v := 0) (by decide) ?_
  refine a_istore_n K dX10_mapsWith_3 (by decide) ?_
  exact aw_locl rfl (loop (pM P).length 0 _ S nI_0.symm (by omega) h h.X)
def nodZ (P : PS) (z : Tz) (i w : Int32) : Int32 := if 0 ≤ i.toInt ∧ i.toInt < (sub z.1 z.2).length then (match (sub z.1 z.2)[i.toNatClampNeg]? with
  | some y => if w = 0 then (if y.1 = 0 then 1 else 0) else if w = 1 then nI y.2.2.2.length else if w = 2 then low y.1 y.2 else if w = 3 then nI (z.1 - y.1) else if w = 4 then nI (hwN P y.2.1 (pM P).length) else if w = 5 then nI (cnt y.1 y.2) else -1000000
  | none => -1000000) else -1000000
def nodA (P : PS) (m i w : Int32) : Int32 := match rootP P m with
  | none => -1000000
  | some z => nodZ P z i w
/-- what stands below a tree in order is in order -/
theorem sub_fan {lo hi : Nat} (hl : 1 ≤ lo) : ∀ (h : Nat) {t : Tr h}, okT lo hi h t → ∀ y ∈ sub h t, okT lo hi y.1 y.2 ∧ y.1 ≤ h
  | 0, t, ok, y, hy => by
    rw [List.mem_singleton.mp hy]
    exact ⟨ok, Nat.le_refl _⟩
  | h + 1, t, ok, y, hy => by
    have hy : y ∈ (⟨h + 1, t⟩ : Tz) :: (kds t).flatMap (sub h) := hy
    rcases List.mem_cons.mp hy with rfl | hy
    · exact ⟨ok, Nat.le_refl _⟩
    · obtain ⟨c, hc, hy⟩ := List.mem_flatMap.mp hy
      have := sub_fan hl h (okT_fan hl (okT_k ok c hc)) y hy
      exact ⟨this.1, by omega⟩
theorem sub_rep {S : aw_S} {ad ar : Nat → Nat} : ∀ (h : Nat) {t : Tr h}, RepW S ad ar h t → ∀ y ∈ sub h t, RepW S ad ar y.1 y.2
  | 0, t, r, y, hy => by
    rw [List.mem_singleton.mp hy]
    exact r
  | h + 1, t, r, y, hy => by
    have hy : y ∈ (⟨h + 1, t⟩ : Tz) :: (kds t).flatMap (sub h) := hy
    rcases List.mem_cons.mp hy with rfl | hy
    · exact r
    · obtain ⟨c, hc, hy⟩ := List.mem_flatMap.mp hy
      exact sub_rep h (r.2 c hc) y hy
theorem m_nodeAt0 {S : aw_S} {ad : Nat → Nat} {l na da H : Nat} {i : Int32} (hL : LsW S ad l na da H []) : aw_M yX2_nodeAt cX2_nodeAt 2 (some (FieldType.object "WideMap$Node")) 0 0 0 [.ref l, .int i] S (fun r S2 => r = some .null ∧ S2 = S) := by
  rcases pk_ix i (n := 0) (by decide) with hi | hi | ⟨j, hj, -⟩
  · exact m_Ls_nodeAt_neg hL hi
  · obtain ⟨j, hj, rfl⟩ := nI_of (x := i) (fun z => by
      have h1 := i32_lt.mp z
      have h2 := i32_le.mp hi
      rw [nI_toInt (by decide)] at h2
      have e0 : (0 : Int32).toInt = 0 := by decide
      omega)
    exact (m_Ls_nodeAt hL hj).post (fun r S2 hp => ⟨by rw [hp.1]; rfl, hp.2⟩)
  · exact absurd hj (Nat.not_lt_zero _)
theorem m_nodeAtx {S : aw_S} {ad : Nat → Nat} {l na da H : Nat} {L : List Tz} {i : Int32} (hL : LsW S ad l na da H L) (hi : ¬ (0 ≤ i.toInt ∧ i.toInt < L.length)) : aw_M yX2_nodeAt cX2_nodeAt 2 (some (FieldType.object "WideMap$Node")) 0 0 0 [.ref l, .int i] S (fun r S2 => r = some .null ∧ S2 = S) := by
  have e0 : (0 : Int32).toInt = 0 := by decide
  by_cases hn : i < 0
  · exact m_Ls_nodeAt_neg hL hn
  · obtain ⟨j, hj, rfl⟩ := nI_of hn
    rw [nI_toInt hj] at hi
    exact (m_Ls_nodeAt hL hj).post (fun r S2 hp => ⟨by rw [hp.1, List.getElem?_eq_none_iff.mpr (by omega)]; rfl, hp.2⟩)
set_option maxHeartbeats 4000000 in
set_option maxRecDepth 100000 in
theorem c_node {S : aw_S} {v ad ar : Nat → Nat} {PA : List (Nat × Nat)} {X : List Nat} {mb : Nat} {P : PS} (h : RC S v ad ar PA X mb P) (hP : PI P) {m i w : Int32} : aw_M yX10_node cX10_node 5 (some FieldType.int) 10 0 0 [.ref (v 4), .int m, .int i, .int w] S (fun r S2 => r = some (.int (nodA P m i w)) ∧ RC S2 v ad ar PA X mb P ∧ keepX X S S2) := by
  have hL := h.L
  cases hz : rootP P m with
  | none =>
    refine aw_enter (by decide +kernel) (Nat.le_of_ble_eq_true rfl) (fun g K EE => ?_)
    first | refine a_aload_n K dX10_node_0 rfl ?_ | refine a_aload_nN K dX10_node_0 rfl ?_
    refine a_getRs K fd_X10_90 (lw_i4 hL) (Or.inl ⟨_, rfl⟩) (lw_f655 hL) dX10_node_1 ?_
    first | refine a_aload_n K dX10_node_4 rfl ?_ | refine a_aload_nN K dX10_node_4 rfl ?_
    refine a_getRs K fd_X10_46 (lw_i4 hL) (Or.inl ⟨_, rfl⟩) (lw_f646 hL) dX10_node_5 ?_
    refine a_iload_n K dX10_node_8 rfl ?_
    refine a_invV K (m_root h m) my_X3_heldRoot ml_X10_165 im_X3_heldRoot se_X3_heldRoot (ci := 3) (lw_i6 hL) (by decide) ⟨_, _, rfl⟩ rfl (by omega) (by omega) (by omega) rfl (Nat.le_of_ble_eq_true rfl) dX10_node_9 ?_
    intro r9 S9 hp9
    obtain ⟨rfl, hS9⟩ := hp9
    obtain rfl := hS9.symm
    refine a_invV K (m_fillO h hP.1.1 (zo := rootP P m) (fun z hz => h.tt hP hz)) my_X2_fill ml_X10_181 im_X2_fill se_X2_fill (ci := 2) (lw_i34 hL) (by decide) ⟨_, _, rfl⟩ rfl (by omega) (by omega) (by omega) rfl (Nat.le_of_ble_eq_true rfl) dX10_node_12 ?_
    intro r9 S3 hp9
    obtain ⟨rfl, ⟨H, hLs⟩, hO, hu, h3, k3, f3⟩ := hp9
    have hL := h3.L
    rw [hz] at hLs
    first | refine a_aload_n K dX10_node_15 rfl ?_ | refine a_aload_nN K dX10_node_15 rfl ?_
    refine a_getRs K fd_X10_90 (lw_i4 hL) (Or.inl ⟨_, rfl⟩) (lw_f655 hL) dX10_node_16 ?_
    refine a_iload_n K dX10_node_19 rfl ?_
    refine a_invV K (m_nodeAt0 hLs) my_X2_nodeAt ml_X10_206 im_X2_nodeAt se_X2_nodeAt (ci := 2) (lw_i34 hL) (by decide) ⟨_, _, rfl⟩ rfl (by omega) (by omega) (by omega) rfl (Nat.le_of_ble_eq_true rfl) dX10_node_20 ?_
    intro r9 S9 hp9
    obtain ⟨rfl, hS9⟩ := hp9
    obtain rfl := hS9.symm
    first | refine a_astore K dX10_node_23 (by decide) ?_ | refine a_astoreN K dX10_node_23 (by decide) ?_
    first | refine a_aload K dX10_node_25 rfl ?_ | refine a_aloadN K dX10_node_25 rfl ?_
    refine a_ifnonnullN K dX10_node_27 ?_
    refine a_ldc K kc_X10_180 dX10_node_30 ?_
    exact a_iret K EE rfl (by omega) (by omega) dX10_node_32 ⟨by unfold nodA; rw [hz], h3, k3⟩
  | some z =>
    have t := h.tt hP hz
    obtain ⟨hz4, h61, -⟩ := t.2.h4 hP.1.1
    by_cases hi : 0 ≤ i.toInt ∧ i.toInt < (sub z.1 z.2).length
    · obtain ⟨j, hj9, rfl⟩ := nI_of (x := i) (by rw [i32_lt]; show ¬ i.toInt < 0; omega)
      have hj : j < (sub z.1 z.2).length := by rw [nI_toInt hj9] at hi; omega
      obtain ⟨y, hy⟩ : ∃ y : Tz, (sub z.1 z.2)[j]? = some y := ⟨_, List.getElem?_eq_getElem hj⟩
      refine aw_enter (by decide +kernel) (Nat.le_of_ble_eq_true rfl) (fun g K EE => ?_)
      first | refine a_aload_n K dX10_node_0 rfl ?_ | refine a_aload_nN K dX10_node_0 rfl ?_
      refine a_getRs K fd_X10_90 (lw_i4 hL) (Or.inl ⟨_, rfl⟩) (lw_f655 hL) dX10_node_1 ?_
      first | refine a_aload_n K dX10_node_4 rfl ?_ | refine a_aload_nN K dX10_node_4 rfl ?_
      refine a_getRs K fd_X10_46 (lw_i4 hL) (Or.inl ⟨_, rfl⟩) (lw_f646 hL) dX10_node_5 ?_
      refine a_iload_n K dX10_node_8 rfl ?_
      refine a_invV K (m_root h m) my_X3_heldRoot ml_X10_165 im_X3_heldRoot se_X3_heldRoot (ci := 3) (lw_i6 hL) (by decide) ⟨_, _, rfl⟩ rfl (by omega) (by omega) (by omega) rfl (Nat.le_of_ble_eq_true rfl) dX10_node_9 ?_
      intro r9 S9 hp9
      obtain ⟨rfl, hS9⟩ := hp9
      obtain rfl := hS9.symm
      rw [hz]
      refine a_invV K (m_fillL h hP.1.1 t) my_X2_fill ml_X10_181 im_X2_fill se_X2_fill (ci := 2) (lw_i34 hL) (by decide) ⟨_, _, rfl⟩ rfl (by omega) (by omega) (by omega) rfl (Nat.le_of_ble_eq_true rfl) dX10_node_12 ?_
      intro r9 S3 hp9
      obtain ⟨rfl, hLs, h3, k3, f3⟩ := hp9
      have hL := h3.L
      have t3 := TT_.fr h f3 (scr_Ls v) t
      first | refine a_aload_n K dX10_node_15 rfl ?_ | refine a_aload_nN K dX10_node_15 rfl ?_
      refine a_getRs K fd_X10_90 (lw_i4 hL) (Or.inl ⟨_, rfl⟩) (lw_f655 hL) dX10_node_16 ?_
      refine a_iload_n K dX10_node_19 rfl ?_
      refine a_invV K (m_Ls_nodeAt hLs (show j < 2 ^ 31 by omega)) my_X2_nodeAt ml_X10_206 im_X2_nodeAt se_X2_nodeAt (ci := 2) (lw_i34 hL) (by decide) ⟨_, _, rfl⟩ rfl (by omega) (by omega) (by omega) rfl (Nat.le_of_ble_eq_true rfl) dX10_node_20 ?_
      intro r9 S9 hp9
      obtain ⟨rfl, hS9⟩ := hp9
      obtain rfl := hS9.symm
      rw [hy]
      first | refine a_astore K dX10_node_23 (by decide) ?_ | refine a_astoreN K dX10_node_23 (by decide) ?_
      first | refine a_aload K dX10_node_25 rfl ?_ | refine a_aloadN K dX10_node_25 rfl ?_
      refine a_ifnonnull K dX10_node_27 (tgt := 33) (by decide) ?_
      have ny := sub_rep z.1 t3.1.1 y (List.mem_of_getElem? hy)
      have oy := ny.is
      have fy := sub_fan (show 1 ≤ lea (pW P) by have := hP.1.1; unfold lea; omega) z.1 t.2.1.ok y (List.mem_of_getElem? hy)
      have ney : NeT y.1 y.2 := NeT_fan (show 1 ≤ lea (pW P) by have := hP.1.1; unfold lea; omega) y.1 fy.1
      by_cases w0 : w = 0
      · subst w0
        refine a_iload_n K dX10_node_33 rfl ?_
        refine a_tsIn K dX10_node_34 (off := 38) (tgt := 72) (by decide) (by decide) rfl (by decide) ?_
        first | refine a_aload K dX10_node_72 rfl ?_ | refine a_aloadN K dX10_node_72 rfl ?_
        refine a_invV K (m_isLeaf_z ny.own) my_X4_isLeaf ml_X10_209 im_X4_isLeaf se_X4_isLeaf (ci := 4) (by assumption) (by decide) ⟨_, _, rfl⟩ rfl (by omega) (by omega) (by omega) rfl (Nat.le_of_ble_eq_true rfl) dX10_node_74 ?_
        intro r9 S9 hp9
        obtain ⟨hS9, hb9⟩ := hp9
        obtain rfl := hS9.symm
        rcases hb9 with ⟨b_74, rfl⟩ | ⟨b_74, rfl⟩
        · refine a_if_eq K dX10_node_77 (tgt := 84) (by decide) (fun z => absurd z (by decide)) (fun _ => ?_)
          refine a_iconst K dX10_node_80 (v := 1) (by decide) ?_
          refine a_goto K dX10_node_81 (tgt := 85) (by decide) ?_
          exact a_iret K EE rfl (by omega) (by omega) dX10_node_85 ⟨by unfold nodA; rw [hz]; show some (Value.int _) = some (Value.int (nodZ P z (nI j) _)); unfold nodZ; rw [nI_toInt (show j < 2 ^ 31 by omega), if_pos (by omega), nI_clamp (show j < 2 ^ 31 by omega), hy]; show some (Value.int _) = some (Value.int (ite _ _ _)); rw [if_pos rfl]; first | rw [if_pos b_74] | rw [if_neg b_74], h3, k3⟩
        · refine a_if_eq K dX10_node_77 (tgt := 84) (by decide) (fun _ => ?_) (fun z => absurd z (by decide))
          refine a_iconst K dX10_node_84 (v := 0) (by decide) ?_
          exact a_iret K EE rfl (by omega) (by omega) dX10_node_85 ⟨by unfold nodA; rw [hz]; show some (Value.int _) = some (Value.int (nodZ P z (nI j) _)); unfold nodZ; rw [nI_toInt (show j < 2 ^ 31 by omega), if_pos (by omega), nI_clamp (show j < 2 ^ 31 by omega), hy]; show some (Value.int _) = some (Value.int (ite _ _ _)); rw [if_pos rfl]; first | rw [if_pos b_74] | rw [if_neg b_74], h3, k3⟩
      · by_cases w1 : w = 1
        · subst w1
          refine a_iload_n K dX10_node_33 rfl ?_
          refine a_tsIn K dX10_node_34 (off := 52) (tgt := 86) (by decide) (by decide) rfl (by decide) ?_
          first | refine a_aload K dX10_node_86 rfl ?_ | refine a_aloadN K dX10_node_86 rfl ?_
          refine a_invV K (m_X4_size oy) my_X4_size ml_X10_214 im_X4_size se_X4_size (ci := 4) (by assumption) (by decide) ⟨_, _, rfl⟩ rfl (by omega) (by omega) (by omega) rfl (Nat.le_of_ble_eq_true rfl) dX10_node_88 ?_
          intro r9 S9 hp9
          obtain ⟨rfl, hS9⟩ := hp9
          obtain rfl := hS9.symm
          rw [ny.own.sz]
          exact a_iret K EE rfl (by omega) (by omega) dX10_node_91 ⟨by unfold nodA; rw [hz]; show some (Value.int _) = some (Value.int (nodZ P z (nI j) _)); unfold nodZ; rw [nI_toInt (show j < 2 ^ 31 by omega), if_pos (by omega), nI_clamp (show j < 2 ^ 31 by omega), hy]; show some (Value.int _) = some (Value.int (ite _ _ _)); rw [if_neg (by decide), if_pos rfl], h3, k3⟩
        · by_cases w2 : w = 2
          · subst w2
            refine a_iload_n K dX10_node_33 rfl ?_
            refine a_tsIn K dX10_node_34 (off := 58) (tgt := 92) (by decide) (by decide) rfl (by decide) ?_
            first | refine a_aload K dX10_node_92 rfl ?_ | refine a_aloadN K dX10_node_92 rfl ?_
            refine a_invV K (m_X4_lowestKey ny ney (by omega) rfl) my_X4_lowestKey ml_X10_215 im_X4_lowestKey se_X4_lowestKey (ci := 4) (by assumption) (by decide) ⟨_, _, rfl⟩ rfl (by omega) (by omega) (by omega) rfl (Nat.le_of_ble_eq_true rfl) dX10_node_94 ?_
            intro r9 S9 hp9
            obtain ⟨rfl, hS9⟩ := hp9
            obtain rfl := hS9.symm
            exact a_iret K EE rfl (by omega) (by omega) dX10_node_97 ⟨by unfold nodA; rw [hz]; show some (Value.int _) = some (Value.int (nodZ P z (nI j) _)); unfold nodZ; rw [nI_toInt (show j < 2 ^ 31 by omega), if_pos (by omega), nI_clamp (show j < 2 ^ 31 by omega), hy]; show some (Value.int _) = some (Value.int (ite _ _ _)); rw [if_neg (by decide), if_neg (by decide), if_pos rfl], h3, k3⟩
          · by_cases w3 : w = 3
            · subst w3
              refine a_iload_n K dX10_node_33 rfl ?_
              refine a_tsIn K dX10_node_34 (off := 64) (tgt := 98) (by decide) (by decide) rfl (by decide) ?_
              first | refine a_aload_n K dX10_node_98 rfl ?_ | refine a_aload_nN K dX10_node_98 rfl ?_
              refine a_getRs K fd_X10_90 (lw_i4 hL) (Or.inl ⟨_, rfl⟩) (lw_f655 hL) dX10_node_99 ?_
              refine a_iload_n K dX10_node_102 rfl ?_
              refine a_invV K (m_Ls_depthAt hLs hy) my_X2_depthAt ml_X10_218 im_X2_depthAt se_X2_depthAt (ci := 2) (lw_i34 hL) (by decide) ⟨_, _, rfl⟩ rfl (by omega) (by omega) (by omega) rfl (Nat.le_of_ble_eq_true rfl) dX10_node_103 ?_
              intro r9 S9 hp9
              obtain ⟨rfl, hS9⟩ := hp9
              obtain rfl := hS9.symm
              exact a_iret K EE rfl (by omega) (by omega) dX10_node_106 ⟨by unfold nodA; rw [hz]; show some (Value.int _) = some (Value.int (nodZ P z (nI j) _)); unfold nodZ; rw [nI_toInt (show j < 2 ^ 31 by omega), if_pos (by omega), nI_clamp (show j < 2 ^ 31 by omega), hy]; show some (Value.int _) = some (Value.int (ite _ _ _)); rw [if_neg (by decide), if_neg (by decide), if_neg (by decide), if_pos rfl], h3, k3⟩
            · by_cases w4 : w = 4
              · subst w4
                refine a_iload_n K dX10_node_33 rfl ?_
                refine a_tsIn K dX10_node_34 (off := 73) (tgt := 107) (by decide) (by decide) rfl (by decide) ?_
                first | refine a_aload_n K dX10_node_107 rfl ?_ | refine a_aload_nN K dX10_node_107 rfl ?_
                first | refine a_aload K dX10_node_108 rfl ?_ | refine a_aloadN K dX10_node_108 rfl ?_
                refine a_invV K (c_mapsWith h3 hP (sub_ids t3.1.2 y (List.mem_of_getElem? hy))) my_X10_mapsWith ml_X10_221 im_X10_mapsWith se_X10_mapsWith (ci := 10) (lw_i4 hL) (by decide) ⟨_, _, rfl⟩ rfl (by omega) (by omega) (by omega) rfl (Nat.le_of_ble_eq_true rfl) dX10_node_110 ?_
                intro r9 S9 hp9
                obtain ⟨rfl, h5, k5⟩ := hp9
                exact a_iret K EE rfl (by omega) (by omega) dX10_node_113 ⟨by unfold nodA; rw [hz]; show some (Value.int _) = some (Value.int (nodZ P z (nI j) _)); unfold nodZ; rw [nI_toInt (show j < 2 ^ 31 by omega), if_pos (by omega), nI_clamp (show j < 2 ^ 31 by omega), hy]; show some (Value.int _) = some (Value.int (ite _ _ _)); rw [if_neg (by decide), if_neg (by decide), if_neg (by decide), if_neg (by decide), if_pos rfl], h5, k3.tr k5⟩
              · by_cases w5 : w = 5
                · subst w5
                  refine a_iload_n K dX10_node_33 rfl ?_
                  refine a_tsIn K dX10_node_34 (off := 80) (tgt := 114) (by decide) (by decide) rfl (by decide) ?_
                  first | refine a_aload K dX10_node_114 rfl ?_ | refine a_aloadN K dX10_node_114 rfl ?_
                  refine a_iconst K dX10_node_116 (v := 0) (by decide) ?_
                  refine a_invS K (m_X10_keysIn y.1 (dep := 0) ny (by omega)) my_X10_keysIn ml_X10_225 st_X10_keysIn rfl (by omega) (by omega) (by omega) rfl (Nat.le_of_ble_eq_true rfl) dX10_node_117 ?_
                  intro r9 S9 hp9
                  obtain ⟨rfl, hS9⟩ := hp9
                  obtain rfl := hS9.symm
                  exact a_iret K EE rfl (by omega) (by omega) dX10_node_120 ⟨by unfold nodA; rw [hz]; show some (Value.int _) = some (Value.int (nodZ P z (nI j) _)); unfold nodZ; rw [nI_toInt (show j < 2 ^ 31 by omega), if_pos (by omega), nI_clamp (show j < 2 ^ 31 by omega), hy]; show some (Value.int _) = some (Value.int (ite _ _ _)); rw [if_neg (by decide), if_neg (by decide), if_neg (by decide), if_neg (by decide), if_neg (by decide), if_pos rfl], h3, k3⟩
                · have hw : w.toInt < 0 ∨ 5 < w.toInt := tswn6 w0 w1 w2 w3 w4 w5
                  refine a_iload_n K dX10_node_33 rfl ?_
                  refine a_tsOut K dX10_node_34 (tgt := 121) (hw) (by decide) ?_
                  refine a_ldc K kc_X10_180 dX10_node_121 ?_
                  exact a_iret K EE rfl (by omega) (by omega) dX10_node_123 ⟨by unfold nodA; rw [hz]; show some (Value.int _) = some (Value.int (nodZ P z (nI j) _)); unfold nodZ; rw [nI_toInt (show j < 2 ^ 31 by omega), if_pos (by omega), nI_clamp (show j < 2 ^ 31 by omega), hy]; show some (Value.int _) = some (Value.int (ite _ _ _)); rw [if_neg (fun y => by rw [y] at hw; revert hw; decide), if_neg (fun y => by rw [y] at hw; revert hw; decide), if_neg (fun y => by rw [y] at hw; revert hw; decide), if_neg (fun y => by rw [y] at hw; revert hw; decide), if_neg (fun y => by rw [y] at hw; revert hw; decide), if_neg (fun y => by rw [y] at hw; revert hw; decide)], h3, k3⟩
    · refine aw_enter (by decide +kernel) (Nat.le_of_ble_eq_true rfl) (fun g K EE => ?_)
      first | refine a_aload_n K dX10_node_0 rfl ?_ | refine a_aload_nN K dX10_node_0 rfl ?_
      refine a_getRs K fd_X10_90 (lw_i4 hL) (Or.inl ⟨_, rfl⟩) (lw_f655 hL) dX10_node_1 ?_
      first | refine a_aload_n K dX10_node_4 rfl ?_ | refine a_aload_nN K dX10_node_4 rfl ?_
      refine a_getRs K fd_X10_46 (lw_i4 hL) (Or.inl ⟨_, rfl⟩) (lw_f646 hL) dX10_node_5 ?_
      refine a_iload_n K dX10_node_8 rfl ?_
      refine a_invV K (m_root h m) my_X3_heldRoot ml_X10_165 im_X3_heldRoot se_X3_heldRoot (ci := 3) (lw_i6 hL) (by decide) ⟨_, _, rfl⟩ rfl (by omega) (by omega) (by omega) rfl (Nat.le_of_ble_eq_true rfl) dX10_node_9 ?_
      intro r9 S9 hp9
      obtain ⟨rfl, hS9⟩ := hp9
      obtain rfl := hS9.symm
      rw [hz]
      refine a_invV K (m_fillL h hP.1.1 t) my_X2_fill ml_X10_181 im_X2_fill se_X2_fill (ci := 2) (lw_i34 hL) (by decide) ⟨_, _, rfl⟩ rfl (by omega) (by omega) (by omega) rfl (Nat.le_of_ble_eq_true rfl) dX10_node_12 ?_
      intro r9 S3 hp9
      obtain ⟨rfl, hLs, h3, k3, f3⟩ := hp9
      have hL := h3.L
      have t3 := TT_.fr h f3 (scr_Ls v) t
      first | refine a_aload_n K dX10_node_15 rfl ?_ | refine a_aload_nN K dX10_node_15 rfl ?_
      refine a_getRs K fd_X10_90 (lw_i4 hL) (Or.inl ⟨_, rfl⟩) (lw_f655 hL) dX10_node_16 ?_
      refine a_iload_n K dX10_node_19 rfl ?_
      refine a_invV K (m_nodeAtx hLs hi) my_X2_nodeAt ml_X10_206 im_X2_nodeAt se_X2_nodeAt (ci := 2) (lw_i34 hL) (by decide) ⟨_, _, rfl⟩ rfl (by omega) (by omega) (by omega) rfl (Nat.le_of_ble_eq_true rfl) dX10_node_20 ?_
      intro r9 S9 hp9
      obtain ⟨rfl, hS9⟩ := hp9
      obtain rfl := hS9.symm
      first | refine a_astore K dX10_node_23 (by decide) ?_ | refine a_astoreN K dX10_node_23 (by decide) ?_
      first | refine a_aload K dX10_node_25 rfl ?_ | refine a_aloadN K dX10_node_25 rfl ?_
      refine a_ifnonnullN K dX10_node_27 ?_
      refine a_ldc K kc_X10_180 dX10_node_30 ?_
      exact a_iret K EE rfl (by omega) (by omega) dX10_node_32 ⟨by unfold nodA; rw [hz]; show some (Value.int _) = some (Value.int (nodZ P z i w)); unfold nodZ; rw [if_neg hi], h3, k3⟩
def obN (P : PS) : Nat → Int32
  | 0 => 0
  | i + 1 => if (pB P i).isSome then obN P i ||| (1 : Int32) <<< (nI i &&& 31) else obN P i
theorem w_bAt {S : aw_S} {v ad ar : Nat → Nat} {PA : List (Nat × Nat)} {X : List Nat} {mb : Nat} {P : PS} (h : RC S v ad ar PA X mb P) {j : Nat} (hj : j < 4) : atR (sQ S (v 13)) 4 (nI j) = some (v (14 + j)) ∧ aw_is S (v (14 + j)) 0 ∧ sR S 0 (v (14 + j)) = (pB P j).map (fun b => ad b.1.2.1) := by
  have e := (bAt_at h.L (nI j)).1
  have hb : bAt (nI j) = some j := by
    unfold bAt
    rw [nI_toInt (by omega), if_pos (by omega), nI_clamp (by omega)]
  rw [hb] at e
  refine ⟨e, lw_b h.L hj, ?_⟩
  cases hp : pB P j with
  | none => exact (h.2.2.2.1 j hj).1 hp
  | some b => exact ((h.2.2.2.1 j hj).2 b hp).1
set_option maxHeartbeats 4000000 in
set_option maxRecDepth 100000 in
theorem c_openBuilders {S : aw_S} {v ad ar : Nat → Nat} {PA : List (Nat × Nat)} {X : List Nat} {mb : Nat} {P : PS} (h : RC S v ad ar PA X mb P) : aw_M yX10_openBuilders cX10_openBuilders 4 (some FieldType.int) 2 0 0 [.ref (v 4)] S (fun r S2 => r = some (.int (obN P 4)) ∧ S2 = S) := by
  have hL := h.L
  refine aw_enter (by decide +kernel) (Nat.le_of_ble_eq_true rfl) (fun g K EE => ?_)
  have loop : ∀ (i j : Nat) (x : Int32), x = nI j → j + i = 4 → aw g 4 S 0 0 [(2, .int x), (1, .int (obN P j)), (0, .ref (v 4))] [] 4 := by
    intro i
    induction i with
    | zero =>
      intro j x hx hi
      subst hx
      refine a_iload_n K dX10_openBuilders_4 rfl ?_
      refine a_iconst K dX10_openBuilders_5 (v := 4) (by decide) ?_
      refine a_icmp_ge K dX10_openBuilders_6 (tgt := 38) (by decide) (fun c_6 => ?_) (fun c_6 => absurd c_6 (fun z => z (nI_le (a := 4) (b := j) (by omega) (by omega))))
      refine a_iload_n K dX10_openBuilders_38 rfl ?_
      exact a_iret K EE rfl (by omega) (by omega) dX10_openBuilders_39 ⟨by rw [show j = 4 by omega], rfl⟩
    | succ i ih =>
      intro j x hx hi
      subst hx
      obtain ⟨qa, ob, qr⟩ := w_bAt h (show j < 4 by omega)
      cases hp : pB P j with
      | none =>
        refine a_iload_n K dX10_openBuilders_4 rfl ?_
        refine a_iconst K dX10_openBuilders_5 (v := 4) (by decide) ?_
        refine a_icmp_ge K dX10_openBuilders_6 (tgt := 38) (by decide) (fun c_6 => absurd c_6 (nI_ge (a := j) (b := 4) (by omega) (by omega))) (fun c_6 => ?_)
        first | refine a_aload_n K dX10_openBuilders_9 rfl ?_ | refine a_aload_nN K dX10_openBuilders_9 rfl ?_
        refine a_iload_n K dX10_openBuilders_10 rfl ?_
        refine a_invV K (w_builderAt hL (nI j)) my_X10_builderAt ml_X10_313 im_X10_builderAt se_X10_builderAt (ci := 10) (lw_i4 hL) (by decide) ⟨_, _, rfl⟩ rfl (by omega) (by omega) (by omega) rfl (Nat.le_of_ble_eq_true rfl) dX10_openBuilders_11 ?_
        intro r9 S9 hp9
        obtain ⟨hS9, rfl⟩ := hp9
        obtain rfl := hS9.symm
        rw [qa]
        first | refine a_astore_n K dX10_openBuilders_14 (by decide) ?_ | refine a_astore_nN K dX10_openBuilders_14 (by decide) ?_
        first | refine a_aload_n K dX10_openBuilders_15 rfl ?_ | refine a_aload_nN K dX10_openBuilders_15 rfl ?_
        refine a_ifnull K dX10_openBuilders_16 ?_
        first | refine a_aload_n K dX10_openBuilders_19 rfl ?_ | refine a_aload_nN K dX10_openBuilders_19 rfl ?_
        refine a_invV K (m_X0_isStale_y ob (by rw [qr, hp]; rfl)) my_X0_isStale ml_X10_342 im_X0_isStale se_X0_isStale (ci := 0) (by assumption) (by decide) ⟨_, _, rfl⟩ rfl (by omega) (by omega) (by omega) rfl (Nat.le_of_ble_eq_true rfl) dX10_openBuilders_20 ?_
        intro r9 S9 hp9
        obtain ⟨rfl, hS9⟩ := hp9
        obtain rfl := hS9.symm
        refine a_if_ne K dX10_openBuilders_23 (tgt := 32) (by decide) (fun c_23 => ?_) (fun c_23 => absurd c_23 (by decide))
        refine a_iinc K dX10_openBuilders_32 (v := 1) rfl (by decide) (by decide) ?_
        refine a_goto K dX10_openBuilders_35 (tgt := 4) (by decide) ?_
        exact aw_locl rfl (show aw g 4 S 0 0 [(2, .int (nI j + 1)), (1, .int (obN P j)), (0, .ref (v 4))] [] 4 by rw [show obN P j = obN P (j + 1) from by show _ = (if (pB P j).isSome then obN P j ||| (1 : Int32) <<< (nI j &&& 31) else obN P j); rw [hp]; rfl]; exact ih (j + 1) _ (nI_1 j) (by omega))
      | some b =>
        refine a_iload_n K dX10_openBuilders_4 rfl ?_
        refine a_iconst K dX10_openBuilders_5 (v := 4) (by decide) ?_
        refine a_icmp_ge K dX10_openBuilders_6 (tgt := 38) (by decide) (fun c_6 => absurd c_6 (nI_ge (a := j) (b := 4) (by omega) (by omega))) (fun c_6 => ?_)
        first | refine a_aload_n K dX10_openBuilders_9 rfl ?_ | refine a_aload_nN K dX10_openBuilders_9 rfl ?_
        refine a_iload_n K dX10_openBuilders_10 rfl ?_
        refine a_invV K (w_builderAt hL (nI j)) my_X10_builderAt ml_X10_313 im_X10_builderAt se_X10_builderAt (ci := 10) (lw_i4 hL) (by decide) ⟨_, _, rfl⟩ rfl (by omega) (by omega) (by omega) rfl (Nat.le_of_ble_eq_true rfl) dX10_openBuilders_11 ?_
        intro r9 S9 hp9
        obtain ⟨hS9, rfl⟩ := hp9
        obtain rfl := hS9.symm
        rw [qa]
        first | refine a_astore_n K dX10_openBuilders_14 (by decide) ?_ | refine a_astore_nN K dX10_openBuilders_14 (by decide) ?_
        first | refine a_aload_n K dX10_openBuilders_15 rfl ?_ | refine a_aload_nN K dX10_openBuilders_15 rfl ?_
        refine a_ifnull K dX10_openBuilders_16 ?_
        first | refine a_aload_n K dX10_openBuilders_19 rfl ?_ | refine a_aload_nN K dX10_openBuilders_19 rfl ?_
        refine a_invV K (m_X0_isStale_n ob (by rw [qr, hp]; rfl)) my_X0_isStale ml_X10_342 im_X0_isStale se_X0_isStale (ci := 0) (by assumption) (by decide) ⟨_, _, rfl⟩ rfl (by omega) (by omega) (by omega) rfl (Nat.le_of_ble_eq_true rfl) dX10_openBuilders_20 ?_
        intro r9 S9 hp9
        obtain ⟨rfl, hS9⟩ := hp9
        obtain rfl := hS9.symm
        refine a_if_ne K dX10_openBuilders_23 (tgt := 32) (by decide) (fun c_23 => absurd c_23 (by decide)) (fun c_23 => ?_)
        refine a_iload_n K dX10_openBuilders_26 rfl ?_
        refine a_iconst K dX10_openBuilders_27 (v := 1) (by decide) ?_
        refine a_iload_n K dX10_openBuilders_28 rfl ?_
        refine a_ishl K dX10_openBuilders_29 ?_
        refine a_ior K dX10_openBuilders_30 ?_
        refine a_istore_n K dX10_openBuilders_31 (by decide) ?_
        refine a_iinc K dX10_openBuilders_32 (v := 1) rfl (by decide) (by decide) ?_
        refine a_goto K dX10_openBuilders_35 (tgt := 4) (by decide) ?_
        exact aw_locl rfl (show aw g 4 S 0 0 [(2, .int (nI j + 1)), (1, .int (obN P j ||| (1 : Int32) <<< (nI j &&& 31))), (0, .ref (v 4))] [] 4 by rw [show obN P j ||| (1 : Int32) <<< (nI j &&& 31) = obN P (j + 1) from by show _ = (if (pB P j).isSome then obN P j ||| (1 : Int32) <<< (nI j &&& 31) else obN P j); rw [hp]; rfl]; exact ih (j + 1) _ (nI_1 j) (by omega))
  refine a_iconst K dX10_openBuilders_0 (v := 0) (by decide) ?_
  refine a_istore_n K dX10_openBuilders_1 (by decide) ?_
  refine a_iconst K dX10_openBuilders_2 (v := 0) (by decide) ?_
  refine a_istore_n K dX10_openBuilders_3 (by decide) ?_
  exact aw_locl rfl (loop 4 0 _ nI_0.symm (by omega))
/-- unlike nodes of rows of lists, one row behind the other -/
def lvM (f : Nat → List Tz) : Nat → (Nat → Bool) × Nat → (Nat → Bool) × Nat
  | 0, s => s
  | n + 1, s => (mkS (lvM f n s).1 (f n), (lvM f n s).2 + mkC (lvM f n s).1 (f n) 0)
def mpL (P : PS) (j : Nat) : List Tz := sbO (rootP P (nI j))
def bdL (P : PS) (j : Nat) : List Tz := sbO ((pB P j).map (fun b => b.1))
def livM (P : PS) : (Nat → Bool) × Nat := lvM (mpL P) (pM P).length (fun _ => false, 0)
def livA (P : PS) : Nat := (lvM (bdL P) 4 (livM P)).2
set_option maxHeartbeats 4000000 in
set_option maxRecDepth 100000 in
theorem c_liveNodes {S : aw_S} {v ad ar : Nat → Nat} {PA : List (Nat × Nat)} {X : List Nat} {mb : Nat} {P : PS} (h : RC S v ad ar PA X mb P) (hP : PI P) (hm0 : mb + 1 < 2147483000) : aw_M yX10_liveNodes cX10_liveNodes 4 (some FieldType.int) 9 0 0 [.ref (v 4)] S (fun r S2 => r = some (.int (nI (livA P))) ∧ RC S2 v ad ar PA X (mb + 1) P ∧ keepX X S S2) := by
  have hL := h.L
  obtain ⟨mr, hmr, hmr2, h1, k1, n1⟩ := h.m656 hm0
  refine aw_enter (by decide +kernel) (Nat.le_of_ble_eq_true rfl) (fun g K EE => ?_)
  have loopB : ∀ (i j : Nat) (x : Int32) (T : aw_S), x = nI j → j + i = 4 → RC T v ad ar PA X (mb + 1) P → keepX X S T → sI T 656 (v 4) = nI (mr + 1) → (∀ i, i < pU P → (sI T 260 (ad i) = nI (mr + 1) ↔ (lvM (bdL P) j (livM P)).1 i = true)) → aw g 4 T 0 0 [(2, .int x), (1, .int (nI (lvM (bdL P) j (livM P)).2)), (0, .ref (v 4))] [] 62 := by
    intro i
    induction i with
    | zero =>
      intro j x T hx hi hT kT eT hm
      subst hx
      have hL := hT.L
      have hl9 := hT.2.2.1.2.1
      refine a_iload_n K dX10_liveNodes_62 rfl ?_
      refine a_iconst K dX10_liveNodes_63 (v := 4) (by decide) ?_
      refine a_icmp_ge K dX10_liveNodes_64 (tgt := 108) (by decide) (fun c_64 => ?_) (fun c_64 => absurd c_64 (fun z => z (nI_le (a := 4) (b := j) (by omega) (by omega))))
      refine a_iload_n K dX10_liveNodes_108 rfl ?_
      exact a_iret K EE rfl (by omega) (by omega) dX10_liveNodes_109 ⟨by rw [show j = 4 by omega]; rfl, hT, kT⟩
    | succ i ih =>
      intro j x T hx hi hT kT eT hm
      subst hx
      have hL := hT.L
      have hl9 := hT.2.2.1.2.1
      obtain ⟨qa, ob, qr⟩ := w_bAt hT (show j < 4 by omega)
      have htb : ∀ z, (pB P j).map (fun b => b.1) = some z → TT_ T ad ar P z := fun z hz => by
        obtain ⟨b, hb, e⟩ := Option.map_eq_some_iff.mp hz
        subst e
        exact ⟨hT.2.2.2.2.2.2.2.2.1.2.2 j b hb, (hP.2.2.1 j b hb).2.1⟩
      refine a_iload_n K dX10_liveNodes_62 rfl ?_
      refine a_iconst K dX10_liveNodes_63 (v := 4) (by decide) ?_
      refine a_icmp_ge K dX10_liveNodes_64 (tgt := 108) (by decide) (fun c_64 => absurd c_64 (nI_ge (a := j) (b := 4) (by omega) (by omega))) (fun c_64 => ?_)
      first | refine a_aload_n K dX10_liveNodes_67 rfl ?_ | refine a_aload_nN K dX10_liveNodes_67 rfl ?_
      refine a_iload_n K dX10_liveNodes_68 rfl ?_
      refine a_invV K (w_builderAt hL (nI j)) my_X10_builderAt ml_X10_313 im_X10_builderAt se_X10_builderAt (ci := 10) (lw_i4 hL) (by decide) ⟨_, _, rfl⟩ rfl (by omega) (by omega) (by omega) rfl (Nat.le_of_ble_eq_true rfl) dX10_liveNodes_69 ?_
      intro r9 S9 hp9
      obtain ⟨hS9, rfl⟩ := hp9
      obtain rfl := hS9.symm
      rw [qa]
      first | refine a_astore_n K dX10_liveNodes_72 (by decide) ?_ | refine a_astore_nN K dX10_liveNodes_72 (by decide) ?_
      first | refine a_aload_n K dX10_liveNodes_73 rfl ?_ | refine a_aload_nN K dX10_liveNodes_73 rfl ?_
      refine a_ifnull K dX10_liveNodes_74 ?_
      first | refine a_aload_n K dX10_liveNodes_77 rfl ?_ | refine a_aload_nN K dX10_liveNodes_77 rfl ?_
      refine a_getRs K fd_X10_90 (lw_i4 hL) (Or.inl ⟨_, rfl⟩) (lw_f655 hL) dX10_liveNodes_78 ?_
      first | refine a_aload_n K dX10_liveNodes_81 rfl ?_ | refine a_aload_nN K dX10_liveNodes_81 rfl ?_
      refine a_invV K (m_X0_root ob) my_X0_root ml_X10_345 im_X0_root se_X0_root (ci := 0) (by assumption) (by decide) ⟨_, _, rfl⟩ rfl (by omega) (by omega) (by omega) rfl (Nat.le_of_ble_eq_true rfl) dX10_liveNodes_82 ?_
      intro r9 S9 hp9
      obtain ⟨rfl, hS9⟩ := hp9
      obtain rfl := hS9.symm
      rw [qr, show (pB P j).map (fun b => ad b.1.2.1) = ((pB P j).map (fun b => b.1)).map (fun z => ad z.2.1) from by cases pB P j <;> rfl]
      refine a_invV K (m_fillO hT hP.1.1 (zo := (pB P j).map (fun b => b.1)) htb) my_X2_fill ml_X10_181 im_X2_fill se_X2_fill (ci := 2) (lw_i34 hL) (by decide) ⟨_, _, rfl⟩ rfl (by omega) (by omega) (by omega) rfl (Nat.le_of_ble_eq_true rfl) dX10_liveNodes_85 ?_
      intro r9 T3 hp9
      obtain ⟨rfl, ⟨H, hLs⟩, hO, hu, h3, k3, f3⟩ := hp9
      have hL := h3.L
      have e3 : sI T3 656 (v 4) = nI (mr + 1) := by rw [(f3.2.2.2.2.2.2.2 _ (vqls hL (show 4 < 34 by decide))).1]; exact eT
      have h0 : ∀ i, i < pU P → (sI T3 260 (ad i) = nI (mr + 1) ↔ _ = true) := fun i hi => by rw [f3.2.2.2.2.2.2.1 (ad i) 260 (Or.inl rfl)]; exact hm i hi
      refine a_iload_n K dX10_liveNodes_88 rfl ?_
      first | refine a_aload_n K dX10_liveNodes_89 rfl ?_ | refine a_aload_nN K dX10_liveNodes_89 rfl ?_
      refine a_getRs K fd_X10_90 (lw_i4 hL) (Or.inl ⟨_, rfl⟩) (lw_f655 hL) dX10_liveNodes_90 ?_
      first | refine a_aload_n K dX10_liveNodes_93 rfl ?_ | refine a_aload_nN K dX10_liveNodes_93 rfl ?_
      refine a_getI K fd_X10_395 (lw_i4 hL) (Or.inl rfl) dX10_liveNodes_94 ?_
      rw [e3]
      refine a_invV K (m_Ls_mark hLs h3.2.2.2.2.2.2.2.2.1.1 hu h0 rfl) my_X2_mark ml_X10_392 im_X2_mark se_X2_mark (ci := 2) (lw_i34 hL) (by decide) ⟨_, _, rfl⟩ rfl (by omega) (by omega) (by omega) rfl (Nat.le_of_ble_eq_true rfl) dX10_liveNodes_97 ?_
      intro r9 T4 hp9
      obtain ⟨rfl, hmk⟩ := hp9
      obtain ⟨h4, k4⟩ := h3.mkr hmk e3 (fun i hi => by obtain ⟨y, hy, e⟩ := List.mem_map.mp hi; rw [← e]; exact hu y hy)
      have hL := h4.L
      have e4 : sI T4 656 (v 4) = nI (mr + 1) := by rw [hmk.2.1 656 _ (by decide)]; exact e3
      have h04 := mkR.tr hmk h3.2.2.2.2.2.2.2.2.1.1 hu h0
      refine a_iadd K dX10_liveNodes_100 ?_
      refine a_istore_n K dX10_liveNodes_101 (by decide) ?_
      refine a_iinc K dX10_liveNodes_102 (v := 1) rfl (by decide) (by decide) ?_
      refine a_goto K dX10_liveNodes_105 (tgt := 62) (by decide) ?_
      exact aw_locl rfl (show aw g 4 T4 0 0 [(2, .int (nI j + 1)), (1, .int (nI (lvM (bdL P) j (livM P)).2 + nI (mkC (lvM (bdL P) j (livM P)).1 (bdL P j) 0))), (0, .ref (v 4))] [] 62 by rw [nI_add]; exact ih (j + 1) _ T4 (nI_1 j) (by omega) h4 ((kT.tr k3).tr k4) e4 h04)
  have loopM : ∀ (i j : Nat) (x : Int32) (T : aw_S), x = nI j → j + i = (pM P).length → RC T v ad ar PA X (mb + 1) P → keepX X S T → sI T 656 (v 4) = nI (mr + 1) → (∀ i, i < pU P → (sI T 260 (ad i) = nI (mr + 1) ↔ (lvM (mpL P) j (fun _ => false, 0)).1 i = true)) → aw g 4 T 0 0 [(2, .int x), (1, .int (nI (lvM (mpL P) j (fun _ => false, 0)).2)), (0, .ref (v 4))] [] 14 := by
    intro i
    induction i with
    | zero =>
      intro j x T hx hi hT kT eT hm
      subst hx
      have hL := hT.L
      have hl9 := hT.2.2.1.2.1
      obtain rfl : j = (pM P).length := by omega
      have hm2 : ∀ i, i < pU P → (sI T 260 (ad i) = nI (mr + 1) ↔ (lvM (bdL P) 0 (livM P)).1 i = true) := hm
      show aw g 4 T 0 0 [(2, .int (nI (pM P).length)), (1, .int (nI (lvM (bdL P) 0 (livM P)).2)), (0, .ref (v 4))] [] 14
      refine a_iload_n K dX10_liveNodes_14 rfl ?_
      first | refine a_aload_n K dX10_liveNodes_15 rfl ?_ | refine a_aload_nN K dX10_liveNodes_15 rfl ?_
      refine a_getRs K fd_X10_46 (lw_i4 hL) (Or.inl ⟨_, rfl⟩) (lw_f646 hL) dX10_liveNodes_16 ?_
      refine a_invV K (m_X3_given (lw_i6 hL)) my_X3_given ml_X10_228 im_X3_given se_X3_given (ci := 3) (lw_i6 hL) (by decide) ⟨_, _, rfl⟩ rfl (by omega) (by omega) (by omega) rfl (Nat.le_of_ble_eq_true rfl) dX10_liveNodes_19 ?_
      intro r9 S9 hp9
      obtain ⟨rfl, hS9⟩ := hp9
      obtain rfl := hS9.symm
      rw [hT.lg.1]
      refine a_icmp_ge K dX10_liveNodes_22 (tgt := 60) (by decide) (fun c_22 => ?_) (fun c_22 => absurd c_22 (fun z => z (nI_le (by omega) (by omega))))
      refine a_iconst K dX10_liveNodes_60 (v := 0) (by decide) ?_
      refine a_istore_n K dX10_liveNodes_61 (by decide) ?_
      exact aw_locl rfl (loopB 4 0 _ T nI_0.symm (by omega) hT kT eT hm2)
    | succ i ih =>
      intro j x T hx hi hT kT eT hm
      subst hx
      have hL := hT.L
      have hl9 := hT.2.2.1.2.1
      refine a_iload_n K dX10_liveNodes_14 rfl ?_
      first | refine a_aload_n K dX10_liveNodes_15 rfl ?_ | refine a_aload_nN K dX10_liveNodes_15 rfl ?_
      refine a_getRs K fd_X10_46 (lw_i4 hL) (Or.inl ⟨_, rfl⟩) (lw_f646 hL) dX10_liveNodes_16 ?_
      refine a_invV K (m_X3_given (lw_i6 hL)) my_X3_given ml_X10_228 im_X3_given se_X3_given (ci := 3) (lw_i6 hL) (by decide) ⟨_, _, rfl⟩ rfl (by omega) (by omega) (by omega) rfl (Nat.le_of_ble_eq_true rfl) dX10_liveNodes_19 ?_
      intro r9 S9 hp9
      obtain ⟨rfl, hS9⟩ := hp9
      obtain rfl := hS9.symm
      rw [hT.lg.1]
      refine a_icmp_ge K dX10_liveNodes_22 (tgt := 60) (by decide) (fun c_22 => absurd c_22 (nI_ge (by omega) (by omega))) (fun c_22 => ?_)
      first | refine a_aload_n K dX10_liveNodes_25 rfl ?_ | refine a_aload_nN K dX10_liveNodes_25 rfl ?_
      refine a_getRs K fd_X10_90 (lw_i4 hL) (Or.inl ⟨_, rfl⟩) (lw_f655 hL) dX10_liveNodes_26 ?_
      first | refine a_aload_n K dX10_liveNodes_29 rfl ?_ | refine a_aload_nN K dX10_liveNodes_29 rfl ?_
      refine a_getRs K fd_X10_46 (lw_i4 hL) (Or.inl ⟨_, rfl⟩) (lw_f646 hL) dX10_liveNodes_30 ?_
      refine a_iload_n K dX10_liveNodes_33 rfl ?_
      refine a_invV K (m_root hT (nI j)) my_X3_heldRoot ml_X10_165 im_X3_heldRoot se_X3_heldRoot (ci := 3) (lw_i6 hL) (by decide) ⟨_, _, rfl⟩ rfl (by omega) (by omega) (by omega) rfl (Nat.le_of_ble_eq_true rfl) dX10_liveNodes_34 ?_
      intro r9 S9 hp9
      obtain ⟨rfl, hS9⟩ := hp9
      obtain rfl := hS9.symm
      refine a_invV K (m_fillO hT hP.1.1 (zo := rootP P (nI j)) (fun z hz => hT.tt hP hz)) my_X2_fill ml_X10_181 im_X2_fill se_X2_fill (ci := 2) (lw_i34 hL) (by decide) ⟨_, _, rfl⟩ rfl (by omega) (by omega) (by omega) rfl (Nat.le_of_ble_eq_true rfl) dX10_liveNodes_37 ?_
      intro r9 T3 hp9
      obtain ⟨rfl, ⟨H, hLs⟩, hO, hu, h3, k3, f3⟩ := hp9
      have hL := h3.L
      have e3 : sI T3 656 (v 4) = nI (mr + 1) := by rw [(f3.2.2.2.2.2.2.2 _ (vqls hL (show 4 < 34 by decide))).1]; exact eT
      have h0 : ∀ i, i < pU P → (sI T3 260 (ad i) = nI (mr + 1) ↔ _ = true) := fun i hi => by rw [f3.2.2.2.2.2.2.1 (ad i) 260 (Or.inl rfl)]; exact hm i hi
      refine a_iload_n K dX10_liveNodes_40 rfl ?_
      first | refine a_aload_n K dX10_liveNodes_41 rfl ?_ | refine a_aload_nN K dX10_liveNodes_41 rfl ?_
      refine a_getRs K fd_X10_90 (lw_i4 hL) (Or.inl ⟨_, rfl⟩) (lw_f655 hL) dX10_liveNodes_42 ?_
      first | refine a_aload_n K dX10_liveNodes_45 rfl ?_ | refine a_aload_nN K dX10_liveNodes_45 rfl ?_
      refine a_getI K fd_X10_395 (lw_i4 hL) (Or.inl rfl) dX10_liveNodes_46 ?_
      rw [e3]
      refine a_invV K (m_Ls_mark hLs h3.2.2.2.2.2.2.2.2.1.1 hu h0 rfl) my_X2_mark ml_X10_392 im_X2_mark se_X2_mark (ci := 2) (lw_i34 hL) (by decide) ⟨_, _, rfl⟩ rfl (by omega) (by omega) (by omega) rfl (Nat.le_of_ble_eq_true rfl) dX10_liveNodes_49 ?_
      intro r9 T4 hp9
      obtain ⟨rfl, hmk⟩ := hp9
      obtain ⟨h4, k4⟩ := h3.mkr hmk e3 (fun i hi => by obtain ⟨y, hy, e⟩ := List.mem_map.mp hi; rw [← e]; exact hu y hy)
      have hL := h4.L
      have e4 : sI T4 656 (v 4) = nI (mr + 1) := by rw [hmk.2.1 656 _ (by decide)]; exact e3
      have h04 := mkR.tr hmk h3.2.2.2.2.2.2.2.2.1.1 hu h0
      refine a_iadd K dX10_liveNodes_52 ?_
      refine a_istore_n K dX10_liveNodes_53 (by decide) ?_
      refine a_iinc K dX10_liveNodes_54 (v := 1) rfl (by decide) (by decide) ?_
      refine a_goto K dX10_liveNodes_57 (tgt := 14) (by decide) ?_
      exact aw_locl rfl (show aw g 4 T4 0 0 [(2, .int (nI j + 1)), (1, .int (nI (lvM (mpL P) j (fun _ => false, 0)).2 + nI (mkC (lvM (mpL P) j (fun _ => false, 0)).1 (mpL P j) 0))), (0, .ref (v 4))] [] 14 by rw [nI_add]; exact ih (j + 1) _ T4 (nI_1 j) (by omega) h4 ((kT.tr k3).tr k4) e4 h04)
  first | refine a_aload_n K dX10_liveNodes_0 rfl ?_ | refine a_aload_nN K dX10_liveNodes_0 rfl ?_
  refine a_dup K dX10_liveNodes_1 rfl ?_
  refine a_getI K fd_X10_395 (lw_i4 hL) (Or.inl rfl) dX10_liveNodes_2 ?_
  refine a_iconst K dX10_liveNodes_5 (v := 1) (by decide) ?_
  rw [hmr]
  refine a_iadd K dX10_liveNodes_6 ?_
  rw [nI_1]
  refine a_putI K fd_X10_395 (lw_i4 hL) rfl dX10_liveNodes_7 ?_
  refine a_iconst K dX10_liveNodes_10 (v := 0) (by decide) ?_
  refine a_istore_n K dX10_liveNodes_11 (by decide) ?_
  refine a_iconst K dX10_liveNodes_12 (v := 0) (by decide) ?_
  refine a_istore_n K dX10_liveNodes_13 (by decide) ?_
  exact aw_locl rfl (loopM (pM P).length 0 _ _ nI_0.symm (by omega) h1 k1 wI_at (fun i hi => ⟨fun y => absurd y (n1 i hi), fun y => absurd y (by simp [lvM])⟩))
def cntA (P : PS) (w : Int32) : Int32 := if w = 0 then nI (pW P) else if w = 1 then nI (hcnt (pH P)) else if w = 2 then nI (pM P).length else if w = 3 then pMd P else if w = 4 then nI (livA P) else if w = 5 then nI (pG P).length else if w = 6 then nI (pT P).length else if w = 7 then obN P 4 else -1000000
set_option maxHeartbeats 4000000 in
set_option maxRecDepth 100000 in
theorem c_count {S : aw_S} {v ad ar : Nat → Nat} {PA : List (Nat × Nat)} {X : List Nat} {mb : Nat} {P : PS} (h : RC S v ad ar PA X mb P) (hP : PI P) (hm : mb + 1 < 2147483000) {w : Int32} : aw_M yX10_count cX10_count 2 (some FieldType.int) 10 0 0 [.ref (v 4), .int w] S (fun r S2 => r = some (.int (cntA P w)) ∧ RC S2 v ad ar PA X (mb + 1) P ∧ keepX X S S2) := by
  have hL := h.L
  refine aw_enter (by decide +kernel) (Nat.le_of_ble_eq_true rfl) (fun g K EE => ?_)
  by_cases w0 : w = 0
  · subst w0
    refine a_iload_n K dX10_count_0 rfl ?_
    refine a_tsIn K dX10_count_1 (off := 47) (tgt := 48) (by decide) (by decide) rfl (by decide) ?_
    first | refine a_aload_n K dX10_count_48 rfl ?_ | refine a_aload_nN K dX10_count_48 rfl ?_
    refine a_getRs K fd_X10_39 (lw_i4 hL) (Or.inl ⟨_, rfl⟩) (lw_f645 hL) dX10_count_49 ?_
    refine a_invV K (m_X1_width (lw_i5 hL)) my_X1_width ml_X10_427 im_X1_width se_X1_width (ci := 1) (lw_i5 hL) (by decide) ⟨_, _, rfl⟩ rfl (by omega) (by omega) (by omega) rfl (Nat.le_of_ble_eq_true rfl) dX10_count_52 ?_
    intro r9 S9 hp9
    obtain ⟨rfl, hS9⟩ := hp9
    obtain rfl := hS9.symm
    rw [h.2.1.1]
    exact a_iret K EE rfl (by omega) (by omega) dX10_count_55 ⟨by unfold cntA; rw [if_pos rfl], h.up (by omega) (by omega), h.X⟩
  · by_cases w1 : w = 1
    · subst w1
      refine a_iload_n K dX10_count_0 rfl ?_
      refine a_tsIn K dX10_count_1 (off := 55) (tgt := 56) (by decide) (by decide) rfl (by decide) ?_
      first | refine a_aload_n K dX10_count_56 rfl ?_ | refine a_aload_nN K dX10_count_56 rfl ?_
      refine a_getRs K fd_X10_46 (lw_i4 hL) (Or.inl ⟨_, rfl⟩) (lw_f646 hL) dX10_count_57 ?_
      refine a_invV K (m_X3_held (lw_i6 hL)) my_X3_held ml_X10_310 im_X3_held se_X3_held (ci := 3) (lw_i6 hL) (by decide) ⟨_, _, rfl⟩ rfl (by omega) (by omega) (by omega) rfl (Nat.le_of_ble_eq_true rfl) dX10_count_60 ?_
      intro r9 S9 hp9
      obtain ⟨rfl, hS9⟩ := hp9
      obtain rfl := hS9.symm
      rw [h.2.2.1.2.2.1]
      exact a_iret K EE rfl (by omega) (by omega) dX10_count_63 ⟨by unfold cntA; rw [if_neg (by decide), if_pos rfl], h.up (by omega) (by omega), h.X⟩
    · by_cases w2 : w = 2
      · subst w2
        refine a_iload_n K dX10_count_0 rfl ?_
        refine a_tsIn K dX10_count_1 (off := 63) (tgt := 64) (by decide) (by decide) rfl (by decide) ?_
        first | refine a_aload_n K dX10_count_64 rfl ?_ | refine a_aload_nN K dX10_count_64 rfl ?_
        refine a_getRs K fd_X10_46 (lw_i4 hL) (Or.inl ⟨_, rfl⟩) (lw_f646 hL) dX10_count_65 ?_
        refine a_invV K (m_X3_given (lw_i6 hL)) my_X3_given ml_X10_228 im_X3_given se_X3_given (ci := 3) (lw_i6 hL) (by decide) ⟨_, _, rfl⟩ rfl (by omega) (by omega) (by omega) rfl (Nat.le_of_ble_eq_true rfl) dX10_count_68 ?_
        intro r9 S9 hp9
        obtain ⟨rfl, hS9⟩ := hp9
        obtain rfl := hS9.symm
        rw [h.2.2.1.1]
        exact a_iret K EE rfl (by omega) (by omega) dX10_count_71 ⟨by unfold cntA; rw [if_neg (by decide), if_neg (by decide), if_pos rfl], h.up (by omega) (by omega), h.X⟩
      · by_cases w3 : w = 3
        · subst w3
          refine a_iload_n K dX10_count_0 rfl ?_
          refine a_tsIn K dX10_count_1 (off := 71) (tgt := 72) (by decide) (by decide) rfl (by decide) ?_
          first | refine a_aload_n K dX10_count_72 rfl ?_ | refine a_aload_nN K dX10_count_72 rfl ?_
          refine a_getRs K fd_X10_39 (lw_i4 hL) (Or.inl ⟨_, rfl⟩) (lw_f645 hL) dX10_count_73 ?_
          refine a_invV K (m_X1_made (lw_i5 hL)) my_X1_made ml_X10_324 im_X1_made se_X1_made (ci := 1) (lw_i5 hL) (by decide) ⟨_, _, rfl⟩ rfl (by omega) (by omega) (by omega) rfl (Nat.le_of_ble_eq_true rfl) dX10_count_76 ?_
          intro r9 S9 hp9
          obtain ⟨rfl, hS9⟩ := hp9
          obtain rfl := hS9.symm
          rw [h.2.1.2.1]
          exact a_iret K EE rfl (by omega) (by omega) dX10_count_79 ⟨by unfold cntA; rw [if_neg (by decide), if_neg (by decide), if_neg (by decide), if_pos rfl], h.up (by omega) (by omega), h.X⟩
        · by_cases w4 : w = 4
          · subst w4
            refine a_iload_n K dX10_count_0 rfl ?_
            refine a_tsIn K dX10_count_1 (off := 79) (tgt := 80) (by decide) (by decide) rfl (by decide) ?_
            first | refine a_aload_n K dX10_count_80 rfl ?_ | refine a_aload_nN K dX10_count_80 rfl ?_
            refine a_invV K (c_liveNodes h hP hm) my_X10_liveNodes ml_X10_430 im_X10_liveNodes se_X10_liveNodes (ci := 10) (lw_i4 hL) (by decide) ⟨_, _, rfl⟩ rfl (by omega) (by omega) (by omega) rfl (Nat.le_of_ble_eq_true rfl) dX10_count_81 ?_
            intro r9 S9 hp9
            obtain ⟨rfl, h2, k2⟩ := hp9
            exact a_iret K EE rfl (by omega) (by omega) dX10_count_84 ⟨by unfold cntA; rw [if_neg (by decide), if_neg (by decide), if_neg (by decide), if_neg (by decide), if_pos rfl], h2, k2⟩
          · by_cases w5 : w = 5
            · subst w5
              refine a_iload_n K dX10_count_0 rfl ?_
              refine a_tsIn K dX10_count_1 (off := 84) (tgt := 85) (by decide) (by decide) rfl (by decide) ?_
              first | refine a_aload_n K dX10_count_85 rfl ?_ | refine a_aload_nN K dX10_count_85 rfl ?_
              refine a_getI K fd_X10_153 (lw_i4 hL) (Or.inl rfl) dX10_count_86 ?_
              rw [h.2.2.2.2.2.1.1]
              exact a_iret K EE rfl (by omega) (by omega) dX10_count_89 ⟨by unfold cntA; rw [if_neg (by decide), if_neg (by decide), if_neg (by decide), if_neg (by decide), if_neg (by decide), if_pos rfl], h.up (by omega) (by omega), h.X⟩
            · by_cases w6 : w = 6
              · subst w6
                refine a_iload_n K dX10_count_0 rfl ?_
                refine a_tsIn K dX10_count_1 (off := 89) (tgt := 90) (by decide) (by decide) rfl (by decide) ?_
                first | refine a_aload_n K dX10_count_90 rfl ?_ | refine a_aload_nN K dX10_count_90 rfl ?_
                refine a_getRs K fd_X10_10 (lw_i4 hL) (Or.inl ⟨_, rfl⟩) (lw_f640 hL) dX10_count_91 ?_
                refine a_invV K (m_X9_size (lw_i0 hL)) my_X9_size ml_X10_98 im_X9_size se_X9_size (ci := 9) (lw_i0 hL) (by decide) ⟨_, _, rfl⟩ rfl (by omega) (by omega) (by omega) rfl (Nat.le_of_ble_eq_true rfl) dX10_count_94 ?_
                intro r9 S9 hp9
                obtain ⟨rfl, hS9⟩ := hp9
                obtain rfl := hS9.symm
                rw [h.2.2.2.2.2.2.1.1]
                exact a_iret K EE rfl (by omega) (by omega) dX10_count_97 ⟨by unfold cntA; rw [if_neg (by decide), if_neg (by decide), if_neg (by decide), if_neg (by decide), if_neg (by decide), if_neg (by decide), if_pos rfl], h.up (by omega) (by omega), h.X⟩
              · by_cases w7 : w = 7
                · subst w7
                  refine a_iload_n K dX10_count_0 rfl ?_
                  refine a_tsIn K dX10_count_1 (off := 97) (tgt := 98) (by decide) (by decide) rfl (by decide) ?_
                  first | refine a_aload_n K dX10_count_98 rfl ?_ | refine a_aload_nN K dX10_count_98 rfl ?_
                  refine a_invV K (c_openBuilders h) my_X10_openBuilders ml_X10_433 im_X10_openBuilders se_X10_openBuilders (ci := 10) (lw_i4 hL) (by decide) ⟨_, _, rfl⟩ rfl (by omega) (by omega) (by omega) rfl (Nat.le_of_ble_eq_true rfl) dX10_count_99 ?_
                  intro r9 S9 hp9
                  obtain ⟨rfl, hS9⟩ := hp9
                  obtain rfl := hS9.symm
                  exact a_iret K EE rfl (by omega) (by omega) dX10_count_102 ⟨by unfold cntA; rw [if_neg (by decide), if_neg (by decide), if_neg (by decide), if_neg (by decide), if_neg (by decide), if_neg (by decide), if_neg (by decide), if_pos rfl], h.up (by omega) (by omega), h.X⟩
                · have hw : w.toInt < 0 ∨ 7 < w.toInt := tswn8 w0 w1 w2 w3 w4 w5 w6 w7
                  refine a_iload_n K dX10_count_0 rfl ?_
                  refine a_tsOut K dX10_count_1 (tgt := 103) (hw) (by decide) ?_
                  refine a_ldc K kc_X10_180 dX10_count_103 ?_
                  exact a_iret K EE rfl (by omega) (by omega) dX10_count_105 ⟨by unfold cntA; rw [if_neg (fun y => by rw [y] at hw; revert hw; decide), if_neg (fun y => by rw [y] at hw; revert hw; decide), if_neg (fun y => by rw [y] at hw; revert hw; decide), if_neg (fun y => by rw [y] at hw; revert hw; decide), if_neg (fun y => by rw [y] at hw; revert hw; decide), if_neg (fun y => by rw [y] at hw; revert hw; decide), if_neg (fun y => by rw [y] at hw; revert hw; decide), if_neg (fun y => by rw [y] at hw; revert hw; decide)], h.up (by omega) (by omega), h.X⟩
