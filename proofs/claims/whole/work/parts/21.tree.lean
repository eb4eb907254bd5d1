/-- what a node of height h holds: entries (0), children -/
def Ct : Nat → Type
  | 0 => Int32 × Int32
  | h + 1 => Nat × Nat × List (Ct h)
/-- a tree of height h: its number, its token, what it holds -/
abbrev Tr (h : Nat) : Type := Nat × Nat × List (Ct h)
def ets (t : Tr 0) : List KV := t.2.2
def kds {h : Nat} (t : Tr (h + 1)) : List (Tr h) := t.2.2
def rawC (ad : Nat → Nat) : (h : Nat) → Ct h → SD
  | 0, x => .inl x
  | _ + 1, x => .inr (some (ad x.1))
def lfB : Nat → Bool
  | 0 => true
  | _ + 1 => false
theorem rawC_0 (ad : Nat → Nat) (t : Tr 0) : t.2.2.map (rawC ad 0) = esS (ets t) := rfl
theorem rawC_l (ad : Nat → Nat) {h : Nat} : ∀ l : List (Tr h), List.map (fun c => rawC ad (h + 1) c) l = ksS (l.map (fun c => ad c.1))
  | [] => rfl
  | c :: l => congrArg (List.cons (Sum.inr (some (ad c.1)))) (rawC_l ad l)
theorem rawC_s (ad : Nat → Nat) {h : Nat} (t : Tr (h + 1)) : t.2.2.map (rawC ad (h + 1)) = ksS ((kds t).map (fun c => ad c.1)) := rawC_l ad (kds t)
/-- a node's own cells -/
def OwnW (S : aw_S) (ad ar : Nat → Nat) (h : Nat) (t : Tr h) : Prop := (sI S 256 (ad t.1) = nI t.2.1 ∧ t.2.1 < 2147483648) ∧ NL S (ad t.1) (lfB h) (ar t.1) (t.2.2.map (rawC ad h))
/-- a tree on the class's heap -/
def RepW (S : aw_S) (ad ar : Nat → Nat) : (h : Nat) → Tr h → Prop
  | 0, t => OwnW S ad ar 0 t
  | h + 1, t => OwnW S ad ar (h + 1) t ∧ ∀ c ∈ kds t, RepW S ad ar h c
theorem RepW.own {S : aw_S} {ad ar : Nat → Nat} {h : Nat} {t : Tr h} (r : RepW S ad ar h t) : OwnW S ad ar h t := by
  cases h with
  | zero => exact r
  | succ h => exact r.1
theorem RepW.is {S : aw_S} {ad ar : Nat → Nat} {h : Nat} {t : Tr h} (r : RepW S ad ar h t) : aw_is S (ad t.1) 4 := r.own.2.1.1
theorem OwnW.l {S : aw_S} {ad ar : Nat → Nat} {t : Tr 0} (r : OwnW S ad ar 0 t) : NL S (ad t.1) true (ar t.1) (esS (ets t)) := r.2
theorem OwnW.k {S : aw_S} {ad ar : Nat → Nat} {h : Nat} {t : Tr (h + 1)} (r : OwnW S ad ar (h + 1) t) : NL S (ad t.1) false (ar t.1) (ksS ((kds t).map (fun c => ad c.1))) := by
  rw [← rawC_s]
  exact r.2
theorem NL.hE {S : aw_S} {a e : Nat} {l : List SD} (h : NL S a true e l) : sR S 257 a = some e := by simpa using h.1.2.1
theorem NL.hE0 {S : aw_S} {a e : Nat} {l : List SD} (h : NL S a false e l) : sR S 257 a = none := by simpa using h.1.2.1
theorem NL.sz {S : aw_S} {a e : Nat} {lf : Bool} {l : List SD} (h : NL S a lf e l) : sI S 259 a = nI l.length := h.1.2.2.2.2.2.1
theorem NL.le7 {S : aw_S} {a e : Nat} {lf : Bool} {l : List SD} (h : NL S a lf e l) : l.length ≤ 7 := h.1.2.2.2.2.2.2
theorem OwnW.sz {S : aw_S} {ad ar : Nat → Nat} {h : Nat} {t : Tr h} (r : OwnW S ad ar h t) : sI S 259 (ad t.1) = nI t.2.2.length := by
  have h1 := r.2.sz
  rwa [List.length_map] at h1
theorem OwnW.le7 {S : aw_S} {ad ar : Nat → Nat} {h : Nat} {t : Tr h} (r : OwnW S ad ar h t) : t.2.2.length ≤ 7 := by
  have h1 := r.2.le7
  rwa [List.length_map] at h1
/-- every node that isn't a leaf has children -/
def NeT : (h : Nat) → Tr h → Prop
  | 0, _ => True
  | h + 1, t => kds t ≠ [] ∧ ∀ c ∈ kds t, NeT h c
/-- the lowest key of a tree (an empty leaf: -1) -/
def low : (h : Nat) → Tr h → Int32
  | 0, t => keyAtL (ets t) 0
  | h + 1, t => match (kds t)[0]? with
    | some c => low h c
    | none => -1
def lowL {h : Nat} (ks : List (Tr h)) (k : Nat) : Int32 := match ks[k]? with
  | some c => low h c
  | none => -1
theorem lowL_in {h : Nat} {ks : List (Tr h)} {k : Nat} {c : Tr h} (hc : ks[k]? = some c) : lowL ks k = low h c := by unfold lowL; rw [hc]
theorem low_s {h : Nat} {t : Tr (h + 1)} {c : Tr h} (hc : (kds t)[0]? = some c) : low (h + 1) t = low h c := by
  show (match (kds t)[0]? with | some c => low h c | none => -1) = _
  rw [hc]
/-- the last of the places 1 .. n - 1 whose number isn't above a key, else 0 -/
def plcN (f : Nat → Int32) (key : Int32) : Nat → Nat
  | 0 => 0
  | 1 => 0
  | k + 2 => if f (k + 1) ≤ key then k + 1 else plcN f key (k + 1)
def place {h : Nat} (key : Int32) (ks : List (Tr h)) : Nat := plcN (lowL ks) key ks.length
theorem plcN_s {f : Nat → Int32} {key : Int32} {i : Nat} (hi : 1 ≤ i) : plcN f key (i + 1) = if f i ≤ key then i else plcN f key i := by
  obtain ⟨j, rfl⟩ : ∃ j, i = j + 1 := ⟨i - 1, by omega⟩
  rfl
theorem plcN_lt (f : Nat → Int32) (key : Int32) : ∀ n, 0 < n → plcN f key n < n
  | 1, _ => Nat.zero_lt_one
  | k + 2, _ => by
    have h1 := plcN_lt f key (k + 1) (Nat.succ_pos k)
    show (if f (k + 1) ≤ key then k + 1 else plcN f key (k + 1)) < k + 2
    split <;> omega
theorem place_lt {h : Nat} {key : Int32} {ks : List (Tr h)} (hn : ks ≠ []) : place key ks < ks.length := plcN_lt _ _ _ (List.length_pos_iff.mpr hn)
/-- the value that a tree has for a key -/
def val : (h : Nat) → Tr h → Int32 → Int32
  | 0, t, key => valIn (ets t) key
  | h + 1, t, key => match (kds t)[place key (kds t)]? with
    | some c => val h c key
    | none => -1000000
theorem val_s {h : Nat} {t : Tr (h + 1)} {key : Int32} {c : Tr h} (hc : (kds t)[place key (kds t)]? = some c) : val (h + 1) t key = val h c key := by
  show (match (kds t)[place key (kds t)]? with | some c => val h c key | none => -1000000) = _
  rw [hc]
/-- how many entries -/
def cnt : (h : Nat) → Tr h → Nat
  | 0, t => (ets t).length
  | h + 1, t => ((kds t).map (cnt h)).sum
theorem sm_take {α : Type} (f : α → Nat) (l : List α) {j : Nat} (hj : j < l.length) : ((l.take (j + 1)).map f).sum = ((l.take j).map f).sum + f l[j] := by
  rw [List.take_succ_eq_append_getElem hj, List.map_append, List.sum_append_nat, List.map_singleton, List.sum_singleton]
theorem kds_le7 {S : aw_S} {ad ar : Nat → Nat} {h : Nat} {t : Tr (h + 1)} (r : OwnW S ad ar (h + 1) t) : (kds t).length ≤ 7 := r.le7
set_option maxHeartbeats 4000000 in
set_option maxRecDepth 100000 in
theorem m_X4_lowestKey {S : aw_S} {ad ar : Nat → Nat} {h : Nat} {t : Tr h} {lo : Int32} (r : RepW S ad ar h t) (ne : NeT h t) (hh : h < 12) (hl : low h t = lo) : aw_M yX4_lowestKey cX4_lowestKey 3 (some FieldType.int) 1 0 0 [.ref (ad t.1)] S (fun r S2 => r = some (.int lo) ∧ S2 = S) := by
  refine aw_enter (by decide +kernel) (Nat.le_of_ble_eq_true rfl) (fun g K E => ?_)
  have loop : ∀ (i : Nat) (t2 : Tr i) (j : Nat) (x : Int32), x = nI j → j + i < 12 → RepW S ad ar i t2 → NeT i t2 → low i t2 = lo → aw g 3 S 0 0 [(2, .int x), (1, .ref (ad t2.1))] [] 4 := by
    intro i
    induction i with
    | zero =>
      intro t2 j x hx hi hr hne hlow
      subst hx
      have oT := hr.is
      refine a_iload_n K dX4_lowestKey_4 rfl ?_
      refine a_bipush K dX4_lowestKey_5 (v := 12) (by decide) ?_
      refine a_icmp_ge K dX4_lowestKey_7 (tgt := 33) (by decide) (fun c_7 => absurd c_7 (nI_ge (b := 12) (show j < 12 by omega) (by omega))) (fun c_7 => ?_)
      first | refine a_aload_n K dX4_lowestKey_10 rfl ?_ | refine a_aload_nN K dX4_lowestKey_10 rfl ?_
      refine a_ifnull K dX4_lowestKey_11 ?_
      first | refine a_aload_n K dX4_lowestKey_14 rfl ?_ | refine a_aload_nN K dX4_lowestKey_14 rfl ?_
      refine a_invV K (m_X4_isLeaf_y oT hr.own.l.hE) my_X4_isLeaf ml_X4_55 im_X4_isLeaf se_X4_isLeaf (ci := 4) (by assumption) (by decide) ⟨_, _, rfl⟩ rfl (by omega) (by omega) (by omega) rfl (Nat.le_of_ble_eq_true rfl) dX4_lowestKey_15 ?_
      intro r9 S9 hp9
      obtain ⟨rfl, hS9⟩ := hp9
      obtain rfl := hS9.symm
      refine a_if_ne K dX4_lowestKey_18 (tgt := 33) (by decide) (fun c_18 => ?_) (fun c_18 => absurd c_18 (by decide))
      first | refine a_aload_n K dX4_lowestKey_33 rfl ?_ | refine a_aload_nN K dX4_lowestKey_33 rfl ?_
      refine a_ifnonnull K dX4_lowestKey_34 (tgt := 41) (by decide) ?_
      first | refine a_aload_n K dX4_lowestKey_41 rfl ?_ | refine a_aload_nN K dX4_lowestKey_41 rfl ?_
      refine a_iconst K dX4_lowestKey_42 (v := 0) (by decide) ?_
      refine a_invV K (m_X4_keyAt (k := 0) hr.own.l (by omega)) my_X4_keyAt ml_X4_41 im_X4_keyAt se_X4_keyAt (ci := 4) (by assumption) (by decide) ⟨_, _, rfl⟩ rfl (by omega) (by omega) (by omega) rfl (Nat.le_of_ble_eq_true rfl) dX4_lowestKey_43 ?_
      intro r9 S9 hp9
      obtain ⟨rfl, hS9⟩ := hp9
      obtain rfl := hS9.symm
      exact a_iret K E rfl (by omega) (by omega) dX4_lowestKey_46 ⟨by rw [← hlow]; rfl, rfl⟩
    | succ i ih =>
      intro t2 j x hx hi hr hne hlow
      subst hx
      have oT := hr.is
      refine a_iload_n K dX4_lowestKey_4 rfl ?_
      refine a_bipush K dX4_lowestKey_5 (v := 12) (by decide) ?_
      refine a_icmp_ge K dX4_lowestKey_7 (tgt := 33) (by decide) (fun c_7 => absurd c_7 (nI_ge (b := 12) (show j < 12 by omega) (by omega))) (fun c_7 => ?_)
      first | refine a_aload_n K dX4_lowestKey_10 rfl ?_ | refine a_aload_nN K dX4_lowestKey_10 rfl ?_
      refine a_ifnull K dX4_lowestKey_11 ?_
      first | refine a_aload_n K dX4_lowestKey_14 rfl ?_ | refine a_aload_nN K dX4_lowestKey_14 rfl ?_
      refine a_invV K (m_X4_isLeaf_n oT hr.own.k.hE0) my_X4_isLeaf ml_X4_55 im_X4_isLeaf se_X4_isLeaf (ci := 4) (by assumption) (by decide) ⟨_, _, rfl⟩ rfl (by omega) (by omega) (by omega) rfl (Nat.le_of_ble_eq_true rfl) dX4_lowestKey_15 ?_
      intro r9 S9 hp9
      obtain ⟨rfl, hS9⟩ := hp9
      obtain rfl := hS9.symm
      refine a_if_ne K dX4_lowestKey_18 (tgt := 33) (by decide) (fun c_18 => absurd c_18 (by decide)) (fun c_18 => ?_)
      first | refine a_aload_n K dX4_lowestKey_21 rfl ?_ | refine a_aload_nN K dX4_lowestKey_21 rfl ?_
      refine a_iconst K dX4_lowestKey_22 (v := 0) (by decide) ?_
      refine a_invV K (m_X4_kidAt (k := 0) hr.own.k (by omega)) my_X4_kidAt ml_X4_47 im_X4_kidAt se_X4_kidAt (ci := 4) (by assumption) (by decide) ⟨_, _, rfl⟩ rfl (by omega) (by omega) (by omega) rfl (Nat.le_of_ble_eq_true rfl) dX4_lowestKey_23 ?_
      intro r9 S9 hp9
      obtain ⟨rfl, hS9⟩ := hp9
      obtain rfl := hS9.symm
      have hp := List.length_pos_iff.mpr hne.1
      have h0 := List.getElem?_eq_getElem hp
      rw [List.getElem?_map, h0]
      first | refine a_astore_n K dX4_lowestKey_26 (by decide) ?_ | refine a_astore_nN K dX4_lowestKey_26 (by decide) ?_
      refine a_iinc K dX4_lowestKey_27 (v := 1) rfl (by decide) (by decide) ?_
      refine a_goto K dX4_lowestKey_30 (tgt := 4) (by decide) ?_
      exact aw_locl rfl (ih (kds t2)[0] (j + 1) _ (nI_1 j) (by omega) (hr.2 _ (List.getElem_mem hp)) (hne.2 _ (List.getElem_mem hp)) ((low_s h0).symm.trans hlow))
  first | refine a_aload_n K dX4_lowestKey_0 rfl ?_ | refine a_aload_nN K dX4_lowestKey_0 rfl ?_
  first | refine a_astore_n K dX4_lowestKey_1 (by decide) ?_ | refine a_astore_nN K dX4_lowestKey_1 (by decide) ?_
  refine a_iconst K dX4_lowestKey_2 (v := 0) (by decide) ?_
  refine a_istore_n K dX4_lowestKey_3 (by decide) ?_
  exact aw_locl rfl (loop h t 0 0 nI_0.symm (by omega) r ne hl)
set_option maxHeartbeats 4000000 in
set_option maxRecDepth 100000 in
theorem m_X4_placeOfKid {S : aw_S} {ad ar : Nat → Nat} {h : Nat} {t : Tr (h + 1)} {key : Int32} (r : RepW S ad ar (h + 1) t) (ne : NeT (h + 1) t) (hh : h < 12) : aw_M yX4_placeOfKid cX4_placeOfKid 5 (some FieldType.int) 2 0 0 [.ref (ad t.1), .int key] S (fun r S2 => r = some (.int (nI (place key (kds t)))) ∧ S2 = S) := by
  have o := r.is
  have h7 := kds_le7 r.own
  have hs : sI S 259 (ad t.1) = nI (kds t).length := r.own.sz
  have hp := List.length_pos_iff.mpr ne.1
  refine aw_enter (by decide +kernel) (Nat.le_of_ble_eq_true rfl) (fun g K E => ?_)
  have loop : ∀ (i j : Nat) (x b : Int32), x = nI j → j + i = (kds t).length → 1 ≤ j → b = nI (plcN (lowL (kds t)) key j) → aw g 5 S 0 0 [(3, .int x), (2, .int b), (1, .int key), (0, .ref (ad t.1))] [] 4 := by
    intro i
    induction i with
    | zero =>
      intro j x b hx hi hj1 hb
      subst hx
      subst hb
      refine a_iload_n K dX4_placeOfKid_4 rfl ?_
      first | refine a_aload_n K dX4_placeOfKid_5 rfl ?_ | refine a_aload_nN K dX4_placeOfKid_5 rfl ?_
      refine a_getI K fd_X4_30 (by assumption) (Or.inl rfl) dX4_placeOfKid_6 ?_
      refine a_icmp_ge K dX4_placeOfKid_9 (tgt := 41) (by decide) (fun c_9 => ?_) (fun c_9 => absurd c_9 (by rw [hs]; exact fun z => z (nI_le (by omega) (by omega))))
      refine a_iload_n K dX4_placeOfKid_41 rfl ?_
      exact a_iret K E rfl (by omega) (by omega) dX4_placeOfKid_42 ⟨by rw [show j = (kds t).length by omega]; rfl, rfl⟩
    | succ i ih =>
      intro j x b hx hi hj1 hb
      subst hx
      subst hb
      refine a_iload_n K dX4_placeOfKid_4 rfl ?_
      first | refine a_aload_n K dX4_placeOfKid_5 rfl ?_ | refine a_aload_nN K dX4_placeOfKid_5 rfl ?_
      refine a_getI K fd_X4_30 (by assumption) (Or.inl rfl) dX4_placeOfKid_6 ?_
      refine a_icmp_ge K dX4_placeOfKid_9 (tgt := 41) (by decide) (fun c_9 => absurd c_9 (by rw [hs]; exact nI_ge (show j < (kds t).length by omega) (by omega))) (fun c_9 => ?_)
      first | refine a_aload_n K dX4_placeOfKid_12 rfl ?_ | refine a_aload_nN K dX4_placeOfKid_12 rfl ?_
      refine a_iload_n K dX4_placeOfKid_13 rfl ?_
      refine a_invV K (m_X4_kidAt (k := j) r.own.k (by omega)) my_X4_kidAt ml_X4_47 im_X4_kidAt se_X4_kidAt (ci := 4) (by assumption) (by decide) ⟨_, _, rfl⟩ rfl (by omega) (by omega) (by omega) rfl (Nat.le_of_ble_eq_true rfl) dX4_placeOfKid_14 ?_
      intro r9 S9 hp9
      obtain ⟨rfl, hS9⟩ := hp9
      obtain rfl := hS9.symm
      have hj : j < (kds t).length := by omega
      have h0 := List.getElem?_eq_getElem hj
      rw [List.getElem?_map, h0]
      have rK := r.2 _ (List.getElem_mem hj)
      have oK := rK.is
      have neK := ne.2 _ (List.getElem_mem hj)
      first | refine a_astore K dX4_placeOfKid_17 (by decide) ?_ | refine a_astoreN K dX4_placeOfKid_17 (by decide) ?_
      first | refine a_aload K dX4_placeOfKid_19 rfl ?_ | refine a_aloadN K dX4_placeOfKid_19 rfl ?_
      refine a_ifnull K dX4_placeOfKid_21 ?_
      first | refine a_aload K dX4_placeOfKid_24 rfl ?_ | refine a_aloadN K dX4_placeOfKid_24 rfl ?_
      refine a_invV K (m_X4_lowestKey rK neK (by omega) (lowL_in h0).symm) my_X4_lowestKey ml_X4_51 im_X4_lowestKey se_X4_lowestKey (ci := 4) (by assumption) (by decide) ⟨_, _, rfl⟩ rfl (by omega) (by omega) (by omega) rfl (Nat.le_of_ble_eq_true rfl) dX4_placeOfKid_26 ?_
      intro r9 S9 hp9
      obtain ⟨rfl, hS9⟩ := hp9
      obtain rfl := hS9.symm
      refine a_iload_n K dX4_placeOfKid_29 rfl ?_
      refine a_icmp_gt K dX4_placeOfKid_30 (tgt := 35) (by decide) (fun c_30 => ?_) (fun c_30 => ?_)
      · have e2 : plcN (lowL (kds t)) key (j + 1) = plcN (lowL (kds t)) key j := by rw [plcN_s hj1, if_neg (Int32.not_le.mpr c_30)]
        refine a_iinc K dX4_placeOfKid_35 (v := 1) rfl (by decide) (by decide) ?_
        refine a_goto K dX4_placeOfKid_38 (tgt := 4) (by decide) ?_
        exact aw_locl rfl (ih (j + 1) _ _ (nI_1 j) (by omega) (by omega) (by rw [e2]))
      · have e2 : plcN (lowL (kds t)) key (j + 1) = j := by rw [plcN_s hj1, if_pos (Int32.not_lt.mp c_30)]
        refine a_iload_n K dX4_placeOfKid_33 rfl ?_
        refine a_istore_n K dX4_placeOfKid_34 (by decide) ?_
        refine a_iinc K dX4_placeOfKid_35 (v := 1) rfl (by decide) (by decide) ?_
        refine a_goto K dX4_placeOfKid_38 (tgt := 4) (by decide) ?_
        exact aw_locl rfl (ih (j + 1) _ _ (nI_1 j) (by omega) (by omega) (by rw [e2]))
  refine a_iconst K dX4_placeOfKid_0 (v := 0) (by decide) ?_
  refine a_istore_n K dX4_placeOfKid_1 (by decide) ?_
  refine a_iconst K dX4_placeOfKid_2 (v := 1) (by decide) ?_
  refine a_istore_n K dX4_placeOfKid_3 (by decide) ?_
  exact aw_locl rfl (loop ((kds t).length - 1) 1 1 0 rfl (by omega) (by omega) rfl)
set_option maxHeartbeats 4000000 in
set_option maxRecDepth 100000 in
theorem m_X10_valueIn {S : aw_S} {ad ar : Nat → Nat} {h : Nat} {t : Tr h} {key vv : Int32} (r : RepW S ad ar h t) (ne : NeT h t) (hh : h < 12) (hv : val h t key = vv) : aw_M yX10_valueIn cX10_valueIn 4 (some FieldType.int) 3 0 0 [.ref (ad t.1), .int key] S (fun r S2 => r = some (.int vv) ∧ S2 = S) := by
  refine aw_enter (by decide +kernel) (Nat.le_of_ble_eq_true rfl) (fun g K E => ?_)
  have loop : ∀ (i : Nat) (t2 : Tr i) (j : Nat) (x : Int32), x = nI j → j + i < 12 → RepW S ad ar i t2 → NeT i t2 → val i t2 key = vv → aw g 4 S 0 0 [(3, .int x), (2, .ref (ad t2.1)), (1, .int key)] [] 4 := by
    intro i
    induction i with
    | zero =>
      intro t2 j x hx hi hr hne hval
      subst hx
      have oT := hr.is
      refine a_iload_n K dX10_valueIn_4 rfl ?_
      refine a_bipush K dX10_valueIn_5 (v := 12) (by decide) ?_
      refine a_icmp_ge K dX10_valueIn_7 (tgt := 37) (by decide) (fun c_7 => absurd c_7 (nI_ge (b := 12) (show j < 12 by omega) (by omega))) (fun c_7 => ?_)
      first | refine a_aload_n K dX10_valueIn_10 rfl ?_ | refine a_aload_nN K dX10_valueIn_10 rfl ?_
      refine a_ifnull K dX10_valueIn_11 ?_
      first | refine a_aload_n K dX10_valueIn_14 rfl ?_ | refine a_aload_nN K dX10_valueIn_14 rfl ?_
      refine a_invV K (m_X4_isLeaf_y oT hr.own.l.hE) my_X4_isLeaf ml_X10_209 im_X4_isLeaf se_X4_isLeaf (ci := 4) (by assumption) (by decide) ⟨_, _, rfl⟩ rfl (by omega) (by omega) (by omega) rfl (Nat.le_of_ble_eq_true rfl) dX10_valueIn_15 ?_
      intro r9 S9 hp9
      obtain ⟨rfl, hS9⟩ := hp9
      obtain rfl := hS9.symm
      refine a_if_ne K dX10_valueIn_18 (tgt := 37) (by decide) (fun c_18 => ?_) (fun c_18 => absurd c_18 (by decide))
      first | refine a_aload_n K dX10_valueIn_37 rfl ?_ | refine a_aload_nN K dX10_valueIn_37 rfl ?_
      refine a_ifnonnull K dX10_valueIn_38 (tgt := 46) (by decide) ?_
      first | refine a_aload_n K dX10_valueIn_46 rfl ?_ | refine a_aload_nN K dX10_valueIn_46 rfl ?_
      refine a_iload_n K dX10_valueIn_47 rfl ?_
      refine a_invV K (m_X4_valueOf hr.own.l) my_X4_valueOf ml_X10_445 im_X4_valueOf se_X4_valueOf (ci := 4) (by assumption) (by decide) ⟨_, _, rfl⟩ rfl (by omega) (by omega) (by omega) rfl (Nat.le_of_ble_eq_true rfl) dX10_valueIn_48 ?_
      intro r9 S9 hp9
      obtain ⟨rfl, hS9⟩ := hp9
      obtain rfl := hS9.symm
      exact a_iret K E rfl (by omega) (by omega) dX10_valueIn_51 ⟨by rw [← hval]; rfl, rfl⟩
    | succ i ih =>
      intro t2 j x hx hi hr hne hval
      subst hx
      have oT := hr.is
      refine a_iload_n K dX10_valueIn_4 rfl ?_
      refine a_bipush K dX10_valueIn_5 (v := 12) (by decide) ?_
      refine a_icmp_ge K dX10_valueIn_7 (tgt := 37) (by decide) (fun c_7 => absurd c_7 (nI_ge (b := 12) (show j < 12 by omega) (by omega))) (fun c_7 => ?_)
      first | refine a_aload_n K dX10_valueIn_10 rfl ?_ | refine a_aload_nN K dX10_valueIn_10 rfl ?_
      refine a_ifnull K dX10_valueIn_11 ?_
      first | refine a_aload_n K dX10_valueIn_14 rfl ?_ | refine a_aload_nN K dX10_valueIn_14 rfl ?_
      refine a_invV K (m_X4_isLeaf_n oT hr.own.k.hE0) my_X4_isLeaf ml_X10_209 im_X4_isLeaf se_X4_isLeaf (ci := 4) (by assumption) (by decide) ⟨_, _, rfl⟩ rfl (by omega) (by omega) (by omega) rfl (Nat.le_of_ble_eq_true rfl) dX10_valueIn_15 ?_
      intro r9 S9 hp9
      obtain ⟨rfl, hS9⟩ := hp9
      obtain rfl := hS9.symm
      refine a_if_ne K dX10_valueIn_18 (tgt := 37) (by decide) (fun c_18 => absurd c_18 (by decide)) (fun c_18 => ?_)
      first | refine a_aload_n K dX10_valueIn_21 rfl ?_ | refine a_aload_nN K dX10_valueIn_21 rfl ?_
      first | refine a_aload_n K dX10_valueIn_22 rfl ?_ | refine a_aload_nN K dX10_valueIn_22 rfl ?_
      refine a_iload_n K dX10_valueIn_23 rfl ?_
      refine a_invV K (m_X4_placeOfKid (key := key) hr hne (by omega)) my_X4_placeOfKid ml_X10_439 im_X4_placeOfKid se_X4_placeOfKid (ci := 4) (by assumption) (by decide) ⟨_, _, rfl⟩ rfl (by omega) (by omega) (by omega) rfl (Nat.le_of_ble_eq_true rfl) dX10_valueIn_24 ?_
      intro r9 S9 hp9
      obtain ⟨rfl, hS9⟩ := hp9
      obtain rfl := hS9.symm
      have hp : place key (kds t2) < (kds t2).length := place_lt hne.1
      have h7 := kds_le7 hr.own
      have h0 := List.getElem?_eq_getElem hp
      refine a_invV K (m_X4_kidAt (k := place key (kds t2)) hr.own.k (by omega)) my_X4_kidAt ml_X10_442 im_X4_kidAt se_X4_kidAt (ci := 4) (by assumption) (by decide) ⟨_, _, rfl⟩ rfl (by omega) (by omega) (by omega) rfl (Nat.le_of_ble_eq_true rfl) dX10_valueIn_27 ?_
      intro r9 S9 hp9
      obtain ⟨rfl, hS9⟩ := hp9
      obtain rfl := hS9.symm
      rw [List.getElem?_map, h0]
      first | refine a_astore_n K dX10_valueIn_30 (by decide) ?_ | refine a_astore_nN K dX10_valueIn_30 (by decide) ?_
      refine a_iinc K dX10_valueIn_31 (v := 1) rfl (by decide) (by decide) ?_
      refine a_goto K dX10_valueIn_34 (tgt := 4) (by decide) ?_
      exact aw_locl rfl (ih (kds t2)[place key (kds t2)] (j + 1) _ (nI_1 j) (by omega) (hr.2 _ (List.getElem_mem hp)) (hne.2 _ (List.getElem_mem hp)) ((val_s h0).symm.trans hval))
  first | refine a_aload_n K dX10_valueIn_0 rfl ?_ | refine a_aload_nN K dX10_valueIn_0 rfl ?_
  first | refine a_astore_n K dX10_valueIn_1 (by decide) ?_ | refine a_astore_nN K dX10_valueIn_1 (by decide) ?_
  refine a_iconst K dX10_valueIn_2 (v := 0) (by decide) ?_
  refine a_istore_n K dX10_valueIn_3 (by decide) ?_
  exact aw_locl rfl (loop h t 0 0 nI_0.symm (by omega) r ne hv)
set_option maxHeartbeats 4000000 in
set_option maxRecDepth 100000 in
theorem m_X10_keysIn {S : aw_S} {ad ar : Nat → Nat} : ∀ (h : Nat) {t : Tr h} {dep : Nat} (_ : RepW S ad ar h t) (_ : dep + h < 12), aw_M yX10_keysIn cX10_keysIn 4 (some FieldType.int) (h + 1) 0 0 [.ref (ad t.1), .int (nI dep)] S (fun r S2 => r = some (.int (nI (cnt h t))) ∧ S2 = S) := by
  intro h
  induction h with
  | zero =>
    intro t dep r hd
    have o := r.is
    refine aw_enter (by decide +kernel) (Nat.le_of_ble_eq_true rfl) (fun g K E => ?_)
    first | refine a_aload_n K dX10_keysIn_0 rfl ?_ | refine a_aload_nN K dX10_keysIn_0 rfl ?_
    refine a_ifnull K dX10_keysIn_1 ?_
    refine a_iload_n K dX10_keysIn_4 rfl ?_
    refine a_bipush K dX10_keysIn_5 (v := 12) (by decide) ?_
    refine a_icmp_lt K dX10_keysIn_7 (tgt := 12) (by decide) (fun c_7 => ?_) (fun c_7 => absurd c_7 (fun z => z (nI_lt (b := 12) (by omega) (by omega))))
    first | refine a_aload_n K dX10_keysIn_12 rfl ?_ | refine a_aload_nN K dX10_keysIn_12 rfl ?_
    refine a_invV K (m_X4_isLeaf_y r.is r.own.l.hE) my_X4_isLeaf ml_X10_209 im_X4_isLeaf se_X4_isLeaf (ci := 4) (by assumption) (by decide) ⟨_, _, rfl⟩ rfl (by omega) (by omega) (by omega) rfl (Nat.le_of_ble_eq_true rfl) dX10_keysIn_13 ?_
    intro r9 S9 hp9
    obtain ⟨rfl, hS9⟩ := hp9
    obtain rfl := hS9.symm
    refine a_if_eq K dX10_keysIn_16 (tgt := 24) (by decide) (fun c_16 => absurd c_16 (by decide)) (fun c_16 => ?_)
    first | refine a_aload_n K dX10_keysIn_19 rfl ?_ | refine a_aload_nN K dX10_keysIn_19 rfl ?_
    refine a_invV K (m_X4_size r.is) my_X4_size ml_X10_214 im_X4_size se_X4_size (ci := 4) (by assumption) (by decide) ⟨_, _, rfl⟩ rfl (by omega) (by omega) (by omega) rfl (Nat.le_of_ble_eq_true rfl) dX10_keysIn_20 ?_
    intro r9 S9 hp9
    obtain ⟨rfl, hS9⟩ := hp9
    obtain rfl := hS9.symm
    exact a_iret K E rfl (by omega) (by omega) dX10_keysIn_23 ⟨by rw [r.own.sz]; rfl, rfl⟩
  | succ h ih =>
    intro t dep r hd
    have o := r.is
    have h7 := kds_le7 r.own
    have hs : sI S 259 (ad t.1) = nI (kds t).length := r.own.sz
    refine aw_enter (by decide +kernel) (Nat.le_of_ble_eq_true rfl) (fun g K E => ?_)
    have loop : ∀ (i j : Nat) (x b : Int32), x = nI j → j + i = (kds t).length → b = nI ((((kds t).take j).map (cnt h)).sum) → aw g 4 S 0 0 [(3, .int x), (2, .int b), (1, .int (nI dep)), (0, .ref (ad t.1))] [] 28 := by
      intro i
      induction i with
      | zero =>
        intro j x b hx hi hb
        subst hx hb
        refine a_iload_n K dX10_keysIn_28 rfl ?_
        first | refine a_aload_n K dX10_keysIn_29 rfl ?_ | refine a_aload_nN K dX10_keysIn_29 rfl ?_
        refine a_invV K (m_X4_size r.is) my_X4_size ml_X10_214 im_X4_size se_X4_size (ci := 4) (by assumption) (by decide) ⟨_, _, rfl⟩ rfl (by omega) (by omega) (by omega) rfl (Nat.le_of_ble_eq_true rfl) dX10_keysIn_30 ?_
        intro r9 S9 hp9
        obtain ⟨rfl, hS9⟩ := hp9
        obtain rfl := hS9.symm
        refine a_icmp_ge K dX10_keysIn_33 (tgt := 56) (by decide) (fun c_33 => ?_) (fun c_33 => absurd c_33 (by rw [hs]; exact fun z => z (nI_le (by omega) (by omega))))
        refine a_iload_n K dX10_keysIn_56 rfl ?_
        exact a_iret K E rfl (by omega) (by omega) dX10_keysIn_57 ⟨by rw [show j = (kds t).length by omega, List.take_length]; rfl, rfl⟩
      | succ i ihl =>
        intro j x b hx hi hb
        subst hx hb
        refine a_iload_n K dX10_keysIn_28 rfl ?_
        first | refine a_aload_n K dX10_keysIn_29 rfl ?_ | refine a_aload_nN K dX10_keysIn_29 rfl ?_
        refine a_invV K (m_X4_size r.is) my_X4_size ml_X10_214 im_X4_size se_X4_size (ci := 4) (by assumption) (by decide) ⟨_, _, rfl⟩ rfl (by omega) (by omega) (by omega) rfl (Nat.le_of_ble_eq_true rfl) dX10_keysIn_30 ?_
        intro r9 S9 hp9
        obtain ⟨rfl, hS9⟩ := hp9
        obtain rfl := hS9.symm
        refine a_icmp_ge K dX10_keysIn_33 (tgt := 56) (by decide) (fun c_33 => absurd c_33 (by rw [hs]; exact nI_ge (show j < (kds t).length by omega) (by omega))) (fun c_33 => ?_)
        refine a_iload_n K dX10_keysIn_36 rfl ?_
        first | refine a_aload_n K dX10_keysIn_37 rfl ?_ | refine a_aload_nN K dX10_keysIn_37 rfl ?_
        refine a_iload_n K dX10_keysIn_38 rfl ?_
        refine a_invV K (m_X4_kidAt (k := j) r.own.k (by omega)) my_X4_kidAt ml_X10_442 im_X4_kidAt se_X4_kidAt (ci := 4) (by assumption) (by decide) ⟨_, _, rfl⟩ rfl (by omega) (by omega) (by omega) rfl (Nat.le_of_ble_eq_true rfl) dX10_keysIn_39 ?_
        intro r9 S9 hp9
        obtain ⟨rfl, hS9⟩ := hp9
        obtain rfl := hS9.symm
        have hj : j < (kds t).length := by omega
        rw [List.getElem?_map, List.getElem?_eq_getElem hj]
        refine a_iload_n K dX10_keysIn_42 rfl ?_
        refine a_iconst K dX10_keysIn_43 (v := 1) (by decide) ?_
        refine a_iadd K dX10_keysIn_44 ?_
        rw [nI_1]
        refine a_invS K (ih (t := (kds t)[j]) (dep := dep + 1) (r.2 _ (List.getElem_mem hj)) (by omega)) my_X10_keysIn ml_X10_225 st_X10_keysIn rfl (by omega) (by omega) (by omega) rfl (Nat.le_of_ble_eq_true rfl) dX10_keysIn_45 ?_
        intro r9 S9 hp9
        obtain ⟨rfl, hS9⟩ := hp9
        obtain rfl := hS9.symm
        refine a_iadd K dX10_keysIn_48 ?_
        rw [nI_add]
        refine a_istore_n K dX10_keysIn_49 (by decide) ?_
        refine a_iinc K dX10_keysIn_50 (v := 1) rfl (by decide) (by decide) ?_
        refine a_goto K dX10_keysIn_53 (tgt := 28) (by decide) ?_
        exact aw_locl rfl (ihl (j + 1) _ _ (nI_1 j) (by omega) (by rw [sm_take _ _ hj]))
    first | refine a_aload_n K dX10_keysIn_0 rfl ?_ | refine a_aload_nN K dX10_keysIn_0 rfl ?_
    refine a_ifnull K dX10_keysIn_1 ?_
    refine a_iload_n K dX10_keysIn_4 rfl ?_
    refine a_bipush K dX10_keysIn_5 (v := 12) (by decide) ?_
    refine a_icmp_lt K dX10_keysIn_7 (tgt := 12) (by decide) (fun c_7 => ?_) (fun c_7 => absurd c_7 (fun z => z (nI_lt (b := 12) (by omega) (by omega))))
    first | refine a_aload_n K dX10_keysIn_12 rfl ?_ | refine a_aload_nN K dX10_keysIn_12 rfl ?_
    refine a_invV K (m_X4_isLeaf_n r.is r.own.k.hE0) my_X4_isLeaf ml_X10_209 im_X4_isLeaf se_X4_isLeaf (ci := 4) (by assumption) (by decide) ⟨_, _, rfl⟩ rfl (by omega) (by omega) (by omega) rfl (Nat.le_of_ble_eq_true rfl) dX10_keysIn_13 ?_
    intro r9 S9 hp9
    obtain ⟨rfl, hS9⟩ := hp9
    obtain rfl := hS9.symm
    refine a_if_eq K dX10_keysIn_16 (tgt := 24) (by decide) (fun c_16 => ?_) (fun c_16 => absurd c_16 (by decide))
    refine a_iconst K dX10_keysIn_24 (v := 0) (by decide) ?_
    refine a_istore_n K dX10_keysIn_25 (by decide) ?_
    refine a_iconst K dX10_keysIn_26 (v := 0) (by decide) ?_
    refine a_istore_n K dX10_keysIn_27 (by decide) ?_
    exact aw_locl rfl (loop (kds t).length 0 0 0 nI_0.symm (by omega) nI_0.symm)
set_option maxHeartbeats 4000000 in
set_option maxRecDepth 100000 in
theorem m_X10_fits {S : aw_S} {ad ar : Nat → Nat} {h : Nat} {t : Tr h} {key : Int32} (r : RepW S ad ar h t) (ne : NeT h t) (hh : h < 12) (hc : cnt h t < 1000) : aw_M yX10_fits cX10_fits 2 (some FieldType.boolean) (h + 4) 0 0 [.ref (ad t.1), .int key] S (fun r S2 => S2 = S ∧ bR (val h t key ≠ -1000000 ∨ cnt h t < 60) r) := by
  refine aw_enter (by decide +kernel) (Nat.le_of_ble_eq_true rfl) (fun g K E => ?_)
  first | refine a_aload_n K dX10_fits_0 rfl ?_ | refine a_aload_nN K dX10_fits_0 rfl ?_
  refine a_iload_n K dX10_fits_1 rfl ?_
  refine a_invS K (m_X10_valueIn r ne hh rfl) my_X10_valueIn ml_X10_169 st_X10_valueIn rfl (by omega) (by omega) (by omega) rfl (Nat.le_of_ble_eq_true rfl) dX10_fits_2 ?_
  intro r9 S9 hp9
  obtain ⟨rfl, hS9⟩ := hp9
  obtain rfl := hS9.symm
  refine a_ldc K kc_X10_180 dX10_fits_5 ?_
  refine a_icmp_ne K dX10_fits_7 (tgt := 20) (by decide) (fun c_7 => ?_) (fun c_7 => ?_)
  · refine a_iconst K dX10_fits_20 (v := 1) (by decide) ?_
    refine a_goto K dX10_fits_21 (tgt := 25) (by decide) ?_
    exact a_iret K E rfl (by omega) (by omega) dX10_fits_25 ⟨rfl, by first | exact Or.inl ⟨Or.inl c_7, rfl⟩ | exact Or.inl ⟨Or.inr hc2, rfl⟩ | exact Or.inr ⟨fun z => z.elim (fun y => y (Classical.not_not.mp c_7)) hc2, rfl⟩ | exact Or.inr ⟨fun z => z.elim (fun y => y c_7) hc2, rfl⟩⟩
  · first | refine a_aload_n K dX10_fits_10 rfl ?_ | refine a_aload_nN K dX10_fits_10 rfl ?_
    refine a_iconst K dX10_fits_11 (v := 0) (by decide) ?_
    refine a_invS K (m_X10_keysIn h (dep := 0) r (by omega)) my_X10_keysIn ml_X10_225 st_X10_keysIn rfl (by omega) (by omega) (by omega) rfl (Nat.le_of_ble_eq_true rfl) dX10_fits_12 ?_
    intro r9 S9 hp9
    obtain ⟨rfl, hS9⟩ := hp9
    obtain rfl := hS9.symm
    refine a_bipush K dX10_fits_15 (v := 60) (by decide) ?_
    refine a_icmp_ge K dX10_fits_17 (tgt := 24) (by decide) (fun c_17 => ?_) (fun c_17 => ?_)
    · have hc2 : ¬ cnt h t < 60 := fun z => absurd (nI_lt (b := 60) z (by omega)) (Int32.not_lt.mpr c_17)
      refine a_iconst K dX10_fits_24 (v := 0) (by decide) ?_
      exact a_iret K E rfl (by omega) (by omega) dX10_fits_25 ⟨rfl, by first | exact Or.inl ⟨Or.inl c_7, rfl⟩ | exact Or.inl ⟨Or.inr hc2, rfl⟩ | exact Or.inr ⟨fun z => z.elim (fun y => y (Classical.not_not.mp c_7)) hc2, rfl⟩ | exact Or.inr ⟨fun z => z.elim (fun y => y c_7) hc2, rfl⟩⟩
    · have hc2 : cnt h t < 60 := (nI_ltI (b := 60) (by omega) (by omega)).mp (Int32.not_le.mp c_17)
      refine a_iconst K dX10_fits_20 (v := 1) (by decide) ?_
      refine a_goto K dX10_fits_21 (tgt := 25) (by decide) ?_
      exact a_iret K E rfl (by omega) (by omega) dX10_fits_25 ⟨rfl, by first | exact Or.inl ⟨Or.inl c_7, rfl⟩ | exact Or.inl ⟨Or.inr hc2, rfl⟩ | exact Or.inr ⟨fun z => z.elim (fun y => y (Classical.not_not.mp c_7)) hc2, rfl⟩ | exact Or.inr ⟨fun z => z.elim (fun y => y c_7) hc2, rfl⟩⟩
