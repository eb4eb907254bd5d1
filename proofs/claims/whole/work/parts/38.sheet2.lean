/-- an entry, entries, a tree as they are shown -/
def txE (x : KV) : List Nat := nmT x.1 ++ 58 :: nmT x.2
def txB : Bool → List KV → List Nat
  | _, [] => []
  | b, x :: r => (if b then [] else [32]) ++ (txE x ++ txB false r)
def txt : (h : Nat) → Tr h → List Nat
  | 0, t => 91 :: (txB true (ets t) ++ [93])
  | h + 1, t => 40 :: ((kds t).flatMap (txt h) ++ [41])
def okE (x : KV) : Prop := (∃ n, n < 1000 ∧ x.1 = nI n) ∧ okV x.2
theorem okE.k {x : KV} (h : okE x) : okV x.1 ∧ (nmT x.1).length ≤ 3 := by
  obtain ⟨⟨n, hn, e⟩, -⟩ := h
  exact ⟨⟨n, hn, Or.inl e⟩, by rw [e, nmT_p hn]; exact dgT_len n⟩
theorem txE_len {x : KV} (h : okE x) : (txE x).length ≤ 8 := by
  unfold txE
  rw [List.length_append, List.length_cons]
  have h1 := h.k.2
  have h2 := nmT_len h.2
  omega
theorem txB_snoc : ∀ (b : Bool) (l : List KV) (x : KV), txB b (l ++ [x]) = txB b l ++ ((if l.length = 0 ∧ b = true then [] else [32]) ++ txE x)
  | b, [], x => by
    show (if b then [] else [32]) ++ (txE x ++ []) = [] ++ _
    rw [List.append_nil, List.nil_append]
    cases b <;> simp
  | b, y :: l, x => by
    show (if b then [] else [32]) ++ (txE y ++ txB false (l ++ [x])) = ((if b then [] else [32]) ++ (txE y ++ txB false l)) ++ _
    rw [txB_snoc false l x]
    simp
theorem txB_len : ∀ (b : Bool) (l : List KV), (∀ x ∈ l, okE x) → (txB b l).length ≤ 9 * l.length
  | _, [], _ => Nat.zero_le _
  | b, y :: l, h => by
    show ((if b then [] else [32]) ++ (txE y ++ txB false l)).length ≤ _
    have h1 := txB_len false l (fun x hx => h x (List.mem_cons_of_mem _ hx))
    have h2 := txE_len (h y List.mem_cons_self)
    have h3 : (if b then ([] : List Nat) else [32]).length ≤ 1 := by cases b <;> simp
    simp only [List.length_append, List.length_cons]
    omega
theorem txt_lenL {h : Nat} (hh : ∀ t : Tr h, (∀ x ∈ ent h t, okE x) → (txt h t).length ≤ 9 * (ent h t).length + 2 * (ndl h t).length) : ∀ l : List (Tr h), (∀ x ∈ l.flatMap (ent h), okE x) → (l.flatMap (txt h)).length ≤ 9 * (l.flatMap (ent h)).length + 2 * (l.flatMap (ndl h)).length
  | [], _ => Nat.zero_le _
  | c :: l, hc => by
    have h1 := txt_lenL hh l (fun x hx => hc x (by rw [List.flatMap_cons]; exact List.mem_append_right _ hx))
    have h2 := hh c (fun x hx => hc x (by rw [List.flatMap_cons]; exact List.mem_append_left _ hx))
    simp only [List.flatMap_cons, List.length_append]
    omega
theorem txt_len : ∀ (h : Nat) (t : Tr h), (∀ x ∈ ent h t, okE x) → (txt h t).length ≤ 9 * (ent h t).length + 2 * (ndl h t).length
  | 0, t, hc => by
    have h1 := txB_len true (ets t) hc
    show (91 :: (txB true (ets t) ++ [93])).length ≤ 9 * (ets t).length + 2 * 1
    simp only [List.length_append, List.length_cons, List.length_nil]
    omega
  | h + 1, t, hc => by
    have h1 := txt_lenL (txt_len h) (kds t) hc
    show (40 :: ((kds t).flatMap (txt h) ++ [41])).length ≤ 9 * ((kds t).flatMap (ent h)).length + 2 * (_ :: (kds t).flatMap (ndl h)).length
    simp only [List.length_append, List.length_cons, List.length_nil]
    omega
set_option maxHeartbeats 4000000 in
set_option maxRecDepth 100000 in
theorem m_Sh_leaf {S : aw_S} {ad ar : Nat → Nat} {s sa : Nat} {t : Tr 0} {B : List Nat} (hB : ShW S s sa B) (r : RepW S ad ar 0 t) (hq : ∀ x ∈ ndl 0 t, ¬ Qsh s sa (ad x.1) ∧ ¬ Qsh s sa (ar x.1)) (hE : ∀ x ∈ ets t, okE x) (hl : B.length + 9 * (ets t).length + 2 ≤ 700) : aw_M yX8_writeLeaf cX8_writeLeaf 3 (none : Option FieldType) 2 0 0 [.ref s, .ref (ad t.1)] S (fun r2 S2 => r2 = none ∧ ShW S2 s sa (B ++ txt 0 t) ∧ frS S S2 (Qsh s sa)) := by
  have oB := hB.1
  have h7 : (ets t).length ≤ 7 := r.own.le7
  have hF : frS S S (Qsh s sa) := frS.rf
  refine aw_enter (by decide +kernel) (Nat.le_of_ble_eq_true rfl) (fun g K EE => ?_)
  have loop : ∀ (i j : Nat) (x : Int32) (T : aw_S) (B2 : List Nat), x = nI j → j + i = (ets t).length → ShW T s sa B2 → frS S T (Qsh s sa) → RepW T ad ar 0 t → B2 = B ++ 91 :: txB true ((ets t).take j) → aw g 3 T 0 0 [(2, .int x), (1, .ref (ad t.1)), (0, .ref s)] [] 8 := by
    intro i
    induction i with
    | zero =>
      intro j x T B2 hx hi hB hF r hB2
      subst hx
      have oB := hB.1
      have oT := r.is
      have hs : sI T 259 (ad t.1) = nI (ets t).length := r.own.sz
      have hl9 := txB_len true ((ets t).take j) (fun x hx => hE x (List.mem_of_mem_take hx))
      rw [List.length_take] at hl9
      refine a_iload_n K dX8_writeLeaf_8 rfl ?_
      first | refine a_aload_n K dX8_writeLeaf_9 rfl ?_ | refine a_aload_nN K dX8_writeLeaf_9 rfl ?_
      refine a_invV K (m_X4_size oT) my_X4_size ml_X8_37 im_X4_size se_X4_size (ci := 4) (by assumption) (by decide) ⟨_, _, rfl⟩ rfl (by omega) (by omega) (by omega) rfl (Nat.le_of_ble_eq_true rfl) dX8_writeLeaf_10 ?_
      intro r9 S9 hp9
      obtain ⟨rfl, hS9⟩ := hp9
      obtain rfl := hS9.symm
      refine a_icmp_ge K dX8_writeLeaf_13 (tgt := 56) (by decide) (fun c_13 => ?_) (fun c_13 => absurd c_13 (by rw [hs]; exact fun z => z (nI_le (by omega) (by omega))))
      subst hB2
      first | refine a_aload_n K dX8_writeLeaf_56 rfl ?_ | refine a_aload_nN K dX8_writeLeaf_56 rfl ?_
      refine a_bipush K dX8_writeLeaf_57 (v := 93) (by decide) ?_
      refine a_invV K (m_Sh_append 93 hB rfl (by first | omega | (simp only [List.length_append, List.length_cons, List.length_nil]; omega))) my_X8_append ml_X8_33 im_X8_append se_X8_append (ci := 8) (by assumption) (by decide) ⟨_, _, rfl⟩ rfl (by omega) (by omega) (by omega) rfl (Nat.le_of_ble_eq_true rfl) dX8_writeLeaf_59 ?_
      intro r9 T hp9
      obtain ⟨rfl, hB, f9⟩ := hp9
      replace hF := hF.tr f9 (fun _ z => z) (fun _ z => z)
      have oB := hB.1
      have r := NL.frq r f9 hq
      have oT := r.is
      exact a_vret K EE (by omega) (by omega) dX8_writeLeaf_62 ⟨rfl, by rw [show j = (ets t).length by omega, List.take_length] at hB; simpa [txt, List.append_assoc] using hB, hF⟩
    | succ i ih =>
      intro j x T B2 hx hi hB hF r hB2
      subst hx
      have oB := hB.1
      have oT := r.is
      have hs : sI T 259 (ad t.1) = nI (ets t).length := r.own.sz
      have hl9 := txB_len true ((ets t).take j) (fun x hx => hE x (List.mem_of_mem_take hx))
      rw [List.length_take] at hl9
      refine a_iload_n K dX8_writeLeaf_8 rfl ?_
      have hj : j < (ets t).length := by omega
      have hx := List.getElem?_eq_getElem hj
      have hok := hE _ (List.getElem_mem hj)
      have h3 := hok.k.2
      have h4 := nmT_len hok.2
      have hBl : B2.length = B.length + (1 + (txB true ((ets t).take j)).length) := by rw [hB2, List.length_append, List.length_cons]; omega
      first | refine a_aload_n K dX8_writeLeaf_9 rfl ?_ | refine a_aload_nN K dX8_writeLeaf_9 rfl ?_
      refine a_invV K (m_X4_size oT) my_X4_size ml_X8_37 im_X4_size se_X4_size (ci := 4) (by assumption) (by decide) ⟨_, _, rfl⟩ rfl (by omega) (by omega) (by omega) rfl (Nat.le_of_ble_eq_true rfl) dX8_writeLeaf_10 ?_
      intro r9 S9 hp9
      obtain ⟨rfl, hS9⟩ := hp9
      obtain rfl := hS9.symm
      refine a_icmp_ge K dX8_writeLeaf_13 (tgt := 56) (by decide) (fun c_13 => absurd c_13 (by rw [hs]; exact nI_ge hj (by omega))) (fun c_13 => ?_)
      refine a_iload_n K dX8_writeLeaf_16 rfl ?_
      refine a_if_le K dX8_writeLeaf_17 (tgt := 26) (by decide) (fun c_17 => ?_) (fun c_17 => ?_)
      · have h0 : j = 0 := by
          have h1 := (nI_leI (a := j) (b := 0) (by omega) (by decide)).mp c_17
          omega
        first | refine a_aload_n K dX8_writeLeaf_26 rfl ?_ | refine a_aload_nN K dX8_writeLeaf_26 rfl ?_
        first | refine a_aload_n K dX8_writeLeaf_27 rfl ?_ | refine a_aload_nN K dX8_writeLeaf_27 rfl ?_
        refine a_iload_n K dX8_writeLeaf_28 rfl ?_
        refine a_invV K (m_X4_keyAt (k := j) r.own.l (by omega)) my_X4_keyAt ml_X8_44 im_X4_keyAt se_X4_keyAt (ci := 4) (by assumption) (by decide) ⟨_, _, rfl⟩ rfl (by omega) (by omega) (by omega) rfl (Nat.le_of_ble_eq_true rfl) dX8_writeLeaf_29 ?_
        intro r9 S9 hp9
        obtain ⟨rfl, hS9⟩ := hp9
        obtain rfl := hS9.symm
        rw [keyAtL_in hx]
        refine a_invV K (m_Sh_num (v := (ets t)[j].1) hB (by first | omega | (simp only [List.length_append, List.length_cons, List.length_nil]; omega)) hok.k.1) my_X8_writeNumber ml_X8_48 im_X8_writeNumber se_X8_writeNumber (ci := 8) (by assumption) (by decide) ⟨_, _, rfl⟩ rfl (by omega) (by omega) (by omega) rfl (Nat.le_of_ble_eq_true rfl) dX8_writeLeaf_32 ?_
        intro r9 T hp9
        obtain ⟨rfl, hB, f9⟩ := hp9
        replace hF := hF.tr f9 (fun _ z => z) (fun _ z => z)
        have oB := hB.1
        have r := NL.frq r f9 hq
        have oT := r.is
        first | refine a_aload_n K dX8_writeLeaf_35 rfl ?_ | refine a_aload_nN K dX8_writeLeaf_35 rfl ?_
        refine a_bipush K dX8_writeLeaf_36 (v := 58) (by decide) ?_
        refine a_invV K (m_Sh_append 58 hB rfl (by first | omega | (simp only [List.length_append, List.length_cons, List.length_nil]; omega))) my_X8_append ml_X8_33 im_X8_append se_X8_append (ci := 8) (by assumption) (by decide) ⟨_, _, rfl⟩ rfl (by omega) (by omega) (by omega) rfl (Nat.le_of_ble_eq_true rfl) dX8_writeLeaf_38 ?_
        intro r9 T hp9
        obtain ⟨rfl, hB, f9⟩ := hp9
        replace hF := hF.tr f9 (fun _ z => z) (fun _ z => z)
        have oB := hB.1
        have r := NL.frq r f9 hq
        have oT := r.is
        first | refine a_aload_n K dX8_writeLeaf_41 rfl ?_ | refine a_aload_nN K dX8_writeLeaf_41 rfl ?_
        first | refine a_aload_n K dX8_writeLeaf_42 rfl ?_ | refine a_aload_nN K dX8_writeLeaf_42 rfl ?_
        refine a_iload_n K dX8_writeLeaf_43 rfl ?_
        refine a_invV K (m_X4_valueAt (k := j) r.own.l (by omega)) my_X4_valueAt ml_X8_52 im_X4_valueAt se_X4_valueAt (ci := 4) (by assumption) (by decide) ⟨_, _, rfl⟩ rfl (by omega) (by omega) (by omega) rfl (Nat.le_of_ble_eq_true rfl) dX8_writeLeaf_44 ?_
        intro r9 S9 hp9
        obtain ⟨rfl, hS9⟩ := hp9
        obtain rfl := hS9.symm
        rw [valAtL_in hx]
        refine a_invV K (m_Sh_num (v := (ets t)[j].2) hB (by first | omega | (simp only [List.length_append, List.length_cons, List.length_nil]; omega)) hok.2) my_X8_writeNumber ml_X8_48 im_X8_writeNumber se_X8_writeNumber (ci := 8) (by assumption) (by decide) ⟨_, _, rfl⟩ rfl (by omega) (by omega) (by omega) rfl (Nat.le_of_ble_eq_true rfl) dX8_writeLeaf_47 ?_
        intro r9 T hp9
        obtain ⟨rfl, hB, f9⟩ := hp9
        replace hF := hF.tr f9 (fun _ z => z) (fun _ z => z)
        have oB := hB.1
        have r := NL.frq r f9 hq
        have oT := r.is
        refine a_iinc K dX8_writeLeaf_50 (v := 1) rfl (by decide) (by decide) ?_
        refine a_goto K dX8_writeLeaf_53 (tgt := 8) (by decide) ?_
        exact aw_locl rfl (ih (j + 1) _ T _ (nI_1 j) (by omega) hB hF r (by rw [hB2, List.take_succ_eq_append_getElem hj, txB_snoc, List.length_take]; first | (rw [if_neg (fun z => h0 (by omega))]; simp [txE, List.append_assoc]) | (rw [if_pos ⟨by omega, rfl⟩]; simp [txE, List.append_assoc])))
      · have h0 : ¬ j = 0 := fun z => c_17 (by rw [z]; decide)
        first | refine a_aload_n K dX8_writeLeaf_20 rfl ?_ | refine a_aload_nN K dX8_writeLeaf_20 rfl ?_
        refine a_bipush K dX8_writeLeaf_21 (v := 32) (by decide) ?_
        refine a_invV K (m_Sh_append 32 hB rfl (by first | omega | (simp only [List.length_append, List.length_cons, List.length_nil]; omega))) my_X8_append ml_X8_33 im_X8_append se_X8_append (ci := 8) (by assumption) (by decide) ⟨_, _, rfl⟩ rfl (by omega) (by omega) (by omega) rfl (Nat.le_of_ble_eq_true rfl) dX8_writeLeaf_23 ?_
        intro r9 T hp9
        obtain ⟨rfl, hB, f9⟩ := hp9
        replace hF := hF.tr f9 (fun _ z => z) (fun _ z => z)
        have oB := hB.1
        have r := NL.frq r f9 hq
        have oT := r.is
        first | refine a_aload_n K dX8_writeLeaf_26 rfl ?_ | refine a_aload_nN K dX8_writeLeaf_26 rfl ?_
        first | refine a_aload_n K dX8_writeLeaf_27 rfl ?_ | refine a_aload_nN K dX8_writeLeaf_27 rfl ?_
        refine a_iload_n K dX8_writeLeaf_28 rfl ?_
        refine a_invV K (m_X4_keyAt (k := j) r.own.l (by omega)) my_X4_keyAt ml_X8_44 im_X4_keyAt se_X4_keyAt (ci := 4) (by assumption) (by decide) ⟨_, _, rfl⟩ rfl (by omega) (by omega) (by omega) rfl (Nat.le_of_ble_eq_true rfl) dX8_writeLeaf_29 ?_
        intro r9 S9 hp9
        obtain ⟨rfl, hS9⟩ := hp9
        obtain rfl := hS9.symm
        rw [keyAtL_in hx]
        refine a_invV K (m_Sh_num (v := (ets t)[j].1) hB (by first | omega | (simp only [List.length_append, List.length_cons, List.length_nil]; omega)) hok.k.1) my_X8_writeNumber ml_X8_48 im_X8_writeNumber se_X8_writeNumber (ci := 8) (by assumption) (by decide) ⟨_, _, rfl⟩ rfl (by omega) (by omega) (by omega) rfl (Nat.le_of_ble_eq_true rfl) dX8_writeLeaf_32 ?_
        intro r9 T hp9
        obtain ⟨rfl, hB, f9⟩ := hp9
        replace hF := hF.tr f9 (fun _ z => z) (fun _ z => z)
        have oB := hB.1
        have r := NL.frq r f9 hq
        have oT := r.is
        first | refine a_aload_n K dX8_writeLeaf_35 rfl ?_ | refine a_aload_nN K dX8_writeLeaf_35 rfl ?_
        refine a_bipush K dX8_writeLeaf_36 (v := 58) (by decide) ?_
        refine a_invV K (m_Sh_append 58 hB rfl (by first | omega | (simp only [List.length_append, List.length_cons, List.length_nil]; omega))) my_X8_append ml_X8_33 im_X8_append se_X8_append (ci := 8) (by assumption) (by decide) ⟨_, _, rfl⟩ rfl (by omega) (by omega) (by omega) rfl (Nat.le_of_ble_eq_true rfl) dX8_writeLeaf_38 ?_
        intro r9 T hp9
        obtain ⟨rfl, hB, f9⟩ := hp9
        replace hF := hF.tr f9 (fun _ z => z) (fun _ z => z)
        have oB := hB.1
        have r := NL.frq r f9 hq
        have oT := r.is
        first | refine a_aload_n K dX8_writeLeaf_41 rfl ?_ | refine a_aload_nN K dX8_writeLeaf_41 rfl ?_
        first | refine a_aload_n K dX8_writeLeaf_42 rfl ?_ | refine a_aload_nN K dX8_writeLeaf_42 rfl ?_
        refine a_iload_n K dX8_writeLeaf_43 rfl ?_
        refine a_invV K (m_X4_valueAt (k := j) r.own.l (by omega)) my_X4_valueAt ml_X8_52 im_X4_valueAt se_X4_valueAt (ci := 4) (by assumption) (by decide) ⟨_, _, rfl⟩ rfl (by omega) (by omega) (by omega) rfl (Nat.le_of_ble_eq_true rfl) dX8_writeLeaf_44 ?_
        intro r9 S9 hp9
        obtain ⟨rfl, hS9⟩ := hp9
        obtain rfl := hS9.symm
        rw [valAtL_in hx]
        refine a_invV K (m_Sh_num (v := (ets t)[j].2) hB (by first | omega | (simp only [List.length_append, List.length_cons, List.length_nil]; omega)) hok.2) my_X8_writeNumber ml_X8_48 im_X8_writeNumber se_X8_writeNumber (ci := 8) (by assumption) (by decide) ⟨_, _, rfl⟩ rfl (by omega) (by omega) (by omega) rfl (Nat.le_of_ble_eq_true rfl) dX8_writeLeaf_47 ?_
        intro r9 T hp9
        obtain ⟨rfl, hB, f9⟩ := hp9
        replace hF := hF.tr f9 (fun _ z => z) (fun _ z => z)
        have oB := hB.1
        have r := NL.frq r f9 hq
        have oT := r.is
        refine a_iinc K dX8_writeLeaf_50 (v := 1) rfl (by decide) (by decide) ?_
        refine a_goto K dX8_writeLeaf_53 (tgt := 8) (by decide) ?_
        exact aw_locl rfl (ih (j + 1) _ T _ (nI_1 j) (by omega) hB hF r (by rw [hB2, List.take_succ_eq_append_getElem hj, txB_snoc, List.length_take]; first | (rw [if_neg (fun z => h0 (by omega))]; simp [txE, List.append_assoc]) | (rw [if_pos ⟨by omega, rfl⟩]; simp [txE, List.append_assoc])))
  first | refine a_aload_n K dX8_writeLeaf_0 rfl ?_ | refine a_aload_nN K dX8_writeLeaf_0 rfl ?_
  refine a_bipush K dX8_writeLeaf_1 (v := 91) (by decide) ?_
  refine a_invV K (m_Sh_append 91 hB rfl (by first | omega | (simp only [List.length_append, List.length_cons, List.length_nil]; omega))) my_X8_append ml_X8_33 im_X8_append se_X8_append (ci := 8) (by assumption) (by decide) ⟨_, _, rfl⟩ rfl (by omega) (by omega) (by omega) rfl (Nat.le_of_ble_eq_true rfl) dX8_writeLeaf_3 ?_
  intro r9 T hp9
  obtain ⟨rfl, hB, f9⟩ := hp9
  replace hF := hF.tr f9 (fun _ z => z) (fun _ z => z)
  have oB := hB.1
  have r := NL.frq r f9 hq
  have oT := r.is
  refine a_iconst K dX8_writeLeaf_6 (v := 0) (by decide) ?_
  refine a_istore_n K dX8_writeLeaf_7 (by decide) ?_
  exact aw_locl rfl (loop (ets t).length 0 0 T _ nI_0.symm (by omega) hB hF r rfl)
set_option maxHeartbeats 4000000 in
set_option maxRecDepth 100000 in
theorem m_Sh_node {s sa : Nat} {ad ar : Nat → Nat} : ∀ (h : Nat) {S : aw_S} {t : Tr h} {dep : Nat} {B : List Nat} (_ : ShW S s sa B) (_ : RepW S ad ar h t) (_ : dep + h < 12) (_ : ∀ x ∈ ndl h t, ¬ Qsh s sa (ad x.1) ∧ ¬ Qsh s sa (ar x.1)) (_ : ∀ x ∈ ent h t, okE x) (_ : B.length + 9 * (ent h t).length + 2 * (ndl h t).length ≤ 700), aw_M yX8_writeNode cX8_writeNode 4 (none : Option FieldType) (h + 3) 0 0 [.ref s, .ref (ad t.1), .int (nI dep)] S (fun r2 S2 => r2 = none ∧ ShW S2 s sa (B ++ txt h t) ∧ frS S S2 (Qsh s sa)) := by
  intro h
  induction h with
  | zero =>
    intro S t dep B hB r hd hq hE hl
    have oB := hB.1
    have o4 := r.is
    have hF : frS S S (Qsh s sa) := frS.rf
    refine aw_enter (by decide +kernel) (Nat.le_of_ble_eq_true rfl) (fun g K EE => ?_)
    first | refine a_aload_n K dX8_writeNode_0 rfl ?_ | refine a_aload_nN K dX8_writeNode_0 rfl ?_
    refine a_ifnull K dX8_writeNode_1 ?_
    refine a_iload_n K dX8_writeNode_4 rfl ?_
    refine a_bipush K dX8_writeNode_5 (v := 12) (by decide) ?_
    refine a_icmp_lt K dX8_writeNode_7 (tgt := 11) (by decide) (fun c_7 => ?_) (fun c_7 => absurd c_7 (fun z => z (nI_lt (b := 12) (by omega) (by omega))))
    first | refine a_aload_n K dX8_writeNode_11 rfl ?_ | refine a_aload_nN K dX8_writeNode_11 rfl ?_
    refine a_invV K (m_X4_isLeaf_y r.is r.own.l.hE) my_X4_isLeaf ml_X8_23 im_X4_isLeaf se_X4_isLeaf (ci := 4) (by assumption) (by decide) ⟨_, _, rfl⟩ rfl (by omega) (by omega) (by omega) rfl (Nat.le_of_ble_eq_true rfl) dX8_writeNode_12 ?_
    intro r9 S9 hp9
    obtain ⟨hS9, rfl⟩ := hp9
    obtain rfl := hS9.symm
    refine a_if_eq K dX8_writeNode_15 (tgt := 24) (by decide) (fun c_15 => absurd c_15 (by decide)) (fun c_15 => ?_)
    first | refine a_aload_n K dX8_writeNode_18 rfl ?_ | refine a_aload_nN K dX8_writeNode_18 rfl ?_
    first | refine a_aload_n K dX8_writeNode_19 rfl ?_ | refine a_aload_nN K dX8_writeNode_19 rfl ?_
    refine a_invV K (m_Sh_leaf hB r hq hE (by have h1 : B.length + 9 * (ets t).length + 2 * 1 ≤ 700 := hl; omega)) my_X8_writeLeaf ml_X8_29 im_X8_writeLeaf se_X8_writeLeaf (ci := 8) (by assumption) (by decide) ⟨_, _, rfl⟩ rfl (by omega) (by omega) (by omega) rfl (Nat.le_of_ble_eq_true rfl) dX8_writeNode_20 ?_
    intro r9 T hp9
    obtain ⟨rfl, hB2, f9⟩ := hp9
    exact a_vret K EE (by omega) (by omega) dX8_writeNode_23 ⟨rfl, hB2, hF.tr f9 (fun _ z => z) (fun _ z => z)⟩
  | succ h ih =>
    intro S t dep B hB r hd hq hE hl
    have oB := hB.1
    have o4 := r.is
    have h7 := kds_le7 r.own
    have hl : B.length + 9 * ((kds t).flatMap (ent h)).length + 2 * (((kds t).flatMap (ndl h)).length + 1) ≤ 700 := hl
    have hF : frS S S (Qsh s sa) := frS.rf
    refine aw_enter (by decide +kernel) (Nat.le_of_ble_eq_true rfl) (fun g K EE => ?_)
    have loop : ∀ (i j : Nat) (x : Int32) (T : aw_S) (B2 : List Nat), x = nI j → j + i = (kds t).length → ShW T s sa B2 → frS S T (Qsh s sa) → B2 = B ++ 40 :: ((kds t).take j).flatMap (txt h) → aw g 4 T 0 0 [(3, .int x), (2, .int (nI dep)), (1, .ref (ad t.1)), (0, .ref s)] [] 32 := by
      intro i
      induction i with
      | zero =>
        intro j x T B2 hx hi hB hF hB2
        subst hx
        have hT := NL.frq r hF hq
        have oT := hT.is
        have oB := hB.1
        have hs : sI T 259 (ad t.1) = nI (kds t).length := hT.own.sz
        have htl := txt_lenL (txt_len h) ((kds t).take j) (fun x hx => by
          obtain ⟨c, hc, hx⟩ := List.mem_flatMap.mp hx
          exact hE x (List.mem_flatMap.mpr ⟨c, List.mem_of_mem_take hc, hx⟩))
        have hBl : B2.length = B.length + (1 + (((kds t).take j).flatMap (txt h)).length) := by rw [hB2, List.length_append, List.length_cons]; omega
        refine a_iload_n K dX8_writeNode_32 rfl ?_
        first | refine a_aload_n K dX8_writeNode_33 rfl ?_ | refine a_aload_nN K dX8_writeNode_33 rfl ?_
        refine a_invV K (m_X4_size oT) my_X4_size ml_X8_37 im_X4_size se_X4_size (ci := 4) (by assumption) (by decide) ⟨_, _, rfl⟩ rfl (by omega) (by omega) (by omega) rfl (Nat.le_of_ble_eq_true rfl) dX8_writeNode_34 ?_
        intro r9 S9 hp9
        obtain ⟨rfl, hS9⟩ := hp9
        obtain rfl := hS9.symm
        refine a_icmp_ge K dX8_writeNode_37 (tgt := 58) (by decide) (fun c_37 => ?_) (fun c_37 => absurd c_37 (by rw [hs]; exact fun z => z (nI_le (by omega) (by omega))))
        have hjl : j = (kds t).length := by omega
        rw [hjl, List.take_length] at htl hBl hB2
        first | refine a_aload_n K dX8_writeNode_58 rfl ?_ | refine a_aload_nN K dX8_writeNode_58 rfl ?_
        refine a_bipush K dX8_writeNode_59 (v := 41) (by decide) ?_
        refine a_invV K (m_Sh_append 41 hB rfl (by first | omega | (simp only [List.length_append, List.length_cons, List.length_nil]; omega))) my_X8_append ml_X8_33 im_X8_append se_X8_append (ci := 8) (by assumption) (by decide) ⟨_, _, rfl⟩ rfl (by omega) (by omega) (by omega) rfl (Nat.le_of_ble_eq_true rfl) dX8_writeNode_61 ?_
        intro r9 T hp9
        obtain ⟨rfl, hB, f9⟩ := hp9
        replace hF := hF.tr f9 (fun _ z => z) (fun _ z => z)
        have oB := hB.1
        exact a_vret K EE (by omega) (by omega) dX8_writeNode_64 ⟨rfl, by rw [hB2] at hB; simpa [txt, List.append_assoc] using hB, hF⟩
      | succ i ihl =>
        intro j x T B2 hx hi hB hF hB2
        subst hx
        have hT := NL.frq r hF hq
        have oT := hT.is
        have oB := hB.1
        have hs : sI T 259 (ad t.1) = nI (kds t).length := hT.own.sz
        have htl := txt_lenL (txt_len h) ((kds t).take j) (fun x hx => by
          obtain ⟨c, hc, hx⟩ := List.mem_flatMap.mp hx
          exact hE x (List.mem_flatMap.mpr ⟨c, List.mem_of_mem_take hc, hx⟩))
        have hBl : B2.length = B.length + (1 + (((kds t).take j).flatMap (txt h)).length) := by rw [hB2, List.length_append, List.length_cons]; omega
        refine a_iload_n K dX8_writeNode_32 rfl ?_
        first | refine a_aload_n K dX8_writeNode_33 rfl ?_ | refine a_aload_nN K dX8_writeNode_33 rfl ?_
        refine a_invV K (m_X4_size oT) my_X4_size ml_X8_37 im_X4_size se_X4_size (ci := 4) (by assumption) (by decide) ⟨_, _, rfl⟩ rfl (by omega) (by omega) (by omega) rfl (Nat.le_of_ble_eq_true rfl) dX8_writeNode_34 ?_
        intro r9 S9 hp9
        obtain ⟨rfl, hS9⟩ := hp9
        obtain rfl := hS9.symm
        refine a_icmp_ge K dX8_writeNode_37 (tgt := 58) (by decide) (fun c_37 => absurd c_37 (by rw [hs]; exact nI_ge (show j < (kds t).length by omega) (by omega))) (fun c_37 => ?_)
        first | refine a_aload_n K dX8_writeNode_40 rfl ?_ | refine a_aload_nN K dX8_writeNode_40 rfl ?_
        first | refine a_aload_n K dX8_writeNode_41 rfl ?_ | refine a_aload_nN K dX8_writeNode_41 rfl ?_
        refine a_iload_n K dX8_writeNode_42 rfl ?_
        refine a_invV K (m_X4_kidAt (k := j) hT.own.k (by omega)) my_X4_kidAt ml_X8_40 im_X4_kidAt se_X4_kidAt (ci := 4) (by assumption) (by decide) ⟨_, _, rfl⟩ rfl (by omega) (by omega) (by omega) rfl (Nat.le_of_ble_eq_true rfl) dX8_writeNode_43 ?_
        intro r9 S9 hp9
        obtain ⟨rfl, hS9⟩ := hp9
        obtain rfl := hS9.symm
        have hj : j < (kds t).length := by omega
        rw [List.getElem?_map, List.getElem?_eq_getElem hj]
        refine a_iload_n K dX8_writeNode_46 rfl ?_
        refine a_iconst K dX8_writeNode_47 (v := 1) (by decide) ?_
        refine a_iadd K dX8_writeNode_48 ?_
        rw [nI_1]
        refine a_invS K (ih (t := (kds t)[j]) (dep := dep + 1) (B := B2) hB (hT.2 _ (List.getElem_mem hj)) (by omega) (fun x hx => hq x (mem_kd (List.getElem_mem hj) hx)) (fun x hx => hE x (List.mem_flatMap.mpr ⟨_, List.getElem_mem hj, hx⟩)) (by have h1 := fm_len (ent h) (kds t) hj; have h2 := fm_len (ndl h) (kds t) hj; omega)) my_X8_writeNode ml_X8_19 st_X8_writeNode rfl (by omega) (by omega) (by omega) rfl (Nat.le_of_ble_eq_true rfl) dX8_writeNode_49 ?_
        intro r9 T2 hp9
        obtain ⟨rfl, hB3, f2⟩ := hp9
        refine a_iinc K dX8_writeNode_52 (v := 1) rfl (by decide) (by decide) ?_
        refine a_goto K dX8_writeNode_55 (tgt := 32) (by decide) ?_
        exact aw_locl rfl (ihl (j + 1) _ T2 _ (nI_1 j) (by omega) hB3 (hF.tr f2 (fun _ z => z) (fun _ z => z)) (by rw [hB2, fm_take (txt h) (kds t) hj]; simp [List.append_assoc]))
    first | refine a_aload_n K dX8_writeNode_0 rfl ?_ | refine a_aload_nN K dX8_writeNode_0 rfl ?_
    refine a_ifnull K dX8_writeNode_1 ?_
    refine a_iload_n K dX8_writeNode_4 rfl ?_
    refine a_bipush K dX8_writeNode_5 (v := 12) (by decide) ?_
    refine a_icmp_lt K dX8_writeNode_7 (tgt := 11) (by decide) (fun c_7 => ?_) (fun c_7 => absurd c_7 (fun z => z (nI_lt (b := 12) (by omega) (by omega))))
    first | refine a_aload_n K dX8_writeNode_11 rfl ?_ | refine a_aload_nN K dX8_writeNode_11 rfl ?_
    refine a_invV K (m_X4_isLeaf_n r.is r.own.k.hE0) my_X4_isLeaf ml_X8_23 im_X4_isLeaf se_X4_isLeaf (ci := 4) (by assumption) (by decide) ⟨_, _, rfl⟩ rfl (by omega) (by omega) (by omega) rfl (Nat.le_of_ble_eq_true rfl) dX8_writeNode_12 ?_
    intro r9 S9 hp9
    obtain ⟨hS9, rfl⟩ := hp9
    obtain rfl := hS9.symm
    refine a_if_eq K dX8_writeNode_15 (tgt := 24) (by decide) (fun c_15 => ?_) (fun c_15 => absurd c_15 (by decide))
    first | refine a_aload_n K dX8_writeNode_24 rfl ?_ | refine a_aload_nN K dX8_writeNode_24 rfl ?_
    refine a_bipush K dX8_writeNode_25 (v := 40) (by decide) ?_
    refine a_invV K (m_Sh_append 40 hB rfl (by first | omega | (simp only [List.length_append, List.length_cons, List.length_nil]; omega))) my_X8_append ml_X8_33 im_X8_append se_X8_append (ci := 8) (by assumption) (by decide) ⟨_, _, rfl⟩ rfl (by omega) (by omega) (by omega) rfl (Nat.le_of_ble_eq_true rfl) dX8_writeNode_27 ?_
    intro r9 T hp9
    obtain ⟨rfl, hB, f9⟩ := hp9
    replace hF := hF.tr f9 (fun _ z => z) (fun _ z => z)
    have oB := hB.1
    refine a_iconst K dX8_writeNode_30 (v := 0) (by decide) ?_
    refine a_istore_n K dX8_writeNode_31 (by decide) ?_
    exact aw_locl rfl (loop (kds t).length 0 0 T _ nI_0.symm (by omega) hB hF (by rw [List.take_zero]; rfl))
set_option maxHeartbeats 4000000 in
set_option maxRecDepth 100000 in
theorem m_Sh_write {S : aw_S} {ad ar : Nat → Nat} {s sa h : Nat} {t : Tr h} (hB : ShS S s sa) (r : RepW S ad ar h t) (hh : h < 12) (hq : ∀ x ∈ ndl h t, ¬ Qsh s sa (ad x.1) ∧ ¬ Qsh s sa (ar x.1)) (hE : ∀ x ∈ ent h t, okE x) (hl : 9 * (ent h t).length + 2 * (ndl h t).length ≤ 700) : aw_M yX8_write cX8_write 2 (none : Option FieldType) (h + 4) 0 0 [.ref s, .ref (ad t.1)] S (fun r2 S2 => r2 = none ∧ ShW S2 s sa (txt h t) ∧ frS S S2 (Qsh s sa)) := by
  have oB := hB.1
  obtain ⟨hB1, f1⟩ := hB.clear
  have r1 := NL.frq r f1 hq
  refine aw_enter (by decide +kernel) (Nat.le_of_ble_eq_true rfl) (fun g K EE => ?_)
  first | refine a_aload_n K dX8_write_0 rfl ?_ | refine a_aload_nN K dX8_write_0 rfl ?_
  refine a_iconst K dX8_write_1 (v := 0) (by decide) ?_
  refine a_putI K fd_X8_15 (by assumption) rfl dX8_write_2 ?_
  first | refine a_aload_n K dX8_write_5 rfl ?_ | refine a_aload_nN K dX8_write_5 rfl ?_
  first | refine a_aload_n K dX8_write_6 rfl ?_ | refine a_aload_nN K dX8_write_6 rfl ?_
  refine a_iconst K dX8_write_7 (v := 0) (by decide) ?_
  refine a_invS K (m_Sh_node h (dep := 0) hB1 r1 (by omega) hq hE (by rw [List.length_nil]; omega)) my_X8_writeNode ml_X8_19 st_X8_writeNode rfl (by omega) (by omega) (by omega) rfl (Nat.le_of_ble_eq_true rfl) dX8_write_8 ?_
  intro r9 S9 hp9
  obtain ⟨rfl, hB2, f2⟩ := hp9
  rw [List.nil_append] at hB2
  exact a_vret K EE (by omega) (by omega) dX8_write_11 ⟨rfl, hB2, f1.tr f2 (fun _ z => z) (fun _ z => z)⟩
def sgL (B : List Nat) (j : Nat) : Int32 := match B[j]? with
  | some c => nI c
  | none => -1
theorem m_Sh_signAt {S : aw_S} {s sa j : Nat} {B : List Nat} (h : ShW S s sa B) (hj : j < 2 ^ 31) : aw_M yX8_signAt cX8_signAt 2 (some FieldType.int) 0 0 0 [.ref s, .int (nI j)] S (fun r S2 => r = some (.int (sgL B j)) ∧ S2 = S) := by
  have h7 := h.2.2.2.2.2.1
  have m := m_X8_signAt (i := nI j) h.1 h.2.1 h.2.2.1 h.2.2.2.1 h.2.2.2.2.1 h7 (by decide)
  have e : at0 (sA S sa) B.length (-1) (nI j) = sgL B j := by
    by_cases hl : j < B.length
    · have hx := List.getElem?_eq_getElem hl
      rw [at0_in hl (by omega), h.2.2.2.2.2.2 j _ hx]
      unfold sgL
      rw [hx]
    · rw [at0_big (by omega) (nI_le (Nat.le_of_not_lt hl) hj)]
      unfold sgL
      rw [List.getElem?_eq_none (Nat.le_of_not_lt hl)]
  rw [e] at m
  exact m
theorem sgL_in {B : List Nat} {j c : Nat} (h : B[j]? = some c) : sgL B j = nI c := by unfold sgL; rw [h]
/-- the digest, from a number on -/
def dgs : List Nat → Nat → Nat
  | [], v => v
  | c :: r, v => dgs r ((v * 31 + c) % 1000003)
theorem dgs_at {B : List Nat} {j : Nat} (hj : j < B.length) (v : Nat) : dgs (B.drop j) v = dgs (B.drop (j + 1)) ((v * 31 + B[j]) % 1000003) := by rw [List.drop_eq_getElem_cons hj, dgs]
set_option maxHeartbeats 4000000 in
set_option maxRecDepth 100000 in
theorem m_Sh_hashed {S : aw_S} {s sa R : Nat} {B : List Nat} (hB : ShW S s sa B) (hbs : ∀ c ∈ B, c < 128) (hq : dgs B 0 = R) : aw_M yX8_hashed cX8_hashed 3 (some FieldType.int) 1 0 0 [.ref s] S (fun r2 S2 => r2 = some (.int (nI R)) ∧ S2 = S) := by
  have oB := hB.1
  have h60 := hB.2.2.2.2.2.1
  have hs := hB.2.2.2.2.1
  refine aw_enter (by decide +kernel) (Nat.le_of_ble_eq_true rfl) (fun g K EE => ?_)
  have loop : ∀ (i j v : Nat) (x b : Int32), x = nI j → b = nI v → j + i = B.length → v < 1000003 → dgs (B.drop j) v = R → aw g 3 S 0 0 [(2, .int x), (1, .int b), (0, .ref s)] [] 4 := by
    intro i
    induction i with
    | zero =>
      intro j v x b hx hb0 hi hv hb
      subst hx
      subst hb0
      refine a_iload_n K dX8_hashed_4 rfl ?_
      first | refine a_aload_n K dX8_hashed_5 rfl ?_ | refine a_aload_nN K dX8_hashed_5 rfl ?_
      refine a_getI K fd_X8_15 (by assumption) (Or.inl rfl) dX8_hashed_6 ?_
      refine a_icmp_ge K dX8_hashed_9 (tgt := 32) (by decide) (fun c_9 => ?_) (fun c_9 => absurd c_9 (by rw [hs]; exact fun z => z (nI_le (by omega) (by omega))))
      refine a_iload_n K dX8_hashed_32 rfl ?_
      exact a_iret K EE rfl (by omega) (by omega) dX8_hashed_33 ⟨by rw [← hb, show j = B.length by omega, List.drop_length]; rfl, rfl⟩
    | succ i ih =>
      intro j v x b hx hb0 hi hv hb
      subst hx
      subst hb0
      refine a_iload_n K dX8_hashed_4 rfl ?_
      have hj : j < B.length := by omega
      have hx := List.getElem?_eq_getElem hj
      have hc := hbs _ (List.getElem_mem hj)
      first | refine a_aload_n K dX8_hashed_5 rfl ?_ | refine a_aload_nN K dX8_hashed_5 rfl ?_
      refine a_getI K fd_X8_15 (by assumption) (Or.inl rfl) dX8_hashed_6 ?_
      refine a_icmp_ge K dX8_hashed_9 (tgt := 32) (by decide) (fun c_9 => absurd c_9 (by rw [hs]; exact nI_ge hj (by omega))) (fun c_9 => ?_)
      refine a_iload_n K dX8_hashed_12 rfl ?_
      refine a_bipush K dX8_hashed_13 (v := 31) (by decide) ?_
      refine a_imul K dX8_hashed_15 ?_
      first | refine a_aload_n K dX8_hashed_16 rfl ?_ | refine a_aload_nN K dX8_hashed_16 rfl ?_
      refine a_iload_n K dX8_hashed_17 rfl ?_
      refine a_invV K (m_Sh_signAt hB (show j < 2 ^ 31 by omega)) my_X8_signAt ml_X8_55 im_X8_signAt se_X8_signAt (ci := 8) (by assumption) (by decide) ⟨_, _, rfl⟩ rfl (by omega) (by omega) (by omega) rfl (Nat.le_of_ble_eq_true rfl) dX8_hashed_18 ?_
      intro r9 S9 hp9
      obtain ⟨rfl, hS9⟩ := hp9
      obtain rfl := hS9.symm
      rw [sgL_in hx]
      refine a_iadd K dX8_hashed_21 ?_
      refine a_ldc K kc_X8_58 dX8_hashed_22 ?_
      refine a_irem K dX8_hashed_24 (by decide) ?_
      rw [show nI v * 31 + nI B[j] = nI (v * 31 + B[j]) from by rw [← nI_add, show nI (v * 31) = nI v * nI 31 from Int32.ofNat_mul v 31]; rfl, show (1000003 : Int32) = nI 1000003 from by decide, pk_rem (by omega) (by decide) (by decide)]
      refine a_istore_n K dX8_hashed_25 (by decide) ?_
      refine a_iinc K dX8_hashed_26 (v := 1) rfl (by decide) (by decide) ?_
      refine a_goto K dX8_hashed_29 (tgt := 4) (by decide) ?_
      exact aw_locl rfl (ih (j + 1) _ _ _ (nI_1 j) rfl (by omega) (Nat.mod_lt _ (by decide)) (by rw [dgs_at hj] at hb; exact hb))
  refine a_iconst K dX8_hashed_0 (v := 0) (by decide) ?_
  refine a_istore_n K dX8_hashed_1 (by decide) ?_
  refine a_iconst K dX8_hashed_2 (v := 0) (by decide) ?_
  refine a_istore_n K dX8_hashed_3 (by decide) ?_
  exact aw_locl rfl (loop B.length 0 0 0 0 nI_0.symm nI_0.symm (by omega) (by decide) hq)
set_option maxHeartbeats 4000000 in
set_option maxRecDepth 100000 in
theorem m_Sh_isSameAs_y {S : aw_S} {s sa s2 sb : Nat} {B C : List Nat} (hB : ShW S s sa B) (hC : ShW S s2 sb C) (hbs : ∀ c ∈ B, c < 128) (hcs : ∀ c ∈ C, c < 128) (hlen : B.length = C.length) : aw_M yX8_isSameAs cX8_isSameAs 3 (some FieldType.boolean) 1 0 0 [.ref s, .ref s2] S (fun r2 S2 => S2 = S ∧ bR (B = C) r2) := by
  have oB := hB.1
  have h60 := hB.2.2.2.2.2.1
  have hs := hB.2.2.2.2.1
  have oC := hC.1
  have f60 := hC.2.2.2.2.2.1
  have hs2 := hC.2.2.2.2.1
  refine aw_enter (by decide +kernel) (Nat.le_of_ble_eq_true rfl) (fun g K EE => ?_)
  have loop : ∀ (i j : Nat) (x : Int32), x = nI j → j + i = B.length → B.take j = C.take j → aw g 3 S 0 0 [(2, .int x), (1, .ref s2), (0, .ref s)] [] 15 := by
    intro i
    induction i with
    | zero =>
      intro j x hx hi ht
      subst hx
      refine a_iload_n K dX8_isSameAs_15 rfl ?_
      first | refine a_aload_n K dX8_isSameAs_16 rfl ?_ | refine a_aload_nN K dX8_isSameAs_16 rfl ?_
      refine a_getI K fd_X8_15 (by assumption) (Or.inl rfl) dX8_isSameAs_17 ?_
      refine a_icmp_ge K dX8_isSameAs_20 (tgt := 44) (by decide) (fun c_20 => ?_) (fun c_20 => absurd c_20 (by rw [hs]; exact fun z => z (nI_le (by omega) (by omega))))
      refine a_iconst K dX8_isSameAs_44 (v := 1) (by decide) ?_
      exact a_iret K EE rfl (by omega) (by omega) dX8_isSameAs_45 ⟨rfl, Or.inl ⟨by rw [show j = B.length by omega, List.take_length, hlen, List.take_length] at ht; exact ht, rfl⟩⟩
    | succ i ih =>
      intro j x hx hi ht
      subst hx
      refine a_iload_n K dX8_isSameAs_15 rfl ?_
      have hj : j < B.length := by omega
      have hj2 : j < C.length := by omega
      have hx := List.getElem?_eq_getElem hj
      have hy := List.getElem?_eq_getElem hj2
      have hb1 := hbs _ (List.getElem_mem hj)
      have hb2 := hcs _ (List.getElem_mem hj2)
      first | refine a_aload_n K dX8_isSameAs_16 rfl ?_ | refine a_aload_nN K dX8_isSameAs_16 rfl ?_
      refine a_getI K fd_X8_15 (by assumption) (Or.inl rfl) dX8_isSameAs_17 ?_
      refine a_icmp_ge K dX8_isSameAs_20 (tgt := 44) (by decide) (fun c_20 => absurd c_20 (by rw [hs]; exact nI_ge hj (by omega))) (fun c_20 => ?_)
      first | refine a_aload_n K dX8_isSameAs_23 rfl ?_ | refine a_aload_nN K dX8_isSameAs_23 rfl ?_
      refine a_iload_n K dX8_isSameAs_24 rfl ?_
      refine a_invV K (m_Sh_signAt hB (show j < 2 ^ 31 by omega)) my_X8_signAt ml_X8_55 im_X8_signAt se_X8_signAt (ci := 8) (by assumption) (by decide) ⟨_, _, rfl⟩ rfl (by omega) (by omega) (by omega) rfl (Nat.le_of_ble_eq_true rfl) dX8_isSameAs_25 ?_
      intro r9 S9 hp9
      obtain ⟨rfl, hS9⟩ := hp9
      obtain rfl := hS9.symm
      first | refine a_aload_n K dX8_isSameAs_28 rfl ?_ | refine a_aload_nN K dX8_isSameAs_28 rfl ?_
      refine a_iload_n K dX8_isSameAs_29 rfl ?_
      refine a_invV K (m_Sh_signAt hC (show j < 2 ^ 31 by omega)) my_X8_signAt ml_X8_55 im_X8_signAt se_X8_signAt (ci := 8) (by assumption) (by decide) ⟨_, _, rfl⟩ rfl (by omega) (by omega) (by omega) rfl (Nat.le_of_ble_eq_true rfl) dX8_isSameAs_30 ?_
      intro r9 S9 hp9
      obtain ⟨rfl, hS9⟩ := hp9
      obtain rfl := hS9.symm
      rw [sgL_in hx, sgL_in hy]
      refine a_icmp_eq K dX8_isSameAs_33 (tgt := 38) (by decide) (fun c_33 => ?_) (fun c_33 => ?_)
      · refine a_iinc K dX8_isSameAs_38 (v := 1) rfl (by decide) (by decide) ?_
        refine a_goto K dX8_isSameAs_41 (tgt := 15) (by decide) ?_
        exact aw_locl rfl (ih (j + 1) _ (nI_1 j) (by omega) (by rw [List.take_succ_eq_append_getElem hj, List.take_succ_eq_append_getElem hj2, ht, nI_inj (by omega) (by omega) c_33]))
      · refine a_iconst K dX8_isSameAs_36 (v := 0) (by decide) ?_
        exact a_iret K EE rfl (by omega) (by omega) dX8_isSameAs_37 ⟨rfl, Or.inr ⟨fun z => by subst z; exact c_33 rfl, rfl⟩⟩
  first | refine a_aload_n K dX8_isSameAs_0 rfl ?_ | refine a_aload_nN K dX8_isSameAs_0 rfl ?_
  refine a_getI K fd_X8_15 (by assumption) (Or.inl rfl) dX8_isSameAs_1 ?_
  first | refine a_aload_n K dX8_isSameAs_4 rfl ?_ | refine a_aload_nN K dX8_isSameAs_4 rfl ?_
  refine a_getI K fd_X8_15 (by assumption) (Or.inl rfl) dX8_isSameAs_5 ?_
  rw [hs, hs2, hlen]
  refine a_icmp_eq K dX8_isSameAs_8 (tgt := 13) (by decide) (fun c_8 => ?_) (fun c_8 => absurd c_8 (fun z => z rfl))
  refine a_iconst K dX8_isSameAs_13 (v := 0) (by decide) ?_
  refine a_istore_n K dX8_isSameAs_14 (by decide) ?_
  exact aw_locl rfl (loop B.length 0 0 nI_0.symm (by omega) rfl)
set_option maxHeartbeats 4000000 in
set_option maxRecDepth 100000 in
theorem m_Sh_isSameAs {S : aw_S} {s sa s2 sb : Nat} {B C : List Nat} (hB : ShW S s sa B) (hC : ShW S s2 sb C) (hbs : ∀ c ∈ B, c < 128) (hcs : ∀ c ∈ C, c < 128) : aw_M yX8_isSameAs cX8_isSameAs 3 (some FieldType.boolean) 1 0 0 [.ref s, .ref s2] S (fun r2 S2 => S2 = S ∧ bR (B = C) r2) := by
  have oB := hB.1
  have h60 := hB.2.2.2.2.2.1
  have hs := hB.2.2.2.2.1
  have oC := hC.1
  have f60 := hC.2.2.2.2.2.1
  have hs2 := hC.2.2.2.2.1
  by_cases hlen : B.length = C.length
  · exact m_Sh_isSameAs_y hB hC hbs hcs hlen
  refine aw_enter (by decide +kernel) (Nat.le_of_ble_eq_true rfl) (fun g K EE => ?_)
  first | refine a_aload_n K dX8_isSameAs_0 rfl ?_ | refine a_aload_nN K dX8_isSameAs_0 rfl ?_
  refine a_getI K fd_X8_15 (by assumption) (Or.inl rfl) dX8_isSameAs_1 ?_
  first | refine a_aload_n K dX8_isSameAs_4 rfl ?_ | refine a_aload_nN K dX8_isSameAs_4 rfl ?_
  refine a_getI K fd_X8_15 (by assumption) (Or.inl rfl) dX8_isSameAs_5 ?_
  rw [hs, hs2]
  refine a_icmp_eq K dX8_isSameAs_8 (tgt := 13) (by decide) (fun c_8 => absurd c_8 (nI_ne (by omega) (by omega) hlen)) (fun c_8 => ?_)
  refine a_iconst K dX8_isSameAs_11 (v := 0) (by decide) ?_
  exact a_iret K EE rfl (by omega) (by omega) dX8_isSameAs_12 ⟨rfl, Or.inr ⟨fun z => hlen (congrArg List.length z), rfl⟩⟩
