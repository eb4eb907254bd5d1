/-! the model: nodes alike: a tree can be read from its text in one way -/
def alkL {α β : Type} (p : α → β → Prop) : List α → List β → Prop
  | [], [] => True
  | x :: l, y :: r => p x y ∧ alkL p l r
  | _, _ => False
def alk : (h : Nat) → Tr h → (k : Nat) → Tr k → Prop
  | 0, a, 0, b => ets a = ets b
  | h + 1, a, k + 1, b => alkL (fun x y => alk h x k y) (kds a) (kds b)
  | 0, _, _ + 1, _ => False
  | _ + 1, _, 0, _ => False
def ndg (X : List Nat) : Prop := ∀ c r, X = c :: r → ¬ (48 ≤ c ∧ c ≤ 57)
def aDgs (A : List Nat) : Prop := ∀ c ∈ A, 48 ≤ c ∧ c ≤ 57
theorem dg_split : ∀ (A B X Y : List Nat), aDgs A → aDgs B → ndg X → ndg Y → A ++ X = B ++ Y → A = B ∧ X = Y
  | [], [], _, _, _, _, _, _, e => ⟨rfl, e⟩
  | [], b :: B, X, Y, _, hB, hX, _, e => absurd (hB b List.mem_cons_self) (hX b (B ++ Y) e)
  | a :: A, [], X, Y, hA, _, _, hY, e => absurd (hA a List.mem_cons_self) (hY a (A ++ X) e.symm)
  | a :: A, b :: B, X, Y, hA, hB, hX, hY, e => by
    obtain ⟨e1, e2⟩ := List.cons.inj e
    obtain ⟨e3, e4⟩ := dg_split A B X Y (fun c hc => hA c (List.mem_cons_of_mem _ hc)) (fun c hc => hB c (List.mem_cons_of_mem _ hc)) hX hY e2
    exact ⟨by rw [e1, e3], e4⟩
theorem dgT_dg (n : Nat) : aDgs (dgT n) := by
  intro c hc
  unfold dgT at hc
  have h1 := Nat.mod_lt (n / 100) (show 0 < 10 by decide)
  have h2 := Nat.mod_lt (n / 10) (show 0 < 10 by decide)
  have h3 := Nat.mod_lt n (show 0 < 10 by decide)
  rcases List.mem_append.mp hc with q | q
  · by_cases e : 100 ≤ n
    · rw [if_pos e] at q
      have := List.mem_singleton.mp q
      omega
    · rw [if_neg e] at q
      exact absurd q List.not_mem_nil
  · rcases List.mem_append.mp q with q | q
    · by_cases e : 10 ≤ n
      · rw [if_pos e] at q
        have := List.mem_singleton.mp q
        omega
      · rw [if_neg e] at q
        exact absurd q List.not_mem_nil
    · have := List.mem_singleton.mp q
      omega
theorem dgT_cons (n : Nat) : ∃ c r, dgT n = c :: r := by
  unfold dgT
  by_cases e : 100 ≤ n
  · rw [if_pos e]
    exact ⟨_, _, rfl⟩
  · rw [if_neg e]
    by_cases e2 : 10 ≤ n
    · rw [if_pos e2]
      exact ⟨_, _, rfl⟩
    · rw [if_neg e2]
      exact ⟨_, _, rfl⟩
def aDgV (l : List Nat) : Nat := l.foldl (fun a c => 10 * a + (c - 48)) 0
theorem aDgV_T : ∀ n, n < 1000 → aDgV (dgT n) = n := by
  have h : ∀ n : Fin 1000, aDgV (dgT n.val) = n.val := by decide +kernel
  exact fun n hn => h ⟨n, hn⟩
theorem dgT_inj {n k : Nat} (hn : n < 1000) (hk : k < 1000) (e : dgT n = dgT k) : n = k := by
  have h := congrArg aDgV e
  rw [aDgV_T n hn, aDgV_T k hk] at h
  exact h
theorem dgT_45 {n : Nat} {X Y : List Nat} (e : dgT n ++ X = 45 :: Y) : False := by
  obtain ⟨c, r, h⟩ := dgT_cons n
  have h1 := dgT_dg n c (by rw [h]; exact List.mem_cons_self)
  rw [h] at e
  have := (List.cons.inj e).1
  omega
theorem nm_split {a b : Int32} (ha : okV a) (hb : okV b) {X Y : List Nat} (hX : ndg X) (hY : ndg Y) (e : nmT a ++ X = nmT b ++ Y) : a = b ∧ X = Y := by
  obtain ⟨n, hn, q⟩ := ha
  obtain ⟨k, hk, p⟩ := hb
  rcases q with q | ⟨q0, q⟩
  · rcases p with p | ⟨p0, p⟩
    · rw [q, p, nmT_p hn, nmT_p hk] at e
      obtain ⟨e1, e2⟩ := dg_split _ _ X Y (dgT_dg n) (dgT_dg k) hX hY e
      exact ⟨by rw [q, p, dgT_inj hn hk e1], e2⟩
    · rw [q, p, nmT_p hn, nmT_m p0 hk] at e
      exact (dgT_45 e).elim
  · rcases p with p | ⟨p0, p⟩
    · rw [q, p, nmT_m q0 hn, nmT_p hk] at e
      exact (dgT_45 e.symm).elim
    · rw [q, p, nmT_m q0 hn, nmT_m p0 hk] at e
      have e := (List.cons.inj e).2
      obtain ⟨e1, e2⟩ := dg_split _ _ X Y (dgT_dg n) (dgT_dg k) hX hY e
      exact ⟨by rw [q, p, dgT_inj hn hk e1], e2⟩
theorem ndg_c {c : Nat} {r : List Nat} (h : ¬ (48 ≤ c ∧ c ≤ 57)) : ndg (c :: r) := fun d s e => by
  rw [← (List.cons.inj e).1]
  exact h
theorem txE_split {x y : KV} (hx : okE x) (hy : okE y) {X Y : List Nat} (hX : ndg X) (hY : ndg Y) (e : txE x ++ X = txE y ++ Y) : x = y ∧ X = Y := by
  unfold txE at e
  rw [List.append_assoc, List.append_assoc, List.cons_append, List.cons_append] at e
  obtain ⟨e1, e2⟩ := nm_split hx.k.1 hy.k.1 (ndg_c (by decide)) (ndg_c (by decide)) e
  obtain ⟨e3, e4⟩ := nm_split hx.2 hy.2 hX hY (List.cons.inj e2).2
  exact ⟨Prod.ext e1 e3, e4⟩
theorem txE_93 {x : KV} {X Y : List Nat} (hx : okE x) (e : txE x ++ X = 93 :: Y) : False := by
  obtain ⟨n, hn, q⟩ := hx.1
  unfold txE at e
  rw [q, nmT_p hn] at e
  obtain ⟨c, r, h⟩ := dgT_cons n
  have h1 := dgT_dg n c (by rw [h]; exact List.mem_cons_self)
  rw [h] at e
  have := (List.cons.inj e).1
  omega
theorem txB_ndg (l : List KV) (X : List Nat) : ndg (txB false l ++ 93 :: X) := by
  cases l with
  | nil => exact ndg_c (by decide)
  | cons x l => exact ndg_c (by decide)
theorem txB_split : ∀ (b : Bool) (l r : List KV) (X Y : List Nat), (∀ x ∈ l, okE x) → (∀ x ∈ r, okE x) → txB b l ++ 93 :: X = txB b r ++ 93 :: Y → l = r ∧ X = Y
  | _, [], [], _, _, _, _, e => ⟨rfl, (List.cons.inj e).2⟩
  | b, [], y :: r, X, Y, _, hr, e => by
    cases b with
    | true =>
      have e : 93 :: X = ([] ++ (txE y ++ txB false r)) ++ 93 :: Y := e
      rw [List.nil_append, List.append_assoc] at e
      exact (txE_93 (hr y List.mem_cons_self) e.symm).elim
    | false => exact absurd (List.cons.inj e).1 (by decide)
  | b, x :: l, [], X, Y, hl, _, e => by
    cases b with
    | true =>
      have e : ([] ++ (txE x ++ txB false l)) ++ 93 :: X = 93 :: Y := e
      rw [List.nil_append, List.append_assoc] at e
      exact (txE_93 (hl x List.mem_cons_self) e).elim
    | false => exact absurd (List.cons.inj e).1 (by decide)
  | b, x :: l, y :: r, X, Y, hl, hr, e => by
    have e : ((if b then [] else [32]) ++ (txE x ++ txB false l)) ++ 93 :: X = ((if b then [] else [32]) ++ (txE y ++ txB false r)) ++ 93 :: Y := e
    simp only [List.append_assoc] at e
    have e := List.append_cancel_left e
    obtain ⟨e1, e2⟩ := txE_split (hl x List.mem_cons_self) (hr y List.mem_cons_self) (txB_ndg l X) (txB_ndg r Y) e
    obtain ⟨e3, e4⟩ := txB_split false l r X Y (fun z hz => hl z (List.mem_cons_of_mem _ hz)) (fun z hz => hr z (List.mem_cons_of_mem _ hz)) e2
    exact ⟨by rw [e1, e3], e4⟩
theorem txt_hd : ∀ (h : Nat) (t : Tr h), ∃ c r, txt h t = c :: r ∧ c ≠ 41
  | 0, _ => ⟨_, _, rfl, by decide⟩
  | _ + 1, _ => ⟨_, _, rfl, by decide⟩
theorem kds_split {h k : Nat} (ih : ∀ (a : Tr h) (b : Tr k) (X Y : List Nat), (∀ x ∈ ent h a, okE x) → (∀ x ∈ ent k b, okE x) → txt h a ++ X = txt k b ++ Y → alk h a k b ∧ X = Y) : ∀ (l : List (Tr h)) (r : List (Tr k)) (X Y : List Nat), (∀ c ∈ l, ∀ x ∈ ent h c, okE x) → (∀ c ∈ r, ∀ x ∈ ent k c, okE x) → l.flatMap (txt h) ++ 41 :: X = r.flatMap (txt k) ++ 41 :: Y → alkL (fun x y => alk h x k y) l r ∧ X = Y
  | [], [], _, _, _, _, e => ⟨trivial, (List.cons.inj e).2⟩
  | [], b :: r, X, Y, _, _, e => by
    obtain ⟨c, s, hc, hn⟩ := txt_hd k b
    rw [List.flatMap_cons, hc] at e
    exact absurd (List.cons.inj e).1.symm hn
  | a :: l, [], X, Y, _, _, e => by
    obtain ⟨c, s, hc, hn⟩ := txt_hd h a
    rw [List.flatMap_cons, hc] at e
    exact absurd (List.cons.inj e).1 hn
  | a :: l, b :: r, X, Y, hl, hr, e => by
    rw [List.flatMap_cons, List.flatMap_cons, List.append_assoc, List.append_assoc] at e
    obtain ⟨e1, e2⟩ := ih a b _ _ (hl a List.mem_cons_self) (hr b List.mem_cons_self) e
    obtain ⟨e3, e4⟩ := kds_split ih l r X Y (fun c hc => hl c (List.mem_cons_of_mem _ hc)) (fun c hc => hr c (List.mem_cons_of_mem _ hc)) e2
    exact ⟨⟨e1, e3⟩, e4⟩
theorem ent_kd {h : Nat} {t : Tr (h + 1)} {c : Tr h} (hc : c ∈ kds t) {x : KV} (hx : x ∈ ent h c) : x ∈ ent (h + 1) t := List.mem_flatMap.mpr ⟨c, hc, hx⟩
theorem txt_u : ∀ (h : Nat) (a : Tr h) (k : Nat) (b : Tr k) (X Y : List Nat), (∀ x ∈ ent h a, okE x) → (∀ x ∈ ent k b, okE x) → txt h a ++ X = txt k b ++ Y → alk h a k b ∧ X = Y
  | 0, a, 0, b, X, Y, ha, hb, e => by
    have e : 91 :: ((txB true (ets a) ++ [93]) ++ X) = 91 :: ((txB true (ets b) ++ [93]) ++ Y) := e
    have e := (List.cons.inj e).2
    rw [List.append_assoc, List.append_assoc] at e
    exact txB_split true (ets a) (ets b) X Y ha hb e
  | 0, _, _ + 1, _, _, _, _, _, e => absurd (List.cons.inj e).1 (by decide)
  | _ + 1, _, 0, _, _, _, _, _, e => absurd (List.cons.inj e).1 (by decide)
  | h + 1, a, k + 1, b, X, Y, ha, hb, e => by
    have e : 40 :: (((kds a).flatMap (txt h) ++ [41]) ++ X) = 40 :: (((kds b).flatMap (txt k) ++ [41]) ++ Y) := e
    have e := (List.cons.inj e).2
    rw [List.append_assoc, List.append_assoc] at e
    exact kds_split (fun a b X Y => txt_u h a k b X Y) (kds a) (kds b) X Y (fun c hc x hx => ha x (ent_kd hc hx)) (fun c hc x hx => hb x (ent_kd hc hx)) e
theorem alkL_txt {h k : Nat} (ih : ∀ (a : Tr h) (b : Tr k), alk h a k b → txt h a = txt k b) : ∀ (l : List (Tr h)) (r : List (Tr k)), alkL (fun x y => alk h x k y) l r → l.flatMap (txt h) = r.flatMap (txt k)
  | [], [], _ => rfl
  | [], _ :: _, e => e.elim
  | _ :: _, [], e => e.elim
  | a :: l, b :: r, e => by rw [List.flatMap_cons, List.flatMap_cons, ih a b e.1, alkL_txt ih l r e.2]
theorem alk_txt : ∀ (h : Nat) (a : Tr h) (k : Nat) (b : Tr k), alk h a k b → txt h a = txt k b
  | 0, a, 0, b, e => by
    have e : ets a = ets b := e
    show 91 :: (txB true (ets a) ++ [93]) = 91 :: (txB true (ets b) ++ [93])
    rw [e]
  | 0, _, _ + 1, _, e => e.elim
  | _ + 1, _, 0, _, e => e.elim
  | h + 1, a, k + 1, b, e => by
    have e : alkL (fun x y => alk h x k y) (kds a) (kds b) := e
    show 40 :: ((kds a).flatMap (txt h) ++ [41]) = 40 :: ((kds b).flatMap (txt k) ++ [41])
    rw [alkL_txt (fun a b => alk_txt h a k b) _ _ e]
theorem txt_alk {z y : Tz} (hz : ∀ x ∈ ent z.1 z.2, okE x) (hy : ∀ x ∈ ent y.1 y.2, okE x) : txt z.1 z.2 = txt y.1 y.2 ↔ alk z.1 z.2 y.1 y.2 := ⟨fun e => (txt_u z.1 z.2 y.1 y.2 [] [] hz hy (by rw [e])).1, alk_txt _ _ _ _⟩
theorem alkL_at {α β : Type} {p : α → β → Prop} {l : List α} {r : List β} {i : Nat} (hl : i < l.length) (hr : i < r.length) : alkL p (l.drop i) (r.drop i) ↔ p l[i] r[i] ∧ alkL p (l.drop (i + 1)) (r.drop (i + 1)) := by
  rw [List.drop_eq_getElem_cons hl, List.drop_eq_getElem_cons hr]
  exact Iff.rfl
theorem alkL_len {α β : Type} {p : α → β → Prop} : ∀ (l : List α) (r : List β), alkL p l r → l.length = r.length
  | [], [], _ => rfl
  | [], _ :: _, e => e.elim
  | _ :: _, [], e => e.elim
  | _ :: l, _ :: r, e => by rw [List.length_cons, List.length_cons, alkL_len l r e.2]
theorem eqL_at {l r : List KV} {i : Nat} (hl : i < l.length) (hr : i < r.length) : l.drop i = r.drop i ↔ l[i] = r[i] ∧ l.drop (i + 1) = r.drop (i + 1) := by
  rw [List.drop_eq_getElem_cons hl, List.drop_eq_getElem_cons hr]
  exact ⟨fun e => List.cons.inj e, fun e => by rw [e.1, e.2]⟩
set_option maxHeartbeats 4000000 in
set_option maxRecDepth 100000 in
theorem q_nal {S : aw_S} {m ρ : Nat → Nat} (hM : LM S m) : ∀ (h : Nat) (a : Tr h) (k : Nat) (b : Tr k), RepM S m ρ h a → RepM S m ρ k b → aw_M yX11_areNodesAlike cX11_areNodesAlike 5 (some FieldType.boolean) (h + 1) 0 0 [.ref (m 33), .int (nI (ρ a.1)), .int (nI (ρ b.1))] S (fun r S2 => bR (alk h a k b) r ∧ S2 = S) := by
  intro h
  induction h with
  | zero =>
    intro a k b ra rb
    cases k with
    | zero =>
      refine aw_enter (by decide +kernel) (Nat.le_of_ble_eq_true rfl) (fun g K EE => ?_)
      have h7a : (ets a).length ≤ 7 := ra.own.2.2.2.2.1
      have h7b : (ets b).length ≤ 7 := rb.own.2.2.2.2.1
      have hra := ra.own.1
      have hrb := rb.own.1
      have stop : ∀ (x : Int32), ¬ alk 0 a 0 b → aw g 5 S 0 0 [(4, .int x), (3, .int 0), (2, .int (nI (ρ b.1))), (1, .int (nI (ρ a.1))), (0, .ref (m 33))] [] 37 := by
        intro x hno
        refine a_iload K dX11_areNodesAlike_37 rfl ?_
        first | refine a_aload_n K dX11_areNodesAlike_39 rfl ?_ | refine a_aload_nN K dX11_areNodesAlike_39 rfl ?_
        refine a_getRs K fd_X11_26 (by exact lm_o hM) (Or.inr ⟨_, rfl⟩) (by exact lm_r715 hM) dX11_areNodesAlike_40 ?_
        refine a_iload_n K dX11_areNodesAlike_43 rfl ?_
        refine a_iald K (by exact lm_kk hM (by decide) (by decide)) (by show vp_in _ (sN S (m 5)); exact lm_ix (z := 12000) hM (by decide) (by decide) (show ρ a.1 < 12000 by omega) (by decide)) dX11_areNodesAlike_44 ?_
        rw [nI_clamp (by omega)]
        rw [show sA S (m 5) (ρ a.1) = nI a.2.2.length from ra.own.2.2.1]
        refine a_icmp_ge K dX11_areNodesAlike_45 (tgt := 148) (by decide) (fun c_45 => ?_) (fun c_45 => ?_)
        · refine a_iload_n K dX11_areNodesAlike_148 rfl ?_
          exact a_iret K EE rfl (by omega) (by omega) dX11_areNodesAlike_149 ⟨Or.inr ⟨hno, rfl⟩, rfl⟩
        · refine a_iload_n K dX11_areNodesAlike_48 rfl ?_
          refine a_if_eq K dX11_areNodesAlike_49 (tgt := 148) (by decide) (fun c_49 => ?_) (fun c_49 => absurd c_49 (fun z => z rfl))
          refine a_iload_n K dX11_areNodesAlike_148 rfl ?_
          exact a_iret K EE rfl (by omega) (by omega) dX11_areNodesAlike_149 ⟨Or.inr ⟨hno, rfl⟩, rfl⟩
      by_cases hlen : ¬ (ets a).length = (ets b).length
      · have hno : ¬ alk 0 a 0 b := fun q => hlen (congrArg List.length q)
        first | refine a_aload_n K dX11_areNodesAlike_0 rfl ?_ | refine a_aload_nN K dX11_areNodesAlike_0 rfl ?_
        refine a_getRs K fd_X11_23 (by exact lm_o hM) (Or.inr ⟨_, rfl⟩) (by exact lm_r714 hM) dX11_areNodesAlike_1 ?_
        refine a_iload_n K dX11_areNodesAlike_4 rfl ?_
        refine a_iald K (by exact lm_kk hM (by decide) (by decide)) (by show vp_in _ (sN S (m 4)); exact lm_ix (z := 12000) hM (by decide) (by decide) (show ρ a.1 < 12000 by omega) (by decide)) dX11_areNodesAlike_5 ?_
        rw [nI_clamp (by omega)]
        rw [show sA S (m 4) (ρ a.1) = 1 from ra.own.2.1]
        first | refine a_aload_n K dX11_areNodesAlike_6 rfl ?_ | refine a_aload_nN K dX11_areNodesAlike_6 rfl ?_
        refine a_getRs K fd_X11_23 (by exact lm_o hM) (Or.inr ⟨_, rfl⟩) (by exact lm_r714 hM) dX11_areNodesAlike_7 ?_
        refine a_iload_n K dX11_areNodesAlike_10 rfl ?_
        refine a_iald K (by exact lm_kk hM (by decide) (by decide)) (by show vp_in _ (sN S (m 4)); exact lm_ix (z := 12000) hM (by decide) (by decide) (show ρ b.1 < 12000 by omega) (by decide)) dX11_areNodesAlike_11 ?_
        rw [nI_clamp (by omega)]
        rw [show sA S (m 4) (ρ b.1) = 1 from rb.own.2.1]
        refine a_icmp_ne K dX11_areNodesAlike_12 (tgt := 30) (by decide) (fun c_12 => absurd c_12 (fun z => z rfl)) (fun c_12 => ?_)
        first | refine a_aload_n K dX11_areNodesAlike_15 rfl ?_ | refine a_aload_nN K dX11_areNodesAlike_15 rfl ?_
        refine a_getRs K fd_X11_26 (by exact lm_o hM) (Or.inr ⟨_, rfl⟩) (by exact lm_r715 hM) dX11_areNodesAlike_16 ?_
        refine a_iload_n K dX11_areNodesAlike_19 rfl ?_
        refine a_iald K (by exact lm_kk hM (by decide) (by decide)) (by show vp_in _ (sN S (m 5)); exact lm_ix (z := 12000) hM (by decide) (by decide) (show ρ a.1 < 12000 by omega) (by decide)) dX11_areNodesAlike_20 ?_
        rw [nI_clamp (by omega)]
        rw [show sA S (m 5) (ρ a.1) = nI a.2.2.length from ra.own.2.2.1]
        first | refine a_aload_n K dX11_areNodesAlike_21 rfl ?_ | refine a_aload_nN K dX11_areNodesAlike_21 rfl ?_
        refine a_getRs K fd_X11_26 (by exact lm_o hM) (Or.inr ⟨_, rfl⟩) (by exact lm_r715 hM) dX11_areNodesAlike_22 ?_
        refine a_iload_n K dX11_areNodesAlike_25 rfl ?_
        refine a_iald K (by exact lm_kk hM (by decide) (by decide)) (by show vp_in _ (sN S (m 5)); exact lm_ix (z := 12000) hM (by decide) (by decide) (show ρ b.1 < 12000 by omega) (by decide)) dX11_areNodesAlike_26 ?_
        rw [nI_clamp (by omega)]
        rw [show sA S (m 5) (ρ b.1) = nI b.2.2.length from rb.own.2.2.1]
        refine a_icmp_eq K dX11_areNodesAlike_27 (tgt := 32) (by decide) (fun c_27 => absurd c_27 (fun z => hlen (nI_inj (by omega) (by omega) z))) (fun c_27 => ?_)
        refine a_iconst K dX11_areNodesAlike_30 (v := 0) (by decide) ?_
        exact a_iret K EE rfl (by omega) (by omega) dX11_areNodesAlike_31 ⟨Or.inr ⟨hno, rfl⟩, rfl⟩
      have hlen := Classical.not_not.mp hlen
      have loop : ∀ (n i : Nat) (x : Int32), x = nI i → i + n = (ets a).length → (alk 0 a 0 b ↔ ((ets a).drop i = (ets b).drop i)) → aw g 5 S 0 0 [(4, .int x), (3, .int 1), (2, .int (nI (ρ b.1))), (1, .int (nI (ρ a.1))), (0, .ref (m 33))] [] 37 := by
        intro n
        induction n with
        | zero =>
          intro i x hx hn hI
          subst hx
          refine a_iload K dX11_areNodesAlike_37 rfl ?_
          first | refine a_aload_n K dX11_areNodesAlike_39 rfl ?_ | refine a_aload_nN K dX11_areNodesAlike_39 rfl ?_
          refine a_getRs K fd_X11_26 (by exact lm_o hM) (Or.inr ⟨_, rfl⟩) (by exact lm_r715 hM) dX11_areNodesAlike_40 ?_
          refine a_iload_n K dX11_areNodesAlike_43 rfl ?_
          refine a_iald K (by exact lm_kk hM (by decide) (by decide)) (by show vp_in _ (sN S (m 5)); exact lm_ix (z := 12000) hM (by decide) (by decide) (show ρ a.1 < 12000 by omega) (by decide)) dX11_areNodesAlike_44 ?_
          rw [nI_clamp (by omega)]
          rw [show sA S (m 5) (ρ a.1) = nI a.2.2.length from ra.own.2.2.1]
          refine a_icmp_ge K dX11_areNodesAlike_45 (tgt := 148) (by decide) (fun c_45 => ?_) (fun c_45 => absurd c_45 (fun z => z (nI_le (a := (ets a).length) (b := i) (by omega) (by omega))))
          refine a_iload_n K dX11_areNodesAlike_148 rfl ?_
          exact a_iret K EE rfl (by omega) (by omega) dX11_areNodesAlike_149 ⟨Or.inl ⟨hI.mpr (by rw [show i = (ets a).length by omega, List.drop_length, hlen, List.drop_length]), rfl⟩, rfl⟩
        | succ n ih =>
          intro i x hx hn hI
          subst hx
          have hi : i < (ets a).length := by omega
          have hi2 : i < (ets b).length := by omega
          have hat := eqL_at hi hi2
          have hc := List.getElem?_eq_getElem hi
          have hd := List.getElem?_eq_getElem hi2
          generalize (ets a)[i] = c at hc hat
          generalize (ets b)[i] = d at hd hat
          refine a_iload K dX11_areNodesAlike_37 rfl ?_
          first | refine a_aload_n K dX11_areNodesAlike_39 rfl ?_ | refine a_aload_nN K dX11_areNodesAlike_39 rfl ?_
          refine a_getRs K fd_X11_26 (by exact lm_o hM) (Or.inr ⟨_, rfl⟩) (by exact lm_r715 hM) dX11_areNodesAlike_40 ?_
          refine a_iload_n K dX11_areNodesAlike_43 rfl ?_
          refine a_iald K (by exact lm_kk hM (by decide) (by decide)) (by show vp_in _ (sN S (m 5)); exact lm_ix (z := 12000) hM (by decide) (by decide) (show ρ a.1 < 12000 by omega) (by decide)) dX11_areNodesAlike_44 ?_
          rw [nI_clamp (by omega)]
          rw [show sA S (m 5) (ρ a.1) = nI a.2.2.length from ra.own.2.2.1]
          refine a_icmp_ge K dX11_areNodesAlike_45 (tgt := 148) (by decide) (fun c_45 => absurd c_45 (nI_ge (a := i) (b := (ets a).length) (by omega) (by omega))) (fun c_45 => ?_)
          refine a_iload_n K dX11_areNodesAlike_48 rfl ?_
          refine a_if_eq K dX11_areNodesAlike_49 (tgt := 148) (by decide) (fun c_49 => absurd c_49 (by decide)) (fun c_49 => ?_)
          first | refine a_aload_n K dX11_areNodesAlike_52 rfl ?_ | refine a_aload_nN K dX11_areNodesAlike_52 rfl ?_
          refine a_getRs K fd_X11_23 (by exact lm_o hM) (Or.inr ⟨_, rfl⟩) (by exact lm_r714 hM) dX11_areNodesAlike_53 ?_
          refine a_iload_n K dX11_areNodesAlike_56 rfl ?_
          refine a_iald K (by exact lm_kk hM (by decide) (by decide)) (by show vp_in _ (sN S (m 4)); exact lm_ix (z := 12000) hM (by decide) (by decide) (show ρ a.1 < 12000 by omega) (by decide)) dX11_areNodesAlike_57 ?_
          rw [nI_clamp (by omega)]
          rw [show sA S (m 4) (ρ a.1) = 1 from ra.own.2.1]
          refine a_if_ne K dX11_areNodesAlike_58 (tgt := 82) (by decide) (fun c_58 => ?_) (fun c_58 => absurd c_58 (by decide))
          first | refine a_aload_n K dX11_areNodesAlike_82 rfl ?_ | refine a_aload_nN K dX11_areNodesAlike_82 rfl ?_
          refine a_getRs K fd_X11_39 (by exact lm_o hM) (Or.inr ⟨_, rfl⟩) (by exact lm_r719 hM) dX11_areNodesAlike_83 ?_
          refine a_bipush K dX11_areNodesAlike_86 (v := 7) (by decide) ?_
          refine a_iload_n K dX11_areNodesAlike_88 rfl ?_
          refine a_imul K dX11_areNodesAlike_89 ?_
          rw [nI_7]
          refine a_iload K dX11_areNodesAlike_90 rfl ?_
          refine a_iadd K dX11_areNodesAlike_92 ?_
          rw [nI_add]
          refine a_iald K (by exact lm_kk hM (by decide) (by decide)) (by show vp_in _ (sN S (m 9)); exact lm_ix (z := 84000) hM (by decide) (by decide) (show 7 * ρ a.1 + i < 84000 by omega) (by decide)) dX11_areNodesAlike_93 ?_
          rw [nI_clamp (by omega)]
          rw [show sA S (m 9) (7 * ρ a.1 + i) = c.1 from (ra.ent hc).1]
          first | refine a_aload_n K dX11_areNodesAlike_94 rfl ?_ | refine a_aload_nN K dX11_areNodesAlike_94 rfl ?_
          refine a_getRs K fd_X11_39 (by exact lm_o hM) (Or.inr ⟨_, rfl⟩) (by exact lm_r719 hM) dX11_areNodesAlike_95 ?_
          refine a_bipush K dX11_areNodesAlike_98 (v := 7) (by decide) ?_
          refine a_iload_n K dX11_areNodesAlike_100 rfl ?_
          refine a_imul K dX11_areNodesAlike_101 ?_
          rw [nI_7]
          refine a_iload K dX11_areNodesAlike_102 rfl ?_
          refine a_iadd K dX11_areNodesAlike_104 ?_
          rw [nI_add]
          refine a_iald K (by exact lm_kk hM (by decide) (by decide)) (by show vp_in _ (sN S (m 9)); exact lm_ix (z := 84000) hM (by decide) (by decide) (show 7 * ρ b.1 + i < 84000 by omega) (by decide)) dX11_areNodesAlike_105 ?_
          rw [nI_clamp (by omega)]
          rw [show sA S (m 9) (7 * ρ b.1 + i) = d.1 from (rb.ent hd).1]
          refine a_icmp_ne K dX11_areNodesAlike_106 (tgt := 140) (by decide) (fun c_106 => ?_) (fun c_106 => ?_)
          · refine a_iconst K dX11_areNodesAlike_140 (v := 0) (by decide) ?_
            refine a_istore_n K dX11_areNodesAlike_141 (by decide) ?_
            refine a_iinc K dX11_areNodesAlike_142 (v := 1) rfl (by decide) (by decide) ?_
            refine a_goto K dX11_areNodesAlike_145 (tgt := 37) (by decide) ?_
            exact aw_locl rfl (stop _ (fun q => c_106 (congrArg Prod.fst (hat.mp (hI.mp q)).1)))
          · first | refine a_aload_n K dX11_areNodesAlike_109 rfl ?_ | refine a_aload_nN K dX11_areNodesAlike_109 rfl ?_
            refine a_getRs K fd_X11_42 (by exact lm_o hM) (Or.inr ⟨_, rfl⟩) (by exact lm_r720 hM) dX11_areNodesAlike_110 ?_
            refine a_bipush K dX11_areNodesAlike_113 (v := 7) (by decide) ?_
            refine a_iload_n K dX11_areNodesAlike_115 rfl ?_
            refine a_imul K dX11_areNodesAlike_116 ?_
            rw [nI_7]
            refine a_iload K dX11_areNodesAlike_117 rfl ?_
            refine a_iadd K dX11_areNodesAlike_119 ?_
            rw [nI_add]
            refine a_iald K (by exact lm_kk hM (by decide) (by decide)) (by show vp_in _ (sN S (m 10)); exact lm_ix (z := 84000) hM (by decide) (by decide) (show 7 * ρ a.1 + i < 84000 by omega) (by decide)) dX11_areNodesAlike_120 ?_
            rw [nI_clamp (by omega)]
            rw [show sA S (m 10) (7 * ρ a.1 + i) = c.2 from (ra.ent hc).2.1]
            first | refine a_aload_n K dX11_areNodesAlike_121 rfl ?_ | refine a_aload_nN K dX11_areNodesAlike_121 rfl ?_
            refine a_getRs K fd_X11_42 (by exact lm_o hM) (Or.inr ⟨_, rfl⟩) (by exact lm_r720 hM) dX11_areNodesAlike_122 ?_
            refine a_bipush K dX11_areNodesAlike_125 (v := 7) (by decide) ?_
            refine a_iload_n K dX11_areNodesAlike_127 rfl ?_
            refine a_imul K dX11_areNodesAlike_128 ?_
            rw [nI_7]
            refine a_iload K dX11_areNodesAlike_129 rfl ?_
            refine a_iadd K dX11_areNodesAlike_131 ?_
            rw [nI_add]
            refine a_iald K (by exact lm_kk hM (by decide) (by decide)) (by show vp_in _ (sN S (m 10)); exact lm_ix (z := 84000) hM (by decide) (by decide) (show 7 * ρ b.1 + i < 84000 by omega) (by decide)) dX11_areNodesAlike_132 ?_
            rw [nI_clamp (by omega)]
            rw [show sA S (m 10) (7 * ρ b.1 + i) = d.2 from (rb.ent hd).2.1]
            refine a_icmp_ne K dX11_areNodesAlike_133 (tgt := 140) (by decide) (fun c_133 => ?_) (fun c_133 => ?_)
            · refine a_iconst K dX11_areNodesAlike_140 (v := 0) (by decide) ?_
              refine a_istore_n K dX11_areNodesAlike_141 (by decide) ?_
              refine a_iinc K dX11_areNodesAlike_142 (v := 1) rfl (by decide) (by decide) ?_
              refine a_goto K dX11_areNodesAlike_145 (tgt := 37) (by decide) ?_
              exact aw_locl rfl (stop _ (fun q => c_133 (congrArg Prod.snd (hat.mp (hI.mp q)).1)))
            · refine a_iconst K dX11_areNodesAlike_136 (v := 1) (by decide) ?_
              refine a_goto K dX11_areNodesAlike_137 (tgt := 141) (by decide) ?_
              refine a_istore_n K dX11_areNodesAlike_141 (by decide) ?_
              refine a_iinc K dX11_areNodesAlike_142 (v := 1) rfl (by decide) (by decide) ?_
              refine a_goto K dX11_areNodesAlike_145 (tgt := 37) (by decide) ?_
              exact aw_locl rfl (ih (i + 1) _ (nI_1 i) (by omega) (hI.trans ⟨fun q => (hat.mp q).2, fun q => hat.mpr ⟨Prod.ext (by first | exact c_106 | exact Classical.not_not.mp c_106) (by first | exact c_133 | exact Classical.not_not.mp c_133), q⟩⟩))
      first | refine a_aload_n K dX11_areNodesAlike_0 rfl ?_ | refine a_aload_nN K dX11_areNodesAlike_0 rfl ?_
      refine a_getRs K fd_X11_23 (by exact lm_o hM) (Or.inr ⟨_, rfl⟩) (by exact lm_r714 hM) dX11_areNodesAlike_1 ?_
      refine a_iload_n K dX11_areNodesAlike_4 rfl ?_
      refine a_iald K (by exact lm_kk hM (by decide) (by decide)) (by show vp_in _ (sN S (m 4)); exact lm_ix (z := 12000) hM (by decide) (by decide) (show ρ a.1 < 12000 by omega) (by decide)) dX11_areNodesAlike_5 ?_
      rw [nI_clamp (by omega)]
      rw [show sA S (m 4) (ρ a.1) = 1 from ra.own.2.1]
      first | refine a_aload_n K dX11_areNodesAlike_6 rfl ?_ | refine a_aload_nN K dX11_areNodesAlike_6 rfl ?_
      refine a_getRs K fd_X11_23 (by exact lm_o hM) (Or.inr ⟨_, rfl⟩) (by exact lm_r714 hM) dX11_areNodesAlike_7 ?_
      refine a_iload_n K dX11_areNodesAlike_10 rfl ?_
      refine a_iald K (by exact lm_kk hM (by decide) (by decide)) (by show vp_in _ (sN S (m 4)); exact lm_ix (z := 12000) hM (by decide) (by decide) (show ρ b.1 < 12000 by omega) (by decide)) dX11_areNodesAlike_11 ?_
      rw [nI_clamp (by omega)]
      rw [show sA S (m 4) (ρ b.1) = 1 from rb.own.2.1]
      refine a_icmp_ne K dX11_areNodesAlike_12 (tgt := 30) (by decide) (fun c_12 => absurd c_12 (fun z => z rfl)) (fun c_12 => ?_)
      first | refine a_aload_n K dX11_areNodesAlike_15 rfl ?_ | refine a_aload_nN K dX11_areNodesAlike_15 rfl ?_
      refine a_getRs K fd_X11_26 (by exact lm_o hM) (Or.inr ⟨_, rfl⟩) (by exact lm_r715 hM) dX11_areNodesAlike_16 ?_
      refine a_iload_n K dX11_areNodesAlike_19 rfl ?_
      refine a_iald K (by exact lm_kk hM (by decide) (by decide)) (by show vp_in _ (sN S (m 5)); exact lm_ix (z := 12000) hM (by decide) (by decide) (show ρ a.1 < 12000 by omega) (by decide)) dX11_areNodesAlike_20 ?_
      rw [nI_clamp (by omega)]
      rw [show sA S (m 5) (ρ a.1) = nI a.2.2.length from ra.own.2.2.1]
      first | refine a_aload_n K dX11_areNodesAlike_21 rfl ?_ | refine a_aload_nN K dX11_areNodesAlike_21 rfl ?_
      refine a_getRs K fd_X11_26 (by exact lm_o hM) (Or.inr ⟨_, rfl⟩) (by exact lm_r715 hM) dX11_areNodesAlike_22 ?_
      refine a_iload_n K dX11_areNodesAlike_25 rfl ?_
      refine a_iald K (by exact lm_kk hM (by decide) (by decide)) (by show vp_in _ (sN S (m 5)); exact lm_ix (z := 12000) hM (by decide) (by decide) (show ρ b.1 < 12000 by omega) (by decide)) dX11_areNodesAlike_26 ?_
      rw [nI_clamp (by omega)]
      rw [show sA S (m 5) (ρ b.1) = nI b.2.2.length from rb.own.2.2.1]
      refine a_icmp_eq K dX11_areNodesAlike_27 (tgt := 32) (by decide) (fun c_27 => ?_) (fun c_27 => absurd c_27 (fun z => z (by rw [show a.2.2.length = b.2.2.length from hlen])))
      refine a_iconst K dX11_areNodesAlike_32 (v := 1) (by decide) ?_
      refine a_istore_n K dX11_areNodesAlike_33 (by decide) ?_
      refine a_iconst K dX11_areNodesAlike_34 (v := 0) (by decide) ?_
      refine a_istore K dX11_areNodesAlike_35 (by decide) ?_
      exact aw_locl rfl (loop (ets a).length 0 _ nI_0.symm (Nat.zero_add _) (by rw [List.drop_zero, List.drop_zero]; exact Iff.rfl))
    | succ k =>
      refine aw_enter (by decide +kernel) (Nat.le_of_ble_eq_true rfl) (fun g K EE => ?_)
      have h7a : (ets a).length ≤ 7 := ra.own.2.2.2.2.1
      have h7b : (kds b).length ≤ 7 := rb.own.2.2.2.2.1
      have hra := ra.own.1
      have hrb := rb.own.1
      have hno : ¬ alk 0 a (k + 1) b := fun q => q
      first | refine a_aload_n K dX11_areNodesAlike_0 rfl ?_ | refine a_aload_nN K dX11_areNodesAlike_0 rfl ?_
      refine a_getRs K fd_X11_23 (by exact lm_o hM) (Or.inr ⟨_, rfl⟩) (by exact lm_r714 hM) dX11_areNodesAlike_1 ?_
      refine a_iload_n K dX11_areNodesAlike_4 rfl ?_
      refine a_iald K (by exact lm_kk hM (by decide) (by decide)) (by show vp_in _ (sN S (m 4)); exact lm_ix (z := 12000) hM (by decide) (by decide) (show ρ a.1 < 12000 by omega) (by decide)) dX11_areNodesAlike_5 ?_
      rw [nI_clamp (by omega)]
      rw [show sA S (m 4) (ρ a.1) = 1 from ra.own.2.1]
      first | refine a_aload_n K dX11_areNodesAlike_6 rfl ?_ | refine a_aload_nN K dX11_areNodesAlike_6 rfl ?_
      refine a_getRs K fd_X11_23 (by exact lm_o hM) (Or.inr ⟨_, rfl⟩) (by exact lm_r714 hM) dX11_areNodesAlike_7 ?_
      refine a_iload_n K dX11_areNodesAlike_10 rfl ?_
      refine a_iald K (by exact lm_kk hM (by decide) (by decide)) (by show vp_in _ (sN S (m 4)); exact lm_ix (z := 12000) hM (by decide) (by decide) (show ρ b.1 < 12000 by omega) (by decide)) dX11_areNodesAlike_11 ?_
      rw [nI_clamp (by omega)]
      rw [show sA S (m 4) (ρ b.1) = 0 from rb.own.2.1]
      refine a_icmp_ne K dX11_areNodesAlike_12 (tgt := 30) (by decide) (fun c_12 => ?_) (fun c_12 => absurd c_12 (by decide))
      refine a_iconst K dX11_areNodesAlike_30 (v := 0) (by decide) ?_
      exact a_iret K EE rfl (by omega) (by omega) dX11_areNodesAlike_31 ⟨Or.inr ⟨hno, rfl⟩, rfl⟩
  | succ h ihh =>
    intro a k b ra rb
    cases k with
    | zero =>
      refine aw_enter (by decide +kernel) (Nat.le_of_ble_eq_true rfl) (fun g K EE => ?_)
      have h7a : (kds a).length ≤ 7 := ra.own.2.2.2.2.1
      have h7b : (ets b).length ≤ 7 := rb.own.2.2.2.2.1
      have hra := ra.own.1
      have hrb := rb.own.1
      have hno : ¬ alk (h + 1) a 0 b := fun q => q
      first | refine a_aload_n K dX11_areNodesAlike_0 rfl ?_ | refine a_aload_nN K dX11_areNodesAlike_0 rfl ?_
      refine a_getRs K fd_X11_23 (by exact lm_o hM) (Or.inr ⟨_, rfl⟩) (by exact lm_r714 hM) dX11_areNodesAlike_1 ?_
      refine a_iload_n K dX11_areNodesAlike_4 rfl ?_
      refine a_iald K (by exact lm_kk hM (by decide) (by decide)) (by show vp_in _ (sN S (m 4)); exact lm_ix (z := 12000) hM (by decide) (by decide) (show ρ a.1 < 12000 by omega) (by decide)) dX11_areNodesAlike_5 ?_
      rw [nI_clamp (by omega)]
      rw [show sA S (m 4) (ρ a.1) = 0 from ra.own.2.1]
      first | refine a_aload_n K dX11_areNodesAlike_6 rfl ?_ | refine a_aload_nN K dX11_areNodesAlike_6 rfl ?_
      refine a_getRs K fd_X11_23 (by exact lm_o hM) (Or.inr ⟨_, rfl⟩) (by exact lm_r714 hM) dX11_areNodesAlike_7 ?_
      refine a_iload_n K dX11_areNodesAlike_10 rfl ?_
      refine a_iald K (by exact lm_kk hM (by decide) (by decide)) (by show vp_in _ (sN S (m 4)); exact lm_ix (z := 12000) hM (by decide) (by decide) (show ρ b.1 < 12000 by omega) (by decide)) dX11_areNodesAlike_11 ?_
      rw [nI_clamp (by omega)]
      rw [show sA S (m 4) (ρ b.1) = 1 from rb.own.2.1]
      refine a_icmp_ne K dX11_areNodesAlike_12 (tgt := 30) (by decide) (fun c_12 => ?_) (fun c_12 => absurd c_12 (by decide))
      refine a_iconst K dX11_areNodesAlike_30 (v := 0) (by decide) ?_
      exact a_iret K EE rfl (by omega) (by omega) dX11_areNodesAlike_31 ⟨Or.inr ⟨hno, rfl⟩, rfl⟩
    | succ k =>
      refine aw_enter (by decide +kernel) (Nat.le_of_ble_eq_true rfl) (fun g K EE => ?_)
      have h7a : (kds a).length ≤ 7 := ra.own.2.2.2.2.1
      have h7b : (kds b).length ≤ 7 := rb.own.2.2.2.2.1
      have hra := ra.own.1
      have hrb := rb.own.1
      have stop : ∀ (x : Int32), ¬ alk (h + 1) a (k + 1) b → aw g 5 S 0 0 [(4, .int x), (3, .int 0), (2, .int (nI (ρ b.1))), (1, .int (nI (ρ a.1))), (0, .ref (m 33))] [] 37 := by
        intro x hno
        refine a_iload K dX11_areNodesAlike_37 rfl ?_
        first | refine a_aload_n K dX11_areNodesAlike_39 rfl ?_ | refine a_aload_nN K dX11_areNodesAlike_39 rfl ?_
        refine a_getRs K fd_X11_26 (by exact lm_o hM) (Or.inr ⟨_, rfl⟩) (by exact lm_r715 hM) dX11_areNodesAlike_40 ?_
        refine a_iload_n K dX11_areNodesAlike_43 rfl ?_
        refine a_iald K (by exact lm_kk hM (by decide) (by decide)) (by show vp_in _ (sN S (m 5)); exact lm_ix (z := 12000) hM (by decide) (by decide) (show ρ a.1 < 12000 by omega) (by decide)) dX11_areNodesAlike_44 ?_
        rw [nI_clamp (by omega)]
        rw [show sA S (m 5) (ρ a.1) = nI a.2.2.length from ra.own.2.2.1]
        refine a_icmp_ge K dX11_areNodesAlike_45 (tgt := 148) (by decide) (fun c_45 => ?_) (fun c_45 => ?_)
        · refine a_iload_n K dX11_areNodesAlike_148 rfl ?_
          exact a_iret K EE rfl (by omega) (by omega) dX11_areNodesAlike_149 ⟨Or.inr ⟨hno, rfl⟩, rfl⟩
        · refine a_iload_n K dX11_areNodesAlike_48 rfl ?_
          refine a_if_eq K dX11_areNodesAlike_49 (tgt := 148) (by decide) (fun c_49 => ?_) (fun c_49 => absurd c_49 (fun z => z rfl))
          refine a_iload_n K dX11_areNodesAlike_148 rfl ?_
          exact a_iret K EE rfl (by omega) (by omega) dX11_areNodesAlike_149 ⟨Or.inr ⟨hno, rfl⟩, rfl⟩
      by_cases hlen : ¬ (kds a).length = (kds b).length
      · have hno : ¬ alk (h + 1) a (k + 1) b := fun q => hlen (alkL_len _ _ q)
        first | refine a_aload_n K dX11_areNodesAlike_0 rfl ?_ | refine a_aload_nN K dX11_areNodesAlike_0 rfl ?_
        refine a_getRs K fd_X11_23 (by exact lm_o hM) (Or.inr ⟨_, rfl⟩) (by exact lm_r714 hM) dX11_areNodesAlike_1 ?_
        refine a_iload_n K dX11_areNodesAlike_4 rfl ?_
        refine a_iald K (by exact lm_kk hM (by decide) (by decide)) (by show vp_in _ (sN S (m 4)); exact lm_ix (z := 12000) hM (by decide) (by decide) (show ρ a.1 < 12000 by omega) (by decide)) dX11_areNodesAlike_5 ?_
        rw [nI_clamp (by omega)]
        rw [show sA S (m 4) (ρ a.1) = 0 from ra.own.2.1]
        first | refine a_aload_n K dX11_areNodesAlike_6 rfl ?_ | refine a_aload_nN K dX11_areNodesAlike_6 rfl ?_
        refine a_getRs K fd_X11_23 (by exact lm_o hM) (Or.inr ⟨_, rfl⟩) (by exact lm_r714 hM) dX11_areNodesAlike_7 ?_
        refine a_iload_n K dX11_areNodesAlike_10 rfl ?_
        refine a_iald K (by exact lm_kk hM (by decide) (by decide)) (by show vp_in _ (sN S (m 4)); exact lm_ix (z := 12000) hM (by decide) (by decide) (show ρ b.1 < 12000 by omega) (by decide)) dX11_areNodesAlike_11 ?_
        rw [nI_clamp (by omega)]
        rw [show sA S (m 4) (ρ b.1) = 0 from rb.own.2.1]
        refine a_icmp_ne K dX11_areNodesAlike_12 (tgt := 30) (by decide) (fun c_12 => absurd c_12 (fun z => z rfl)) (fun c_12 => ?_)
        first | refine a_aload_n K dX11_areNodesAlike_15 rfl ?_ | refine a_aload_nN K dX11_areNodesAlike_15 rfl ?_
        refine a_getRs K fd_X11_26 (by exact lm_o hM) (Or.inr ⟨_, rfl⟩) (by exact lm_r715 hM) dX11_areNodesAlike_16 ?_
        refine a_iload_n K dX11_areNodesAlike_19 rfl ?_
        refine a_iald K (by exact lm_kk hM (by decide) (by decide)) (by show vp_in _ (sN S (m 5)); exact lm_ix (z := 12000) hM (by decide) (by decide) (show ρ a.1 < 12000 by omega) (by decide)) dX11_areNodesAlike_20 ?_
        rw [nI_clamp (by omega)]
        rw [show sA S (m 5) (ρ a.1) = nI a.2.2.length from ra.own.2.2.1]
        first | refine a_aload_n K dX11_areNodesAlike_21 rfl ?_ | refine a_aload_nN K dX11_areNodesAlike_21 rfl ?_
        refine a_getRs K fd_X11_26 (by exact lm_o hM) (Or.inr ⟨_, rfl⟩) (by exact lm_r715 hM) dX11_areNodesAlike_22 ?_
        refine a_iload_n K dX11_areNodesAlike_25 rfl ?_
        refine a_iald K (by exact lm_kk hM (by decide) (by decide)) (by show vp_in _ (sN S (m 5)); exact lm_ix (z := 12000) hM (by decide) (by decide) (show ρ b.1 < 12000 by omega) (by decide)) dX11_areNodesAlike_26 ?_
        rw [nI_clamp (by omega)]
        rw [show sA S (m 5) (ρ b.1) = nI b.2.2.length from rb.own.2.2.1]
        refine a_icmp_eq K dX11_areNodesAlike_27 (tgt := 32) (by decide) (fun c_27 => absurd c_27 (fun z => hlen (nI_inj (by omega) (by omega) z))) (fun c_27 => ?_)
        refine a_iconst K dX11_areNodesAlike_30 (v := 0) (by decide) ?_
        exact a_iret K EE rfl (by omega) (by omega) dX11_areNodesAlike_31 ⟨Or.inr ⟨hno, rfl⟩, rfl⟩
      have hlen := Classical.not_not.mp hlen
      have loop : ∀ (n i : Nat) (x : Int32), x = nI i → i + n = (kds a).length → (alk (h + 1) a (k + 1) b ↔ (alkL (fun x y => alk h x k y) ((kds a).drop i) ((kds b).drop i))) → aw g 5 S 0 0 [(4, .int x), (3, .int 1), (2, .int (nI (ρ b.1))), (1, .int (nI (ρ a.1))), (0, .ref (m 33))] [] 37 := by
        intro n
        induction n with
        | zero =>
          intro i x hx hn hI
          subst hx
          refine a_iload K dX11_areNodesAlike_37 rfl ?_
          first | refine a_aload_n K dX11_areNodesAlike_39 rfl ?_ | refine a_aload_nN K dX11_areNodesAlike_39 rfl ?_
          refine a_getRs K fd_X11_26 (by exact lm_o hM) (Or.inr ⟨_, rfl⟩) (by exact lm_r715 hM) dX11_areNodesAlike_40 ?_
          refine a_iload_n K dX11_areNodesAlike_43 rfl ?_
          refine a_iald K (by exact lm_kk hM (by decide) (by decide)) (by show vp_in _ (sN S (m 5)); exact lm_ix (z := 12000) hM (by decide) (by decide) (show ρ a.1 < 12000 by omega) (by decide)) dX11_areNodesAlike_44 ?_
          rw [nI_clamp (by omega)]
          rw [show sA S (m 5) (ρ a.1) = nI a.2.2.length from ra.own.2.2.1]
          refine a_icmp_ge K dX11_areNodesAlike_45 (tgt := 148) (by decide) (fun c_45 => ?_) (fun c_45 => absurd c_45 (fun z => z (nI_le (a := (kds a).length) (b := i) (by omega) (by omega))))
          refine a_iload_n K dX11_areNodesAlike_148 rfl ?_
          exact a_iret K EE rfl (by omega) (by omega) dX11_areNodesAlike_149 ⟨Or.inl ⟨hI.mpr (by rw [show i = (kds a).length by omega, List.drop_length, hlen, List.drop_length]; exact trivial), rfl⟩, rfl⟩
        | succ n ih =>
          intro i x hx hn hI
          subst hx
          have hi : i < (kds a).length := by omega
          have hi2 : i < (kds b).length := by omega
          have hat := alkL_at (p := fun x y => alk h x k y) hi hi2
          have hc := List.getElem?_eq_getElem hi
          have hd := List.getElem?_eq_getElem hi2
          generalize (kds a)[i] = c at hc hat
          generalize (kds b)[i] = d at hd hat
          refine a_iload K dX11_areNodesAlike_37 rfl ?_
          first | refine a_aload_n K dX11_areNodesAlike_39 rfl ?_ | refine a_aload_nN K dX11_areNodesAlike_39 rfl ?_
          refine a_getRs K fd_X11_26 (by exact lm_o hM) (Or.inr ⟨_, rfl⟩) (by exact lm_r715 hM) dX11_areNodesAlike_40 ?_
          refine a_iload_n K dX11_areNodesAlike_43 rfl ?_
          refine a_iald K (by exact lm_kk hM (by decide) (by decide)) (by show vp_in _ (sN S (m 5)); exact lm_ix (z := 12000) hM (by decide) (by decide) (show ρ a.1 < 12000 by omega) (by decide)) dX11_areNodesAlike_44 ?_
          rw [nI_clamp (by omega)]
          rw [show sA S (m 5) (ρ a.1) = nI a.2.2.length from ra.own.2.2.1]
          refine a_icmp_ge K dX11_areNodesAlike_45 (tgt := 148) (by decide) (fun c_45 => absurd c_45 (nI_ge (a := i) (b := (kds a).length) (by omega) (by omega))) (fun c_45 => ?_)
          refine a_iload_n K dX11_areNodesAlike_48 rfl ?_
          refine a_if_eq K dX11_areNodesAlike_49 (tgt := 148) (by decide) (fun c_49 => absurd c_49 (by decide)) (fun c_49 => ?_)
          first | refine a_aload_n K dX11_areNodesAlike_52 rfl ?_ | refine a_aload_nN K dX11_areNodesAlike_52 rfl ?_
          refine a_getRs K fd_X11_23 (by exact lm_o hM) (Or.inr ⟨_, rfl⟩) (by exact lm_r714 hM) dX11_areNodesAlike_53 ?_
          refine a_iload_n K dX11_areNodesAlike_56 rfl ?_
          refine a_iald K (by exact lm_kk hM (by decide) (by decide)) (by show vp_in _ (sN S (m 4)); exact lm_ix (z := 12000) hM (by decide) (by decide) (show ρ a.1 < 12000 by omega) (by decide)) dX11_areNodesAlike_57 ?_
          rw [nI_clamp (by omega)]
          rw [show sA S (m 4) (ρ a.1) = 0 from ra.own.2.1]
          refine a_if_ne K dX11_areNodesAlike_58 (tgt := 82) (by decide) (fun c_58 => absurd c_58 (fun z => z rfl)) (fun c_58 => ?_)
          first | refine a_aload_n K dX11_areNodesAlike_61 rfl ?_ | refine a_aload_nN K dX11_areNodesAlike_61 rfl ?_
          first | refine a_aload_n K dX11_areNodesAlike_62 rfl ?_ | refine a_aload_nN K dX11_areNodesAlike_62 rfl ?_
          refine a_iload_n K dX11_areNodesAlike_63 rfl ?_
          refine a_iload K dX11_areNodesAlike_64 rfl ?_
          refine a_invV K (m_child hM (r := ρ a.1) (k := i) hra (by omega)) my_X11_child ml_X11_197 im_X11_child se_X11_child (ci := 11) (by exact lm_o hM) (by decide) ⟨_, _, rfl⟩ rfl (by omega) (by omega) (by omega) rfl (Nat.le_of_ble_eq_true rfl) dX11_areNodesAlike_66 ?_
          intro r9 S9 hp9
          obtain ⟨rfl, hS9⟩ := hp9
          obtain rfl := hS9.symm
          rw [(ra.kid hc).2.1]
          first | refine a_aload_n K dX11_areNodesAlike_69 rfl ?_ | refine a_aload_nN K dX11_areNodesAlike_69 rfl ?_
          refine a_iload_n K dX11_areNodesAlike_70 rfl ?_
          refine a_iload K dX11_areNodesAlike_71 rfl ?_
          refine a_invV K (m_child hM (r := ρ b.1) (k := i) hrb (by omega)) my_X11_child ml_X11_197 im_X11_child se_X11_child (ci := 11) (by exact lm_o hM) (by decide) ⟨_, _, rfl⟩ rfl (by omega) (by omega) (by omega) rfl (Nat.le_of_ble_eq_true rfl) dX11_areNodesAlike_73 ?_
          intro r9 S9 hp9
          obtain ⟨rfl, hS9⟩ := hp9
          obtain rfl := hS9.symm
          rw [(rb.kid hd).2.1]
          refine a_invV K (ihh c k d (ra.kid hc).1 (rb.kid hd).1) my_X11_areNodesAlike ml_X11_450 im_X11_areNodesAlike se_X11_areNodesAlike (ci := 11) (by exact lm_o hM) (by decide) ⟨_, _, rfl⟩ rfl (by omega) (by omega) (by omega) rfl (Nat.le_of_ble_eq_true rfl) dX11_areNodesAlike_76 ?_
          intro r9 S9 hp9
          obtain ⟨hb9, hS9⟩ := hp9
          obtain rfl := hS9.symm
          rcases hb9 with ⟨b_76, rfl⟩ | ⟨b_76, rfl⟩
          · refine a_goto K dX11_areNodesAlike_79 (tgt := 141) (by decide) ?_
            refine a_istore_n K dX11_areNodesAlike_141 (by decide) ?_
            refine a_iinc K dX11_areNodesAlike_142 (v := 1) rfl (by decide) (by decide) ?_
            refine a_goto K dX11_areNodesAlike_145 (tgt := 37) (by decide) ?_
            exact aw_locl rfl (ih (i + 1) _ (nI_1 i) (by omega) (hI.trans ⟨fun q => (hat.mp q).2, fun q => hat.mpr ⟨b_76, q⟩⟩))
          · refine a_goto K dX11_areNodesAlike_79 (tgt := 141) (by decide) ?_
            refine a_istore_n K dX11_areNodesAlike_141 (by decide) ?_
            refine a_iinc K dX11_areNodesAlike_142 (v := 1) rfl (by decide) (by decide) ?_
            refine a_goto K dX11_areNodesAlike_145 (tgt := 37) (by decide) ?_
            exact aw_locl rfl (stop _ (fun q => b_76 (hat.mp (hI.mp q)).1))
      first | refine a_aload_n K dX11_areNodesAlike_0 rfl ?_ | refine a_aload_nN K dX11_areNodesAlike_0 rfl ?_
      refine a_getRs K fd_X11_23 (by exact lm_o hM) (Or.inr ⟨_, rfl⟩) (by exact lm_r714 hM) dX11_areNodesAlike_1 ?_
      refine a_iload_n K dX11_areNodesAlike_4 rfl ?_
      refine a_iald K (by exact lm_kk hM (by decide) (by decide)) (by show vp_in _ (sN S (m 4)); exact lm_ix (z := 12000) hM (by decide) (by decide) (show ρ a.1 < 12000 by omega) (by decide)) dX11_areNodesAlike_5 ?_
      rw [nI_clamp (by omega)]
      rw [show sA S (m 4) (ρ a.1) = 0 from ra.own.2.1]
      first | refine a_aload_n K dX11_areNodesAlike_6 rfl ?_ | refine a_aload_nN K dX11_areNodesAlike_6 rfl ?_
      refine a_getRs K fd_X11_23 (by exact lm_o hM) (Or.inr ⟨_, rfl⟩) (by exact lm_r714 hM) dX11_areNodesAlike_7 ?_
      refine a_iload_n K dX11_areNodesAlike_10 rfl ?_
      refine a_iald K (by exact lm_kk hM (by decide) (by decide)) (by show vp_in _ (sN S (m 4)); exact lm_ix (z := 12000) hM (by decide) (by decide) (show ρ b.1 < 12000 by omega) (by decide)) dX11_areNodesAlike_11 ?_
      rw [nI_clamp (by omega)]
      rw [show sA S (m 4) (ρ b.1) = 0 from rb.own.2.1]
      refine a_icmp_ne K dX11_areNodesAlike_12 (tgt := 30) (by decide) (fun c_12 => absurd c_12 (fun z => z rfl)) (fun c_12 => ?_)
      first | refine a_aload_n K dX11_areNodesAlike_15 rfl ?_ | refine a_aload_nN K dX11_areNodesAlike_15 rfl ?_
      refine a_getRs K fd_X11_26 (by exact lm_o hM) (Or.inr ⟨_, rfl⟩) (by exact lm_r715 hM) dX11_areNodesAlike_16 ?_
      refine a_iload_n K dX11_areNodesAlike_19 rfl ?_
      refine a_iald K (by exact lm_kk hM (by decide) (by decide)) (by show vp_in _ (sN S (m 5)); exact lm_ix (z := 12000) hM (by decide) (by decide) (show ρ a.1 < 12000 by omega) (by decide)) dX11_areNodesAlike_20 ?_
      rw [nI_clamp (by omega)]
      rw [show sA S (m 5) (ρ a.1) = nI a.2.2.length from ra.own.2.2.1]
      first | refine a_aload_n K dX11_areNodesAlike_21 rfl ?_ | refine a_aload_nN K dX11_areNodesAlike_21 rfl ?_
      refine a_getRs K fd_X11_26 (by exact lm_o hM) (Or.inr ⟨_, rfl⟩) (by exact lm_r715 hM) dX11_areNodesAlike_22 ?_
      refine a_iload_n K dX11_areNodesAlike_25 rfl ?_
      refine a_iald K (by exact lm_kk hM (by decide) (by decide)) (by show vp_in _ (sN S (m 5)); exact lm_ix (z := 12000) hM (by decide) (by decide) (show ρ b.1 < 12000 by omega) (by decide)) dX11_areNodesAlike_26 ?_
      rw [nI_clamp (by omega)]
      rw [show sA S (m 5) (ρ b.1) = nI b.2.2.length from rb.own.2.2.1]
      refine a_icmp_eq K dX11_areNodesAlike_27 (tgt := 32) (by decide) (fun c_27 => ?_) (fun c_27 => absurd c_27 (fun z => z (by rw [show a.2.2.length = b.2.2.length from hlen])))
      refine a_iconst K dX11_areNodesAlike_32 (v := 1) (by decide) ?_
      refine a_istore_n K dX11_areNodesAlike_33 (by decide) ?_
      refine a_iconst K dX11_areNodesAlike_34 (v := 0) (by decide) ?_
      refine a_istore K dX11_areNodesAlike_35 (by decide) ?_
      exact aw_locl rfl (loop (kds a).length 0 _ nI_0.symm (Nat.zero_add _) (by rw [List.drop_zero, List.drop_zero]; exact Iff.rfl))
theorem alk_w {w : Int32} (h : 0 ≤ w.toInt ∧ w.toInt ≤ 1) : w = 0 ∨ w = 1 := by
  obtain ⟨k, hk, rfl⟩ := i32_in (n := 2) (by decide) ⟨h.1, by omega⟩
  match k, hk with
  | 0, _ => exact Or.inl rfl
  | 1, _ => exact Or.inr rfl
set_option maxHeartbeats 4000000 in
set_option maxRecDepth 100000 in
theorem q_alike {S : aw_S} {m ρ : Nat → Nat} {Z : List Nat × Nat} {mb n9 : Nat} {P : PS} (h0 : RM S m ρ Z mb P) (hJ : PJ n9 P) {i ww w : Int32} : aw_M yX11_alike cX11_alike 4 (some FieldType.int) 10 0 0 [.ref (m 33), .int i, .int ww, .int w] S (fun r S2 => r = some (.int (aAlike P i ww w)) ∧ RM S2 m ρ Z mb P ∧ frS S S2 (mQ m)) := by
  have hP := hJ.1
  have hw3 := hP.1.1
  have hM := h0.1
  have hl9 := hJ.ln
  refine aw_enter (by decide +kernel) (Nat.le_of_ble_eq_true rfl) (fun g K EE => ?_)
  cases hz : rootP P i with
  | none =>
    have hE : aAlike P i ww w = -1 := by
      unfold aAlike
      rw [hz]
      by_cases c : w < 0 ∨ 1 < w
      · exact if_pos c
      · rw [if_neg c]
        try rfl
        try (cases rootP P ww <;> rfl)
    first | refine a_aload_n K dX11_alike_0 rfl ?_ | refine a_aload_nN K dX11_alike_0 rfl ?_
    refine a_iconst K dX11_alike_1 (v := 0) (by decide) ?_
    refine a_putI K fd_X11_116 (by exact lm_o hM) rfl dX11_alike_2 ?_
    have f0 : frM S (wI S 704 (m 33) 0) m [] [704] := frM_wI (by decide) (by decide)
    obtain ⟨T, hT⟩ : ∃ T, T = wI S 704 (m 33) 0 := ⟨_, rfl⟩
    rw [← hT] at f0 ⊢
    obtain ⟨h, q0⟩ := h0.scr hP f0 (by decide) (by decide)
    have hM := h.1
    first | refine a_aload_n K dX11_alike_5 rfl ?_ | refine a_aload_nN K dX11_alike_5 rfl ?_
    refine a_iload_n K dX11_alike_6 rfl ?_
    refine a_invV K (q_mapN h hl9 hz) my_X11_isMap ml_X11_309 im_X11_isMap se_X11_isMap (ci := 11) (by exact lm_o hM) (by decide) ⟨_, _, rfl⟩ rfl (by omega) (by omega) (by omega) rfl (Nat.le_of_ble_eq_true rfl) dX11_alike_7 ?_
    intro r9 S9 hp9
    obtain ⟨rfl, hS9⟩ := hp9
    obtain rfl := hS9.symm
    refine a_if_eq K dX11_alike_10 (tgt := 31) (by decide) (fun c_10 => ?_) (fun c_10 => absurd c_10 (fun z => z rfl))
    refine a_iconst K dX11_alike_31 (v := -1) (by decide) ?_
    exact a_iret K EE rfl (by omega) (by omega) dX11_alike_32 ⟨by rw [hE], h, q0⟩
  | some z =>
    obtain ⟨j, hij, hj, -⟩ := h0.root hz
    subst hij
    have tz := hP.tz (rootP_live hz)
    have h4z := tz.h4 hw3
    have e60z := tz.2.2.1
    cases hy : rootP P ww with
    | none =>
      have hE : aAlike P (nI j) ww w = -1 := by
        unfold aAlike
        rw [hz, hy]
        by_cases c : w < 0 ∨ 1 < w
        · exact if_pos c
        · rw [if_neg c]
          try rfl
      first | refine a_aload_n K dX11_alike_0 rfl ?_ | refine a_aload_nN K dX11_alike_0 rfl ?_
      refine a_iconst K dX11_alike_1 (v := 0) (by decide) ?_
      refine a_putI K fd_X11_116 (by exact lm_o hM) rfl dX11_alike_2 ?_
      have f0 : frM S (wI S 704 (m 33) 0) m [] [704] := frM_wI (by decide) (by decide)
      obtain ⟨T, hT⟩ : ∃ T, T = wI S 704 (m 33) 0 := ⟨_, rfl⟩
      rw [← hT] at f0 ⊢
      obtain ⟨h, q0⟩ := h0.scr hP f0 (by decide) (by decide)
      have hM := h.1
      first | refine a_aload_n K dX11_alike_5 rfl ?_ | refine a_aload_nN K dX11_alike_5 rfl ?_
      refine a_iload_n K dX11_alike_6 rfl ?_
      refine a_invV K (q_mapY h hl9 hz) my_X11_isMap ml_X11_309 im_X11_isMap se_X11_isMap (ci := 11) (by exact lm_o hM) (by decide) ⟨_, _, rfl⟩ rfl (by omega) (by omega) (by omega) rfl (Nat.le_of_ble_eq_true rfl) dX11_alike_7 ?_
      intro r9 S9 hp9
      obtain ⟨rfl, hS9⟩ := hp9
      obtain rfl := hS9.symm
      refine a_if_eq K dX11_alike_10 (tgt := 31) (by decide) (fun c_10 => absurd c_10 (by decide)) (fun c_10 => ?_)
      first | refine a_aload_n K dX11_alike_13 rfl ?_ | refine a_aload_nN K dX11_alike_13 rfl ?_
      refine a_iload_n K dX11_alike_14 rfl ?_
      refine a_invV K (q_mapN h hl9 hy) my_X11_isMap ml_X11_309 im_X11_isMap se_X11_isMap (ci := 11) (by exact lm_o hM) (by decide) ⟨_, _, rfl⟩ rfl (by omega) (by omega) (by omega) rfl (Nat.le_of_ble_eq_true rfl) dX11_alike_15 ?_
      intro r9 S9 hp9
      obtain ⟨rfl, hS9⟩ := hp9
      obtain rfl := hS9.symm
      refine a_if_eq K dX11_alike_18 (tgt := 31) (by decide) (fun c_18 => ?_) (fun c_18 => absurd c_18 (fun z => z rfl))
      refine a_iconst K dX11_alike_31 (v := -1) (by decide) ?_
      exact a_iret K EE rfl (by omega) (by omega) dX11_alike_32 ⟨by rw [hE], h, q0⟩
    | some y =>
      obtain ⟨k, hik, hk, -⟩ := h0.root hy
      subst hik
      have ty := hP.tz (rootP_live hy)
      have h4y := ty.h4 hw3
      have e60y := ty.2.2.1
      by_cases hw : ¬ (0 ≤ w.toInt ∧ w.toInt ≤ 1)
      · have hE : aAlike P (nI j) (nI k) w = -1 := by
          unfold aAlike
          refine if_pos (Classical.byContradiction (fun q => hw ⟨Int.not_lt.mp (fun p => q (Or.inl (i32_lt.mpr (by rw [show (0 : Int32).toInt = 0 from by decide]; exact p)))), Int.not_lt.mp (fun p => q (Or.inr (i32_lt.mpr (by rw [show (1 : Int32).toInt = 1 from by decide]; exact p))))⟩))
        first | refine a_aload_n K dX11_alike_0 rfl ?_ | refine a_aload_nN K dX11_alike_0 rfl ?_
        refine a_iconst K dX11_alike_1 (v := 0) (by decide) ?_
        refine a_putI K fd_X11_116 (by exact lm_o hM) rfl dX11_alike_2 ?_
        have f0 : frM S (wI S 704 (m 33) 0) m [] [704] := frM_wI (by decide) (by decide)
        obtain ⟨T, hT⟩ : ∃ T, T = wI S 704 (m 33) 0 := ⟨_, rfl⟩
        rw [← hT] at f0 ⊢
        obtain ⟨h, q0⟩ := h0.scr hP f0 (by decide) (by decide)
        have hM := h.1
        first | refine a_aload_n K dX11_alike_5 rfl ?_ | refine a_aload_nN K dX11_alike_5 rfl ?_
        refine a_iload_n K dX11_alike_6 rfl ?_
        refine a_invV K (q_mapY h hl9 hz) my_X11_isMap ml_X11_309 im_X11_isMap se_X11_isMap (ci := 11) (by exact lm_o hM) (by decide) ⟨_, _, rfl⟩ rfl (by omega) (by omega) (by omega) rfl (Nat.le_of_ble_eq_true rfl) dX11_alike_7 ?_
        intro r9 S9 hp9
        obtain ⟨rfl, hS9⟩ := hp9
        obtain rfl := hS9.symm
        refine a_if_eq K dX11_alike_10 (tgt := 31) (by decide) (fun c_10 => absurd c_10 (by decide)) (fun c_10 => ?_)
        first | refine a_aload_n K dX11_alike_13 rfl ?_ | refine a_aload_nN K dX11_alike_13 rfl ?_
        refine a_iload_n K dX11_alike_14 rfl ?_
        refine a_invV K (q_mapY h hl9 hy) my_X11_isMap ml_X11_309 im_X11_isMap se_X11_isMap (ci := 11) (by exact lm_o hM) (by decide) ⟨_, _, rfl⟩ rfl (by omega) (by omega) (by omega) rfl (Nat.le_of_ble_eq_true rfl) dX11_alike_15 ?_
        intro r9 S9 hp9
        obtain ⟨rfl, hS9⟩ := hp9
        obtain rfl := hS9.symm
        refine a_if_eq K dX11_alike_18 (tgt := 31) (by decide) (fun c_18 => absurd c_18 (by decide)) (fun c_18 => ?_)
        refine a_iload_n K dX11_alike_21 rfl ?_
        refine a_i2l K dX11_alike_22 ?_
        refine a_lconst K dX11_alike_23 (v := 0) (by decide) ?_
        refine a_lconst K dX11_alike_24 (v := 1) (by decide) ?_
        refine a_invS K (q_inN (p := 0) (q := 1) (by decide) (by decide) hw) my_X11_isIn ml_X11_174 st_X11_isIn rfl (by omega) (by omega) (by omega) rfl (Nat.le_of_ble_eq_true rfl) dX11_alike_25 ?_
        intro r9 S9 hp9
        obtain ⟨rfl, hS9⟩ := hp9
        obtain rfl := hS9.symm
        refine a_if_ne K dX11_alike_28 (tgt := 33) (by decide) (fun c_28 => absurd c_28 (fun z => z rfl)) (fun c_28 => ?_)
        refine a_iconst K dX11_alike_31 (v := -1) (by decide) ?_
        exact a_iret K EE rfl (by omega) (by omega) dX11_alike_32 ⟨by rw [hE], h, q0⟩
      rcases alk_w (Classical.not_not.mp hw) with rfl | rfl
      · have hE : aAlike P (nI j) (nI k) 0 = if ent z.1 z.2 = ent y.1 y.2 then 1 else 0 := by
          unfold aAlike
          rw [if_neg (by decide), hz, hy]
          try rfl
        first | refine a_aload_n K dX11_alike_0 rfl ?_ | refine a_aload_nN K dX11_alike_0 rfl ?_
        refine a_iconst K dX11_alike_1 (v := 0) (by decide) ?_
        refine a_putI K fd_X11_116 (by exact lm_o hM) rfl dX11_alike_2 ?_
        have f0 : frM S (wI S 704 (m 33) 0) m [] [704] := frM_wI (by decide) (by decide)
        obtain ⟨T, hT⟩ : ∃ T, T = wI S 704 (m 33) 0 := ⟨_, rfl⟩
        rw [← hT] at f0 ⊢
        obtain ⟨h, q0⟩ := h0.scr hP f0 (by decide) (by decide)
        have hM := h.1
        first | refine a_aload_n K dX11_alike_5 rfl ?_ | refine a_aload_nN K dX11_alike_5 rfl ?_
        refine a_iload_n K dX11_alike_6 rfl ?_
        refine a_invV K (q_mapY h hl9 hz) my_X11_isMap ml_X11_309 im_X11_isMap se_X11_isMap (ci := 11) (by exact lm_o hM) (by decide) ⟨_, _, rfl⟩ rfl (by omega) (by omega) (by omega) rfl (Nat.le_of_ble_eq_true rfl) dX11_alike_7 ?_
        intro r9 S9 hp9
        obtain ⟨rfl, hS9⟩ := hp9
        obtain rfl := hS9.symm
        refine a_if_eq K dX11_alike_10 (tgt := 31) (by decide) (fun c_10 => absurd c_10 (by decide)) (fun c_10 => ?_)
        first | refine a_aload_n K dX11_alike_13 rfl ?_ | refine a_aload_nN K dX11_alike_13 rfl ?_
        refine a_iload_n K dX11_alike_14 rfl ?_
        refine a_invV K (q_mapY h hl9 hy) my_X11_isMap ml_X11_309 im_X11_isMap se_X11_isMap (ci := 11) (by exact lm_o hM) (by decide) ⟨_, _, rfl⟩ rfl (by omega) (by omega) (by omega) rfl (Nat.le_of_ble_eq_true rfl) dX11_alike_15 ?_
        intro r9 S9 hp9
        obtain ⟨rfl, hS9⟩ := hp9
        obtain rfl := hS9.symm
        refine a_if_eq K dX11_alike_18 (tgt := 31) (by decide) (fun c_18 => absurd c_18 (by decide)) (fun c_18 => ?_)
        refine a_iload_n K dX11_alike_21 rfl ?_
        refine a_i2l K dX11_alike_22 ?_
        refine a_lconst K dX11_alike_23 (v := 0) (by decide) ?_
        refine a_lconst K dX11_alike_24 (v := 1) (by decide) ?_
        refine a_invS K (q_inY (p := 0) (q := 1) (by decide) (by decide) (by decide)) my_X11_isIn ml_X11_174 st_X11_isIn rfl (by omega) (by omega) (by omega) rfl (Nat.le_of_ble_eq_true rfl) dX11_alike_25 ?_
        intro r9 S9 hp9
        obtain ⟨rfl, hS9⟩ := hp9
        obtain rfl := hS9.symm
        refine a_if_ne K dX11_alike_28 (tgt := 33) (by decide) (fun c_28 => ?_) (fun c_28 => absurd c_28 (by decide))
        refine a_iload_n K dX11_alike_33 rfl ?_
        refine a_if_ne K dX11_alike_34 (tgt := 49) (by decide) (fun c_34 => absurd c_34 (fun z => z rfl)) (fun c_34 => ?_)
        first | refine a_aload_n K dX11_alike_37 rfl ?_ | refine a_aload_nN K dX11_alike_37 rfl ?_
        refine a_iload_n K dX11_alike_38 rfl ?_
        refine a_iload_n K dX11_alike_39 rfl ?_
        refine a_invV K (q_holdSame h hP (by omega) (by omega) hz hy) my_X11_holdSame ml_X11_453 im_X11_holdSame se_X11_holdSame (ci := 11) (by exact lm_o hM) (by decide) ⟨_, _, rfl⟩ rfl (by omega) (by omega) (by omega) rfl (Nat.le_of_ble_eq_true rfl) dX11_alike_40 ?_
        intro r9 S9 hp9
        obtain ⟨hb9, h9, q9⟩ := hp9
        have hM := h9.1
        rcases hb9 with ⟨b_40, rfl⟩ | ⟨b_40, rfl⟩
        · refine a_if_eq K dX11_alike_43 (tgt := 72) (by decide) (fun z => absurd z (by decide)) (fun _ => ?_)
          refine a_goto K dX11_alike_46 (tgt := 68) (by decide) ?_
          refine a_iconst K dX11_alike_68 (v := 1) (by decide) ?_
          refine a_goto K dX11_alike_69 (tgt := 73) (by decide) ?_
          exact a_iret K EE rfl (by omega) (by omega) dX11_alike_73 ⟨by first | rw [hE, if_pos b_40] | rw [hE, if_neg b_40], h9, mQ_tr q0 q9⟩
        · refine a_if_eq K dX11_alike_43 (tgt := 72) (by decide) (fun _ => ?_) (fun z => absurd z (by decide))
          refine a_iconst K dX11_alike_72 (v := 0) (by decide) ?_
          exact a_iret K EE rfl (by omega) (by omega) dX11_alike_73 ⟨by first | rw [hE, if_pos b_40] | rw [hE, if_neg b_40], h9, mQ_tr q0 q9⟩
      · have hE : aAlike P (nI j) (nI k) 1 = if txt z.1 z.2 = txt y.1 y.2 then 1 else 0 := by
          unfold aAlike
          rw [if_neg (by decide), hz, hy]
          try rfl
        have hTA := txt_alk tz.2.1 ty.2.1
        first | refine a_aload_n K dX11_alike_0 rfl ?_ | refine a_aload_nN K dX11_alike_0 rfl ?_
        refine a_iconst K dX11_alike_1 (v := 0) (by decide) ?_
        refine a_putI K fd_X11_116 (by exact lm_o hM) rfl dX11_alike_2 ?_
        have f0 : frM S (wI S 704 (m 33) 0) m [] [704] := frM_wI (by decide) (by decide)
        obtain ⟨T, hT⟩ : ∃ T, T = wI S 704 (m 33) 0 := ⟨_, rfl⟩
        rw [← hT] at f0 ⊢
        obtain ⟨h, q0⟩ := h0.scr hP f0 (by decide) (by decide)
        have hM := h.1
        first | refine a_aload_n K dX11_alike_5 rfl ?_ | refine a_aload_nN K dX11_alike_5 rfl ?_
        refine a_iload_n K dX11_alike_6 rfl ?_
        refine a_invV K (q_mapY h hl9 hz) my_X11_isMap ml_X11_309 im_X11_isMap se_X11_isMap (ci := 11) (by exact lm_o hM) (by decide) ⟨_, _, rfl⟩ rfl (by omega) (by omega) (by omega) rfl (Nat.le_of_ble_eq_true rfl) dX11_alike_7 ?_
        intro r9 S9 hp9
        obtain ⟨rfl, hS9⟩ := hp9
        obtain rfl := hS9.symm
        refine a_if_eq K dX11_alike_10 (tgt := 31) (by decide) (fun c_10 => absurd c_10 (by decide)) (fun c_10 => ?_)
        first | refine a_aload_n K dX11_alike_13 rfl ?_ | refine a_aload_nN K dX11_alike_13 rfl ?_
        refine a_iload_n K dX11_alike_14 rfl ?_
        refine a_invV K (q_mapY h hl9 hy) my_X11_isMap ml_X11_309 im_X11_isMap se_X11_isMap (ci := 11) (by exact lm_o hM) (by decide) ⟨_, _, rfl⟩ rfl (by omega) (by omega) (by omega) rfl (Nat.le_of_ble_eq_true rfl) dX11_alike_15 ?_
        intro r9 S9 hp9
        obtain ⟨rfl, hS9⟩ := hp9
        obtain rfl := hS9.symm
        refine a_if_eq K dX11_alike_18 (tgt := 31) (by decide) (fun c_18 => absurd c_18 (by decide)) (fun c_18 => ?_)
        refine a_iload_n K dX11_alike_21 rfl ?_
        refine a_i2l K dX11_alike_22 ?_
        refine a_lconst K dX11_alike_23 (v := 0) (by decide) ?_
        refine a_lconst K dX11_alike_24 (v := 1) (by decide) ?_
        refine a_invS K (q_inY (p := 0) (q := 1) (by decide) (by decide) (by decide)) my_X11_isIn ml_X11_174 st_X11_isIn rfl (by omega) (by omega) (by omega) rfl (Nat.le_of_ble_eq_true rfl) dX11_alike_25 ?_
        intro r9 S9 hp9
        obtain ⟨rfl, hS9⟩ := hp9
        obtain rfl := hS9.symm
        refine a_if_ne K dX11_alike_28 (tgt := 33) (by decide) (fun c_28 => ?_) (fun c_28 => absurd c_28 (by decide))
        refine a_iload_n K dX11_alike_33 rfl ?_
        refine a_if_ne K dX11_alike_34 (tgt := 49) (by decide) (fun c_34 => ?_) (fun c_34 => absurd c_34 (by decide))
        first | refine a_aload_n K dX11_alike_49 rfl ?_ | refine a_aload_nN K dX11_alike_49 rfl ?_
        first | refine a_aload_n K dX11_alike_50 rfl ?_ | refine a_aload_nN K dX11_alike_50 rfl ?_
        refine a_getRs K fd_X11_67 (by exact lm_o hM) (Or.inr ⟨_, rfl⟩) (by exact lm_r736 hM) dX11_alike_51 ?_
        refine a_iload_n K dX11_alike_54 rfl ?_
        refine a_iald K (by exact lm_kk hM (by decide) (by decide)) (by show vp_in _ (sN T (m 17)); exact lm_ix (z := 999) hM (by decide) (by decide) (show j < 999 by omega) (by decide)) dX11_alike_55 ?_
        rw [nI_clamp (by omega)]
        rw [h.root2 hz (by omega)]
        first | refine a_aload_n K dX11_alike_56 rfl ?_ | refine a_aload_nN K dX11_alike_56 rfl ?_
        refine a_getRs K fd_X11_67 (by exact lm_o hM) (Or.inr ⟨_, rfl⟩) (by exact lm_r736 hM) dX11_alike_57 ?_
        refine a_iload_n K dX11_alike_60 rfl ?_
        refine a_iald K (by exact lm_kk hM (by decide) (by decide)) (by show vp_in _ (sN T (m 17)); exact lm_ix (z := 999) hM (by decide) (by decide) (show k < 999 by omega) (by decide)) dX11_alike_61 ?_
        rw [nI_clamp (by omega)]
        rw [h.root2 hy (by omega)]
        refine a_invV K (q_nal hM z.1 z.2 y.1 y.2 (h.rep (rootP_live hz)) (h.rep (rootP_live hy))) my_X11_areNodesAlike ml_X11_450 im_X11_areNodesAlike se_X11_areNodesAlike (ci := 11) (by exact lm_o hM) (by decide) ⟨_, _, rfl⟩ rfl (by omega) (by omega) (by omega) rfl (Nat.le_of_ble_eq_true rfl) dX11_alike_62 ?_
        intro r9 S9 hp9
        obtain ⟨hb9, hS9⟩ := hp9
        obtain rfl := hS9.symm
        rcases hb9 with ⟨b_62, rfl⟩ | ⟨b_62, rfl⟩
        · refine a_if_eq K dX11_alike_65 (tgt := 72) (by decide) (fun z => absurd z (by decide)) (fun _ => ?_)
          refine a_iconst K dX11_alike_68 (v := 1) (by decide) ?_
          refine a_goto K dX11_alike_69 (tgt := 73) (by decide) ?_
          exact a_iret K EE rfl (by omega) (by omega) dX11_alike_73 ⟨by first | rw [hE, if_pos (hTA.mpr b_62)] | rw [hE, if_neg (fun q => b_62 (hTA.mp q))], h, q0⟩
        · refine a_if_eq K dX11_alike_65 (tgt := 72) (by decide) (fun _ => ?_) (fun z => absurd z (by decide))
          refine a_iconst K dX11_alike_72 (v := 0) (by decide) ?_
          exact a_iret K EE rfl (by omega) (by omega) dX11_alike_73 ⟨by first | rw [hE, if_pos (hTA.mpr b_62)] | rw [hE, if_neg (fun q => b_62 (hTA.mp q))], h, q0⟩
