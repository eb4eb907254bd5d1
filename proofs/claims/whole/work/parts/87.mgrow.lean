/-! the model: what a node holds as a raw row; rows that are used; growth -/
def rawM (ρ : Nat → Nat) : (h : Nat) → List (Ct h) → List KV → Prop
  | 0, L, l => l = (show List KV from L)
  | h + 1, L, l => l.map Prod.fst = (show List (Tr h) from L).map (fun c => nI (ρ c.1))
theorem rawM_len {ρ : Nat → Nat} {h : Nat} {L : List (Ct h)} {l : List KV} (r : rawM ρ h L l) : l.length = L.length := by
  cases h with
  | zero => exact congrArg List.length (show l = (show List KV from L) from r)
  | succ h =>
    have e := congrArg List.length (show l.map Prod.fst = (show List (Tr h) from L).map (fun c => nI (ρ c.1)) from r)
    rw [List.length_map, List.length_map] at e
    exact e
theorem NdM.raw {S : aw_S} {m ρ : Nat → Nat} {h : Nat} {t : Tr h} (n : NdM S m ρ h t) : ∃ l, RwM S m (ρ t.1) l ∧ rawM ρ h t.2.2 l := by
  obtain ⟨n1, n2, n3, n4, n5, n6⟩ := n
  cases h with
  | zero => exact ⟨ets t, ⟨n3, fun k x hx => Prod.ext (n6 k x hx).1 (n6 k x hx).2⟩, rfl⟩
  | succ h =>
    have hl : ((List.range t.2.2.length).map (fun k => eM S m (ρ t.1) k)).length = t.2.2.length := by rw [List.length_map, List.length_range]
    refine ⟨(List.range t.2.2.length).map (fun k => eM S m (ρ t.1) k), ⟨by rw [hl]; exact n3, fun k x hx => ?_⟩, ?_⟩
    · rw [List.getElem?_map] at hx
      have hk : k < t.2.2.length := by
        refine Classical.byContradiction (fun z => ?_)
        rw [List.getElem?_eq_none_iff.mpr (by rw [List.length_range]; omega)] at hx
        exact absurd hx (by simp)
      rw [List.getElem?_range hk] at hx
      exact Option.some.inj hx
    · show ((List.range t.2.2.length).map (fun k => eM S m (ρ t.1) k)).map Prod.fst = (kds t).map (fun c => nI (ρ c.1))
      refine List.ext_getElem? (fun k => ?_)
      rw [List.map_map, List.getElem?_map, List.getElem?_map]
      by_cases hk : k < (kds t).length
      · have hc := List.getElem?_eq_getElem hk
        rw [List.getElem?_range (show k < t.2.2.length from hk), hc]
        exact congrArg some (n6 k _ hc)
      · rw [List.getElem?_eq_none_iff.mpr (by rw [List.length_range]; exact Nat.not_lt.mp hk), List.getElem?_eq_none_iff.mpr (Nat.not_lt.mp hk)]
        rfl
theorem NdM_of {S : aw_S} {m ρ : Nat → Nat} {h : Nat} {t : Tr h} {l : List KV} (h1 : ρ t.1 < 12000) (h2 : gL S m (ρ t.1) = (if h = 0 then 1 else 0)) (h3 : gT S m (ρ t.1) = nI (t.2.1 + 1)) (r : RwM S m (ρ t.1) l) (w : rawM ρ h t.2.2 l) (h7 : t.2.2.length ≤ 7) : NdM S m ρ h t := by
  refine ⟨h1, h2, by rw [r.1, rawM_len w], h3, h7, ?_⟩
  cases h with
  | zero =>
      intro k x hx
      have w : l = ets t := w
      have e := r.2 k x (by rw [w]; exact hx)
      exact ⟨congrArg Prod.fst e, congrArg Prod.snd e⟩
  | succ h =>
      intro k c hc
      have w : l.map Prod.fst = (kds t).map (fun c => nI (ρ c.1)) := w
      have e := congrArg (fun q : List Int32 => q[k]?) w
      have e : (l.map Prod.fst)[k]? = ((kds t).map (fun c => nI (ρ c.1)))[k]? := e
      rw [List.getElem?_map, List.getElem?_map, show (kds t)[k]? = some c from hc] at e
      cases hx : l[k]? with
      | none => rw [hx] at e; exact absurd e (by simp)
      | some x =>
        rw [hx] at e
        have e2 := r.2 k x hx
        exact (congrArg Prod.fst e2).trans (Option.some.inj e)
/-- rows that aren't free -/
def US (Z : List Nat × Nat) (q : Nat) : Prop := q < Z.2 ∧ q ∉ Z.1
def rmM (Z : List Nat × Nat) : Nat := Z.1.length + (12000 - Z.2)
/-- rows outside R stay -/
def RoF (S S2 : aw_S) (m : Nat → Nat) (R : Nat → Prop) : Prop := ∀ q, q < 12000 → ¬ R q → gL S2 m q = gL S m q ∧ gN S2 m q = gN S m q ∧ gT S2 m q = gT S m q ∧ ∀ k, k < 7 → eM S2 m q k = eM S m q k
abbrev ksG : List Nat := [4, 5, 6, 9, 10, 11, 12]
abbrev fsG : List Nat := [721, 722, 724, 729]
/-- nodes' rows R, the way's rows, what is free and made: nothing else is written -/
def frG (S S2 : aw_S) (m : Nat → Nat) (R : Nat → Prop) : Prop := frM S S2 m ksG fsG ∧ RoF S S2 m R
theorem frR.g {S S2 : aw_S} {m : Nat → Nat} {R R2 : Nat → Prop} {Fs : List Nat} (h : frR S S2 m R Fs) (h1 : ∀ q, R q → R2 q) (h2 : ∀ F ∈ Fs, F ∈ fsG) : frG S S2 m R2 := ⟨h.1.up (by decide) h2, fun q hq hR => h.2 q hq (fun z => hR (h1 q z))⟩
/-- the way stays -/
def wyS (S S2 : aw_S) (m : Nat → Nat) : Prop := sA S2 (m 11) = sA S (m 11) ∧ sA S2 (m 12) = sA S (m 12) ∧ sI S2 729 (m 33) = sI S 729 (m 33)
theorem wyS.tr {S S2 S3 : aw_S} {m : Nat → Nat} (h : wyS S S2 m) (k : wyS S2 S3 m) : wyS S S3 m := ⟨k.1.trans h.1, k.2.1.trans h.2.1, k.2.2.trans h.2.2⟩
theorem frR.wy {S S2 : aw_S} {m : Nat → Nat} {R : Nat → Prop} {Fs : List Nat} (h : frR S S2 m R Fs) (hM : LM S m) (h9 : 729 ∉ Fs) : wyS S S2 m := ⟨h.1.A hM (by decide) (by decide) (by decide), h.1.A hM (by decide) (by decide) (by decide), h.1.2 729 h9⟩
theorem RepM_g {S S2 : aw_S} {m ρ ρ2 : Nat → Nat} {R : Nat → Prop} (f : RoF S S2 m R) : ∀ (h : Nat) (t : Tr h), RepM S m ρ h t → (∀ x ∈ ndl h t, ¬ R (ρ x.1) ∧ ρ2 x.1 = ρ x.1) → RepM S2 m ρ2 h t := by
  have own : ∀ (h : Nat) (t : Tr h), NdM S m ρ h t → (∀ x ∈ ndl h t, ¬ R (ρ x.1) ∧ ρ2 x.1 = ρ x.1) → NdM S2 m ρ2 h t := fun h t n hx => by
    obtain ⟨l, r, w⟩ := n.raw
    obtain ⟨n1, n2, n3, n4, n5, n6⟩ := n
    have h0 := hx (t.1, t.2.1) (by rw [ndl_L]; exact List.mem_cons_self)
    obtain ⟨a1, a2, a3, a4⟩ := f _ n1 h0.1
    have e : ρ2 t.1 = ρ t.1 := h0.2
    have w2 : rawM ρ2 h t.2.2 l := by
      cases h with
      | zero => exact w
      | succ h =>
        show l.map Prod.fst = (kds t).map (fun c => nI (ρ2 c.1))
        refine (show l.map Prod.fst = (kds t).map (fun c => nI (ρ c.1)) from w).trans (List.map_congr_left (fun c hc => ?_))
        rw [(hx (c.1, c.2.1) (List.mem_cons_of_mem _ (List.mem_flatMap.mpr ⟨c, hc, by rw [ndl_L]; exact List.mem_cons_self⟩))).2]
    have hl7 := rawM_len w
    refine NdM_of (by rw [e]; exact n1) (by rw [e, a1]; exact n2) (by rw [e, a3]; exact n4) ⟨by rw [e, a2]; exact r.1, fun k x hk => by
      have h9 := (List.getElem?_eq_some_iff.mp hk).1
      rw [e, a4 k (by omega)]
      exact r.2 k x hk⟩ w2 n5
  intro h
  induction h with
  | zero => exact fun t r hx => own 0 t r hx
  | succ h ih => exact fun t r hx => ⟨own _ t r.1 hx, fun c hc => ih c (r.2 c hc) (fun x hx2 => hx x (List.mem_cons_of_mem _ (List.mem_flatMap.mpr ⟨c, hc, hx2⟩)))⟩
/-- the model's nodes grow by a token: L whose rows may change where the token is theirs -/
def GM (S S2 : aw_S) (m ρ ρ2 : Nat → Nat) (u u2 : Nat) (Z Z2 : List Nat × Nat) (tk : Nat) (L : List (Nat × Nat)) : Prop := u ≤ u2 ∧ (∀ i, i < u → ρ2 i = ρ i) ∧ FrM S2 m Z2.1 Z2.2 ∧ Z2.1.Nodup ∧ rmM Z2 + (u2 - u) = rmM Z ∧ (∀ q, US Z q → US Z2 q) ∧ (∀ i, u ≤ i → i < u2 → ¬ US Z (ρ2 i) ∧ US Z2 (ρ2 i) ∧ ρ2 i < 12000) ∧ (∀ i j, u ≤ i → i < u2 → u ≤ j → j < u2 → ρ2 i = ρ2 j → i = j) ∧ sI S2 724 (m 33) = sI S 724 (m 33) + nI (u2 - u) ∧ frG S S2 m (fun q => (∃ x ∈ L, x.2 = tk ∧ q = ρ x.1) ∨ ¬ US Z q)
theorem GM.rf {S : aw_S} {m ρ : Nat → Nat} {u tk : Nat} {Z : List Nat × Nat} {L : List (Nat × Nat)} (h : FrM S m Z.1 Z.2) (nd : Z.1.Nodup) : GM S S m ρ ρ u u Z Z tk L := ⟨Nat.le_refl _, fun _ _ => rfl, h, nd, by rw [Nat.sub_self, Nat.add_zero], fun _ z => z, fun i h1 h2 => absurd h2 (by omega), fun i j h1 h2 => absurd h2 (by omega), by rw [Nat.sub_self, show nI 0 = 0 from rfl, Int32.add_zero], frR.rf.g (Fs := []) (fun _ (z : False) => z.elim) (by decide)⟩
theorem GM.tr {S S2 S3 : aw_S} {m ρ ρ2 ρ3 : Nat → Nat} {u u2 u3 tk : Nat} {Z Z2 Z3 : List Nat × Nat} {L L2 : List (Nat × Nat)} (h : GM S S2 m ρ ρ2 u u2 Z Z2 tk L) (k : GM S2 S3 m ρ2 ρ3 u2 u3 Z2 Z3 tk L2) (hL : ∀ x ∈ L2, x.2 = tk → x ∈ L ∨ (u ≤ x.1 ∧ x.1 < u2)) (hLu : ∀ x ∈ L, x.1 < u) : GM S S3 m ρ ρ3 u u3 Z Z3 tk L := by
  obtain ⟨a1, a2, a3, a4, a5, a6, a7, a8, a9, a10⟩ := h
  obtain ⟨b1, b2, b3, b4, b5, b6, b7, b8, b9, b10⟩ := k
  refine ⟨Nat.le_trans a1 b1, fun i hi => (b2 i (by omega)).trans (a2 i hi), b3, b4, by omega, fun q z => b6 q (a6 q z), fun i h1 h2 => ?_, fun i j h1 h2 h3 h4 e => ?_, ?_, ?_⟩
  · by_cases hi : i < u2
    · rw [b2 i hi]
      obtain ⟨c1, c2, c3⟩ := a7 i h1 hi
      exact ⟨c1, b6 _ c2, c3⟩
    · obtain ⟨c1, c2, c3⟩ := b7 i (by omega) h2
      exact ⟨fun z => c1 (a6 _ z), c2, c3⟩
  · by_cases hi : i < u2
    · by_cases hj : j < u2
      · rw [b2 i hi, b2 j hj] at e
        exact a8 i j h1 hi h3 hj e
      · rw [b2 i hi] at e
        exact absurd (e ▸ (a7 i h1 hi).2.1) (b7 j (by omega) h4).1
    · by_cases hj : j < u2
      · rw [b2 j hj] at e
        exact absurd (e ▸ (a7 j h3 hj).2.1) (b7 i (by omega) h2).1
      · exact b8 i j (by omega) h2 (by omega) h4 e
  · rw [b9, a9, Int32.add_assoc, nI_add, show u2 - u + (u3 - u2) = u3 - u by omega]
  · refine ⟨a10.1.tr b10.1, fun q hq hR => ?_⟩
    have hu : US Z q := Classical.byContradiction (fun z => hR (Or.inr z))
    obtain ⟨c1, c2, c3, c4⟩ := a10.2 q hq hR
    obtain ⟨d1, d2, d3, d4⟩ := b10.2 q hq (fun z => by
      rcases z with ⟨x, hx, hxk, e⟩ | z
      · rcases hL x hx hxk with hx2 | ⟨h1, h2⟩
        · exact hR (Or.inl ⟨x, hx2, hxk, by rw [e, a2 _ (hLu x hx2)]⟩)
        · exact (a7 x.1 h1 h2).1 (e ▸ hu)
      · exact z (a6 q hu))
    exact ⟨d1.trans c1, d2.trans c2, d3.trans c3, fun k hk => (d4 k hk).trans (c4 k hk)⟩
theorem GM.mono {S S2 : aw_S} {m ρ ρ2 : Nat → Nat} {u u2 tk : Nat} {Z Z2 : List Nat × Nat} {L L2 : List (Nat × Nat)} (h : GM S S2 m ρ ρ2 u u2 Z Z2 tk L) (hL : ∀ x ∈ L, x.2 = tk → x ∈ L2) : GM S S2 m ρ ρ2 u u2 Z Z2 tk L2 := ⟨h.1, h.2.1, h.2.2.1, h.2.2.2.1, h.2.2.2.2.1, h.2.2.2.2.2.1, h.2.2.2.2.2.2.1, h.2.2.2.2.2.2.2.1, h.2.2.2.2.2.2.2.2.1, ⟨h.2.2.2.2.2.2.2.2.2.1, fun q hq hR => h.2.2.2.2.2.2.2.2.2.2 q hq (fun z => hR (z.elim (fun ⟨x, hx, hk, e⟩ => Or.inl ⟨x, hL x hx hk, hk, e⟩) Or.inr))⟩⟩
/-- a tree that nobody writes stays -/
theorem GM.rep {S S2 : aw_S} {m ρ ρ2 : Nat → Nat} {u u2 tk h : Nat} {Z Z2 : List Nat × Nat} {L : List (Nat × Nat)} {t : Tr h} (g : GM S S2 m ρ ρ2 u u2 Z Z2 tk L) (r : RepM S m ρ h t) (hx : ∀ x ∈ ndl h t, x.1 < u ∧ US Z (ρ x.1) ∧ ∀ y ∈ L, y.2 = tk → ρ x.1 ≠ ρ y.1) : RepM S2 m ρ2 h t := RepM_g g.2.2.2.2.2.2.2.2.2.2 h t r (fun x hm => ⟨fun z => z.elim (fun ⟨y, hy, hk, e⟩ => (hx x hm).2.2 y hy hk e) (fun z => z (hx x hm).2.1), g.2.1 _ (hx x hm).1⟩)
/-- what is given next was free, and isn't any more -/
theorem nx_ok {S : aw_S} {m : Nat → Nat} {Z : List Nat × Nat} (h : FrM S m Z.1 Z.2) (nd : Z.1.Nodup) (hr : 1 ≤ rmM Z) : (Z.1.length = 0 → Z.2 < 12000) ∧ nxR Z.1 Z.2 < 12000 ∧ ¬ US Z (nxR Z.1 Z.2) ∧ US (nxF Z.1 Z.2) (nxR Z.1 Z.2) ∧ (nxF Z.1 Z.2).1.Nodup ∧ rmM (nxF Z.1 Z.2) + 1 = rmM Z ∧ ∀ q, US Z q → US (nxF Z.1 Z.2) q := by
  obtain ⟨F, u⟩ := Z
  obtain ⟨h1, h2, h3, h4, h5⟩ := h
  unfold rmM at hr ⊢
  unfold US
  simp only at h1 h2 h3 h4 h5 nd hr ⊢
  by_cases h0 : F.length = 0
  · have e1 : nxR F u = u := by unfold nxR; rw [if_pos h0]
    have e2 : nxF F u = (F, u + 1) := by unfold nxF; rw [if_pos h0]
    have eF : F = [] := List.eq_nil_of_length_eq_zero h0
    rw [e1, e2, eF]
    rw [eF] at hr
    simp only [List.length_nil] at hr ⊢
    exact ⟨fun _ => by omega, by omega, fun z => by omega, ⟨by omega, by simp⟩, List.nodup_nil, by omega, fun q hq => ⟨by omega, hq.2⟩⟩
  · have e2 : nxF F u = (F.dropLast, u) := by unfold nxF; rw [if_neg h0]
    have hx := nxR_s (F := F) (u := u) (by omega)
    have hm := List.mem_of_getElem? hx
    have hlt := (h5 _ _ hx).2
    rw [e2]
    have hsub : ∀ q, q ∈ F.dropLast → q ∈ F := fun q hq => List.dropLast_subset F hq
    refine ⟨fun z => absurd z h0, by omega, fun z => z.2 hm, ⟨hlt, fun z => ?_⟩, nd.sublist (List.dropLast_sublist F), by simp only [List.length_dropLast]; omega, fun q hq => ⟨hq.1, fun z => hq.2 (hsub q z)⟩⟩
    obtain ⟨i, hi⟩ := List.mem_iff_getElem?.mp z
    have hil := (List.getElem?_eq_some_iff.mp hi).1
    rw [List.length_dropLast] at hil
    have hi2 : F[i]? = some (nxR F u) := by
      rw [List.getElem?_dropLast, if_pos (by omega)] at hi
      exact hi
    have := (List.getElem?_inj (by omega) nd).mp (hi2.trans hx.symm)
    omega
theorem FrM.Z {S : aw_S} {m : Nat → Nat} {F : List Nat} {u : Nat} (h : FrM S m F u) : FrM S m (F, u).1 (F, u).2 := h
/-- a node as it may be changed by a token, over trees -/
theorem q_edited {S : aw_S} {m : Nat → Nat} (hM : LM S m) {ρ : Nat → Nat} {u tk h : Nat} {t : Tr h} {Z : List Nat × Nat} (rp : RepM S m ρ h t) (hF : FrM S m Z.1 Z.2) (nd : Z.1.Nodup) (hrm : 1 ≤ rmM Z) (hu : ∀ x ∈ ndl h t, x.1 < u ∧ US Z (ρ x.1)) (htk : tk < 2147483000) (ht9 : t.2.1 < 2147483000) : aw_M yX11_edited cX11_edited 5 (some FieldType.int) 1 0 0 [.ref (m 33), .int (nI (ρ t.1)), .int (nI (tk + 1))] S (fun q S2 => ∃ ρ2 Z2, q = some (.int (nI (ρ2 (edt tk u t).1.1))) ∧ GM S S2 m ρ ρ2 u (edt tk u t).2 Z Z2 tk [] ∧ RepM S2 m ρ2 h (edt tk u t).1 ∧ wyS S S2 m) := by
  have n := rp.own
  have hr := n.1
  have h0 := hu (t.1, t.2.1) (by rw [ndl_L]; exact List.mem_cons_self)
  by_cases e : t.2.1 = tk
  · have e1 : edt tk u t = (t, u) := by unfold edt; rw [if_pos e]
    rw [e1]
    refine (m_edited_s hM (t := nI (tk + 1)) hr (by rw [n.2.2.2.1, e])).post (fun q S2 hp => ?_)
    obtain ⟨hq, rfl⟩ := hp
    exact ⟨ρ, Z, hq, GM.rf hF nd, rp, rfl, rfl, rfl⟩
  · have e1 : edt tk u t = ((u, tk, t.2.2), u + 1) := by unfold edt; rw [if_neg e]
    rw [e1]
    obtain ⟨l, rl, w⟩ := n.raw
    obtain ⟨n1, n2, n3, n4, n5, n6, n7⟩ := nx_ok hF nd hrm
    have hl := rawM_len w
    have hrc : ¬ ρ t.1 = nxR Z.1 Z.2 := fun z => n3 (z ▸ h0.2)
    refine (m_edited_n (F2 := (nxF Z.1 Z.2).1) (u2 := (nxF Z.1 Z.2).2) (t := nI (tk + 1)) hM hF n1 hr rl (by rw [hl]; exact n.2.2.2.2.1) (by rw [n.2.2.2.1]; exact nI_ne (by omega) (by omega) (fun z => e (by omega))) rfl rfl hrc n2).post (fun q S2 hp => ?_)
    obtain ⟨hq, r2, hL2, hT2, hF2, h7, f2⟩ := hp
    have eu : va_up ρ u (nxR Z.1 Z.2) u = nxR Z.1 Z.2 := va_up_self _ _ _
    have en : ∀ i, i < u → va_up ρ u (nxR Z.1 Z.2) i = ρ i := fun i hi => va_up_ne _ _ (by omega)
    have kids : ∀ (h : Nat) (t : Tr h), RepM S m ρ h t → (∀ x ∈ ndl h t, x.1 < u ∧ US Z (ρ x.1)) → RepM S2 m (va_up ρ u (nxR Z.1 Z.2)) h t := fun h t r hx => RepM_g f2.2 h t r (fun x hm => ⟨fun z => n3 (z ▸ (hx x hm).2), en _ (hx x hm).1⟩)
    refine ⟨va_up ρ u (nxR Z.1 Z.2), nxF Z.1 Z.2, by show q = some (Value.int (nI (va_up ρ u (nxR Z.1 Z.2) u))); rw [eu]; exact hq, ⟨Nat.le_succ u, en, hF2, n5, by rw [Nat.add_sub_cancel_left]; exact n6, n7, fun i h1 h2 => ?_, fun i j h1 h2 h3 h4 _ => by omega, by rw [Nat.add_sub_cancel_left]; exact h7, f2.g (fun q z => Or.inr (fun y => n3 (z ▸ y))) (by decide)⟩, ?_, f2.wy hM (by decide)⟩
    · have : i = u := by omega
      rw [this, eu]
      exact ⟨n3, n4, n2⟩
    · have own : NdM S2 m (va_up ρ u (nxR Z.1 Z.2)) h (u, tk, t.2.2) := by
        have w2 : rawM (va_up ρ u (nxR Z.1 Z.2)) h t.2.2 l := by
          cases h with
          | zero => exact w
          | succ h =>
            show l.map Prod.fst = (kds t).map (fun c => nI (va_up ρ u (nxR Z.1 Z.2) c.1))
            refine (show l.map Prod.fst = (kds t).map (fun c => nI (ρ c.1)) from w).trans (List.map_congr_left (fun c hc => ?_))
            rw [en _ (hu (c.1, c.2.1) (List.mem_cons_of_mem _ (List.mem_flatMap.mpr ⟨c, hc, by rw [ndl_L]; exact List.mem_cons_self⟩))).1]
        refine NdM_of (l := l) ?_ ?_ ?_ ?_ w2 n.2.2.2.2.1
        · show va_up ρ u (nxR Z.1 Z.2) u < 12000
          rw [eu]; exact n2
        · show gL S2 m (va_up ρ u (nxR Z.1 Z.2) u) = _
          rw [eu, hL2]; exact n.2.1
        · show gT S2 m (va_up ρ u (nxR Z.1 Z.2) u) = _
          rw [eu, hT2]
        · show RwM S2 m (va_up ρ u (nxR Z.1 Z.2) u) l
          rw [eu]; exact r2
      cases h with
      | zero => exact own
      | succ h => exact ⟨own, fun c hc => kids h c (rp.2 c hc) (fun x hx => hu x (List.mem_cons_of_mem _ (List.mem_flatMap.mpr ⟨c, hc, hx⟩)))⟩
