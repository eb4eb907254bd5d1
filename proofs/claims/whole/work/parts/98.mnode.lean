/-! the model: fresh, putsIn, takesFrom, parted over trees -/
def KdM (S : aw_S) (m ρ : Nat → Nat) : (h : Nat) → List (Ct h) → Prop
  | 0, _ => True
  | h + 1, l => ∀ c : Tr h, c ∈ (show List (Tr h) from l) → RepM S m ρ h c
theorem RepM_of {S : aw_S} {m ρ : Nat → Nat} {h : Nat} {t : Tr h} (n : NdM S m ρ h t) (k : KdM S m ρ h t.2.2) : RepM S m ρ h t := by
  cases h with
  | zero => exact n
  | succ h => exact ⟨n, k⟩
theorem RepM.kd {S : aw_S} {m ρ : Nat → Nat} {h : Nat} {t : Tr h} (r : RepM S m ρ h t) : KdM S m ρ h t.2.2 := by
  cases h with
  | zero => trivial
  | succ h => exact r.2
theorem KdM_g {S S2 : aw_S} {m ρ ρ2 : Nat → Nat} {R : Nat → Prop} {h : Nat} {L : List (Ct h)} (f : RoF S S2 m R) (k : KdM S m ρ h L) (hx : ∀ x ∈ blw h L, ¬ R (ρ x.1) ∧ ρ2 x.1 = ρ x.1) : KdM S2 m ρ2 h L := by
  cases h with
  | zero => trivial
  | succ h => exact fun c hc => RepM_g f h c (k c hc) (fun x hx2 => hx x (List.mem_flatMap.mpr ⟨c, hc, hx2⟩))
theorem KdM_app {S : aw_S} {m ρ : Nat → Nat} {h : Nat} {a b : List (Ct h)} : KdM S m ρ h (a ++ b) ↔ KdM S m ρ h a ∧ KdM S m ρ h b := by
  cases h with
  | zero => exact ⟨fun _ => ⟨trivial, trivial⟩, fun _ => trivial⟩
  | succ h => exact ⟨fun z => ⟨fun c hc => z c (List.mem_append_left _ hc), fun c hc => z c (List.mem_append_right _ hc)⟩, fun z c hc => (List.mem_append.mp hc).elim (z.1 c) (z.2 c)⟩
theorem KdM_td {S : aw_S} {m ρ : Nat → Nat} {h : Nat} {L : List (Ct h)} (k : KdM S m ρ h L) (n : Nat) : KdM S m ρ h (L.take n) ∧ KdM S m ρ h (L.drop n) := KdM_app.mp (by rw [List.take_append_drop]; exact k)
theorem KdM_nil {S : aw_S} {m ρ : Nat → Nat} {h : Nat} : KdM S m ρ h [] := by
  cases h with
  | zero => trivial
  | succ h => exact fun c hc => absurd (show c ∈ ([] : List (Tr h)) from hc) (by simp)
theorem KdM_ins {S : aw_S} {m ρ : Nat → Nat} {h : Nat} {L : List (Ct h)} {x : Ct h} (k : KdM S m ρ h L) (kx : KdM S m ρ h [x]) (n : Nat) : KdM S m ρ h (L.take n ++ x :: L.drop n) := KdM_app.mpr ⟨(KdM_td k n).1, by rw [show x :: L.drop n = [x] ++ L.drop n from rfl]; exact KdM_app.mpr ⟨kx, (KdM_td k n).2⟩⟩
theorem KdM_del {S : aw_S} {m ρ : Nat → Nat} {h : Nat} {L : List (Ct h)} (k : KdM S m ρ h L) (n : Nat) : KdM S m ρ h (L.take n ++ L.drop (n + 1)) := KdM_app.mpr ⟨(KdM_td k n).1, (KdM_td k (n + 1)).2⟩
theorem rawM_app {ρ : Nat → Nat} {h : Nat} {L L2 : List (Ct h)} {l l2 : List KV} (r : rawM ρ h L l) (r2 : rawM ρ h L2 l2) : rawM ρ h (L ++ L2) (l ++ l2) := by
  cases h with
  | zero =>
    have r : l = L := r
    have r2 : l2 = L2 := r2
    subst r
    subst r2
    rfl
  | succ h =>
    have r : l.map Prod.fst = (show List (Tr h) from L).map (fun c => nI (ρ c.1)) := r
    have r2 : l2.map Prod.fst = (show List (Tr h) from L2).map (fun c => nI (ρ c.1)) := r2
    show (l ++ l2).map Prod.fst = ((show List (Tr h) from L) ++ (show List (Tr h) from L2)).map (fun c => nI (ρ c.1))
    rw [List.map_append, List.map_append, r, r2]
theorem rawM_td {ρ : Nat → Nat} {h : Nat} {L : List (Ct h)} {l : List KV} (r : rawM ρ h L l) (n : Nat) : rawM ρ h (L.take n) (l.take n) ∧ rawM ρ h (L.drop n) (l.drop n) := by
  cases h with
  | zero =>
    have r : l = L := r
    rw [r]
    exact ⟨rfl, rfl⟩
  | succ h =>
    have r : l.map Prod.fst = (show List (Tr h) from L).map (fun c => nI (ρ c.1)) := r
    refine ⟨?_, ?_⟩
    · show (l.take n).map Prod.fst = ((show List (Tr h) from L).take n).map (fun c => nI (ρ c.1))
      rw [List.map_take, List.map_take, r]
    · show (l.drop n).map Prod.fst = ((show List (Tr h) from L).drop n).map (fun c => nI (ρ c.1))
      rw [List.map_drop, List.map_drop, r]
theorem rawM_nil {ρ : Nat → Nat} {h : Nat} : rawM ρ h [] [] := by
  cases h <;> rfl
theorem rawM_ins {ρ : Nat → Nat} {h : Nat} {L : List (Ct h)} {l : List KV} {x : Ct h} {y : KV} (r : rawM ρ h L l) (rx : rawM ρ h [x] [y]) (n : Nat) : rawM ρ h (L.take n ++ x :: L.drop n) (l.take n ++ y :: l.drop n) := by
  rw [show x :: L.drop n = [x] ++ L.drop n from rfl, show y :: l.drop n = [y] ++ l.drop n from rfl]
  exact rawM_app (rawM_td r n).1 (rawM_app rx (rawM_td r n).2)
theorem rawM_del {ρ : Nat → Nat} {h : Nat} {L : List (Ct h)} {l : List KV} (r : rawM ρ h L l) (n : Nat) : rawM ρ h (L.take n ++ L.drop (n + 1)) (l.take n ++ l.drop (n + 1)) := rawM_app (rawM_td r n).1 (rawM_td r (n + 1)).2
theorem rawM_cg {ρ ρ2 : Nat → Nat} {h : Nat} {L : List (Ct h)} {l : List KV} (r : rawM ρ h L l) (e : ∀ x ∈ blw h L, ρ2 x.1 = ρ x.1) : rawM ρ2 h L l := by
  cases h with
  | zero => exact r
  | succ h =>
    show l.map Prod.fst = (show List (Tr h) from L).map (fun c => nI (ρ2 c.1))
    refine (show l.map Prod.fst = (show List (Tr h) from L).map (fun c => nI (ρ c.1)) from r).trans (List.map_congr_left (fun c hc => ?_))
    rw [e _ (List.mem_flatMap.mpr ⟨c, hc, ndl_top c⟩)]
theorem rawM_kid {ρ : Nat → Nat} {h : Nat} {c : Tr h} {b : Int32} : rawM ρ (h + 1) [c] [(nI (ρ c.1), b)] := rfl
theorem blw_td {h : Nat} {L : List (Ct h)} (n : Nat) : (∀ x ∈ blw h (L.take n), x ∈ blw h L) ∧ ∀ x ∈ blw h (L.drop n), x ∈ blw h L := by
  have e : blw h L = blw h (L.take n) ++ blw h (L.drop n) := by rw [← blw_app, List.take_append_drop]
  exact ⟨fun x hx => by rw [e]; exact List.mem_append_left _ hx, fun x hx => by rw [e]; exact List.mem_append_right _ hx⟩
theorem ndl_blw {h : Nat} {t : Tr h} {x : Nat × Nat} (hx : x ∈ blw h t.2.2) : x ∈ ndl h t := by rw [ndl_L]; exact List.mem_cons_of_mem _ hx
theorem AL.dj {ρ : Nat → Nat} {u : Nat} {Z : List Nat × Nat} {P : Nat → Prop} {L : List (Nat × Nat)} {i : Nat} (a : AL ρ u Z P) (ht : ∀ x ∈ L, P x.1) (h0 : P i) (n : ∀ x ∈ L, x.1 ≠ i) : ∀ x ∈ L, ρ x.1 ≠ ρ i := fun x hx e => n x hx (a.2 _ _ (ht x hx) h0 e)
theorem bdd.ne {u : Nat} {n : Nat × Nat} {L : List (Nat × Nat)} (b : bdd u (n :: L)) : ∀ x ∈ L, x.1 ≠ n.1 := fun x hx e => by
  have h9 := b.2
  rw [List.map_cons, List.nodup_cons] at h9
  exact h9.1 (List.mem_map.mpr ⟨x, hx, e⟩)
/-- a node whose row alone is written -/
theorem RepM_row {S S2 : aw_S} {m ρ : Nat → Nat} {h : Nat} {t : Tr h} {L2 : List (Ct h)} {l2 : List KV} {Fs : List Nat} (n : NdM S m ρ h t) (f : frR S S2 m (fun q => q = ρ t.1) Fs) (e1 : gL S2 m (ρ t.1) = gL S m (ρ t.1)) (e3 : gT S2 m (ρ t.1) = gT S m (ρ t.1)) (w2 : RwM S2 m (ρ t.1) l2) (r2 : rawM ρ h L2 l2) (h7 : L2.length ≤ 7) (kd : KdM S m ρ h L2) (kx : ∀ x ∈ blw h L2, ρ x.1 ≠ ρ t.1) : RepM S2 m ρ h (t.1, t.2.1, L2) := RepM_of (NdM_of (t := (t.1, t.2.1, L2)) n.1 (e1.trans n.2.1) (e3.trans n.2.2.2.1) w2 r2 h7) (KdM_g f.2 kd (fun x hx => ⟨kx x hx, rfl⟩))
theorem GM.wid {S S2 : aw_S} {m ρ ρ2 : Nat → Nat} {u u2 tk : Nat} {Z Z2 : List Nat × Nat} {L : List (Nat × Nat)} (g : GM S S2 m ρ ρ2 u u2 Z Z2 tk L) : sI S2 723 (m 33) = sI S 723 (m 33) := g.2.2.2.2.2.2.2.2.2.1.2 723 (by decide)
theorem q_putsIn {S : aw_S} {m : Nat → Nat} (hM : LM S m) {ρ : Nat → Nat} {u tk h k : Nat} {t : Tr h} {Z : List Nat × Nat} {x : Ct h} {a b : Int32} (rp : RepM S m ρ h t) (hF : FrM S m Z.1 Z.2) (nd : Z.1.Nodup) (rx : rawM ρ h [x] [(a, b)]) (kx : KdM S m ρ h [x]) (dj : ∀ y ∈ blw h (t.2.2.take k ++ x :: t.2.2.drop k), ρ y.1 ≠ ρ t.1) (h6 : t.2.2.length ≤ 6) (hk : k ≤ t.2.2.length) : aw_M yX11_putsIn cX11_putsIn 6 (none : Option FieldType) 0 0 0 [.ref (m 33), .int (nI (ρ t.1)), .int (nI k), .int a, .int b] S (fun q S2 => q = none ∧ RepM S2 m ρ h (t.1, t.2.1, t.2.2.take k ++ x :: t.2.2.drop k) ∧ GM S S2 m ρ ρ u u Z Z tk [(t.1, tk)] ∧ wyS S S2 m) := by
  have n := rp.own
  obtain ⟨l, rl, w⟩ := n.raw
  have hl := rawM_len w
  refine (m_putsIn hM n.1 rl (by omega) (by omega) (k := k) (a := a) (b := b)).post (fun q S2 hp => ?_)
  obtain ⟨hq, h1, h2, h3, f⟩ := hp
  refine ⟨hq, RepM_row n f h2 h3 h1 (rawM_ins w rx k) ?_ (KdM_ins rp.kd kx k) dj, GM_row hM hF nd f List.mem_cons_self, f.wy hM (by decide)⟩
  rw [List.length_append, List.length_cons, List.length_take, List.length_drop]
  omega
theorem q_takesFrom {S : aw_S} {m : Nat → Nat} (hM : LM S m) {ρ : Nat → Nat} {u tk h k : Nat} {t : Tr h} {Z : List Nat × Nat} (rp : RepM S m ρ h t) (hF : FrM S m Z.1 Z.2) (nd : Z.1.Nodup) (dj : ∀ y ∈ blw h t.2.2, ρ y.1 ≠ ρ t.1) (hk : k < t.2.2.length) : aw_M yX11_takesFrom cX11_takesFrom 4 (none : Option FieldType) 0 0 0 [.ref (m 33), .int (nI (ρ t.1)), .int (nI k)] S (fun q S2 => q = none ∧ RepM S2 m ρ h (t.1, t.2.1, t.2.2.take k ++ t.2.2.drop (k + 1)) ∧ GM S S2 m ρ ρ u u Z Z tk [(t.1, tk)] ∧ wyS S S2 m) := by
  have n := rp.own
  obtain ⟨l, rl, w⟩ := n.raw
  have hl := rawM_len w
  have h7 := n.2.2.2.2.1
  refine (m_takesFrom hM n.1 rl (by omega) (by omega) (k := k)).post (fun q S2 hp => ?_)
  obtain ⟨hq, h1, h2, h3, f⟩ := hp
  refine ⟨hq, RepM_row n f h2 h3 h1 (rawM_del w k) ?_ (KdM_del rp.kd k) (fun y hy => dj y ?_), GM_row hM hF nd f List.mem_cons_self, f.wy hM (by decide)⟩
  · rw [List.length_append, List.length_take, List.length_drop]
    omega
  · rw [blw_app] at hy
    exact (List.mem_append.mp hy).elim ((blw_td k).1 y) ((blw_td (k + 1)).2 y)
/-- a new node with nothing in it -/
theorem q_fresh {S : aw_S} {m : Nat → Nat} (hM : LM S m) {ρ : Nat → Nat} {u tk h : Nat} {Z : List Nat × Nat} {lf : Int32} (hlf : lf = if h = 0 then 1 else 0) (hF : FrM S m Z.1 Z.2) (nd : Z.1.Nodup) (hrm : 1 ≤ rmM Z) : aw_M yX11_fresh cX11_fresh 4 (some FieldType.int) 0 0 0 [.ref (m 33), .int lf, .int (nI (tk + 1))] S (fun q S2 => ∃ ρ2 Z2, q = some (.int (nI (ρ2 u))) ∧ GM S S2 m ρ ρ2 u (u + 1) Z Z2 tk [] ∧ RepM S2 m ρ2 h (u, tk, []) ∧ wyS S S2 m) := by
  obtain ⟨n1, n2, n3, n4, n5, n6, n7⟩ := nx_ok hF nd hrm
  refine (m_fresh hM hF n1 (lf := lf) (t := nI (tk + 1))).post (fun q S2 hp => ?_)
  obtain ⟨hq, hF2, g1, g2, g3, h7, f2⟩ := hp
  have eu : va_up ρ u (nxR Z.1 Z.2) u = nxR Z.1 Z.2 := va_up_self _ _ _
  have en : ∀ i, i < u → va_up ρ u (nxR Z.1 Z.2) i = ρ i := fun i hi => va_up_ne _ _ (by omega)
  refine ⟨va_up ρ u (nxR Z.1 Z.2), nxF Z.1 Z.2, by rw [eu]; exact hq, ⟨Nat.le_succ u, en, hF2, n5, by rw [Nat.add_sub_cancel_left]; exact n6, n7, fun i h1 h2 => ?_, fun i j h1 h2 h3 h4 _ => by omega, by rw [Nat.add_sub_cancel_left]; exact h7, f2.g (fun q z => Or.inr (fun y => n3 (z ▸ y))) (by decide)⟩, ?_, f2.wy hM (by decide)⟩
  · have : i = u := by omega
    rw [this, eu]
    exact ⟨n3, n4, n2⟩
  · refine RepM_of (NdM_of (t := (u, tk, [])) (l := []) ?_ ?_ ?_ ⟨?_, fun k x hx => absurd hx (by simp)⟩ rawM_nil (Nat.zero_le _)) KdM_nil
    · show va_up ρ u (nxR Z.1 Z.2) u < 12000
      rw [eu]; exact n2
    · show gL S2 m (va_up ρ u (nxR Z.1 Z.2) u) = _
      rw [eu, g1]; exact hlf
    · show gT S2 m (va_up ρ u (nxR Z.1 Z.2) u) = _
      rw [eu, g3]
    · show gN S2 m (va_up ρ u (nxR Z.1 Z.2) u) = _
      rw [eu, g2]; rfl
/-- a node too full, parted -/
theorem q_partedT {S : aw_S} {m : Nat → Nat} (hM : LM S m) {ρ : Nat → Nat} {u tk h w : Nat} {t : Tr h} {Z : List Nat × Nat} {P : Nat → Prop} (hw : sI S 723 (m 33) = nI w) (hw3 : 3 ≤ w) (hw6 : w ≤ 6) (rp : RepM S m ρ h t) (hF : FrM S m Z.1 Z.2) (nd : Z.1.Nodup) (hrm : 1 ≤ rmM Z) (a : AL ρ u Z P) (ht : ∀ x ∈ ndl h t, P x.1) (b : bdd u (ndl h t)) (hn : w < t.2.2.length) : aw_M yX11_parted cX11_parted 7 (some FieldType.int) 1 0 0 [.ref (m 33), .int (nI (ρ t.1)), .int (nI (tk + 1))] S (fun q S2 => ∃ ρ2 Z2, q = some (.int (nI (ρ2 u))) ∧ GM S S2 m ρ ρ2 u (u + 1) Z Z2 tk [(t.1, tk)] ∧ RepM S2 m ρ2 h (t.1, t.2.1, t.2.2.take (t.2.2.length - lea w)) ∧ RepM S2 m ρ2 h (u, tk, t.2.2.drop (t.2.2.length - lea w)) ∧ wyS S S2 m) := by
  have n := rp.own
  have h0 := a.1 _ (ht _ (ndl_top t))
  obtain ⟨l, rl, w1⟩ := n.raw
  obtain ⟨n1, n2, n3, n4, n5, n6, n7⟩ := nx_ok hF nd hrm
  have hl := rawM_len w1
  have h7 := n.2.2.2.2.1
  have hlea : lea w ≤ w := by unfold lea; omega
  have hrc : ¬ ρ t.1 = nxR Z.1 Z.2 := fun z => n3 (z ▸ h0.2)
  refine (q_parted (F2 := (nxF Z.1 Z.2).1) (u2 := (nxF Z.1 Z.2).2) (t := nI (tk + 1)) (fo := t.2.2.length - lea w) hM hw hw6 hF n1 n.1 rl (by omega) (by omega) (by rw [hl]) rfl rfl hrc n2).post (fun q S2 hp => ?_)
  obtain ⟨hq, r1, r2, l1, t1, l2, t2, hF2, h8, f2⟩ := hp
  have eu : va_up ρ u (nxR Z.1 Z.2) u = nxR Z.1 Z.2 := va_up_self _ _ _
  have en : ∀ i, i < u → va_up ρ u (nxR Z.1 Z.2) i = ρ i := fun i hi => va_up_ne _ _ (by omega)
  have hb : ∀ x ∈ blw h t.2.2, ¬ (ρ x.1 = ρ t.1 ∨ ρ x.1 = nxR Z.1 Z.2) ∧ va_up ρ u (nxR Z.1 Z.2) x.1 = ρ x.1 := fun x hx => by
    have hx2 := a.1 _ (ht x (ndl_blw hx))
    rw [ndl_L] at b
    exact ⟨fun z => z.elim (fun e => b.ne x hx (a.2 _ _ (ht x (ndl_blw hx)) (ht _ (ndl_top t)) e)) (fun e => n3 (e ▸ hx2.2)), en _ hx2.1⟩
  have kd := KdM_g f2.2 rp.kd hb
  have et : va_up ρ u (nxR Z.1 Z.2) t.1 = ρ t.1 := en _ h0.1
  have rw9 := rawM_cg w1 (fun x hx => (hb x hx).2)
  refine ⟨va_up ρ u (nxR Z.1 Z.2), nxF Z.1 Z.2, by rw [eu]; exact hq, ⟨Nat.le_succ u, en, hF2, n5, by rw [Nat.add_sub_cancel_left]; exact n6, n7, fun i h1 h2 => ?_, fun i j h1 h2 h3 h4 _ => by omega, by rw [Nat.add_sub_cancel_left]; exact h8, f2.g (fun q z => z.elim (fun e => Or.inl ⟨(t.1, tk), List.mem_cons_self, rfl, e⟩) (fun e => Or.inr (fun y => n3 (e ▸ y)))) (by decide)⟩, ?_, ?_, f2.wy hM (by decide)⟩
  · have : i = u := by omega
    rw [this, eu]
    exact ⟨n3, n4, n2⟩
  · refine RepM_of (NdM_of (t := (t.1, t.2.1, t.2.2.take (t.2.2.length - lea w))) (l := l.take (t.2.2.length - lea w)) ?_ ?_ ?_ ?_ (rawM_td rw9 _).1 ?_) (KdM_td kd _).1
    · show va_up ρ u (nxR Z.1 Z.2) t.1 < 12000
      rw [et]; exact n.1
    · show gL S2 m (va_up ρ u (nxR Z.1 Z.2) t.1) = _
      rw [et, l1]; exact n.2.1
    · show gT S2 m (va_up ρ u (nxR Z.1 Z.2) t.1) = _
      rw [et, t1]; exact n.2.2.2.1
    · show RwM S2 m (va_up ρ u (nxR Z.1 Z.2) t.1) _
      rw [et]; exact r1
    · show (t.2.2.take (t.2.2.length - lea w)).length ≤ 7
      rw [List.length_take]
      omega
  · refine RepM_of (NdM_of (t := (u, tk, t.2.2.drop (t.2.2.length - lea w))) (l := l.drop (t.2.2.length - lea w)) ?_ ?_ ?_ ?_ (rawM_td rw9 _).2 ?_) (KdM_td kd _).2
    · show va_up ρ u (nxR Z.1 Z.2) u < 12000
      rw [eu]; exact n2
    · show gL S2 m (va_up ρ u (nxR Z.1 Z.2) u) = _
      rw [eu, l2]; exact n.2.1
    · show gT S2 m (va_up ρ u (nxR Z.1 Z.2) u) = _
      rw [eu, t2]
    · show RwM S2 m (va_up ρ u (nxR Z.1 Z.2) u) _
      rw [eu]; exact r2
    · show (t.2.2.drop (t.2.2.length - lea w)).length ≤ 7
      rw [List.length_drop]
      omega
