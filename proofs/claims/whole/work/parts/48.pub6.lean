theorem m_putZ {w tk : Nat} {key v : Int32} (hw3 : 3 ≤ w) (hw6 : w ≤ 6) {S : aw_S} {ad ar : Nat → Nat} {gw u : Nat} {z : Tz} (o : aw_is S gw 1) (hwd : sI S 64 gw = nI w) (hA : AD S ad ar u) (r : RepW S ad ar z.1 z.2) (ok : rok w z) (hb : bdd u (ndl z.1 z.2)) (ht : tk < 2147483648) (hh : z.1 < 12) : aw_M yX1_put cX1_put 8 (some (FieldType.object "WideMap$Node")) (z.1 + 5) (2 * ((putT w tk u key v z).2 - u)) (19 * ((putT w tk u key v z).2 - u)) [.ref gw, .ref (ad z.2.1), .int (nI tk), .int key, .int v] S (PTq S ad ar gw u tk (ndl z.1 z.2) (putT w tk u key v z)) := by
  obtain ⟨h, t⟩ := z
  exact m_put hw3 hw6 o hwd hA r ok.ok ok.1 hb ht hh
theorem m_takeOutZ {w tk : Nat} {key : Int32} (hw3 : 3 ≤ w) (hw6 : w ≤ 6) {S : aw_S} {ad ar : Nat → Nat} {gw u : Nat} {z : Tz} (o : aw_is S gw 1) (hwd : sI S 64 gw = nI w) (hA : AD S ad ar u) (r : RepW S ad ar z.1 z.2) (ok : rok w z) (hb : bdd u (ndl z.1 z.2)) (ht : tk < 2147483648) (hh : z.1 < 12) : aw_M yX1_takeOut cX1_takeOut 5 (some (FieldType.object "WideMap$Node")) (z.1 + 6) (2 * ((takT w tk u key z).2 - u)) (19 * ((takT w tk u key z).2 - u)) [.ref gw, .ref (ad z.2.1), .int (nI tk), .int key] S (PTq S ad ar gw u tk (ndl z.1 z.2) (takT w tk u key z)) := by
  obtain ⟨h, t⟩ := z
  exact m_takeOut hw3 hw6 o hwd hA r ok.ok ok.1 ok.2.2.1 hb ht hh
def roomP (P : PS) : Prop := hcnt (pH P) < 16 ∧ (pM P).length < 999
def hav (P : PS) (m k v : Int32) : Int32 × PS := match rootP P m with
  | none => (-1, refP P 0)
  | some z => if (0 ≤ k.toInt ∧ k.toInt < 1000) ∧ -999 ≤ v.toInt ∧ v.toInt ≤ 999 then (if ¬ valIn (ent z.1 z.2) k = -1000000 ∨ (ent z.1 z.2).length < 60 then (if hcnt (pH P) < 16 ∧ (pM P).length < 999 then (nI (pM P).length, addM (setU (incT P) (putT (pW P) (pTk P) (pU P) k v z).2) (putT (pW P) (pTk P) (pU P) k v z).1 m (-1)) else (-1, refP P 4)) else (-1, refP P 3)) else (-1, refP P 1)
def lac (P : PS) (m k : Int32) : Int32 × PS := match rootP P m with
  | none => (-1, refP P 0)
  | some z => if 0 ≤ k.toInt ∧ k.toInt < 1000 then (if hcnt (pH P) < 16 ∧ (pM P).length < 999 then (nI (pM P).length, addM (setU (incT P) (takT (pW P) (pTk P) (pU P) k z).2) (takT (pW P) (pTk P) (pU P) k z).1 m (-1)) else (-1, refP P 4)) else (-1, refP P 1)
theorem tok.mono {w u tk u2 tk2 : Nat} {z : Tz} (h : tok w u tk z) (hu : u ≤ u2) (ht : tk ≤ tk2) : tok w u2 tk2 z := ⟨h.1, h.2.1, h.2.2.1, h.2.2.2.1.up hu, fun y hy => Nat.lt_of_lt_of_le (h.2.2.2.2 y hy) ht⟩
theorem RC.trw {S2 : aw_S} {v ad2 ar2 : Nat → Nat} {PA : List (Nat × Nat)} {X : List Nat} {mb : Nat} {P P2 : PS} {m : Int32} {z : Tz} (hz : rootP P m = some z) (h2 : RC S2 v ad2 ar2 PA X mb P2) (eM : pM P2 = pM P) : TrW S2 ad2 ar2 (pU P2) z := by
  obtain ⟨j, x, -, -, hx, rfl, -⟩ := rootP_mem hz
  exact h2.2.2.2.2.2.2.2.2.1.2.1 x (by rw [eM]; exact List.mem_of_getElem? hx)
/-- a token that is new: no node of a map or a builder has it -/
theorem PI.new {P : PS} (hP : PI P) : (∀ x ∈ pM P, ∀ y ∈ ndl x.1.1 x.1.2, y.2 < pTk P) ∧ ∀ j b, pB P j = some b → ∀ y ∈ ndl b.1.1 b.1.2, y.2 < pTk P := ⟨fun x hx => (hP.2.1 x hx).2.2.2.2, fun j b hb => (hP.2.2.1 j b hb).2.1.2.2.2.2⟩
theorem put_cost {w tk u : Nat} {k v : Int32} {z : Tz} {u0 t0 : Nat} (hw : 3 ≤ w) (h : tok w u0 t0 z) : (putT w tk u k v z).2 ≤ u + 67 := by
  have h1 := putT_un (w := w) (tk := tk) (u := u) (key := k) (v := v) (z := z)
  have h2 := un_le tk (ndl z.1 z.2)
  obtain ⟨h3, -, h4⟩ := h.h4 hw
  omega
theorem take_cost {w tk u : Nat} {k : Int32} {z : Tz} {u0 t0 : Nat} (hw : 3 ≤ w) (h : tok w u0 t0 z) (hb : bdd u (ndl z.1 z.2)) : (takT w tk u k z).2 ≤ u + 61 := by
  have h1 := (takT_gru (w := w) (tk := tk) (key := k) hb).2
  have h2 := un_le tk (ndl z.1 z.2)
  obtain ⟨h3, -, h4⟩ := h.h4 hw
  omega
set_option maxHeartbeats 4000000 in
set_option maxRecDepth 100000 in
theorem c_having {S : aw_S} {v ad ar : Nat → Nat} {PA : List (Nat × Nat)} {X : List Nat} {mb : Nat} {P : PS} (h : RC S v ad ar PA X mb P) (hP : PI P) {m k v0 : Int32} : aw_M yX10_having cX10_having 5 (some FieldType.int) 12 1140 12000 [.ref (v 4), .int m, .int k, .int v0] S (fun r S2 => ∃ ad2 ar2, r = some (.int (hav P m k v0).1) ∧ RC S2 v ad2 ar2 PA X mb (hav P m k v0).2 ∧ keepX X S S2) := by
  have hL := h.L
  cases hz : rootP P m with
  | none =>
    refine aw_enter (by decide +kernel) (Nat.le_of_ble_eq_true rfl) (fun g K EE => ?_)
    first | refine a_aload_n K dX10_having_0 rfl ?_ | refine a_aload_nN K dX10_having_0 rfl ?_
    refine a_getRs K fd_X10_46 (lw_i4 hL) (Or.inl ⟨_, rfl⟩) (lw_f646 hL) dX10_having_1 ?_
    refine a_iload_n K dX10_having_4 rfl ?_
    refine a_invV K (m_root h m) my_X3_heldRoot ml_X10_165 im_X3_heldRoot se_X3_heldRoot (ci := 3) (lw_i6 hL) (by decide) ⟨_, _, rfl⟩ rfl (by omega) (by omega) (by omega) rfl (Nat.le_of_ble_eq_true rfl) dX10_having_5 ?_
    intro r9 S9 hp9
    obtain ⟨rfl, hS9⟩ := hp9
    obtain rfl := hS9.symm
    rw [hz]
    first | refine a_astore K dX10_having_8 (by decide) ?_ | refine a_astoreN K dX10_having_8 (by decide) ?_
    first | refine a_aload K dX10_having_10 rfl ?_ | refine a_aloadN K dX10_having_10 rfl ?_
    refine a_ifnonnullN K dX10_having_12 ?_
    first | refine a_aload_n K dX10_having_15 rfl ?_ | refine a_aload_nN K dX10_having_15 rfl ?_
    refine a_iconst K dX10_having_16 (v := 0) (by decide) ?_
    refine a_invV K (c_refused h 0 (by decide)) my_X10_refused ml_X10_128 im_X10_refused se_X10_refused (ci := 10) (lw_i4 hL) (by decide) ⟨_, _, rfl⟩ rfl (by omega) (by omega) (by omega) rfl (Nat.le_of_ble_eq_true rfl) dX10_having_17 ?_
    intro r9 S9 hp9
    obtain ⟨rfl, h2, k2⟩ := hp9
    exact a_iret K EE rfl (by omega) (by omega) dX10_having_20 ⟨ad, ar, by unfold hav; rw [hz], by unfold hav; rw [hz]; exact h2, k2⟩
  | some z =>
    have t := h.tt hP hz
    obtain ⟨h40, h61, -⟩ := t.2.h4 hP.1.1
    have hw3 := hP.1.1
    have hw6 := hP.1.2
    have hcost : (putT (pW P) (pTk P) (pU P) k v0 z).2 ≤ pU P + 67 := (put_cost hw3 t.2)
    have ht : pTk P < 2147483648 := by have h1 := hP.2.2.2; omega
    refine aw_enter (by decide +kernel) (Nat.le_of_ble_eq_true rfl) (fun g K EE => ?_)
    first | refine a_aload_n K dX10_having_0 rfl ?_ | refine a_aload_nN K dX10_having_0 rfl ?_
    refine a_getRs K fd_X10_46 (lw_i4 hL) (Or.inl ⟨_, rfl⟩) (lw_f646 hL) dX10_having_1 ?_
    refine a_iload_n K dX10_having_4 rfl ?_
    refine a_invV K (m_root h m) my_X3_heldRoot ml_X10_165 im_X3_heldRoot se_X3_heldRoot (ci := 3) (lw_i6 hL) (by decide) ⟨_, _, rfl⟩ rfl (by omega) (by omega) (by omega) rfl (Nat.le_of_ble_eq_true rfl) dX10_having_5 ?_
    intro r9 S9 hp9
    obtain ⟨rfl, hS9⟩ := hp9
    obtain rfl := hS9.symm
    rw [hz]
    first | refine a_astore K dX10_having_8 (by decide) ?_ | refine a_astoreN K dX10_having_8 (by decide) ?_
    first | refine a_aload K dX10_having_10 rfl ?_ | refine a_aloadN K dX10_having_10 rfl ?_
    refine a_ifnonnull K dX10_having_12 (tgt := 21) (by decide) ?_
    refine a_iload_n K dX10_having_21 rfl ?_
    refine a_invS K (m_X10_isKey) my_X10_isKey ml_X10_235 st_X10_isKey rfl (by omega) (by omega) (by omega) rfl (Nat.le_of_ble_eq_true rfl) dX10_having_22 ?_
    intro r9 S9 hp9
    obtain ⟨hS9, hb9⟩ := hp9
    obtain rfl := hS9.symm
    rcases hb9 with ⟨b_22, rfl⟩ | ⟨b_22, rfl⟩
    · refine a_if_eq K dX10_having_25 (tgt := 35) (by decide) (fun z => absurd z (by decide)) (fun _ => ?_)
      refine a_iload_n K dX10_having_28 rfl ?_
      refine a_invS K (m_X10_isValue) my_X10_isValue ml_X10_238 st_X10_isValue rfl (by omega) (by omega) (by omega) rfl (Nat.le_of_ble_eq_true rfl) dX10_having_29 ?_
      intro r9 S9 hp9
      obtain ⟨hS9, hb9⟩ := hp9
      obtain rfl := hS9.symm
      rcases hb9 with ⟨b_29, rfl⟩ | ⟨b_29, rfl⟩
      · refine a_if_ne K dX10_having_32 (tgt := 41) (by decide) (fun _ => ?_) (fun z => absurd z (by decide))
        first | refine a_aload K dX10_having_41 rfl ?_ | refine a_aloadN K dX10_having_41 rfl ?_
        refine a_iload_n K dX10_having_43 rfl ?_
        refine a_invS K (m_X10_fits (key := k) t.1.1 (t.2.1.ne hw3) (by omega) (by rw [cnt_ent]; have h1 := t.2.2.2.1; omega)) my_X10_fits ml_X10_241 st_X10_fits rfl (by omega) (by omega) (by omega) rfl (Nat.le_of_ble_eq_true rfl) dX10_having_44 ?_
        intro r9 S9 hp9
        obtain ⟨hS9, hb9⟩ := hp9
        obtain rfl := hS9.symm
        rw [t.2.1.val hw3, cnt_ent] at hb9
        rcases hb9 with ⟨b_44, rfl⟩ | ⟨b_44, rfl⟩
        · refine a_if_ne K dX10_having_47 (tgt := 56) (by decide) (fun _ => ?_) (fun z => absurd z (by decide))
          first | refine a_aload_n K dX10_having_56 rfl ?_ | refine a_aload_nN K dX10_having_56 rfl ?_
          refine a_getRs K fd_X10_46 (lw_i4 hL) (Or.inl ⟨_, rfl⟩) (lw_f646 hL) dX10_having_57 ?_
          refine a_invV K (m_X3_hasRoom (lw_i6 hL) h.2.2.1.2.2.1 h.2.2.1.1 (show hcnt (pH P) < 1000000 by have h1 := List.countP_le_length (p := pH P) (l := List.range 999); rw [List.length_range] at h1; unfold hcnt; omega) (show (pM P).length < 1000000 by have h1 := h.2.2.1.2.1; omega)) my_X3_hasRoom ml_X10_124 im_X3_hasRoom se_X3_hasRoom (ci := 3) (lw_i6 hL) (by decide) ⟨_, _, rfl⟩ rfl (by omega) (by omega) (by omega) rfl (Nat.le_of_ble_eq_true rfl) dX10_having_60 ?_
          intro r9 S9 hp9
          obtain ⟨hS9, hb9⟩ := hp9
          obtain rfl := hS9.symm
          rcases hb9 with ⟨b_60, rfl⟩ | ⟨b_60, rfl⟩
          · refine a_if_ne K dX10_having_63 (tgt := 72) (by decide) (fun _ => ?_) (fun z => absurd z (by decide))
            first | refine a_aload_n K dX10_having_72 rfl ?_ | refine a_aload_nN K dX10_having_72 rfl ?_
            refine a_getRs K fd_X10_46 (lw_i4 hL) (Or.inl ⟨_, rfl⟩) (lw_f646 hL) dX10_having_73 ?_
            first | refine a_aload_n K dX10_having_76 rfl ?_ | refine a_aload_nN K dX10_having_76 rfl ?_
            refine a_getRs K fd_X10_39 (lw_i4 hL) (Or.inl ⟨_, rfl⟩) (lw_f645 hL) dX10_having_77 ?_
            first | refine a_aload K dX10_having_80 rfl ?_ | refine a_aloadN K dX10_having_80 rfl ?_
            first | refine a_aload_n K dX10_having_82 rfl ?_ | refine a_aload_nN K dX10_having_82 rfl ?_
            refine a_getRs K fd_X10_39 (lw_i4 hL) (Or.inl ⟨_, rfl⟩) (lw_f645 hL) dX10_having_83 ?_
            refine a_invV K (c_newToken h) my_X1_newToken ml_X10_131 im_X1_newToken se_X1_newToken (ci := 1) (lw_i5 hL) (by decide) ⟨_, _, rfl⟩ rfl (by omega) (by omega) (by omega) rfl (Nat.le_of_ble_eq_true rfl) dX10_having_86 ?_
            intro r9 S9 hp9
            obtain ⟨rfl, h2, k2⟩ := hp9
            have hL := h2.L
            refine a_iload_n K dX10_having_89 rfl ?_
            refine a_iload_n K dX10_having_90 rfl ?_
            refine a_invV K (m_putZ hw3 hw6 (tk := pTk P) (u := pU P) (key := k) (v := v0) (z := z) (lw_i5 hL) h2.2.1.1 h2.2.2.2.2.2.2.2.2.1.1 (h2.trw hz rfl).1 t.2.1 t.2.2.2.2.1 ht (by omega)) my_X1_put ml_X10_145 im_X1_put se_X1_put (ci := 1) (lw_i5 hL) (by decide) ⟨_, _, rfl⟩ rfl (by omega) (by omega) (by omega) rfl (Nat.le_of_ble_eq_true rfl) dX10_having_91 ?_
            intro r9 S9 hp9
            obtain ⟨ad2, ar2, rfl, G, rz⟩ := hp9
            obtain ⟨h4, k4⟩ := RC.grow h2 G (fun y hy => (h2.trw hz rfl).2 y hy) (fun x hx y hy q hq hk => absurd hk (Nat.ne_of_lt (t.2.2.2.2.2 q hq))) (fun j b hb y hy q hq hk => absurd hk (Nat.ne_of_lt (t.2.2.2.2.2 q hq)))
            have hL := h4.L
            have tn : TrW S9 ad2 ar2 (pU (setU (incT P) (putT (pW P) (pTk P) (pU P) k v0 z).2)) (putT (pW P) (pTk P) (pU P) k v0 z).1 := ⟨rz, fun y hy => ((putT_grw (w := pW P) (tk := pTk P) (key := k) (v := v0) (z := z) t.2.2.2.2.1).bd t.2.2.2.2.1).1 y hy⟩
            refine a_iload_n K dX10_having_94 rfl ?_
            refine a_iconst K dX10_having_95 (v := -1) (by decide) ?_
            have hlt : (pM P).length < 999 := b_60.2
            refine a_invV K (c_keep h4 tn hlt) my_X3_keep ml_X10_149 im_X3_keep se_X3_keep (ci := 3) (lw_i6 hL) (by decide) ⟨_, _, rfl⟩ rfl (by omega) (by omega) (by omega) rfl (Nat.le_of_ble_eq_true rfl) dX10_having_96 ?_
            intro r9 S9 hp9
            obtain ⟨rfl, h5, k5⟩ := hp9
            exact a_iret K EE rfl (by omega) (by omega) dX10_having_99 ⟨ad2, ar2, by unfold hav; rw [hz]; show _ = some (Value.int (Prod.fst (ite _ _ _))); rw [if_pos ⟨b_22, b_29⟩, if_pos b_44, if_pos b_60]; rfl, by unfold hav; rw [hz]; show RC _ _ _ _ _ _ _ (Prod.snd (ite _ _ _)); rw [if_pos ⟨b_22, b_29⟩, if_pos b_44, if_pos b_60]; exact h5, (k2.tr k4).tr k5⟩
          · refine a_if_ne K dX10_having_63 (tgt := 72) (by decide) (fun z => absurd z (by decide)) (fun _ => ?_)
            first | refine a_aload_n K dX10_having_66 rfl ?_ | refine a_aload_nN K dX10_having_66 rfl ?_
            refine a_iconst K dX10_having_67 (v := 4) (by decide) ?_
            refine a_invV K (c_refused h 4 (by decide)) my_X10_refused ml_X10_128 im_X10_refused se_X10_refused (ci := 10) (lw_i4 hL) (by decide) ⟨_, _, rfl⟩ rfl (by omega) (by omega) (by omega) rfl (Nat.le_of_ble_eq_true rfl) dX10_having_68 ?_
            intro r9 S9 hp9
            obtain ⟨rfl, h2, k2⟩ := hp9
            exact a_iret K EE rfl (by omega) (by omega) dX10_having_71 ⟨ad, ar, by unfold hav; rw [hz]; show _ = some (Value.int (Prod.fst (ite _ _ _))); rw [if_pos ⟨b_22, b_29⟩, if_pos b_44, if_neg b_60], by unfold hav; rw [hz]; show RC _ _ _ _ _ _ _ (Prod.snd (ite _ _ _)); rw [if_pos ⟨b_22, b_29⟩, if_pos b_44, if_neg b_60]; exact h2, k2⟩
        · refine a_if_ne K dX10_having_47 (tgt := 56) (by decide) (fun z => absurd z (by decide)) (fun _ => ?_)
          first | refine a_aload_n K dX10_having_50 rfl ?_ | refine a_aload_nN K dX10_having_50 rfl ?_
          refine a_iconst K dX10_having_51 (v := 3) (by decide) ?_
          refine a_invV K (c_refused h 3 (by decide)) my_X10_refused ml_X10_128 im_X10_refused se_X10_refused (ci := 10) (lw_i4 hL) (by decide) ⟨_, _, rfl⟩ rfl (by omega) (by omega) (by omega) rfl (Nat.le_of_ble_eq_true rfl) dX10_having_52 ?_
          intro r9 S9 hp9
          obtain ⟨rfl, h2, k2⟩ := hp9
          exact a_iret K EE rfl (by omega) (by omega) dX10_having_55 ⟨ad, ar, by unfold hav; rw [hz]; show _ = some (Value.int (Prod.fst (ite _ _ _))); rw [if_pos ⟨b_22, b_29⟩, if_neg b_44], by unfold hav; rw [hz]; show RC _ _ _ _ _ _ _ (Prod.snd (ite _ _ _)); rw [if_pos ⟨b_22, b_29⟩, if_neg b_44]; exact h2, k2⟩
      · refine a_if_ne K dX10_having_32 (tgt := 41) (by decide) (fun z => absurd z (by decide)) (fun _ => ?_)
        first | refine a_aload_n K dX10_having_35 rfl ?_ | refine a_aload_nN K dX10_having_35 rfl ?_
        refine a_iconst K dX10_having_36 (v := 1) (by decide) ?_
        refine a_invV K (c_refused h 1 (by decide)) my_X10_refused ml_X10_128 im_X10_refused se_X10_refused (ci := 10) (lw_i4 hL) (by decide) ⟨_, _, rfl⟩ rfl (by omega) (by omega) (by omega) rfl (Nat.le_of_ble_eq_true rfl) dX10_having_37 ?_
        intro r9 S9 hp9
        obtain ⟨rfl, h2, k2⟩ := hp9
        exact a_iret K EE rfl (by omega) (by omega) dX10_having_40 (by first | exact ⟨ad, ar, by unfold hav; rw [hz]; show _ = some (Value.int (Prod.fst (ite _ _ _))); rw [if_neg (fun y => b_22 y.1)], by unfold hav; rw [hz]; show RC _ _ _ _ _ _ _ (Prod.snd (ite _ _ _)); rw [if_neg (fun y => b_22 y.1)]; exact h2, k2⟩ | exact ⟨ad, ar, by unfold hav; rw [hz]; show _ = some (Value.int (Prod.fst (ite _ _ _))); rw [if_neg (fun y => b_29 y.2)], by unfold hav; rw [hz]; show RC _ _ _ _ _ _ _ (Prod.snd (ite _ _ _)); rw [if_neg (fun y => b_29 y.2)]; exact h2, k2⟩)
    · refine a_if_eq K dX10_having_25 (tgt := 35) (by decide) (fun _ => ?_) (fun z => absurd z (by decide))
      first | refine a_aload_n K dX10_having_35 rfl ?_ | refine a_aload_nN K dX10_having_35 rfl ?_
      refine a_iconst K dX10_having_36 (v := 1) (by decide) ?_
      refine a_invV K (c_refused h 1 (by decide)) my_X10_refused ml_X10_128 im_X10_refused se_X10_refused (ci := 10) (lw_i4 hL) (by decide) ⟨_, _, rfl⟩ rfl (by omega) (by omega) (by omega) rfl (Nat.le_of_ble_eq_true rfl) dX10_having_37 ?_
      intro r9 S9 hp9
      obtain ⟨rfl, h2, k2⟩ := hp9
      exact a_iret K EE rfl (by omega) (by omega) dX10_having_40 (by first | exact ⟨ad, ar, by unfold hav; rw [hz]; show _ = some (Value.int (Prod.fst (ite _ _ _))); rw [if_neg (fun y => b_22 y.1)], by unfold hav; rw [hz]; show RC _ _ _ _ _ _ _ (Prod.snd (ite _ _ _)); rw [if_neg (fun y => b_22 y.1)]; exact h2, k2⟩ | exact ⟨ad, ar, by unfold hav; rw [hz]; show _ = some (Value.int (Prod.fst (ite _ _ _))); rw [if_neg (fun y => b_29 y.2)], by unfold hav; rw [hz]; show RC _ _ _ _ _ _ _ (Prod.snd (ite _ _ _)); rw [if_neg (fun y => b_29 y.2)]; exact h2, k2⟩)
set_option maxHeartbeats 4000000 in
set_option maxRecDepth 100000 in
theorem c_lacking {S : aw_S} {v ad ar : Nat → Nat} {PA : List (Nat × Nat)} {X : List Nat} {mb : Nat} {P : PS} (h : RC S v ad ar PA X mb P) (hP : PI P) {m k : Int32} : aw_M yX10_lacking cX10_lacking 4 (some FieldType.int) 12 1140 12000 [.ref (v 4), .int m, .int k] S (fun r S2 => ∃ ad2 ar2, r = some (.int (lac P m k).1) ∧ RC S2 v ad2 ar2 PA X mb (lac P m k).2 ∧ keepX X S S2) := by
  have hL := h.L
  cases hz : rootP P m with
  | none =>
    refine aw_enter (by decide +kernel) (Nat.le_of_ble_eq_true rfl) (fun g K EE => ?_)
    first | refine a_aload_n K dX10_lacking_0 rfl ?_ | refine a_aload_nN K dX10_lacking_0 rfl ?_
    refine a_getRs K fd_X10_46 (lw_i4 hL) (Or.inl ⟨_, rfl⟩) (lw_f646 hL) dX10_lacking_1 ?_
    refine a_iload_n K dX10_lacking_4 rfl ?_
    refine a_invV K (m_root h m) my_X3_heldRoot ml_X10_165 im_X3_heldRoot se_X3_heldRoot (ci := 3) (lw_i6 hL) (by decide) ⟨_, _, rfl⟩ rfl (by omega) (by omega) (by omega) rfl (Nat.le_of_ble_eq_true rfl) dX10_lacking_5 ?_
    intro r9 S9 hp9
    obtain ⟨rfl, hS9⟩ := hp9
    obtain rfl := hS9.symm
    rw [hz]
    first | refine a_astore_n K dX10_lacking_8 (by decide) ?_ | refine a_astore_nN K dX10_lacking_8 (by decide) ?_
    first | refine a_aload_n K dX10_lacking_9 rfl ?_ | refine a_aload_nN K dX10_lacking_9 rfl ?_
    refine a_ifnonnullN K dX10_lacking_10 ?_
    first | refine a_aload_n K dX10_lacking_13 rfl ?_ | refine a_aload_nN K dX10_lacking_13 rfl ?_
    refine a_iconst K dX10_lacking_14 (v := 0) (by decide) ?_
    refine a_invV K (c_refused h 0 (by decide)) my_X10_refused ml_X10_128 im_X10_refused se_X10_refused (ci := 10) (lw_i4 hL) (by decide) ⟨_, _, rfl⟩ rfl (by omega) (by omega) (by omega) rfl (Nat.le_of_ble_eq_true rfl) dX10_lacking_15 ?_
    intro r9 S9 hp9
    obtain ⟨rfl, h2, k2⟩ := hp9
    exact a_iret K EE rfl (by omega) (by omega) dX10_lacking_18 ⟨ad, ar, by unfold lac; rw [hz], by unfold lac; rw [hz]; exact h2, k2⟩
  | some z =>
    have t := h.tt hP hz
    obtain ⟨h40, h61, -⟩ := t.2.h4 hP.1.1
    have hw3 := hP.1.1
    have hw6 := hP.1.2
    have hcost : (takT (pW P) (pTk P) (pU P) k z).2 ≤ pU P + 67 := (Nat.le_trans (take_cost hw3 t.2 t.2.2.2.2.1) (by omega))
    have ht : pTk P < 2147483648 := by have h1 := hP.2.2.2; omega
    refine aw_enter (by decide +kernel) (Nat.le_of_ble_eq_true rfl) (fun g K EE => ?_)
    first | refine a_aload_n K dX10_lacking_0 rfl ?_ | refine a_aload_nN K dX10_lacking_0 rfl ?_
    refine a_getRs K fd_X10_46 (lw_i4 hL) (Or.inl ⟨_, rfl⟩) (lw_f646 hL) dX10_lacking_1 ?_
    refine a_iload_n K dX10_lacking_4 rfl ?_
    refine a_invV K (m_root h m) my_X3_heldRoot ml_X10_165 im_X3_heldRoot se_X3_heldRoot (ci := 3) (lw_i6 hL) (by decide) ⟨_, _, rfl⟩ rfl (by omega) (by omega) (by omega) rfl (Nat.le_of_ble_eq_true rfl) dX10_lacking_5 ?_
    intro r9 S9 hp9
    obtain ⟨rfl, hS9⟩ := hp9
    obtain rfl := hS9.symm
    rw [hz]
    first | refine a_astore_n K dX10_lacking_8 (by decide) ?_ | refine a_astore_nN K dX10_lacking_8 (by decide) ?_
    first | refine a_aload_n K dX10_lacking_9 rfl ?_ | refine a_aload_nN K dX10_lacking_9 rfl ?_
    refine a_ifnonnull K dX10_lacking_10 (tgt := 19) (by decide) ?_
    refine a_iload_n K dX10_lacking_19 rfl ?_
    refine a_invS K (m_X10_isKey) my_X10_isKey ml_X10_235 st_X10_isKey rfl (by omega) (by omega) (by omega) rfl (Nat.le_of_ble_eq_true rfl) dX10_lacking_20 ?_
    intro r9 S9 hp9
    obtain ⟨hS9, hb9⟩ := hp9
    obtain rfl := hS9.symm
    rcases hb9 with ⟨b_20, rfl⟩ | ⟨b_20, rfl⟩
    · refine a_if_ne K dX10_lacking_23 (tgt := 32) (by decide) (fun _ => ?_) (fun z => absurd z (by decide))
      first | refine a_aload_n K dX10_lacking_32 rfl ?_ | refine a_aload_nN K dX10_lacking_32 rfl ?_
      refine a_getRs K fd_X10_46 (lw_i4 hL) (Or.inl ⟨_, rfl⟩) (lw_f646 hL) dX10_lacking_33 ?_
      refine a_invV K (m_X3_hasRoom (lw_i6 hL) h.2.2.1.2.2.1 h.2.2.1.1 (show hcnt (pH P) < 1000000 by have h1 := List.countP_le_length (p := pH P) (l := List.range 999); rw [List.length_range] at h1; unfold hcnt; omega) (show (pM P).length < 1000000 by have h1 := h.2.2.1.2.1; omega)) my_X3_hasRoom ml_X10_124 im_X3_hasRoom se_X3_hasRoom (ci := 3) (lw_i6 hL) (by decide) ⟨_, _, rfl⟩ rfl (by omega) (by omega) (by omega) rfl (Nat.le_of_ble_eq_true rfl) dX10_lacking_36 ?_
      intro r9 S9 hp9
      obtain ⟨hS9, hb9⟩ := hp9
      obtain rfl := hS9.symm
      rcases hb9 with ⟨b_36, rfl⟩ | ⟨b_36, rfl⟩
      · refine a_if_ne K dX10_lacking_39 (tgt := 48) (by decide) (fun _ => ?_) (fun z => absurd z (by decide))
        first | refine a_aload_n K dX10_lacking_48 rfl ?_ | refine a_aload_nN K dX10_lacking_48 rfl ?_
        refine a_getRs K fd_X10_46 (lw_i4 hL) (Or.inl ⟨_, rfl⟩) (lw_f646 hL) dX10_lacking_49 ?_
        first | refine a_aload_n K dX10_lacking_52 rfl ?_ | refine a_aload_nN K dX10_lacking_52 rfl ?_
        refine a_getRs K fd_X10_39 (lw_i4 hL) (Or.inl ⟨_, rfl⟩) (lw_f645 hL) dX10_lacking_53 ?_
        first | refine a_aload_n K dX10_lacking_56 rfl ?_ | refine a_aload_nN K dX10_lacking_56 rfl ?_
        first | refine a_aload_n K dX10_lacking_57 rfl ?_ | refine a_aload_nN K dX10_lacking_57 rfl ?_
        refine a_getRs K fd_X10_39 (lw_i4 hL) (Or.inl ⟨_, rfl⟩) (lw_f645 hL) dX10_lacking_58 ?_
        refine a_invV K (c_newToken h) my_X1_newToken ml_X10_131 im_X1_newToken se_X1_newToken (ci := 1) (lw_i5 hL) (by decide) ⟨_, _, rfl⟩ rfl (by omega) (by omega) (by omega) rfl (Nat.le_of_ble_eq_true rfl) dX10_lacking_61 ?_
        intro r9 S9 hp9
        obtain ⟨rfl, h2, k2⟩ := hp9
        have hL := h2.L
        refine a_iload_n K dX10_lacking_64 rfl ?_
        refine a_invV K (m_takeOutZ hw3 hw6 (tk := pTk P) (u := pU P) (key := k) (z := z) (lw_i5 hL) h2.2.1.1 h2.2.2.2.2.2.2.2.2.1.1 (h2.trw hz rfl).1 t.2.1 t.2.2.2.2.1 ht (by omega)) my_X1_takeOut ml_X10_245 im_X1_takeOut se_X1_takeOut (ci := 1) (lw_i5 hL) (by decide) ⟨_, _, rfl⟩ rfl (by omega) (by omega) (by omega) rfl (Nat.le_of_ble_eq_true rfl) dX10_lacking_65 ?_
        intro r9 S9 hp9
        obtain ⟨ad2, ar2, rfl, G, rz⟩ := hp9
        obtain ⟨h4, k4⟩ := RC.grow h2 G (fun y hy => (h2.trw hz rfl).2 y hy) (fun x hx y hy q hq hk => absurd hk (Nat.ne_of_lt (t.2.2.2.2.2 q hq))) (fun j b hb y hy q hq hk => absurd hk (Nat.ne_of_lt (t.2.2.2.2.2 q hq)))
        have hL := h4.L
        have tn : TrW S9 ad2 ar2 (pU (setU (incT P) (takT (pW P) (pTk P) (pU P) k z).2)) (takT (pW P) (pTk P) (pU P) k z).1 := ⟨rz, fun y hy => ((takT_gru (w := pW P) (tk := pTk P) (key := k) (z := z) t.2.2.2.2.1).1.bd t.2.2.2.2.1).1 y hy⟩
        refine a_iload_n K dX10_lacking_68 rfl ?_
        refine a_iconst K dX10_lacking_69 (v := -1) (by decide) ?_
        have hlt : (pM P).length < 999 := b_36.2
        refine a_invV K (c_keep h4 tn hlt) my_X3_keep ml_X10_149 im_X3_keep se_X3_keep (ci := 3) (lw_i6 hL) (by decide) ⟨_, _, rfl⟩ rfl (by omega) (by omega) (by omega) rfl (Nat.le_of_ble_eq_true rfl) dX10_lacking_70 ?_
        intro r9 S9 hp9
        obtain ⟨rfl, h5, k5⟩ := hp9
        exact a_iret K EE rfl (by omega) (by omega) dX10_lacking_73 ⟨ad2, ar2, by unfold lac; rw [hz]; show _ = some (Value.int (Prod.fst (ite _ _ _))); rw [if_pos b_20, if_pos b_36]; rfl, by unfold lac; rw [hz]; show RC _ _ _ _ _ _ _ (Prod.snd (ite _ _ _)); rw [if_pos b_20, if_pos b_36]; exact h5, (k2.tr k4).tr k5⟩
      · refine a_if_ne K dX10_lacking_39 (tgt := 48) (by decide) (fun z => absurd z (by decide)) (fun _ => ?_)
        first | refine a_aload_n K dX10_lacking_42 rfl ?_ | refine a_aload_nN K dX10_lacking_42 rfl ?_
        refine a_iconst K dX10_lacking_43 (v := 4) (by decide) ?_
        refine a_invV K (c_refused h 4 (by decide)) my_X10_refused ml_X10_128 im_X10_refused se_X10_refused (ci := 10) (lw_i4 hL) (by decide) ⟨_, _, rfl⟩ rfl (by omega) (by omega) (by omega) rfl (Nat.le_of_ble_eq_true rfl) dX10_lacking_44 ?_
        intro r9 S9 hp9
        obtain ⟨rfl, h2, k2⟩ := hp9
        exact a_iret K EE rfl (by omega) (by omega) dX10_lacking_47 ⟨ad, ar, by unfold lac; rw [hz]; show _ = some (Value.int (Prod.fst (ite _ _ _))); rw [if_pos b_20, if_neg b_36], by unfold lac; rw [hz]; show RC _ _ _ _ _ _ _ (Prod.snd (ite _ _ _)); rw [if_pos b_20, if_neg b_36]; exact h2, k2⟩
    · refine a_if_ne K dX10_lacking_23 (tgt := 32) (by decide) (fun z => absurd z (by decide)) (fun _ => ?_)
      first | refine a_aload_n K dX10_lacking_26 rfl ?_ | refine a_aload_nN K dX10_lacking_26 rfl ?_
      refine a_iconst K dX10_lacking_27 (v := 1) (by decide) ?_
      refine a_invV K (c_refused h 1 (by decide)) my_X10_refused ml_X10_128 im_X10_refused se_X10_refused (ci := 10) (lw_i4 hL) (by decide) ⟨_, _, rfl⟩ rfl (by omega) (by omega) (by omega) rfl (Nat.le_of_ble_eq_true rfl) dX10_lacking_28 ?_
      intro r9 S9 hp9
      obtain ⟨rfl, h2, k2⟩ := hp9
      exact a_iret K EE rfl (by omega) (by omega) dX10_lacking_31 ⟨ad, ar, by unfold lac; rw [hz]; show _ = some (Value.int (Prod.fst (ite _ _ _))); rw [if_neg b_20], by unfold lac; rw [hz]; show RC _ _ _ _ _ _ _ (Prod.snd (ite _ _ _)); rw [if_neg b_20]; exact h2, k2⟩
