/-- the heap behind a new map -/
def nmS (S : aw_S) (m : Nat → Nat) (n : Nat) (ro a b hd : Int32) : aw_S := wI (wI (wA (wA (wA (wA (wA S (m 17) n ro) (m 18) n a) (m 19) n b) (m 24) n (vp_nar .boolean 1)) (m 25) n (vp_nar .boolean 0)) 746 (m 33) (hd + 1)) 745 (m 33) (nI (n + 1))
theorem nmS_fr {S : aw_S} {m : Nat → Nat} {n : Nat} {ro a b hd : Int32} : frM S (nmS S m n ro a b hd) m [17, 18, 19, 24, 25] [745, 746] := ((((((frM_wA (by decide)).tr (frM_wA (by decide))).tr (frM_wA (by decide))).tr (frM_wA (by decide))).tr (frM_wA (by decide))).tr (frM_wI (by decide) (by decide))).tr (frM_wI (by decide) (by decide))
set_option maxHeartbeats 4000000 in
set_option maxRecDepth 100000 in
theorem q_newMap {S : aw_S} {m : Nat → Nat} (hM : LM S m) {n : Nat} {ro a b : Int32} (hn : sI S 745 (m 33) = nI n) (h9 : n < 999) : aw_M yX11_newMap cX11_newMap 4 (some FieldType.int) 0 0 0 [.ref (m 33), .int ro, .int a, .int b] S (fun r S2 => r = some (.int (nI n)) ∧ S2 = nmS S m n ro a b (sI S 746 (m 33))) := by
  refine aw_enter (by decide +kernel) (Nat.le_of_ble_eq_true rfl) (fun g K EE => ?_)
  first | refine a_aload_n K dX11_newMap_0 rfl ?_ | refine a_aload_nN K dX11_newMap_0 rfl ?_
  refine a_getRs K fd_X11_67 (by exact lm_o hM) (Or.inr ⟨_, rfl⟩) (by exact lm_r736 hM) dX11_newMap_1 ?_
  first | refine a_aload_n K dX11_newMap_4 rfl ?_ | refine a_aload_nN K dX11_newMap_4 rfl ?_
  refine a_getI K fd_X11_261 (by exact lm_o hM) (Or.inl rfl) dX11_newMap_5 ?_
  rw [hn]
  refine a_iload_n K dX11_newMap_8 rfl ?_
  refine a_iast K (by exact lm_kk hM (by decide) (by decide)) (by show vp_in _ (sN S (m 17)); exact lm_ix (z := 999) hM (by decide) (by decide) (show n < 999 by omega) (by decide)) dX11_newMap_9 ?_
  rw [nI_clamp (by omega)]
  first | refine a_aload_n K dX11_newMap_10 rfl ?_ | refine a_aload_nN K dX11_newMap_10 rfl ?_
  refine a_getRs K fd_X11_70 (by exact lm_o hM) (Or.inr ⟨_, rfl⟩) (by exact lm_r737 hM) dX11_newMap_11 ?_
  first | refine a_aload_n K dX11_newMap_14 rfl ?_ | refine a_aload_nN K dX11_newMap_14 rfl ?_
  refine a_getI K fd_X11_261 (by exact lm_o hM) (Or.inl rfl) dX11_newMap_15 ?_
  rw [show sI (wA S (m 17) n ro) 745 (m 33) = nI n from hn]
  refine a_iload_n K dX11_newMap_18 rfl ?_
  refine a_iast K (by exact lm_kk hM (by decide) (by decide)) (by show vp_in _ (sN S (m 18)); exact lm_ix (z := 999) hM (by decide) (by decide) (show n < 999 by omega) (by decide)) dX11_newMap_19 ?_
  rw [nI_clamp (by omega)]
  first | refine a_aload_n K dX11_newMap_20 rfl ?_ | refine a_aload_nN K dX11_newMap_20 rfl ?_
  refine a_getRs K fd_X11_73 (by exact lm_o hM) (Or.inr ⟨_, rfl⟩) (by exact lm_r738 hM) dX11_newMap_21 ?_
  first | refine a_aload_n K dX11_newMap_24 rfl ?_ | refine a_aload_nN K dX11_newMap_24 rfl ?_
  refine a_getI K fd_X11_261 (by exact lm_o hM) (Or.inl rfl) dX11_newMap_25 ?_
  rw [show sI (wA (wA S (m 17) n ro) (m 18) n a) 745 (m 33) = nI n from hn]
  refine a_iload_n K dX11_newMap_28 rfl ?_
  refine a_iast K (by exact lm_kk hM (by decide) (by decide)) (by show vp_in _ (sN S (m 19)); exact lm_ix (z := 999) hM (by decide) (by decide) (show n < 999 by omega) (by decide)) dX11_newMap_29 ?_
  rw [nI_clamp (by omega)]
  first | refine a_aload_n K dX11_newMap_30 rfl ?_ | refine a_aload_nN K dX11_newMap_30 rfl ?_
  refine a_getRs K fd_X11_88 (by exact lm_o hM) (Or.inr ⟨_, rfl⟩) (by exact lm_r743 hM) dX11_newMap_31 ?_
  first | refine a_aload_n K dX11_newMap_34 rfl ?_ | refine a_aload_nN K dX11_newMap_34 rfl ?_
  refine a_getI K fd_X11_261 (by exact lm_o hM) (Or.inl rfl) dX11_newMap_35 ?_
  rw [show sI (wA (wA (wA S (m 17) n ro) (m 18) n a) (m 19) n b) 745 (m 33) = nI n from hn]
  refine a_iconst K dX11_newMap_38 (v := 1) (by decide) ?_
  refine a_zast K (by exact lm_kk hM (by decide) (by decide)) (by show vp_in _ (sN S (m 24)); exact lm_ix (z := 999) hM (by decide) (by decide) (show n < 999 by omega) (by decide)) dX11_newMap_39 ?_
  rw [nI_clamp (by omega)]
  first | refine a_aload_n K dX11_newMap_40 rfl ?_ | refine a_aload_nN K dX11_newMap_40 rfl ?_
  refine a_getRs K fd_X11_92 (by exact lm_o hM) (Or.inr ⟨_, rfl⟩) (by exact lm_r744 hM) dX11_newMap_41 ?_
  first | refine a_aload_n K dX11_newMap_44 rfl ?_ | refine a_aload_nN K dX11_newMap_44 rfl ?_
  refine a_getI K fd_X11_261 (by exact lm_o hM) (Or.inl rfl) dX11_newMap_45 ?_
  rw [show sI (wA (wA (wA (wA S (m 17) n ro) (m 18) n a) (m 19) n b) (m 24) n (vp_nar .boolean 1)) 745 (m 33) = nI n from hn]
  refine a_iconst K dX11_newMap_48 (v := 0) (by decide) ?_
  refine a_zast K (by exact lm_kk hM (by decide) (by decide)) (by show vp_in _ (sN S (m 25)); exact lm_ix (z := 999) hM (by decide) (by decide) (show n < 999 by omega) (by decide)) dX11_newMap_49 ?_
  rw [nI_clamp (by omega)]
  first | refine a_aload_n K dX11_newMap_50 rfl ?_ | refine a_aload_nN K dX11_newMap_50 rfl ?_
  refine a_dup K dX11_newMap_51 rfl ?_
  refine a_getI K fd_X11_275 (by exact lm_o hM) (Or.inl rfl) dX11_newMap_52 ?_
  rw [show sI (wA (wA (wA (wA (wA S (m 17) n ro) (m 18) n a) (m 19) n b) (m 24) n (vp_nar .boolean 1)) (m 25) n (vp_nar .boolean 0)) 746 (m 33) = sI S 746 (m 33) from rfl]
  refine a_iconst K dX11_newMap_55 (v := 1) (by decide) ?_
  refine a_iadd K dX11_newMap_56 ?_
  refine a_putI K fd_X11_275 (by exact lm_o hM) rfl dX11_newMap_57 ?_
  first | refine a_aload_n K dX11_newMap_60 rfl ?_ | refine a_aload_nN K dX11_newMap_60 rfl ?_
  refine a_dup K dX11_newMap_61 rfl ?_
  refine a_getI K fd_X11_261 (by exact lm_o hM) (Or.inl rfl) dX11_newMap_62 ?_
  rw [show sI (wI (wA (wA (wA (wA (wA S (m 17) n ro) (m 18) n a) (m 19) n b) (m 24) n (vp_nar .boolean 1)) (m 25) n (vp_nar .boolean 0)) 746 (m 33) (sI S 746 (m 33) + 1)) 745 (m 33) = nI n from by rw [sI_wI, if_neg (fun z => absurd z.1 (by decide))]; exact hn]
  refine a_iconst K dX11_newMap_65 (v := 1) (by decide) ?_
  refine a_iadd K dX11_newMap_66 ?_
  rw [nI_1]
  refine a_putI K fd_X11_261 (by exact lm_o hM) rfl dX11_newMap_67 ?_
  first | refine a_aload_n K dX11_newMap_70 rfl ?_ | refine a_aload_nN K dX11_newMap_70 rfl ?_
  refine a_getI K fd_X11_261 (by exact lm_o hM) (Or.inl rfl) dX11_newMap_71 ?_
  rw [wI_at]
  refine a_iconst K dX11_newMap_74 (v := 1) (by decide) ?_
  refine a_isub K dX11_newMap_75 ?_
  rw [nI_pred]
  exact a_iret K EE rfl (by omega) (by omega) dX11_newMap_76 ⟨rfl, rfl⟩
