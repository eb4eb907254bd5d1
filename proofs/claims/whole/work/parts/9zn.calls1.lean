/-! each call of the law -/
theorem cell_wB {S : aw_S} {a k b : Nat} {x : Int64} (h : b ≠ a) : cell (wB S a k x) b = cell S b := by
  have h1 : sB (wB S a k x) b = sB S b := va_up_ne _ _ h
  show (_, _, _, _, _, _, _, _) = (_, _, _, _, _, _, _, _)
  rw [h1]; rfl
theorem wB_at {S : aw_S} {a k : Nat} {x : Int64} : sB (wB S a k x) a k = x := by
  have h1 : sB (wB S a k x) a = vp_updL (sB S a) k x := va_up_self _ _ _
  rw [h1]
  unfold vp_updL
  simp
theorem lg_cmp_self (x : Int64) : lg_cmp x x = 0 := by
  unfold lg_cmp
  simp
set_option maxHeartbeats 4000000 in
set_option maxRecDepth 100000 in
theorem l_feed {g : aw_G} {nm : String} {b L : Nat} {xs : Nat → Int32} {v m : Nat → Nat} {X : List Nat} {ow : Nat} (T : LwS g nm b L xs m X ow) {c : Nat} (hc : 6 * c + 6 ≤ L) {S : aw_S} {k n : Nat} (I : LI v m X ow c S k n) (q : NX g v m X ow b c) : aw g 7 S k n (lvL b (v 4) (m 33) ow (nI (6 * c))) [] 236 := by
  have K := T.1
  have hL9 := T.2.2.2.2.1
  obtain ⟨ad, ar, PA, ρ, Z, P, hC, hM, hJ, o1, n1, hk, hn⟩ := I
  have hn9 : 20 * c + 20 < 1000000000 := by omega
  refine a_aload_n K dL_law_236 rfl ?_
  refine a_arg T (j := 1) hc (by decide) (by decide) rfl rfl dL_law_237 dL_law_238 dL_law_240 dL_law_241 dL_law_242 ?_
  refine a_arg T (j := 2) hc (by decide) (by decide) rfl rfl dL_law_243 dL_law_244 dL_law_246 dL_law_247 dL_law_248 ?_
  refine a_arg T (j := 3) hc (by decide) (by decide) rfl rfl dL_law_249 dL_law_250 dL_law_252 dL_law_253 dL_law_254 ?_
  refine a_arg T (j := 4) hc (by decide) (by decide) rfl rfl dL_law_255 dL_law_256 dL_law_258 dL_law_259 dL_law_260 ?_
  refine a_arg T (j := 5) hc (by decide) (by decide) rfl rfl dL_law_261 dL_law_262 dL_law_264 dL_law_265 dL_law_266 ?_
  refine a_invV K (c_feed hC (a := xs (6 * c + 1)) (b := xs (6 * c + 2)) (c := xs (6 * c + 3)) (d := xs (6 * c + 4)) (e := xs (6 * c + 5))) my_X10_feed ml_L_19 im_X10_feed se_X10_feed (ci := 10) (lw_i4 hC.1) (by decide) ⟨_, _, rfl⟩ rfl (by omega) (by omega) (by omega) rfl (Nat.le_of_ble_eq_true rfl) dL_law_267 ?_
  intro r S1 hp
  obtain ⟨ad2, ar2, rfl, hC1, kX⟩ := hp
  have hM1 := RM_kM hM (T.kM kX)
  have ow1 := T.ow kX o1 n1
  refine a_aload_n K dL_law_270 rfl ?_
  refine a_arg T (j := 1) hc (by decide) (by decide) rfl rfl dL_law_271 dL_law_272 dL_law_274 dL_law_275 dL_law_276 ?_
  refine a_arg T (j := 2) hc (by decide) (by decide) rfl rfl dL_law_277 dL_law_278 dL_law_280 dL_law_281 dL_law_282 ?_
  refine a_arg T (j := 3) hc (by decide) (by decide) rfl rfl dL_law_283 dL_law_284 dL_law_286 dL_law_287 dL_law_288 ?_
  refine a_arg T (j := 4) hc (by decide) (by decide) rfl rfl dL_law_289 dL_law_290 dL_law_292 dL_law_293 dL_law_294 ?_
  refine a_arg T (j := 5) hc (by decide) (by decide) rfl rfl dL_law_295 dL_law_296 dL_law_298 dL_law_299 dL_law_300 ?_
  refine a_invV K (q_feed hM1 hJ (by omega) (a := xs (6 * c + 1)) (b := xs (6 * c + 2)) (c := xs (6 * c + 3)) (d := xs (6 * c + 4)) (e := xs (6 * c + 5))) my_X11_feed ml_L_23 im_X11_feed se_X11_feed (ci := 11) (lm_o hM1.1) (by decide) ⟨_, _, rfl⟩ rfl (by omega) (by omega) (by omega) rfl (Nat.le_of_ble_eq_true rfl) dL_law_301 ?_
  intro r S2 hp
  obtain ⟨ρ2, Z2, rfl, hM2, f⟩ := hp
  have hC2 := hC1.own f T.mX
  have ow2 := frS.ow f ow1
  refine a_icmp_eq K dL_law_304 (tgt := 2036) (by decide) (fun _ => ?_) (fun z => absurd rfl z)
  exact q _ _ _ (LI.mk (by omega) hC2 hM2 (by omega) (by omega) (PJ_feed hJ _ _ _ _ _) ow2.1 ow2.2 (by omega) (by omega))
set_option maxHeartbeats 4000000 in
set_option maxRecDepth 100000 in
theorem l_end {g : aw_G} {nm : String} {b L : Nat} {xs : Nat → Int32} {v m : Nat → Nat} {X : List Nat} {ow : Nat} (T : LwS g nm b L xs m X ow) {c : Nat} (hc : 6 * c + 6 ≤ L) {S : aw_S} {k n : Nat} (I : LI v m X ow c S k n) (q : NX g v m X ow b c) : aw g 7 S k n (lvL b (v 4) (m 33) ow (nI (6 * c))) [] 309 := by
  have K := T.1
  have hL9 := T.2.2.2.2.1
  obtain ⟨ad, ar, PA, ρ, Z, P, hC, hM, hJ, o1, n1, hk, hn⟩ := I
  have hn9 : 20 * c + 20 < 1000000000 := by omega
  refine a_aload_n K dL_law_309 rfl ?_
  refine a_arg T (j := 1) hc (by decide) (by decide) rfl rfl dL_law_310 dL_law_311 dL_law_313 dL_law_314 dL_law_315 ?_
  refine a_invV K (c_end hC (n := xs (6 * c + 1))) my_X10_end ml_L_24 im_X10_end se_X10_end (ci := 10) (lw_i4 hC.1) (by decide) ⟨_, _, rfl⟩ rfl (by omega) (by omega) (by omega) rfl (Nat.le_of_ble_eq_true rfl) dL_law_316 ?_
  intro r S1 hp
  obtain ⟨ad2, ar2, rfl, hC1, kX⟩ := hp
  have hM1 := RM_kM hM (T.kM kX)
  have ow1 := T.ow kX o1 n1
  refine a_aload_n K dL_law_319 rfl ?_
  refine a_arg T (j := 1) hc (by decide) (by decide) rfl rfl dL_law_320 dL_law_321 dL_law_323 dL_law_324 dL_law_325 ?_
  refine a_invV K (q_end hM1 hJ (by omega) (i := xs (6 * c + 1))) my_X11_end ml_L_28 im_X11_end se_X11_end (ci := 11) (lm_o hM1.1) (by decide) ⟨_, _, rfl⟩ rfl (by omega) (by omega) (by omega) rfl (Nat.le_of_ble_eq_true rfl) dL_law_326 ?_
  intro r S2 hp
  obtain ⟨ρ2, Z2, rfl, hM2, f⟩ := hp
  have hC2 := hC1.own f T.mX
  have ow2 := frS.ow f ow1
  refine a_icmp_eq K dL_law_329 (tgt := 2036) (by decide) (fun _ => ?_) (fun z => absurd rfl z)
  exact q _ _ _ (LI.mk (by omega) hC2 hM2 (by omega) (by omega) (PJ_end hJ _) ow2.1 ow2.2 (by omega) (by omega))
set_option maxHeartbeats 4000000 in
set_option maxRecDepth 100000 in
theorem l_fault {g : aw_G} {nm : String} {b L : Nat} {xs : Nat → Int32} {v m : Nat → Nat} {X : List Nat} {ow : Nat} (T : LwS g nm b L xs m X ow) {c : Nat} (hc : 6 * c + 6 ≤ L) {S : aw_S} {k n : Nat} (I : LI v m X ow c S k n) (q : NX g v m X ow b c) : aw g 7 S k n (lvL b (v 4) (m 33) ow (nI (6 * c))) [] 334 := by
  have K := T.1
  have hL9 := T.2.2.2.2.1
  obtain ⟨ad, ar, PA, ρ, Z, P, hC, hM, hJ, o1, n1, hk, hn⟩ := I
  have hn9 : 20 * c + 20 < 1000000000 := by omega
  refine a_aload_n K dL_law_334 rfl ?_
  refine a_arg T (j := 1) hc (by decide) (by decide) rfl rfl dL_law_335 dL_law_336 dL_law_338 dL_law_339 dL_law_340 ?_
  refine a_invV K (c_fault hC (w := xs (6 * c + 1))) my_X10_fault ml_L_29 im_X10_fault se_X10_fault (ci := 10) (lw_i4 hC.1) (by decide) ⟨_, _, rfl⟩ rfl (by omega) (by omega) (by omega) rfl (Nat.le_of_ble_eq_true rfl) dL_law_341 ?_
  intro r S1 hp
  obtain ⟨rfl, hC1, kX⟩ := hp
  have hM1 := RM_kM hM (T.kM kX)
  have ow1 := T.ow kX o1 n1
  refine a_aload_n K dL_law_344 rfl ?_
  refine a_arg T (j := 1) hc (by decide) (by decide) rfl rfl dL_law_345 dL_law_346 dL_law_348 dL_law_349 dL_law_350 ?_
  refine a_invV K (q_fault hM1 hJ (w := xs (6 * c + 1))) my_X11_fault ml_L_33 im_X11_fault se_X11_fault (ci := 11) (lm_o hM1.1) (by decide) ⟨_, _, rfl⟩ rfl (by omega) (by omega) (by omega) rfl (Nat.le_of_ble_eq_true rfl) dL_law_351 ?_
  intro r S2 hp
  obtain ⟨rfl, hM2, f⟩ := hp
  have hC2 := hC1.own f T.mX
  have ow2 := frS.ow f ow1
  refine a_icmp_eq K dL_law_354 (tgt := 2036) (by decide) (fun _ => ?_) (fun z => absurd rfl z)
  exact q _ _ _ (LI.mk (by omega) hC2 hM2 (by omega) (by omega) (hJ.up (Nat.le_add_right _ 20)) ow2.1 ow2.2 (by omega) (by omega))
set_option maxHeartbeats 4000000 in
set_option maxRecDepth 100000 in
theorem l_text {g : aw_G} {nm : String} {b L : Nat} {xs : Nat → Int32} {v m : Nat → Nat} {X : List Nat} {ow : Nat} (T : LwS g nm b L xs m X ow) {c : Nat} (hc : 6 * c + 6 ≤ L) {S : aw_S} {k n : Nat} (I : LI v m X ow c S k n) (q : NX g v m X ow b c) : aw g 7 S k n (lvL b (v 4) (m 33) ow (nI (6 * c))) [] 359 := by
  have K := T.1
  have hL9 := T.2.2.2.2.1
  obtain ⟨ad, ar, PA, ρ, Z, P, hC, hM, hJ, o1, n1, hk, hn⟩ := I
  have hn9 : 20 * c + 20 < 1000000000 := by omega
  refine a_aload_n K dL_law_359 rfl ?_
  refine a_arg T (j := 1) hc (by decide) (by decide) rfl rfl dL_law_360 dL_law_361 dL_law_363 dL_law_364 dL_law_365 ?_
  refine a_invV K (c_text hC hJ.1 (w := xs (6 * c + 1))) my_X10_text ml_L_34 im_X10_text se_X10_text (ci := 10) (lw_i4 hC.1) (by decide) ⟨_, _, rfl⟩ rfl (by omega) (by omega) (by omega) rfl (Nat.le_of_ble_eq_true rfl) dL_law_366 ?_
  intro r S1 hp
  obtain ⟨ad2, ar2, PA2, rfl, hC1, kX⟩ := hp
  have hM1 := RM_kM hM (T.kM kX)
  have ow1 := T.ow kX o1 n1
  refine a_aload_n K dL_law_369 rfl ?_
  refine a_arg T (j := 1) hc (by decide) (by decide) rfl rfl dL_law_370 dL_law_371 dL_law_373 dL_law_374 dL_law_375 ?_
  refine a_invV K (q_text hM1 hJ (by omega) (w := xs (6 * c + 1))) my_X11_text ml_L_37 im_X11_text se_X11_text (ci := 11) (lm_o hM1.1) (by decide) ⟨_, _, rfl⟩ rfl (by omega) (by omega) (by omega) rfl (Nat.le_of_ble_eq_true rfl) dL_law_376 ?_
  intro r S2 hp
  obtain ⟨ρ2, Z2, rfl, hM2, f⟩ := hp
  have hC2 := hC1.own f T.mX
  have ow2 := frS.ow f ow1
  refine a_icmp_eq K dL_law_379 (tgt := 2036) (by decide) (fun _ => ?_) (fun z => absurd rfl z)
  exact q _ _ _ (LI.mk (by omega) hC2 hM2 (by omega) (by omega) (PJ_txt hJ hn9 _) ow2.1 ow2.2 (by omega) (by omega))
set_option maxHeartbeats 4000000 in
set_option maxRecDepth 100000 in
theorem l_wide {g : aw_G} {nm : String} {b L : Nat} {xs : Nat → Int32} {v m : Nat → Nat} {X : List Nat} {ow : Nat} (T : LwS g nm b L xs m X ow) {c : Nat} (hc : 6 * c + 6 ≤ L) {S : aw_S} {k n : Nat} (I : LI v m X ow c S k n) (q : NX g v m X ow b c) : aw g 7 S k n (lvL b (v 4) (m 33) ow (nI (6 * c))) [] 384 := by
  have K := T.1
  have hL9 := T.2.2.2.2.1
  obtain ⟨ad, ar, PA, ρ, Z, P, hC, hM, hJ, o1, n1, hk, hn⟩ := I
  have hn9 : 20 * c + 20 < 1000000000 := by omega
  refine a_aload_n K dL_law_384 rfl ?_
  refine a_arg T (j := 1) hc (by decide) (by decide) rfl rfl dL_law_385 dL_law_386 dL_law_388 dL_law_389 dL_law_390 ?_
  refine a_invV K (c_wide hC (w := xs (6 * c + 1))) my_X10_wide ml_L_38 im_X10_wide se_X10_wide (ci := 10) (lw_i4 hC.1) (by decide) ⟨_, _, rfl⟩ rfl (by omega) (by omega) (by omega) rfl (Nat.le_of_ble_eq_true rfl) dL_law_391 ?_
  intro r S1 hp
  obtain ⟨ad2, ar2, rfl, hC1, kX⟩ := hp
  have hM1 := RM_kM hM (T.kM kX)
  have ow1 := T.ow kX o1 n1
  refine a_aload_n K dL_law_394 rfl ?_
  refine a_arg T (j := 1) hc (by decide) (by decide) rfl rfl dL_law_395 dL_law_396 dL_law_398 dL_law_399 dL_law_400 ?_
  refine a_invV K (q_wide hM1 hJ (by omega) (i := xs (6 * c + 1))) my_X11_wide ml_L_41 im_X11_wide se_X11_wide (ci := 11) (lm_o hM1.1) (by decide) ⟨_, _, rfl⟩ rfl (by omega) (by omega) (by omega) rfl (Nat.le_of_ble_eq_true rfl) dL_law_401 ?_
  intro r S2 hp
  obtain ⟨ρ2, Z2, rfl, hM2, f⟩ := hp
  have hC2 := hC1.own f T.mX
  have ow2 := frS.ow f ow1
  refine a_icmp_eq K dL_law_404 (tgt := 2036) (by decide) (fun _ => ?_) (fun z => absurd rfl z)
  exact q _ _ _ (LI.mk (by omega) hC2 hM2 (by omega) (by omega) (PJ_wid hJ _) ow2.1 ow2.2 (by omega) (by omega))
set_option maxHeartbeats 4000000 in
set_option maxRecDepth 100000 in
theorem l_find {g : aw_G} {nm : String} {b L : Nat} {xs : Nat → Int32} {v m : Nat → Nat} {X : List Nat} {ow : Nat} (T : LwS g nm b L xs m X ow) {c : Nat} (hc : 6 * c + 6 ≤ L) {S : aw_S} {k n : Nat} (I : LI v m X ow c S k n) (q : NX g v m X ow b c) : aw g 7 S k n (lvL b (v 4) (m 33) ow (nI (6 * c))) [] 409 := by
  have K := T.1
  have hL9 := T.2.2.2.2.1
  obtain ⟨ad, ar, PA, ρ, Z, P, hC, hM, hJ, o1, n1, hk, hn⟩ := I
  have hn9 : 20 * c + 20 < 1000000000 := by omega
  refine a_aload_n K dL_law_409 rfl ?_
  refine a_arg T (j := 1) hc (by decide) (by decide) rfl rfl dL_law_410 dL_law_411 dL_law_413 dL_law_414 dL_law_415 ?_
  refine a_arg T (j := 2) hc (by decide) (by decide) rfl rfl dL_law_416 dL_law_417 dL_law_419 dL_law_420 dL_law_421 ?_
  refine a_invV K (c_find hC hJ.1 (m := xs (6 * c + 1)) (k := xs (6 * c + 2))) my_X10_find ml_L_42 im_X10_find se_X10_find (ci := 10) (lw_i4 hC.1) (by decide) ⟨_, _, rfl⟩ rfl (by omega) (by omega) (by omega) rfl (Nat.le_of_ble_eq_true rfl) dL_law_422 ?_
  intro r S1 hp
  obtain ⟨rfl, hC1, kX⟩ := hp
  have hM1 := RM_kM hM (T.kM kX)
  have ow1 := T.ow kX o1 n1
  refine a_aload_n K dL_law_425 rfl ?_
  refine a_arg T (j := 1) hc (by decide) (by decide) rfl rfl dL_law_426 dL_law_427 dL_law_429 dL_law_430 dL_law_431 ?_
  refine a_arg T (j := 2) hc (by decide) (by decide) rfl rfl dL_law_432 dL_law_433 dL_law_435 dL_law_436 dL_law_437 ?_
  refine a_invV K (q_find hM1 hJ (i := xs (6 * c + 1)) (k := xs (6 * c + 2))) my_X11_find ml_L_45 im_X11_find se_X11_find (ci := 11) (lm_o hM1.1) (by decide) ⟨_, _, rfl⟩ rfl (by omega) (by omega) (by omega) rfl (Nat.le_of_ble_eq_true rfl) dL_law_438 ?_
  intro r S2 hp
  obtain ⟨rfl, hM2, f⟩ := hp
  have hC2 := hC1.own f T.mX
  have ow2 := frS.ow f ow1
  refine a_icmp_eq K dL_law_441 (tgt := 2036) (by decide) (fun _ => ?_) (fun z => absurd rfl z)
  exact q _ _ _ (LI.mk (by omega) hC2 hM2 (by omega) (by omega) (hJ.up (Nat.le_add_right _ 20)) ow2.1 ow2.2 (by omega) (by omega))
set_option maxHeartbeats 4000000 in
set_option maxRecDepth 100000 in
theorem l_key {g : aw_G} {nm : String} {b L : Nat} {xs : Nat → Int32} {v m : Nat → Nat} {X : List Nat} {ow : Nat} (T : LwS g nm b L xs m X ow) {c : Nat} (hc : 6 * c + 6 ≤ L) {S : aw_S} {k n : Nat} (I : LI v m X ow c S k n) (q : NX g v m X ow b c) : aw g 7 S k n (lvL b (v 4) (m 33) ow (nI (6 * c))) [] 446 := by
  have K := T.1
  have hL9 := T.2.2.2.2.1
  obtain ⟨ad, ar, PA, ρ, Z, P, hC, hM, hJ, o1, n1, hk, hn⟩ := I
  have hn9 : 20 * c + 20 < 1000000000 := by omega
  refine a_aload_n K dL_law_446 rfl ?_
  refine a_arg T (j := 1) hc (by decide) (by decide) rfl rfl dL_law_447 dL_law_448 dL_law_450 dL_law_451 dL_law_452 ?_
  refine a_arg T (j := 2) hc (by decide) (by decide) rfl rfl dL_law_453 dL_law_454 dL_law_456 dL_law_457 dL_law_458 ?_
  refine a_aload_n K dL_law_459 rfl ?_
  refine a_lkey K T.2.1 T.2.2.2.1 (c_lkey hC hJ.1 (m := xs (6 * c + 1)) (i := xs (6 * c + 2)) o1 T.2.2.2.2.2.2 (by rw [n1]; decide) (by rw [n1]; decide)) rfl (by omega) (by omega) (by omega) rfl (Nat.le_of_ble_eq_true rfl) dL_law_460 ?_
  intro r S1 hp
  rcases hp with ⟨w, S0, hw, rfl, hC0, kX, rfl⟩ | ⟨hw, rfl, hC1, kX⟩
  · have ow1 : aw_is (wB S0 ow 0 w.toInt64) ow 18 ∧ sN (wB S0 ow 0 w.toInt64) ow = 1 := (show aw_is S0 ow 18 ∧ sN S0 ow = 1 from T.ow kX o1 n1)
    have hC1 : RC (wB S0 ow 0 w.toInt64) v ad ar PA X (1000 * c) P := RC_JB (sJ S0) (sB (wB S0 ow 0 w.toInt64)) hC0
    have hM1 : RM (wB S0 ow 0 w.toInt64) m ρ Z (1000 * c) P := RM_kM hM (fun i hi => ⟨(T.kM kX i hi).1, (cell_wB (T.2.2.2.2.2.1 i hi).2).trans (T.kM kX i hi).2⟩)
    have hb9 : sB (wB S0 ow 0 w.toInt64) ow 0 = w.toInt64 := wB_at
    refine a_istore K dL_law_463 (by decide) ?_
    refine a_aload_n K dL_law_465 rfl ?_
    refine a_arg T (j := 1) hc (by decide) (by decide) rfl rfl dL_law_466 dL_law_467 dL_law_469 dL_law_470 dL_law_471 ?_
    refine a_arg T (j := 2) hc (by decide) (by decide) rfl rfl dL_law_472 dL_law_473 dL_law_475 dL_law_476 dL_law_477 ?_
    refine a_invV K (q_key hM1 hJ (i := xs (6 * c + 1)) (k := xs (6 * c + 2))) my_X11_key ml_L_51 im_X11_key se_X11_key (ci := 11) (lm_o hM1.1) (by decide) ⟨_, _, rfl⟩ rfl (by omega) (by omega) (by omega) rfl (Nat.le_of_ble_eq_true rfl) dL_law_478 ?_
    intro r S2 hp
    obtain ⟨hp, hM2, f⟩ := hp
    have hC2 := hC1.own f T.mX
    have ow2 := frS.ow f ow1
    obtain ⟨w2, hw2, rfl, e7⟩ := Or.resolve_right hp (fun z => nomatch hw.symm.trans z.1)
    cases hw.symm.trans hw2
    refine a_istore K dL_law_481 (by decide) ?_
    refine a_aload_n K dL_law_483 rfl ?_
    refine a_invV K (q_thrown hM2.1) my_X11_thrown ml_L_52 im_X11_thrown se_X11_thrown (ci := 11) (lm_o hM2.1) (by decide) ⟨_, _, rfl⟩ rfl (by omega) (by omega) (by omega) rfl (Nat.le_of_ble_eq_true rfl) dL_law_484 ?_
    intro r S3 hp
    obtain ⟨rfl, hS3⟩ := hp
    obtain rfl := hS3.symm
    refine a_iload K dL_law_487 rfl ?_
    refine a_icmp_eq K dL_law_489 (tgt := 494) (by decide) (fun _ => ?_) (fun z => absurd e7 z)
    refine a_iload K dL_law_494 rfl ?_
    refine a_if_ne K dL_law_496 (tgt := 511) (by decide) (fun z => absurd rfl z) (fun _ => ?_)
    refine a_aload_n K dL_law_499 rfl ?_
    refine a_iconst K dL_law_500 (v := 0) (by decide) ?_
    refine a_lald K ow2.1 (by rw [ow2.2]; exact nI_in (c := 0) (by decide) (by decide)) dL_law_501 ?_
    rw [show sB S2 ow (0 : Int32).toNatClampNeg = w.toInt64 from (congrFun (congrFun f.2.2.2.2.2.1 ow) _).trans hb9]
    refine a_iload K dL_law_502 rfl ?_
    refine a_i2l K dL_law_504 ?_
    refine a_lcmp K dL_law_505 ?_
    refine a_if_eq K dL_law_506 (tgt := 511) (by decide) (fun _ => ?_) (fun z => absurd (lg_cmp_self _) z)
    refine a_goto K dL_law_511 (tgt := 2036) (by decide) ?_
    refine aw_locl (lv2 := lvL b (v 4) (m 33) ow (nI (6 * c))) rfl ?_
    exact q _ _ _ (LI.mk (by omega) hC2 hM2 (by omega) (by omega) (hJ.up (Nat.le_add_right _ 20)) ow2.1 ow2.2 (by omega) (by omega))
  · have hM1 := RM_kM hM (T.kM kX)
    have ow1 := T.ow kX o1 n1
    refine a_istore K dL_law_463 (by decide) ?_
    refine a_aload_n K dL_law_465 rfl ?_
    refine a_arg T (j := 1) hc (by decide) (by decide) rfl rfl dL_law_466 dL_law_467 dL_law_469 dL_law_470 dL_law_471 ?_
    refine a_arg T (j := 2) hc (by decide) (by decide) rfl rfl dL_law_472 dL_law_473 dL_law_475 dL_law_476 dL_law_477 ?_
    refine a_invV K (q_key hM1 hJ (i := xs (6 * c + 1)) (k := xs (6 * c + 2))) my_X11_key ml_L_51 im_X11_key se_X11_key (ci := 11) (lm_o hM1.1) (by decide) ⟨_, _, rfl⟩ rfl (by omega) (by omega) (by omega) rfl (Nat.le_of_ble_eq_true rfl) dL_law_478 ?_
    intro r S2 hp
    obtain ⟨hp, hM2, f⟩ := hp
    have hC2 := hC1.own f T.mX
    have ow2 := frS.ow f ow1
    obtain ⟨hw2, ⟨w2, rfl⟩, e7⟩ := Or.resolve_left hp (fun ⟨w2, z, _⟩ => nomatch hw.symm.trans z)
    refine a_istore K dL_law_481 (by decide) ?_
    refine a_aload_n K dL_law_483 rfl ?_
    refine a_invV K (q_thrown hM2.1) my_X11_thrown ml_L_52 im_X11_thrown se_X11_thrown (ci := 11) (lm_o hM2.1) (by decide) ⟨_, _, rfl⟩ rfl (by omega) (by omega) (by omega) rfl (Nat.le_of_ble_eq_true rfl) dL_law_484 ?_
    intro r S3 hp
    obtain ⟨rfl, hS3⟩ := hp
    obtain rfl := hS3.symm
    refine a_iload K dL_law_487 rfl ?_
    refine a_icmp_eq K dL_law_489 (tgt := 494) (by decide) (fun _ => ?_) (fun z => absurd e7 z)
    refine a_iload K dL_law_494 rfl ?_
    refine a_if_ne K dL_law_496 (tgt := 511) (by decide) (fun _ => ?_) (fun z => absurd z (by decide))
    refine a_goto K dL_law_511 (tgt := 2036) (by decide) ?_
    refine aw_locl (lv2 := lvL b (v 4) (m 33) ow (nI (6 * c))) rfl ?_
    exact q _ _ _ (LI.mk (by omega) hC2 hM2 (by omega) (by omega) (hJ.up (Nat.le_add_right _ 20)) ow2.1 ow2.2 (by omega) (by omega))
