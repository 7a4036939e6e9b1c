/-! p23: the law gives commands -/

set_option maxHeartbeats 4000000 in
set_option maxRecDepth 20000 in
theorem c_L_commands (s : Nat → Int → Int) (gg hh : Int) (hx : XI s) : ab_Mt yL_commands cL_commands 11 (some .boolean) ({ frames := 9, cells := 0, slots := 0, locals := 200 } : Room) false 0 0 [.inr (some 0), .inl gg, .inl hh] (WW s) (fun r h2 => r = some (.inl 1) ∧ ∃ t, h2 = WW t ∧ XI t) := by
  refine ab_mk RL false rfl pn_L_commands (fun z => by cases z) (Nat.le_of_ble_eq_true rfl) (fun V hV => ?_)
  show V 0 [some (.inr (some 0)), some (.inl gg), some (.inl hh), none, none, none, none, none, none, none, none] [] (WW s) 0 0
  refine rb_iload_n hV dL_commands_0 rfl rfl ?_
  refine rb_iconst hV dL_commands_1 ?_
  refine rb_callS hV (rest := []) dL_commands_2 (c_L_low s gg 4 (by omega)) lk_L_9 rfl rfl ⟨rfl, rfl, (Nat.le_of_ble_eq_true rfl), (Nat.le_of_ble_eq_true rfl), (Nat.le_of_ble_eq_true rfl), (Nat.le_of_ble_eq_true rfl)⟩ (Nat.le_of_ble_eq_true rfl) (fun r9 h9 p9 => ?_)
  obtain ⟨o2, rfl, rfl, ho2⟩ := p9
  show V 5 [some (.inr (some 0)), some (.inl gg), some (.inl hh), none, none, none, none, none, none, none, none] [.inl o2] (WW s) 0 0
  refine rb_istore_n hV (L2 := [some (.inr (some 0)), some (.inl gg), some (.inl hh), some (.inl o2), none, none, none, none, none, none, none]) dL_commands_5 rfl (Nat.le_of_ble_eq_true rfl) rfl ?_
  rcases (show o2 = 0 ∨ o2 = 1 ∨ o2 = 2 ∨ o2 = 3 by omega) with rfl | rfl | rfl | rfl
  · refine rb_iload_n hV dL_commands_6 rfl rfl ?_
    refine rb_if_ne hV (tgt := 15) dL_commands_7 (by decide) (by unfold ab_r at *; omega) (fun z => absurd z (by decide)) (fun _ => ?_)
    refine rb_bipush hV dL_commands_10 (by decide) ?_
    refine rb_goto hV (tgt := 25) dL_commands_12 (by decide) ?_
    refine rb_istore hV (L2 := [some (.inr (some 0)), some (.inl gg), some (.inl hh), some (.inl 0), some (.inl 7), none, none, none, none, none, none]) dL_commands_25 (Nat.le_of_ble_eq_true rfl) rfl ?_
    refine rb_aload_n hV dL_commands_27 rfl rfl ?_
    refine rb_iload_n hV dL_commands_28 rfl rfl ?_
    refine rb_callS hV (rest := []) dL_commands_29 (c_L_word s 0 (by decide) hx) lk_L_78 rfl rfl ⟨rfl, rfl, (Nat.le_of_ble_eq_true rfl), (Nat.le_of_ble_eq_true rfl), (Nat.le_of_ble_eq_true rfl), (Nat.le_of_ble_eq_true rfl)⟩ (Nat.le_of_ble_eq_true rfl) (fun r9 h9 p9 => ?_)
    obtain ⟨rfl, t29, rfl, hx29, hk29, tx29⟩ := p9
    show V 32 [some (.inr (some 0)), some (.inl gg), some (.inl hh), some (.inl 0), some (.inl 7), none, none, none, none, none, none] [] (WW t29) 0 0
    refine rb_aload_n hV dL_commands_32 rfl rfl ?_
    refine rb_callV hV (rest := []) dL_commands_33 (c_X9_command t29 hx29) lk_L_81 rfl (Or.inl ⟨8, _, TX9, 8, gw_0 _, rfl⟩) rfl ⟨rfl, rfl, (Nat.le_of_ble_eq_true rfl), (Nat.le_of_ble_eq_true rfl), (Nat.le_of_ble_eq_true rfl), (Nat.le_of_ble_eq_true rfl)⟩ (Nat.le_of_ble_eq_true rfl) (fun r9 h9 p9 => ?_)
    obtain ⟨m33, rfl, rfl, hx33, hk33⟩ := CMD_bad (f := 7) (show _ = (7 : Int) from PR_w (a := 0) (by decide) tx29) (by decide) p9
    have txm33 := TXL_of tx29 (hk33 22 (by decide)) (hk33 104 (by decide))
    show V 36 [some (.inr (some 0)), some (.inl gg), some (.inl hh), some (.inl 0), some (.inl 7), none, none, none, none, none, none] [.inl (-100 - 7)] (WW m33) 0 0
    refine rb_bipush hV dL_commands_36 (by decide) ?_
    refine rb_iload hV dL_commands_38 rfl ?_
    refine rb_isub hV dL_commands_40 ?_
    refine rb_icmp_eq hV (tgt := 46) dL_commands_41 (by decide) ⟨(by unfold ab_r at *; omega), (by unfold ab_r at *; omega)⟩ (fun c41 => ?_) (fun c41 => absurd c41 (by omega))
    refine rb_iload_n hV dL_commands_46 rfl rfl ?_
    refine rb_iconst hV dL_commands_47 ?_
    refine rb_icmp_ne hV (tgt := 281) dL_commands_48 (by decide) ⟨(by unfold ab_r at *; omega), (by unfold ab_r at *; omega)⟩ (fun _ => ?_) (fun z => absurd z (by decide))
    refine rb_iload_n hV dL_commands_281 rfl rfl ?_
    refine rb_if_ne hV (tgt := 291) dL_commands_282 (by decide) (by unfold ab_r at *; omega) (fun z => absurd z (by decide)) (fun _ => ?_)
    refine rb_sipush hV dL_commands_285 (by decide) ?_
    refine rb_goto hV (tgt := 303) dL_commands_288 (by decide) ?_
    refine rb_istore hV (L2 := [some (.inr (some 0)), some (.inl gg), some (.inl hh), some (.inl 0), some (.inl 7), some (.inl 200), none, none, none, none, none]) dL_commands_303 (Nat.le_of_ble_eq_true rfl) rfl ?_
    refine rb_iload_n hV dL_commands_305 rfl rfl ?_
    refine rb_if_ne hV (tgt := 322) dL_commands_306 (by decide) (by unfold ab_r at *; omega) (fun z => absurd z (by decide)) (fun _ => ?_)
    refine rb_bipush hV dL_commands_309 (by decide) ?_
    refine rb_iload_n hV dL_commands_311 rfl rfl ?_
    refine rb_sipush hV dL_commands_312 (by decide) ?_
    refine rb_callS hV (rest := [.inl 10]) dL_commands_315 (c_L_low m33 hh 191 (by omega)) lk_L_9 rfl rfl ⟨rfl, rfl, (Nat.le_of_ble_eq_true rfl), (Nat.le_of_ble_eq_true rfl), (Nat.le_of_ble_eq_true rfl), (Nat.le_of_ble_eq_true rfl)⟩ (Nat.le_of_ble_eq_true rfl) (fun r9 h9 p9 => ?_)
    obtain ⟨o315, rfl, rfl, ho315⟩ := p9
    show V 318 [some (.inr (some 0)), some (.inl gg), some (.inl hh), some (.inl 0), some (.inl 7), some (.inl 200), none, none, none, none, none] [.inl o315, .inl 10] (WW m33) 0 0
    refine rb_iadd hV dL_commands_318 ?_
    refine rb_goto hV (tgt := 330) dL_commands_319 (by decide) ?_
    refine rb_istore hV (L2 := [some (.inr (some 0)), some (.inl gg), some (.inl hh), some (.inl 0), some (.inl 7), some (.inl 200), some (.inl (10 + o315)), none, none, none, none]) dL_commands_330 (Nat.le_of_ble_eq_true rfl) rfl ?_
    refine rb_aload_n hV dL_commands_332 rfl rfl ?_
    refine rb_bipush hV dL_commands_333 (by decide) ?_
    refine rb_iload_n hV dL_commands_335 rfl rfl ?_
    refine rb_iadd hV dL_commands_336 ?_
    have hwl : (wrd 0).length = 7 := rfl
    have bw : 10 ≤ m33 100 0 ∧ m33 100 0 ≤ 200 := hx33.1.2.2.1
    refine rb_callV hV (rest := []) dL_commands_337 (c_X9_count m33 (7 + 0) (by unfold ab_r at *; omega) hx33) lk_L_36 rfl (Or.inl ⟨8, _, TX9, 8, gw_0 _, rfl⟩) rfl ⟨rfl, rfl, (Nat.le_of_ble_eq_true rfl), (Nat.le_of_ble_eq_true rfl), (Nat.le_of_ble_eq_true rfl), (Nat.le_of_ble_eq_true rfl)⟩ (Nat.le_of_ble_eq_true rfl) (fun r9 h9 p9 => ?_)
    obtain ⟨rfl, rfl⟩ : r9 = some (.inl (m33 100 0)) ∧ h9 = WW m33 := ⟨p9.1.trans (congrArg (fun z : Int => (some (Sum.inl z) : Option ab_V)) (show xcount m33 (7 + 0) = m33 100 0 from rfl)), p9.2⟩
    show V 340 [some (.inr (some 0)), some (.inl gg), some (.inl hh), some (.inl 0), some (.inl 7), some (.inl 200), some (.inl (10 + o315)), none, none, none, none] [.inl (m33 100 0)] (WW m33) 0 0
    refine rb_istore hV (L2 := [some (.inr (some 0)), some (.inl gg), some (.inl hh), some (.inl 0), some (.inl 7), some (.inl 200), some (.inl (10 + o315)), some (.inl (m33 100 0)), none, none, none]) dL_commands_340 (Nat.le_of_ble_eq_true rfl) rfl ?_
    refine rb_aload_n hV dL_commands_342 rfl rfl ?_
    refine rb_iload hV dL_commands_343 rfl ?_
    refine rb_iconst hV dL_commands_345 ?_
    refine rb_iadd hV dL_commands_346 ?_
    refine rb_callS hV (rest := []) dL_commands_347 (c_L_number m33 (200 + 1) _ (by omega) (by first | omega | (simp only [List.length_append, List.length_cons, List.length_nil]; omega)) txm33 hx33) lk_L_84 rfl rfl ⟨rfl, rfl, (Nat.le_of_ble_eq_true rfl), (Nat.le_of_ble_eq_true rfl), (Nat.le_of_ble_eq_true rfl), (Nat.le_of_ble_eq_true rfl)⟩ (Nat.le_of_ble_eq_true rfl) (fun r9 h9 p9 => ?_)
    obtain ⟨rfl, t347, e347, rfl, hx347, hk347, tx347, dg347⟩ := p9
    have dl347 := (DG_b dg347).2
    show V 350 [some (.inr (some 0)), some (.inl gg), some (.inl hh), some (.inl 0), some (.inl 7), some (.inl 200), some (.inl (10 + o315)), some (.inl (m33 100 0)), none, none, none] [] (WW t347) 0 0
    refine rb_aload_n hV dL_commands_350 rfl rfl ?_
    refine rb_callV hV (rest := []) dL_commands_351 (c_X9_command t347 hx347) lk_L_81 rfl (Or.inl ⟨8, _, TX9, 8, gw_0 _, rfl⟩) rfl ⟨rfl, rfl, (Nat.le_of_ble_eq_true rfl), (Nat.le_of_ble_eq_true rfl), (Nat.le_of_ble_eq_true rfl), (Nat.le_of_ble_eq_true rfl)⟩ (Nat.le_of_ble_eq_true rfl) (fun r9 h9 p9 => ?_)
    obtain ⟨m351, rfl, rfl, hx351, hk351⟩ := CMD_bad (f := 8) (show _ = (8 : Int) from (PR_n (a := 0) (by decide) tx347 dg347).1 (by decide)) (by decide) p9
    have txm351 := TXL_of tx347 (hk351 22 (by decide)) (hk351 104 (by decide))
    show V 354 [some (.inr (some 0)), some (.inl gg), some (.inl hh), some (.inl 0), some (.inl 7), some (.inl 200), some (.inl (10 + o315)), some (.inl (m33 100 0)), none, none, none] [.inl (-100 - 8)] (WW m351) 0 0
    refine rb_bipush hV dL_commands_354 (by decide) ?_
    refine rb_iload hV dL_commands_356 rfl ?_
    refine rb_isub hV dL_commands_358 ?_
    refine rb_icmp_ne hV (tgt := 375) dL_commands_359 (by decide) ⟨(by unfold ab_r at *; omega), (by unfold ab_r at *; omega)⟩ (fun c359 => absurd c359 (by omega)) (fun c359 => ?_)
    refine rb_aload_n hV dL_commands_362 rfl rfl ?_
    refine rb_bipush hV dL_commands_363 (by decide) ?_
    refine rb_iload_n hV dL_commands_365 rfl rfl ?_
    refine rb_iadd hV dL_commands_366 ?_
    refine rb_callV hV (rest := []) dL_commands_367 (c_X9_count m351 (7 + 0) (by unfold ab_r at *; omega) hx351) lk_L_36 rfl (Or.inl ⟨8, _, TX9, 8, gw_0 _, rfl⟩) rfl ⟨rfl, rfl, (Nat.le_of_ble_eq_true rfl), (Nat.le_of_ble_eq_true rfl), (Nat.le_of_ble_eq_true rfl), (Nat.le_of_ble_eq_true rfl)⟩ (Nat.le_of_ble_eq_true rfl) (fun r9 h9 p9 => ?_)
    obtain ⟨rfl, rfl⟩ : r9 = some (.inl (m33 100 0)) ∧ h9 = WW m351 := ⟨p9.1.trans (congrArg (fun z : Int => (some (Sum.inl z) : Option ab_V)) (show xcount m351 (7 + 0) = m33 100 0 from (congrFun (hk351 100 (by decide)) 0).trans (congrFun (hk347 100 (by decide)) 0))), p9.2⟩
    show V 370 [some (.inr (some 0)), some (.inl gg), some (.inl hh), some (.inl 0), some (.inl 7), some (.inl 200), some (.inl (10 + o315)), some (.inl (m33 100 0)), none, none, none] [.inl (m33 100 0)] (WW m351) 0 0
    refine rb_iload hV dL_commands_370 rfl ?_
    refine rb_icmp_eq hV (tgt := 377) dL_commands_372 (by decide) ⟨(by unfold ab_r at *; omega), (by unfold ab_r at *; omega)⟩ (fun c372 => ?_) (fun c372 => absurd c372 (by omega))
    refine rb_aload_n hV dL_commands_377 rfl rfl ?_
    refine rb_iload_n hV dL_commands_378 rfl rfl ?_
    refine rb_callS hV (rest := []) dL_commands_379 (c_L_word m351 0 (by decide) hx351) lk_L_78 rfl rfl ⟨rfl, rfl, (Nat.le_of_ble_eq_true rfl), (Nat.le_of_ble_eq_true rfl), (Nat.le_of_ble_eq_true rfl), (Nat.le_of_ble_eq_true rfl)⟩ (Nat.le_of_ble_eq_true rfl) (fun r9 h9 p9 => ?_)
    obtain ⟨rfl, t379, rfl, hx379, hk379, tx379⟩ := p9
    show V 382 [some (.inr (some 0)), some (.inl gg), some (.inl hh), some (.inl 0), some (.inl 7), some (.inl 200), some (.inl (10 + o315)), some (.inl (m33 100 0)), none, none, none] [] (WW t379) 0 0
    refine rb_aload_n hV dL_commands_382 rfl rfl ?_
    refine rb_iload hV dL_commands_383 rfl ?_
    refine rb_callS hV (rest := []) dL_commands_385 (c_L_number t379 (10 + o315) _ (by omega) (by first | omega | (simp only [List.length_append, List.length_cons, List.length_nil]; omega)) tx379 hx379) lk_L_84 rfl rfl ⟨rfl, rfl, (Nat.le_of_ble_eq_true rfl), (Nat.le_of_ble_eq_true rfl), (Nat.le_of_ble_eq_true rfl), (Nat.le_of_ble_eq_true rfl)⟩ (Nat.le_of_ble_eq_true rfl) (fun r9 h9 p9 => ?_)
    obtain ⟨rfl, t385, e385, rfl, hx385, hk385, tx385, dg385⟩ := p9
    have dl385 := (DG_b dg385).2
    show V 388 [some (.inr (some 0)), some (.inl gg), some (.inl hh), some (.inl 0), some (.inl 7), some (.inl 200), some (.inl (10 + o315)), some (.inl (m33 100 0)), none, none, none] [] (WW t385) 0 0
    refine rb_aload_n hV dL_commands_388 rfl rfl ?_
    refine rb_callV hV (rest := []) dL_commands_389 (c_X9_command t385 hx385) lk_L_81 rfl (Or.inl ⟨8, _, TX9, 8, gw_0 _, rfl⟩) rfl ⟨rfl, rfl, (Nat.le_of_ble_eq_true rfl), (Nat.le_of_ble_eq_true rfl), (Nat.le_of_ble_eq_true rfl), (Nat.le_of_ble_eq_true rfl)⟩ (Nat.le_of_ble_eq_true rfl) (fun r9 h9 p9 => ?_)
    have hv0 : (if (0 : Int) = 0 then 10 else 0) ≤ (10 + o315) ∧ (10 + o315) ≤ tHi 0 := (by rw [if_pos rfl, show tHi 0 = 200 from rfl]; omega)
    obtain ⟨m389, rfl, rfl, hx389, hkk389, s0, s1, s2⟩ := CMD_set (a := 0) (by decide) ((PR_n (a := 0) (by decide) tx385 dg385).2 hv0) p9
    have txm389 := TXL_of tx385 hkk389.1 hkk389.2
    have bnl := hx389.2.2.2.1.1
    have bnw := hx389.1.1
    have e389 : vX m389 0 0 = m389 103 0 := rfl
    show V 392 [some (.inr (some 0)), some (.inl gg), some (.inl hh), some (.inl 0), some (.inl 7), some (.inl 200), some (.inl (10 + o315)), some (.inl (m33 100 0)), none, none, none] [.inl (m389 107 0)] (WW m389) 0 0
    refine rb_istore hV (L2 := [some (.inr (some 0)), some (.inl gg), some (.inl hh), some (.inl 0), some (.inl 7), some (.inl 200), some (.inl (10 + o315)), some (.inl (m33 100 0)), some (.inl (m389 107 0)), none, none]) dL_commands_392 (Nat.le_of_ble_eq_true rfl) rfl ?_
    refine rb_iload hV dL_commands_394 rfl ?_
    refine rb_aload_n hV dL_commands_396 rfl rfl ?_
    refine rb_iconst hV dL_commands_397 ?_
    refine rb_callV hV (rest := [.inl (m389 107 0)]) dL_commands_398 (c_X9_count m389 1 (by unfold ab_r at *; omega) hx389) lk_L_36 rfl (Or.inl ⟨8, _, TX9, 8, gw_0 _, rfl⟩) rfl ⟨rfl, rfl, (Nat.le_of_ble_eq_true rfl), (Nat.le_of_ble_eq_true rfl), (Nat.le_of_ble_eq_true rfl), (Nat.le_of_ble_eq_true rfl)⟩ (Nat.le_of_ble_eq_true rfl) (fun r9 h9 p9 => ?_)
    obtain ⟨rfl, rfl⟩ : r9 = some (.inl (m389 107 0)) ∧ h9 = WW m389 := ⟨p9.1.trans (congrArg (fun z : Int => (some (Sum.inl z) : Option ab_V)) rfl), p9.2⟩
    show V 401 [some (.inr (some 0)), some (.inl gg), some (.inl hh), some (.inl 0), some (.inl 7), some (.inl 200), some (.inl (10 + o315)), some (.inl (m33 100 0)), some (.inl (m389 107 0)), none, none] [.inl (m389 107 0), .inl (m389 107 0)] (WW m389) 0 0
    refine rb_icmp_ne hV (tgt := 417) dL_commands_401 (by decide) ⟨(by unfold ab_r at *; omega), (by unfold ab_r at *; omega)⟩ (fun c401 => absurd c401 (by omega)) (fun c401 => ?_)
    refine rb_aload_n hV dL_commands_404 rfl rfl ?_
    refine rb_bipush hV dL_commands_405 (by decide) ?_
    refine rb_iload_n hV dL_commands_407 rfl rfl ?_
    refine rb_iadd hV dL_commands_408 ?_
    refine rb_callV hV (rest := []) dL_commands_409 (c_X9_count m389 (7 + 0) (by unfold ab_r at *; omega) hx389) lk_L_36 rfl (Or.inl ⟨8, _, TX9, 8, gw_0 _, rfl⟩) rfl ⟨rfl, rfl, (Nat.le_of_ble_eq_true rfl), (Nat.le_of_ble_eq_true rfl), (Nat.le_of_ble_eq_true rfl), (Nat.le_of_ble_eq_true rfl)⟩ (Nat.le_of_ble_eq_true rfl) (fun r9 h9 p9 => ?_)
    obtain ⟨rfl, rfl⟩ : r9 = some (.inl (10 + o315)) ∧ h9 = WW m389 := ⟨p9.1.trans (congrArg (fun z : Int => (some (Sum.inl z) : Option ab_V)) (show xcount m389 (7 + 0) = (10 + o315) from s0 rfl)), p9.2⟩
    show V 412 [some (.inr (some 0)), some (.inl gg), some (.inl hh), some (.inl 0), some (.inl 7), some (.inl 200), some (.inl (10 + o315)), some (.inl (m33 100 0)), some (.inl (m389 107 0)), none, none] [.inl (10 + o315)] (WW m389) 0 0
    refine rb_iload hV dL_commands_412 rfl ?_
    refine rb_icmp_eq hV (tgt := 419) dL_commands_414 (by decide) ⟨(by unfold ab_r at *; omega), (by unfold ab_r at *; omega)⟩ (fun c414 => ?_) (fun c414 => absurd c414 (by omega))
    refine rb_aload_n hV dL_commands_419 rfl rfl ?_
    refine rb_bipush hV dL_commands_420 (by decide) ?_
    refine rb_callV hV (rest := []) dL_commands_422 (c_X9_type m389 32 (by decide) hx389) lk_L_29 rfl (Or.inl ⟨8, _, TX9, 8, gw_0 _, rfl⟩) rfl ⟨rfl, rfl, (Nat.le_of_ble_eq_true rfl), (Nat.le_of_ble_eq_true rfl), (Nat.le_of_ble_eq_true rfl), (Nat.le_of_ble_eq_true rfl)⟩ (Nat.le_of_ble_eq_true rfl) (fun r9 h9 p9 => ?_)
    obtain ⟨t422, v422, rfl, rfl, hx422, hk422, tx422⟩ := ty_ok txm389 (by first | omega | (simp only [List.length_append, List.length_cons, List.length_nil]; omega)) p9
    show V 425 [some (.inr (some 0)), some (.inl gg), some (.inl hh), some (.inl 0), some (.inl 7), some (.inl 200), some (.inl (10 + o315)), some (.inl (m33 100 0)), some (.inl (m389 107 0)), none, none] [.inl v422] (WW t422) 0 0
    refine rb_pop hV dL_commands_425 ?_
    refine rb_iload hV dL_commands_426 rfl ?_
    refine rb_bipush hV dL_commands_428 (by decide) ?_
    refine rb_icmp_le hV (tgt := 437) dL_commands_430 (by decide) ⟨(by unfold ab_r at *; omega), (by unfold ab_r at *; omega)⟩ (fun c430 => ?_) (fun c430 => ?_)
    · refine rb_iload hV dL_commands_437 rfl ?_
      refine rb_bipush hV dL_commands_439 (by decide) ?_
      refine rb_icmp_le hV (tgt := 448) dL_commands_441 (by decide) ⟨(by unfold ab_r at *; omega), (by unfold ab_r at *; omega)⟩ (fun c441 => ?_) (fun c441 => ?_)
      · refine rb_iconst hV dL_commands_448 ?_
        refine rb_istore hV (L2 := [some (.inr (some 0)), some (.inl gg), some (.inl hh), some (.inl 0), some (.inl 7), some (.inl 200), some (.inl (10 + o315)), some (.inl (m33 100 0)), some (.inl (m389 107 0)), some (.inl 1), none]) dL_commands_449 (Nat.le_of_ble_eq_true rfl) rfl ?_
        refine rb_aload_n hV dL_commands_451 rfl rfl ?_
        refine rb_callV hV (rest := []) dL_commands_452 (c_X9_command t422 hx422) lk_L_81 rfl (Or.inl ⟨8, _, TX9, 8, gw_0 _, rfl⟩) rfl ⟨rfl, rfl, (Nat.le_of_ble_eq_true rfl), (Nat.le_of_ble_eq_true rfl), (Nat.le_of_ble_eq_true rfl), (Nat.le_of_ble_eq_true rfl)⟩ (Nat.le_of_ble_eq_true rfl) (fun r9 h9 p9 => ?_)
        have f452 : (e385.length : Int) = 1 := by
          rw [dl385.2, if_neg (by omega), if_neg (by omega)]
        obtain ⟨m452, rfl, rfl, hx452, hk452⟩ := CMD_bad (f := 10) (show _ = (10 : Int) from (PR_b (a := 0) (by decide) tx422 dg385 hv0).trans (by rw [f452]; rfl)) (by decide) p9
        have txm452 := TXL_of tx422 (hk452 22 (by decide)) (hk452 104 (by decide))
        show V 455 [some (.inr (some 0)), some (.inl gg), some (.inl hh), some (.inl 0), some (.inl 7), some (.inl 200), some (.inl (10 + o315)), some (.inl (m33 100 0)), some (.inl (m389 107 0)), some (.inl 1), none] [.inl (-100 - 10)] (WW m452) 0 0
        refine rb_bipush hV dL_commands_455 (by decide) ?_
        refine rb_iload hV dL_commands_457 rfl ?_
        refine rb_isub hV dL_commands_459 ?_
        refine rb_iconst hV dL_commands_460 ?_
        refine rb_isub hV dL_commands_461 ?_
        refine rb_iload hV dL_commands_462 rfl ?_
        refine rb_isub hV dL_commands_464 ?_
        refine rb_iconst hV dL_commands_465 ?_
        refine rb_isub hV dL_commands_466 ?_
        refine rb_icmp_eq hV (tgt := 472) dL_commands_467 (by decide) ⟨(by unfold ab_r at *; omega), (by unfold ab_r at *; omega)⟩ (fun c467 => ?_) (fun c467 => absurd c467 (by omega))
        refine rb_iload_n hV dL_commands_472 rfl rfl ?_
        refine rb_if_ne hV (tgt := 485) dL_commands_473 (by decide) (by unfold ab_r at *; omega) (fun z => absurd z (by decide)) (fun _ => ?_)
        refine rb_aload_n hV dL_commands_476 rfl rfl ?_
        refine rb_iload hV dL_commands_477 rfl ?_
        refine rb_callV hV (rest := []) dL_commands_479 (c_X9_setMeasure m452 (m33 100 0) (by unfold ab_r at *; omega) hx452) lk_L_91 rfl (Or.inl ⟨8, _, TX9, 8, gw_0 _, rfl⟩) rfl ⟨rfl, rfl, (Nat.le_of_ble_eq_true rfl), (Nat.le_of_ble_eq_true rfl), (Nat.le_of_ble_eq_true rfl), (Nat.le_of_ble_eq_true rfl)⟩ (Nat.le_of_ble_eq_true rfl) (fun r9 h9 p9 => ?_)
        obtain ⟨m479, rfl, rfl, hx479, hk479⟩ : ∃ m, r9 = some (.inl (10 + o315)) ∧ h9 = WW m ∧ XI m ∧ KEEP RB (ab_s m452 100 (fun _ => m33 100 0)) m := by
          rcases p9 with ⟨q, -⟩ | ⟨-, m, q1, q2, q3, -, q5⟩
          · exact absurd bw q
          · exact ⟨m, by rw [q1, show m452 100 0 = (10 + o315) from (congrFun (hk452 100 (by decide)) 0).trans ((congrFun (hk422 100 (by decide)) 0).trans (s0 rfl))], q2, q3, q5⟩
        show V 482 [some (.inr (some 0)), some (.inl gg), some (.inl hh), some (.inl 0), some (.inl 7), some (.inl 200), some (.inl (10 + o315)), some (.inl (m33 100 0)), some (.inl (m389 107 0)), some (.inl 1), none] [.inl (10 + o315)] (WW m479) 0 0
        refine rb_goto hV (tgt := 505) dL_commands_482 (by decide) ?_
        refine rb_istore hV (L2 := [some (.inr (some 0)), some (.inl gg), some (.inl hh), some (.inl 0), some (.inl 7), some (.inl 200), some (.inl (10 + o315)), some (.inl (m33 100 0)), some (.inl (m389 107 0)), some (.inl 1), some (.inl (10 + o315))]) dL_commands_505 (Nat.le_of_ble_eq_true rfl) rfl ?_
        refine rb_iload hV dL_commands_507 rfl ?_
        refine rb_iload hV dL_commands_509 rfl ?_
        refine rb_icmp_ne hV (tgt := 567) dL_commands_511 (by decide) ⟨(by unfold ab_r at *; omega), (by unfold ab_r at *; omega)⟩ (fun c511 => absurd c511 (by omega)) (fun c511 => ?_)
        refine rb_aload_n hV dL_commands_514 rfl rfl ?_
        refine rb_bipush hV dL_commands_515 (by decide) ?_
        refine rb_iload_n hV dL_commands_517 rfl rfl ?_
        refine rb_iadd hV dL_commands_518 ?_
        refine rb_callV hV (rest := []) dL_commands_519 (c_X9_count m479 (7 + 0) (by unfold ab_r at *; omega) hx479) lk_L_36 rfl (Or.inl ⟨8, _, TX9, 8, gw_0 _, rfl⟩) rfl ⟨rfl, rfl, (Nat.le_of_ble_eq_true rfl), (Nat.le_of_ble_eq_true rfl), (Nat.le_of_ble_eq_true rfl), (Nat.le_of_ble_eq_true rfl)⟩ (Nat.le_of_ble_eq_true rfl) (fun r9 h9 p9 => ?_)
        obtain ⟨rfl, rfl⟩ : r9 = some (.inl (m33 100 0)) ∧ h9 = WW m479 := ⟨p9.1.trans (congrArg (fun z : Int => (some (Sum.inl z) : Option ab_V)) (show xcount m479 (7 + 0) = m33 100 0 from congrFun (hk479 100 (by decide)) 0)), p9.2⟩
        show V 522 [some (.inr (some 0)), some (.inl gg), some (.inl hh), some (.inl 0), some (.inl 7), some (.inl 200), some (.inl (10 + o315)), some (.inl (m33 100 0)), some (.inl (m389 107 0)), some (.inl 1), some (.inl (10 + o315))] [.inl (m33 100 0)] (WW m479) 0 0
        refine rb_iload hV dL_commands_522 rfl ?_
        refine rb_icmp_ne hV (tgt := 567) dL_commands_524 (by decide) ⟨(by unfold ab_r at *; omega), (by unfold ab_r at *; omega)⟩ (fun c524 => absurd c524 (by omega)) (fun c524 => ?_)
        refine rb_aload_n hV dL_commands_527 rfl rfl ?_
        refine rb_bipush hV dL_commands_528 (by decide) ?_
        refine rb_callV hV (rest := []) dL_commands_530 (c_X9_setMeasure m479 9 (by unfold ab_r at *; omega) hx479) lk_L_91 rfl (Or.inl ⟨8, _, TX9, 8, gw_0 _, rfl⟩) rfl ⟨rfl, rfl, (Nat.le_of_ble_eq_true rfl), (Nat.le_of_ble_eq_true rfl), (Nat.le_of_ble_eq_true rfl), (Nat.le_of_ble_eq_true rfl)⟩ (Nat.le_of_ble_eq_true rfl) (fun r9 h9 p9 => ?_)
        obtain ⟨rfl, rfl⟩ : r9 = some (.inl (-1002)) ∧ h9 = WW m479 := by
          rcases p9 with ⟨-, q⟩ | ⟨q, -⟩
          · exact q
          · omega
        show V 533 [some (.inr (some 0)), some (.inl gg), some (.inl hh), some (.inl 0), some (.inl 7), some (.inl 200), some (.inl (10 + o315)), some (.inl (m33 100 0)), some (.inl (m389 107 0)), some (.inl 1), some (.inl (10 + o315))] [.inl (-1002)] (WW m479) 0 0
        refine rb_sipush hV dL_commands_533 (by decide) ?_
        refine rb_icmp_ne hV (tgt := 567) dL_commands_536 (by decide) ⟨(by unfold ab_r at *; omega), (by unfold ab_r at *; omega)⟩ (fun z => absurd z (by decide)) (fun _ => ?_)
        refine rb_aload_n hV dL_commands_539 rfl rfl ?_
        refine rb_bipush hV dL_commands_540 (by decide) ?_
        refine rb_callV hV (rest := []) dL_commands_542 (c_X9_setHang m479 101 (by unfold ab_r at *; omega) hx479) lk_L_94 rfl (Or.inl ⟨8, _, TX9, 8, gw_0 _, rfl⟩) rfl ⟨rfl, rfl, (Nat.le_of_ble_eq_true rfl), (Nat.le_of_ble_eq_true rfl), (Nat.le_of_ble_eq_true rfl), (Nat.le_of_ble_eq_true rfl)⟩ (Nat.le_of_ble_eq_true rfl) (fun r9 h9 p9 => ?_)
        obtain ⟨rfl, rfl⟩ : r9 = some (.inl (-1002)) ∧ h9 = WW m479 := by
          rcases p9 with ⟨-, q⟩ | ⟨q, -⟩
          · exact q
          · omega
        show V 545 [some (.inr (some 0)), some (.inl gg), some (.inl hh), some (.inl 0), some (.inl 7), some (.inl 200), some (.inl (10 + o315)), some (.inl (m33 100 0)), some (.inl (m389 107 0)), some (.inl 1), some (.inl (10 + o315))] [.inl (-1002)] (WW m479) 0 0
        refine rb_sipush hV dL_commands_545 (by decide) ?_
        refine rb_icmp_ne hV (tgt := 567) dL_commands_548 (by decide) ⟨(by unfold ab_r at *; omega), (by unfold ab_r at *; omega)⟩ (fun z => absurd z (by decide)) (fun _ => ?_)
        refine rb_aload_n hV dL_commands_551 rfl rfl ?_
        refine rb_bipush hV dL_commands_552 (by decide) ?_
        refine rb_callV hV (rest := []) dL_commands_554 (c_X9_setTolerance m479 21 (by unfold ab_r at *; omega) hx479) lk_L_97 rfl (Or.inl ⟨8, _, TX9, 8, gw_0 _, rfl⟩) rfl ⟨rfl, rfl, (Nat.le_of_ble_eq_true rfl), (Nat.le_of_ble_eq_true rfl), (Nat.le_of_ble_eq_true rfl), (Nat.le_of_ble_eq_true rfl)⟩ (Nat.le_of_ble_eq_true rfl) (fun r9 h9 p9 => ?_)
        obtain ⟨rfl, rfl⟩ : r9 = some (.inl (-1002)) ∧ h9 = WW m479 := by
          rcases p9 with ⟨-, q⟩ | ⟨q, -⟩
          · exact q
          · omega
        show V 557 [some (.inr (some 0)), some (.inl gg), some (.inl hh), some (.inl 0), some (.inl 7), some (.inl 200), some (.inl (10 + o315)), some (.inl (m33 100 0)), some (.inl (m389 107 0)), some (.inl 1), some (.inl (10 + o315))] [.inl (-1002)] (WW m479) 0 0
        refine rb_sipush hV dL_commands_557 (by decide) ?_
        refine rb_icmp_ne hV (tgt := 567) dL_commands_560 (by decide) ⟨(by unfold ab_r at *; omega), (by unfold ab_r at *; omega)⟩ (fun z => absurd z (by decide)) (fun _ => ?_)
        refine rb_iconst hV dL_commands_563 ?_
        refine rb_goto hV (tgt := 568) dL_commands_564 (by decide) ?_
        refine rb_ret hV (r := some (.inl 1)) dL_commands_568 rfl ⟨(Nat.le_of_ble_eq_true rfl), (Nat.le_of_ble_eq_true rfl)⟩ (by first | exact Or.inl rfl | exact Or.inr rfl | omega) ?_
        exact ⟨rfl, _, rfl, hx479⟩
      · refine rb_iconst hV dL_commands_444 ?_
        refine rb_goto hV (tgt := 449) dL_commands_445 (by decide) ?_
        refine rb_istore hV (L2 := [some (.inr (some 0)), some (.inl gg), some (.inl hh), some (.inl 0), some (.inl 7), some (.inl 200), some (.inl (10 + o315)), some (.inl (m33 100 0)), some (.inl (m389 107 0)), some (.inl 2), none]) dL_commands_449 (Nat.le_of_ble_eq_true rfl) rfl ?_
        refine rb_aload_n hV dL_commands_451 rfl rfl ?_
        refine rb_callV hV (rest := []) dL_commands_452 (c_X9_command t422 hx422) lk_L_81 rfl (Or.inl ⟨8, _, TX9, 8, gw_0 _, rfl⟩) rfl ⟨rfl, rfl, (Nat.le_of_ble_eq_true rfl), (Nat.le_of_ble_eq_true rfl), (Nat.le_of_ble_eq_true rfl), (Nat.le_of_ble_eq_true rfl)⟩ (Nat.le_of_ble_eq_true rfl) (fun r9 h9 p9 => ?_)
        have f452 : (e385.length : Int) = 2 := by
          rw [dl385.2, if_neg (by omega), if_pos (by omega)]
        obtain ⟨m452, rfl, rfl, hx452, hk452⟩ := CMD_bad (f := 11) (show _ = (11 : Int) from (PR_b (a := 0) (by decide) tx422 dg385 hv0).trans (by rw [f452]; rfl)) (by decide) p9
        have txm452 := TXL_of tx422 (hk452 22 (by decide)) (hk452 104 (by decide))
        show V 455 [some (.inr (some 0)), some (.inl gg), some (.inl hh), some (.inl 0), some (.inl 7), some (.inl 200), some (.inl (10 + o315)), some (.inl (m33 100 0)), some (.inl (m389 107 0)), some (.inl 2), none] [.inl (-100 - 11)] (WW m452) 0 0
        refine rb_bipush hV dL_commands_455 (by decide) ?_
        refine rb_iload hV dL_commands_457 rfl ?_
        refine rb_isub hV dL_commands_459 ?_
        refine rb_iconst hV dL_commands_460 ?_
        refine rb_isub hV dL_commands_461 ?_
        refine rb_iload hV dL_commands_462 rfl ?_
        refine rb_isub hV dL_commands_464 ?_
        refine rb_iconst hV dL_commands_465 ?_
        refine rb_isub hV dL_commands_466 ?_
        refine rb_icmp_eq hV (tgt := 472) dL_commands_467 (by decide) ⟨(by unfold ab_r at *; omega), (by unfold ab_r at *; omega)⟩ (fun c467 => ?_) (fun c467 => absurd c467 (by omega))
        refine rb_iload_n hV dL_commands_472 rfl rfl ?_
        refine rb_if_ne hV (tgt := 485) dL_commands_473 (by decide) (by unfold ab_r at *; omega) (fun z => absurd z (by decide)) (fun _ => ?_)
        refine rb_aload_n hV dL_commands_476 rfl rfl ?_
        refine rb_iload hV dL_commands_477 rfl ?_
        refine rb_callV hV (rest := []) dL_commands_479 (c_X9_setMeasure m452 (m33 100 0) (by unfold ab_r at *; omega) hx452) lk_L_91 rfl (Or.inl ⟨8, _, TX9, 8, gw_0 _, rfl⟩) rfl ⟨rfl, rfl, (Nat.le_of_ble_eq_true rfl), (Nat.le_of_ble_eq_true rfl), (Nat.le_of_ble_eq_true rfl), (Nat.le_of_ble_eq_true rfl)⟩ (Nat.le_of_ble_eq_true rfl) (fun r9 h9 p9 => ?_)
        obtain ⟨m479, rfl, rfl, hx479, hk479⟩ : ∃ m, r9 = some (.inl (10 + o315)) ∧ h9 = WW m ∧ XI m ∧ KEEP RB (ab_s m452 100 (fun _ => m33 100 0)) m := by
          rcases p9 with ⟨q, -⟩ | ⟨-, m, q1, q2, q3, -, q5⟩
          · exact absurd bw q
          · exact ⟨m, by rw [q1, show m452 100 0 = (10 + o315) from (congrFun (hk452 100 (by decide)) 0).trans ((congrFun (hk422 100 (by decide)) 0).trans (s0 rfl))], q2, q3, q5⟩
        show V 482 [some (.inr (some 0)), some (.inl gg), some (.inl hh), some (.inl 0), some (.inl 7), some (.inl 200), some (.inl (10 + o315)), some (.inl (m33 100 0)), some (.inl (m389 107 0)), some (.inl 2), none] [.inl (10 + o315)] (WW m479) 0 0
        refine rb_goto hV (tgt := 505) dL_commands_482 (by decide) ?_
        refine rb_istore hV (L2 := [some (.inr (some 0)), some (.inl gg), some (.inl hh), some (.inl 0), some (.inl 7), some (.inl 200), some (.inl (10 + o315)), some (.inl (m33 100 0)), some (.inl (m389 107 0)), some (.inl 2), some (.inl (10 + o315))]) dL_commands_505 (Nat.le_of_ble_eq_true rfl) rfl ?_
        refine rb_iload hV dL_commands_507 rfl ?_
        refine rb_iload hV dL_commands_509 rfl ?_
        refine rb_icmp_ne hV (tgt := 567) dL_commands_511 (by decide) ⟨(by unfold ab_r at *; omega), (by unfold ab_r at *; omega)⟩ (fun c511 => absurd c511 (by omega)) (fun c511 => ?_)
        refine rb_aload_n hV dL_commands_514 rfl rfl ?_
        refine rb_bipush hV dL_commands_515 (by decide) ?_
        refine rb_iload_n hV dL_commands_517 rfl rfl ?_
        refine rb_iadd hV dL_commands_518 ?_
        refine rb_callV hV (rest := []) dL_commands_519 (c_X9_count m479 (7 + 0) (by unfold ab_r at *; omega) hx479) lk_L_36 rfl (Or.inl ⟨8, _, TX9, 8, gw_0 _, rfl⟩) rfl ⟨rfl, rfl, (Nat.le_of_ble_eq_true rfl), (Nat.le_of_ble_eq_true rfl), (Nat.le_of_ble_eq_true rfl), (Nat.le_of_ble_eq_true rfl)⟩ (Nat.le_of_ble_eq_true rfl) (fun r9 h9 p9 => ?_)
        obtain ⟨rfl, rfl⟩ : r9 = some (.inl (m33 100 0)) ∧ h9 = WW m479 := ⟨p9.1.trans (congrArg (fun z : Int => (some (Sum.inl z) : Option ab_V)) (show xcount m479 (7 + 0) = m33 100 0 from congrFun (hk479 100 (by decide)) 0)), p9.2⟩
        show V 522 [some (.inr (some 0)), some (.inl gg), some (.inl hh), some (.inl 0), some (.inl 7), some (.inl 200), some (.inl (10 + o315)), some (.inl (m33 100 0)), some (.inl (m389 107 0)), some (.inl 2), some (.inl (10 + o315))] [.inl (m33 100 0)] (WW m479) 0 0
        refine rb_iload hV dL_commands_522 rfl ?_
        refine rb_icmp_ne hV (tgt := 567) dL_commands_524 (by decide) ⟨(by unfold ab_r at *; omega), (by unfold ab_r at *; omega)⟩ (fun c524 => absurd c524 (by omega)) (fun c524 => ?_)
        refine rb_aload_n hV dL_commands_527 rfl rfl ?_
        refine rb_bipush hV dL_commands_528 (by decide) ?_
        refine rb_callV hV (rest := []) dL_commands_530 (c_X9_setMeasure m479 9 (by unfold ab_r at *; omega) hx479) lk_L_91 rfl (Or.inl ⟨8, _, TX9, 8, gw_0 _, rfl⟩) rfl ⟨rfl, rfl, (Nat.le_of_ble_eq_true rfl), (Nat.le_of_ble_eq_true rfl), (Nat.le_of_ble_eq_true rfl), (Nat.le_of_ble_eq_true rfl)⟩ (Nat.le_of_ble_eq_true rfl) (fun r9 h9 p9 => ?_)
        obtain ⟨rfl, rfl⟩ : r9 = some (.inl (-1002)) ∧ h9 = WW m479 := by
          rcases p9 with ⟨-, q⟩ | ⟨q, -⟩
          · exact q
          · omega
        show V 533 [some (.inr (some 0)), some (.inl gg), some (.inl hh), some (.inl 0), some (.inl 7), some (.inl 200), some (.inl (10 + o315)), some (.inl (m33 100 0)), some (.inl (m389 107 0)), some (.inl 2), some (.inl (10 + o315))] [.inl (-1002)] (WW m479) 0 0
        refine rb_sipush hV dL_commands_533 (by decide) ?_
        refine rb_icmp_ne hV (tgt := 567) dL_commands_536 (by decide) ⟨(by unfold ab_r at *; omega), (by unfold ab_r at *; omega)⟩ (fun z => absurd z (by decide)) (fun _ => ?_)
        refine rb_aload_n hV dL_commands_539 rfl rfl ?_
        refine rb_bipush hV dL_commands_540 (by decide) ?_
        refine rb_callV hV (rest := []) dL_commands_542 (c_X9_setHang m479 101 (by unfold ab_r at *; omega) hx479) lk_L_94 rfl (Or.inl ⟨8, _, TX9, 8, gw_0 _, rfl⟩) rfl ⟨rfl, rfl, (Nat.le_of_ble_eq_true rfl), (Nat.le_of_ble_eq_true rfl), (Nat.le_of_ble_eq_true rfl), (Nat.le_of_ble_eq_true rfl)⟩ (Nat.le_of_ble_eq_true rfl) (fun r9 h9 p9 => ?_)
        obtain ⟨rfl, rfl⟩ : r9 = some (.inl (-1002)) ∧ h9 = WW m479 := by
          rcases p9 with ⟨-, q⟩ | ⟨q, -⟩
          · exact q
          · omega
        show V 545 [some (.inr (some 0)), some (.inl gg), some (.inl hh), some (.inl 0), some (.inl 7), some (.inl 200), some (.inl (10 + o315)), some (.inl (m33 100 0)), some (.inl (m389 107 0)), some (.inl 2), some (.inl (10 + o315))] [.inl (-1002)] (WW m479) 0 0
        refine rb_sipush hV dL_commands_545 (by decide) ?_
        refine rb_icmp_ne hV (tgt := 567) dL_commands_548 (by decide) ⟨(by unfold ab_r at *; omega), (by unfold ab_r at *; omega)⟩ (fun z => absurd z (by decide)) (fun _ => ?_)
        refine rb_aload_n hV dL_commands_551 rfl rfl ?_
        refine rb_bipush hV dL_commands_552 (by decide) ?_
        refine rb_callV hV (rest := []) dL_commands_554 (c_X9_setTolerance m479 21 (by unfold ab_r at *; omega) hx479) lk_L_97 rfl (Or.inl ⟨8, _, TX9, 8, gw_0 _, rfl⟩) rfl ⟨rfl, rfl, (Nat.le_of_ble_eq_true rfl), (Nat.le_of_ble_eq_true rfl), (Nat.le_of_ble_eq_true rfl), (Nat.le_of_ble_eq_true rfl)⟩ (Nat.le_of_ble_eq_true rfl) (fun r9 h9 p9 => ?_)
        obtain ⟨rfl, rfl⟩ : r9 = some (.inl (-1002)) ∧ h9 = WW m479 := by
          rcases p9 with ⟨-, q⟩ | ⟨q, -⟩
          · exact q
          · omega
        show V 557 [some (.inr (some 0)), some (.inl gg), some (.inl hh), some (.inl 0), some (.inl 7), some (.inl 200), some (.inl (10 + o315)), some (.inl (m33 100 0)), some (.inl (m389 107 0)), some (.inl 2), some (.inl (10 + o315))] [.inl (-1002)] (WW m479) 0 0
        refine rb_sipush hV dL_commands_557 (by decide) ?_
        refine rb_icmp_ne hV (tgt := 567) dL_commands_560 (by decide) ⟨(by unfold ab_r at *; omega), (by unfold ab_r at *; omega)⟩ (fun z => absurd z (by decide)) (fun _ => ?_)
        refine rb_iconst hV dL_commands_563 ?_
        refine rb_goto hV (tgt := 568) dL_commands_564 (by decide) ?_
        refine rb_ret hV (r := some (.inl 1)) dL_commands_568 rfl ⟨(Nat.le_of_ble_eq_true rfl), (Nat.le_of_ble_eq_true rfl)⟩ (by first | exact Or.inl rfl | exact Or.inr rfl | omega) ?_
        exact ⟨rfl, _, rfl, hx479⟩
    · refine rb_iconst hV dL_commands_433 ?_
      refine rb_goto hV (tgt := 449) dL_commands_434 (by decide) ?_
      refine rb_istore hV (L2 := [some (.inr (some 0)), some (.inl gg), some (.inl hh), some (.inl 0), some (.inl 7), some (.inl 200), some (.inl (10 + o315)), some (.inl (m33 100 0)), some (.inl (m389 107 0)), some (.inl 3), none]) dL_commands_449 (Nat.le_of_ble_eq_true rfl) rfl ?_
      refine rb_aload_n hV dL_commands_451 rfl rfl ?_
      refine rb_callV hV (rest := []) dL_commands_452 (c_X9_command t422 hx422) lk_L_81 rfl (Or.inl ⟨8, _, TX9, 8, gw_0 _, rfl⟩) rfl ⟨rfl, rfl, (Nat.le_of_ble_eq_true rfl), (Nat.le_of_ble_eq_true rfl), (Nat.le_of_ble_eq_true rfl), (Nat.le_of_ble_eq_true rfl)⟩ (Nat.le_of_ble_eq_true rfl) (fun r9 h9 p9 => ?_)
      have f452 : (e385.length : Int) = 3 := by
        rw [dl385.2, if_pos (by omega)]
      obtain ⟨m452, rfl, rfl, hx452, hk452⟩ := CMD_bad (f := 12) (show _ = (12 : Int) from (PR_b (a := 0) (by decide) tx422 dg385 hv0).trans (by rw [f452]; rfl)) (by decide) p9
      have txm452 := TXL_of tx422 (hk452 22 (by decide)) (hk452 104 (by decide))
      show V 455 [some (.inr (some 0)), some (.inl gg), some (.inl hh), some (.inl 0), some (.inl 7), some (.inl 200), some (.inl (10 + o315)), some (.inl (m33 100 0)), some (.inl (m389 107 0)), some (.inl 3), none] [.inl (-100 - 12)] (WW m452) 0 0
      refine rb_bipush hV dL_commands_455 (by decide) ?_
      refine rb_iload hV dL_commands_457 rfl ?_
      refine rb_isub hV dL_commands_459 ?_
      refine rb_iconst hV dL_commands_460 ?_
      refine rb_isub hV dL_commands_461 ?_
      refine rb_iload hV dL_commands_462 rfl ?_
      refine rb_isub hV dL_commands_464 ?_
      refine rb_iconst hV dL_commands_465 ?_
      refine rb_isub hV dL_commands_466 ?_
      refine rb_icmp_eq hV (tgt := 472) dL_commands_467 (by decide) ⟨(by unfold ab_r at *; omega), (by unfold ab_r at *; omega)⟩ (fun c467 => ?_) (fun c467 => absurd c467 (by omega))
      refine rb_iload_n hV dL_commands_472 rfl rfl ?_
      refine rb_if_ne hV (tgt := 485) dL_commands_473 (by decide) (by unfold ab_r at *; omega) (fun z => absurd z (by decide)) (fun _ => ?_)
      refine rb_aload_n hV dL_commands_476 rfl rfl ?_
      refine rb_iload hV dL_commands_477 rfl ?_
      refine rb_callV hV (rest := []) dL_commands_479 (c_X9_setMeasure m452 (m33 100 0) (by unfold ab_r at *; omega) hx452) lk_L_91 rfl (Or.inl ⟨8, _, TX9, 8, gw_0 _, rfl⟩) rfl ⟨rfl, rfl, (Nat.le_of_ble_eq_true rfl), (Nat.le_of_ble_eq_true rfl), (Nat.le_of_ble_eq_true rfl), (Nat.le_of_ble_eq_true rfl)⟩ (Nat.le_of_ble_eq_true rfl) (fun r9 h9 p9 => ?_)
      obtain ⟨m479, rfl, rfl, hx479, hk479⟩ : ∃ m, r9 = some (.inl (10 + o315)) ∧ h9 = WW m ∧ XI m ∧ KEEP RB (ab_s m452 100 (fun _ => m33 100 0)) m := by
        rcases p9 with ⟨q, -⟩ | ⟨-, m, q1, q2, q3, -, q5⟩
        · exact absurd bw q
        · exact ⟨m, by rw [q1, show m452 100 0 = (10 + o315) from (congrFun (hk452 100 (by decide)) 0).trans ((congrFun (hk422 100 (by decide)) 0).trans (s0 rfl))], q2, q3, q5⟩
      show V 482 [some (.inr (some 0)), some (.inl gg), some (.inl hh), some (.inl 0), some (.inl 7), some (.inl 200), some (.inl (10 + o315)), some (.inl (m33 100 0)), some (.inl (m389 107 0)), some (.inl 3), none] [.inl (10 + o315)] (WW m479) 0 0
      refine rb_goto hV (tgt := 505) dL_commands_482 (by decide) ?_
      refine rb_istore hV (L2 := [some (.inr (some 0)), some (.inl gg), some (.inl hh), some (.inl 0), some (.inl 7), some (.inl 200), some (.inl (10 + o315)), some (.inl (m33 100 0)), some (.inl (m389 107 0)), some (.inl 3), some (.inl (10 + o315))]) dL_commands_505 (Nat.le_of_ble_eq_true rfl) rfl ?_
      refine rb_iload hV dL_commands_507 rfl ?_
      refine rb_iload hV dL_commands_509 rfl ?_
      refine rb_icmp_ne hV (tgt := 567) dL_commands_511 (by decide) ⟨(by unfold ab_r at *; omega), (by unfold ab_r at *; omega)⟩ (fun c511 => absurd c511 (by omega)) (fun c511 => ?_)
      refine rb_aload_n hV dL_commands_514 rfl rfl ?_
      refine rb_bipush hV dL_commands_515 (by decide) ?_
      refine rb_iload_n hV dL_commands_517 rfl rfl ?_
      refine rb_iadd hV dL_commands_518 ?_
      refine rb_callV hV (rest := []) dL_commands_519 (c_X9_count m479 (7 + 0) (by unfold ab_r at *; omega) hx479) lk_L_36 rfl (Or.inl ⟨8, _, TX9, 8, gw_0 _, rfl⟩) rfl ⟨rfl, rfl, (Nat.le_of_ble_eq_true rfl), (Nat.le_of_ble_eq_true rfl), (Nat.le_of_ble_eq_true rfl), (Nat.le_of_ble_eq_true rfl)⟩ (Nat.le_of_ble_eq_true rfl) (fun r9 h9 p9 => ?_)
      obtain ⟨rfl, rfl⟩ : r9 = some (.inl (m33 100 0)) ∧ h9 = WW m479 := ⟨p9.1.trans (congrArg (fun z : Int => (some (Sum.inl z) : Option ab_V)) (show xcount m479 (7 + 0) = m33 100 0 from congrFun (hk479 100 (by decide)) 0)), p9.2⟩
      show V 522 [some (.inr (some 0)), some (.inl gg), some (.inl hh), some (.inl 0), some (.inl 7), some (.inl 200), some (.inl (10 + o315)), some (.inl (m33 100 0)), some (.inl (m389 107 0)), some (.inl 3), some (.inl (10 + o315))] [.inl (m33 100 0)] (WW m479) 0 0
      refine rb_iload hV dL_commands_522 rfl ?_
      refine rb_icmp_ne hV (tgt := 567) dL_commands_524 (by decide) ⟨(by unfold ab_r at *; omega), (by unfold ab_r at *; omega)⟩ (fun c524 => absurd c524 (by omega)) (fun c524 => ?_)
      refine rb_aload_n hV dL_commands_527 rfl rfl ?_
      refine rb_bipush hV dL_commands_528 (by decide) ?_
      refine rb_callV hV (rest := []) dL_commands_530 (c_X9_setMeasure m479 9 (by unfold ab_r at *; omega) hx479) lk_L_91 rfl (Or.inl ⟨8, _, TX9, 8, gw_0 _, rfl⟩) rfl ⟨rfl, rfl, (Nat.le_of_ble_eq_true rfl), (Nat.le_of_ble_eq_true rfl), (Nat.le_of_ble_eq_true rfl), (Nat.le_of_ble_eq_true rfl)⟩ (Nat.le_of_ble_eq_true rfl) (fun r9 h9 p9 => ?_)
      obtain ⟨rfl, rfl⟩ : r9 = some (.inl (-1002)) ∧ h9 = WW m479 := by
        rcases p9 with ⟨-, q⟩ | ⟨q, -⟩
        · exact q
        · omega
      show V 533 [some (.inr (some 0)), some (.inl gg), some (.inl hh), some (.inl 0), some (.inl 7), some (.inl 200), some (.inl (10 + o315)), some (.inl (m33 100 0)), some (.inl (m389 107 0)), some (.inl 3), some (.inl (10 + o315))] [.inl (-1002)] (WW m479) 0 0
      refine rb_sipush hV dL_commands_533 (by decide) ?_
      refine rb_icmp_ne hV (tgt := 567) dL_commands_536 (by decide) ⟨(by unfold ab_r at *; omega), (by unfold ab_r at *; omega)⟩ (fun z => absurd z (by decide)) (fun _ => ?_)
      refine rb_aload_n hV dL_commands_539 rfl rfl ?_
      refine rb_bipush hV dL_commands_540 (by decide) ?_
      refine rb_callV hV (rest := []) dL_commands_542 (c_X9_setHang m479 101 (by unfold ab_r at *; omega) hx479) lk_L_94 rfl (Or.inl ⟨8, _, TX9, 8, gw_0 _, rfl⟩) rfl ⟨rfl, rfl, (Nat.le_of_ble_eq_true rfl), (Nat.le_of_ble_eq_true rfl), (Nat.le_of_ble_eq_true rfl), (Nat.le_of_ble_eq_true rfl)⟩ (Nat.le_of_ble_eq_true rfl) (fun r9 h9 p9 => ?_)
      obtain ⟨rfl, rfl⟩ : r9 = some (.inl (-1002)) ∧ h9 = WW m479 := by
        rcases p9 with ⟨-, q⟩ | ⟨q, -⟩
        · exact q
        · omega
      show V 545 [some (.inr (some 0)), some (.inl gg), some (.inl hh), some (.inl 0), some (.inl 7), some (.inl 200), some (.inl (10 + o315)), some (.inl (m33 100 0)), some (.inl (m389 107 0)), some (.inl 3), some (.inl (10 + o315))] [.inl (-1002)] (WW m479) 0 0
      refine rb_sipush hV dL_commands_545 (by decide) ?_
      refine rb_icmp_ne hV (tgt := 567) dL_commands_548 (by decide) ⟨(by unfold ab_r at *; omega), (by unfold ab_r at *; omega)⟩ (fun z => absurd z (by decide)) (fun _ => ?_)
      refine rb_aload_n hV dL_commands_551 rfl rfl ?_
      refine rb_bipush hV dL_commands_552 (by decide) ?_
      refine rb_callV hV (rest := []) dL_commands_554 (c_X9_setTolerance m479 21 (by unfold ab_r at *; omega) hx479) lk_L_97 rfl (Or.inl ⟨8, _, TX9, 8, gw_0 _, rfl⟩) rfl ⟨rfl, rfl, (Nat.le_of_ble_eq_true rfl), (Nat.le_of_ble_eq_true rfl), (Nat.le_of_ble_eq_true rfl), (Nat.le_of_ble_eq_true rfl)⟩ (Nat.le_of_ble_eq_true rfl) (fun r9 h9 p9 => ?_)
      obtain ⟨rfl, rfl⟩ : r9 = some (.inl (-1002)) ∧ h9 = WW m479 := by
        rcases p9 with ⟨-, q⟩ | ⟨q, -⟩
        · exact q
        · omega
      show V 557 [some (.inr (some 0)), some (.inl gg), some (.inl hh), some (.inl 0), some (.inl 7), some (.inl 200), some (.inl (10 + o315)), some (.inl (m33 100 0)), some (.inl (m389 107 0)), some (.inl 3), some (.inl (10 + o315))] [.inl (-1002)] (WW m479) 0 0
      refine rb_sipush hV dL_commands_557 (by decide) ?_
      refine rb_icmp_ne hV (tgt := 567) dL_commands_560 (by decide) ⟨(by unfold ab_r at *; omega), (by unfold ab_r at *; omega)⟩ (fun z => absurd z (by decide)) (fun _ => ?_)
      refine rb_iconst hV dL_commands_563 ?_
      refine rb_goto hV (tgt := 568) dL_commands_564 (by decide) ?_
      refine rb_ret hV (r := some (.inl 1)) dL_commands_568 rfl ⟨(Nat.le_of_ble_eq_true rfl), (Nat.le_of_ble_eq_true rfl)⟩ (by first | exact Or.inl rfl | exact Or.inr rfl | omega) ?_
      exact ⟨rfl, _, rfl, hx479⟩
  · refine rb_iload_n hV dL_commands_6 rfl rfl ?_
    refine rb_if_ne hV (tgt := 15) dL_commands_7 (by decide) (by unfold ab_r at *; omega) (fun _ => ?_) (fun z => absurd z (by decide))
    refine rb_iload_n hV dL_commands_15 rfl rfl ?_
    refine rb_iconst hV dL_commands_16 ?_
    refine rb_icmp_ne hV (tgt := 24) dL_commands_17 (by decide) ⟨(by unfold ab_r at *; omega), (by unfold ab_r at *; omega)⟩ (fun z => absurd z (by decide)) (fun _ => ?_)
    refine rb_iconst hV dL_commands_20 ?_
    refine rb_goto hV (tgt := 25) dL_commands_21 (by decide) ?_
    refine rb_istore hV (L2 := [some (.inr (some 0)), some (.inl gg), some (.inl hh), some (.inl 1), some (.inl 4), none, none, none, none, none, none]) dL_commands_25 (Nat.le_of_ble_eq_true rfl) rfl ?_
    refine rb_aload_n hV dL_commands_27 rfl rfl ?_
    refine rb_iload_n hV dL_commands_28 rfl rfl ?_
    refine rb_callS hV (rest := []) dL_commands_29 (c_L_word s 1 (by decide) hx) lk_L_78 rfl rfl ⟨rfl, rfl, (Nat.le_of_ble_eq_true rfl), (Nat.le_of_ble_eq_true rfl), (Nat.le_of_ble_eq_true rfl), (Nat.le_of_ble_eq_true rfl)⟩ (Nat.le_of_ble_eq_true rfl) (fun r9 h9 p9 => ?_)
    obtain ⟨rfl, t29, rfl, hx29, hk29, tx29⟩ := p9
    show V 32 [some (.inr (some 0)), some (.inl gg), some (.inl hh), some (.inl 1), some (.inl 4), none, none, none, none, none, none] [] (WW t29) 0 0
    refine rb_aload_n hV dL_commands_32 rfl rfl ?_
    refine rb_callV hV (rest := []) dL_commands_33 (c_X9_command t29 hx29) lk_L_81 rfl (Or.inl ⟨8, _, TX9, 8, gw_0 _, rfl⟩) rfl ⟨rfl, rfl, (Nat.le_of_ble_eq_true rfl), (Nat.le_of_ble_eq_true rfl), (Nat.le_of_ble_eq_true rfl), (Nat.le_of_ble_eq_true rfl)⟩ (Nat.le_of_ble_eq_true rfl) (fun r9 h9 p9 => ?_)
    obtain ⟨m33, rfl, rfl, hx33, hk33⟩ := CMD_bad (f := 4) (show _ = (4 : Int) from PR_w (a := 1) (by decide) tx29) (by decide) p9
    have txm33 := TXL_of tx29 (hk33 22 (by decide)) (hk33 104 (by decide))
    show V 36 [some (.inr (some 0)), some (.inl gg), some (.inl hh), some (.inl 1), some (.inl 4), none, none, none, none, none, none] [.inl (-100 - 4)] (WW m33) 0 0
    refine rb_bipush hV dL_commands_36 (by decide) ?_
    refine rb_iload hV dL_commands_38 rfl ?_
    refine rb_isub hV dL_commands_40 ?_
    refine rb_icmp_eq hV (tgt := 46) dL_commands_41 (by decide) ⟨(by unfold ab_r at *; omega), (by unfold ab_r at *; omega)⟩ (fun c41 => ?_) (fun c41 => absurd c41 (by omega))
    refine rb_iload_n hV dL_commands_46 rfl rfl ?_
    refine rb_iconst hV dL_commands_47 ?_
    refine rb_icmp_ne hV (tgt := 281) dL_commands_48 (by decide) ⟨(by unfold ab_r at *; omega), (by unfold ab_r at *; omega)⟩ (fun _ => ?_) (fun z => absurd z (by decide))
    refine rb_iload_n hV dL_commands_281 rfl rfl ?_
    refine rb_if_ne hV (tgt := 291) dL_commands_282 (by decide) (by unfold ab_r at *; omega) (fun _ => ?_) (fun z => absurd z (by decide))
    refine rb_iload_n hV dL_commands_291 rfl rfl ?_
    refine rb_iconst hV dL_commands_292 ?_
    refine rb_icmp_ne hV (tgt := 301) dL_commands_293 (by decide) ⟨(by unfold ab_r at *; omega), (by unfold ab_r at *; omega)⟩ (fun z => absurd z (by decide)) (fun _ => ?_)
    refine rb_bipush hV dL_commands_296 (by decide) ?_
    refine rb_goto hV (tgt := 303) dL_commands_298 (by decide) ?_
    refine rb_istore hV (L2 := [some (.inr (some 0)), some (.inl gg), some (.inl hh), some (.inl 1), some (.inl 4), some (.inl 100), none, none, none, none, none]) dL_commands_303 (Nat.le_of_ble_eq_true rfl) rfl ?_
    refine rb_iload_n hV dL_commands_305 rfl rfl ?_
    refine rb_if_ne hV (tgt := 322) dL_commands_306 (by decide) (by unfold ab_r at *; omega) (fun _ => ?_) (fun z => absurd z (by decide))
    refine rb_iload_n hV dL_commands_322 rfl rfl ?_
    refine rb_iload hV dL_commands_323 rfl ?_
    refine rb_iconst hV dL_commands_325 ?_
    refine rb_iadd hV dL_commands_326 ?_
    refine rb_callS hV (rest := []) dL_commands_327 (c_L_low m33 hh (100 + 1) (by omega)) lk_L_9 rfl rfl ⟨rfl, rfl, (Nat.le_of_ble_eq_true rfl), (Nat.le_of_ble_eq_true rfl), (Nat.le_of_ble_eq_true rfl), (Nat.le_of_ble_eq_true rfl)⟩ (Nat.le_of_ble_eq_true rfl) (fun r9 h9 p9 => ?_)
    obtain ⟨o327, rfl, rfl, ho327⟩ := p9
    show V 330 [some (.inr (some 0)), some (.inl gg), some (.inl hh), some (.inl 1), some (.inl 4), some (.inl 100), none, none, none, none, none] [.inl o327] (WW m33) 0 0
    refine rb_istore hV (L2 := [some (.inr (some 0)), some (.inl gg), some (.inl hh), some (.inl 1), some (.inl 4), some (.inl 100), some (.inl o327), none, none, none, none]) dL_commands_330 (Nat.le_of_ble_eq_true rfl) rfl ?_
    refine rb_aload_n hV dL_commands_332 rfl rfl ?_
    refine rb_bipush hV dL_commands_333 (by decide) ?_
    refine rb_iload_n hV dL_commands_335 rfl rfl ?_
    refine rb_iadd hV dL_commands_336 ?_
    have hwl : (wrd 1).length = 4 := rfl
    have bw : 0 ≤ m33 101 0 ∧ m33 101 0 ≤ 100 := hx33.1.2.2.2.1
    refine rb_callV hV (rest := []) dL_commands_337 (c_X9_count m33 (7 + 1) (by unfold ab_r at *; omega) hx33) lk_L_36 rfl (Or.inl ⟨8, _, TX9, 8, gw_0 _, rfl⟩) rfl ⟨rfl, rfl, (Nat.le_of_ble_eq_true rfl), (Nat.le_of_ble_eq_true rfl), (Nat.le_of_ble_eq_true rfl), (Nat.le_of_ble_eq_true rfl)⟩ (Nat.le_of_ble_eq_true rfl) (fun r9 h9 p9 => ?_)
    obtain ⟨rfl, rfl⟩ : r9 = some (.inl (m33 101 0)) ∧ h9 = WW m33 := ⟨p9.1.trans (congrArg (fun z : Int => (some (Sum.inl z) : Option ab_V)) (show xcount m33 (7 + 1) = m33 101 0 from rfl)), p9.2⟩
    show V 340 [some (.inr (some 0)), some (.inl gg), some (.inl hh), some (.inl 1), some (.inl 4), some (.inl 100), some (.inl o327), none, none, none, none] [.inl (m33 101 0)] (WW m33) 0 0
    refine rb_istore hV (L2 := [some (.inr (some 0)), some (.inl gg), some (.inl hh), some (.inl 1), some (.inl 4), some (.inl 100), some (.inl o327), some (.inl (m33 101 0)), none, none, none]) dL_commands_340 (Nat.le_of_ble_eq_true rfl) rfl ?_
    refine rb_aload_n hV dL_commands_342 rfl rfl ?_
    refine rb_iload hV dL_commands_343 rfl ?_
    refine rb_iconst hV dL_commands_345 ?_
    refine rb_iadd hV dL_commands_346 ?_
    refine rb_callS hV (rest := []) dL_commands_347 (c_L_number m33 (100 + 1) _ (by omega) (by first | omega | (simp only [List.length_append, List.length_cons, List.length_nil]; omega)) txm33 hx33) lk_L_84 rfl rfl ⟨rfl, rfl, (Nat.le_of_ble_eq_true rfl), (Nat.le_of_ble_eq_true rfl), (Nat.le_of_ble_eq_true rfl), (Nat.le_of_ble_eq_true rfl)⟩ (Nat.le_of_ble_eq_true rfl) (fun r9 h9 p9 => ?_)
    obtain ⟨rfl, t347, e347, rfl, hx347, hk347, tx347, dg347⟩ := p9
    have dl347 := (DG_b dg347).2
    show V 350 [some (.inr (some 0)), some (.inl gg), some (.inl hh), some (.inl 1), some (.inl 4), some (.inl 100), some (.inl o327), some (.inl (m33 101 0)), none, none, none] [] (WW t347) 0 0
    refine rb_aload_n hV dL_commands_350 rfl rfl ?_
    refine rb_callV hV (rest := []) dL_commands_351 (c_X9_command t347 hx347) lk_L_81 rfl (Or.inl ⟨8, _, TX9, 8, gw_0 _, rfl⟩) rfl ⟨rfl, rfl, (Nat.le_of_ble_eq_true rfl), (Nat.le_of_ble_eq_true rfl), (Nat.le_of_ble_eq_true rfl), (Nat.le_of_ble_eq_true rfl)⟩ (Nat.le_of_ble_eq_true rfl) (fun r9 h9 p9 => ?_)
    obtain ⟨m351, rfl, rfl, hx351, hk351⟩ := CMD_bad (f := 5) (show _ = (5 : Int) from (PR_n (a := 1) (by decide) tx347 dg347).1 (by decide)) (by decide) p9
    have txm351 := TXL_of tx347 (hk351 22 (by decide)) (hk351 104 (by decide))
    show V 354 [some (.inr (some 0)), some (.inl gg), some (.inl hh), some (.inl 1), some (.inl 4), some (.inl 100), some (.inl o327), some (.inl (m33 101 0)), none, none, none] [.inl (-100 - 5)] (WW m351) 0 0
    refine rb_bipush hV dL_commands_354 (by decide) ?_
    refine rb_iload hV dL_commands_356 rfl ?_
    refine rb_isub hV dL_commands_358 ?_
    refine rb_icmp_ne hV (tgt := 375) dL_commands_359 (by decide) ⟨(by unfold ab_r at *; omega), (by unfold ab_r at *; omega)⟩ (fun c359 => absurd c359 (by omega)) (fun c359 => ?_)
    refine rb_aload_n hV dL_commands_362 rfl rfl ?_
    refine rb_bipush hV dL_commands_363 (by decide) ?_
    refine rb_iload_n hV dL_commands_365 rfl rfl ?_
    refine rb_iadd hV dL_commands_366 ?_
    refine rb_callV hV (rest := []) dL_commands_367 (c_X9_count m351 (7 + 1) (by unfold ab_r at *; omega) hx351) lk_L_36 rfl (Or.inl ⟨8, _, TX9, 8, gw_0 _, rfl⟩) rfl ⟨rfl, rfl, (Nat.le_of_ble_eq_true rfl), (Nat.le_of_ble_eq_true rfl), (Nat.le_of_ble_eq_true rfl), (Nat.le_of_ble_eq_true rfl)⟩ (Nat.le_of_ble_eq_true rfl) (fun r9 h9 p9 => ?_)
    obtain ⟨rfl, rfl⟩ : r9 = some (.inl (m33 101 0)) ∧ h9 = WW m351 := ⟨p9.1.trans (congrArg (fun z : Int => (some (Sum.inl z) : Option ab_V)) (show xcount m351 (7 + 1) = m33 101 0 from (congrFun (hk351 101 (by decide)) 0).trans (congrFun (hk347 101 (by decide)) 0))), p9.2⟩
    show V 370 [some (.inr (some 0)), some (.inl gg), some (.inl hh), some (.inl 1), some (.inl 4), some (.inl 100), some (.inl o327), some (.inl (m33 101 0)), none, none, none] [.inl (m33 101 0)] (WW m351) 0 0
    refine rb_iload hV dL_commands_370 rfl ?_
    refine rb_icmp_eq hV (tgt := 377) dL_commands_372 (by decide) ⟨(by unfold ab_r at *; omega), (by unfold ab_r at *; omega)⟩ (fun c372 => ?_) (fun c372 => absurd c372 (by omega))
    refine rb_aload_n hV dL_commands_377 rfl rfl ?_
    refine rb_iload_n hV dL_commands_378 rfl rfl ?_
    refine rb_callS hV (rest := []) dL_commands_379 (c_L_word m351 1 (by decide) hx351) lk_L_78 rfl rfl ⟨rfl, rfl, (Nat.le_of_ble_eq_true rfl), (Nat.le_of_ble_eq_true rfl), (Nat.le_of_ble_eq_true rfl), (Nat.le_of_ble_eq_true rfl)⟩ (Nat.le_of_ble_eq_true rfl) (fun r9 h9 p9 => ?_)
    obtain ⟨rfl, t379, rfl, hx379, hk379, tx379⟩ := p9
    show V 382 [some (.inr (some 0)), some (.inl gg), some (.inl hh), some (.inl 1), some (.inl 4), some (.inl 100), some (.inl o327), some (.inl (m33 101 0)), none, none, none] [] (WW t379) 0 0
    refine rb_aload_n hV dL_commands_382 rfl rfl ?_
    refine rb_iload hV dL_commands_383 rfl ?_
    refine rb_callS hV (rest := []) dL_commands_385 (c_L_number t379 o327 _ (by omega) (by first | omega | (simp only [List.length_append, List.length_cons, List.length_nil]; omega)) tx379 hx379) lk_L_84 rfl rfl ⟨rfl, rfl, (Nat.le_of_ble_eq_true rfl), (Nat.le_of_ble_eq_true rfl), (Nat.le_of_ble_eq_true rfl), (Nat.le_of_ble_eq_true rfl)⟩ (Nat.le_of_ble_eq_true rfl) (fun r9 h9 p9 => ?_)
    obtain ⟨rfl, t385, e385, rfl, hx385, hk385, tx385, dg385⟩ := p9
    have dl385 := (DG_b dg385).2
    show V 388 [some (.inr (some 0)), some (.inl gg), some (.inl hh), some (.inl 1), some (.inl 4), some (.inl 100), some (.inl o327), some (.inl (m33 101 0)), none, none, none] [] (WW t385) 0 0
    refine rb_aload_n hV dL_commands_388 rfl rfl ?_
    refine rb_callV hV (rest := []) dL_commands_389 (c_X9_command t385 hx385) lk_L_81 rfl (Or.inl ⟨8, _, TX9, 8, gw_0 _, rfl⟩) rfl ⟨rfl, rfl, (Nat.le_of_ble_eq_true rfl), (Nat.le_of_ble_eq_true rfl), (Nat.le_of_ble_eq_true rfl), (Nat.le_of_ble_eq_true rfl)⟩ (Nat.le_of_ble_eq_true rfl) (fun r9 h9 p9 => ?_)
    have hv0 : (if (1 : Int) = 0 then 10 else 0) ≤ o327 ∧ o327 ≤ tHi 1 := (by rw [if_neg (by decide), show tHi 1 = 100 from rfl]; omega)
    obtain ⟨m389, rfl, rfl, hx389, hkk389, s0, s1, s2⟩ := CMD_set (a := 1) (by decide) ((PR_n (a := 1) (by decide) tx385 dg385).2 hv0) p9
    have txm389 := TXL_of tx385 hkk389.1 hkk389.2
    have bnl := hx389.2.2.2.1.1
    have bnw := hx389.1.1
    have e389 : vX m389 0 0 = m389 103 0 := rfl
    show V 392 [some (.inr (some 0)), some (.inl gg), some (.inl hh), some (.inl 1), some (.inl 4), some (.inl 100), some (.inl o327), some (.inl (m33 101 0)), none, none, none] [.inl (m389 107 0)] (WW m389) 0 0
    refine rb_istore hV (L2 := [some (.inr (some 0)), some (.inl gg), some (.inl hh), some (.inl 1), some (.inl 4), some (.inl 100), some (.inl o327), some (.inl (m33 101 0)), some (.inl (m389 107 0)), none, none]) dL_commands_392 (Nat.le_of_ble_eq_true rfl) rfl ?_
    refine rb_iload hV dL_commands_394 rfl ?_
    refine rb_aload_n hV dL_commands_396 rfl rfl ?_
    refine rb_iconst hV dL_commands_397 ?_
    refine rb_callV hV (rest := [.inl (m389 107 0)]) dL_commands_398 (c_X9_count m389 1 (by unfold ab_r at *; omega) hx389) lk_L_36 rfl (Or.inl ⟨8, _, TX9, 8, gw_0 _, rfl⟩) rfl ⟨rfl, rfl, (Nat.le_of_ble_eq_true rfl), (Nat.le_of_ble_eq_true rfl), (Nat.le_of_ble_eq_true rfl), (Nat.le_of_ble_eq_true rfl)⟩ (Nat.le_of_ble_eq_true rfl) (fun r9 h9 p9 => ?_)
    obtain ⟨rfl, rfl⟩ : r9 = some (.inl (m389 107 0)) ∧ h9 = WW m389 := ⟨p9.1.trans (congrArg (fun z : Int => (some (Sum.inl z) : Option ab_V)) rfl), p9.2⟩
    show V 401 [some (.inr (some 0)), some (.inl gg), some (.inl hh), some (.inl 1), some (.inl 4), some (.inl 100), some (.inl o327), some (.inl (m33 101 0)), some (.inl (m389 107 0)), none, none] [.inl (m389 107 0), .inl (m389 107 0)] (WW m389) 0 0
    refine rb_icmp_ne hV (tgt := 417) dL_commands_401 (by decide) ⟨(by unfold ab_r at *; omega), (by unfold ab_r at *; omega)⟩ (fun c401 => absurd c401 (by omega)) (fun c401 => ?_)
    refine rb_aload_n hV dL_commands_404 rfl rfl ?_
    refine rb_bipush hV dL_commands_405 (by decide) ?_
    refine rb_iload_n hV dL_commands_407 rfl rfl ?_
    refine rb_iadd hV dL_commands_408 ?_
    refine rb_callV hV (rest := []) dL_commands_409 (c_X9_count m389 (7 + 1) (by unfold ab_r at *; omega) hx389) lk_L_36 rfl (Or.inl ⟨8, _, TX9, 8, gw_0 _, rfl⟩) rfl ⟨rfl, rfl, (Nat.le_of_ble_eq_true rfl), (Nat.le_of_ble_eq_true rfl), (Nat.le_of_ble_eq_true rfl), (Nat.le_of_ble_eq_true rfl)⟩ (Nat.le_of_ble_eq_true rfl) (fun r9 h9 p9 => ?_)
    obtain ⟨rfl, rfl⟩ : r9 = some (.inl o327) ∧ h9 = WW m389 := ⟨p9.1.trans (congrArg (fun z : Int => (some (Sum.inl z) : Option ab_V)) (show xcount m389 (7 + 1) = o327 from s1 rfl)), p9.2⟩
    show V 412 [some (.inr (some 0)), some (.inl gg), some (.inl hh), some (.inl 1), some (.inl 4), some (.inl 100), some (.inl o327), some (.inl (m33 101 0)), some (.inl (m389 107 0)), none, none] [.inl o327] (WW m389) 0 0
    refine rb_iload hV dL_commands_412 rfl ?_
    refine rb_icmp_eq hV (tgt := 419) dL_commands_414 (by decide) ⟨(by unfold ab_r at *; omega), (by unfold ab_r at *; omega)⟩ (fun c414 => ?_) (fun c414 => absurd c414 (by omega))
    refine rb_aload_n hV dL_commands_419 rfl rfl ?_
    refine rb_bipush hV dL_commands_420 (by decide) ?_
    refine rb_callV hV (rest := []) dL_commands_422 (c_X9_type m389 32 (by decide) hx389) lk_L_29 rfl (Or.inl ⟨8, _, TX9, 8, gw_0 _, rfl⟩) rfl ⟨rfl, rfl, (Nat.le_of_ble_eq_true rfl), (Nat.le_of_ble_eq_true rfl), (Nat.le_of_ble_eq_true rfl), (Nat.le_of_ble_eq_true rfl)⟩ (Nat.le_of_ble_eq_true rfl) (fun r9 h9 p9 => ?_)
    obtain ⟨t422, v422, rfl, rfl, hx422, hk422, tx422⟩ := ty_ok txm389 (by first | omega | (simp only [List.length_append, List.length_cons, List.length_nil]; omega)) p9
    show V 425 [some (.inr (some 0)), some (.inl gg), some (.inl hh), some (.inl 1), some (.inl 4), some (.inl 100), some (.inl o327), some (.inl (m33 101 0)), some (.inl (m389 107 0)), none, none] [.inl v422] (WW t422) 0 0
    refine rb_pop hV dL_commands_425 ?_
    refine rb_iload hV dL_commands_426 rfl ?_
    refine rb_bipush hV dL_commands_428 (by decide) ?_
    refine rb_icmp_le hV (tgt := 437) dL_commands_430 (by decide) ⟨(by unfold ab_r at *; omega), (by unfold ab_r at *; omega)⟩ (fun c430 => ?_) (fun c430 => ?_)
    · refine rb_iload hV dL_commands_437 rfl ?_
      refine rb_bipush hV dL_commands_439 (by decide) ?_
      refine rb_icmp_le hV (tgt := 448) dL_commands_441 (by decide) ⟨(by unfold ab_r at *; omega), (by unfold ab_r at *; omega)⟩ (fun c441 => ?_) (fun c441 => ?_)
      · refine rb_iconst hV dL_commands_448 ?_
        refine rb_istore hV (L2 := [some (.inr (some 0)), some (.inl gg), some (.inl hh), some (.inl 1), some (.inl 4), some (.inl 100), some (.inl o327), some (.inl (m33 101 0)), some (.inl (m389 107 0)), some (.inl 1), none]) dL_commands_449 (Nat.le_of_ble_eq_true rfl) rfl ?_
        refine rb_aload_n hV dL_commands_451 rfl rfl ?_
        refine rb_callV hV (rest := []) dL_commands_452 (c_X9_command t422 hx422) lk_L_81 rfl (Or.inl ⟨8, _, TX9, 8, gw_0 _, rfl⟩) rfl ⟨rfl, rfl, (Nat.le_of_ble_eq_true rfl), (Nat.le_of_ble_eq_true rfl), (Nat.le_of_ble_eq_true rfl), (Nat.le_of_ble_eq_true rfl)⟩ (Nat.le_of_ble_eq_true rfl) (fun r9 h9 p9 => ?_)
        have f452 : (e385.length : Int) = 1 := by
          rw [dl385.2, if_neg (by omega), if_neg (by omega)]
        obtain ⟨m452, rfl, rfl, hx452, hk452⟩ := CMD_bad (f := 7) (show _ = (7 : Int) from (PR_b (a := 1) (by decide) tx422 dg385 hv0).trans (by rw [f452]; rfl)) (by decide) p9
        have txm452 := TXL_of tx422 (hk452 22 (by decide)) (hk452 104 (by decide))
        show V 455 [some (.inr (some 0)), some (.inl gg), some (.inl hh), some (.inl 1), some (.inl 4), some (.inl 100), some (.inl o327), some (.inl (m33 101 0)), some (.inl (m389 107 0)), some (.inl 1), none] [.inl (-100 - 7)] (WW m452) 0 0
        refine rb_bipush hV dL_commands_455 (by decide) ?_
        refine rb_iload hV dL_commands_457 rfl ?_
        refine rb_isub hV dL_commands_459 ?_
        refine rb_iconst hV dL_commands_460 ?_
        refine rb_isub hV dL_commands_461 ?_
        refine rb_iload hV dL_commands_462 rfl ?_
        refine rb_isub hV dL_commands_464 ?_
        refine rb_iconst hV dL_commands_465 ?_
        refine rb_isub hV dL_commands_466 ?_
        refine rb_icmp_eq hV (tgt := 472) dL_commands_467 (by decide) ⟨(by unfold ab_r at *; omega), (by unfold ab_r at *; omega)⟩ (fun c467 => ?_) (fun c467 => absurd c467 (by omega))
        refine rb_iload_n hV dL_commands_472 rfl rfl ?_
        refine rb_if_ne hV (tgt := 485) dL_commands_473 (by decide) (by unfold ab_r at *; omega) (fun _ => ?_) (fun z => absurd z (by decide))
        refine rb_iload_n hV dL_commands_485 rfl rfl ?_
        refine rb_iconst hV dL_commands_486 ?_
        refine rb_icmp_ne hV (tgt := 499) dL_commands_487 (by decide) ⟨(by unfold ab_r at *; omega), (by unfold ab_r at *; omega)⟩ (fun z => absurd z (by decide)) (fun _ => ?_)
        refine rb_aload_n hV dL_commands_490 rfl rfl ?_
        refine rb_iload hV dL_commands_491 rfl ?_
        refine rb_callV hV (rest := []) dL_commands_493 (c_X9_setHang m452 (m33 101 0) (by unfold ab_r at *; omega) hx452) lk_L_94 rfl (Or.inl ⟨8, _, TX9, 8, gw_0 _, rfl⟩) rfl ⟨rfl, rfl, (Nat.le_of_ble_eq_true rfl), (Nat.le_of_ble_eq_true rfl), (Nat.le_of_ble_eq_true rfl), (Nat.le_of_ble_eq_true rfl)⟩ (Nat.le_of_ble_eq_true rfl) (fun r9 h9 p9 => ?_)
        obtain ⟨m493, rfl, rfl, hx493, hk493⟩ : ∃ m, r9 = some (.inl o327) ∧ h9 = WW m ∧ XI m ∧ KEEP RB (ab_s m452 101 (fun _ => m33 101 0)) m := by
          rcases p9 with ⟨q, -⟩ | ⟨-, m, q1, q2, q3, -, q5⟩
          · exact absurd bw q
          · exact ⟨m, by rw [q1, show m452 101 0 = o327 from (congrFun (hk452 101 (by decide)) 0).trans ((congrFun (hk422 101 (by decide)) 0).trans (s1 rfl))], q2, q3, q5⟩
        show V 496 [some (.inr (some 0)), some (.inl gg), some (.inl hh), some (.inl 1), some (.inl 4), some (.inl 100), some (.inl o327), some (.inl (m33 101 0)), some (.inl (m389 107 0)), some (.inl 1), none] [.inl o327] (WW m493) 0 0
        refine rb_goto hV (tgt := 505) dL_commands_496 (by decide) ?_
        refine rb_istore hV (L2 := [some (.inr (some 0)), some (.inl gg), some (.inl hh), some (.inl 1), some (.inl 4), some (.inl 100), some (.inl o327), some (.inl (m33 101 0)), some (.inl (m389 107 0)), some (.inl 1), some (.inl o327)]) dL_commands_505 (Nat.le_of_ble_eq_true rfl) rfl ?_
        refine rb_iload hV dL_commands_507 rfl ?_
        refine rb_iload hV dL_commands_509 rfl ?_
        refine rb_icmp_ne hV (tgt := 567) dL_commands_511 (by decide) ⟨(by unfold ab_r at *; omega), (by unfold ab_r at *; omega)⟩ (fun c511 => absurd c511 (by omega)) (fun c511 => ?_)
        refine rb_aload_n hV dL_commands_514 rfl rfl ?_
        refine rb_bipush hV dL_commands_515 (by decide) ?_
        refine rb_iload_n hV dL_commands_517 rfl rfl ?_
        refine rb_iadd hV dL_commands_518 ?_
        refine rb_callV hV (rest := []) dL_commands_519 (c_X9_count m493 (7 + 1) (by unfold ab_r at *; omega) hx493) lk_L_36 rfl (Or.inl ⟨8, _, TX9, 8, gw_0 _, rfl⟩) rfl ⟨rfl, rfl, (Nat.le_of_ble_eq_true rfl), (Nat.le_of_ble_eq_true rfl), (Nat.le_of_ble_eq_true rfl), (Nat.le_of_ble_eq_true rfl)⟩ (Nat.le_of_ble_eq_true rfl) (fun r9 h9 p9 => ?_)
        obtain ⟨rfl, rfl⟩ : r9 = some (.inl (m33 101 0)) ∧ h9 = WW m493 := ⟨p9.1.trans (congrArg (fun z : Int => (some (Sum.inl z) : Option ab_V)) (show xcount m493 (7 + 1) = m33 101 0 from congrFun (hk493 101 (by decide)) 0)), p9.2⟩
        show V 522 [some (.inr (some 0)), some (.inl gg), some (.inl hh), some (.inl 1), some (.inl 4), some (.inl 100), some (.inl o327), some (.inl (m33 101 0)), some (.inl (m389 107 0)), some (.inl 1), some (.inl o327)] [.inl (m33 101 0)] (WW m493) 0 0
        refine rb_iload hV dL_commands_522 rfl ?_
        refine rb_icmp_ne hV (tgt := 567) dL_commands_524 (by decide) ⟨(by unfold ab_r at *; omega), (by unfold ab_r at *; omega)⟩ (fun c524 => absurd c524 (by omega)) (fun c524 => ?_)
        refine rb_aload_n hV dL_commands_527 rfl rfl ?_
        refine rb_bipush hV dL_commands_528 (by decide) ?_
        refine rb_callV hV (rest := []) dL_commands_530 (c_X9_setMeasure m493 9 (by unfold ab_r at *; omega) hx493) lk_L_91 rfl (Or.inl ⟨8, _, TX9, 8, gw_0 _, rfl⟩) rfl ⟨rfl, rfl, (Nat.le_of_ble_eq_true rfl), (Nat.le_of_ble_eq_true rfl), (Nat.le_of_ble_eq_true rfl), (Nat.le_of_ble_eq_true rfl)⟩ (Nat.le_of_ble_eq_true rfl) (fun r9 h9 p9 => ?_)
        obtain ⟨rfl, rfl⟩ : r9 = some (.inl (-1002)) ∧ h9 = WW m493 := by
          rcases p9 with ⟨-, q⟩ | ⟨q, -⟩
          · exact q
          · omega
        show V 533 [some (.inr (some 0)), some (.inl gg), some (.inl hh), some (.inl 1), some (.inl 4), some (.inl 100), some (.inl o327), some (.inl (m33 101 0)), some (.inl (m389 107 0)), some (.inl 1), some (.inl o327)] [.inl (-1002)] (WW m493) 0 0
        refine rb_sipush hV dL_commands_533 (by decide) ?_
        refine rb_icmp_ne hV (tgt := 567) dL_commands_536 (by decide) ⟨(by unfold ab_r at *; omega), (by unfold ab_r at *; omega)⟩ (fun z => absurd z (by decide)) (fun _ => ?_)
        refine rb_aload_n hV dL_commands_539 rfl rfl ?_
        refine rb_bipush hV dL_commands_540 (by decide) ?_
        refine rb_callV hV (rest := []) dL_commands_542 (c_X9_setHang m493 101 (by unfold ab_r at *; omega) hx493) lk_L_94 rfl (Or.inl ⟨8, _, TX9, 8, gw_0 _, rfl⟩) rfl ⟨rfl, rfl, (Nat.le_of_ble_eq_true rfl), (Nat.le_of_ble_eq_true rfl), (Nat.le_of_ble_eq_true rfl), (Nat.le_of_ble_eq_true rfl)⟩ (Nat.le_of_ble_eq_true rfl) (fun r9 h9 p9 => ?_)
        obtain ⟨rfl, rfl⟩ : r9 = some (.inl (-1002)) ∧ h9 = WW m493 := by
          rcases p9 with ⟨-, q⟩ | ⟨q, -⟩
          · exact q
          · omega
        show V 545 [some (.inr (some 0)), some (.inl gg), some (.inl hh), some (.inl 1), some (.inl 4), some (.inl 100), some (.inl o327), some (.inl (m33 101 0)), some (.inl (m389 107 0)), some (.inl 1), some (.inl o327)] [.inl (-1002)] (WW m493) 0 0
        refine rb_sipush hV dL_commands_545 (by decide) ?_
        refine rb_icmp_ne hV (tgt := 567) dL_commands_548 (by decide) ⟨(by unfold ab_r at *; omega), (by unfold ab_r at *; omega)⟩ (fun z => absurd z (by decide)) (fun _ => ?_)
        refine rb_aload_n hV dL_commands_551 rfl rfl ?_
        refine rb_bipush hV dL_commands_552 (by decide) ?_
        refine rb_callV hV (rest := []) dL_commands_554 (c_X9_setTolerance m493 21 (by unfold ab_r at *; omega) hx493) lk_L_97 rfl (Or.inl ⟨8, _, TX9, 8, gw_0 _, rfl⟩) rfl ⟨rfl, rfl, (Nat.le_of_ble_eq_true rfl), (Nat.le_of_ble_eq_true rfl), (Nat.le_of_ble_eq_true rfl), (Nat.le_of_ble_eq_true rfl)⟩ (Nat.le_of_ble_eq_true rfl) (fun r9 h9 p9 => ?_)
        obtain ⟨rfl, rfl⟩ : r9 = some (.inl (-1002)) ∧ h9 = WW m493 := by
          rcases p9 with ⟨-, q⟩ | ⟨q, -⟩
          · exact q
          · omega
        show V 557 [some (.inr (some 0)), some (.inl gg), some (.inl hh), some (.inl 1), some (.inl 4), some (.inl 100), some (.inl o327), some (.inl (m33 101 0)), some (.inl (m389 107 0)), some (.inl 1), some (.inl o327)] [.inl (-1002)] (WW m493) 0 0
        refine rb_sipush hV dL_commands_557 (by decide) ?_
        refine rb_icmp_ne hV (tgt := 567) dL_commands_560 (by decide) ⟨(by unfold ab_r at *; omega), (by unfold ab_r at *; omega)⟩ (fun z => absurd z (by decide)) (fun _ => ?_)
        refine rb_iconst hV dL_commands_563 ?_
        refine rb_goto hV (tgt := 568) dL_commands_564 (by decide) ?_
        refine rb_ret hV (r := some (.inl 1)) dL_commands_568 rfl ⟨(Nat.le_of_ble_eq_true rfl), (Nat.le_of_ble_eq_true rfl)⟩ (by first | exact Or.inl rfl | exact Or.inr rfl | omega) ?_
        exact ⟨rfl, _, rfl, hx493⟩
      · refine rb_iconst hV dL_commands_444 ?_
        refine rb_goto hV (tgt := 449) dL_commands_445 (by decide) ?_
        refine rb_istore hV (L2 := [some (.inr (some 0)), some (.inl gg), some (.inl hh), some (.inl 1), some (.inl 4), some (.inl 100), some (.inl o327), some (.inl (m33 101 0)), some (.inl (m389 107 0)), some (.inl 2), none]) dL_commands_449 (Nat.le_of_ble_eq_true rfl) rfl ?_
        refine rb_aload_n hV dL_commands_451 rfl rfl ?_
        refine rb_callV hV (rest := []) dL_commands_452 (c_X9_command t422 hx422) lk_L_81 rfl (Or.inl ⟨8, _, TX9, 8, gw_0 _, rfl⟩) rfl ⟨rfl, rfl, (Nat.le_of_ble_eq_true rfl), (Nat.le_of_ble_eq_true rfl), (Nat.le_of_ble_eq_true rfl), (Nat.le_of_ble_eq_true rfl)⟩ (Nat.le_of_ble_eq_true rfl) (fun r9 h9 p9 => ?_)
        have f452 : (e385.length : Int) = 2 := by
          rw [dl385.2, if_neg (by omega), if_pos (by omega)]
        obtain ⟨m452, rfl, rfl, hx452, hk452⟩ := CMD_bad (f := 8) (show _ = (8 : Int) from (PR_b (a := 1) (by decide) tx422 dg385 hv0).trans (by rw [f452]; rfl)) (by decide) p9
        have txm452 := TXL_of tx422 (hk452 22 (by decide)) (hk452 104 (by decide))
        show V 455 [some (.inr (some 0)), some (.inl gg), some (.inl hh), some (.inl 1), some (.inl 4), some (.inl 100), some (.inl o327), some (.inl (m33 101 0)), some (.inl (m389 107 0)), some (.inl 2), none] [.inl (-100 - 8)] (WW m452) 0 0
        refine rb_bipush hV dL_commands_455 (by decide) ?_
        refine rb_iload hV dL_commands_457 rfl ?_
        refine rb_isub hV dL_commands_459 ?_
        refine rb_iconst hV dL_commands_460 ?_
        refine rb_isub hV dL_commands_461 ?_
        refine rb_iload hV dL_commands_462 rfl ?_
        refine rb_isub hV dL_commands_464 ?_
        refine rb_iconst hV dL_commands_465 ?_
        refine rb_isub hV dL_commands_466 ?_
        refine rb_icmp_eq hV (tgt := 472) dL_commands_467 (by decide) ⟨(by unfold ab_r at *; omega), (by unfold ab_r at *; omega)⟩ (fun c467 => ?_) (fun c467 => absurd c467 (by omega))
        refine rb_iload_n hV dL_commands_472 rfl rfl ?_
        refine rb_if_ne hV (tgt := 485) dL_commands_473 (by decide) (by unfold ab_r at *; omega) (fun _ => ?_) (fun z => absurd z (by decide))
        refine rb_iload_n hV dL_commands_485 rfl rfl ?_
        refine rb_iconst hV dL_commands_486 ?_
        refine rb_icmp_ne hV (tgt := 499) dL_commands_487 (by decide) ⟨(by unfold ab_r at *; omega), (by unfold ab_r at *; omega)⟩ (fun z => absurd z (by decide)) (fun _ => ?_)
        refine rb_aload_n hV dL_commands_490 rfl rfl ?_
        refine rb_iload hV dL_commands_491 rfl ?_
        refine rb_callV hV (rest := []) dL_commands_493 (c_X9_setHang m452 (m33 101 0) (by unfold ab_r at *; omega) hx452) lk_L_94 rfl (Or.inl ⟨8, _, TX9, 8, gw_0 _, rfl⟩) rfl ⟨rfl, rfl, (Nat.le_of_ble_eq_true rfl), (Nat.le_of_ble_eq_true rfl), (Nat.le_of_ble_eq_true rfl), (Nat.le_of_ble_eq_true rfl)⟩ (Nat.le_of_ble_eq_true rfl) (fun r9 h9 p9 => ?_)
        obtain ⟨m493, rfl, rfl, hx493, hk493⟩ : ∃ m, r9 = some (.inl o327) ∧ h9 = WW m ∧ XI m ∧ KEEP RB (ab_s m452 101 (fun _ => m33 101 0)) m := by
          rcases p9 with ⟨q, -⟩ | ⟨-, m, q1, q2, q3, -, q5⟩
          · exact absurd bw q
          · exact ⟨m, by rw [q1, show m452 101 0 = o327 from (congrFun (hk452 101 (by decide)) 0).trans ((congrFun (hk422 101 (by decide)) 0).trans (s1 rfl))], q2, q3, q5⟩
        show V 496 [some (.inr (some 0)), some (.inl gg), some (.inl hh), some (.inl 1), some (.inl 4), some (.inl 100), some (.inl o327), some (.inl (m33 101 0)), some (.inl (m389 107 0)), some (.inl 2), none] [.inl o327] (WW m493) 0 0
        refine rb_goto hV (tgt := 505) dL_commands_496 (by decide) ?_
        refine rb_istore hV (L2 := [some (.inr (some 0)), some (.inl gg), some (.inl hh), some (.inl 1), some (.inl 4), some (.inl 100), some (.inl o327), some (.inl (m33 101 0)), some (.inl (m389 107 0)), some (.inl 2), some (.inl o327)]) dL_commands_505 (Nat.le_of_ble_eq_true rfl) rfl ?_
        refine rb_iload hV dL_commands_507 rfl ?_
        refine rb_iload hV dL_commands_509 rfl ?_
        refine rb_icmp_ne hV (tgt := 567) dL_commands_511 (by decide) ⟨(by unfold ab_r at *; omega), (by unfold ab_r at *; omega)⟩ (fun c511 => absurd c511 (by omega)) (fun c511 => ?_)
        refine rb_aload_n hV dL_commands_514 rfl rfl ?_
        refine rb_bipush hV dL_commands_515 (by decide) ?_
        refine rb_iload_n hV dL_commands_517 rfl rfl ?_
        refine rb_iadd hV dL_commands_518 ?_
        refine rb_callV hV (rest := []) dL_commands_519 (c_X9_count m493 (7 + 1) (by unfold ab_r at *; omega) hx493) lk_L_36 rfl (Or.inl ⟨8, _, TX9, 8, gw_0 _, rfl⟩) rfl ⟨rfl, rfl, (Nat.le_of_ble_eq_true rfl), (Nat.le_of_ble_eq_true rfl), (Nat.le_of_ble_eq_true rfl), (Nat.le_of_ble_eq_true rfl)⟩ (Nat.le_of_ble_eq_true rfl) (fun r9 h9 p9 => ?_)
        obtain ⟨rfl, rfl⟩ : r9 = some (.inl (m33 101 0)) ∧ h9 = WW m493 := ⟨p9.1.trans (congrArg (fun z : Int => (some (Sum.inl z) : Option ab_V)) (show xcount m493 (7 + 1) = m33 101 0 from congrFun (hk493 101 (by decide)) 0)), p9.2⟩
        show V 522 [some (.inr (some 0)), some (.inl gg), some (.inl hh), some (.inl 1), some (.inl 4), some (.inl 100), some (.inl o327), some (.inl (m33 101 0)), some (.inl (m389 107 0)), some (.inl 2), some (.inl o327)] [.inl (m33 101 0)] (WW m493) 0 0
        refine rb_iload hV dL_commands_522 rfl ?_
        refine rb_icmp_ne hV (tgt := 567) dL_commands_524 (by decide) ⟨(by unfold ab_r at *; omega), (by unfold ab_r at *; omega)⟩ (fun c524 => absurd c524 (by omega)) (fun c524 => ?_)
        refine rb_aload_n hV dL_commands_527 rfl rfl ?_
        refine rb_bipush hV dL_commands_528 (by decide) ?_
        refine rb_callV hV (rest := []) dL_commands_530 (c_X9_setMeasure m493 9 (by unfold ab_r at *; omega) hx493) lk_L_91 rfl (Or.inl ⟨8, _, TX9, 8, gw_0 _, rfl⟩) rfl ⟨rfl, rfl, (Nat.le_of_ble_eq_true rfl), (Nat.le_of_ble_eq_true rfl), (Nat.le_of_ble_eq_true rfl), (Nat.le_of_ble_eq_true rfl)⟩ (Nat.le_of_ble_eq_true rfl) (fun r9 h9 p9 => ?_)
        obtain ⟨rfl, rfl⟩ : r9 = some (.inl (-1002)) ∧ h9 = WW m493 := by
          rcases p9 with ⟨-, q⟩ | ⟨q, -⟩
          · exact q
          · omega
        show V 533 [some (.inr (some 0)), some (.inl gg), some (.inl hh), some (.inl 1), some (.inl 4), some (.inl 100), some (.inl o327), some (.inl (m33 101 0)), some (.inl (m389 107 0)), some (.inl 2), some (.inl o327)] [.inl (-1002)] (WW m493) 0 0
        refine rb_sipush hV dL_commands_533 (by decide) ?_
        refine rb_icmp_ne hV (tgt := 567) dL_commands_536 (by decide) ⟨(by unfold ab_r at *; omega), (by unfold ab_r at *; omega)⟩ (fun z => absurd z (by decide)) (fun _ => ?_)
        refine rb_aload_n hV dL_commands_539 rfl rfl ?_
        refine rb_bipush hV dL_commands_540 (by decide) ?_
        refine rb_callV hV (rest := []) dL_commands_542 (c_X9_setHang m493 101 (by unfold ab_r at *; omega) hx493) lk_L_94 rfl (Or.inl ⟨8, _, TX9, 8, gw_0 _, rfl⟩) rfl ⟨rfl, rfl, (Nat.le_of_ble_eq_true rfl), (Nat.le_of_ble_eq_true rfl), (Nat.le_of_ble_eq_true rfl), (Nat.le_of_ble_eq_true rfl)⟩ (Nat.le_of_ble_eq_true rfl) (fun r9 h9 p9 => ?_)
        obtain ⟨rfl, rfl⟩ : r9 = some (.inl (-1002)) ∧ h9 = WW m493 := by
          rcases p9 with ⟨-, q⟩ | ⟨q, -⟩
          · exact q
          · omega
        show V 545 [some (.inr (some 0)), some (.inl gg), some (.inl hh), some (.inl 1), some (.inl 4), some (.inl 100), some (.inl o327), some (.inl (m33 101 0)), some (.inl (m389 107 0)), some (.inl 2), some (.inl o327)] [.inl (-1002)] (WW m493) 0 0
        refine rb_sipush hV dL_commands_545 (by decide) ?_
        refine rb_icmp_ne hV (tgt := 567) dL_commands_548 (by decide) ⟨(by unfold ab_r at *; omega), (by unfold ab_r at *; omega)⟩ (fun z => absurd z (by decide)) (fun _ => ?_)
        refine rb_aload_n hV dL_commands_551 rfl rfl ?_
        refine rb_bipush hV dL_commands_552 (by decide) ?_
        refine rb_callV hV (rest := []) dL_commands_554 (c_X9_setTolerance m493 21 (by unfold ab_r at *; omega) hx493) lk_L_97 rfl (Or.inl ⟨8, _, TX9, 8, gw_0 _, rfl⟩) rfl ⟨rfl, rfl, (Nat.le_of_ble_eq_true rfl), (Nat.le_of_ble_eq_true rfl), (Nat.le_of_ble_eq_true rfl), (Nat.le_of_ble_eq_true rfl)⟩ (Nat.le_of_ble_eq_true rfl) (fun r9 h9 p9 => ?_)
        obtain ⟨rfl, rfl⟩ : r9 = some (.inl (-1002)) ∧ h9 = WW m493 := by
          rcases p9 with ⟨-, q⟩ | ⟨q, -⟩
          · exact q
          · omega
        show V 557 [some (.inr (some 0)), some (.inl gg), some (.inl hh), some (.inl 1), some (.inl 4), some (.inl 100), some (.inl o327), some (.inl (m33 101 0)), some (.inl (m389 107 0)), some (.inl 2), some (.inl o327)] [.inl (-1002)] (WW m493) 0 0
        refine rb_sipush hV dL_commands_557 (by decide) ?_
        refine rb_icmp_ne hV (tgt := 567) dL_commands_560 (by decide) ⟨(by unfold ab_r at *; omega), (by unfold ab_r at *; omega)⟩ (fun z => absurd z (by decide)) (fun _ => ?_)
        refine rb_iconst hV dL_commands_563 ?_
        refine rb_goto hV (tgt := 568) dL_commands_564 (by decide) ?_
        refine rb_ret hV (r := some (.inl 1)) dL_commands_568 rfl ⟨(Nat.le_of_ble_eq_true rfl), (Nat.le_of_ble_eq_true rfl)⟩ (by first | exact Or.inl rfl | exact Or.inr rfl | omega) ?_
        exact ⟨rfl, _, rfl, hx493⟩
    · refine rb_iconst hV dL_commands_433 ?_
      refine rb_goto hV (tgt := 449) dL_commands_434 (by decide) ?_
      refine rb_istore hV (L2 := [some (.inr (some 0)), some (.inl gg), some (.inl hh), some (.inl 1), some (.inl 4), some (.inl 100), some (.inl o327), some (.inl (m33 101 0)), some (.inl (m389 107 0)), some (.inl 3), none]) dL_commands_449 (Nat.le_of_ble_eq_true rfl) rfl ?_
      refine rb_aload_n hV dL_commands_451 rfl rfl ?_
      refine rb_callV hV (rest := []) dL_commands_452 (c_X9_command t422 hx422) lk_L_81 rfl (Or.inl ⟨8, _, TX9, 8, gw_0 _, rfl⟩) rfl ⟨rfl, rfl, (Nat.le_of_ble_eq_true rfl), (Nat.le_of_ble_eq_true rfl), (Nat.le_of_ble_eq_true rfl), (Nat.le_of_ble_eq_true rfl)⟩ (Nat.le_of_ble_eq_true rfl) (fun r9 h9 p9 => ?_)
      have f452 : (e385.length : Int) = 3 := by
        rw [dl385.2, if_pos (by omega)]
      obtain ⟨m452, rfl, rfl, hx452, hk452⟩ := CMD_bad (f := 9) (show _ = (9 : Int) from (PR_b (a := 1) (by decide) tx422 dg385 hv0).trans (by rw [f452]; rfl)) (by decide) p9
      have txm452 := TXL_of tx422 (hk452 22 (by decide)) (hk452 104 (by decide))
      show V 455 [some (.inr (some 0)), some (.inl gg), some (.inl hh), some (.inl 1), some (.inl 4), some (.inl 100), some (.inl o327), some (.inl (m33 101 0)), some (.inl (m389 107 0)), some (.inl 3), none] [.inl (-100 - 9)] (WW m452) 0 0
      refine rb_bipush hV dL_commands_455 (by decide) ?_
      refine rb_iload hV dL_commands_457 rfl ?_
      refine rb_isub hV dL_commands_459 ?_
      refine rb_iconst hV dL_commands_460 ?_
      refine rb_isub hV dL_commands_461 ?_
      refine rb_iload hV dL_commands_462 rfl ?_
      refine rb_isub hV dL_commands_464 ?_
      refine rb_iconst hV dL_commands_465 ?_
      refine rb_isub hV dL_commands_466 ?_
      refine rb_icmp_eq hV (tgt := 472) dL_commands_467 (by decide) ⟨(by unfold ab_r at *; omega), (by unfold ab_r at *; omega)⟩ (fun c467 => ?_) (fun c467 => absurd c467 (by omega))
      refine rb_iload_n hV dL_commands_472 rfl rfl ?_
      refine rb_if_ne hV (tgt := 485) dL_commands_473 (by decide) (by unfold ab_r at *; omega) (fun _ => ?_) (fun z => absurd z (by decide))
      refine rb_iload_n hV dL_commands_485 rfl rfl ?_
      refine rb_iconst hV dL_commands_486 ?_
      refine rb_icmp_ne hV (tgt := 499) dL_commands_487 (by decide) ⟨(by unfold ab_r at *; omega), (by unfold ab_r at *; omega)⟩ (fun z => absurd z (by decide)) (fun _ => ?_)
      refine rb_aload_n hV dL_commands_490 rfl rfl ?_
      refine rb_iload hV dL_commands_491 rfl ?_
      refine rb_callV hV (rest := []) dL_commands_493 (c_X9_setHang m452 (m33 101 0) (by unfold ab_r at *; omega) hx452) lk_L_94 rfl (Or.inl ⟨8, _, TX9, 8, gw_0 _, rfl⟩) rfl ⟨rfl, rfl, (Nat.le_of_ble_eq_true rfl), (Nat.le_of_ble_eq_true rfl), (Nat.le_of_ble_eq_true rfl), (Nat.le_of_ble_eq_true rfl)⟩ (Nat.le_of_ble_eq_true rfl) (fun r9 h9 p9 => ?_)
      obtain ⟨m493, rfl, rfl, hx493, hk493⟩ : ∃ m, r9 = some (.inl o327) ∧ h9 = WW m ∧ XI m ∧ KEEP RB (ab_s m452 101 (fun _ => m33 101 0)) m := by
        rcases p9 with ⟨q, -⟩ | ⟨-, m, q1, q2, q3, -, q5⟩
        · exact absurd bw q
        · exact ⟨m, by rw [q1, show m452 101 0 = o327 from (congrFun (hk452 101 (by decide)) 0).trans ((congrFun (hk422 101 (by decide)) 0).trans (s1 rfl))], q2, q3, q5⟩
      show V 496 [some (.inr (some 0)), some (.inl gg), some (.inl hh), some (.inl 1), some (.inl 4), some (.inl 100), some (.inl o327), some (.inl (m33 101 0)), some (.inl (m389 107 0)), some (.inl 3), none] [.inl o327] (WW m493) 0 0
      refine rb_goto hV (tgt := 505) dL_commands_496 (by decide) ?_
      refine rb_istore hV (L2 := [some (.inr (some 0)), some (.inl gg), some (.inl hh), some (.inl 1), some (.inl 4), some (.inl 100), some (.inl o327), some (.inl (m33 101 0)), some (.inl (m389 107 0)), some (.inl 3), some (.inl o327)]) dL_commands_505 (Nat.le_of_ble_eq_true rfl) rfl ?_
      refine rb_iload hV dL_commands_507 rfl ?_
      refine rb_iload hV dL_commands_509 rfl ?_
      refine rb_icmp_ne hV (tgt := 567) dL_commands_511 (by decide) ⟨(by unfold ab_r at *; omega), (by unfold ab_r at *; omega)⟩ (fun c511 => absurd c511 (by omega)) (fun c511 => ?_)
      refine rb_aload_n hV dL_commands_514 rfl rfl ?_
      refine rb_bipush hV dL_commands_515 (by decide) ?_
      refine rb_iload_n hV dL_commands_517 rfl rfl ?_
      refine rb_iadd hV dL_commands_518 ?_
      refine rb_callV hV (rest := []) dL_commands_519 (c_X9_count m493 (7 + 1) (by unfold ab_r at *; omega) hx493) lk_L_36 rfl (Or.inl ⟨8, _, TX9, 8, gw_0 _, rfl⟩) rfl ⟨rfl, rfl, (Nat.le_of_ble_eq_true rfl), (Nat.le_of_ble_eq_true rfl), (Nat.le_of_ble_eq_true rfl), (Nat.le_of_ble_eq_true rfl)⟩ (Nat.le_of_ble_eq_true rfl) (fun r9 h9 p9 => ?_)
      obtain ⟨rfl, rfl⟩ : r9 = some (.inl (m33 101 0)) ∧ h9 = WW m493 := ⟨p9.1.trans (congrArg (fun z : Int => (some (Sum.inl z) : Option ab_V)) (show xcount m493 (7 + 1) = m33 101 0 from congrFun (hk493 101 (by decide)) 0)), p9.2⟩
      show V 522 [some (.inr (some 0)), some (.inl gg), some (.inl hh), some (.inl 1), some (.inl 4), some (.inl 100), some (.inl o327), some (.inl (m33 101 0)), some (.inl (m389 107 0)), some (.inl 3), some (.inl o327)] [.inl (m33 101 0)] (WW m493) 0 0
      refine rb_iload hV dL_commands_522 rfl ?_
      refine rb_icmp_ne hV (tgt := 567) dL_commands_524 (by decide) ⟨(by unfold ab_r at *; omega), (by unfold ab_r at *; omega)⟩ (fun c524 => absurd c524 (by omega)) (fun c524 => ?_)
      refine rb_aload_n hV dL_commands_527 rfl rfl ?_
      refine rb_bipush hV dL_commands_528 (by decide) ?_
      refine rb_callV hV (rest := []) dL_commands_530 (c_X9_setMeasure m493 9 (by unfold ab_r at *; omega) hx493) lk_L_91 rfl (Or.inl ⟨8, _, TX9, 8, gw_0 _, rfl⟩) rfl ⟨rfl, rfl, (Nat.le_of_ble_eq_true rfl), (Nat.le_of_ble_eq_true rfl), (Nat.le_of_ble_eq_true rfl), (Nat.le_of_ble_eq_true rfl)⟩ (Nat.le_of_ble_eq_true rfl) (fun r9 h9 p9 => ?_)
      obtain ⟨rfl, rfl⟩ : r9 = some (.inl (-1002)) ∧ h9 = WW m493 := by
        rcases p9 with ⟨-, q⟩ | ⟨q, -⟩
        · exact q
        · omega
      show V 533 [some (.inr (some 0)), some (.inl gg), some (.inl hh), some (.inl 1), some (.inl 4), some (.inl 100), some (.inl o327), some (.inl (m33 101 0)), some (.inl (m389 107 0)), some (.inl 3), some (.inl o327)] [.inl (-1002)] (WW m493) 0 0
      refine rb_sipush hV dL_commands_533 (by decide) ?_
      refine rb_icmp_ne hV (tgt := 567) dL_commands_536 (by decide) ⟨(by unfold ab_r at *; omega), (by unfold ab_r at *; omega)⟩ (fun z => absurd z (by decide)) (fun _ => ?_)
      refine rb_aload_n hV dL_commands_539 rfl rfl ?_
      refine rb_bipush hV dL_commands_540 (by decide) ?_
      refine rb_callV hV (rest := []) dL_commands_542 (c_X9_setHang m493 101 (by unfold ab_r at *; omega) hx493) lk_L_94 rfl (Or.inl ⟨8, _, TX9, 8, gw_0 _, rfl⟩) rfl ⟨rfl, rfl, (Nat.le_of_ble_eq_true rfl), (Nat.le_of_ble_eq_true rfl), (Nat.le_of_ble_eq_true rfl), (Nat.le_of_ble_eq_true rfl)⟩ (Nat.le_of_ble_eq_true rfl) (fun r9 h9 p9 => ?_)
      obtain ⟨rfl, rfl⟩ : r9 = some (.inl (-1002)) ∧ h9 = WW m493 := by
        rcases p9 with ⟨-, q⟩ | ⟨q, -⟩
        · exact q
        · omega
      show V 545 [some (.inr (some 0)), some (.inl gg), some (.inl hh), some (.inl 1), some (.inl 4), some (.inl 100), some (.inl o327), some (.inl (m33 101 0)), some (.inl (m389 107 0)), some (.inl 3), some (.inl o327)] [.inl (-1002)] (WW m493) 0 0
      refine rb_sipush hV dL_commands_545 (by decide) ?_
      refine rb_icmp_ne hV (tgt := 567) dL_commands_548 (by decide) ⟨(by unfold ab_r at *; omega), (by unfold ab_r at *; omega)⟩ (fun z => absurd z (by decide)) (fun _ => ?_)
      refine rb_aload_n hV dL_commands_551 rfl rfl ?_
      refine rb_bipush hV dL_commands_552 (by decide) ?_
      refine rb_callV hV (rest := []) dL_commands_554 (c_X9_setTolerance m493 21 (by unfold ab_r at *; omega) hx493) lk_L_97 rfl (Or.inl ⟨8, _, TX9, 8, gw_0 _, rfl⟩) rfl ⟨rfl, rfl, (Nat.le_of_ble_eq_true rfl), (Nat.le_of_ble_eq_true rfl), (Nat.le_of_ble_eq_true rfl), (Nat.le_of_ble_eq_true rfl)⟩ (Nat.le_of_ble_eq_true rfl) (fun r9 h9 p9 => ?_)
      obtain ⟨rfl, rfl⟩ : r9 = some (.inl (-1002)) ∧ h9 = WW m493 := by
        rcases p9 with ⟨-, q⟩ | ⟨q, -⟩
        · exact q
        · omega
      show V 557 [some (.inr (some 0)), some (.inl gg), some (.inl hh), some (.inl 1), some (.inl 4), some (.inl 100), some (.inl o327), some (.inl (m33 101 0)), some (.inl (m389 107 0)), some (.inl 3), some (.inl o327)] [.inl (-1002)] (WW m493) 0 0
      refine rb_sipush hV dL_commands_557 (by decide) ?_
      refine rb_icmp_ne hV (tgt := 567) dL_commands_560 (by decide) ⟨(by unfold ab_r at *; omega), (by unfold ab_r at *; omega)⟩ (fun z => absurd z (by decide)) (fun _ => ?_)
      refine rb_iconst hV dL_commands_563 ?_
      refine rb_goto hV (tgt := 568) dL_commands_564 (by decide) ?_
      refine rb_ret hV (r := some (.inl 1)) dL_commands_568 rfl ⟨(Nat.le_of_ble_eq_true rfl), (Nat.le_of_ble_eq_true rfl)⟩ (by first | exact Or.inl rfl | exact Or.inr rfl | omega) ?_
      exact ⟨rfl, _, rfl, hx493⟩
  · refine rb_iload_n hV dL_commands_6 rfl rfl ?_
    refine rb_if_ne hV (tgt := 15) dL_commands_7 (by decide) (by unfold ab_r at *; omega) (fun _ => ?_) (fun z => absurd z (by decide))
    refine rb_iload_n hV dL_commands_15 rfl rfl ?_
    refine rb_iconst hV dL_commands_16 ?_
    refine rb_icmp_ne hV (tgt := 24) dL_commands_17 (by decide) ⟨(by unfold ab_r at *; omega), (by unfold ab_r at *; omega)⟩ (fun _ => ?_) (fun z => absurd z (by decide))
    refine rb_iconst hV dL_commands_24 ?_
    refine rb_istore hV (L2 := [some (.inr (some 0)), some (.inl gg), some (.inl hh), some (.inl 2), some (.inl 5), none, none, none, none, none, none]) dL_commands_25 (Nat.le_of_ble_eq_true rfl) rfl ?_
    refine rb_aload_n hV dL_commands_27 rfl rfl ?_
    refine rb_iload_n hV dL_commands_28 rfl rfl ?_
    refine rb_callS hV (rest := []) dL_commands_29 (c_L_word s 2 (by decide) hx) lk_L_78 rfl rfl ⟨rfl, rfl, (Nat.le_of_ble_eq_true rfl), (Nat.le_of_ble_eq_true rfl), (Nat.le_of_ble_eq_true rfl), (Nat.le_of_ble_eq_true rfl)⟩ (Nat.le_of_ble_eq_true rfl) (fun r9 h9 p9 => ?_)
    obtain ⟨rfl, t29, rfl, hx29, hk29, tx29⟩ := p9
    show V 32 [some (.inr (some 0)), some (.inl gg), some (.inl hh), some (.inl 2), some (.inl 5), none, none, none, none, none, none] [] (WW t29) 0 0
    refine rb_aload_n hV dL_commands_32 rfl rfl ?_
    refine rb_callV hV (rest := []) dL_commands_33 (c_X9_command t29 hx29) lk_L_81 rfl (Or.inl ⟨8, _, TX9, 8, gw_0 _, rfl⟩) rfl ⟨rfl, rfl, (Nat.le_of_ble_eq_true rfl), (Nat.le_of_ble_eq_true rfl), (Nat.le_of_ble_eq_true rfl), (Nat.le_of_ble_eq_true rfl)⟩ (Nat.le_of_ble_eq_true rfl) (fun r9 h9 p9 => ?_)
    obtain ⟨m33, rfl, rfl, hx33, hk33⟩ := CMD_bad (f := 5) (show _ = (5 : Int) from PR_w (a := 2) (by decide) tx29) (by decide) p9
    have txm33 := TXL_of tx29 (hk33 22 (by decide)) (hk33 104 (by decide))
    show V 36 [some (.inr (some 0)), some (.inl gg), some (.inl hh), some (.inl 2), some (.inl 5), none, none, none, none, none, none] [.inl (-100 - 5)] (WW m33) 0 0
    refine rb_bipush hV dL_commands_36 (by decide) ?_
    refine rb_iload hV dL_commands_38 rfl ?_
    refine rb_isub hV dL_commands_40 ?_
    refine rb_icmp_eq hV (tgt := 46) dL_commands_41 (by decide) ⟨(by unfold ab_r at *; omega), (by unfold ab_r at *; omega)⟩ (fun c41 => ?_) (fun c41 => absurd c41 (by omega))
    refine rb_iload_n hV dL_commands_46 rfl rfl ?_
    refine rb_iconst hV dL_commands_47 ?_
    refine rb_icmp_ne hV (tgt := 281) dL_commands_48 (by decide) ⟨(by unfold ab_r at *; omega), (by unfold ab_r at *; omega)⟩ (fun _ => ?_) (fun z => absurd z (by decide))
    refine rb_iload_n hV dL_commands_281 rfl rfl ?_
    refine rb_if_ne hV (tgt := 291) dL_commands_282 (by decide) (by unfold ab_r at *; omega) (fun _ => ?_) (fun z => absurd z (by decide))
    refine rb_iload_n hV dL_commands_291 rfl rfl ?_
    refine rb_iconst hV dL_commands_292 ?_
    refine rb_icmp_ne hV (tgt := 301) dL_commands_293 (by decide) ⟨(by unfold ab_r at *; omega), (by unfold ab_r at *; omega)⟩ (fun _ => ?_) (fun z => absurd z (by decide))
    refine rb_bipush hV dL_commands_301 (by decide) ?_
    refine rb_istore hV (L2 := [some (.inr (some 0)), some (.inl gg), some (.inl hh), some (.inl 2), some (.inl 5), some (.inl 20), none, none, none, none, none]) dL_commands_303 (Nat.le_of_ble_eq_true rfl) rfl ?_
    refine rb_iload_n hV dL_commands_305 rfl rfl ?_
    refine rb_if_ne hV (tgt := 322) dL_commands_306 (by decide) (by unfold ab_r at *; omega) (fun _ => ?_) (fun z => absurd z (by decide))
    refine rb_iload_n hV dL_commands_322 rfl rfl ?_
    refine rb_iload hV dL_commands_323 rfl ?_
    refine rb_iconst hV dL_commands_325 ?_
    refine rb_iadd hV dL_commands_326 ?_
    refine rb_callS hV (rest := []) dL_commands_327 (c_L_low m33 hh (20 + 1) (by omega)) lk_L_9 rfl rfl ⟨rfl, rfl, (Nat.le_of_ble_eq_true rfl), (Nat.le_of_ble_eq_true rfl), (Nat.le_of_ble_eq_true rfl), (Nat.le_of_ble_eq_true rfl)⟩ (Nat.le_of_ble_eq_true rfl) (fun r9 h9 p9 => ?_)
    obtain ⟨o327, rfl, rfl, ho327⟩ := p9
    show V 330 [some (.inr (some 0)), some (.inl gg), some (.inl hh), some (.inl 2), some (.inl 5), some (.inl 20), none, none, none, none, none] [.inl o327] (WW m33) 0 0
    refine rb_istore hV (L2 := [some (.inr (some 0)), some (.inl gg), some (.inl hh), some (.inl 2), some (.inl 5), some (.inl 20), some (.inl o327), none, none, none, none]) dL_commands_330 (Nat.le_of_ble_eq_true rfl) rfl ?_
    refine rb_aload_n hV dL_commands_332 rfl rfl ?_
    refine rb_bipush hV dL_commands_333 (by decide) ?_
    refine rb_iload_n hV dL_commands_335 rfl rfl ?_
    refine rb_iadd hV dL_commands_336 ?_
    have hwl : (wrd 2).length = 5 := rfl
    have bw : 0 ≤ m33 102 0 ∧ m33 102 0 ≤ 20 := hx33.1.2.2.2.2.1
    refine rb_callV hV (rest := []) dL_commands_337 (c_X9_count m33 (7 + 2) (by unfold ab_r at *; omega) hx33) lk_L_36 rfl (Or.inl ⟨8, _, TX9, 8, gw_0 _, rfl⟩) rfl ⟨rfl, rfl, (Nat.le_of_ble_eq_true rfl), (Nat.le_of_ble_eq_true rfl), (Nat.le_of_ble_eq_true rfl), (Nat.le_of_ble_eq_true rfl)⟩ (Nat.le_of_ble_eq_true rfl) (fun r9 h9 p9 => ?_)
    obtain ⟨rfl, rfl⟩ : r9 = some (.inl (m33 102 0)) ∧ h9 = WW m33 := ⟨p9.1.trans (congrArg (fun z : Int => (some (Sum.inl z) : Option ab_V)) (show xcount m33 (7 + 2) = m33 102 0 from rfl)), p9.2⟩
    show V 340 [some (.inr (some 0)), some (.inl gg), some (.inl hh), some (.inl 2), some (.inl 5), some (.inl 20), some (.inl o327), none, none, none, none] [.inl (m33 102 0)] (WW m33) 0 0
    refine rb_istore hV (L2 := [some (.inr (some 0)), some (.inl gg), some (.inl hh), some (.inl 2), some (.inl 5), some (.inl 20), some (.inl o327), some (.inl (m33 102 0)), none, none, none]) dL_commands_340 (Nat.le_of_ble_eq_true rfl) rfl ?_
    refine rb_aload_n hV dL_commands_342 rfl rfl ?_
    refine rb_iload hV dL_commands_343 rfl ?_
    refine rb_iconst hV dL_commands_345 ?_
    refine rb_iadd hV dL_commands_346 ?_
    refine rb_callS hV (rest := []) dL_commands_347 (c_L_number m33 (20 + 1) _ (by omega) (by first | omega | (simp only [List.length_append, List.length_cons, List.length_nil]; omega)) txm33 hx33) lk_L_84 rfl rfl ⟨rfl, rfl, (Nat.le_of_ble_eq_true rfl), (Nat.le_of_ble_eq_true rfl), (Nat.le_of_ble_eq_true rfl), (Nat.le_of_ble_eq_true rfl)⟩ (Nat.le_of_ble_eq_true rfl) (fun r9 h9 p9 => ?_)
    obtain ⟨rfl, t347, e347, rfl, hx347, hk347, tx347, dg347⟩ := p9
    have dl347 := (DG_b dg347).2
    show V 350 [some (.inr (some 0)), some (.inl gg), some (.inl hh), some (.inl 2), some (.inl 5), some (.inl 20), some (.inl o327), some (.inl (m33 102 0)), none, none, none] [] (WW t347) 0 0
    refine rb_aload_n hV dL_commands_350 rfl rfl ?_
    refine rb_callV hV (rest := []) dL_commands_351 (c_X9_command t347 hx347) lk_L_81 rfl (Or.inl ⟨8, _, TX9, 8, gw_0 _, rfl⟩) rfl ⟨rfl, rfl, (Nat.le_of_ble_eq_true rfl), (Nat.le_of_ble_eq_true rfl), (Nat.le_of_ble_eq_true rfl), (Nat.le_of_ble_eq_true rfl)⟩ (Nat.le_of_ble_eq_true rfl) (fun r9 h9 p9 => ?_)
    obtain ⟨m351, rfl, rfl, hx351, hk351⟩ := CMD_bad (f := 6) (show _ = (6 : Int) from (PR_n (a := 2) (by decide) tx347 dg347).1 (by decide)) (by decide) p9
    have txm351 := TXL_of tx347 (hk351 22 (by decide)) (hk351 104 (by decide))
    show V 354 [some (.inr (some 0)), some (.inl gg), some (.inl hh), some (.inl 2), some (.inl 5), some (.inl 20), some (.inl o327), some (.inl (m33 102 0)), none, none, none] [.inl (-100 - 6)] (WW m351) 0 0
    refine rb_bipush hV dL_commands_354 (by decide) ?_
    refine rb_iload hV dL_commands_356 rfl ?_
    refine rb_isub hV dL_commands_358 ?_
    refine rb_icmp_ne hV (tgt := 375) dL_commands_359 (by decide) ⟨(by unfold ab_r at *; omega), (by unfold ab_r at *; omega)⟩ (fun c359 => absurd c359 (by omega)) (fun c359 => ?_)
    refine rb_aload_n hV dL_commands_362 rfl rfl ?_
    refine rb_bipush hV dL_commands_363 (by decide) ?_
    refine rb_iload_n hV dL_commands_365 rfl rfl ?_
    refine rb_iadd hV dL_commands_366 ?_
    refine rb_callV hV (rest := []) dL_commands_367 (c_X9_count m351 (7 + 2) (by unfold ab_r at *; omega) hx351) lk_L_36 rfl (Or.inl ⟨8, _, TX9, 8, gw_0 _, rfl⟩) rfl ⟨rfl, rfl, (Nat.le_of_ble_eq_true rfl), (Nat.le_of_ble_eq_true rfl), (Nat.le_of_ble_eq_true rfl), (Nat.le_of_ble_eq_true rfl)⟩ (Nat.le_of_ble_eq_true rfl) (fun r9 h9 p9 => ?_)
    obtain ⟨rfl, rfl⟩ : r9 = some (.inl (m33 102 0)) ∧ h9 = WW m351 := ⟨p9.1.trans (congrArg (fun z : Int => (some (Sum.inl z) : Option ab_V)) (show xcount m351 (7 + 2) = m33 102 0 from (congrFun (hk351 102 (by decide)) 0).trans (congrFun (hk347 102 (by decide)) 0))), p9.2⟩
    show V 370 [some (.inr (some 0)), some (.inl gg), some (.inl hh), some (.inl 2), some (.inl 5), some (.inl 20), some (.inl o327), some (.inl (m33 102 0)), none, none, none] [.inl (m33 102 0)] (WW m351) 0 0
    refine rb_iload hV dL_commands_370 rfl ?_
    refine rb_icmp_eq hV (tgt := 377) dL_commands_372 (by decide) ⟨(by unfold ab_r at *; omega), (by unfold ab_r at *; omega)⟩ (fun c372 => ?_) (fun c372 => absurd c372 (by omega))
    refine rb_aload_n hV dL_commands_377 rfl rfl ?_
    refine rb_iload_n hV dL_commands_378 rfl rfl ?_
    refine rb_callS hV (rest := []) dL_commands_379 (c_L_word m351 2 (by decide) hx351) lk_L_78 rfl rfl ⟨rfl, rfl, (Nat.le_of_ble_eq_true rfl), (Nat.le_of_ble_eq_true rfl), (Nat.le_of_ble_eq_true rfl), (Nat.le_of_ble_eq_true rfl)⟩ (Nat.le_of_ble_eq_true rfl) (fun r9 h9 p9 => ?_)
    obtain ⟨rfl, t379, rfl, hx379, hk379, tx379⟩ := p9
    show V 382 [some (.inr (some 0)), some (.inl gg), some (.inl hh), some (.inl 2), some (.inl 5), some (.inl 20), some (.inl o327), some (.inl (m33 102 0)), none, none, none] [] (WW t379) 0 0
    refine rb_aload_n hV dL_commands_382 rfl rfl ?_
    refine rb_iload hV dL_commands_383 rfl ?_
    refine rb_callS hV (rest := []) dL_commands_385 (c_L_number t379 o327 _ (by omega) (by first | omega | (simp only [List.length_append, List.length_cons, List.length_nil]; omega)) tx379 hx379) lk_L_84 rfl rfl ⟨rfl, rfl, (Nat.le_of_ble_eq_true rfl), (Nat.le_of_ble_eq_true rfl), (Nat.le_of_ble_eq_true rfl), (Nat.le_of_ble_eq_true rfl)⟩ (Nat.le_of_ble_eq_true rfl) (fun r9 h9 p9 => ?_)
    obtain ⟨rfl, t385, e385, rfl, hx385, hk385, tx385, dg385⟩ := p9
    have dl385 := (DG_b dg385).2
    show V 388 [some (.inr (some 0)), some (.inl gg), some (.inl hh), some (.inl 2), some (.inl 5), some (.inl 20), some (.inl o327), some (.inl (m33 102 0)), none, none, none] [] (WW t385) 0 0
    refine rb_aload_n hV dL_commands_388 rfl rfl ?_
    refine rb_callV hV (rest := []) dL_commands_389 (c_X9_command t385 hx385) lk_L_81 rfl (Or.inl ⟨8, _, TX9, 8, gw_0 _, rfl⟩) rfl ⟨rfl, rfl, (Nat.le_of_ble_eq_true rfl), (Nat.le_of_ble_eq_true rfl), (Nat.le_of_ble_eq_true rfl), (Nat.le_of_ble_eq_true rfl)⟩ (Nat.le_of_ble_eq_true rfl) (fun r9 h9 p9 => ?_)
    have hv0 : (if (2 : Int) = 0 then 10 else 0) ≤ o327 ∧ o327 ≤ tHi 2 := (by rw [if_neg (by decide), show tHi 2 = 20 from rfl]; omega)
    obtain ⟨m389, rfl, rfl, hx389, hkk389, s0, s1, s2⟩ := CMD_set (a := 2) (by decide) ((PR_n (a := 2) (by decide) tx385 dg385).2 hv0) p9
    have txm389 := TXL_of tx385 hkk389.1 hkk389.2
    have bnl := hx389.2.2.2.1.1
    have bnw := hx389.1.1
    have e389 : vX m389 0 0 = m389 103 0 := rfl
    show V 392 [some (.inr (some 0)), some (.inl gg), some (.inl hh), some (.inl 2), some (.inl 5), some (.inl 20), some (.inl o327), some (.inl (m33 102 0)), none, none, none] [.inl (m389 107 0)] (WW m389) 0 0
    refine rb_istore hV (L2 := [some (.inr (some 0)), some (.inl gg), some (.inl hh), some (.inl 2), some (.inl 5), some (.inl 20), some (.inl o327), some (.inl (m33 102 0)), some (.inl (m389 107 0)), none, none]) dL_commands_392 (Nat.le_of_ble_eq_true rfl) rfl ?_
    refine rb_iload hV dL_commands_394 rfl ?_
    refine rb_aload_n hV dL_commands_396 rfl rfl ?_
    refine rb_iconst hV dL_commands_397 ?_
    refine rb_callV hV (rest := [.inl (m389 107 0)]) dL_commands_398 (c_X9_count m389 1 (by unfold ab_r at *; omega) hx389) lk_L_36 rfl (Or.inl ⟨8, _, TX9, 8, gw_0 _, rfl⟩) rfl ⟨rfl, rfl, (Nat.le_of_ble_eq_true rfl), (Nat.le_of_ble_eq_true rfl), (Nat.le_of_ble_eq_true rfl), (Nat.le_of_ble_eq_true rfl)⟩ (Nat.le_of_ble_eq_true rfl) (fun r9 h9 p9 => ?_)
    obtain ⟨rfl, rfl⟩ : r9 = some (.inl (m389 107 0)) ∧ h9 = WW m389 := ⟨p9.1.trans (congrArg (fun z : Int => (some (Sum.inl z) : Option ab_V)) rfl), p9.2⟩
    show V 401 [some (.inr (some 0)), some (.inl gg), some (.inl hh), some (.inl 2), some (.inl 5), some (.inl 20), some (.inl o327), some (.inl (m33 102 0)), some (.inl (m389 107 0)), none, none] [.inl (m389 107 0), .inl (m389 107 0)] (WW m389) 0 0
    refine rb_icmp_ne hV (tgt := 417) dL_commands_401 (by decide) ⟨(by unfold ab_r at *; omega), (by unfold ab_r at *; omega)⟩ (fun c401 => absurd c401 (by omega)) (fun c401 => ?_)
    refine rb_aload_n hV dL_commands_404 rfl rfl ?_
    refine rb_bipush hV dL_commands_405 (by decide) ?_
    refine rb_iload_n hV dL_commands_407 rfl rfl ?_
    refine rb_iadd hV dL_commands_408 ?_
    refine rb_callV hV (rest := []) dL_commands_409 (c_X9_count m389 (7 + 2) (by unfold ab_r at *; omega) hx389) lk_L_36 rfl (Or.inl ⟨8, _, TX9, 8, gw_0 _, rfl⟩) rfl ⟨rfl, rfl, (Nat.le_of_ble_eq_true rfl), (Nat.le_of_ble_eq_true rfl), (Nat.le_of_ble_eq_true rfl), (Nat.le_of_ble_eq_true rfl)⟩ (Nat.le_of_ble_eq_true rfl) (fun r9 h9 p9 => ?_)
    obtain ⟨rfl, rfl⟩ : r9 = some (.inl o327) ∧ h9 = WW m389 := ⟨p9.1.trans (congrArg (fun z : Int => (some (Sum.inl z) : Option ab_V)) (show xcount m389 (7 + 2) = o327 from s2 rfl)), p9.2⟩
    show V 412 [some (.inr (some 0)), some (.inl gg), some (.inl hh), some (.inl 2), some (.inl 5), some (.inl 20), some (.inl o327), some (.inl (m33 102 0)), some (.inl (m389 107 0)), none, none] [.inl o327] (WW m389) 0 0
    refine rb_iload hV dL_commands_412 rfl ?_
    refine rb_icmp_eq hV (tgt := 419) dL_commands_414 (by decide) ⟨(by unfold ab_r at *; omega), (by unfold ab_r at *; omega)⟩ (fun c414 => ?_) (fun c414 => absurd c414 (by omega))
    refine rb_aload_n hV dL_commands_419 rfl rfl ?_
    refine rb_bipush hV dL_commands_420 (by decide) ?_
    refine rb_callV hV (rest := []) dL_commands_422 (c_X9_type m389 32 (by decide) hx389) lk_L_29 rfl (Or.inl ⟨8, _, TX9, 8, gw_0 _, rfl⟩) rfl ⟨rfl, rfl, (Nat.le_of_ble_eq_true rfl), (Nat.le_of_ble_eq_true rfl), (Nat.le_of_ble_eq_true rfl), (Nat.le_of_ble_eq_true rfl)⟩ (Nat.le_of_ble_eq_true rfl) (fun r9 h9 p9 => ?_)
    obtain ⟨t422, v422, rfl, rfl, hx422, hk422, tx422⟩ := ty_ok txm389 (by first | omega | (simp only [List.length_append, List.length_cons, List.length_nil]; omega)) p9
    show V 425 [some (.inr (some 0)), some (.inl gg), some (.inl hh), some (.inl 2), some (.inl 5), some (.inl 20), some (.inl o327), some (.inl (m33 102 0)), some (.inl (m389 107 0)), none, none] [.inl v422] (WW t422) 0 0
    refine rb_pop hV dL_commands_425 ?_
    refine rb_iload hV dL_commands_426 rfl ?_
    refine rb_bipush hV dL_commands_428 (by decide) ?_
    refine rb_icmp_le hV (tgt := 437) dL_commands_430 (by decide) ⟨(by unfold ab_r at *; omega), (by unfold ab_r at *; omega)⟩ (fun c430 => ?_) (fun c430 => ?_)
    · refine rb_iload hV dL_commands_437 rfl ?_
      refine rb_bipush hV dL_commands_439 (by decide) ?_
      refine rb_icmp_le hV (tgt := 448) dL_commands_441 (by decide) ⟨(by unfold ab_r at *; omega), (by unfold ab_r at *; omega)⟩ (fun c441 => ?_) (fun c441 => ?_)
      · refine rb_iconst hV dL_commands_448 ?_
        refine rb_istore hV (L2 := [some (.inr (some 0)), some (.inl gg), some (.inl hh), some (.inl 2), some (.inl 5), some (.inl 20), some (.inl o327), some (.inl (m33 102 0)), some (.inl (m389 107 0)), some (.inl 1), none]) dL_commands_449 (Nat.le_of_ble_eq_true rfl) rfl ?_
        refine rb_aload_n hV dL_commands_451 rfl rfl ?_
        refine rb_callV hV (rest := []) dL_commands_452 (c_X9_command t422 hx422) lk_L_81 rfl (Or.inl ⟨8, _, TX9, 8, gw_0 _, rfl⟩) rfl ⟨rfl, rfl, (Nat.le_of_ble_eq_true rfl), (Nat.le_of_ble_eq_true rfl), (Nat.le_of_ble_eq_true rfl), (Nat.le_of_ble_eq_true rfl)⟩ (Nat.le_of_ble_eq_true rfl) (fun r9 h9 p9 => ?_)
        have f452 : (e385.length : Int) = 1 := by
          rw [dl385.2, if_neg (by omega), if_neg (by omega)]
        obtain ⟨m452, rfl, rfl, hx452, hk452⟩ := CMD_bad (f := 8) (show _ = (8 : Int) from (PR_b (a := 2) (by decide) tx422 dg385 hv0).trans (by rw [f452]; rfl)) (by decide) p9
        have txm452 := TXL_of tx422 (hk452 22 (by decide)) (hk452 104 (by decide))
        show V 455 [some (.inr (some 0)), some (.inl gg), some (.inl hh), some (.inl 2), some (.inl 5), some (.inl 20), some (.inl o327), some (.inl (m33 102 0)), some (.inl (m389 107 0)), some (.inl 1), none] [.inl (-100 - 8)] (WW m452) 0 0
        refine rb_bipush hV dL_commands_455 (by decide) ?_
        refine rb_iload hV dL_commands_457 rfl ?_
        refine rb_isub hV dL_commands_459 ?_
        refine rb_iconst hV dL_commands_460 ?_
        refine rb_isub hV dL_commands_461 ?_
        refine rb_iload hV dL_commands_462 rfl ?_
        refine rb_isub hV dL_commands_464 ?_
        refine rb_iconst hV dL_commands_465 ?_
        refine rb_isub hV dL_commands_466 ?_
        refine rb_icmp_eq hV (tgt := 472) dL_commands_467 (by decide) ⟨(by unfold ab_r at *; omega), (by unfold ab_r at *; omega)⟩ (fun c467 => ?_) (fun c467 => absurd c467 (by omega))
        refine rb_iload_n hV dL_commands_472 rfl rfl ?_
        refine rb_if_ne hV (tgt := 485) dL_commands_473 (by decide) (by unfold ab_r at *; omega) (fun _ => ?_) (fun z => absurd z (by decide))
        refine rb_iload_n hV dL_commands_485 rfl rfl ?_
        refine rb_iconst hV dL_commands_486 ?_
        refine rb_icmp_ne hV (tgt := 499) dL_commands_487 (by decide) ⟨(by unfold ab_r at *; omega), (by unfold ab_r at *; omega)⟩ (fun _ => ?_) (fun z => absurd z (by decide))
        refine rb_aload_n hV dL_commands_499 rfl rfl ?_
        refine rb_iload hV dL_commands_500 rfl ?_
        refine rb_callV hV (rest := []) dL_commands_502 (c_X9_setTolerance m452 (m33 102 0) (by unfold ab_r at *; omega) hx452) lk_L_97 rfl (Or.inl ⟨8, _, TX9, 8, gw_0 _, rfl⟩) rfl ⟨rfl, rfl, (Nat.le_of_ble_eq_true rfl), (Nat.le_of_ble_eq_true rfl), (Nat.le_of_ble_eq_true rfl), (Nat.le_of_ble_eq_true rfl)⟩ (Nat.le_of_ble_eq_true rfl) (fun r9 h9 p9 => ?_)
        obtain ⟨m502, rfl, rfl, hx502, hk502⟩ : ∃ m, r9 = some (.inl o327) ∧ h9 = WW m ∧ XI m ∧ KEEP RB (ab_s m452 102 (fun _ => m33 102 0)) m := by
          rcases p9 with ⟨q, -⟩ | ⟨-, m, q1, q2, q3, -, q5⟩
          · exact absurd bw q
          · exact ⟨m, by rw [q1, show m452 102 0 = o327 from (congrFun (hk452 102 (by decide)) 0).trans ((congrFun (hk422 102 (by decide)) 0).trans (s2 rfl))], q2, q3, q5⟩
        show V 505 [some (.inr (some 0)), some (.inl gg), some (.inl hh), some (.inl 2), some (.inl 5), some (.inl 20), some (.inl o327), some (.inl (m33 102 0)), some (.inl (m389 107 0)), some (.inl 1), none] [.inl o327] (WW m502) 0 0
        refine rb_istore hV (L2 := [some (.inr (some 0)), some (.inl gg), some (.inl hh), some (.inl 2), some (.inl 5), some (.inl 20), some (.inl o327), some (.inl (m33 102 0)), some (.inl (m389 107 0)), some (.inl 1), some (.inl o327)]) dL_commands_505 (Nat.le_of_ble_eq_true rfl) rfl ?_
        refine rb_iload hV dL_commands_507 rfl ?_
        refine rb_iload hV dL_commands_509 rfl ?_
        refine rb_icmp_ne hV (tgt := 567) dL_commands_511 (by decide) ⟨(by unfold ab_r at *; omega), (by unfold ab_r at *; omega)⟩ (fun c511 => absurd c511 (by omega)) (fun c511 => ?_)
        refine rb_aload_n hV dL_commands_514 rfl rfl ?_
        refine rb_bipush hV dL_commands_515 (by decide) ?_
        refine rb_iload_n hV dL_commands_517 rfl rfl ?_
        refine rb_iadd hV dL_commands_518 ?_
        refine rb_callV hV (rest := []) dL_commands_519 (c_X9_count m502 (7 + 2) (by unfold ab_r at *; omega) hx502) lk_L_36 rfl (Or.inl ⟨8, _, TX9, 8, gw_0 _, rfl⟩) rfl ⟨rfl, rfl, (Nat.le_of_ble_eq_true rfl), (Nat.le_of_ble_eq_true rfl), (Nat.le_of_ble_eq_true rfl), (Nat.le_of_ble_eq_true rfl)⟩ (Nat.le_of_ble_eq_true rfl) (fun r9 h9 p9 => ?_)
        obtain ⟨rfl, rfl⟩ : r9 = some (.inl (m33 102 0)) ∧ h9 = WW m502 := ⟨p9.1.trans (congrArg (fun z : Int => (some (Sum.inl z) : Option ab_V)) (show xcount m502 (7 + 2) = m33 102 0 from congrFun (hk502 102 (by decide)) 0)), p9.2⟩
        show V 522 [some (.inr (some 0)), some (.inl gg), some (.inl hh), some (.inl 2), some (.inl 5), some (.inl 20), some (.inl o327), some (.inl (m33 102 0)), some (.inl (m389 107 0)), some (.inl 1), some (.inl o327)] [.inl (m33 102 0)] (WW m502) 0 0
        refine rb_iload hV dL_commands_522 rfl ?_
        refine rb_icmp_ne hV (tgt := 567) dL_commands_524 (by decide) ⟨(by unfold ab_r at *; omega), (by unfold ab_r at *; omega)⟩ (fun c524 => absurd c524 (by omega)) (fun c524 => ?_)
        refine rb_aload_n hV dL_commands_527 rfl rfl ?_
        refine rb_bipush hV dL_commands_528 (by decide) ?_
        refine rb_callV hV (rest := []) dL_commands_530 (c_X9_setMeasure m502 9 (by unfold ab_r at *; omega) hx502) lk_L_91 rfl (Or.inl ⟨8, _, TX9, 8, gw_0 _, rfl⟩) rfl ⟨rfl, rfl, (Nat.le_of_ble_eq_true rfl), (Nat.le_of_ble_eq_true rfl), (Nat.le_of_ble_eq_true rfl), (Nat.le_of_ble_eq_true rfl)⟩ (Nat.le_of_ble_eq_true rfl) (fun r9 h9 p9 => ?_)
        obtain ⟨rfl, rfl⟩ : r9 = some (.inl (-1002)) ∧ h9 = WW m502 := by
          rcases p9 with ⟨-, q⟩ | ⟨q, -⟩
          · exact q
          · omega
        show V 533 [some (.inr (some 0)), some (.inl gg), some (.inl hh), some (.inl 2), some (.inl 5), some (.inl 20), some (.inl o327), some (.inl (m33 102 0)), some (.inl (m389 107 0)), some (.inl 1), some (.inl o327)] [.inl (-1002)] (WW m502) 0 0
        refine rb_sipush hV dL_commands_533 (by decide) ?_
        refine rb_icmp_ne hV (tgt := 567) dL_commands_536 (by decide) ⟨(by unfold ab_r at *; omega), (by unfold ab_r at *; omega)⟩ (fun z => absurd z (by decide)) (fun _ => ?_)
        refine rb_aload_n hV dL_commands_539 rfl rfl ?_
        refine rb_bipush hV dL_commands_540 (by decide) ?_
        refine rb_callV hV (rest := []) dL_commands_542 (c_X9_setHang m502 101 (by unfold ab_r at *; omega) hx502) lk_L_94 rfl (Or.inl ⟨8, _, TX9, 8, gw_0 _, rfl⟩) rfl ⟨rfl, rfl, (Nat.le_of_ble_eq_true rfl), (Nat.le_of_ble_eq_true rfl), (Nat.le_of_ble_eq_true rfl), (Nat.le_of_ble_eq_true rfl)⟩ (Nat.le_of_ble_eq_true rfl) (fun r9 h9 p9 => ?_)
        obtain ⟨rfl, rfl⟩ : r9 = some (.inl (-1002)) ∧ h9 = WW m502 := by
          rcases p9 with ⟨-, q⟩ | ⟨q, -⟩
          · exact q
          · omega
        show V 545 [some (.inr (some 0)), some (.inl gg), some (.inl hh), some (.inl 2), some (.inl 5), some (.inl 20), some (.inl o327), some (.inl (m33 102 0)), some (.inl (m389 107 0)), some (.inl 1), some (.inl o327)] [.inl (-1002)] (WW m502) 0 0
        refine rb_sipush hV dL_commands_545 (by decide) ?_
        refine rb_icmp_ne hV (tgt := 567) dL_commands_548 (by decide) ⟨(by unfold ab_r at *; omega), (by unfold ab_r at *; omega)⟩ (fun z => absurd z (by decide)) (fun _ => ?_)
        refine rb_aload_n hV dL_commands_551 rfl rfl ?_
        refine rb_bipush hV dL_commands_552 (by decide) ?_
        refine rb_callV hV (rest := []) dL_commands_554 (c_X9_setTolerance m502 21 (by unfold ab_r at *; omega) hx502) lk_L_97 rfl (Or.inl ⟨8, _, TX9, 8, gw_0 _, rfl⟩) rfl ⟨rfl, rfl, (Nat.le_of_ble_eq_true rfl), (Nat.le_of_ble_eq_true rfl), (Nat.le_of_ble_eq_true rfl), (Nat.le_of_ble_eq_true rfl)⟩ (Nat.le_of_ble_eq_true rfl) (fun r9 h9 p9 => ?_)
        obtain ⟨rfl, rfl⟩ : r9 = some (.inl (-1002)) ∧ h9 = WW m502 := by
          rcases p9 with ⟨-, q⟩ | ⟨q, -⟩
          · exact q
          · omega
        show V 557 [some (.inr (some 0)), some (.inl gg), some (.inl hh), some (.inl 2), some (.inl 5), some (.inl 20), some (.inl o327), some (.inl (m33 102 0)), some (.inl (m389 107 0)), some (.inl 1), some (.inl o327)] [.inl (-1002)] (WW m502) 0 0
        refine rb_sipush hV dL_commands_557 (by decide) ?_
        refine rb_icmp_ne hV (tgt := 567) dL_commands_560 (by decide) ⟨(by unfold ab_r at *; omega), (by unfold ab_r at *; omega)⟩ (fun z => absurd z (by decide)) (fun _ => ?_)
        refine rb_iconst hV dL_commands_563 ?_
        refine rb_goto hV (tgt := 568) dL_commands_564 (by decide) ?_
        refine rb_ret hV (r := some (.inl 1)) dL_commands_568 rfl ⟨(Nat.le_of_ble_eq_true rfl), (Nat.le_of_ble_eq_true rfl)⟩ (by first | exact Or.inl rfl | exact Or.inr rfl | omega) ?_
        exact ⟨rfl, _, rfl, hx502⟩
      · refine rb_iconst hV dL_commands_444 ?_
        refine rb_goto hV (tgt := 449) dL_commands_445 (by decide) ?_
        refine rb_istore hV (L2 := [some (.inr (some 0)), some (.inl gg), some (.inl hh), some (.inl 2), some (.inl 5), some (.inl 20), some (.inl o327), some (.inl (m33 102 0)), some (.inl (m389 107 0)), some (.inl 2), none]) dL_commands_449 (Nat.le_of_ble_eq_true rfl) rfl ?_
        refine rb_aload_n hV dL_commands_451 rfl rfl ?_
        refine rb_callV hV (rest := []) dL_commands_452 (c_X9_command t422 hx422) lk_L_81 rfl (Or.inl ⟨8, _, TX9, 8, gw_0 _, rfl⟩) rfl ⟨rfl, rfl, (Nat.le_of_ble_eq_true rfl), (Nat.le_of_ble_eq_true rfl), (Nat.le_of_ble_eq_true rfl), (Nat.le_of_ble_eq_true rfl)⟩ (Nat.le_of_ble_eq_true rfl) (fun r9 h9 p9 => ?_)
        have f452 : (e385.length : Int) = 2 := by
          rw [dl385.2, if_neg (by omega), if_pos (by omega)]
        obtain ⟨m452, rfl, rfl, hx452, hk452⟩ := CMD_bad (f := 9) (show _ = (9 : Int) from (PR_b (a := 2) (by decide) tx422 dg385 hv0).trans (by rw [f452]; rfl)) (by decide) p9
        have txm452 := TXL_of tx422 (hk452 22 (by decide)) (hk452 104 (by decide))
        show V 455 [some (.inr (some 0)), some (.inl gg), some (.inl hh), some (.inl 2), some (.inl 5), some (.inl 20), some (.inl o327), some (.inl (m33 102 0)), some (.inl (m389 107 0)), some (.inl 2), none] [.inl (-100 - 9)] (WW m452) 0 0
        refine rb_bipush hV dL_commands_455 (by decide) ?_
        refine rb_iload hV dL_commands_457 rfl ?_
        refine rb_isub hV dL_commands_459 ?_
        refine rb_iconst hV dL_commands_460 ?_
        refine rb_isub hV dL_commands_461 ?_
        refine rb_iload hV dL_commands_462 rfl ?_
        refine rb_isub hV dL_commands_464 ?_
        refine rb_iconst hV dL_commands_465 ?_
        refine rb_isub hV dL_commands_466 ?_
        refine rb_icmp_eq hV (tgt := 472) dL_commands_467 (by decide) ⟨(by unfold ab_r at *; omega), (by unfold ab_r at *; omega)⟩ (fun c467 => ?_) (fun c467 => absurd c467 (by omega))
        refine rb_iload_n hV dL_commands_472 rfl rfl ?_
        refine rb_if_ne hV (tgt := 485) dL_commands_473 (by decide) (by unfold ab_r at *; omega) (fun _ => ?_) (fun z => absurd z (by decide))
        refine rb_iload_n hV dL_commands_485 rfl rfl ?_
        refine rb_iconst hV dL_commands_486 ?_
        refine rb_icmp_ne hV (tgt := 499) dL_commands_487 (by decide) ⟨(by unfold ab_r at *; omega), (by unfold ab_r at *; omega)⟩ (fun _ => ?_) (fun z => absurd z (by decide))
        refine rb_aload_n hV dL_commands_499 rfl rfl ?_
        refine rb_iload hV dL_commands_500 rfl ?_
        refine rb_callV hV (rest := []) dL_commands_502 (c_X9_setTolerance m452 (m33 102 0) (by unfold ab_r at *; omega) hx452) lk_L_97 rfl (Or.inl ⟨8, _, TX9, 8, gw_0 _, rfl⟩) rfl ⟨rfl, rfl, (Nat.le_of_ble_eq_true rfl), (Nat.le_of_ble_eq_true rfl), (Nat.le_of_ble_eq_true rfl), (Nat.le_of_ble_eq_true rfl)⟩ (Nat.le_of_ble_eq_true rfl) (fun r9 h9 p9 => ?_)
        obtain ⟨m502, rfl, rfl, hx502, hk502⟩ : ∃ m, r9 = some (.inl o327) ∧ h9 = WW m ∧ XI m ∧ KEEP RB (ab_s m452 102 (fun _ => m33 102 0)) m := by
          rcases p9 with ⟨q, -⟩ | ⟨-, m, q1, q2, q3, -, q5⟩
          · exact absurd bw q
          · exact ⟨m, by rw [q1, show m452 102 0 = o327 from (congrFun (hk452 102 (by decide)) 0).trans ((congrFun (hk422 102 (by decide)) 0).trans (s2 rfl))], q2, q3, q5⟩
        show V 505 [some (.inr (some 0)), some (.inl gg), some (.inl hh), some (.inl 2), some (.inl 5), some (.inl 20), some (.inl o327), some (.inl (m33 102 0)), some (.inl (m389 107 0)), some (.inl 2), none] [.inl o327] (WW m502) 0 0
        refine rb_istore hV (L2 := [some (.inr (some 0)), some (.inl gg), some (.inl hh), some (.inl 2), some (.inl 5), some (.inl 20), some (.inl o327), some (.inl (m33 102 0)), some (.inl (m389 107 0)), some (.inl 2), some (.inl o327)]) dL_commands_505 (Nat.le_of_ble_eq_true rfl) rfl ?_
        refine rb_iload hV dL_commands_507 rfl ?_
        refine rb_iload hV dL_commands_509 rfl ?_
        refine rb_icmp_ne hV (tgt := 567) dL_commands_511 (by decide) ⟨(by unfold ab_r at *; omega), (by unfold ab_r at *; omega)⟩ (fun c511 => absurd c511 (by omega)) (fun c511 => ?_)
        refine rb_aload_n hV dL_commands_514 rfl rfl ?_
        refine rb_bipush hV dL_commands_515 (by decide) ?_
        refine rb_iload_n hV dL_commands_517 rfl rfl ?_
        refine rb_iadd hV dL_commands_518 ?_
        refine rb_callV hV (rest := []) dL_commands_519 (c_X9_count m502 (7 + 2) (by unfold ab_r at *; omega) hx502) lk_L_36 rfl (Or.inl ⟨8, _, TX9, 8, gw_0 _, rfl⟩) rfl ⟨rfl, rfl, (Nat.le_of_ble_eq_true rfl), (Nat.le_of_ble_eq_true rfl), (Nat.le_of_ble_eq_true rfl), (Nat.le_of_ble_eq_true rfl)⟩ (Nat.le_of_ble_eq_true rfl) (fun r9 h9 p9 => ?_)
        obtain ⟨rfl, rfl⟩ : r9 = some (.inl (m33 102 0)) ∧ h9 = WW m502 := ⟨p9.1.trans (congrArg (fun z : Int => (some (Sum.inl z) : Option ab_V)) (show xcount m502 (7 + 2) = m33 102 0 from congrFun (hk502 102 (by decide)) 0)), p9.2⟩
        show V 522 [some (.inr (some 0)), some (.inl gg), some (.inl hh), some (.inl 2), some (.inl 5), some (.inl 20), some (.inl o327), some (.inl (m33 102 0)), some (.inl (m389 107 0)), some (.inl 2), some (.inl o327)] [.inl (m33 102 0)] (WW m502) 0 0
        refine rb_iload hV dL_commands_522 rfl ?_
        refine rb_icmp_ne hV (tgt := 567) dL_commands_524 (by decide) ⟨(by unfold ab_r at *; omega), (by unfold ab_r at *; omega)⟩ (fun c524 => absurd c524 (by omega)) (fun c524 => ?_)
        refine rb_aload_n hV dL_commands_527 rfl rfl ?_
        refine rb_bipush hV dL_commands_528 (by decide) ?_
        refine rb_callV hV (rest := []) dL_commands_530 (c_X9_setMeasure m502 9 (by unfold ab_r at *; omega) hx502) lk_L_91 rfl (Or.inl ⟨8, _, TX9, 8, gw_0 _, rfl⟩) rfl ⟨rfl, rfl, (Nat.le_of_ble_eq_true rfl), (Nat.le_of_ble_eq_true rfl), (Nat.le_of_ble_eq_true rfl), (Nat.le_of_ble_eq_true rfl)⟩ (Nat.le_of_ble_eq_true rfl) (fun r9 h9 p9 => ?_)
        obtain ⟨rfl, rfl⟩ : r9 = some (.inl (-1002)) ∧ h9 = WW m502 := by
          rcases p9 with ⟨-, q⟩ | ⟨q, -⟩
          · exact q
          · omega
        show V 533 [some (.inr (some 0)), some (.inl gg), some (.inl hh), some (.inl 2), some (.inl 5), some (.inl 20), some (.inl o327), some (.inl (m33 102 0)), some (.inl (m389 107 0)), some (.inl 2), some (.inl o327)] [.inl (-1002)] (WW m502) 0 0
        refine rb_sipush hV dL_commands_533 (by decide) ?_
        refine rb_icmp_ne hV (tgt := 567) dL_commands_536 (by decide) ⟨(by unfold ab_r at *; omega), (by unfold ab_r at *; omega)⟩ (fun z => absurd z (by decide)) (fun _ => ?_)
        refine rb_aload_n hV dL_commands_539 rfl rfl ?_
        refine rb_bipush hV dL_commands_540 (by decide) ?_
        refine rb_callV hV (rest := []) dL_commands_542 (c_X9_setHang m502 101 (by unfold ab_r at *; omega) hx502) lk_L_94 rfl (Or.inl ⟨8, _, TX9, 8, gw_0 _, rfl⟩) rfl ⟨rfl, rfl, (Nat.le_of_ble_eq_true rfl), (Nat.le_of_ble_eq_true rfl), (Nat.le_of_ble_eq_true rfl), (Nat.le_of_ble_eq_true rfl)⟩ (Nat.le_of_ble_eq_true rfl) (fun r9 h9 p9 => ?_)
        obtain ⟨rfl, rfl⟩ : r9 = some (.inl (-1002)) ∧ h9 = WW m502 := by
          rcases p9 with ⟨-, q⟩ | ⟨q, -⟩
          · exact q
          · omega
        show V 545 [some (.inr (some 0)), some (.inl gg), some (.inl hh), some (.inl 2), some (.inl 5), some (.inl 20), some (.inl o327), some (.inl (m33 102 0)), some (.inl (m389 107 0)), some (.inl 2), some (.inl o327)] [.inl (-1002)] (WW m502) 0 0
        refine rb_sipush hV dL_commands_545 (by decide) ?_
        refine rb_icmp_ne hV (tgt := 567) dL_commands_548 (by decide) ⟨(by unfold ab_r at *; omega), (by unfold ab_r at *; omega)⟩ (fun z => absurd z (by decide)) (fun _ => ?_)
        refine rb_aload_n hV dL_commands_551 rfl rfl ?_
        refine rb_bipush hV dL_commands_552 (by decide) ?_
        refine rb_callV hV (rest := []) dL_commands_554 (c_X9_setTolerance m502 21 (by unfold ab_r at *; omega) hx502) lk_L_97 rfl (Or.inl ⟨8, _, TX9, 8, gw_0 _, rfl⟩) rfl ⟨rfl, rfl, (Nat.le_of_ble_eq_true rfl), (Nat.le_of_ble_eq_true rfl), (Nat.le_of_ble_eq_true rfl), (Nat.le_of_ble_eq_true rfl)⟩ (Nat.le_of_ble_eq_true rfl) (fun r9 h9 p9 => ?_)
        obtain ⟨rfl, rfl⟩ : r9 = some (.inl (-1002)) ∧ h9 = WW m502 := by
          rcases p9 with ⟨-, q⟩ | ⟨q, -⟩
          · exact q
          · omega
        show V 557 [some (.inr (some 0)), some (.inl gg), some (.inl hh), some (.inl 2), some (.inl 5), some (.inl 20), some (.inl o327), some (.inl (m33 102 0)), some (.inl (m389 107 0)), some (.inl 2), some (.inl o327)] [.inl (-1002)] (WW m502) 0 0
        refine rb_sipush hV dL_commands_557 (by decide) ?_
        refine rb_icmp_ne hV (tgt := 567) dL_commands_560 (by decide) ⟨(by unfold ab_r at *; omega), (by unfold ab_r at *; omega)⟩ (fun z => absurd z (by decide)) (fun _ => ?_)
        refine rb_iconst hV dL_commands_563 ?_
        refine rb_goto hV (tgt := 568) dL_commands_564 (by decide) ?_
        refine rb_ret hV (r := some (.inl 1)) dL_commands_568 rfl ⟨(Nat.le_of_ble_eq_true rfl), (Nat.le_of_ble_eq_true rfl)⟩ (by first | exact Or.inl rfl | exact Or.inr rfl | omega) ?_
        exact ⟨rfl, _, rfl, hx502⟩
    · refine rb_iconst hV dL_commands_433 ?_
      refine rb_goto hV (tgt := 449) dL_commands_434 (by decide) ?_
      refine rb_istore hV (L2 := [some (.inr (some 0)), some (.inl gg), some (.inl hh), some (.inl 2), some (.inl 5), some (.inl 20), some (.inl o327), some (.inl (m33 102 0)), some (.inl (m389 107 0)), some (.inl 3), none]) dL_commands_449 (Nat.le_of_ble_eq_true rfl) rfl ?_
      refine rb_aload_n hV dL_commands_451 rfl rfl ?_
      refine rb_callV hV (rest := []) dL_commands_452 (c_X9_command t422 hx422) lk_L_81 rfl (Or.inl ⟨8, _, TX9, 8, gw_0 _, rfl⟩) rfl ⟨rfl, rfl, (Nat.le_of_ble_eq_true rfl), (Nat.le_of_ble_eq_true rfl), (Nat.le_of_ble_eq_true rfl), (Nat.le_of_ble_eq_true rfl)⟩ (Nat.le_of_ble_eq_true rfl) (fun r9 h9 p9 => ?_)
      have f452 : (e385.length : Int) = 3 := by
        rw [dl385.2, if_pos (by omega)]
      obtain ⟨m452, rfl, rfl, hx452, hk452⟩ := CMD_bad (f := 10) (show _ = (10 : Int) from (PR_b (a := 2) (by decide) tx422 dg385 hv0).trans (by rw [f452]; rfl)) (by decide) p9
      have txm452 := TXL_of tx422 (hk452 22 (by decide)) (hk452 104 (by decide))
      show V 455 [some (.inr (some 0)), some (.inl gg), some (.inl hh), some (.inl 2), some (.inl 5), some (.inl 20), some (.inl o327), some (.inl (m33 102 0)), some (.inl (m389 107 0)), some (.inl 3), none] [.inl (-100 - 10)] (WW m452) 0 0
      refine rb_bipush hV dL_commands_455 (by decide) ?_
      refine rb_iload hV dL_commands_457 rfl ?_
      refine rb_isub hV dL_commands_459 ?_
      refine rb_iconst hV dL_commands_460 ?_
      refine rb_isub hV dL_commands_461 ?_
      refine rb_iload hV dL_commands_462 rfl ?_
      refine rb_isub hV dL_commands_464 ?_
      refine rb_iconst hV dL_commands_465 ?_
      refine rb_isub hV dL_commands_466 ?_
      refine rb_icmp_eq hV (tgt := 472) dL_commands_467 (by decide) ⟨(by unfold ab_r at *; omega), (by unfold ab_r at *; omega)⟩ (fun c467 => ?_) (fun c467 => absurd c467 (by omega))
      refine rb_iload_n hV dL_commands_472 rfl rfl ?_
      refine rb_if_ne hV (tgt := 485) dL_commands_473 (by decide) (by unfold ab_r at *; omega) (fun _ => ?_) (fun z => absurd z (by decide))
      refine rb_iload_n hV dL_commands_485 rfl rfl ?_
      refine rb_iconst hV dL_commands_486 ?_
      refine rb_icmp_ne hV (tgt := 499) dL_commands_487 (by decide) ⟨(by unfold ab_r at *; omega), (by unfold ab_r at *; omega)⟩ (fun _ => ?_) (fun z => absurd z (by decide))
      refine rb_aload_n hV dL_commands_499 rfl rfl ?_
      refine rb_iload hV dL_commands_500 rfl ?_
      refine rb_callV hV (rest := []) dL_commands_502 (c_X9_setTolerance m452 (m33 102 0) (by unfold ab_r at *; omega) hx452) lk_L_97 rfl (Or.inl ⟨8, _, TX9, 8, gw_0 _, rfl⟩) rfl ⟨rfl, rfl, (Nat.le_of_ble_eq_true rfl), (Nat.le_of_ble_eq_true rfl), (Nat.le_of_ble_eq_true rfl), (Nat.le_of_ble_eq_true rfl)⟩ (Nat.le_of_ble_eq_true rfl) (fun r9 h9 p9 => ?_)
      obtain ⟨m502, rfl, rfl, hx502, hk502⟩ : ∃ m, r9 = some (.inl o327) ∧ h9 = WW m ∧ XI m ∧ KEEP RB (ab_s m452 102 (fun _ => m33 102 0)) m := by
        rcases p9 with ⟨q, -⟩ | ⟨-, m, q1, q2, q3, -, q5⟩
        · exact absurd bw q
        · exact ⟨m, by rw [q1, show m452 102 0 = o327 from (congrFun (hk452 102 (by decide)) 0).trans ((congrFun (hk422 102 (by decide)) 0).trans (s2 rfl))], q2, q3, q5⟩
      show V 505 [some (.inr (some 0)), some (.inl gg), some (.inl hh), some (.inl 2), some (.inl 5), some (.inl 20), some (.inl o327), some (.inl (m33 102 0)), some (.inl (m389 107 0)), some (.inl 3), none] [.inl o327] (WW m502) 0 0
      refine rb_istore hV (L2 := [some (.inr (some 0)), some (.inl gg), some (.inl hh), some (.inl 2), some (.inl 5), some (.inl 20), some (.inl o327), some (.inl (m33 102 0)), some (.inl (m389 107 0)), some (.inl 3), some (.inl o327)]) dL_commands_505 (Nat.le_of_ble_eq_true rfl) rfl ?_
      refine rb_iload hV dL_commands_507 rfl ?_
      refine rb_iload hV dL_commands_509 rfl ?_
      refine rb_icmp_ne hV (tgt := 567) dL_commands_511 (by decide) ⟨(by unfold ab_r at *; omega), (by unfold ab_r at *; omega)⟩ (fun c511 => absurd c511 (by omega)) (fun c511 => ?_)
      refine rb_aload_n hV dL_commands_514 rfl rfl ?_
      refine rb_bipush hV dL_commands_515 (by decide) ?_
      refine rb_iload_n hV dL_commands_517 rfl rfl ?_
      refine rb_iadd hV dL_commands_518 ?_
      refine rb_callV hV (rest := []) dL_commands_519 (c_X9_count m502 (7 + 2) (by unfold ab_r at *; omega) hx502) lk_L_36 rfl (Or.inl ⟨8, _, TX9, 8, gw_0 _, rfl⟩) rfl ⟨rfl, rfl, (Nat.le_of_ble_eq_true rfl), (Nat.le_of_ble_eq_true rfl), (Nat.le_of_ble_eq_true rfl), (Nat.le_of_ble_eq_true rfl)⟩ (Nat.le_of_ble_eq_true rfl) (fun r9 h9 p9 => ?_)
      obtain ⟨rfl, rfl⟩ : r9 = some (.inl (m33 102 0)) ∧ h9 = WW m502 := ⟨p9.1.trans (congrArg (fun z : Int => (some (Sum.inl z) : Option ab_V)) (show xcount m502 (7 + 2) = m33 102 0 from congrFun (hk502 102 (by decide)) 0)), p9.2⟩
      show V 522 [some (.inr (some 0)), some (.inl gg), some (.inl hh), some (.inl 2), some (.inl 5), some (.inl 20), some (.inl o327), some (.inl (m33 102 0)), some (.inl (m389 107 0)), some (.inl 3), some (.inl o327)] [.inl (m33 102 0)] (WW m502) 0 0
      refine rb_iload hV dL_commands_522 rfl ?_
      refine rb_icmp_ne hV (tgt := 567) dL_commands_524 (by decide) ⟨(by unfold ab_r at *; omega), (by unfold ab_r at *; omega)⟩ (fun c524 => absurd c524 (by omega)) (fun c524 => ?_)
      refine rb_aload_n hV dL_commands_527 rfl rfl ?_
      refine rb_bipush hV dL_commands_528 (by decide) ?_
      refine rb_callV hV (rest := []) dL_commands_530 (c_X9_setMeasure m502 9 (by unfold ab_r at *; omega) hx502) lk_L_91 rfl (Or.inl ⟨8, _, TX9, 8, gw_0 _, rfl⟩) rfl ⟨rfl, rfl, (Nat.le_of_ble_eq_true rfl), (Nat.le_of_ble_eq_true rfl), (Nat.le_of_ble_eq_true rfl), (Nat.le_of_ble_eq_true rfl)⟩ (Nat.le_of_ble_eq_true rfl) (fun r9 h9 p9 => ?_)
      obtain ⟨rfl, rfl⟩ : r9 = some (.inl (-1002)) ∧ h9 = WW m502 := by
        rcases p9 with ⟨-, q⟩ | ⟨q, -⟩
        · exact q
        · omega
      show V 533 [some (.inr (some 0)), some (.inl gg), some (.inl hh), some (.inl 2), some (.inl 5), some (.inl 20), some (.inl o327), some (.inl (m33 102 0)), some (.inl (m389 107 0)), some (.inl 3), some (.inl o327)] [.inl (-1002)] (WW m502) 0 0
      refine rb_sipush hV dL_commands_533 (by decide) ?_
      refine rb_icmp_ne hV (tgt := 567) dL_commands_536 (by decide) ⟨(by unfold ab_r at *; omega), (by unfold ab_r at *; omega)⟩ (fun z => absurd z (by decide)) (fun _ => ?_)
      refine rb_aload_n hV dL_commands_539 rfl rfl ?_
      refine rb_bipush hV dL_commands_540 (by decide) ?_
      refine rb_callV hV (rest := []) dL_commands_542 (c_X9_setHang m502 101 (by unfold ab_r at *; omega) hx502) lk_L_94 rfl (Or.inl ⟨8, _, TX9, 8, gw_0 _, rfl⟩) rfl ⟨rfl, rfl, (Nat.le_of_ble_eq_true rfl), (Nat.le_of_ble_eq_true rfl), (Nat.le_of_ble_eq_true rfl), (Nat.le_of_ble_eq_true rfl)⟩ (Nat.le_of_ble_eq_true rfl) (fun r9 h9 p9 => ?_)
      obtain ⟨rfl, rfl⟩ : r9 = some (.inl (-1002)) ∧ h9 = WW m502 := by
        rcases p9 with ⟨-, q⟩ | ⟨q, -⟩
        · exact q
        · omega
      show V 545 [some (.inr (some 0)), some (.inl gg), some (.inl hh), some (.inl 2), some (.inl 5), some (.inl 20), some (.inl o327), some (.inl (m33 102 0)), some (.inl (m389 107 0)), some (.inl 3), some (.inl o327)] [.inl (-1002)] (WW m502) 0 0
      refine rb_sipush hV dL_commands_545 (by decide) ?_
      refine rb_icmp_ne hV (tgt := 567) dL_commands_548 (by decide) ⟨(by unfold ab_r at *; omega), (by unfold ab_r at *; omega)⟩ (fun z => absurd z (by decide)) (fun _ => ?_)
      refine rb_aload_n hV dL_commands_551 rfl rfl ?_
      refine rb_bipush hV dL_commands_552 (by decide) ?_
      refine rb_callV hV (rest := []) dL_commands_554 (c_X9_setTolerance m502 21 (by unfold ab_r at *; omega) hx502) lk_L_97 rfl (Or.inl ⟨8, _, TX9, 8, gw_0 _, rfl⟩) rfl ⟨rfl, rfl, (Nat.le_of_ble_eq_true rfl), (Nat.le_of_ble_eq_true rfl), (Nat.le_of_ble_eq_true rfl), (Nat.le_of_ble_eq_true rfl)⟩ (Nat.le_of_ble_eq_true rfl) (fun r9 h9 p9 => ?_)
      obtain ⟨rfl, rfl⟩ : r9 = some (.inl (-1002)) ∧ h9 = WW m502 := by
        rcases p9 with ⟨-, q⟩ | ⟨q, -⟩
        · exact q
        · omega
      show V 557 [some (.inr (some 0)), some (.inl gg), some (.inl hh), some (.inl 2), some (.inl 5), some (.inl 20), some (.inl o327), some (.inl (m33 102 0)), some (.inl (m389 107 0)), some (.inl 3), some (.inl o327)] [.inl (-1002)] (WW m502) 0 0
      refine rb_sipush hV dL_commands_557 (by decide) ?_
      refine rb_icmp_ne hV (tgt := 567) dL_commands_560 (by decide) ⟨(by unfold ab_r at *; omega), (by unfold ab_r at *; omega)⟩ (fun z => absurd z (by decide)) (fun _ => ?_)
      refine rb_iconst hV dL_commands_563 ?_
      refine rb_goto hV (tgt := 568) dL_commands_564 (by decide) ?_
      refine rb_ret hV (r := some (.inl 1)) dL_commands_568 rfl ⟨(Nat.le_of_ble_eq_true rfl), (Nat.le_of_ble_eq_true rfl)⟩ (by first | exact Or.inl rfl | exact Or.inr rfl | omega) ?_
      exact ⟨rfl, _, rfl, hx502⟩
  · refine rb_iload_n hV dL_commands_6 rfl rfl ?_
    refine rb_if_ne hV (tgt := 15) dL_commands_7 (by decide) (by unfold ab_r at *; omega) (fun _ => ?_) (fun z => absurd z (by decide))
    refine rb_iload_n hV dL_commands_15 rfl rfl ?_
    refine rb_iconst hV dL_commands_16 ?_
    refine rb_icmp_ne hV (tgt := 24) dL_commands_17 (by decide) ⟨(by unfold ab_r at *; omega), (by unfold ab_r at *; omega)⟩ (fun _ => ?_) (fun z => absurd z (by decide))
    refine rb_iconst hV dL_commands_24 ?_
    refine rb_istore hV (L2 := [some (.inr (some 0)), some (.inl gg), some (.inl hh), some (.inl 3), some (.inl 5), none, none, none, none, none, none]) dL_commands_25 (Nat.le_of_ble_eq_true rfl) rfl ?_
    refine rb_aload_n hV dL_commands_27 rfl rfl ?_
    refine rb_iload_n hV dL_commands_28 rfl rfl ?_
    refine rb_callS hV (rest := []) dL_commands_29 (c_L_word s 3 (by decide) hx) lk_L_78 rfl rfl ⟨rfl, rfl, (Nat.le_of_ble_eq_true rfl), (Nat.le_of_ble_eq_true rfl), (Nat.le_of_ble_eq_true rfl), (Nat.le_of_ble_eq_true rfl)⟩ (Nat.le_of_ble_eq_true rfl) (fun r9 h9 p9 => ?_)
    obtain ⟨rfl, t29, rfl, hx29, hk29, tx29⟩ := p9
    show V 32 [some (.inr (some 0)), some (.inl gg), some (.inl hh), some (.inl 3), some (.inl 5), none, none, none, none, none, none] [] (WW t29) 0 0
    refine rb_aload_n hV dL_commands_32 rfl rfl ?_
    refine rb_callV hV (rest := []) dL_commands_33 (c_X9_command t29 hx29) lk_L_81 rfl (Or.inl ⟨8, _, TX9, 8, gw_0 _, rfl⟩) rfl ⟨rfl, rfl, (Nat.le_of_ble_eq_true rfl), (Nat.le_of_ble_eq_true rfl), (Nat.le_of_ble_eq_true rfl), (Nat.le_of_ble_eq_true rfl)⟩ (Nat.le_of_ble_eq_true rfl) (fun r9 h9 p9 => ?_)
    obtain ⟨m33, rfl, rfl, hx33, hk33⟩ := CMD_bad (f := 5) (show _ = (5 : Int) from PR_w (a := 3) (by decide) tx29) (by decide) p9
    have txm33 := TXL_of tx29 (hk33 22 (by decide)) (hk33 104 (by decide))
    show V 36 [some (.inr (some 0)), some (.inl gg), some (.inl hh), some (.inl 3), some (.inl 5), none, none, none, none, none, none] [.inl (-100 - 5)] (WW m33) 0 0
    refine rb_bipush hV dL_commands_36 (by decide) ?_
    refine rb_iload hV dL_commands_38 rfl ?_
    refine rb_isub hV dL_commands_40 ?_
    refine rb_icmp_eq hV (tgt := 46) dL_commands_41 (by decide) ⟨(by unfold ab_r at *; omega), (by unfold ab_r at *; omega)⟩ (fun c41 => ?_) (fun c41 => absurd c41 (by omega))
    refine rb_iload_n hV dL_commands_46 rfl rfl ?_
    refine rb_iconst hV dL_commands_47 ?_
    refine rb_icmp_ne hV (tgt := 281) dL_commands_48 (by decide) ⟨(by unfold ab_r at *; omega), (by unfold ab_r at *; omega)⟩ (fun z => absurd z (by decide)) (fun _ => ?_)
    refine rb_aload_n hV dL_commands_51 rfl rfl ?_
    refine rb_bipush hV dL_commands_52 (by decide) ?_
    have hwl : (wrd 3).length = 5 := rfl
    refine rb_callV hV (rest := []) dL_commands_54 (c_X9_type m33 32 (by decide) hx33) lk_L_29 rfl (Or.inl ⟨8, _, TX9, 8, gw_0 _, rfl⟩) rfl ⟨rfl, rfl, (Nat.le_of_ble_eq_true rfl), (Nat.le_of_ble_eq_true rfl), (Nat.le_of_ble_eq_true rfl), (Nat.le_of_ble_eq_true rfl)⟩ (Nat.le_of_ble_eq_true rfl) (fun r9 h9 p9 => ?_)
    obtain ⟨t54, v54, rfl, rfl, hx54, hk54, tx54⟩ := ty_ok txm33 (by first | omega | (simp only [List.length_append, List.length_cons, List.length_nil]; omega)) p9
    show V 57 [some (.inr (some 0)), some (.inl gg), some (.inl hh), some (.inl 3), some (.inl 5), none, none, none, none, none, none] [.inl v54] (WW t54) 0 0
    refine rb_pop hV dL_commands_57 ?_
    refine rb_aload_n hV dL_commands_58 rfl rfl ?_
    refine rb_bipush hV dL_commands_59 (by decide) ?_
    refine rb_callV hV (rest := []) dL_commands_61 (c_X9_type t54 119 (by decide) hx54) lk_L_29 rfl (Or.inl ⟨8, _, TX9, 8, gw_0 _, rfl⟩) rfl ⟨rfl, rfl, (Nat.le_of_ble_eq_true rfl), (Nat.le_of_ble_eq_true rfl), (Nat.le_of_ble_eq_true rfl), (Nat.le_of_ble_eq_true rfl)⟩ (Nat.le_of_ble_eq_true rfl) (fun r9 h9 p9 => ?_)
    obtain ⟨t61, v61, rfl, rfl, hx61, hk61, tx61⟩ := ty_ok tx54 (by first | omega | (simp only [List.length_append, List.length_cons, List.length_nil]; omega)) p9
    show V 64 [some (.inr (some 0)), some (.inl gg), some (.inl hh), some (.inl 3), some (.inl 5), none, none, none, none, none, none] [.inl v61] (WW t61) 0 0
    refine rb_pop hV dL_commands_64 ?_
    refine rb_aload_n hV dL_commands_65 rfl rfl ?_
    refine rb_bipush hV dL_commands_66 (by decide) ?_
    refine rb_callV hV (rest := []) dL_commands_68 (c_X9_type t61 111 (by decide) hx61) lk_L_29 rfl (Or.inl ⟨8, _, TX9, 8, gw_0 _, rfl⟩) rfl ⟨rfl, rfl, (Nat.le_of_ble_eq_true rfl), (Nat.le_of_ble_eq_true rfl), (Nat.le_of_ble_eq_true rfl), (Nat.le_of_ble_eq_true rfl)⟩ (Nat.le_of_ble_eq_true rfl) (fun r9 h9 p9 => ?_)
    obtain ⟨t68, v68, rfl, rfl, hx68, hk68, tx68⟩ := ty_ok tx61 (by first | omega | (simp only [List.length_append, List.length_cons, List.length_nil]; omega)) p9
    show V 71 [some (.inr (some 0)), some (.inl gg), some (.inl hh), some (.inl 3), some (.inl 5), none, none, none, none, none, none] [.inl v68] (WW t68) 0 0
    refine rb_pop hV dL_commands_71 ?_
    refine rb_aload_n hV dL_commands_72 rfl rfl ?_
    refine rb_bipush hV dL_commands_73 (by decide) ?_
    refine rb_callV hV (rest := []) dL_commands_75 (c_X9_type t68 114 (by decide) hx68) lk_L_29 rfl (Or.inl ⟨8, _, TX9, 8, gw_0 _, rfl⟩) rfl ⟨rfl, rfl, (Nat.le_of_ble_eq_true rfl), (Nat.le_of_ble_eq_true rfl), (Nat.le_of_ble_eq_true rfl), (Nat.le_of_ble_eq_true rfl)⟩ (Nat.le_of_ble_eq_true rfl) (fun r9 h9 p9 => ?_)
    obtain ⟨t75, v75, rfl, rfl, hx75, hk75, tx75⟩ := ty_ok tx68 (by first | omega | (simp only [List.length_append, List.length_cons, List.length_nil]; omega)) p9
    show V 78 [some (.inr (some 0)), some (.inl gg), some (.inl hh), some (.inl 3), some (.inl 5), none, none, none, none, none, none] [.inl v75] (WW t75) 0 0
    refine rb_pop hV dL_commands_78 ?_
    refine rb_aload_n hV dL_commands_79 rfl rfl ?_
    refine rb_callV hV (rest := []) dL_commands_80 (c_X9_command t75 hx75) lk_L_81 rfl (Or.inl ⟨8, _, TX9, 8, gw_0 _, rfl⟩) rfl ⟨rfl, rfl, (Nat.le_of_ble_eq_true rfl), (Nat.le_of_ble_eq_true rfl), (Nat.le_of_ble_eq_true rfl), (Nat.le_of_ble_eq_true rfl)⟩ (Nat.le_of_ble_eq_true rfl) (fun r9 h9 p9 => ?_)
    obtain ⟨m80, rfl, rfl, hx80, hk80⟩ := CMD_bad (f := 6) (PR_s1 (TXL_as tx75 (by simp only [W4, List.append_assoc, List.cons_append, List.nil_append]))) (by decide) p9
    have txm80 := TXL_of tx75 (hk80 22 (by decide)) (hk80 104 (by decide))
    show V 83 [some (.inr (some 0)), some (.inl gg), some (.inl hh), some (.inl 3), some (.inl 5), none, none, none, none, none, none] [.inl (-100 - 6)] (WW m80) 0 0
    refine rb_bipush hV dL_commands_83 (by decide) ?_
    refine rb_icmp_eq hV (tgt := 90) dL_commands_85 (by decide) ⟨(by unfold ab_r at *; omega), (by unfold ab_r at *; omega)⟩ (fun c85 => ?_) (fun c85 => absurd c85 (by omega))
    refine rb_aload_n hV dL_commands_90 rfl rfl ?_
    refine rb_bipush hV dL_commands_91 (by decide) ?_
    refine rb_callV hV (rest := []) dL_commands_93 (c_X9_type m80 100 (by decide) hx80) lk_L_29 rfl (Or.inl ⟨8, _, TX9, 8, gw_0 _, rfl⟩) rfl ⟨rfl, rfl, (Nat.le_of_ble_eq_true rfl), (Nat.le_of_ble_eq_true rfl), (Nat.le_of_ble_eq_true rfl), (Nat.le_of_ble_eq_true rfl)⟩ (Nat.le_of_ble_eq_true rfl) (fun r9 h9 p9 => ?_)
    obtain ⟨t93, v93, rfl, rfl, hx93, hk93, tx93⟩ := ty_ok txm80 (by first | omega | (simp only [List.length_append, List.length_cons, List.length_nil]; omega)) p9
    show V 96 [some (.inr (some 0)), some (.inl gg), some (.inl hh), some (.inl 3), some (.inl 5), none, none, none, none, none, none] [.inl v93] (WW t93) 0 0
    refine rb_pop hV dL_commands_96 ?_
    refine rb_iconst hV dL_commands_97 ?_
    refine rb_iload_n hV dL_commands_98 rfl rfl ?_
    refine rb_iconst hV dL_commands_99 ?_
    refine rb_callS hV (rest := [.inl 1]) dL_commands_100 (c_L_low t93 hh 3 (by omega)) lk_L_9 rfl rfl ⟨rfl, rfl, (Nat.le_of_ble_eq_true rfl), (Nat.le_of_ble_eq_true rfl), (Nat.le_of_ble_eq_true rfl), (Nat.le_of_ble_eq_true rfl)⟩ (Nat.le_of_ble_eq_true rfl) (fun r9 h9 p9 => ?_)
    obtain ⟨o100, rfl, rfl, ho100⟩ := p9
    show V 103 [some (.inr (some 0)), some (.inl gg), some (.inl hh), some (.inl 3), some (.inl 5), none, none, none, none, none, none] [.inl o100, .inl 1] (WW t93) 0 0
    refine rb_iadd hV dL_commands_103 ?_
    refine rb_istore hV (L2 := [some (.inr (some 0)), some (.inl gg), some (.inl hh), some (.inl 3), some (.inl 5), some (.inl (1 + o100)), none, none, none, none, none]) dL_commands_104 (Nat.le_of_ble_eq_true rfl) rfl ?_
    refine rb_iload hV dL_commands_106 rfl ?_
    refine rb_iload_n hV dL_commands_108 rfl rfl ?_
    refine rb_iconst hV dL_commands_109 ?_
    refine rb_ishrx hV dL_commands_110 (fun z110 r110 => ?_)
    refine rb_iconst hV dL_commands_111 ?_
    refine rb_callS hV (rest := [.inl (1 + o100)]) dL_commands_112 (c_L_low t93 z110 3 (by omega)) lk_L_9 rfl rfl ⟨rfl, rfl, (Nat.le_of_ble_eq_true rfl), (Nat.le_of_ble_eq_true rfl), (Nat.le_of_ble_eq_true rfl), (Nat.le_of_ble_eq_true rfl)⟩ (Nat.le_of_ble_eq_true rfl) (fun r9 h9 p9 => ?_)
    obtain ⟨o112, rfl, rfl, ho112⟩ := p9
    show V 115 [some (.inr (some 0)), some (.inl gg), some (.inl hh), some (.inl 3), some (.inl 5), some (.inl (1 + o100)), none, none, none, none, none] [.inl o112, .inl (1 + o100)] (WW t93) 0 0
    refine rb_iadd hV dL_commands_115 ?_
    refine rb_istore hV (L2 := [some (.inr (some 0)), some (.inl gg), some (.inl hh), some (.inl 3), some (.inl 5), some (.inl (1 + o100)), some (.inl ((1 + o100) + o112)), none, none, none, none]) dL_commands_116 (Nat.le_of_ble_eq_true rfl) rfl ?_
    refine rb_iload hV dL_commands_118 rfl ?_
    refine rb_iload_n hV dL_commands_120 rfl rfl ?_
    refine rb_bipush hV dL_commands_121 (by decide) ?_
    refine rb_ishrx hV dL_commands_123 (fun z123 r123 => ?_)
    refine rb_iconst hV dL_commands_124 ?_
    refine rb_callS hV (rest := [.inl ((1 + o100) + o112)]) dL_commands_125 (c_L_low t93 z123 4 (by omega)) lk_L_9 rfl rfl ⟨rfl, rfl, (Nat.le_of_ble_eq_true rfl), (Nat.le_of_ble_eq_true rfl), (Nat.le_of_ble_eq_true rfl), (Nat.le_of_ble_eq_true rfl)⟩ (Nat.le_of_ble_eq_true rfl) (fun r9 h9 p9 => ?_)
    obtain ⟨o125, rfl, rfl, ho125⟩ := p9
    show V 128 [some (.inr (some 0)), some (.inl gg), some (.inl hh), some (.inl 3), some (.inl 5), some (.inl (1 + o100)), some (.inl ((1 + o100) + o112)), none, none, none, none] [.inl o125, .inl ((1 + o100) + o112)] (WW t93) 0 0
    refine rb_iadd hV dL_commands_128 ?_
    refine rb_istore hV (L2 := [some (.inr (some 0)), some (.inl gg), some (.inl hh), some (.inl 3), some (.inl 5), some (.inl (1 + o100)), some (.inl ((1 + o100) + o112)), some (.inl (((1 + o100) + o112) + o125)), none, none, none]) dL_commands_129 (Nat.le_of_ble_eq_true rfl) rfl ?_
    refine rb_aload_n hV dL_commands_131 rfl rfl ?_
    refine rb_iload hV dL_commands_132 rfl ?_
    refine rb_callS hV (rest := []) dL_commands_134 (c_L_number t93 (1 + o100) _ (by omega) (by first | omega | (simp only [List.length_append, List.length_cons, List.length_nil]; omega)) tx93 hx93) lk_L_84 rfl rfl ⟨rfl, rfl, (Nat.le_of_ble_eq_true rfl), (Nat.le_of_ble_eq_true rfl), (Nat.le_of_ble_eq_true rfl), (Nat.le_of_ble_eq_true rfl)⟩ (Nat.le_of_ble_eq_true rfl) (fun r9 h9 p9 => ?_)
    obtain ⟨rfl, t134, e134, rfl, hx134, hk134, tx134, dg134⟩ := p9
    have dl134 := (DG_b dg134).2
    show V 137 [some (.inr (some 0)), some (.inl gg), some (.inl hh), some (.inl 3), some (.inl 5), some (.inl (1 + o100)), some (.inl ((1 + o100) + o112)), some (.inl (((1 + o100) + o112) + o125)), none, none, none] [] (WW t134) 0 0
    refine rb_aload_n hV dL_commands_137 rfl rfl ?_
    refine rb_iload hV dL_commands_138 rfl ?_
    refine rb_callS hV (rest := []) dL_commands_140 (c_L_number t134 ((1 + o100) + o112) _ (by omega) (by first | omega | (simp only [List.length_append, List.length_cons, List.length_nil]; omega)) tx134 hx134) lk_L_84 rfl rfl ⟨rfl, rfl, (Nat.le_of_ble_eq_true rfl), (Nat.le_of_ble_eq_true rfl), (Nat.le_of_ble_eq_true rfl), (Nat.le_of_ble_eq_true rfl)⟩ (Nat.le_of_ble_eq_true rfl) (fun r9 h9 p9 => ?_)
    obtain ⟨rfl, t140, e140, rfl, hx140, hk140, tx140, dg140⟩ := p9
    have dl140 := (DG_b dg140).2
    show V 143 [some (.inr (some 0)), some (.inl gg), some (.inl hh), some (.inl 3), some (.inl 5), some (.inl (1 + o100)), some (.inl ((1 + o100) + o112)), some (.inl (((1 + o100) + o112) + o125)), none, none, none] [] (WW t140) 0 0
    refine rb_aload_n hV dL_commands_143 rfl rfl ?_
    refine rb_callV hV (rest := []) dL_commands_144 (c_X9_command t140 hx140) lk_L_81 rfl (Or.inl ⟨8, _, TX9, 8, gw_0 _, rfl⟩) rfl ⟨rfl, rfl, (Nat.le_of_ble_eq_true rfl), (Nat.le_of_ble_eq_true rfl), (Nat.le_of_ble_eq_true rfl), (Nat.le_of_ble_eq_true rfl)⟩ (Nat.le_of_ble_eq_true rfl) (fun r9 h9 p9 => ?_)
    have ps144 := PR_s2 (m := t140) (x := t140 105 0) (y := t140 106 0) (z := t140 24) (TXL_as tx140 (by simp only [W4, List.append_assoc, List.cons_append, List.nil_append])) dg134 dg140 (by omega)
    obtain ⟨m144, rfl, rfl, hx144, hk144⟩ := CMD_bad (f := (t140 104 0)) (ps144.1) (by omega) p9
    have txm144 := TXL_of tx140 (hk144 22 (by decide)) (hk144 104 (by decide))
    show V 147 [some (.inr (some 0)), some (.inl gg), some (.inl hh), some (.inl 3), some (.inl 5), some (.inl (1 + o100)), some (.inl ((1 + o100) + o112)), some (.inl (((1 + o100) + o112) + o125)), none, none, none] [.inl (-100 - (t140 104 0))] (WW m144) 0 0
    refine rb_bipush hV dL_commands_147 (by decide) ?_
    refine rb_icmp_le hV (tgt := 154) dL_commands_149 (by decide) ⟨(by unfold ab_r at *; omega), (by unfold ab_r at *; omega)⟩ (fun c149 => ?_) (fun c149 => absurd c149 (by omega))
    refine rb_aload_n hV dL_commands_154 rfl rfl ?_
    refine rb_iload hV dL_commands_155 rfl ?_
    refine rb_callS hV (rest := []) dL_commands_157 (c_L_number m144 (((1 + o100) + o112) + o125) _ (by omega) (by first | omega | (simp only [List.length_append, List.length_cons, List.length_nil]; omega)) txm144 hx144) lk_L_84 rfl rfl ⟨rfl, rfl, (Nat.le_of_ble_eq_true rfl), (Nat.le_of_ble_eq_true rfl), (Nat.le_of_ble_eq_true rfl), (Nat.le_of_ble_eq_true rfl)⟩ (Nat.le_of_ble_eq_true rfl) (fun r9 h9 p9 => ?_)
    obtain ⟨rfl, t157, e157, rfl, hx157, hk157, tx157, dg157⟩ := p9
    have dl157 := (DG_b dg157).2
    show V 160 [some (.inr (some 0)), some (.inl gg), some (.inl hh), some (.inl 3), some (.inl 5), some (.inl (1 + o100)), some (.inl ((1 + o100) + o112)), some (.inl (((1 + o100) + o112) + o125)), none, none, none] [] (WW t157) 0 0
    refine rb_aload_n hV dL_commands_160 rfl rfl ?_
    refine rb_callV hV (rest := []) dL_commands_161 (c_X9_command t157 hx157) lk_L_81 rfl (Or.inl ⟨8, _, TX9, 8, gw_0 _, rfl⟩) rfl ⟨rfl, rfl, (Nat.le_of_ble_eq_true rfl), (Nat.le_of_ble_eq_true rfl), (Nat.le_of_ble_eq_true rfl), (Nat.le_of_ble_eq_true rfl)⟩ (Nat.le_of_ble_eq_true rfl) (fun r9 h9 p9 => ?_)
    obtain ⟨m161, rfl, rfl, hx161, w1, w2, w3⟩ := CMD_sp (PR_s3 (TXL_as tx157 (by simp only [W4, List.append_assoc, List.cons_append, List.nil_append])) dg134 dg140 dg157 (by omega)) p9
    have bnl := hx161.2.2.2.1.1
    have bnw := hx161.1.1
    have e161 : vX m161 0 0 = m161 103 0 := rfl
    show V 164 [some (.inr (some 0)), some (.inl gg), some (.inl hh), some (.inl 3), some (.inl 5), some (.inl (1 + o100)), some (.inl ((1 + o100) + o112)), some (.inl (((1 + o100) + o112) + o125)), none, none, none] [.inl (m161 107 0)] (WW m161) 0 0
    refine rb_istore hV (L2 := [some (.inr (some 0)), some (.inl gg), some (.inl hh), some (.inl 3), some (.inl 5), some (.inl (1 + o100)), some (.inl ((1 + o100) + o112)), some (.inl (((1 + o100) + o112) + o125)), some (.inl (m161 107 0)), none, none]) dL_commands_164 (Nat.le_of_ble_eq_true rfl) rfl ?_
    refine rb_iload hV dL_commands_166 rfl ?_
    refine rb_aload_n hV dL_commands_168 rfl rfl ?_
    refine rb_iconst hV dL_commands_169 ?_
    refine rb_callV hV (rest := [.inl (m161 107 0)]) dL_commands_170 (c_X9_count m161 1 (by unfold ab_r at *; omega) hx161) lk_L_36 rfl (Or.inl ⟨8, _, TX9, 8, gw_0 _, rfl⟩) rfl ⟨rfl, rfl, (Nat.le_of_ble_eq_true rfl), (Nat.le_of_ble_eq_true rfl), (Nat.le_of_ble_eq_true rfl), (Nat.le_of_ble_eq_true rfl)⟩ (Nat.le_of_ble_eq_true rfl) (fun r9 h9 p9 => ?_)
    obtain ⟨rfl, rfl⟩ : r9 = some (.inl (m161 107 0)) ∧ h9 = WW m161 := ⟨p9.1.trans (congrArg (fun z : Int => (some (Sum.inl z) : Option ab_V)) rfl), p9.2⟩
    show V 173 [some (.inr (some 0)), some (.inl gg), some (.inl hh), some (.inl 3), some (.inl 5), some (.inl (1 + o100)), some (.inl ((1 + o100) + o112)), some (.inl (((1 + o100) + o112) + o125)), some (.inl (m161 107 0)), none, none] [.inl (m161 107 0), .inl (m161 107 0)] (WW m161) 0 0
    refine rb_icmp_ne hV (tgt := 279) dL_commands_173 (by decide) ⟨(by unfold ab_r at *; omega), (by unfold ab_r at *; omega)⟩ (fun c173 => absurd c173 (by omega)) (fun c173 => ?_)
    refine rb_aload_n hV dL_commands_176 rfl rfl ?_
    refine rb_iconst hV dL_commands_177 ?_
    refine rb_iconst hV dL_commands_178 ?_
    refine rb_callV hV (rest := []) dL_commands_179 (c_X9_spaceWidth m161 0 0 (by unfold ab_r at *; omega) (by unfold ab_r at *; omega) hx161) lk_L_53 rfl (Or.inl ⟨8, _, TX9, 8, gw_0 _, rfl⟩) rfl ⟨rfl, rfl, (Nat.le_of_ble_eq_true rfl), (Nat.le_of_ble_eq_true rfl), (Nat.le_of_ble_eq_true rfl), (Nat.le_of_ble_eq_true rfl)⟩ (Nat.le_of_ble_eq_true rfl) (fun r9 h9 p9 => ?_)
    obtain ⟨rfl, rfl⟩ : r9 = some (.inl (1 + o100)) ∧ h9 = WW m161 := ⟨p9.1.trans (congrArg (fun z : Int => (some (Sum.inl z) : Option ab_V)) (show xspw m161 0 0 = (1 + o100) from w1)), p9.2⟩
    show V 182 [some (.inr (some 0)), some (.inl gg), some (.inl hh), some (.inl 3), some (.inl 5), some (.inl (1 + o100)), some (.inl ((1 + o100) + o112)), some (.inl (((1 + o100) + o112) + o125)), some (.inl (m161 107 0)), none, none] [.inl (1 + o100)] (WW m161) 0 0
    refine rb_iload hV dL_commands_182 rfl ?_
    refine rb_icmp_ne hV (tgt := 279) dL_commands_184 (by decide) ⟨(by unfold ab_r at *; omega), (by unfold ab_r at *; omega)⟩ (fun c184 => absurd c184 (by omega)) (fun c184 => ?_)
    refine rb_aload_n hV dL_commands_187 rfl rfl ?_
    refine rb_iconst hV dL_commands_188 ?_
    refine rb_iconst hV dL_commands_189 ?_
    refine rb_callV hV (rest := []) dL_commands_190 (c_X9_spaceWidth m161 0 1 (by unfold ab_r at *; omega) (by unfold ab_r at *; omega) hx161) lk_L_53 rfl (Or.inl ⟨8, _, TX9, 8, gw_0 _, rfl⟩) rfl ⟨rfl, rfl, (Nat.le_of_ble_eq_true rfl), (Nat.le_of_ble_eq_true rfl), (Nat.le_of_ble_eq_true rfl), (Nat.le_of_ble_eq_true rfl)⟩ (Nat.le_of_ble_eq_true rfl) (fun r9 h9 p9 => ?_)
    obtain ⟨rfl, rfl⟩ : r9 = some (.inl ((1 + o100) + o112)) ∧ h9 = WW m161 := ⟨p9.1.trans (congrArg (fun z : Int => (some (Sum.inl z) : Option ab_V)) (show xspw m161 0 1 = ((1 + o100) + o112) from w2)), p9.2⟩
    show V 193 [some (.inr (some 0)), some (.inl gg), some (.inl hh), some (.inl 3), some (.inl 5), some (.inl (1 + o100)), some (.inl ((1 + o100) + o112)), some (.inl (((1 + o100) + o112) + o125)), some (.inl (m161 107 0)), none, none] [.inl ((1 + o100) + o112)] (WW m161) 0 0
    refine rb_iload hV dL_commands_193 rfl ?_
    refine rb_icmp_ne hV (tgt := 279) dL_commands_195 (by decide) ⟨(by unfold ab_r at *; omega), (by unfold ab_r at *; omega)⟩ (fun c195 => absurd c195 (by omega)) (fun c195 => ?_)
    refine rb_aload_n hV dL_commands_198 rfl rfl ?_
    refine rb_iconst hV dL_commands_199 ?_
    refine rb_iconst hV dL_commands_200 ?_
    refine rb_callV hV (rest := []) dL_commands_201 (c_X9_spaceWidth m161 0 2 (by unfold ab_r at *; omega) (by unfold ab_r at *; omega) hx161) lk_L_53 rfl (Or.inl ⟨8, _, TX9, 8, gw_0 _, rfl⟩) rfl ⟨rfl, rfl, (Nat.le_of_ble_eq_true rfl), (Nat.le_of_ble_eq_true rfl), (Nat.le_of_ble_eq_true rfl), (Nat.le_of_ble_eq_true rfl)⟩ (Nat.le_of_ble_eq_true rfl) (fun r9 h9 p9 => ?_)
    obtain ⟨rfl, rfl⟩ : r9 = some (.inl (((1 + o100) + o112) + o125)) ∧ h9 = WW m161 := ⟨p9.1.trans (congrArg (fun z : Int => (some (Sum.inl z) : Option ab_V)) (show xspw m161 0 2 = (((1 + o100) + o112) + o125) from w3)), p9.2⟩
    show V 204 [some (.inr (some 0)), some (.inl gg), some (.inl hh), some (.inl 3), some (.inl 5), some (.inl (1 + o100)), some (.inl ((1 + o100) + o112)), some (.inl (((1 + o100) + o112) + o125)), some (.inl (m161 107 0)), none, none] [.inl (((1 + o100) + o112) + o125)] (WW m161) 0 0
    refine rb_iload hV dL_commands_204 rfl ?_
    refine rb_icmp_ne hV (tgt := 279) dL_commands_206 (by decide) ⟨(by unfold ab_r at *; omega), (by unfold ab_r at *; omega)⟩ (fun c206 => absurd c206 (by omega)) (fun c206 => ?_)
    refine rb_aload_n hV dL_commands_209 rfl rfl ?_
    refine rb_iconst hV dL_commands_210 ?_
    refine rb_iconst hV dL_commands_211 ?_
    refine rb_iconst hV dL_commands_212 ?_
    refine rb_iconst hV dL_commands_213 ?_
    refine rb_callV hV (rest := []) dL_commands_214 (c_X9_setSpace m161 0 2 1 5 (by unfold ab_r at *; omega) (by unfold ab_r at *; omega) (by unfold ab_r at *; omega) (by unfold ab_r at *; omega) hx161) lk_L_87 rfl (Or.inl ⟨8, _, TX9, 8, gw_0 _, rfl⟩) rfl ⟨rfl, rfl, (Nat.le_of_ble_eq_true rfl), (Nat.le_of_ble_eq_true rfl), (Nat.le_of_ble_eq_true rfl), (Nat.le_of_ble_eq_true rfl)⟩ (Nat.le_of_ble_eq_true rfl) (fun r9 h9 p9 => ?_)
    obtain ⟨rfl, rfl⟩ : r9 = some (.inl (-1002)) ∧ h9 = WW m161 := by
      rcases p9 with ⟨q, -⟩ | ⟨-, -, q⟩ | ⟨-, q, -⟩
      · omega
      · exact q
      · omega
    show V 217 [some (.inr (some 0)), some (.inl gg), some (.inl hh), some (.inl 3), some (.inl 5), some (.inl (1 + o100)), some (.inl ((1 + o100) + o112)), some (.inl (((1 + o100) + o112) + o125)), some (.inl (m161 107 0)), none, none] [.inl (-1002)] (WW m161) 0 0
    refine rb_sipush hV dL_commands_217 (by decide) ?_
    refine rb_icmp_ne hV (tgt := 279) dL_commands_220 (by decide) ⟨(by unfold ab_r at *; omega), (by unfold ab_r at *; omega)⟩ (fun z => absurd z (by decide)) (fun _ => ?_)
    refine rb_aload_n hV dL_commands_223 rfl rfl ?_
    refine rb_iconst hV dL_commands_224 ?_
    refine rb_iconst hV dL_commands_225 ?_
    refine rb_iconst hV dL_commands_226 ?_
    refine rb_iconst hV dL_commands_227 ?_
    refine rb_callV hV (rest := []) dL_commands_228 (c_X9_setSpace m161 3 1 1 1 (by unfold ab_r at *; omega) (by unfold ab_r at *; omega) (by unfold ab_r at *; omega) (by unfold ab_r at *; omega) hx161) lk_L_87 rfl (Or.inl ⟨8, _, TX9, 8, gw_0 _, rfl⟩) rfl ⟨rfl, rfl, (Nat.le_of_ble_eq_true rfl), (Nat.le_of_ble_eq_true rfl), (Nat.le_of_ble_eq_true rfl), (Nat.le_of_ble_eq_true rfl)⟩ (Nat.le_of_ble_eq_true rfl) (fun r9 h9 p9 => ?_)
    obtain ⟨rfl, rfl⟩ : r9 = some (.inl (-1001)) ∧ h9 = WW m161 := by
      rcases p9 with ⟨-, q⟩ | ⟨q, -⟩ | ⟨q, -⟩
      · exact q
      · omega
      · omega
    show V 231 [some (.inr (some 0)), some (.inl gg), some (.inl hh), some (.inl 3), some (.inl 5), some (.inl (1 + o100)), some (.inl ((1 + o100) + o112)), some (.inl (((1 + o100) + o112) + o125)), some (.inl (m161 107 0)), none, none] [.inl (-1001)] (WW m161) 0 0
    refine rb_sipush hV dL_commands_231 (by decide) ?_
    refine rb_icmp_ne hV (tgt := 279) dL_commands_234 (by decide) ⟨(by unfold ab_r at *; omega), (by unfold ab_r at *; omega)⟩ (fun z => absurd z (by decide)) (fun _ => ?_)
    refine rb_aload_n hV dL_commands_237 rfl rfl ?_
    refine rb_iconst hV dL_commands_238 ?_
    refine rb_iconst hV dL_commands_239 ?_
    refine rb_iconst hV dL_commands_240 ?_
    refine rb_iconst hV dL_commands_241 ?_
    refine rb_callV hV (rest := []) dL_commands_242 (c_X9_setSpace m161 1 0 1 1 (by unfold ab_r at *; omega) (by unfold ab_r at *; omega) (by unfold ab_r at *; omega) (by unfold ab_r at *; omega) hx161) lk_L_87 rfl (Or.inl ⟨8, _, TX9, 8, gw_0 _, rfl⟩) rfl ⟨rfl, rfl, (Nat.le_of_ble_eq_true rfl), (Nat.le_of_ble_eq_true rfl), (Nat.le_of_ble_eq_true rfl), (Nat.le_of_ble_eq_true rfl)⟩ (Nat.le_of_ble_eq_true rfl) (fun r9 h9 p9 => ?_)
    obtain ⟨rfl, rfl⟩ : r9 = some (.inl (-1002)) ∧ h9 = WW m161 := by
      rcases p9 with ⟨q, -⟩ | ⟨-, -, q⟩ | ⟨-, q, -⟩
      · omega
      · exact q
      · omega
    show V 245 [some (.inr (some 0)), some (.inl gg), some (.inl hh), some (.inl 3), some (.inl 5), some (.inl (1 + o100)), some (.inl ((1 + o100) + o112)), some (.inl (((1 + o100) + o112) + o125)), some (.inl (m161 107 0)), none, none] [.inl (-1002)] (WW m161) 0 0
    refine rb_sipush hV dL_commands_245 (by decide) ?_
    refine rb_icmp_ne hV (tgt := 279) dL_commands_248 (by decide) ⟨(by unfold ab_r at *; omega), (by unfold ab_r at *; omega)⟩ (fun z => absurd z (by decide)) (fun _ => ?_)
    refine rb_aload_n hV dL_commands_251 rfl rfl ?_
    refine rb_iconst hV dL_commands_252 ?_
    refine rb_iconst hV dL_commands_253 ?_
    refine rb_callV hV (rest := []) dL_commands_254 (c_X9_spaceWidth m161 3 0 (by unfold ab_r at *; omega) (by unfold ab_r at *; omega) hx161) lk_L_53 rfl (Or.inl ⟨8, _, TX9, 8, gw_0 _, rfl⟩) rfl ⟨rfl, rfl, (Nat.le_of_ble_eq_true rfl), (Nat.le_of_ble_eq_true rfl), (Nat.le_of_ble_eq_true rfl), (Nat.le_of_ble_eq_true rfl)⟩ (Nat.le_of_ble_eq_true rfl) (fun r9 h9 p9 => ?_)
    obtain ⟨rfl, rfl⟩ : r9 = some (.inl (-1001)) ∧ h9 = WW m161 := ⟨p9.1.trans (congrArg (fun z : Int => (some (Sum.inl z) : Option ab_V)) (show xspw m161 3 0 = -1001 from rfl)), p9.2⟩
    show V 257 [some (.inr (some 0)), some (.inl gg), some (.inl hh), some (.inl 3), some (.inl 5), some (.inl (1 + o100)), some (.inl ((1 + o100) + o112)), some (.inl (((1 + o100) + o112) + o125)), some (.inl (m161 107 0)), none, none] [.inl (-1001)] (WW m161) 0 0
    refine rb_sipush hV dL_commands_257 (by decide) ?_
    refine rb_icmp_ne hV (tgt := 279) dL_commands_260 (by decide) ⟨(by unfold ab_r at *; omega), (by unfold ab_r at *; omega)⟩ (fun z => absurd z (by decide)) (fun _ => ?_)
    refine rb_aload_n hV dL_commands_263 rfl rfl ?_
    refine rb_iconst hV dL_commands_264 ?_
    refine rb_iconst hV dL_commands_265 ?_
    refine rb_callV hV (rest := []) dL_commands_266 (c_X9_spaceWidth m161 0 3 (by unfold ab_r at *; omega) (by unfold ab_r at *; omega) hx161) lk_L_53 rfl (Or.inl ⟨8, _, TX9, 8, gw_0 _, rfl⟩) rfl ⟨rfl, rfl, (Nat.le_of_ble_eq_true rfl), (Nat.le_of_ble_eq_true rfl), (Nat.le_of_ble_eq_true rfl), (Nat.le_of_ble_eq_true rfl)⟩ (Nat.le_of_ble_eq_true rfl) (fun r9 h9 p9 => ?_)
    obtain ⟨rfl, rfl⟩ : r9 = some (.inl (-1002)) ∧ h9 = WW m161 := ⟨p9.1.trans (congrArg (fun z : Int => (some (Sum.inl z) : Option ab_V)) (show xspw m161 0 3 = -1002 from rfl)), p9.2⟩
    show V 269 [some (.inr (some 0)), some (.inl gg), some (.inl hh), some (.inl 3), some (.inl 5), some (.inl (1 + o100)), some (.inl ((1 + o100) + o112)), some (.inl (((1 + o100) + o112) + o125)), some (.inl (m161 107 0)), none, none] [.inl (-1002)] (WW m161) 0 0
    refine rb_sipush hV dL_commands_269 (by decide) ?_
    refine rb_icmp_ne hV (tgt := 279) dL_commands_272 (by decide) ⟨(by unfold ab_r at *; omega), (by unfold ab_r at *; omega)⟩ (fun z => absurd z (by decide)) (fun _ => ?_)
    refine rb_iconst hV dL_commands_275 ?_
    refine rb_goto hV (tgt := 280) dL_commands_276 (by decide) ?_
    refine rb_ret hV (r := some (.inl 1)) dL_commands_280 rfl ⟨(Nat.le_of_ble_eq_true rfl), (Nat.le_of_ble_eq_true rfl)⟩ (by first | exact Or.inl rfl | exact Or.inr rfl | omega) ?_
    exact ⟨rfl, _, rfl, hx161⟩
