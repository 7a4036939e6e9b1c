set_option maxHeartbeats 8000000 in
set_option maxRecDepth 20000 in
theorem c_X10_command (s : Nat → Int → Int) (sub0 kd0 : Int) (nu0 : Int → Int) (hx : MI s) : ab_Mt yX10_command cX10_command 6 (some .int) ({ frames := 8, cells := 0, slots := 0, locals := 189 } : Room) false 0 0 [.inr (some 49)] (WW s) (CMD s (prs (s 56) (s 121 0) 5 0 0 sub0 kd0 nu0)) := by
  refine ab_mk RX10 false rfl pn_X10_command (fun z => by cases z) (Nat.le_of_ble_eq_true rfl) (fun V hV => ?_)
  show V 0 [some (.inr (some 49)), none, none, none, none, none] [] (WW s) 0 0
  obtain ⟨hp, hbw, hv, hms0, hz0, hx3, hx4⟩ := id hx
  have hn : 0 ≤ s 120 0 ∧ s 120 0 ≤ 60 := hp.1
  have hnl : 0 ≤ s 125 0 ∧ s 125 0 ≤ s 120 0 := hv.1
  have hb := BWq_BS hp hbw
  have hsw := (MST_b hms0).1
  have hln := (MST_b hms0).2
  have ht := hx4
  refine rb_heq (b := (ab_s (ab_s (ab_s s 122 (s 122)) 123 (s 123)) 124 (s 124))) ((ab_s_id rfl).trans ((ab_s_id rfl).trans (ab_s_id rfl))).symm ?_
  refine rb_aload_n hV dX10_command_0 rfl rfl ?_
  refine rb_iconst hV dX10_command_1 ?_
  refine rb_put hV (C := RX10) (T := TX10) (N := 24) (ci := 9) (j := 14) dX10_command_2 rfl (Nat.le_of_ble_eq_true rfl) lf_X10_100 rfl (gw_49 _) (Nat.le_of_ble_eq_true rfl) (ft_X10_14 _) ((pw_49_14 _ _).trans (congrArg WW (ab_s_same _ 124 _ _))) ?_
  refine rb_aload_n hV dX10_command_5 rfl rfl ?_
  refine rb_iconst hV dX10_command_6 ?_
  refine rb_put hV (C := RX10) (T := TX10) (N := 24) (ci := 9) (j := 13) dX10_command_7 rfl (Nat.le_of_ble_eq_true rfl) lf_X10_103 rfl (gw_49 _) (Nat.le_of_ble_eq_true rfl) (ft_X10_13 _) ((pw_49_13 _ _).trans (congrArg WW ((ab_s_sw (by decide)).trans (congrArg (fun x => ab_s x 124 _) (ab_s_same _ 123 _ _))))) ?_
  refine rb_aload_n hV dX10_command_10 rfl rfl ?_
  refine rb_iconst hV dX10_command_11 ?_
  refine rb_callV hV (rest := []) dX10_command_12 (c_X10_nextPiece_t (ab_s (ab_s (ab_s s 122 (s 122)) 123 (fun _ => 0)) 124 (fun _ => (-1))) (show 0 ≤ (s 121 0) ∧ (s 121 0) ≤ 120 by omega) ht (show (-1) = -1 by omega) (show 0 ≤ 0 ∧ 0 ≤ (s 121 0) by omega)) lk_X10_109 rfl (Or.inl ⟨9, _, TX10, 24, gw_49 _, rfl⟩) rfl ⟨rfl, rfl, (Nat.le_of_ble_eq_true rfl), (Nat.le_of_ble_eq_true rfl), (Nat.le_of_ble_eq_true rfl), (Nat.le_of_ble_eq_true rfl)⟩ (Nat.le_of_ble_eq_true rfl) (fun r9 h9 p9 => ?_)
  obtain ⟨rfl, fa, fb, fc, rfl, hnp⟩ := p9
  replace hnp : NP (s 56) (s 121 0) (-1) (fa 0) (fb 0) (fc 0) := hnp
  have hnb := NP_b hnp (by omega) (by omega)
  refine rb_heq (b := (ab_s (ab_s (ab_s s 122 fa) 123 fb) 124 fc)) ((congrArg (fun x => ab_s x 124 _) ((congrArg (fun x => ab_s x 123 _) ((ab_s_sw (by decide)).trans (congrArg (fun x => ab_s x 124 _) ((ab_s_sw (by decide)).trans (congrArg (fun x => ab_s x 123 _) (ab_s_same _ 122 _ _)))))).trans ((ab_s_sw (by decide)).trans (congrArg (fun x => ab_s x 124 _) (ab_s_same _ 123 _ _))))).trans (ab_s_same _ 124 _ _)) ?_
  show V 15 [some (.inr (some 49)), none, none, none, none, none] [] (WW (ab_s (ab_s (ab_s s 122 fa) 123 fb) 124 fc)) 0 0
  have hnb1 := hnb.1
  have hnb2 := hnb.2.1
  have hnb3 := hnb.2.2.1
  have hnb4 := hnb.2.2.2.1
  have hnb5 := hnb.2.2.2.2
  have hfa : fa 0 = 0 := by
    rcases hnp with z | z
    · omega
    · omega
  have hfb : fb 0 = eo (s 56) 0 (s 121 0 - 0).toNat := by
    rcases hnp with z | ⟨z1, z2, z3, z4⟩
    · omega
    · rw [show (-1 : Int) + 1 = 0 by omega] at z3
      exact z3
  have C201 : ∀ (w : Int) (f : Int → Int), ((w = -1 ∧ f 0 = 0 ∧ sbj (s 56) (s 121 0) 0 (eo (s 56) 0 (s 121 0 - 0).toNat) = -1) ∨ (w = 0 ∧ f 0 = -1 ∧ sbj (s 56) (s 121 0) 0 (eo (s 56) 0 (s 121 0 - 0).toNat) = 0) ∨ (w = 1 ∧ f 0 = -1 ∧ sbj (s 56) (s 121 0) 0 (eo (s 56) 0 (s 121 0 - 0).toNat) = 1) ∨ (w = 2 ∧ f 0 = -1 ∧ sbj (s 56) (s 121 0) 0 (eo (s 56) 0 (s 121 0 - 0).toNat) = 2) ∨ (w = 3 ∧ f 0 = -1 ∧ sbj (s 56) (s 121 0) 0 (eo (s 56) 0 (s 121 0 - 0).toNat) = 3)) → V 201 [some (.inr (some 49)), some (.inl w), none, none, none, none] [] (WW (ab_s (ab_s (ab_s s 122 fa) 123 fb) 124 f)) 0 0 := by
    intro w f hw
    rcases hw with ⟨rfl, hf, hsb⟩ | ⟨rfl, hf, hsb⟩ | ⟨rfl, hf, hsb⟩ | ⟨rfl, hf, hsb⟩ | ⟨rfl, hf, hsb⟩
    · have hP : (prs (s 56) (s 121 0) 5 0 0 sub0 kd0 nu0).1 = f 0 := by rw [hf]; exact prs_0b hsb
      have hfr : 0 ≤ f 0 ∧ f 0 ≤ 121 := by omega
      refine rb_iload_n hV dX10_command_201 rfl rfl ?_
      refine rb_iconst hV dX10_command_202 ?_
      refine rb_icmp_ne hV (tgt := 213) dX10_command_203 (by decide) ⟨(by unfold ab_r at *; omega), (by unfold ab_r at *; omega)⟩ (fun _ => ?_) (fun z => absurd z (by decide))
      refine rb_iconst hV dX10_command_213 ?_
      refine rb_istore_n hV (L2 := [some (.inr (some 49)), some (.inl (-1)), some (.inl 0), none, none, none]) dX10_command_214 rfl (Nat.le_of_ble_eq_true rfl) rfl ?_
      refine rb_aload_n hV dX10_command_215 rfl rfl ?_
      refine rb_iload_n hV dX10_command_216 rfl rfl ?_
      refine rb_if_ne hV (tgt := 225) dX10_command_217 (by decide) (by unfold ab_r at *; omega) (fun _ => ?_) (fun z => absurd z (by decide))
      refine rb_iload_n hV dX10_command_225 rfl rfl ?_
      refine rb_iconst hV dX10_command_226 ?_
      refine rb_icmp_ne hV (tgt := 234) dX10_command_227 (by decide) ⟨(by unfold ab_r at *; omega), (by unfold ab_r at *; omega)⟩ (fun _ => ?_) (fun z => absurd z (by decide))
      refine rb_iconst hV dX10_command_234 ?_
      refine rb_iload_n hV dX10_command_235 rfl rfl ?_
      refine rb_if_ne hV (tgt := 245) dX10_command_236 (by decide) (by unfold ab_r at *; omega) (fun _ => ?_) (fun z => absurd z (by decide))
      refine rb_iload_n hV dX10_command_245 rfl rfl ?_
      refine rb_iconst hV dX10_command_246 ?_
      refine rb_icmp_ne hV (tgt := 255) dX10_command_247 (by decide) ⟨(by unfold ab_r at *; omega), (by unfold ab_r at *; omega)⟩ (fun _ => ?_) (fun z => absurd z (by decide))
      refine rb_iload_n hV dX10_command_255 rfl rfl ?_
      refine rb_iconst hV dX10_command_256 ?_
      refine rb_icmp_ne hV (tgt := 265) dX10_command_257 (by decide) ⟨(by unfold ab_r at *; omega), (by unfold ab_r at *; omega)⟩ (fun _ => ?_) (fun z => absurd z (by decide))
      refine rb_bipush hV dX10_command_265 (by decide) ?_
      refine rb_callV hV (rest := []) dX10_command_267 (c_X10_number_n (ab_s (ab_s (ab_s s 122 fa) 123 fb) 124 f) 0 40 (show 0 ≤ (f 0) ∧ (f 0) ≤ 121 by omega) (show 0 ≤ (fa 0) ∧ (fa 0) ≤ 121 by omega) (show 0 ≤ (fb 0) ∧ (fb 0) ≤ 121 by omega)) lk_X10_129 rfl (Or.inl ⟨9, _, TX10, 24, gw_49 _, rfl⟩) rfl ⟨rfl, rfl, (Nat.le_of_ble_eq_true rfl), (Nat.le_of_ble_eq_true rfl), (Nat.le_of_ble_eq_true rfl), (Nat.le_of_ble_eq_true rfl)⟩ (Nat.le_of_ble_eq_true rfl) (fun r9 h9 p9 => ?_)
      obtain ⟨rfl, rfl⟩ := p9
      show V 270 [some (.inr (some 49)), some (.inl (-1)), some (.inl 0), none, none, none] [.inl 0] (WW (ab_s (ab_s (ab_s s 122 fa) 123 fb) 124 f)) 0 0
      refine rb_istore_n hV (L2 := [some (.inr (some 49)), some (.inl (-1)), some (.inl 0), some (.inl 0), none, none]) dX10_command_270 rfl (Nat.le_of_ble_eq_true rfl) rfl ?_
      refine rb_iload_n hV dX10_command_271 rfl rfl ?_
      refine rb_iconst hV dX10_command_272 ?_
      refine rb_icmp_ne hV (tgt := 286) dX10_command_273 (by decide) ⟨(by unfold ab_r at *; omega), (by unfold ab_r at *; omega)⟩ (fun _ => ?_) (fun z => absurd z (by decide))
      refine rb_iconst hV dX10_command_286 ?_
      refine rb_istore hV (L2 := [some (.inr (some 49)), some (.inl (-1)), some (.inl 0), some (.inl 0), some (.inl 0), none]) dX10_command_287 (Nat.le_of_ble_eq_true rfl) rfl ?_
      refine rb_iload_n hV dX10_command_289 rfl rfl ?_
      refine rb_iconst hV dX10_command_290 ?_
      refine rb_icmp_ne hV (tgt := 305) dX10_command_291 (by decide) ⟨(by unfold ab_r at *; omega), (by unfold ab_r at *; omega)⟩ (fun _ => ?_) (fun z => absurd z (by decide))
      refine rb_iconst hV dX10_command_305 ?_
      refine rb_istore hV (L2 := [some (.inr (some 49)), some (.inl (-1)), some (.inl 0), some (.inl 0), some (.inl 0), some (.inl 0)]) dX10_command_306 (Nat.le_of_ble_eq_true rfl) rfl ?_
      refine rb_aload_n hV dX10_command_308 rfl rfl ?_
      refine rb_get hV (v := .inl (f 0)) dX10_command_309 ⟨RX10, TX10, 24, rfl, (Nat.le_of_ble_eq_true rfl), lf_X10_100⟩ (gw_49 _) rfl ?_
      refine rb_if_ge hV (tgt := 336) dX10_command_312 (by decide) (by unfold ab_r at *; omega) (fun c312 => ?_) (fun c312 => absurd c312 (by omega))
      refine rb_aload_n hV dX10_command_336 rfl rfl ?_
      refine rb_get hV (v := .inl (f 0)) dX10_command_337 ⟨RX10, TX10, 24, rfl, (Nat.le_of_ble_eq_true rfl), lf_X10_100⟩ (gw_49 _) rfl ?_
      refine rb_if_lt hV (tgt := 351) dX10_command_340 (by decide) (by unfold ab_r at *; omega) (fun c340 => absurd c340 (by omega)) (fun c340 => ?_)
      refine rb_bipush hV dX10_command_343 (by decide) ?_
      refine rb_aload_n hV dX10_command_345 rfl rfl ?_
      refine rb_get hV (v := .inl (f 0)) dX10_command_346 ⟨RX10, TX10, 24, rfl, (Nat.le_of_ble_eq_true rfl), lf_X10_100⟩ (gw_49 _) rfl ?_
      refine rb_isub hV dX10_command_349 ?_
      refine rb_ret hV (r := some (.inl ((-100) - (f 0)))) dX10_command_350 rfl ⟨(Nat.le_of_ble_eq_true rfl), (Nat.le_of_ble_eq_true rfl)⟩ trivial ?_
      exact ⟨_, _, _, Or.inl ⟨by rw [hP]; omega, by rw [hP], rfl, hx⟩⟩
    · refine rb_iload_n hV dX10_command_201 rfl rfl ?_
      refine rb_iconst hV dX10_command_202 ?_
      refine rb_icmp_ne hV (tgt := 213) dX10_command_203 (by decide) ⟨(by unfold ab_r at *; omega), (by unfold ab_r at *; omega)⟩ (fun _ => ?_) (fun z => absurd z (by decide))
      refine rb_iconst hV dX10_command_213 ?_
      refine rb_istore_n hV (L2 := [some (.inr (some 49)), some (.inl 0), some (.inl 0), none, none, none]) dX10_command_214 rfl (Nat.le_of_ble_eq_true rfl) rfl ?_
      refine rb_aload_n hV dX10_command_215 rfl rfl ?_
      refine rb_iload_n hV dX10_command_216 rfl rfl ?_
      refine rb_if_ne hV (tgt := 225) dX10_command_217 (by decide) (by unfold ab_r at *; omega) (fun z => absurd z (by decide)) (fun _ => ?_)
      refine rb_bipush hV dX10_command_220 (by decide) ?_
      refine rb_goto hV (tgt := 235) dX10_command_222 (by decide) ?_
      refine rb_iload_n hV dX10_command_235 rfl rfl ?_
      refine rb_if_ne hV (tgt := 245) dX10_command_236 (by decide) (by unfold ab_r at *; omega) (fun z => absurd z (by decide)) (fun _ => ?_)
      refine rb_sipush hV dX10_command_239 (by decide) ?_
      refine rb_goto hV (tgt := 267) dX10_command_242 (by decide) ?_
      refine rb_callV hV (rest := []) dX10_command_267 (c_X10_number (ab_s (ab_s (ab_s s 122 fa) 123 fb) 124 f) 10 200 (show 0 ≤ (s 121 0) ∧ (s 121 0) ≤ 120 by omega) hx4 (show (f 0) = -1 by omega) (show 0 ≤ (fb 0) ∧ (fb 0) ≤ (s 121 0) by omega) (show 0 ≤ (fa 0) ∧ (fa 0) ≤ 121 by omega) (by omega) (by decide)) lk_X10_129 rfl (Or.inl ⟨9, _, TX10, 24, gw_49 _, rfl⟩) rfl ⟨rfl, rfl, (Nat.le_of_ble_eq_true rfl), (Nat.le_of_ble_eq_true rfl), (Nat.le_of_ble_eq_true rfl), (Nat.le_of_ble_eq_true rfl)⟩ (Nat.le_of_ble_eq_true rfl) (fun r9 h9 p9 => ?_)
      obtain ⟨v1, ga1, gb1, gc1, rfl, rfl, hvb1, hbb1, hnr1⟩ := p9
      replace hnr1 : NMR (s 56) (s 121 0) (fb 0) (tLo 0 nu0 0) (tHi 0) v1 (gb1 0) (gc1 0) := hnr1
      replace hbb1 : (gb1 0 ≤ s 121 0 ∧ 0 ≤ gb1 0) ∧ 0 ≤ ga1 0 ∧ ga1 0 ≤ 121 := hbb1
      refine rb_heq (b := (ab_s (ab_s (ab_s s 122 ga1) 123 gb1) 124 gc1)) ((congrArg (fun x => ab_s x 124 _) ((congrArg (fun x => ab_s x 123 _) ((ab_s_sw (by decide)).trans (congrArg (fun x => ab_s x 124 _) ((ab_s_sw (by decide)).trans (congrArg (fun x => ab_s x 123 _) (ab_s_same _ 122 _ _)))))).trans ((ab_s_sw (by decide)).trans (congrArg (fun x => ab_s x 124 _) (ab_s_same _ 123 _ _))))).trans (ab_s_same _ 124 _ _)) ?_
      show V 270 [some (.inr (some 49)), some (.inl 0), some (.inl 0), none, none, none] [.inl v1] (WW (ab_s (ab_s (ab_s s 122 ga1) 123 gb1) 124 gc1)) 0 0
      rcases hnr1 with ⟨n1, n2⟩ | ⟨n1, n2, n3⟩ | ⟨n1, n2, n3, n4, n5⟩
      · have hP : (prs (s 56) (s 121 0) 5 0 0 sub0 kd0 nu0).1 = gc1 0 := by
          rw [n2]
          exact prs_0e (by rw [hsb]; decide) (by rw [← hfb]; omega)
        have hfr : 0 ≤ gc1 0 ∧ gc1 0 ≤ 121 := by omega
        refine rb_istore_n hV (L2 := [some (.inr (some 49)), some (.inl 0), some (.inl 0), some (.inl v1), none, none]) dX10_command_270 rfl (Nat.le_of_ble_eq_true rfl) rfl ?_
        refine rb_iload_n hV dX10_command_271 rfl rfl ?_
        refine rb_iconst hV dX10_command_272 ?_
        refine rb_icmp_ne hV (tgt := 286) dX10_command_273 (by decide) ⟨(by unfold ab_r at *; omega), (by unfold ab_r at *; omega)⟩ (fun _ => ?_) (fun z => absurd z (by decide))
        refine rb_iconst hV dX10_command_286 ?_
        refine rb_istore hV (L2 := [some (.inr (some 49)), some (.inl 0), some (.inl 0), some (.inl v1), some (.inl 0), none]) dX10_command_287 (Nat.le_of_ble_eq_true rfl) rfl ?_
        refine rb_iload_n hV dX10_command_289 rfl rfl ?_
        refine rb_iconst hV dX10_command_290 ?_
        refine rb_icmp_ne hV (tgt := 305) dX10_command_291 (by decide) ⟨(by unfold ab_r at *; omega), (by unfold ab_r at *; omega)⟩ (fun _ => ?_) (fun z => absurd z (by decide))
        refine rb_iconst hV dX10_command_305 ?_
        refine rb_istore hV (L2 := [some (.inr (some 49)), some (.inl 0), some (.inl 0), some (.inl v1), some (.inl 0), some (.inl 0)]) dX10_command_306 (Nat.le_of_ble_eq_true rfl) rfl ?_
        refine rb_aload_n hV dX10_command_308 rfl rfl ?_
        refine rb_get hV (v := .inl (gc1 0)) dX10_command_309 ⟨RX10, TX10, 24, rfl, (Nat.le_of_ble_eq_true rfl), lf_X10_100⟩ (gw_49 _) rfl ?_
        refine rb_if_ge hV (tgt := 336) dX10_command_312 (by decide) (by unfold ab_r at *; omega) (fun c312 => ?_) (fun c312 => absurd c312 (by omega))
        refine rb_aload_n hV dX10_command_336 rfl rfl ?_
        refine rb_get hV (v := .inl (gc1 0)) dX10_command_337 ⟨RX10, TX10, 24, rfl, (Nat.le_of_ble_eq_true rfl), lf_X10_100⟩ (gw_49 _) rfl ?_
        refine rb_if_lt hV (tgt := 351) dX10_command_340 (by decide) (by unfold ab_r at *; omega) (fun c340 => absurd c340 (by omega)) (fun c340 => ?_)
        refine rb_bipush hV dX10_command_343 (by decide) ?_
        refine rb_aload_n hV dX10_command_345 rfl rfl ?_
        refine rb_get hV (v := .inl (gc1 0)) dX10_command_346 ⟨RX10, TX10, 24, rfl, (Nat.le_of_ble_eq_true rfl), lf_X10_100⟩ (gw_49 _) rfl ?_
        refine rb_isub hV dX10_command_349 ?_
        refine rb_ret hV (r := some (.inl ((-100) - (gc1 0)))) dX10_command_350 rfl ⟨(Nat.le_of_ble_eq_true rfl), (Nat.le_of_ble_eq_true rfl)⟩ trivial ?_
        exact ⟨_, _, _, Or.inl ⟨by rw [hP]; omega, by rw [hP], rfl, hx⟩⟩
      · have hQ1 : (prs (s 56) (s 121 0) 5 0 0 sub0 kd0 nu0) = prs (s 56) (s 121 0) 4 1 (fb 0 + 1) 0 kd0 nu0 := by
          have z := prs_0g (sub := sub0) (kd := kd0) (nu := nu0) hsb (by decide) (by rw [← hfb]; omega)
          rw [← hfb] at z
          exact z
        have hP : (prs (s 56) (s 121 0) 5 0 0 sub0 kd0 nu0).1 = gc1 0 := by
          rw [n3, hQ1]
          exact prs_1b (by decide) n2
        have hfr : 0 ≤ gc1 0 ∧ gc1 0 ≤ 121 := by omega
        refine rb_istore_n hV (L2 := [some (.inr (some 49)), some (.inl 0), some (.inl 0), some (.inl v1), none, none]) dX10_command_270 rfl (Nat.le_of_ble_eq_true rfl) rfl ?_
        refine rb_iload_n hV dX10_command_271 rfl rfl ?_
        refine rb_iconst hV dX10_command_272 ?_
        refine rb_icmp_ne hV (tgt := 286) dX10_command_273 (by decide) ⟨(by unfold ab_r at *; omega), (by unfold ab_r at *; omega)⟩ (fun _ => ?_) (fun z => absurd z (by decide))
        refine rb_iconst hV dX10_command_286 ?_
        refine rb_istore hV (L2 := [some (.inr (some 49)), some (.inl 0), some (.inl 0), some (.inl v1), some (.inl 0), none]) dX10_command_287 (Nat.le_of_ble_eq_true rfl) rfl ?_
        refine rb_iload_n hV dX10_command_289 rfl rfl ?_
        refine rb_iconst hV dX10_command_290 ?_
        refine rb_icmp_ne hV (tgt := 305) dX10_command_291 (by decide) ⟨(by unfold ab_r at *; omega), (by unfold ab_r at *; omega)⟩ (fun _ => ?_) (fun z => absurd z (by decide))
        refine rb_iconst hV dX10_command_305 ?_
        refine rb_istore hV (L2 := [some (.inr (some 49)), some (.inl 0), some (.inl 0), some (.inl v1), some (.inl 0), some (.inl 0)]) dX10_command_306 (Nat.le_of_ble_eq_true rfl) rfl ?_
        refine rb_aload_n hV dX10_command_308 rfl rfl ?_
        refine rb_get hV (v := .inl (gc1 0)) dX10_command_309 ⟨RX10, TX10, 24, rfl, (Nat.le_of_ble_eq_true rfl), lf_X10_100⟩ (gw_49 _) rfl ?_
        refine rb_if_ge hV (tgt := 336) dX10_command_312 (by decide) (by unfold ab_r at *; omega) (fun c312 => ?_) (fun c312 => absurd c312 (by omega))
        refine rb_aload_n hV dX10_command_336 rfl rfl ?_
        refine rb_get hV (v := .inl (gc1 0)) dX10_command_337 ⟨RX10, TX10, 24, rfl, (Nat.le_of_ble_eq_true rfl), lf_X10_100⟩ (gw_49 _) rfl ?_
        refine rb_if_lt hV (tgt := 351) dX10_command_340 (by decide) (by unfold ab_r at *; omega) (fun c340 => absurd c340 (by omega)) (fun c340 => ?_)
        refine rb_bipush hV dX10_command_343 (by decide) ?_
        refine rb_aload_n hV dX10_command_345 rfl rfl ?_
        refine rb_get hV (v := .inl (gc1 0)) dX10_command_346 ⟨RX10, TX10, 24, rfl, (Nat.le_of_ble_eq_true rfl), lf_X10_100⟩ (gw_49 _) rfl ?_
        refine rb_isub hV dX10_command_349 ?_
        refine rb_ret hV (r := some (.inl ((-100) - (gc1 0)))) dX10_command_350 rfl ⟨(Nat.le_of_ble_eq_true rfl), (Nat.le_of_ble_eq_true rfl)⟩ trivial ?_
        exact ⟨_, _, _, Or.inl ⟨by rw [hP]; omega, by rw [hP], rfl, hx⟩⟩
      · have hQ1 : (prs (s 56) (s 121 0) 5 0 0 sub0 kd0 nu0) = prs (s 56) (s 121 0) 4 1 (fb 0 + 1) 0 kd0 nu0 := by
          have z := prs_0g (sub := sub0) (kd := kd0) (nu := nu0) hsb (by decide) (by rw [← hfb]; omega)
          rw [← hfb] at z
          exact z
        have hm2 := n2
        have hm3 := n3
        have hm5 := n5
        refine rb_istore_n hV (L2 := [some (.inr (some 49)), some (.inl 0), some (.inl 0), some (.inl v1), none, none]) dX10_command_270 rfl (Nat.le_of_ble_eq_true rfl) rfl ?_
        refine rb_iload_n hV dX10_command_271 rfl rfl ?_
        refine rb_iconst hV dX10_command_272 ?_
        refine rb_icmp_ne hV (tgt := 286) dX10_command_273 (by decide) ⟨(by unfold ab_r at *; omega), (by unfold ab_r at *; omega)⟩ (fun _ => ?_) (fun z => absurd z (by decide))
        refine rb_iconst hV dX10_command_286 ?_
        refine rb_istore hV (L2 := [some (.inr (some 49)), some (.inl 0), some (.inl 0), some (.inl v1), some (.inl 0), none]) dX10_command_287 (Nat.le_of_ble_eq_true rfl) rfl ?_
        refine rb_iload_n hV dX10_command_289 rfl rfl ?_
        refine rb_iconst hV dX10_command_290 ?_
        refine rb_icmp_ne hV (tgt := 305) dX10_command_291 (by decide) ⟨(by unfold ab_r at *; omega), (by unfold ab_r at *; omega)⟩ (fun _ => ?_) (fun z => absurd z (by decide))
        refine rb_iconst hV dX10_command_305 ?_
        refine rb_istore hV (L2 := [some (.inr (some 49)), some (.inl 0), some (.inl 0), some (.inl v1), some (.inl 0), some (.inl 0)]) dX10_command_306 (Nat.le_of_ble_eq_true rfl) rfl ?_
        have hr1 : 10 ≤ v1 ∧ v1 ≤ 200 := by
          rw [hm3]
          exact hm2
        refine rb_aload_n hV dX10_command_308 rfl rfl ?_
        refine rb_get hV (v := .inl (gc1 0)) dX10_command_309 ⟨RX10, TX10, 24, rfl, (Nat.le_of_ble_eq_true rfl), lf_X10_100⟩ (gw_49 _) rfl ?_
        refine rb_if_ge hV (tgt := 336) dX10_command_312 (by decide) (by unfold ab_r at *; omega) (fun c312 => absurd c312 (by omega)) (fun c312 => ?_)
        refine rb_aload_n hV dX10_command_315 rfl rfl ?_
        refine rb_get hV (v := .inl (gb1 0)) dX10_command_316 ⟨RX10, TX10, 24, rfl, (Nat.le_of_ble_eq_true rfl), lf_X10_103⟩ (gw_49 _) rfl ?_
        refine rb_aload_n hV dX10_command_319 rfl rfl ?_
        refine rb_get hV (v := .inl (s 121 0)) dX10_command_320 ⟨RX10, TX10, 24, rfl, (Nat.le_of_ble_eq_true rfl), lf_X10_83⟩ (gw_49 _) rfl ?_
        refine rb_icmp_ge hV (tgt := 336) dX10_command_323 (by decide) ⟨(by unfold ab_r at *; omega), (by unfold ab_r at *; omega)⟩ (fun c323 => ?_) (fun c323 => ?_)
        · refine rb_aload_n hV dX10_command_336 rfl rfl ?_
          refine rb_get hV (v := .inl (gc1 0)) dX10_command_337 ⟨RX10, TX10, 24, rfl, (Nat.le_of_ble_eq_true rfl), lf_X10_100⟩ (gw_49 _) rfl ?_
          refine rb_if_lt hV (tgt := 351) dX10_command_340 (by decide) (by unfold ab_r at *; omega) (fun c340 => ?_) (fun c340 => absurd c340 (by omega))
          refine rb_iload_n hV dX10_command_351 rfl rfl ?_
          refine rb_if_ne hV (tgt := 364) dX10_command_352 (by decide) (by unfold ab_r at *; omega) (fun z => absurd z (by decide)) (fun _ => ?_)
          refine rb_aload_n hV dX10_command_355 rfl rfl ?_
          refine rb_iload_n hV dX10_command_356 rfl rfl ?_
          refine rb_callV hV (rest := []) dX10_command_357 (c_X10_setMeasure (ab_s (ab_s (ab_s s 122 ga1) 123 gb1) 124 gc1) v1 (by unfold ab_r; omega) (show MI (ab_s (ab_s (ab_s s 122 ga1) 123 gb1) 124 gc1) from hx)) lk_X10_133 rfl (Or.inl ⟨9, _, TX10, 24, gw_49 _, rfl⟩) rfl ⟨rfl, rfl, (Nat.le_of_ble_eq_true rfl), (Nat.le_of_ble_eq_true rfl), (Nat.le_of_ble_eq_true rfl), (Nat.le_of_ble_eq_true rfl)⟩ (Nat.le_of_ble_eq_true rfl) (fun r9 h9 p9 => ?_)
          obtain ⟨_, s2, rfl, rfl, hmi, hbest, hkeep⟩ := p9.resolve_left (fun q => q.1 (by omega))
          show V 360 [some (.inr (some 49)), some (.inl 0), some (.inl 0), some (.inl v1), some (.inl 0), some (.inl 0)] [.inl (s 117 0)] (WW s2) 0 0
          refine rb_pop hV dX10_command_360 ?_
          refine rb_goto hV (tgt := 403) dX10_command_361 (by decide) ?_
          refine rb_aload_n hV dX10_command_403 rfl rfl ?_
          refine rb_get hV (v := .inl (s2 125 0)) dX10_command_404 ⟨RX10, TX10, 24, rfl, (Nat.le_of_ble_eq_true rfl), lf_X10_147⟩ (gw_49 _) rfl ?_
          refine rb_ret hV (r := some (.inl (s2 125 0))) dX10_command_407 rfl ⟨(Nat.le_of_ble_eq_true rfl), (Nat.le_of_ble_eq_true rfl)⟩ trivial ?_
          have hP : (prs (s 56) (s 121 0) 5 0 0 sub0 kd0 nu0) = (-1, 0, kd0, ab_u nu0 0 v1) := by
            rw [hQ1, hm3]
            exact prs_1e (by decide) hm2 (by rw [← hm5]; omega)
          rw [hP]
          refine ⟨_, _, _, Or.inr ⟨rfl, _, s2, Or.inl ⟨rfl, rfl⟩, rfl, rfl, hmi, hbest, hkeep⟩⟩
        · refine rb_aload_n hV dX10_command_326 rfl rfl ?_
          refine rb_aload_n hV dX10_command_327 rfl rfl ?_
          refine rb_get hV (v := .inl (gb1 0)) dX10_command_328 ⟨RX10, TX10, 24, rfl, (Nat.le_of_ble_eq_true rfl), lf_X10_103⟩ (gw_49 _) rfl ?_
          refine rb_iconst hV dX10_command_331 ?_
          refine rb_iadd hV dX10_command_332 ?_
          refine rb_put hV (C := RX10) (T := TX10) (N := 24) (ci := 9) (j := 14) dX10_command_333 rfl (Nat.le_of_ble_eq_true rfl) lf_X10_100 rfl (gw_49 _) (Nat.le_of_ble_eq_true rfl) (ft_X10_14 _) ((pw_49_14 _ _).trans (congrArg WW (ab_s_same _ 124 _ _))) ?_
          refine rb_aload_n hV dX10_command_336 rfl rfl ?_
          refine rb_get hV (v := .inl ((gb1 0) + 1)) dX10_command_337 ⟨RX10, TX10, 24, rfl, (Nat.le_of_ble_eq_true rfl), lf_X10_100⟩ (gw_49 _) rfl ?_
          refine rb_if_lt hV (tgt := 351) dX10_command_340 (by decide) (by unfold ab_r at *; omega) (fun c340 => absurd c340 (by omega)) (fun c340 => ?_)
          refine rb_bipush hV dX10_command_343 (by decide) ?_
          refine rb_aload_n hV dX10_command_345 rfl rfl ?_
          refine rb_get hV (v := .inl ((gb1 0) + 1)) dX10_command_346 ⟨RX10, TX10, 24, rfl, (Nat.le_of_ble_eq_true rfl), lf_X10_100⟩ (gw_49 _) rfl ?_
          refine rb_isub hV dX10_command_349 ?_
          refine rb_ret hV (r := some (.inl ((-100) - ((gb1 0) + 1)))) dX10_command_350 rfl ⟨(Nat.le_of_ble_eq_true rfl), (Nat.le_of_ble_eq_true rfl)⟩ trivial ?_
          have hP : (prs (s 56) (s 121 0) 5 0 0 sub0 kd0 nu0).1 = gb1 0 + 1 := by
            rw [hQ1, hm5]
            exact prs_1g (by decide) hm2 (by rw [← hm5]; omega)
          exact ⟨_, _, _, Or.inl ⟨by rw [hP]; omega, by rw [hP], rfl, hx⟩⟩
    · refine rb_iload_n hV dX10_command_201 rfl rfl ?_
      refine rb_iconst hV dX10_command_202 ?_
      refine rb_icmp_ne hV (tgt := 213) dX10_command_203 (by decide) ⟨(by unfold ab_r at *; omega), (by unfold ab_r at *; omega)⟩ (fun _ => ?_) (fun z => absurd z (by decide))
      refine rb_iconst hV dX10_command_213 ?_
      refine rb_istore_n hV (L2 := [some (.inr (some 49)), some (.inl 1), some (.inl 0), none, none, none]) dX10_command_214 rfl (Nat.le_of_ble_eq_true rfl) rfl ?_
      refine rb_aload_n hV dX10_command_215 rfl rfl ?_
      refine rb_iload_n hV dX10_command_216 rfl rfl ?_
      refine rb_if_ne hV (tgt := 225) dX10_command_217 (by decide) (by unfold ab_r at *; omega) (fun _ => ?_) (fun z => absurd z (by decide))
      refine rb_iload_n hV dX10_command_225 rfl rfl ?_
      refine rb_iconst hV dX10_command_226 ?_
      refine rb_icmp_ne hV (tgt := 234) dX10_command_227 (by decide) ⟨(by unfold ab_r at *; omega), (by unfold ab_r at *; omega)⟩ (fun _ => ?_) (fun z => absurd z (by decide))
      refine rb_iconst hV dX10_command_234 ?_
      refine rb_iload_n hV dX10_command_235 rfl rfl ?_
      refine rb_if_ne hV (tgt := 245) dX10_command_236 (by decide) (by unfold ab_r at *; omega) (fun _ => ?_) (fun z => absurd z (by decide))
      refine rb_iload_n hV dX10_command_245 rfl rfl ?_
      refine rb_iconst hV dX10_command_246 ?_
      refine rb_icmp_ne hV (tgt := 255) dX10_command_247 (by decide) ⟨(by unfold ab_r at *; omega), (by unfold ab_r at *; omega)⟩ (fun z => absurd z (by decide)) (fun _ => ?_)
      refine rb_bipush hV dX10_command_250 (by decide) ?_
      refine rb_goto hV (tgt := 267) dX10_command_252 (by decide) ?_
      refine rb_callV hV (rest := []) dX10_command_267 (c_X10_number (ab_s (ab_s (ab_s s 122 fa) 123 fb) 124 f) 0 100 (show 0 ≤ (s 121 0) ∧ (s 121 0) ≤ 120 by omega) hx4 (show (f 0) = -1 by omega) (show 0 ≤ (fb 0) ∧ (fb 0) ≤ (s 121 0) by omega) (show 0 ≤ (fa 0) ∧ (fa 0) ≤ 121 by omega) (by omega) (by decide)) lk_X10_129 rfl (Or.inl ⟨9, _, TX10, 24, gw_49 _, rfl⟩) rfl ⟨rfl, rfl, (Nat.le_of_ble_eq_true rfl), (Nat.le_of_ble_eq_true rfl), (Nat.le_of_ble_eq_true rfl), (Nat.le_of_ble_eq_true rfl)⟩ (Nat.le_of_ble_eq_true rfl) (fun r9 h9 p9 => ?_)
      obtain ⟨v1, ga1, gb1, gc1, rfl, rfl, hvb1, hbb1, hnr1⟩ := p9
      replace hnr1 : NMR (s 56) (s 121 0) (fb 0) (tLo 1 nu0 0) (tHi 1) v1 (gb1 0) (gc1 0) := hnr1
      replace hbb1 : (gb1 0 ≤ s 121 0 ∧ 0 ≤ gb1 0) ∧ 0 ≤ ga1 0 ∧ ga1 0 ≤ 121 := hbb1
      refine rb_heq (b := (ab_s (ab_s (ab_s s 122 ga1) 123 gb1) 124 gc1)) ((congrArg (fun x => ab_s x 124 _) ((congrArg (fun x => ab_s x 123 _) ((ab_s_sw (by decide)).trans (congrArg (fun x => ab_s x 124 _) ((ab_s_sw (by decide)).trans (congrArg (fun x => ab_s x 123 _) (ab_s_same _ 122 _ _)))))).trans ((ab_s_sw (by decide)).trans (congrArg (fun x => ab_s x 124 _) (ab_s_same _ 123 _ _))))).trans (ab_s_same _ 124 _ _)) ?_
      show V 270 [some (.inr (some 49)), some (.inl 1), some (.inl 0), none, none, none] [.inl v1] (WW (ab_s (ab_s (ab_s s 122 ga1) 123 gb1) 124 gc1)) 0 0
      rcases hnr1 with ⟨n1, n2⟩ | ⟨n1, n2, n3⟩ | ⟨n1, n2, n3, n4, n5⟩
      · have hP : (prs (s 56) (s 121 0) 5 0 0 sub0 kd0 nu0).1 = gc1 0 := by
          rw [n2]
          exact prs_0e (by rw [hsb]; decide) (by rw [← hfb]; omega)
        have hfr : 0 ≤ gc1 0 ∧ gc1 0 ≤ 121 := by omega
        refine rb_istore_n hV (L2 := [some (.inr (some 49)), some (.inl 1), some (.inl 0), some (.inl v1), none, none]) dX10_command_270 rfl (Nat.le_of_ble_eq_true rfl) rfl ?_
        refine rb_iload_n hV dX10_command_271 rfl rfl ?_
        refine rb_iconst hV dX10_command_272 ?_
        refine rb_icmp_ne hV (tgt := 286) dX10_command_273 (by decide) ⟨(by unfold ab_r at *; omega), (by unfold ab_r at *; omega)⟩ (fun _ => ?_) (fun z => absurd z (by decide))
        refine rb_iconst hV dX10_command_286 ?_
        refine rb_istore hV (L2 := [some (.inr (some 49)), some (.inl 1), some (.inl 0), some (.inl v1), some (.inl 0), none]) dX10_command_287 (Nat.le_of_ble_eq_true rfl) rfl ?_
        refine rb_iload_n hV dX10_command_289 rfl rfl ?_
        refine rb_iconst hV dX10_command_290 ?_
        refine rb_icmp_ne hV (tgt := 305) dX10_command_291 (by decide) ⟨(by unfold ab_r at *; omega), (by unfold ab_r at *; omega)⟩ (fun _ => ?_) (fun z => absurd z (by decide))
        refine rb_iconst hV dX10_command_305 ?_
        refine rb_istore hV (L2 := [some (.inr (some 49)), some (.inl 1), some (.inl 0), some (.inl v1), some (.inl 0), some (.inl 0)]) dX10_command_306 (Nat.le_of_ble_eq_true rfl) rfl ?_
        refine rb_aload_n hV dX10_command_308 rfl rfl ?_
        refine rb_get hV (v := .inl (gc1 0)) dX10_command_309 ⟨RX10, TX10, 24, rfl, (Nat.le_of_ble_eq_true rfl), lf_X10_100⟩ (gw_49 _) rfl ?_
        refine rb_if_ge hV (tgt := 336) dX10_command_312 (by decide) (by unfold ab_r at *; omega) (fun c312 => ?_) (fun c312 => absurd c312 (by omega))
        refine rb_aload_n hV dX10_command_336 rfl rfl ?_
        refine rb_get hV (v := .inl (gc1 0)) dX10_command_337 ⟨RX10, TX10, 24, rfl, (Nat.le_of_ble_eq_true rfl), lf_X10_100⟩ (gw_49 _) rfl ?_
        refine rb_if_lt hV (tgt := 351) dX10_command_340 (by decide) (by unfold ab_r at *; omega) (fun c340 => absurd c340 (by omega)) (fun c340 => ?_)
        refine rb_bipush hV dX10_command_343 (by decide) ?_
        refine rb_aload_n hV dX10_command_345 rfl rfl ?_
        refine rb_get hV (v := .inl (gc1 0)) dX10_command_346 ⟨RX10, TX10, 24, rfl, (Nat.le_of_ble_eq_true rfl), lf_X10_100⟩ (gw_49 _) rfl ?_
        refine rb_isub hV dX10_command_349 ?_
        refine rb_ret hV (r := some (.inl ((-100) - (gc1 0)))) dX10_command_350 rfl ⟨(Nat.le_of_ble_eq_true rfl), (Nat.le_of_ble_eq_true rfl)⟩ trivial ?_
        exact ⟨_, _, _, Or.inl ⟨by rw [hP]; omega, by rw [hP], rfl, hx⟩⟩
      · have hQ1 : (prs (s 56) (s 121 0) 5 0 0 sub0 kd0 nu0) = prs (s 56) (s 121 0) 4 1 (fb 0 + 1) 1 kd0 nu0 := by
          have z := prs_0g (sub := sub0) (kd := kd0) (nu := nu0) hsb (by decide) (by rw [← hfb]; omega)
          rw [← hfb] at z
          exact z
        have hP : (prs (s 56) (s 121 0) 5 0 0 sub0 kd0 nu0).1 = gc1 0 := by
          rw [n3, hQ1]
          exact prs_1b (by decide) n2
        have hfr : 0 ≤ gc1 0 ∧ gc1 0 ≤ 121 := by omega
        refine rb_istore_n hV (L2 := [some (.inr (some 49)), some (.inl 1), some (.inl 0), some (.inl v1), none, none]) dX10_command_270 rfl (Nat.le_of_ble_eq_true rfl) rfl ?_
        refine rb_iload_n hV dX10_command_271 rfl rfl ?_
        refine rb_iconst hV dX10_command_272 ?_
        refine rb_icmp_ne hV (tgt := 286) dX10_command_273 (by decide) ⟨(by unfold ab_r at *; omega), (by unfold ab_r at *; omega)⟩ (fun _ => ?_) (fun z => absurd z (by decide))
        refine rb_iconst hV dX10_command_286 ?_
        refine rb_istore hV (L2 := [some (.inr (some 49)), some (.inl 1), some (.inl 0), some (.inl v1), some (.inl 0), none]) dX10_command_287 (Nat.le_of_ble_eq_true rfl) rfl ?_
        refine rb_iload_n hV dX10_command_289 rfl rfl ?_
        refine rb_iconst hV dX10_command_290 ?_
        refine rb_icmp_ne hV (tgt := 305) dX10_command_291 (by decide) ⟨(by unfold ab_r at *; omega), (by unfold ab_r at *; omega)⟩ (fun _ => ?_) (fun z => absurd z (by decide))
        refine rb_iconst hV dX10_command_305 ?_
        refine rb_istore hV (L2 := [some (.inr (some 49)), some (.inl 1), some (.inl 0), some (.inl v1), some (.inl 0), some (.inl 0)]) dX10_command_306 (Nat.le_of_ble_eq_true rfl) rfl ?_
        refine rb_aload_n hV dX10_command_308 rfl rfl ?_
        refine rb_get hV (v := .inl (gc1 0)) dX10_command_309 ⟨RX10, TX10, 24, rfl, (Nat.le_of_ble_eq_true rfl), lf_X10_100⟩ (gw_49 _) rfl ?_
        refine rb_if_ge hV (tgt := 336) dX10_command_312 (by decide) (by unfold ab_r at *; omega) (fun c312 => ?_) (fun c312 => absurd c312 (by omega))
        refine rb_aload_n hV dX10_command_336 rfl rfl ?_
        refine rb_get hV (v := .inl (gc1 0)) dX10_command_337 ⟨RX10, TX10, 24, rfl, (Nat.le_of_ble_eq_true rfl), lf_X10_100⟩ (gw_49 _) rfl ?_
        refine rb_if_lt hV (tgt := 351) dX10_command_340 (by decide) (by unfold ab_r at *; omega) (fun c340 => absurd c340 (by omega)) (fun c340 => ?_)
        refine rb_bipush hV dX10_command_343 (by decide) ?_
        refine rb_aload_n hV dX10_command_345 rfl rfl ?_
        refine rb_get hV (v := .inl (gc1 0)) dX10_command_346 ⟨RX10, TX10, 24, rfl, (Nat.le_of_ble_eq_true rfl), lf_X10_100⟩ (gw_49 _) rfl ?_
        refine rb_isub hV dX10_command_349 ?_
        refine rb_ret hV (r := some (.inl ((-100) - (gc1 0)))) dX10_command_350 rfl ⟨(Nat.le_of_ble_eq_true rfl), (Nat.le_of_ble_eq_true rfl)⟩ trivial ?_
        exact ⟨_, _, _, Or.inl ⟨by rw [hP]; omega, by rw [hP], rfl, hx⟩⟩
      · have hQ1 : (prs (s 56) (s 121 0) 5 0 0 sub0 kd0 nu0) = prs (s 56) (s 121 0) 4 1 (fb 0 + 1) 1 kd0 nu0 := by
          have z := prs_0g (sub := sub0) (kd := kd0) (nu := nu0) hsb (by decide) (by rw [← hfb]; omega)
          rw [← hfb] at z
          exact z
        have hm2 := n2
        have hm3 := n3
        have hm5 := n5
        refine rb_istore_n hV (L2 := [some (.inr (some 49)), some (.inl 1), some (.inl 0), some (.inl v1), none, none]) dX10_command_270 rfl (Nat.le_of_ble_eq_true rfl) rfl ?_
        refine rb_iload_n hV dX10_command_271 rfl rfl ?_
        refine rb_iconst hV dX10_command_272 ?_
        refine rb_icmp_ne hV (tgt := 286) dX10_command_273 (by decide) ⟨(by unfold ab_r at *; omega), (by unfold ab_r at *; omega)⟩ (fun _ => ?_) (fun z => absurd z (by decide))
        refine rb_iconst hV dX10_command_286 ?_
        refine rb_istore hV (L2 := [some (.inr (some 49)), some (.inl 1), some (.inl 0), some (.inl v1), some (.inl 0), none]) dX10_command_287 (Nat.le_of_ble_eq_true rfl) rfl ?_
        refine rb_iload_n hV dX10_command_289 rfl rfl ?_
        refine rb_iconst hV dX10_command_290 ?_
        refine rb_icmp_ne hV (tgt := 305) dX10_command_291 (by decide) ⟨(by unfold ab_r at *; omega), (by unfold ab_r at *; omega)⟩ (fun _ => ?_) (fun z => absurd z (by decide))
        refine rb_iconst hV dX10_command_305 ?_
        refine rb_istore hV (L2 := [some (.inr (some 49)), some (.inl 1), some (.inl 0), some (.inl v1), some (.inl 0), some (.inl 0)]) dX10_command_306 (Nat.le_of_ble_eq_true rfl) rfl ?_
        have hr1 : 0 ≤ v1 ∧ v1 ≤ 100 := by
          rw [hm3]
          exact hm2
        refine rb_aload_n hV dX10_command_308 rfl rfl ?_
        refine rb_get hV (v := .inl (gc1 0)) dX10_command_309 ⟨RX10, TX10, 24, rfl, (Nat.le_of_ble_eq_true rfl), lf_X10_100⟩ (gw_49 _) rfl ?_
        refine rb_if_ge hV (tgt := 336) dX10_command_312 (by decide) (by unfold ab_r at *; omega) (fun c312 => absurd c312 (by omega)) (fun c312 => ?_)
        refine rb_aload_n hV dX10_command_315 rfl rfl ?_
        refine rb_get hV (v := .inl (gb1 0)) dX10_command_316 ⟨RX10, TX10, 24, rfl, (Nat.le_of_ble_eq_true rfl), lf_X10_103⟩ (gw_49 _) rfl ?_
        refine rb_aload_n hV dX10_command_319 rfl rfl ?_
        refine rb_get hV (v := .inl (s 121 0)) dX10_command_320 ⟨RX10, TX10, 24, rfl, (Nat.le_of_ble_eq_true rfl), lf_X10_83⟩ (gw_49 _) rfl ?_
        refine rb_icmp_ge hV (tgt := 336) dX10_command_323 (by decide) ⟨(by unfold ab_r at *; omega), (by unfold ab_r at *; omega)⟩ (fun c323 => ?_) (fun c323 => ?_)
        · refine rb_aload_n hV dX10_command_336 rfl rfl ?_
          refine rb_get hV (v := .inl (gc1 0)) dX10_command_337 ⟨RX10, TX10, 24, rfl, (Nat.le_of_ble_eq_true rfl), lf_X10_100⟩ (gw_49 _) rfl ?_
          refine rb_if_lt hV (tgt := 351) dX10_command_340 (by decide) (by unfold ab_r at *; omega) (fun c340 => ?_) (fun c340 => absurd c340 (by omega))
          refine rb_iload_n hV dX10_command_351 rfl rfl ?_
          refine rb_if_ne hV (tgt := 364) dX10_command_352 (by decide) (by unfold ab_r at *; omega) (fun _ => ?_) (fun z => absurd z (by decide))
          refine rb_iload_n hV dX10_command_364 rfl rfl ?_
          refine rb_iconst hV dX10_command_365 ?_
          refine rb_icmp_ne hV (tgt := 378) dX10_command_366 (by decide) ⟨(by unfold ab_r at *; omega), (by unfold ab_r at *; omega)⟩ (fun z => absurd z (by decide)) (fun _ => ?_)
          refine rb_aload_n hV dX10_command_369 rfl rfl ?_
          refine rb_iload_n hV dX10_command_370 rfl rfl ?_
          refine rb_callV hV (rest := []) dX10_command_371 (c_X10_setHang (ab_s (ab_s (ab_s s 122 ga1) 123 gb1) 124 gc1) v1 (by unfold ab_r; omega) (show MI (ab_s (ab_s (ab_s s 122 ga1) 123 gb1) 124 gc1) from hx)) lk_X10_137 rfl (Or.inl ⟨9, _, TX10, 24, gw_49 _, rfl⟩) rfl ⟨rfl, rfl, (Nat.le_of_ble_eq_true rfl), (Nat.le_of_ble_eq_true rfl), (Nat.le_of_ble_eq_true rfl), (Nat.le_of_ble_eq_true rfl)⟩ (Nat.le_of_ble_eq_true rfl) (fun r9 h9 p9 => ?_)
          obtain ⟨_, s2, rfl, rfl, hmi, hbest, hkeep⟩ := p9.resolve_left (fun q => q.1 (by omega))
          show V 374 [some (.inr (some 49)), some (.inl 1), some (.inl 0), some (.inl v1), some (.inl 0), some (.inl 0)] [.inl (s 118 0)] (WW s2) 0 0
          refine rb_pop hV dX10_command_374 ?_
          refine rb_goto hV (tgt := 403) dX10_command_375 (by decide) ?_
          refine rb_aload_n hV dX10_command_403 rfl rfl ?_
          refine rb_get hV (v := .inl (s2 125 0)) dX10_command_404 ⟨RX10, TX10, 24, rfl, (Nat.le_of_ble_eq_true rfl), lf_X10_147⟩ (gw_49 _) rfl ?_
          refine rb_ret hV (r := some (.inl (s2 125 0))) dX10_command_407 rfl ⟨(Nat.le_of_ble_eq_true rfl), (Nat.le_of_ble_eq_true rfl)⟩ trivial ?_
          have hP : (prs (s 56) (s 121 0) 5 0 0 sub0 kd0 nu0) = (-1, 1, kd0, ab_u nu0 0 v1) := by
            rw [hQ1, hm3]
            exact prs_1e (by decide) hm2 (by rw [← hm5]; omega)
          rw [hP]
          refine ⟨_, _, _, Or.inr ⟨rfl, _, s2, Or.inr (Or.inl ⟨rfl, rfl⟩), rfl, rfl, hmi, hbest, hkeep⟩⟩
        · refine rb_aload_n hV dX10_command_326 rfl rfl ?_
          refine rb_aload_n hV dX10_command_327 rfl rfl ?_
          refine rb_get hV (v := .inl (gb1 0)) dX10_command_328 ⟨RX10, TX10, 24, rfl, (Nat.le_of_ble_eq_true rfl), lf_X10_103⟩ (gw_49 _) rfl ?_
          refine rb_iconst hV dX10_command_331 ?_
          refine rb_iadd hV dX10_command_332 ?_
          refine rb_put hV (C := RX10) (T := TX10) (N := 24) (ci := 9) (j := 14) dX10_command_333 rfl (Nat.le_of_ble_eq_true rfl) lf_X10_100 rfl (gw_49 _) (Nat.le_of_ble_eq_true rfl) (ft_X10_14 _) ((pw_49_14 _ _).trans (congrArg WW (ab_s_same _ 124 _ _))) ?_
          refine rb_aload_n hV dX10_command_336 rfl rfl ?_
          refine rb_get hV (v := .inl ((gb1 0) + 1)) dX10_command_337 ⟨RX10, TX10, 24, rfl, (Nat.le_of_ble_eq_true rfl), lf_X10_100⟩ (gw_49 _) rfl ?_
          refine rb_if_lt hV (tgt := 351) dX10_command_340 (by decide) (by unfold ab_r at *; omega) (fun c340 => absurd c340 (by omega)) (fun c340 => ?_)
          refine rb_bipush hV dX10_command_343 (by decide) ?_
          refine rb_aload_n hV dX10_command_345 rfl rfl ?_
          refine rb_get hV (v := .inl ((gb1 0) + 1)) dX10_command_346 ⟨RX10, TX10, 24, rfl, (Nat.le_of_ble_eq_true rfl), lf_X10_100⟩ (gw_49 _) rfl ?_
          refine rb_isub hV dX10_command_349 ?_
          refine rb_ret hV (r := some (.inl ((-100) - ((gb1 0) + 1)))) dX10_command_350 rfl ⟨(Nat.le_of_ble_eq_true rfl), (Nat.le_of_ble_eq_true rfl)⟩ trivial ?_
          have hP : (prs (s 56) (s 121 0) 5 0 0 sub0 kd0 nu0).1 = gb1 0 + 1 := by
            rw [hQ1, hm5]
            exact prs_1g (by decide) hm2 (by rw [← hm5]; omega)
          exact ⟨_, _, _, Or.inl ⟨by rw [hP]; omega, by rw [hP], rfl, hx⟩⟩
    · refine rb_iload_n hV dX10_command_201 rfl rfl ?_
      refine rb_iconst hV dX10_command_202 ?_
      refine rb_icmp_ne hV (tgt := 213) dX10_command_203 (by decide) ⟨(by unfold ab_r at *; omega), (by unfold ab_r at *; omega)⟩ (fun _ => ?_) (fun z => absurd z (by decide))
      refine rb_iconst hV dX10_command_213 ?_
      refine rb_istore_n hV (L2 := [some (.inr (some 49)), some (.inl 2), some (.inl 0), none, none, none]) dX10_command_214 rfl (Nat.le_of_ble_eq_true rfl) rfl ?_
      refine rb_aload_n hV dX10_command_215 rfl rfl ?_
      refine rb_iload_n hV dX10_command_216 rfl rfl ?_
      refine rb_if_ne hV (tgt := 225) dX10_command_217 (by decide) (by unfold ab_r at *; omega) (fun _ => ?_) (fun z => absurd z (by decide))
      refine rb_iload_n hV dX10_command_225 rfl rfl ?_
      refine rb_iconst hV dX10_command_226 ?_
      refine rb_icmp_ne hV (tgt := 234) dX10_command_227 (by decide) ⟨(by unfold ab_r at *; omega), (by unfold ab_r at *; omega)⟩ (fun _ => ?_) (fun z => absurd z (by decide))
      refine rb_iconst hV dX10_command_234 ?_
      refine rb_iload_n hV dX10_command_235 rfl rfl ?_
      refine rb_if_ne hV (tgt := 245) dX10_command_236 (by decide) (by unfold ab_r at *; omega) (fun _ => ?_) (fun z => absurd z (by decide))
      refine rb_iload_n hV dX10_command_245 rfl rfl ?_
      refine rb_iconst hV dX10_command_246 ?_
      refine rb_icmp_ne hV (tgt := 255) dX10_command_247 (by decide) ⟨(by unfold ab_r at *; omega), (by unfold ab_r at *; omega)⟩ (fun _ => ?_) (fun z => absurd z (by decide))
      refine rb_iload_n hV dX10_command_255 rfl rfl ?_
      refine rb_iconst hV dX10_command_256 ?_
      refine rb_icmp_ne hV (tgt := 265) dX10_command_257 (by decide) ⟨(by unfold ab_r at *; omega), (by unfold ab_r at *; omega)⟩ (fun z => absurd z (by decide)) (fun _ => ?_)
      refine rb_bipush hV dX10_command_260 (by decide) ?_
      refine rb_goto hV (tgt := 267) dX10_command_262 (by decide) ?_
      refine rb_callV hV (rest := []) dX10_command_267 (c_X10_number (ab_s (ab_s (ab_s s 122 fa) 123 fb) 124 f) 0 20 (show 0 ≤ (s 121 0) ∧ (s 121 0) ≤ 120 by omega) hx4 (show (f 0) = -1 by omega) (show 0 ≤ (fb 0) ∧ (fb 0) ≤ (s 121 0) by omega) (show 0 ≤ (fa 0) ∧ (fa 0) ≤ 121 by omega) (by omega) (by decide)) lk_X10_129 rfl (Or.inl ⟨9, _, TX10, 24, gw_49 _, rfl⟩) rfl ⟨rfl, rfl, (Nat.le_of_ble_eq_true rfl), (Nat.le_of_ble_eq_true rfl), (Nat.le_of_ble_eq_true rfl), (Nat.le_of_ble_eq_true rfl)⟩ (Nat.le_of_ble_eq_true rfl) (fun r9 h9 p9 => ?_)
      obtain ⟨v1, ga1, gb1, gc1, rfl, rfl, hvb1, hbb1, hnr1⟩ := p9
      replace hnr1 : NMR (s 56) (s 121 0) (fb 0) (tLo 2 nu0 0) (tHi 2) v1 (gb1 0) (gc1 0) := hnr1
      replace hbb1 : (gb1 0 ≤ s 121 0 ∧ 0 ≤ gb1 0) ∧ 0 ≤ ga1 0 ∧ ga1 0 ≤ 121 := hbb1
      refine rb_heq (b := (ab_s (ab_s (ab_s s 122 ga1) 123 gb1) 124 gc1)) ((congrArg (fun x => ab_s x 124 _) ((congrArg (fun x => ab_s x 123 _) ((ab_s_sw (by decide)).trans (congrArg (fun x => ab_s x 124 _) ((ab_s_sw (by decide)).trans (congrArg (fun x => ab_s x 123 _) (ab_s_same _ 122 _ _)))))).trans ((ab_s_sw (by decide)).trans (congrArg (fun x => ab_s x 124 _) (ab_s_same _ 123 _ _))))).trans (ab_s_same _ 124 _ _)) ?_
      show V 270 [some (.inr (some 49)), some (.inl 2), some (.inl 0), none, none, none] [.inl v1] (WW (ab_s (ab_s (ab_s s 122 ga1) 123 gb1) 124 gc1)) 0 0
      rcases hnr1 with ⟨n1, n2⟩ | ⟨n1, n2, n3⟩ | ⟨n1, n2, n3, n4, n5⟩
      · have hP : (prs (s 56) (s 121 0) 5 0 0 sub0 kd0 nu0).1 = gc1 0 := by
          rw [n2]
          exact prs_0e (by rw [hsb]; decide) (by rw [← hfb]; omega)
        have hfr : 0 ≤ gc1 0 ∧ gc1 0 ≤ 121 := by omega
        refine rb_istore_n hV (L2 := [some (.inr (some 49)), some (.inl 2), some (.inl 0), some (.inl v1), none, none]) dX10_command_270 rfl (Nat.le_of_ble_eq_true rfl) rfl ?_
        refine rb_iload_n hV dX10_command_271 rfl rfl ?_
        refine rb_iconst hV dX10_command_272 ?_
        refine rb_icmp_ne hV (tgt := 286) dX10_command_273 (by decide) ⟨(by unfold ab_r at *; omega), (by unfold ab_r at *; omega)⟩ (fun _ => ?_) (fun z => absurd z (by decide))
        refine rb_iconst hV dX10_command_286 ?_
        refine rb_istore hV (L2 := [some (.inr (some 49)), some (.inl 2), some (.inl 0), some (.inl v1), some (.inl 0), none]) dX10_command_287 (Nat.le_of_ble_eq_true rfl) rfl ?_
        refine rb_iload_n hV dX10_command_289 rfl rfl ?_
        refine rb_iconst hV dX10_command_290 ?_
        refine rb_icmp_ne hV (tgt := 305) dX10_command_291 (by decide) ⟨(by unfold ab_r at *; omega), (by unfold ab_r at *; omega)⟩ (fun _ => ?_) (fun z => absurd z (by decide))
        refine rb_iconst hV dX10_command_305 ?_
        refine rb_istore hV (L2 := [some (.inr (some 49)), some (.inl 2), some (.inl 0), some (.inl v1), some (.inl 0), some (.inl 0)]) dX10_command_306 (Nat.le_of_ble_eq_true rfl) rfl ?_
        refine rb_aload_n hV dX10_command_308 rfl rfl ?_
        refine rb_get hV (v := .inl (gc1 0)) dX10_command_309 ⟨RX10, TX10, 24, rfl, (Nat.le_of_ble_eq_true rfl), lf_X10_100⟩ (gw_49 _) rfl ?_
        refine rb_if_ge hV (tgt := 336) dX10_command_312 (by decide) (by unfold ab_r at *; omega) (fun c312 => ?_) (fun c312 => absurd c312 (by omega))
        refine rb_aload_n hV dX10_command_336 rfl rfl ?_
        refine rb_get hV (v := .inl (gc1 0)) dX10_command_337 ⟨RX10, TX10, 24, rfl, (Nat.le_of_ble_eq_true rfl), lf_X10_100⟩ (gw_49 _) rfl ?_
        refine rb_if_lt hV (tgt := 351) dX10_command_340 (by decide) (by unfold ab_r at *; omega) (fun c340 => absurd c340 (by omega)) (fun c340 => ?_)
        refine rb_bipush hV dX10_command_343 (by decide) ?_
        refine rb_aload_n hV dX10_command_345 rfl rfl ?_
        refine rb_get hV (v := .inl (gc1 0)) dX10_command_346 ⟨RX10, TX10, 24, rfl, (Nat.le_of_ble_eq_true rfl), lf_X10_100⟩ (gw_49 _) rfl ?_
        refine rb_isub hV dX10_command_349 ?_
        refine rb_ret hV (r := some (.inl ((-100) - (gc1 0)))) dX10_command_350 rfl ⟨(Nat.le_of_ble_eq_true rfl), (Nat.le_of_ble_eq_true rfl)⟩ trivial ?_
        exact ⟨_, _, _, Or.inl ⟨by rw [hP]; omega, by rw [hP], rfl, hx⟩⟩
      · have hQ1 : (prs (s 56) (s 121 0) 5 0 0 sub0 kd0 nu0) = prs (s 56) (s 121 0) 4 1 (fb 0 + 1) 2 kd0 nu0 := by
          have z := prs_0g (sub := sub0) (kd := kd0) (nu := nu0) hsb (by decide) (by rw [← hfb]; omega)
          rw [← hfb] at z
          exact z
        have hP : (prs (s 56) (s 121 0) 5 0 0 sub0 kd0 nu0).1 = gc1 0 := by
          rw [n3, hQ1]
          exact prs_1b (by decide) n2
        have hfr : 0 ≤ gc1 0 ∧ gc1 0 ≤ 121 := by omega
        refine rb_istore_n hV (L2 := [some (.inr (some 49)), some (.inl 2), some (.inl 0), some (.inl v1), none, none]) dX10_command_270 rfl (Nat.le_of_ble_eq_true rfl) rfl ?_
        refine rb_iload_n hV dX10_command_271 rfl rfl ?_
        refine rb_iconst hV dX10_command_272 ?_
        refine rb_icmp_ne hV (tgt := 286) dX10_command_273 (by decide) ⟨(by unfold ab_r at *; omega), (by unfold ab_r at *; omega)⟩ (fun _ => ?_) (fun z => absurd z (by decide))
        refine rb_iconst hV dX10_command_286 ?_
        refine rb_istore hV (L2 := [some (.inr (some 49)), some (.inl 2), some (.inl 0), some (.inl v1), some (.inl 0), none]) dX10_command_287 (Nat.le_of_ble_eq_true rfl) rfl ?_
        refine rb_iload_n hV dX10_command_289 rfl rfl ?_
        refine rb_iconst hV dX10_command_290 ?_
        refine rb_icmp_ne hV (tgt := 305) dX10_command_291 (by decide) ⟨(by unfold ab_r at *; omega), (by unfold ab_r at *; omega)⟩ (fun _ => ?_) (fun z => absurd z (by decide))
        refine rb_iconst hV dX10_command_305 ?_
        refine rb_istore hV (L2 := [some (.inr (some 49)), some (.inl 2), some (.inl 0), some (.inl v1), some (.inl 0), some (.inl 0)]) dX10_command_306 (Nat.le_of_ble_eq_true rfl) rfl ?_
        refine rb_aload_n hV dX10_command_308 rfl rfl ?_
        refine rb_get hV (v := .inl (gc1 0)) dX10_command_309 ⟨RX10, TX10, 24, rfl, (Nat.le_of_ble_eq_true rfl), lf_X10_100⟩ (gw_49 _) rfl ?_
        refine rb_if_ge hV (tgt := 336) dX10_command_312 (by decide) (by unfold ab_r at *; omega) (fun c312 => ?_) (fun c312 => absurd c312 (by omega))
        refine rb_aload_n hV dX10_command_336 rfl rfl ?_
        refine rb_get hV (v := .inl (gc1 0)) dX10_command_337 ⟨RX10, TX10, 24, rfl, (Nat.le_of_ble_eq_true rfl), lf_X10_100⟩ (gw_49 _) rfl ?_
        refine rb_if_lt hV (tgt := 351) dX10_command_340 (by decide) (by unfold ab_r at *; omega) (fun c340 => absurd c340 (by omega)) (fun c340 => ?_)
        refine rb_bipush hV dX10_command_343 (by decide) ?_
        refine rb_aload_n hV dX10_command_345 rfl rfl ?_
        refine rb_get hV (v := .inl (gc1 0)) dX10_command_346 ⟨RX10, TX10, 24, rfl, (Nat.le_of_ble_eq_true rfl), lf_X10_100⟩ (gw_49 _) rfl ?_
        refine rb_isub hV dX10_command_349 ?_
        refine rb_ret hV (r := some (.inl ((-100) - (gc1 0)))) dX10_command_350 rfl ⟨(Nat.le_of_ble_eq_true rfl), (Nat.le_of_ble_eq_true rfl)⟩ trivial ?_
        exact ⟨_, _, _, Or.inl ⟨by rw [hP]; omega, by rw [hP], rfl, hx⟩⟩
      · have hQ1 : (prs (s 56) (s 121 0) 5 0 0 sub0 kd0 nu0) = prs (s 56) (s 121 0) 4 1 (fb 0 + 1) 2 kd0 nu0 := by
          have z := prs_0g (sub := sub0) (kd := kd0) (nu := nu0) hsb (by decide) (by rw [← hfb]; omega)
          rw [← hfb] at z
          exact z
        have hm2 := n2
        have hm3 := n3
        have hm5 := n5
        refine rb_istore_n hV (L2 := [some (.inr (some 49)), some (.inl 2), some (.inl 0), some (.inl v1), none, none]) dX10_command_270 rfl (Nat.le_of_ble_eq_true rfl) rfl ?_
        refine rb_iload_n hV dX10_command_271 rfl rfl ?_
        refine rb_iconst hV dX10_command_272 ?_
        refine rb_icmp_ne hV (tgt := 286) dX10_command_273 (by decide) ⟨(by unfold ab_r at *; omega), (by unfold ab_r at *; omega)⟩ (fun _ => ?_) (fun z => absurd z (by decide))
        refine rb_iconst hV dX10_command_286 ?_
        refine rb_istore hV (L2 := [some (.inr (some 49)), some (.inl 2), some (.inl 0), some (.inl v1), some (.inl 0), none]) dX10_command_287 (Nat.le_of_ble_eq_true rfl) rfl ?_
        refine rb_iload_n hV dX10_command_289 rfl rfl ?_
        refine rb_iconst hV dX10_command_290 ?_
        refine rb_icmp_ne hV (tgt := 305) dX10_command_291 (by decide) ⟨(by unfold ab_r at *; omega), (by unfold ab_r at *; omega)⟩ (fun _ => ?_) (fun z => absurd z (by decide))
        refine rb_iconst hV dX10_command_305 ?_
        refine rb_istore hV (L2 := [some (.inr (some 49)), some (.inl 2), some (.inl 0), some (.inl v1), some (.inl 0), some (.inl 0)]) dX10_command_306 (Nat.le_of_ble_eq_true rfl) rfl ?_
        have hr1 : 0 ≤ v1 ∧ v1 ≤ 20 := by
          rw [hm3]
          exact hm2
        refine rb_aload_n hV dX10_command_308 rfl rfl ?_
        refine rb_get hV (v := .inl (gc1 0)) dX10_command_309 ⟨RX10, TX10, 24, rfl, (Nat.le_of_ble_eq_true rfl), lf_X10_100⟩ (gw_49 _) rfl ?_
        refine rb_if_ge hV (tgt := 336) dX10_command_312 (by decide) (by unfold ab_r at *; omega) (fun c312 => absurd c312 (by omega)) (fun c312 => ?_)
        refine rb_aload_n hV dX10_command_315 rfl rfl ?_
        refine rb_get hV (v := .inl (gb1 0)) dX10_command_316 ⟨RX10, TX10, 24, rfl, (Nat.le_of_ble_eq_true rfl), lf_X10_103⟩ (gw_49 _) rfl ?_
        refine rb_aload_n hV dX10_command_319 rfl rfl ?_
        refine rb_get hV (v := .inl (s 121 0)) dX10_command_320 ⟨RX10, TX10, 24, rfl, (Nat.le_of_ble_eq_true rfl), lf_X10_83⟩ (gw_49 _) rfl ?_
        refine rb_icmp_ge hV (tgt := 336) dX10_command_323 (by decide) ⟨(by unfold ab_r at *; omega), (by unfold ab_r at *; omega)⟩ (fun c323 => ?_) (fun c323 => ?_)
        · refine rb_aload_n hV dX10_command_336 rfl rfl ?_
          refine rb_get hV (v := .inl (gc1 0)) dX10_command_337 ⟨RX10, TX10, 24, rfl, (Nat.le_of_ble_eq_true rfl), lf_X10_100⟩ (gw_49 _) rfl ?_
          refine rb_if_lt hV (tgt := 351) dX10_command_340 (by decide) (by unfold ab_r at *; omega) (fun c340 => ?_) (fun c340 => absurd c340 (by omega))
          refine rb_iload_n hV dX10_command_351 rfl rfl ?_
          refine rb_if_ne hV (tgt := 364) dX10_command_352 (by decide) (by unfold ab_r at *; omega) (fun _ => ?_) (fun z => absurd z (by decide))
          refine rb_iload_n hV dX10_command_364 rfl rfl ?_
          refine rb_iconst hV dX10_command_365 ?_
          refine rb_icmp_ne hV (tgt := 378) dX10_command_366 (by decide) ⟨(by unfold ab_r at *; omega), (by unfold ab_r at *; omega)⟩ (fun _ => ?_) (fun z => absurd z (by decide))
          refine rb_iload_n hV dX10_command_378 rfl rfl ?_
          refine rb_iconst hV dX10_command_379 ?_
          refine rb_icmp_ne hV (tgt := 392) dX10_command_380 (by decide) ⟨(by unfold ab_r at *; omega), (by unfold ab_r at *; omega)⟩ (fun z => absurd z (by decide)) (fun _ => ?_)
          refine rb_aload_n hV dX10_command_383 rfl rfl ?_
          refine rb_iload_n hV dX10_command_384 rfl rfl ?_
          refine rb_callV hV (rest := []) dX10_command_385 (c_X10_setTolerance (ab_s (ab_s (ab_s s 122 ga1) 123 gb1) 124 gc1) v1 (by unfold ab_r; omega) (show MI (ab_s (ab_s (ab_s s 122 ga1) 123 gb1) 124 gc1) from hx)) lk_X10_140 rfl (Or.inl ⟨9, _, TX10, 24, gw_49 _, rfl⟩) rfl ⟨rfl, rfl, (Nat.le_of_ble_eq_true rfl), (Nat.le_of_ble_eq_true rfl), (Nat.le_of_ble_eq_true rfl), (Nat.le_of_ble_eq_true rfl)⟩ (Nat.le_of_ble_eq_true rfl) (fun r9 h9 p9 => ?_)
          obtain ⟨_, s2, rfl, rfl, hmi, hbest, hkeep⟩ := p9.resolve_left (fun q => q.1 (by omega))
          show V 388 [some (.inr (some 49)), some (.inl 2), some (.inl 0), some (.inl v1), some (.inl 0), some (.inl 0)] [.inl (s 119 0)] (WW s2) 0 0
          refine rb_pop hV dX10_command_388 ?_
          refine rb_goto hV (tgt := 403) dX10_command_389 (by decide) ?_
          refine rb_aload_n hV dX10_command_403 rfl rfl ?_
          refine rb_get hV (v := .inl (s2 125 0)) dX10_command_404 ⟨RX10, TX10, 24, rfl, (Nat.le_of_ble_eq_true rfl), lf_X10_147⟩ (gw_49 _) rfl ?_
          refine rb_ret hV (r := some (.inl (s2 125 0))) dX10_command_407 rfl ⟨(Nat.le_of_ble_eq_true rfl), (Nat.le_of_ble_eq_true rfl)⟩ trivial ?_
          have hP : (prs (s 56) (s 121 0) 5 0 0 sub0 kd0 nu0) = (-1, 2, kd0, ab_u nu0 0 v1) := by
            rw [hQ1, hm3]
            exact prs_1e (by decide) hm2 (by rw [← hm5]; omega)
          rw [hP]
          refine ⟨_, _, _, Or.inr ⟨rfl, _, s2, Or.inr (Or.inr (Or.inl ⟨rfl, rfl⟩)), rfl, rfl, hmi, hbest, hkeep⟩⟩
        · refine rb_aload_n hV dX10_command_326 rfl rfl ?_
          refine rb_aload_n hV dX10_command_327 rfl rfl ?_
          refine rb_get hV (v := .inl (gb1 0)) dX10_command_328 ⟨RX10, TX10, 24, rfl, (Nat.le_of_ble_eq_true rfl), lf_X10_103⟩ (gw_49 _) rfl ?_
          refine rb_iconst hV dX10_command_331 ?_
          refine rb_iadd hV dX10_command_332 ?_
          refine rb_put hV (C := RX10) (T := TX10) (N := 24) (ci := 9) (j := 14) dX10_command_333 rfl (Nat.le_of_ble_eq_true rfl) lf_X10_100 rfl (gw_49 _) (Nat.le_of_ble_eq_true rfl) (ft_X10_14 _) ((pw_49_14 _ _).trans (congrArg WW (ab_s_same _ 124 _ _))) ?_
          refine rb_aload_n hV dX10_command_336 rfl rfl ?_
          refine rb_get hV (v := .inl ((gb1 0) + 1)) dX10_command_337 ⟨RX10, TX10, 24, rfl, (Nat.le_of_ble_eq_true rfl), lf_X10_100⟩ (gw_49 _) rfl ?_
          refine rb_if_lt hV (tgt := 351) dX10_command_340 (by decide) (by unfold ab_r at *; omega) (fun c340 => absurd c340 (by omega)) (fun c340 => ?_)
          refine rb_bipush hV dX10_command_343 (by decide) ?_
          refine rb_aload_n hV dX10_command_345 rfl rfl ?_
          refine rb_get hV (v := .inl ((gb1 0) + 1)) dX10_command_346 ⟨RX10, TX10, 24, rfl, (Nat.le_of_ble_eq_true rfl), lf_X10_100⟩ (gw_49 _) rfl ?_
          refine rb_isub hV dX10_command_349 ?_
          refine rb_ret hV (r := some (.inl ((-100) - ((gb1 0) + 1)))) dX10_command_350 rfl ⟨(Nat.le_of_ble_eq_true rfl), (Nat.le_of_ble_eq_true rfl)⟩ trivial ?_
          have hP : (prs (s 56) (s 121 0) 5 0 0 sub0 kd0 nu0).1 = gb1 0 + 1 := by
            rw [hQ1, hm5]
            exact prs_1g (by decide) hm2 (by rw [← hm5]; omega)
          exact ⟨_, _, _, Or.inl ⟨by rw [hP]; omega, by rw [hP], rfl, hx⟩⟩
    · refine rb_iload_n hV dX10_command_201 rfl rfl ?_
      refine rb_iconst hV dX10_command_202 ?_
      refine rb_icmp_ne hV (tgt := 213) dX10_command_203 (by decide) ⟨(by unfold ab_r at *; omega), (by unfold ab_r at *; omega)⟩ (fun z => absurd z (by decide)) (fun _ => ?_)
      refine rb_aload_n hV dX10_command_206 rfl rfl ?_
      refine rb_callV hV (rest := []) dX10_command_207 (c_X10_kind (ab_s (ab_s (ab_s s 122 fa) 123 fb) 124 f) (show 0 ≤ (s 121 0) ∧ (s 121 0) ≤ 120 by omega) hx4 (show (f 0) = -1 by omega) (show 0 ≤ (fb 0) ∧ (fb 0) ≤ (s 121 0) by omega) (show 0 ≤ (fa 0) ∧ (fa 0) ≤ 121 by omega)) lk_X10_125 rfl (Or.inl ⟨9, _, TX10, 24, gw_49 _, rfl⟩) rfl ⟨rfl, rfl, (Nat.le_of_ble_eq_true rfl), (Nat.le_of_ble_eq_true rfl), (Nat.le_of_ble_eq_true rfl), (Nat.le_of_ble_eq_true rfl)⟩ (Nat.le_of_ble_eq_true rfl) (fun r9 h9 p9 => ?_)
      obtain ⟨v0, ga0, gb0, gc0, rfl, rfl, hvb0, hbb0, hkr0⟩ := p9
      replace hkr0 : KDR (s 56) (s 121 0) (fb 0) v0 (gb0 0) (gc0 0) := hkr0
      replace hbb0 : (gb0 0 ≤ s 121 0 ∧ 0 ≤ gb0 0) ∧ 0 ≤ ga0 0 ∧ ga0 0 ≤ 121 := hbb0
      refine rb_heq (b := (ab_s (ab_s (ab_s s 122 ga0) 123 gb0) 124 gc0)) ((congrArg (fun x => ab_s x 124 _) ((congrArg (fun x => ab_s x 123 _) ((ab_s_sw (by decide)).trans (congrArg (fun x => ab_s x 124 _) ((ab_s_sw (by decide)).trans (congrArg (fun x => ab_s x 123 _) (ab_s_same _ 122 _ _)))))).trans ((ab_s_sw (by decide)).trans (congrArg (fun x => ab_s x 124 _) (ab_s_same _ 123 _ _))))).trans (ab_s_same _ 124 _ _)) ?_
      show V 210 [some (.inr (some 49)), some (.inl 3), none, none, none, none] [.inl v0] (WW (ab_s (ab_s (ab_s s 122 ga0) 123 gb0) 124 gc0)) 0 0
      rcases hkr0 with ⟨n1, n2⟩ | ⟨n1, n2, n3⟩ | ⟨n1, n2, n3, n4, n5⟩
      · have hP : (prs (s 56) (s 121 0) 5 0 0 sub0 kd0 nu0).1 = gc0 0 := by rw [n2]; exact prs_0e (by rw [hsb]; decide) (by rw [← hfb]; omega)
        have hfr : 0 ≤ gc0 0 ∧ gc0 0 ≤ 121 := by omega
        refine rb_goto hV (tgt := 214) dX10_command_210 (by decide) ?_
        refine rb_istore_n hV (L2 := [some (.inr (some 49)), some (.inl 3), some (.inl v0), none, none, none]) dX10_command_214 rfl (Nat.le_of_ble_eq_true rfl) rfl ?_
        refine rb_aload_n hV dX10_command_215 rfl rfl ?_
        refine rb_iload_n hV dX10_command_216 rfl rfl ?_
        refine rb_if_ne hV (tgt := 225) dX10_command_217 (by decide) (by unfold ab_r at *; omega) (fun _ => ?_) (fun z => absurd z (by decide))
        refine rb_iload_n hV dX10_command_225 rfl rfl ?_
        refine rb_iconst hV dX10_command_226 ?_
        refine rb_icmp_ne hV (tgt := 234) dX10_command_227 (by decide) ⟨(by unfold ab_r at *; omega), (by unfold ab_r at *; omega)⟩ (fun z => absurd z (by decide)) (fun _ => ?_)
        refine rb_iconst hV dX10_command_230 ?_
        refine rb_goto hV (tgt := 235) dX10_command_231 (by decide) ?_
        refine rb_iload_n hV dX10_command_235 rfl rfl ?_
        refine rb_if_ne hV (tgt := 245) dX10_command_236 (by decide) (by unfold ab_r at *; omega) (fun _ => ?_) (fun z => absurd z (by decide))
        refine rb_iload_n hV dX10_command_245 rfl rfl ?_
        refine rb_iconst hV dX10_command_246 ?_
        refine rb_icmp_ne hV (tgt := 255) dX10_command_247 (by decide) ⟨(by unfold ab_r at *; omega), (by unfold ab_r at *; omega)⟩ (fun _ => ?_) (fun z => absurd z (by decide))
        refine rb_iload_n hV dX10_command_255 rfl rfl ?_
        refine rb_iconst hV dX10_command_256 ?_
        refine rb_icmp_ne hV (tgt := 265) dX10_command_257 (by decide) ⟨(by unfold ab_r at *; omega), (by unfold ab_r at *; omega)⟩ (fun _ => ?_) (fun z => absurd z (by decide))
        refine rb_bipush hV dX10_command_265 (by decide) ?_
        refine rb_callV hV (rest := []) dX10_command_267 (c_X10_number_n (ab_s (ab_s (ab_s s 122 ga0) 123 gb0) 124 gc0) 1 40 (show 0 ≤ (gc0 0) ∧ (gc0 0) ≤ 121 by omega) (show 0 ≤ (ga0 0) ∧ (ga0 0) ≤ 121 by omega) (show 0 ≤ (gb0 0) ∧ (gb0 0) ≤ 121 by omega)) lk_X10_129 rfl (Or.inl ⟨9, _, TX10, 24, gw_49 _, rfl⟩) rfl ⟨rfl, rfl, (Nat.le_of_ble_eq_true rfl), (Nat.le_of_ble_eq_true rfl), (Nat.le_of_ble_eq_true rfl), (Nat.le_of_ble_eq_true rfl)⟩ (Nat.le_of_ble_eq_true rfl) (fun r9 h9 p9 => ?_)
        obtain ⟨rfl, rfl⟩ := p9
        show V 270 [some (.inr (some 49)), some (.inl 3), some (.inl v0), none, none, none] [.inl 0] (WW (ab_s (ab_s (ab_s s 122 ga0) 123 gb0) 124 gc0)) 0 0
        refine rb_istore_n hV (L2 := [some (.inr (some 49)), some (.inl 3), some (.inl v0), some (.inl 0), none, none]) dX10_command_270 rfl (Nat.le_of_ble_eq_true rfl) rfl ?_
        refine rb_iload_n hV dX10_command_271 rfl rfl ?_
        refine rb_iconst hV dX10_command_272 ?_
        refine rb_icmp_ne hV (tgt := 286) dX10_command_273 (by decide) ⟨(by unfold ab_r at *; omega), (by unfold ab_r at *; omega)⟩ (fun z => absurd z (by decide)) (fun _ => ?_)
        refine rb_aload_n hV dX10_command_276 rfl rfl ?_
        refine rb_iload_n hV dX10_command_277 rfl rfl ?_
        refine rb_bipush hV dX10_command_278 (by decide) ?_
        refine rb_callV hV (rest := []) dX10_command_280 (c_X10_number_n (ab_s (ab_s (ab_s s 122 ga0) 123 gb0) 124 gc0) 0 40 (show 0 ≤ (gc0 0) ∧ (gc0 0) ≤ 121 by omega) (show 0 ≤ (ga0 0) ∧ (ga0 0) ≤ 121 by omega) (show 0 ≤ (gb0 0) ∧ (gb0 0) ≤ 121 by omega)) lk_X10_129 rfl (Or.inl ⟨9, _, TX10, 24, gw_49 _, rfl⟩) rfl ⟨rfl, rfl, (Nat.le_of_ble_eq_true rfl), (Nat.le_of_ble_eq_true rfl), (Nat.le_of_ble_eq_true rfl), (Nat.le_of_ble_eq_true rfl)⟩ (Nat.le_of_ble_eq_true rfl) (fun r9 h9 p9 => ?_)
        obtain ⟨rfl, rfl⟩ := p9
        show V 283 [some (.inr (some 49)), some (.inl 3), some (.inl v0), some (.inl 0), none, none] [.inl 0] (WW (ab_s (ab_s (ab_s s 122 ga0) 123 gb0) 124 gc0)) 0 0
        refine rb_goto hV (tgt := 287) dX10_command_283 (by decide) ?_
        refine rb_istore hV (L2 := [some (.inr (some 49)), some (.inl 3), some (.inl v0), some (.inl 0), some (.inl 0), none]) dX10_command_287 (Nat.le_of_ble_eq_true rfl) rfl ?_
        refine rb_iload_n hV dX10_command_289 rfl rfl ?_
        refine rb_iconst hV dX10_command_290 ?_
        refine rb_icmp_ne hV (tgt := 305) dX10_command_291 (by decide) ⟨(by unfold ab_r at *; omega), (by unfold ab_r at *; omega)⟩ (fun z => absurd z (by decide)) (fun _ => ?_)
        refine rb_aload_n hV dX10_command_294 rfl rfl ?_
        refine rb_iload hV dX10_command_295 rfl ?_
        refine rb_bipush hV dX10_command_297 (by decide) ?_
        refine rb_callV hV (rest := []) dX10_command_299 (c_X10_number_n (ab_s (ab_s (ab_s s 122 ga0) 123 gb0) 124 gc0) 0 40 (show 0 ≤ (gc0 0) ∧ (gc0 0) ≤ 121 by omega) (show 0 ≤ (ga0 0) ∧ (ga0 0) ≤ 121 by omega) (show 0 ≤ (gb0 0) ∧ (gb0 0) ≤ 121 by omega)) lk_X10_129 rfl (Or.inl ⟨9, _, TX10, 24, gw_49 _, rfl⟩) rfl ⟨rfl, rfl, (Nat.le_of_ble_eq_true rfl), (Nat.le_of_ble_eq_true rfl), (Nat.le_of_ble_eq_true rfl), (Nat.le_of_ble_eq_true rfl)⟩ (Nat.le_of_ble_eq_true rfl) (fun r9 h9 p9 => ?_)
        obtain ⟨rfl, rfl⟩ := p9
        show V 302 [some (.inr (some 49)), some (.inl 3), some (.inl v0), some (.inl 0), some (.inl 0), none] [.inl 0] (WW (ab_s (ab_s (ab_s s 122 ga0) 123 gb0) 124 gc0)) 0 0
        refine rb_goto hV (tgt := 306) dX10_command_302 (by decide) ?_
        refine rb_istore hV (L2 := [some (.inr (some 49)), some (.inl 3), some (.inl v0), some (.inl 0), some (.inl 0), some (.inl 0)]) dX10_command_306 (Nat.le_of_ble_eq_true rfl) rfl ?_
        refine rb_aload_n hV dX10_command_308 rfl rfl ?_
        refine rb_get hV (v := .inl (gc0 0)) dX10_command_309 ⟨RX10, TX10, 24, rfl, (Nat.le_of_ble_eq_true rfl), lf_X10_100⟩ (gw_49 _) rfl ?_
        refine rb_if_ge hV (tgt := 336) dX10_command_312 (by decide) (by unfold ab_r at *; omega) (fun c312 => ?_) (fun c312 => absurd c312 (by omega))
        refine rb_aload_n hV dX10_command_336 rfl rfl ?_
        refine rb_get hV (v := .inl (gc0 0)) dX10_command_337 ⟨RX10, TX10, 24, rfl, (Nat.le_of_ble_eq_true rfl), lf_X10_100⟩ (gw_49 _) rfl ?_
        refine rb_if_lt hV (tgt := 351) dX10_command_340 (by decide) (by unfold ab_r at *; omega) (fun c340 => absurd c340 (by omega)) (fun c340 => ?_)
        refine rb_bipush hV dX10_command_343 (by decide) ?_
        refine rb_aload_n hV dX10_command_345 rfl rfl ?_
        refine rb_get hV (v := .inl (gc0 0)) dX10_command_346 ⟨RX10, TX10, 24, rfl, (Nat.le_of_ble_eq_true rfl), lf_X10_100⟩ (gw_49 _) rfl ?_
        refine rb_isub hV dX10_command_349 ?_
        refine rb_ret hV (r := some (.inl ((-100) - (gc0 0)))) dX10_command_350 rfl ⟨(Nat.le_of_ble_eq_true rfl), (Nat.le_of_ble_eq_true rfl)⟩ trivial ?_
        exact ⟨_, _, _, Or.inl ⟨by rw [hP]; omega, by rw [hP], rfl, hx⟩⟩
      · have hQ1 : (prs (s 56) (s 121 0) 5 0 0 sub0 kd0 nu0) = prs (s 56) (s 121 0) 4 1 (fb 0 + 1) 3 kd0 nu0 := by
          have z := prs_0g (sub := sub0) (kd := kd0) (nu := nu0) hsb (by decide) (by rw [← hfb]; omega)
          rw [← hfb] at z
          exact z
        have hP : (prs (s 56) (s 121 0) 5 0 0 sub0 kd0 nu0).1 = gc0 0 := by rw [n3, hQ1]; exact prs_kb n2
        have hfr : 0 ≤ gc0 0 ∧ gc0 0 ≤ 121 := by omega
        refine rb_goto hV (tgt := 214) dX10_command_210 (by decide) ?_
        refine rb_istore_n hV (L2 := [some (.inr (some 49)), some (.inl 3), some (.inl v0), none, none, none]) dX10_command_214 rfl (Nat.le_of_ble_eq_true rfl) rfl ?_
        refine rb_aload_n hV dX10_command_215 rfl rfl ?_
        refine rb_iload_n hV dX10_command_216 rfl rfl ?_
        refine rb_if_ne hV (tgt := 225) dX10_command_217 (by decide) (by unfold ab_r at *; omega) (fun _ => ?_) (fun z => absurd z (by decide))
        refine rb_iload_n hV dX10_command_225 rfl rfl ?_
        refine rb_iconst hV dX10_command_226 ?_
        refine rb_icmp_ne hV (tgt := 234) dX10_command_227 (by decide) ⟨(by unfold ab_r at *; omega), (by unfold ab_r at *; omega)⟩ (fun z => absurd z (by decide)) (fun _ => ?_)
        refine rb_iconst hV dX10_command_230 ?_
        refine rb_goto hV (tgt := 235) dX10_command_231 (by decide) ?_
        refine rb_iload_n hV dX10_command_235 rfl rfl ?_
        refine rb_if_ne hV (tgt := 245) dX10_command_236 (by decide) (by unfold ab_r at *; omega) (fun _ => ?_) (fun z => absurd z (by decide))
        refine rb_iload_n hV dX10_command_245 rfl rfl ?_
        refine rb_iconst hV dX10_command_246 ?_
        refine rb_icmp_ne hV (tgt := 255) dX10_command_247 (by decide) ⟨(by unfold ab_r at *; omega), (by unfold ab_r at *; omega)⟩ (fun _ => ?_) (fun z => absurd z (by decide))
        refine rb_iload_n hV dX10_command_255 rfl rfl ?_
        refine rb_iconst hV dX10_command_256 ?_
        refine rb_icmp_ne hV (tgt := 265) dX10_command_257 (by decide) ⟨(by unfold ab_r at *; omega), (by unfold ab_r at *; omega)⟩ (fun _ => ?_) (fun z => absurd z (by decide))
        refine rb_bipush hV dX10_command_265 (by decide) ?_
        refine rb_callV hV (rest := []) dX10_command_267 (c_X10_number_n (ab_s (ab_s (ab_s s 122 ga0) 123 gb0) 124 gc0) 1 40 (show 0 ≤ (gc0 0) ∧ (gc0 0) ≤ 121 by omega) (show 0 ≤ (ga0 0) ∧ (ga0 0) ≤ 121 by omega) (show 0 ≤ (gb0 0) ∧ (gb0 0) ≤ 121 by omega)) lk_X10_129 rfl (Or.inl ⟨9, _, TX10, 24, gw_49 _, rfl⟩) rfl ⟨rfl, rfl, (Nat.le_of_ble_eq_true rfl), (Nat.le_of_ble_eq_true rfl), (Nat.le_of_ble_eq_true rfl), (Nat.le_of_ble_eq_true rfl)⟩ (Nat.le_of_ble_eq_true rfl) (fun r9 h9 p9 => ?_)
        obtain ⟨rfl, rfl⟩ := p9
        show V 270 [some (.inr (some 49)), some (.inl 3), some (.inl v0), none, none, none] [.inl 0] (WW (ab_s (ab_s (ab_s s 122 ga0) 123 gb0) 124 gc0)) 0 0
        refine rb_istore_n hV (L2 := [some (.inr (some 49)), some (.inl 3), some (.inl v0), some (.inl 0), none, none]) dX10_command_270 rfl (Nat.le_of_ble_eq_true rfl) rfl ?_
        refine rb_iload_n hV dX10_command_271 rfl rfl ?_
        refine rb_iconst hV dX10_command_272 ?_
        refine rb_icmp_ne hV (tgt := 286) dX10_command_273 (by decide) ⟨(by unfold ab_r at *; omega), (by unfold ab_r at *; omega)⟩ (fun z => absurd z (by decide)) (fun _ => ?_)
        refine rb_aload_n hV dX10_command_276 rfl rfl ?_
        refine rb_iload_n hV dX10_command_277 rfl rfl ?_
        refine rb_bipush hV dX10_command_278 (by decide) ?_
        refine rb_callV hV (rest := []) dX10_command_280 (c_X10_number_n (ab_s (ab_s (ab_s s 122 ga0) 123 gb0) 124 gc0) 0 40 (show 0 ≤ (gc0 0) ∧ (gc0 0) ≤ 121 by omega) (show 0 ≤ (ga0 0) ∧ (ga0 0) ≤ 121 by omega) (show 0 ≤ (gb0 0) ∧ (gb0 0) ≤ 121 by omega)) lk_X10_129 rfl (Or.inl ⟨9, _, TX10, 24, gw_49 _, rfl⟩) rfl ⟨rfl, rfl, (Nat.le_of_ble_eq_true rfl), (Nat.le_of_ble_eq_true rfl), (Nat.le_of_ble_eq_true rfl), (Nat.le_of_ble_eq_true rfl)⟩ (Nat.le_of_ble_eq_true rfl) (fun r9 h9 p9 => ?_)
        obtain ⟨rfl, rfl⟩ := p9
        show V 283 [some (.inr (some 49)), some (.inl 3), some (.inl v0), some (.inl 0), none, none] [.inl 0] (WW (ab_s (ab_s (ab_s s 122 ga0) 123 gb0) 124 gc0)) 0 0
        refine rb_goto hV (tgt := 287) dX10_command_283 (by decide) ?_
        refine rb_istore hV (L2 := [some (.inr (some 49)), some (.inl 3), some (.inl v0), some (.inl 0), some (.inl 0), none]) dX10_command_287 (Nat.le_of_ble_eq_true rfl) rfl ?_
        refine rb_iload_n hV dX10_command_289 rfl rfl ?_
        refine rb_iconst hV dX10_command_290 ?_
        refine rb_icmp_ne hV (tgt := 305) dX10_command_291 (by decide) ⟨(by unfold ab_r at *; omega), (by unfold ab_r at *; omega)⟩ (fun z => absurd z (by decide)) (fun _ => ?_)
        refine rb_aload_n hV dX10_command_294 rfl rfl ?_
        refine rb_iload hV dX10_command_295 rfl ?_
        refine rb_bipush hV dX10_command_297 (by decide) ?_
        refine rb_callV hV (rest := []) dX10_command_299 (c_X10_number_n (ab_s (ab_s (ab_s s 122 ga0) 123 gb0) 124 gc0) 0 40 (show 0 ≤ (gc0 0) ∧ (gc0 0) ≤ 121 by omega) (show 0 ≤ (ga0 0) ∧ (ga0 0) ≤ 121 by omega) (show 0 ≤ (gb0 0) ∧ (gb0 0) ≤ 121 by omega)) lk_X10_129 rfl (Or.inl ⟨9, _, TX10, 24, gw_49 _, rfl⟩) rfl ⟨rfl, rfl, (Nat.le_of_ble_eq_true rfl), (Nat.le_of_ble_eq_true rfl), (Nat.le_of_ble_eq_true rfl), (Nat.le_of_ble_eq_true rfl)⟩ (Nat.le_of_ble_eq_true rfl) (fun r9 h9 p9 => ?_)
        obtain ⟨rfl, rfl⟩ := p9
        show V 302 [some (.inr (some 49)), some (.inl 3), some (.inl v0), some (.inl 0), some (.inl 0), none] [.inl 0] (WW (ab_s (ab_s (ab_s s 122 ga0) 123 gb0) 124 gc0)) 0 0
        refine rb_goto hV (tgt := 306) dX10_command_302 (by decide) ?_
        refine rb_istore hV (L2 := [some (.inr (some 49)), some (.inl 3), some (.inl v0), some (.inl 0), some (.inl 0), some (.inl 0)]) dX10_command_306 (Nat.le_of_ble_eq_true rfl) rfl ?_
        refine rb_aload_n hV dX10_command_308 rfl rfl ?_
        refine rb_get hV (v := .inl (gc0 0)) dX10_command_309 ⟨RX10, TX10, 24, rfl, (Nat.le_of_ble_eq_true rfl), lf_X10_100⟩ (gw_49 _) rfl ?_
        refine rb_if_ge hV (tgt := 336) dX10_command_312 (by decide) (by unfold ab_r at *; omega) (fun c312 => ?_) (fun c312 => absurd c312 (by omega))
        refine rb_aload_n hV dX10_command_336 rfl rfl ?_
        refine rb_get hV (v := .inl (gc0 0)) dX10_command_337 ⟨RX10, TX10, 24, rfl, (Nat.le_of_ble_eq_true rfl), lf_X10_100⟩ (gw_49 _) rfl ?_
        refine rb_if_lt hV (tgt := 351) dX10_command_340 (by decide) (by unfold ab_r at *; omega) (fun c340 => absurd c340 (by omega)) (fun c340 => ?_)
        refine rb_bipush hV dX10_command_343 (by decide) ?_
        refine rb_aload_n hV dX10_command_345 rfl rfl ?_
        refine rb_get hV (v := .inl (gc0 0)) dX10_command_346 ⟨RX10, TX10, 24, rfl, (Nat.le_of_ble_eq_true rfl), lf_X10_100⟩ (gw_49 _) rfl ?_
        refine rb_isub hV dX10_command_349 ?_
        refine rb_ret hV (r := some (.inl ((-100) - (gc0 0)))) dX10_command_350 rfl ⟨(Nat.le_of_ble_eq_true rfl), (Nat.le_of_ble_eq_true rfl)⟩ trivial ?_
        exact ⟨_, _, _, Or.inl ⟨by rw [hP]; omega, by rw [hP], rfl, hx⟩⟩
      · have hQ1 : (prs (s 56) (s 121 0) 5 0 0 sub0 kd0 nu0) = prs (s 56) (s 121 0) 4 1 (fb 0 + 1) 3 kd0 nu0 := by
          have z := prs_0g (sub := sub0) (kd := kd0) (nu := nu0) hsb (by decide) (by rw [← hfb]; omega)
          rw [← hfb] at z
          exact z
        have hk2 := n2
        have hk3 := n3
        have hk5 := n5
        refine rb_goto hV (tgt := 214) dX10_command_210 (by decide) ?_
        refine rb_istore_n hV (L2 := [some (.inr (some 49)), some (.inl 3), some (.inl v0), none, none, none]) dX10_command_214 rfl (Nat.le_of_ble_eq_true rfl) rfl ?_
        refine rb_aload_n hV dX10_command_215 rfl rfl ?_
        refine rb_iload_n hV dX10_command_216 rfl rfl ?_
        refine rb_if_ne hV (tgt := 225) dX10_command_217 (by decide) (by unfold ab_r at *; omega) (fun _ => ?_) (fun z => absurd z (by decide))
        refine rb_iload_n hV dX10_command_225 rfl rfl ?_
        refine rb_iconst hV dX10_command_226 ?_
        refine rb_icmp_ne hV (tgt := 234) dX10_command_227 (by decide) ⟨(by unfold ab_r at *; omega), (by unfold ab_r at *; omega)⟩ (fun z => absurd z (by decide)) (fun _ => ?_)
        refine rb_iconst hV dX10_command_230 ?_
        refine rb_goto hV (tgt := 235) dX10_command_231 (by decide) ?_
        refine rb_iload_n hV dX10_command_235 rfl rfl ?_
        refine rb_if_ne hV (tgt := 245) dX10_command_236 (by decide) (by unfold ab_r at *; omega) (fun _ => ?_) (fun z => absurd z (by decide))
        refine rb_iload_n hV dX10_command_245 rfl rfl ?_
        refine rb_iconst hV dX10_command_246 ?_
        refine rb_icmp_ne hV (tgt := 255) dX10_command_247 (by decide) ⟨(by unfold ab_r at *; omega), (by unfold ab_r at *; omega)⟩ (fun _ => ?_) (fun z => absurd z (by decide))
        refine rb_iload_n hV dX10_command_255 rfl rfl ?_
        refine rb_iconst hV dX10_command_256 ?_
        refine rb_icmp_ne hV (tgt := 265) dX10_command_257 (by decide) ⟨(by unfold ab_r at *; omega), (by unfold ab_r at *; omega)⟩ (fun _ => ?_) (fun z => absurd z (by decide))
        refine rb_bipush hV dX10_command_265 (by decide) ?_
        refine rb_callV hV (rest := []) dX10_command_267 (c_X10_number (ab_s (ab_s (ab_s s 122 ga0) 123 gb0) 124 gc0) 1 40 (show 0 ≤ (s 121 0) ∧ (s 121 0) ≤ 120 by omega) hx4 (show (gc0 0) = -1 by omega) (show 0 ≤ (gb0 0) ∧ (gb0 0) ≤ (s 121 0) by omega) (show 0 ≤ (ga0 0) ∧ (ga0 0) ≤ 121 by omega) (by omega) (by decide)) lk_X10_129 rfl (Or.inl ⟨9, _, TX10, 24, gw_49 _, rfl⟩) rfl ⟨rfl, rfl, (Nat.le_of_ble_eq_true rfl), (Nat.le_of_ble_eq_true rfl), (Nat.le_of_ble_eq_true rfl), (Nat.le_of_ble_eq_true rfl)⟩ (Nat.le_of_ble_eq_true rfl) (fun r9 h9 p9 => ?_)
        obtain ⟨v1, ga1, gb1, gc1, rfl, rfl, hvb1, hbb1, hnr1⟩ := p9
        replace hnr1 : NMR (s 56) (s 121 0) (gb0 0) (tLo 3 nu0 (2 - 2)) (tHi 3) v1 (gb1 0) (gc1 0) := hnr1
        replace hbb1 : (gb1 0 ≤ s 121 0 ∧ 0 ≤ gb1 0) ∧ 0 ≤ ga1 0 ∧ ga1 0 ≤ 121 := hbb1
        refine rb_heq (b := (ab_s (ab_s (ab_s s 122 ga1) 123 gb1) 124 gc1)) ((congrArg (fun x => ab_s x 124 _) ((congrArg (fun x => ab_s x 123 _) ((ab_s_sw (by decide)).trans (congrArg (fun x => ab_s x 124 _) ((ab_s_sw (by decide)).trans (congrArg (fun x => ab_s x 123 _) (ab_s_same _ 122 _ _)))))).trans ((ab_s_sw (by decide)).trans (congrArg (fun x => ab_s x 124 _) (ab_s_same _ 123 _ _))))).trans (ab_s_same _ 124 _ _)) ?_
        show V 270 [some (.inr (some 49)), some (.inl 3), some (.inl v0), none, none, none] [.inl v1] (WW (ab_s (ab_s (ab_s s 122 ga1) 123 gb1) 124 gc1)) 0 0
        rcases hnr1 with ⟨n1, n2⟩ | ⟨n1, n2, n3⟩ | ⟨n1, n2, n3, n4, n5⟩
        · have hP : (prs (s 56) (s 121 0) 5 0 0 sub0 kd0 nu0).1 = gc1 0 := by
            rw [n2, hQ1]
            exact prs_ke hk2 (by rw [← hk5]; omega)
          have hfr : 0 ≤ gc1 0 ∧ gc1 0 ≤ 121 := by omega
          refine rb_istore_n hV (L2 := [some (.inr (some 49)), some (.inl 3), some (.inl v0), some (.inl v1), none, none]) dX10_command_270 rfl (Nat.le_of_ble_eq_true rfl) rfl ?_
          refine rb_iload_n hV dX10_command_271 rfl rfl ?_
          refine rb_iconst hV dX10_command_272 ?_
          refine rb_icmp_ne hV (tgt := 286) dX10_command_273 (by decide) ⟨(by unfold ab_r at *; omega), (by unfold ab_r at *; omega)⟩ (fun z => absurd z (by decide)) (fun _ => ?_)
          refine rb_aload_n hV dX10_command_276 rfl rfl ?_
          refine rb_iload_n hV dX10_command_277 rfl rfl ?_
          refine rb_bipush hV dX10_command_278 (by decide) ?_
          refine rb_callV hV (rest := []) dX10_command_280 (c_X10_number_n (ab_s (ab_s (ab_s s 122 ga1) 123 gb1) 124 gc1) v1 40 (show 0 ≤ (gc1 0) ∧ (gc1 0) ≤ 121 by omega) (show 0 ≤ (ga1 0) ∧ (ga1 0) ≤ 121 by omega) (show 0 ≤ (gb1 0) ∧ (gb1 0) ≤ 121 by omega)) lk_X10_129 rfl (Or.inl ⟨9, _, TX10, 24, gw_49 _, rfl⟩) rfl ⟨rfl, rfl, (Nat.le_of_ble_eq_true rfl), (Nat.le_of_ble_eq_true rfl), (Nat.le_of_ble_eq_true rfl), (Nat.le_of_ble_eq_true rfl)⟩ (Nat.le_of_ble_eq_true rfl) (fun r9 h9 p9 => ?_)
          obtain ⟨rfl, rfl⟩ := p9
          show V 283 [some (.inr (some 49)), some (.inl 3), some (.inl v0), some (.inl v1), none, none] [.inl 0] (WW (ab_s (ab_s (ab_s s 122 ga1) 123 gb1) 124 gc1)) 0 0
          refine rb_goto hV (tgt := 287) dX10_command_283 (by decide) ?_
          refine rb_istore hV (L2 := [some (.inr (some 49)), some (.inl 3), some (.inl v0), some (.inl v1), some (.inl 0), none]) dX10_command_287 (Nat.le_of_ble_eq_true rfl) rfl ?_
          refine rb_iload_n hV dX10_command_289 rfl rfl ?_
          refine rb_iconst hV dX10_command_290 ?_
          refine rb_icmp_ne hV (tgt := 305) dX10_command_291 (by decide) ⟨(by unfold ab_r at *; omega), (by unfold ab_r at *; omega)⟩ (fun z => absurd z (by decide)) (fun _ => ?_)
          refine rb_aload_n hV dX10_command_294 rfl rfl ?_
          refine rb_iload hV dX10_command_295 rfl ?_
          refine rb_bipush hV dX10_command_297 (by decide) ?_
          refine rb_callV hV (rest := []) dX10_command_299 (c_X10_number_n (ab_s (ab_s (ab_s s 122 ga1) 123 gb1) 124 gc1) 0 40 (show 0 ≤ (gc1 0) ∧ (gc1 0) ≤ 121 by omega) (show 0 ≤ (ga1 0) ∧ (ga1 0) ≤ 121 by omega) (show 0 ≤ (gb1 0) ∧ (gb1 0) ≤ 121 by omega)) lk_X10_129 rfl (Or.inl ⟨9, _, TX10, 24, gw_49 _, rfl⟩) rfl ⟨rfl, rfl, (Nat.le_of_ble_eq_true rfl), (Nat.le_of_ble_eq_true rfl), (Nat.le_of_ble_eq_true rfl), (Nat.le_of_ble_eq_true rfl)⟩ (Nat.le_of_ble_eq_true rfl) (fun r9 h9 p9 => ?_)
          obtain ⟨rfl, rfl⟩ := p9
          show V 302 [some (.inr (some 49)), some (.inl 3), some (.inl v0), some (.inl v1), some (.inl 0), none] [.inl 0] (WW (ab_s (ab_s (ab_s s 122 ga1) 123 gb1) 124 gc1)) 0 0
          refine rb_goto hV (tgt := 306) dX10_command_302 (by decide) ?_
          refine rb_istore hV (L2 := [some (.inr (some 49)), some (.inl 3), some (.inl v0), some (.inl v1), some (.inl 0), some (.inl 0)]) dX10_command_306 (Nat.le_of_ble_eq_true rfl) rfl ?_
          refine rb_aload_n hV dX10_command_308 rfl rfl ?_
          refine rb_get hV (v := .inl (gc1 0)) dX10_command_309 ⟨RX10, TX10, 24, rfl, (Nat.le_of_ble_eq_true rfl), lf_X10_100⟩ (gw_49 _) rfl ?_
          refine rb_if_ge hV (tgt := 336) dX10_command_312 (by decide) (by unfold ab_r at *; omega) (fun c312 => ?_) (fun c312 => absurd c312 (by omega))
          refine rb_aload_n hV dX10_command_336 rfl rfl ?_
          refine rb_get hV (v := .inl (gc1 0)) dX10_command_337 ⟨RX10, TX10, 24, rfl, (Nat.le_of_ble_eq_true rfl), lf_X10_100⟩ (gw_49 _) rfl ?_
          refine rb_if_lt hV (tgt := 351) dX10_command_340 (by decide) (by unfold ab_r at *; omega) (fun c340 => absurd c340 (by omega)) (fun c340 => ?_)
          refine rb_bipush hV dX10_command_343 (by decide) ?_
          refine rb_aload_n hV dX10_command_345 rfl rfl ?_
          refine rb_get hV (v := .inl (gc1 0)) dX10_command_346 ⟨RX10, TX10, 24, rfl, (Nat.le_of_ble_eq_true rfl), lf_X10_100⟩ (gw_49 _) rfl ?_
          refine rb_isub hV dX10_command_349 ?_
          refine rb_ret hV (r := some (.inl ((-100) - (gc1 0)))) dX10_command_350 rfl ⟨(Nat.le_of_ble_eq_true rfl), (Nat.le_of_ble_eq_true rfl)⟩ trivial ?_
          exact ⟨_, _, _, Or.inl ⟨by rw [hP]; omega, by rw [hP], rfl, hx⟩⟩
        · have hQ2 : (prs (s 56) (s 121 0) 5 0 0 sub0 kd0 nu0) = prs (s 56) (s 121 0) 3 2 (gb0 0 + 1) 3 v0 nu0 := by
            have z := hQ1.trans (prs_kg hk2 (by rw [← hk5]; omega))
            rw [← hk3, ← hk5] at z
            exact z
          have hP : (prs (s 56) (s 121 0) 5 0 0 sub0 kd0 nu0).1 = gc1 0 := by
            rw [n3, hQ2]
            exact prs_nb (by decide) n2
          have hfr : 0 ≤ gc1 0 ∧ gc1 0 ≤ 121 := by omega
          refine rb_istore_n hV (L2 := [some (.inr (some 49)), some (.inl 3), some (.inl v0), some (.inl v1), none, none]) dX10_command_270 rfl (Nat.le_of_ble_eq_true rfl) rfl ?_
          refine rb_iload_n hV dX10_command_271 rfl rfl ?_
          refine rb_iconst hV dX10_command_272 ?_
          refine rb_icmp_ne hV (tgt := 286) dX10_command_273 (by decide) ⟨(by unfold ab_r at *; omega), (by unfold ab_r at *; omega)⟩ (fun z => absurd z (by decide)) (fun _ => ?_)
          refine rb_aload_n hV dX10_command_276 rfl rfl ?_
          refine rb_iload_n hV dX10_command_277 rfl rfl ?_
          refine rb_bipush hV dX10_command_278 (by decide) ?_
          refine rb_callV hV (rest := []) dX10_command_280 (c_X10_number_n (ab_s (ab_s (ab_s s 122 ga1) 123 gb1) 124 gc1) v1 40 (show 0 ≤ (gc1 0) ∧ (gc1 0) ≤ 121 by omega) (show 0 ≤ (ga1 0) ∧ (ga1 0) ≤ 121 by omega) (show 0 ≤ (gb1 0) ∧ (gb1 0) ≤ 121 by omega)) lk_X10_129 rfl (Or.inl ⟨9, _, TX10, 24, gw_49 _, rfl⟩) rfl ⟨rfl, rfl, (Nat.le_of_ble_eq_true rfl), (Nat.le_of_ble_eq_true rfl), (Nat.le_of_ble_eq_true rfl), (Nat.le_of_ble_eq_true rfl)⟩ (Nat.le_of_ble_eq_true rfl) (fun r9 h9 p9 => ?_)
          obtain ⟨rfl, rfl⟩ := p9
          show V 283 [some (.inr (some 49)), some (.inl 3), some (.inl v0), some (.inl v1), none, none] [.inl 0] (WW (ab_s (ab_s (ab_s s 122 ga1) 123 gb1) 124 gc1)) 0 0
          refine rb_goto hV (tgt := 287) dX10_command_283 (by decide) ?_
          refine rb_istore hV (L2 := [some (.inr (some 49)), some (.inl 3), some (.inl v0), some (.inl v1), some (.inl 0), none]) dX10_command_287 (Nat.le_of_ble_eq_true rfl) rfl ?_
          refine rb_iload_n hV dX10_command_289 rfl rfl ?_
          refine rb_iconst hV dX10_command_290 ?_
          refine rb_icmp_ne hV (tgt := 305) dX10_command_291 (by decide) ⟨(by unfold ab_r at *; omega), (by unfold ab_r at *; omega)⟩ (fun z => absurd z (by decide)) (fun _ => ?_)
          refine rb_aload_n hV dX10_command_294 rfl rfl ?_
          refine rb_iload hV dX10_command_295 rfl ?_
          refine rb_bipush hV dX10_command_297 (by decide) ?_
          refine rb_callV hV (rest := []) dX10_command_299 (c_X10_number_n (ab_s (ab_s (ab_s s 122 ga1) 123 gb1) 124 gc1) 0 40 (show 0 ≤ (gc1 0) ∧ (gc1 0) ≤ 121 by omega) (show 0 ≤ (ga1 0) ∧ (ga1 0) ≤ 121 by omega) (show 0 ≤ (gb1 0) ∧ (gb1 0) ≤ 121 by omega)) lk_X10_129 rfl (Or.inl ⟨9, _, TX10, 24, gw_49 _, rfl⟩) rfl ⟨rfl, rfl, (Nat.le_of_ble_eq_true rfl), (Nat.le_of_ble_eq_true rfl), (Nat.le_of_ble_eq_true rfl), (Nat.le_of_ble_eq_true rfl)⟩ (Nat.le_of_ble_eq_true rfl) (fun r9 h9 p9 => ?_)
          obtain ⟨rfl, rfl⟩ := p9
          show V 302 [some (.inr (some 49)), some (.inl 3), some (.inl v0), some (.inl v1), some (.inl 0), none] [.inl 0] (WW (ab_s (ab_s (ab_s s 122 ga1) 123 gb1) 124 gc1)) 0 0
          refine rb_goto hV (tgt := 306) dX10_command_302 (by decide) ?_
          refine rb_istore hV (L2 := [some (.inr (some 49)), some (.inl 3), some (.inl v0), some (.inl v1), some (.inl 0), some (.inl 0)]) dX10_command_306 (Nat.le_of_ble_eq_true rfl) rfl ?_
          refine rb_aload_n hV dX10_command_308 rfl rfl ?_
          refine rb_get hV (v := .inl (gc1 0)) dX10_command_309 ⟨RX10, TX10, 24, rfl, (Nat.le_of_ble_eq_true rfl), lf_X10_100⟩ (gw_49 _) rfl ?_
          refine rb_if_ge hV (tgt := 336) dX10_command_312 (by decide) (by unfold ab_r at *; omega) (fun c312 => ?_) (fun c312 => absurd c312 (by omega))
          refine rb_aload_n hV dX10_command_336 rfl rfl ?_
          refine rb_get hV (v := .inl (gc1 0)) dX10_command_337 ⟨RX10, TX10, 24, rfl, (Nat.le_of_ble_eq_true rfl), lf_X10_100⟩ (gw_49 _) rfl ?_
          refine rb_if_lt hV (tgt := 351) dX10_command_340 (by decide) (by unfold ab_r at *; omega) (fun c340 => absurd c340 (by omega)) (fun c340 => ?_)
          refine rb_bipush hV dX10_command_343 (by decide) ?_
          refine rb_aload_n hV dX10_command_345 rfl rfl ?_
          refine rb_get hV (v := .inl (gc1 0)) dX10_command_346 ⟨RX10, TX10, 24, rfl, (Nat.le_of_ble_eq_true rfl), lf_X10_100⟩ (gw_49 _) rfl ?_
          refine rb_isub hV dX10_command_349 ?_
          refine rb_ret hV (r := some (.inl ((-100) - (gc1 0)))) dX10_command_350 rfl ⟨(Nat.le_of_ble_eq_true rfl), (Nat.le_of_ble_eq_true rfl)⟩ trivial ?_
          exact ⟨_, _, _, Or.inl ⟨by rw [hP]; omega, by rw [hP], rfl, hx⟩⟩
        · have hQ2 : (prs (s 56) (s 121 0) 5 0 0 sub0 kd0 nu0) = prs (s 56) (s 121 0) 3 2 (gb0 0 + 1) 3 v0 nu0 := by
            have z := hQ1.trans (prs_kg hk2 (by rw [← hk5]; omega))
            rw [← hk3, ← hk5] at z
            exact z
          have ha2 := n2
          have ha3 := n3
          have ha5 := n5
          refine rb_istore_n hV (L2 := [some (.inr (some 49)), some (.inl 3), some (.inl v0), some (.inl v1), none, none]) dX10_command_270 rfl (Nat.le_of_ble_eq_true rfl) rfl ?_
          have hr1 : 1 ≤ v1 ∧ v1 ≤ 40 := by
            rw [ha3]
            exact ha2
          refine rb_iload_n hV dX10_command_271 rfl rfl ?_
          refine rb_iconst hV dX10_command_272 ?_
          refine rb_icmp_ne hV (tgt := 286) dX10_command_273 (by decide) ⟨(by unfold ab_r at *; omega), (by unfold ab_r at *; omega)⟩ (fun z => absurd z (by decide)) (fun _ => ?_)
          refine rb_aload_n hV dX10_command_276 rfl rfl ?_
          refine rb_iload_n hV dX10_command_277 rfl rfl ?_
          refine rb_bipush hV dX10_command_278 (by decide) ?_
          refine rb_callV hV (rest := []) dX10_command_280 (c_X10_number (ab_s (ab_s (ab_s s 122 ga1) 123 gb1) 124 gc1) v1 40 (show 0 ≤ (s 121 0) ∧ (s 121 0) ≤ 120 by omega) hx4 (show (gc1 0) = -1 by omega) (show 0 ≤ (gb1 0) ∧ (gb1 0) ≤ (s 121 0) by omega) (show 0 ≤ (ga1 0) ∧ (ga1 0) ≤ 121 by omega) (by omega) (by decide)) lk_X10_129 rfl (Or.inl ⟨9, _, TX10, 24, gw_49 _, rfl⟩) rfl ⟨rfl, rfl, (Nat.le_of_ble_eq_true rfl), (Nat.le_of_ble_eq_true rfl), (Nat.le_of_ble_eq_true rfl), (Nat.le_of_ble_eq_true rfl)⟩ (Nat.le_of_ble_eq_true rfl) (fun r9 h9 p9 => ?_)
          obtain ⟨v2, ga2, gb2, gc2, rfl, rfl, hvb2, hbb2, hnr2⟩ := p9
          replace hnr2 : NMR (s 56) (s 121 0) (gb1 0) (tLo 3 (ab_u nu0 0 v1) (3 - 2)) (tHi 3) v2 (gb2 0) (gc2 0) := hnr2
          replace hbb2 : (gb2 0 ≤ s 121 0 ∧ 0 ≤ gb2 0) ∧ 0 ≤ ga2 0 ∧ ga2 0 ≤ 121 := hbb2
          refine rb_heq (b := (ab_s (ab_s (ab_s s 122 ga2) 123 gb2) 124 gc2)) ((congrArg (fun x => ab_s x 124 _) ((congrArg (fun x => ab_s x 123 _) ((ab_s_sw (by decide)).trans (congrArg (fun x => ab_s x 124 _) ((ab_s_sw (by decide)).trans (congrArg (fun x => ab_s x 123 _) (ab_s_same _ 122 _ _)))))).trans ((ab_s_sw (by decide)).trans (congrArg (fun x => ab_s x 124 _) (ab_s_same _ 123 _ _))))).trans (ab_s_same _ 124 _ _)) ?_
          show V 283 [some (.inr (some 49)), some (.inl 3), some (.inl v0), some (.inl v1), none, none] [.inl v2] (WW (ab_s (ab_s (ab_s s 122 ga2) 123 gb2) 124 gc2)) 0 0
          rcases hnr2 with ⟨n1, n2⟩ | ⟨n1, n2, n3⟩ | ⟨n1, n2, n3, n4, n5⟩
          · have hP : (prs (s 56) (s 121 0) 5 0 0 sub0 kd0 nu0).1 = gc2 0 := by
              rw [n2, hQ2, prs_ne (k := 2) (by decide) ha2 (by rw [← ha5]; omega)]
              show (if (2 : Int) < 4 then s 121 0 else -1) = s 121 0
              exact if_pos (by decide)
            have hfr : 0 ≤ gc2 0 ∧ gc2 0 ≤ 121 := by omega
            refine rb_goto hV (tgt := 287) dX10_command_283 (by decide) ?_
            refine rb_istore hV (L2 := [some (.inr (some 49)), some (.inl 3), some (.inl v0), some (.inl v1), some (.inl v2), none]) dX10_command_287 (Nat.le_of_ble_eq_true rfl) rfl ?_
            refine rb_iload_n hV dX10_command_289 rfl rfl ?_
            refine rb_iconst hV dX10_command_290 ?_
            refine rb_icmp_ne hV (tgt := 305) dX10_command_291 (by decide) ⟨(by unfold ab_r at *; omega), (by unfold ab_r at *; omega)⟩ (fun z => absurd z (by decide)) (fun _ => ?_)
            refine rb_aload_n hV dX10_command_294 rfl rfl ?_
            refine rb_iload hV dX10_command_295 rfl ?_
            refine rb_bipush hV dX10_command_297 (by decide) ?_
            refine rb_callV hV (rest := []) dX10_command_299 (c_X10_number_n (ab_s (ab_s (ab_s s 122 ga2) 123 gb2) 124 gc2) v2 40 (show 0 ≤ (gc2 0) ∧ (gc2 0) ≤ 121 by omega) (show 0 ≤ (ga2 0) ∧ (ga2 0) ≤ 121 by omega) (show 0 ≤ (gb2 0) ∧ (gb2 0) ≤ 121 by omega)) lk_X10_129 rfl (Or.inl ⟨9, _, TX10, 24, gw_49 _, rfl⟩) rfl ⟨rfl, rfl, (Nat.le_of_ble_eq_true rfl), (Nat.le_of_ble_eq_true rfl), (Nat.le_of_ble_eq_true rfl), (Nat.le_of_ble_eq_true rfl)⟩ (Nat.le_of_ble_eq_true rfl) (fun r9 h9 p9 => ?_)
            obtain ⟨rfl, rfl⟩ := p9
            show V 302 [some (.inr (some 49)), some (.inl 3), some (.inl v0), some (.inl v1), some (.inl v2), none] [.inl 0] (WW (ab_s (ab_s (ab_s s 122 ga2) 123 gb2) 124 gc2)) 0 0
            refine rb_goto hV (tgt := 306) dX10_command_302 (by decide) ?_
            refine rb_istore hV (L2 := [some (.inr (some 49)), some (.inl 3), some (.inl v0), some (.inl v1), some (.inl v2), some (.inl 0)]) dX10_command_306 (Nat.le_of_ble_eq_true rfl) rfl ?_
            refine rb_aload_n hV dX10_command_308 rfl rfl ?_
            refine rb_get hV (v := .inl (gc2 0)) dX10_command_309 ⟨RX10, TX10, 24, rfl, (Nat.le_of_ble_eq_true rfl), lf_X10_100⟩ (gw_49 _) rfl ?_
            refine rb_if_ge hV (tgt := 336) dX10_command_312 (by decide) (by unfold ab_r at *; omega) (fun c312 => ?_) (fun c312 => absurd c312 (by omega))
            refine rb_aload_n hV dX10_command_336 rfl rfl ?_
            refine rb_get hV (v := .inl (gc2 0)) dX10_command_337 ⟨RX10, TX10, 24, rfl, (Nat.le_of_ble_eq_true rfl), lf_X10_100⟩ (gw_49 _) rfl ?_
            refine rb_if_lt hV (tgt := 351) dX10_command_340 (by decide) (by unfold ab_r at *; omega) (fun c340 => absurd c340 (by omega)) (fun c340 => ?_)
            refine rb_bipush hV dX10_command_343 (by decide) ?_
            refine rb_aload_n hV dX10_command_345 rfl rfl ?_
            refine rb_get hV (v := .inl (gc2 0)) dX10_command_346 ⟨RX10, TX10, 24, rfl, (Nat.le_of_ble_eq_true rfl), lf_X10_100⟩ (gw_49 _) rfl ?_
            refine rb_isub hV dX10_command_349 ?_
            refine rb_ret hV (r := some (.inl ((-100) - (gc2 0)))) dX10_command_350 rfl ⟨(Nat.le_of_ble_eq_true rfl), (Nat.le_of_ble_eq_true rfl)⟩ trivial ?_
            exact ⟨_, _, _, Or.inl ⟨by rw [hP]; omega, by rw [hP], rfl, hx⟩⟩
          · have hQ3 : (prs (s 56) (s 121 0) 5 0 0 sub0 kd0 nu0) = prs (s 56) (s 121 0) 2 3 (gb1 0 + 1) 3 v0 (ab_u nu0 0 v1) := by
              have z := hQ2.trans (prs_ng (k := 2) (by decide) ha2 (by rw [← ha5]; omega))
              rw [← ha3, ← ha5] at z
              exact z
            have hP : (prs (s 56) (s 121 0) 5 0 0 sub0 kd0 nu0).1 = gc2 0 := by
              rw [n3, hQ3]
              exact prs_nb (by decide) n2
            have hfr : 0 ≤ gc2 0 ∧ gc2 0 ≤ 121 := by omega
            refine rb_goto hV (tgt := 287) dX10_command_283 (by decide) ?_
            refine rb_istore hV (L2 := [some (.inr (some 49)), some (.inl 3), some (.inl v0), some (.inl v1), some (.inl v2), none]) dX10_command_287 (Nat.le_of_ble_eq_true rfl) rfl ?_
            refine rb_iload_n hV dX10_command_289 rfl rfl ?_
            refine rb_iconst hV dX10_command_290 ?_
            refine rb_icmp_ne hV (tgt := 305) dX10_command_291 (by decide) ⟨(by unfold ab_r at *; omega), (by unfold ab_r at *; omega)⟩ (fun z => absurd z (by decide)) (fun _ => ?_)
            refine rb_aload_n hV dX10_command_294 rfl rfl ?_
            refine rb_iload hV dX10_command_295 rfl ?_
            refine rb_bipush hV dX10_command_297 (by decide) ?_
            refine rb_callV hV (rest := []) dX10_command_299 (c_X10_number_n (ab_s (ab_s (ab_s s 122 ga2) 123 gb2) 124 gc2) v2 40 (show 0 ≤ (gc2 0) ∧ (gc2 0) ≤ 121 by omega) (show 0 ≤ (ga2 0) ∧ (ga2 0) ≤ 121 by omega) (show 0 ≤ (gb2 0) ∧ (gb2 0) ≤ 121 by omega)) lk_X10_129 rfl (Or.inl ⟨9, _, TX10, 24, gw_49 _, rfl⟩) rfl ⟨rfl, rfl, (Nat.le_of_ble_eq_true rfl), (Nat.le_of_ble_eq_true rfl), (Nat.le_of_ble_eq_true rfl), (Nat.le_of_ble_eq_true rfl)⟩ (Nat.le_of_ble_eq_true rfl) (fun r9 h9 p9 => ?_)
            obtain ⟨rfl, rfl⟩ := p9
            show V 302 [some (.inr (some 49)), some (.inl 3), some (.inl v0), some (.inl v1), some (.inl v2), none] [.inl 0] (WW (ab_s (ab_s (ab_s s 122 ga2) 123 gb2) 124 gc2)) 0 0
            refine rb_goto hV (tgt := 306) dX10_command_302 (by decide) ?_
            refine rb_istore hV (L2 := [some (.inr (some 49)), some (.inl 3), some (.inl v0), some (.inl v1), some (.inl v2), some (.inl 0)]) dX10_command_306 (Nat.le_of_ble_eq_true rfl) rfl ?_
            refine rb_aload_n hV dX10_command_308 rfl rfl ?_
            refine rb_get hV (v := .inl (gc2 0)) dX10_command_309 ⟨RX10, TX10, 24, rfl, (Nat.le_of_ble_eq_true rfl), lf_X10_100⟩ (gw_49 _) rfl ?_
            refine rb_if_ge hV (tgt := 336) dX10_command_312 (by decide) (by unfold ab_r at *; omega) (fun c312 => ?_) (fun c312 => absurd c312 (by omega))
            refine rb_aload_n hV dX10_command_336 rfl rfl ?_
            refine rb_get hV (v := .inl (gc2 0)) dX10_command_337 ⟨RX10, TX10, 24, rfl, (Nat.le_of_ble_eq_true rfl), lf_X10_100⟩ (gw_49 _) rfl ?_
            refine rb_if_lt hV (tgt := 351) dX10_command_340 (by decide) (by unfold ab_r at *; omega) (fun c340 => absurd c340 (by omega)) (fun c340 => ?_)
            refine rb_bipush hV dX10_command_343 (by decide) ?_
            refine rb_aload_n hV dX10_command_345 rfl rfl ?_
            refine rb_get hV (v := .inl (gc2 0)) dX10_command_346 ⟨RX10, TX10, 24, rfl, (Nat.le_of_ble_eq_true rfl), lf_X10_100⟩ (gw_49 _) rfl ?_
            refine rb_isub hV dX10_command_349 ?_
            refine rb_ret hV (r := some (.inl ((-100) - (gc2 0)))) dX10_command_350 rfl ⟨(Nat.le_of_ble_eq_true rfl), (Nat.le_of_ble_eq_true rfl)⟩ trivial ?_
            exact ⟨_, _, _, Or.inl ⟨by rw [hP]; omega, by rw [hP], rfl, hx⟩⟩
          · have hQ3 : (prs (s 56) (s 121 0) 5 0 0 sub0 kd0 nu0) = prs (s 56) (s 121 0) 2 3 (gb1 0 + 1) 3 v0 (ab_u nu0 0 v1) := by
              have z := hQ2.trans (prs_ng (k := 2) (by decide) ha2 (by rw [← ha5]; omega))
              rw [← ha3, ← ha5] at z
              exact z
            have hb2 := n2
            have hb3 := n3
            have hb5 := n5
            refine rb_goto hV (tgt := 287) dX10_command_283 (by decide) ?_
            refine rb_istore hV (L2 := [some (.inr (some 49)), some (.inl 3), some (.inl v0), some (.inl v1), some (.inl v2), none]) dX10_command_287 (Nat.le_of_ble_eq_true rfl) rfl ?_
            have hr2 : v1 ≤ v2 ∧ v2 ≤ 40 := by
              rw [hb3]
              exact ⟨by have y := hb2.1; rw [show tLo 3 (ab_u nu0 0 v1) (3 - 2) = v1 from rfl] at y; exact y, hb2.2⟩
            refine rb_iload_n hV dX10_command_289 rfl rfl ?_
            refine rb_iconst hV dX10_command_290 ?_
            refine rb_icmp_ne hV (tgt := 305) dX10_command_291 (by decide) ⟨(by unfold ab_r at *; omega), (by unfold ab_r at *; omega)⟩ (fun z => absurd z (by decide)) (fun _ => ?_)
            refine rb_aload_n hV dX10_command_294 rfl rfl ?_
            refine rb_iload hV dX10_command_295 rfl ?_
            refine rb_bipush hV dX10_command_297 (by decide) ?_
            refine rb_callV hV (rest := []) dX10_command_299 (c_X10_number (ab_s (ab_s (ab_s s 122 ga2) 123 gb2) 124 gc2) v2 40 (show 0 ≤ (s 121 0) ∧ (s 121 0) ≤ 120 by omega) hx4 (show (gc2 0) = -1 by omega) (show 0 ≤ (gb2 0) ∧ (gb2 0) ≤ (s 121 0) by omega) (show 0 ≤ (ga2 0) ∧ (ga2 0) ≤ 121 by omega) (by omega) (by decide)) lk_X10_129 rfl (Or.inl ⟨9, _, TX10, 24, gw_49 _, rfl⟩) rfl ⟨rfl, rfl, (Nat.le_of_ble_eq_true rfl), (Nat.le_of_ble_eq_true rfl), (Nat.le_of_ble_eq_true rfl), (Nat.le_of_ble_eq_true rfl)⟩ (Nat.le_of_ble_eq_true rfl) (fun r9 h9 p9 => ?_)
            obtain ⟨v3, ga3, gb3, gc3, rfl, rfl, hvb3, hbb3, hnr3⟩ := p9
            replace hnr3 : NMR (s 56) (s 121 0) (gb2 0) (tLo 3 (ab_u (ab_u nu0 0 v1) 1 v2) (4 - 2)) (tHi 3) v3 (gb3 0) (gc3 0) := hnr3
            replace hbb3 : (gb3 0 ≤ s 121 0 ∧ 0 ≤ gb3 0) ∧ 0 ≤ ga3 0 ∧ ga3 0 ≤ 121 := hbb3
            refine rb_heq (b := (ab_s (ab_s (ab_s s 122 ga3) 123 gb3) 124 gc3)) ((congrArg (fun x => ab_s x 124 _) ((congrArg (fun x => ab_s x 123 _) ((ab_s_sw (by decide)).trans (congrArg (fun x => ab_s x 124 _) ((ab_s_sw (by decide)).trans (congrArg (fun x => ab_s x 123 _) (ab_s_same _ 122 _ _)))))).trans ((ab_s_sw (by decide)).trans (congrArg (fun x => ab_s x 124 _) (ab_s_same _ 123 _ _))))).trans (ab_s_same _ 124 _ _)) ?_
            show V 302 [some (.inr (some 49)), some (.inl 3), some (.inl v0), some (.inl v1), some (.inl v2), none] [.inl v3] (WW (ab_s (ab_s (ab_s s 122 ga3) 123 gb3) 124 gc3)) 0 0
            rcases hnr3 with ⟨n1, n2⟩ | ⟨n1, n2, n3⟩ | ⟨n1, n2, n3, n4, n5⟩
            · have hP : (prs (s 56) (s 121 0) 5 0 0 sub0 kd0 nu0).1 = gc3 0 := by
                rw [n2, hQ3, prs_ne (k := 3) (by decide) hb2 (by rw [← hb5]; omega)]
                show (if (3 : Int) < 4 then s 121 0 else -1) = s 121 0
                exact if_pos (by decide)
              have hfr : 0 ≤ gc3 0 ∧ gc3 0 ≤ 121 := by omega
              refine rb_goto hV (tgt := 306) dX10_command_302 (by decide) ?_
              refine rb_istore hV (L2 := [some (.inr (some 49)), some (.inl 3), some (.inl v0), some (.inl v1), some (.inl v2), some (.inl v3)]) dX10_command_306 (Nat.le_of_ble_eq_true rfl) rfl ?_
              refine rb_aload_n hV dX10_command_308 rfl rfl ?_
              refine rb_get hV (v := .inl (gc3 0)) dX10_command_309 ⟨RX10, TX10, 24, rfl, (Nat.le_of_ble_eq_true rfl), lf_X10_100⟩ (gw_49 _) rfl ?_
              refine rb_if_ge hV (tgt := 336) dX10_command_312 (by decide) (by unfold ab_r at *; omega) (fun c312 => ?_) (fun c312 => absurd c312 (by omega))
              refine rb_aload_n hV dX10_command_336 rfl rfl ?_
              refine rb_get hV (v := .inl (gc3 0)) dX10_command_337 ⟨RX10, TX10, 24, rfl, (Nat.le_of_ble_eq_true rfl), lf_X10_100⟩ (gw_49 _) rfl ?_
              refine rb_if_lt hV (tgt := 351) dX10_command_340 (by decide) (by unfold ab_r at *; omega) (fun c340 => absurd c340 (by omega)) (fun c340 => ?_)
              refine rb_bipush hV dX10_command_343 (by decide) ?_
              refine rb_aload_n hV dX10_command_345 rfl rfl ?_
              refine rb_get hV (v := .inl (gc3 0)) dX10_command_346 ⟨RX10, TX10, 24, rfl, (Nat.le_of_ble_eq_true rfl), lf_X10_100⟩ (gw_49 _) rfl ?_
              refine rb_isub hV dX10_command_349 ?_
              refine rb_ret hV (r := some (.inl ((-100) - (gc3 0)))) dX10_command_350 rfl ⟨(Nat.le_of_ble_eq_true rfl), (Nat.le_of_ble_eq_true rfl)⟩ trivial ?_
              exact ⟨_, _, _, Or.inl ⟨by rw [hP]; omega, by rw [hP], rfl, hx⟩⟩
            · have hQ4 : (prs (s 56) (s 121 0) 5 0 0 sub0 kd0 nu0) = prs (s 56) (s 121 0) 1 4 (gb2 0 + 1) 3 v0 (ab_u (ab_u nu0 0 v1) 1 v2) := by
                have z := hQ3.trans (prs_ng (k := 3) (by decide) hb2 (by rw [← hb5]; omega))
                rw [← hb3, ← hb5] at z
                exact z
              have hP : (prs (s 56) (s 121 0) 5 0 0 sub0 kd0 nu0).1 = gc3 0 := by
                rw [n3, hQ4]
                exact prs_nb (by decide) n2
              have hfr : 0 ≤ gc3 0 ∧ gc3 0 ≤ 121 := by omega
              refine rb_goto hV (tgt := 306) dX10_command_302 (by decide) ?_
              refine rb_istore hV (L2 := [some (.inr (some 49)), some (.inl 3), some (.inl v0), some (.inl v1), some (.inl v2), some (.inl v3)]) dX10_command_306 (Nat.le_of_ble_eq_true rfl) rfl ?_
              refine rb_aload_n hV dX10_command_308 rfl rfl ?_
              refine rb_get hV (v := .inl (gc3 0)) dX10_command_309 ⟨RX10, TX10, 24, rfl, (Nat.le_of_ble_eq_true rfl), lf_X10_100⟩ (gw_49 _) rfl ?_
              refine rb_if_ge hV (tgt := 336) dX10_command_312 (by decide) (by unfold ab_r at *; omega) (fun c312 => ?_) (fun c312 => absurd c312 (by omega))
              refine rb_aload_n hV dX10_command_336 rfl rfl ?_
              refine rb_get hV (v := .inl (gc3 0)) dX10_command_337 ⟨RX10, TX10, 24, rfl, (Nat.le_of_ble_eq_true rfl), lf_X10_100⟩ (gw_49 _) rfl ?_
              refine rb_if_lt hV (tgt := 351) dX10_command_340 (by decide) (by unfold ab_r at *; omega) (fun c340 => absurd c340 (by omega)) (fun c340 => ?_)
              refine rb_bipush hV dX10_command_343 (by decide) ?_
              refine rb_aload_n hV dX10_command_345 rfl rfl ?_
              refine rb_get hV (v := .inl (gc3 0)) dX10_command_346 ⟨RX10, TX10, 24, rfl, (Nat.le_of_ble_eq_true rfl), lf_X10_100⟩ (gw_49 _) rfl ?_
              refine rb_isub hV dX10_command_349 ?_
              refine rb_ret hV (r := some (.inl ((-100) - (gc3 0)))) dX10_command_350 rfl ⟨(Nat.le_of_ble_eq_true rfl), (Nat.le_of_ble_eq_true rfl)⟩ trivial ?_
              exact ⟨_, _, _, Or.inl ⟨by rw [hP]; omega, by rw [hP], rfl, hx⟩⟩
            · have hQ4 : (prs (s 56) (s 121 0) 5 0 0 sub0 kd0 nu0) = prs (s 56) (s 121 0) 1 4 (gb2 0 + 1) 3 v0 (ab_u (ab_u nu0 0 v1) 1 v2) := by
                have z := hQ3.trans (prs_ng (k := 3) (by decide) hb2 (by rw [← hb5]; omega))
                rw [← hb3, ← hb5] at z
                exact z
              have hc2 := n2
              have hc3 := n3
              have hc5 := n5
              refine rb_goto hV (tgt := 306) dX10_command_302 (by decide) ?_
              refine rb_istore hV (L2 := [some (.inr (some 49)), some (.inl 3), some (.inl v0), some (.inl v1), some (.inl v2), some (.inl v3)]) dX10_command_306 (Nat.le_of_ble_eq_true rfl) rfl ?_
              have hr3 : v2 ≤ v3 ∧ v3 ≤ 40 := by
                rw [hc3]
                exact ⟨by have y := hc2.1; rw [show tLo 3 (ab_u (ab_u nu0 0 v1) 1 v2) (4 - 2) = v2 from rfl] at y; exact y, hc2.2⟩
              have hkr : 0 ≤ v0 ∧ v0 < 3 := by rw [← hk3] at hk2; omega
              refine rb_aload_n hV dX10_command_308 rfl rfl ?_
              refine rb_get hV (v := .inl (gc3 0)) dX10_command_309 ⟨RX10, TX10, 24, rfl, (Nat.le_of_ble_eq_true rfl), lf_X10_100⟩ (gw_49 _) rfl ?_
              refine rb_if_ge hV (tgt := 336) dX10_command_312 (by decide) (by unfold ab_r at *; omega) (fun c312 => absurd c312 (by omega)) (fun c312 => ?_)
              refine rb_aload_n hV dX10_command_315 rfl rfl ?_
              refine rb_get hV (v := .inl (gb3 0)) dX10_command_316 ⟨RX10, TX10, 24, rfl, (Nat.le_of_ble_eq_true rfl), lf_X10_103⟩ (gw_49 _) rfl ?_
              refine rb_aload_n hV dX10_command_319 rfl rfl ?_
              refine rb_get hV (v := .inl (s 121 0)) dX10_command_320 ⟨RX10, TX10, 24, rfl, (Nat.le_of_ble_eq_true rfl), lf_X10_83⟩ (gw_49 _) rfl ?_
              refine rb_icmp_ge hV (tgt := 336) dX10_command_323 (by decide) ⟨(by unfold ab_r at *; omega), (by unfold ab_r at *; omega)⟩ (fun c323 => ?_) (fun c323 => ?_)
              · refine rb_aload_n hV dX10_command_336 rfl rfl ?_
                refine rb_get hV (v := .inl (gc3 0)) dX10_command_337 ⟨RX10, TX10, 24, rfl, (Nat.le_of_ble_eq_true rfl), lf_X10_100⟩ (gw_49 _) rfl ?_
                refine rb_if_lt hV (tgt := 351) dX10_command_340 (by decide) (by unfold ab_r at *; omega) (fun c340 => ?_) (fun c340 => absurd c340 (by omega))
                refine rb_iload_n hV dX10_command_351 rfl rfl ?_
                refine rb_if_ne hV (tgt := 364) dX10_command_352 (by decide) (by unfold ab_r at *; omega) (fun _ => ?_) (fun z => absurd z (by decide))
                refine rb_iload_n hV dX10_command_364 rfl rfl ?_
                refine rb_iconst hV dX10_command_365 ?_
                refine rb_icmp_ne hV (tgt := 378) dX10_command_366 (by decide) ⟨(by unfold ab_r at *; omega), (by unfold ab_r at *; omega)⟩ (fun _ => ?_) (fun z => absurd z (by decide))
                refine rb_iload_n hV dX10_command_378 rfl rfl ?_
                refine rb_iconst hV dX10_command_379 ?_
                refine rb_icmp_ne hV (tgt := 392) dX10_command_380 (by decide) ⟨(by unfold ab_r at *; omega), (by unfold ab_r at *; omega)⟩ (fun _ => ?_) (fun z => absurd z (by decide))
                refine rb_aload_n hV dX10_command_392 rfl rfl ?_
                refine rb_iload_n hV dX10_command_393 rfl rfl ?_
                refine rb_iload_n hV dX10_command_394 rfl rfl ?_
                refine rb_iload hV dX10_command_395 rfl ?_
                refine rb_iload hV dX10_command_397 rfl ?_
                refine rb_callV hV (rest := []) dX10_command_399 (c_X10_setSpace (ab_s (ab_s (ab_s s 122 ga3) 123 gb3) 124 gc3) v0 v1 v2 v3 (by unfold ab_r; omega) (by unfold ab_r; omega) (by unfold ab_r; omega) (by unfold ab_r; omega) (show MI (ab_s (ab_s (ab_s s 122 ga3) 123 gb3) 124 gc3) from hx)) lk_X10_143 rfl (Or.inl ⟨9, _, TX10, 24, gw_49 _, rfl⟩) rfl ⟨rfl, rfl, (Nat.le_of_ble_eq_true rfl), (Nat.le_of_ble_eq_true rfl), (Nat.le_of_ble_eq_true rfl), (Nat.le_of_ble_eq_true rfl)⟩ (Nat.le_of_ble_eq_true rfl) (fun r9 h9 p9 => ?_)
                obtain ⟨_, _, s2, rfl, rfl, hmi, hbest, hkeep⟩ := (p9.resolve_left (fun q => q.1 (by omega))).resolve_left (fun q => q.2.1 (by omega))
                show V 402 [some (.inr (some 49)), some (.inl 3), some (.inl v0), some (.inl v1), some (.inl v2), some (.inl v3)] [.inl (s 50 (3 * v0 + 1))] (WW s2) 0 0
                refine rb_pop hV dX10_command_402 ?_
                refine rb_aload_n hV dX10_command_403 rfl rfl ?_
                refine rb_get hV (v := .inl (s2 125 0)) dX10_command_404 ⟨RX10, TX10, 24, rfl, (Nat.le_of_ble_eq_true rfl), lf_X10_147⟩ (gw_49 _) rfl ?_
                refine rb_ret hV (r := some (.inl (s2 125 0))) dX10_command_407 rfl ⟨(Nat.le_of_ble_eq_true rfl), (Nat.le_of_ble_eq_true rfl)⟩ trivial ?_
                have hP : (prs (s 56) (s 121 0) 5 0 0 sub0 kd0 nu0) = (-1, 3, v0, ab_u (ab_u (ab_u nu0 0 v1) 1 v2) 2 v3) := by
                  rw [hQ4, prs_ne (k := 4) (f := 0) (by decide) hc2 (by rw [← hc5]; omega), hc3, if_neg (by decide)]
                  rfl
                rw [hP]
                refine ⟨_, _, _, Or.inr ⟨rfl, _, s2, Or.inr (Or.inr (Or.inr ⟨rfl, rfl⟩)), rfl, rfl, hmi, hbest, hkeep⟩⟩
              · refine rb_aload_n hV dX10_command_326 rfl rfl ?_
                refine rb_aload_n hV dX10_command_327 rfl rfl ?_
                refine rb_get hV (v := .inl (gb3 0)) dX10_command_328 ⟨RX10, TX10, 24, rfl, (Nat.le_of_ble_eq_true rfl), lf_X10_103⟩ (gw_49 _) rfl ?_
                refine rb_iconst hV dX10_command_331 ?_
                refine rb_iadd hV dX10_command_332 ?_
                refine rb_put hV (C := RX10) (T := TX10) (N := 24) (ci := 9) (j := 14) dX10_command_333 rfl (Nat.le_of_ble_eq_true rfl) lf_X10_100 rfl (gw_49 _) (Nat.le_of_ble_eq_true rfl) (ft_X10_14 _) ((pw_49_14 _ _).trans (congrArg WW (ab_s_same _ 124 _ _))) ?_
                refine rb_aload_n hV dX10_command_336 rfl rfl ?_
                refine rb_get hV (v := .inl ((gb3 0) + 1)) dX10_command_337 ⟨RX10, TX10, 24, rfl, (Nat.le_of_ble_eq_true rfl), lf_X10_100⟩ (gw_49 _) rfl ?_
                refine rb_if_lt hV (tgt := 351) dX10_command_340 (by decide) (by unfold ab_r at *; omega) (fun c340 => absurd c340 (by omega)) (fun c340 => ?_)
                refine rb_bipush hV dX10_command_343 (by decide) ?_
                refine rb_aload_n hV dX10_command_345 rfl rfl ?_
                refine rb_get hV (v := .inl ((gb3 0) + 1)) dX10_command_346 ⟨RX10, TX10, 24, rfl, (Nat.le_of_ble_eq_true rfl), lf_X10_100⟩ (gw_49 _) rfl ?_
                refine rb_isub hV dX10_command_349 ?_
                refine rb_ret hV (r := some (.inl ((-100) - ((gb3 0) + 1)))) dX10_command_350 rfl ⟨(Nat.le_of_ble_eq_true rfl), (Nat.le_of_ble_eq_true rfl)⟩ trivial ?_
                have hP : (prs (s 56) (s 121 0) 5 0 0 sub0 kd0 nu0).1 = gb3 0 + 1 := by
                  rw [hQ4, prs_ng (k := 4) (f := 0) (by decide) hc2 (by rw [← hc5]; omega), ← hc5]
                  rfl
                exact ⟨_, _, _, Or.inl ⟨by rw [hP]; omega, by rw [hP], rfl, hx⟩⟩
  refine rb_aload_n hV dX10_command_15 rfl rfl ?_
  refine rb_get hV (v := .inl (fc 0)) dX10_command_16 ⟨RX10, TX10, 24, rfl, (Nat.le_of_ble_eq_true rfl), lf_X10_100⟩ (gw_49 _) rfl ?_
  refine rb_if_lt hV (tgt := 26) dX10_command_19 (by decide) (by unfold ab_r at *; omega) (fun c19 => ?_) (fun c19 => ?_)
  · have hcc := hnb2 (by omega)
    have hee := ends_at (t := s 56) (a := fa 0) (b := fb 0)
    refine rb_aload_n hV dX10_command_26 rfl rfl ?_
    refine rb_bipush hV dX10_command_27 (by decide) ?_
    refine rb_bipush hV dX10_command_29 (by decide) ?_
    refine rb_bipush hV dX10_command_31 (by decide) ?_
    refine rb_bipush hV dX10_command_33 (by decide) ?_
    refine rb_callV hV (rest := []) dX10_command_35 (c_X10_isPiece (ab_s (ab_s (ab_s s 122 fa) 123 fb) 124 fc) 109 101 97 115 (by decide) (show 0 ≤ (fa 0) by omega) (show (fb 0) ≤ 120 by omega) (show (fa 0) ≤ 121 by omega) (show 0 ≤ (fb 0) by omega) ht) lk_X10_113 rfl (Or.inl ⟨9, _, TX10, 24, gw_49 _, rfl⟩) rfl ⟨rfl, rfl, (Nat.le_of_ble_eq_true rfl), (Nat.le_of_ble_eq_true rfl), (Nat.le_of_ble_eq_true rfl), (Nat.le_of_ble_eq_true rfl)⟩ (Nat.le_of_ble_eq_true rfl) (fun r9 h9 p9 => ?_)
    obtain ⟨rfl, rfl⟩ := p9
    show V 38 [some (.inr (some 49)), none, none, none, none, none] [.inl (if 3 < (fb 0) - (fa 0) ∧ s 56 (fa 0) = 109 ∧ s 56 ((fa 0) + 1) = 101 ∧ s 56 ((fa 0) + 2) = 97 ∧ s 56 ((fa 0) + 3) = 115 then 1 else 0)] (WW (ab_s (ab_s (ab_s s 122 fa) 123 fb) 124 fc)) 0 0
    by_cases e35 : 3 < (fb 0) - (fa 0) ∧ s 56 (fa 0) = 109 ∧ s 56 ((fa 0) + 1) = 101 ∧ s 56 ((fa 0) + 2) = 97 ∧ s 56 ((fa 0) + 3) = 115
    · rw [if_pos e35]
      show V 38 [some (.inr (some 49)), none, none, none, none, none] [.inl 1] (WW (ab_s (ab_s (ab_s s 122 fa) 123 fb) 124 fc)) 0 0
      refine rb_if_eq hV (tgt := 67) dX10_command_38 (by decide) (by unfold ab_r at *; omega) (fun z => absurd z (by decide)) (fun _ => ?_)
      refine rb_aload_n hV dX10_command_41 rfl rfl ?_
      refine rb_bipush hV dX10_command_42 (by decide) ?_
      refine rb_callV hV (rest := []) dX10_command_44 (c_X10_isLong (ab_s (ab_s (ab_s s 122 fa) 123 fb) 124 fc) 7 (by decide) (show 0 ≤ (fa 0) by omega) (show (fb 0) ≤ 120 by omega) (show (fa 0) ≤ 121 by omega) (show 0 ≤ (fb 0) by omega)) lk_X10_117 rfl (Or.inl ⟨9, _, TX10, 24, gw_49 _, rfl⟩) rfl ⟨rfl, rfl, (Nat.le_of_ble_eq_true rfl), (Nat.le_of_ble_eq_true rfl), (Nat.le_of_ble_eq_true rfl), (Nat.le_of_ble_eq_true rfl)⟩ (Nat.le_of_ble_eq_true rfl) (fun r9 h9 p9 => ?_)
      obtain ⟨rfl, rfl⟩ := p9
      show V 47 [some (.inr (some 49)), none, none, none, none, none] [.inl (if (fb 0) - (fa 0) = 7 then 1 else 0)] (WW (ab_s (ab_s (ab_s s 122 fa) 123 fb) 124 fc)) 0 0
      by_cases e44 : (fb 0) - (fa 0) = 7
      · rw [if_pos e44]
        show V 47 [some (.inr (some 49)), none, none, none, none, none] [.inl 1] (WW (ab_s (ab_s (ab_s s 122 fa) 123 fb) 124 fc)) 0 0
        refine rb_if_eq hV (tgt := 67) dX10_command_47 (by decide) (by unfold ab_r at *; omega) (fun z => absurd z (by decide)) (fun _ => ?_)
        refine rb_aload_n hV dX10_command_50 rfl rfl ?_
        refine rb_bipush hV dX10_command_51 (by decide) ?_
        refine rb_bipush hV dX10_command_53 (by decide) ?_
        refine rb_bipush hV dX10_command_55 (by decide) ?_
        refine rb_callV hV (rest := []) dX10_command_57 (c_X10_endsWith (ab_s (ab_s (ab_s s 122 fa) 123 fb) 124 fc) 117 114 101 (by decide) (show 3 ≤ (fb 0) ∧ (fb 0) ≤ 120 by omega) ht) lk_X10_121 rfl (Or.inl ⟨9, _, TX10, 24, gw_49 _, rfl⟩) rfl ⟨rfl, rfl, (Nat.le_of_ble_eq_true rfl), (Nat.le_of_ble_eq_true rfl), (Nat.le_of_ble_eq_true rfl), (Nat.le_of_ble_eq_true rfl)⟩ (Nat.le_of_ble_eq_true rfl) (fun r9 h9 p9 => ?_)
        obtain ⟨rfl, rfl⟩ := p9
        show V 60 [some (.inr (some 49)), none, none, none, none, none] [.inl (if s 56 ((fb 0) - 3) = 117 ∧ s 56 ((fb 0) - 2) = 114 ∧ s 56 ((fb 0) - 1) = 101 then 1 else 0)] (WW (ab_s (ab_s (ab_s s 122 fa) 123 fb) 124 fc)) 0 0
        by_cases e57 : s 56 ((fb 0) - 3) = 117 ∧ s 56 ((fb 0) - 2) = 114 ∧ s 56 ((fb 0) - 1) = 101
        · rw [if_pos e57]
          show V 60 [some (.inr (some 49)), none, none, none, none, none] [.inl 1] (WW (ab_s (ab_s (ab_s s 122 fa) 123 fb) 124 fc)) 0 0
          refine rb_if_eq hV (tgt := 67) dX10_command_60 (by decide) (by unfold ab_r at *; omega) (fun z => absurd z (by decide)) (fun _ => ?_)
          have h9 : isNm (s 56) (s 121 0) 9 (fa 0) (fb 0) := (isNm_9 _ _ _ _).mpr (by omega)
          refine rb_iconst hV dX10_command_63 ?_
          refine rb_goto hV (tgt := 181) dX10_command_64 (by decide) ?_
          refine rb_istore_n hV (L2 := [some (.inr (some 49)), some (.inl 0), none, none, none, none]) dX10_command_181 rfl (Nat.le_of_ble_eq_true rfl) rfl ?_
          refine rb_aload_n hV dX10_command_182 rfl rfl ?_
          refine rb_get hV (v := .inl (fc 0)) dX10_command_183 ⟨RX10, TX10, 24, rfl, (Nat.le_of_ble_eq_true rfl), lf_X10_100⟩ (gw_49 _) rfl ?_
          refine rb_if_ge hV (tgt := 201) dX10_command_186 (by decide) (by unfold ab_r at *; omega) (fun c186 => absurd c186 (by omega)) (fun c186 => ?_)
          refine rb_iload_n hV dX10_command_189 rfl rfl ?_
          refine rb_if_ge hV (tgt := 201) dX10_command_190 (by decide) (by unfold ab_r at *; omega) (fun _ => ?_) (fun z => absurd z (by decide))
          have hz0 : sbj (s 56) (s 121 0) (fa 0) (fb 0) = 0 := (cif_pos h9)
          rw [hfa, hfb] at hz0
          exact C201 _ _ (Or.inr (Or.inl ⟨rfl, by omega, hz0⟩))
        · rw [if_neg e57]
          show V 60 [some (.inr (some 49)), none, none, none, none, none] [.inl 0] (WW (ab_s (ab_s (ab_s s 122 fa) 123 fb) 124 fc)) 0 0
          refine rb_if_eq hV (tgt := 67) dX10_command_60 (by decide) (by unfold ab_r at *; omega) (fun _ => ?_) (fun z => absurd z (by decide))
          have h9 : ¬ isNm (s 56) (s 121 0) 9 (fa 0) (fb 0) := fun q => e57 (by have q2 := (isNm_9 _ _ _ _).mp q; omega)
          clear e35 e44 e57
          refine rb_aload_n hV dX10_command_67 rfl rfl ?_
          refine rb_bipush hV dX10_command_68 (by decide) ?_
          refine rb_bipush hV dX10_command_70 (by decide) ?_
          refine rb_bipush hV dX10_command_72 (by decide) ?_
          refine rb_bipush hV dX10_command_74 (by decide) ?_
          refine rb_callV hV (rest := []) dX10_command_76 (c_X10_isPiece (ab_s (ab_s (ab_s s 122 fa) 123 fb) 124 fc) 104 97 110 103 (by decide) (show 0 ≤ (fa 0) by omega) (show (fb 0) ≤ 120 by omega) (show (fa 0) ≤ 121 by omega) (show 0 ≤ (fb 0) by omega) ht) lk_X10_113 rfl (Or.inl ⟨9, _, TX10, 24, gw_49 _, rfl⟩) rfl ⟨rfl, rfl, (Nat.le_of_ble_eq_true rfl), (Nat.le_of_ble_eq_true rfl), (Nat.le_of_ble_eq_true rfl), (Nat.le_of_ble_eq_true rfl)⟩ (Nat.le_of_ble_eq_true rfl) (fun r9 h9 p9 => ?_)
          obtain ⟨rfl, rfl⟩ := p9
          show V 79 [some (.inr (some 49)), none, none, none, none, none] [.inl (if 3 < (fb 0) - (fa 0) ∧ s 56 (fa 0) = 104 ∧ s 56 ((fa 0) + 1) = 97 ∧ s 56 ((fa 0) + 2) = 110 ∧ s 56 ((fa 0) + 3) = 103 then 1 else 0)] (WW (ab_s (ab_s (ab_s s 122 fa) 123 fb) 124 fc)) 0 0
          by_cases e76 : 3 < (fb 0) - (fa 0) ∧ s 56 (fa 0) = 104 ∧ s 56 ((fa 0) + 1) = 97 ∧ s 56 ((fa 0) + 2) = 110 ∧ s 56 ((fa 0) + 3) = 103
          · rw [if_pos e76]
            show V 79 [some (.inr (some 49)), none, none, none, none, none] [.inl 1] (WW (ab_s (ab_s (ab_s s 122 fa) 123 fb) 124 fc)) 0 0
            refine rb_if_eq hV (tgt := 94) dX10_command_79 (by decide) (by unfold ab_r at *; omega) (fun z => absurd z (by decide)) (fun _ => ?_)
            refine rb_aload_n hV dX10_command_82 rfl rfl ?_
            refine rb_iconst hV dX10_command_83 ?_
            refine rb_callV hV (rest := []) dX10_command_84 (c_X10_isLong (ab_s (ab_s (ab_s s 122 fa) 123 fb) 124 fc) 4 (by decide) (show 0 ≤ (fa 0) by omega) (show (fb 0) ≤ 120 by omega) (show (fa 0) ≤ 121 by omega) (show 0 ≤ (fb 0) by omega)) lk_X10_117 rfl (Or.inl ⟨9, _, TX10, 24, gw_49 _, rfl⟩) rfl ⟨rfl, rfl, (Nat.le_of_ble_eq_true rfl), (Nat.le_of_ble_eq_true rfl), (Nat.le_of_ble_eq_true rfl), (Nat.le_of_ble_eq_true rfl)⟩ (Nat.le_of_ble_eq_true rfl) (fun r9 h9 p9 => ?_)
            obtain ⟨rfl, rfl⟩ := p9
            show V 87 [some (.inr (some 49)), none, none, none, none, none] [.inl (if (fb 0) - (fa 0) = 4 then 1 else 0)] (WW (ab_s (ab_s (ab_s s 122 fa) 123 fb) 124 fc)) 0 0
            by_cases e84 : (fb 0) - (fa 0) = 4
            · rw [if_pos e84]
              show V 87 [some (.inr (some 49)), none, none, none, none, none] [.inl 1] (WW (ab_s (ab_s (ab_s s 122 fa) 123 fb) 124 fc)) 0 0
              refine rb_if_eq hV (tgt := 94) dX10_command_87 (by decide) (by unfold ab_r at *; omega) (fun z => absurd z (by decide)) (fun _ => ?_)
              have h10 : isNm (s 56) (s 121 0) 10 (fa 0) (fb 0) := (isNm_10 _ _ _ _).mpr (by omega)
              refine rb_iconst hV dX10_command_90 ?_
              refine rb_goto hV (tgt := 181) dX10_command_91 (by decide) ?_
              refine rb_istore_n hV (L2 := [some (.inr (some 49)), some (.inl 1), none, none, none, none]) dX10_command_181 rfl (Nat.le_of_ble_eq_true rfl) rfl ?_
              refine rb_aload_n hV dX10_command_182 rfl rfl ?_
              refine rb_get hV (v := .inl (fc 0)) dX10_command_183 ⟨RX10, TX10, 24, rfl, (Nat.le_of_ble_eq_true rfl), lf_X10_100⟩ (gw_49 _) rfl ?_
              refine rb_if_ge hV (tgt := 201) dX10_command_186 (by decide) (by unfold ab_r at *; omega) (fun c186 => absurd c186 (by omega)) (fun c186 => ?_)
              refine rb_iload_n hV dX10_command_189 rfl rfl ?_
              refine rb_if_ge hV (tgt := 201) dX10_command_190 (by decide) (by unfold ab_r at *; omega) (fun _ => ?_) (fun z => absurd z (by decide))
              have hz0 : sbj (s 56) (s 121 0) (fa 0) (fb 0) = 1 := ((cif_neg h9).trans (cif_pos h10))
              rw [hfa, hfb] at hz0
              exact C201 _ _ (Or.inr (Or.inr (Or.inl ⟨rfl, by omega, hz0⟩)))
            · rw [if_neg e84]
              show V 87 [some (.inr (some 49)), none, none, none, none, none] [.inl 0] (WW (ab_s (ab_s (ab_s s 122 fa) 123 fb) 124 fc)) 0 0
              refine rb_if_eq hV (tgt := 94) dX10_command_87 (by decide) (by unfold ab_r at *; omega) (fun _ => ?_) (fun z => absurd z (by decide))
              have h10 : ¬ isNm (s 56) (s 121 0) 10 (fa 0) (fb 0) := fun q => e84 (by have q2 := (isNm_10 _ _ _ _).mp q; omega)
              clear e76 e84
              refine rb_aload_n hV dX10_command_94 rfl rfl ?_
              refine rb_bipush hV dX10_command_95 (by decide) ?_
              refine rb_bipush hV dX10_command_97 (by decide) ?_
              refine rb_bipush hV dX10_command_99 (by decide) ?_
              refine rb_bipush hV dX10_command_101 (by decide) ?_
              refine rb_callV hV (rest := []) dX10_command_103 (c_X10_isPiece (ab_s (ab_s (ab_s s 122 fa) 123 fb) 124 fc) 114 105 118 101 (by decide) (show 0 ≤ (fa 0) by omega) (show (fb 0) ≤ 120 by omega) (show (fa 0) ≤ 121 by omega) (show 0 ≤ (fb 0) by omega) ht) lk_X10_113 rfl (Or.inl ⟨9, _, TX10, 24, gw_49 _, rfl⟩) rfl ⟨rfl, rfl, (Nat.le_of_ble_eq_true rfl), (Nat.le_of_ble_eq_true rfl), (Nat.le_of_ble_eq_true rfl), (Nat.le_of_ble_eq_true rfl)⟩ (Nat.le_of_ble_eq_true rfl) (fun r9 h9 p9 => ?_)
              obtain ⟨rfl, rfl⟩ := p9
              show V 106 [some (.inr (some 49)), none, none, none, none, none] [.inl (if 3 < (fb 0) - (fa 0) ∧ s 56 (fa 0) = 114 ∧ s 56 ((fa 0) + 1) = 105 ∧ s 56 ((fa 0) + 2) = 118 ∧ s 56 ((fa 0) + 3) = 101 then 1 else 0)] (WW (ab_s (ab_s (ab_s s 122 fa) 123 fb) 124 fc)) 0 0
              by_cases e103 : 3 < (fb 0) - (fa 0) ∧ s 56 (fa 0) = 114 ∧ s 56 ((fa 0) + 1) = 105 ∧ s 56 ((fa 0) + 2) = 118 ∧ s 56 ((fa 0) + 3) = 101
              · rw [if_pos e103]
                show V 106 [some (.inr (some 49)), none, none, none, none, none] [.inl 1] (WW (ab_s (ab_s (ab_s s 122 fa) 123 fb) 124 fc)) 0 0
                refine rb_if_eq hV (tgt := 137) dX10_command_106 (by decide) (by unfold ab_r at *; omega) (fun z => absurd z (by decide)) (fun _ => ?_)
                refine rb_aload_n hV dX10_command_109 rfl rfl ?_
                refine rb_iconst hV dX10_command_110 ?_
                refine rb_callV hV (rest := []) dX10_command_111 (c_X10_isLong (ab_s (ab_s (ab_s s 122 fa) 123 fb) 124 fc) 5 (by decide) (show 0 ≤ (fa 0) by omega) (show (fb 0) ≤ 120 by omega) (show (fa 0) ≤ 121 by omega) (show 0 ≤ (fb 0) by omega)) lk_X10_117 rfl (Or.inl ⟨9, _, TX10, 24, gw_49 _, rfl⟩) rfl ⟨rfl, rfl, (Nat.le_of_ble_eq_true rfl), (Nat.le_of_ble_eq_true rfl), (Nat.le_of_ble_eq_true rfl), (Nat.le_of_ble_eq_true rfl)⟩ (Nat.le_of_ble_eq_true rfl) (fun r9 h9 p9 => ?_)
                obtain ⟨rfl, rfl⟩ := p9
                show V 114 [some (.inr (some 49)), none, none, none, none, none] [.inl (if (fb 0) - (fa 0) = 5 then 1 else 0)] (WW (ab_s (ab_s (ab_s s 122 fa) 123 fb) 124 fc)) 0 0
                by_cases e111 : (fb 0) - (fa 0) = 5
                · rw [if_pos e111]
                  show V 114 [some (.inr (some 49)), none, none, none, none, none] [.inl 1] (WW (ab_s (ab_s (ab_s s 122 fa) 123 fb) 124 fc)) 0 0
                  refine rb_if_eq hV (tgt := 137) dX10_command_114 (by decide) (by unfold ab_r at *; omega) (fun z => absurd z (by decide)) (fun _ => ?_)
                  refine rb_aload_n hV dX10_command_117 rfl rfl ?_
                  refine rb_get hV (v := .inr (some 56)) dX10_command_118 ⟨RX10, TX10, 24, rfl, (Nat.le_of_ble_eq_true rfl), lf_X10_38⟩ (gw_49 _) rfl ?_
                  refine rb_aload_n hV dX10_command_121 rfl rfl ?_
                  refine rb_get hV (v := .inl (fa 0)) dX10_command_122 ⟨RX10, TX10, 24, rfl, (Nat.le_of_ble_eq_true rfl), lf_X10_106⟩ (gw_49 _) rfl ?_
                  refine rb_iconst hV dX10_command_125 ?_
                  refine rb_iadd hV dX10_command_126 ?_
                  refine rb_cald hV (f := (s 56)) dX10_command_127 (gw_56 _) (Nat.le_of_ble_eq_true rfl) (by omega) ?_
                  refine rb_bipush hV dX10_command_128 (by decide) ?_
                  have h4r := hx4 (fa 0 + 4)
                  refine rb_icmp_ne hV (tgt := 137) dX10_command_130 (by decide) ⟨(by unfold ab_r at *; omega), (by unfold ab_r at *; omega)⟩ (fun c130 => ?_) (fun c130 => ?_)
                  · have h11 : ¬ isNm (s 56) (s 121 0) 11 (fa 0) (fb 0) := fun q => c130 (by have q2 := (isNm_11 _ _ _ _).mp q; omega)
                    clear e103 e111 c130
                    refine rb_aload_n hV dX10_command_137 rfl rfl ?_
                    refine rb_bipush hV dX10_command_138 (by decide) ?_
                    refine rb_bipush hV dX10_command_140 (by decide) ?_
                    refine rb_bipush hV dX10_command_142 (by decide) ?_
                    refine rb_bipush hV dX10_command_144 (by decide) ?_
                    refine rb_callV hV (rest := []) dX10_command_146 (c_X10_isPiece (ab_s (ab_s (ab_s s 122 fa) 123 fb) 124 fc) 115 112 97 99 (by decide) (show 0 ≤ (fa 0) by omega) (show (fb 0) ≤ 120 by omega) (show (fa 0) ≤ 121 by omega) (show 0 ≤ (fb 0) by omega) ht) lk_X10_113 rfl (Or.inl ⟨9, _, TX10, 24, gw_49 _, rfl⟩) rfl ⟨rfl, rfl, (Nat.le_of_ble_eq_true rfl), (Nat.le_of_ble_eq_true rfl), (Nat.le_of_ble_eq_true rfl), (Nat.le_of_ble_eq_true rfl)⟩ (Nat.le_of_ble_eq_true rfl) (fun r9 h9 p9 => ?_)
                    obtain ⟨rfl, rfl⟩ := p9
                    show V 149 [some (.inr (some 49)), none, none, none, none, none] [.inl (if 3 < (fb 0) - (fa 0) ∧ s 56 (fa 0) = 115 ∧ s 56 ((fa 0) + 1) = 112 ∧ s 56 ((fa 0) + 2) = 97 ∧ s 56 ((fa 0) + 3) = 99 then 1 else 0)] (WW (ab_s (ab_s (ab_s s 122 fa) 123 fb) 124 fc)) 0 0
                    by_cases e146 : 3 < (fb 0) - (fa 0) ∧ s 56 (fa 0) = 115 ∧ s 56 ((fa 0) + 1) = 112 ∧ s 56 ((fa 0) + 2) = 97 ∧ s 56 ((fa 0) + 3) = 99
                    · rw [if_pos e146]
                      show V 149 [some (.inr (some 49)), none, none, none, none, none] [.inl 1] (WW (ab_s (ab_s (ab_s s 122 fa) 123 fb) 124 fc)) 0 0
                      refine rb_if_eq hV (tgt := 180) dX10_command_149 (by decide) (by unfold ab_r at *; omega) (fun z => absurd z (by decide)) (fun _ => ?_)
                      refine rb_aload_n hV dX10_command_152 rfl rfl ?_
                      refine rb_iconst hV dX10_command_153 ?_
                      refine rb_callV hV (rest := []) dX10_command_154 (c_X10_isLong (ab_s (ab_s (ab_s s 122 fa) 123 fb) 124 fc) 5 (by decide) (show 0 ≤ (fa 0) by omega) (show (fb 0) ≤ 120 by omega) (show (fa 0) ≤ 121 by omega) (show 0 ≤ (fb 0) by omega)) lk_X10_117 rfl (Or.inl ⟨9, _, TX10, 24, gw_49 _, rfl⟩) rfl ⟨rfl, rfl, (Nat.le_of_ble_eq_true rfl), (Nat.le_of_ble_eq_true rfl), (Nat.le_of_ble_eq_true rfl), (Nat.le_of_ble_eq_true rfl)⟩ (Nat.le_of_ble_eq_true rfl) (fun r9 h9 p9 => ?_)
                      obtain ⟨rfl, rfl⟩ := p9
                      show V 157 [some (.inr (some 49)), none, none, none, none, none] [.inl (if (fb 0) - (fa 0) = 5 then 1 else 0)] (WW (ab_s (ab_s (ab_s s 122 fa) 123 fb) 124 fc)) 0 0
                      by_cases e154 : (fb 0) - (fa 0) = 5
                      · rw [if_pos e154]
                        show V 157 [some (.inr (some 49)), none, none, none, none, none] [.inl 1] (WW (ab_s (ab_s (ab_s s 122 fa) 123 fb) 124 fc)) 0 0
                        refine rb_if_eq hV (tgt := 180) dX10_command_157 (by decide) (by unfold ab_r at *; omega) (fun z => absurd z (by decide)) (fun _ => ?_)
                        refine rb_aload_n hV dX10_command_160 rfl rfl ?_
                        refine rb_get hV (v := .inr (some 56)) dX10_command_161 ⟨RX10, TX10, 24, rfl, (Nat.le_of_ble_eq_true rfl), lf_X10_38⟩ (gw_49 _) rfl ?_
                        refine rb_aload_n hV dX10_command_164 rfl rfl ?_
                        refine rb_get hV (v := .inl (fa 0)) dX10_command_165 ⟨RX10, TX10, 24, rfl, (Nat.le_of_ble_eq_true rfl), lf_X10_106⟩ (gw_49 _) rfl ?_
                        refine rb_iconst hV dX10_command_168 ?_
                        refine rb_iadd hV dX10_command_169 ?_
                        refine rb_cald hV (f := (s 56)) dX10_command_170 (gw_56 _) (Nat.le_of_ble_eq_true rfl) (by omega) ?_
                        refine rb_bipush hV dX10_command_171 (by decide) ?_
                        have h4r := hx4 (fa 0 + 4)
                        refine rb_icmp_ne hV (tgt := 180) dX10_command_173 (by decide) ⟨(by unfold ab_r at *; omega), (by unfold ab_r at *; omega)⟩ (fun c173 => ?_) (fun c173 => ?_)
                        · have h12 : ¬ isNm (s 56) (s 121 0) 12 (fa 0) (fb 0) := fun q => c173 (by have q2 := (isNm_12 _ _ _ _).mp q; omega)
                          clear e146 e154 c173
                          refine rb_iconst hV dX10_command_180 ?_
                          refine rb_istore_n hV (L2 := [some (.inr (some 49)), some (.inl (-1)), none, none, none, none]) dX10_command_181 rfl (Nat.le_of_ble_eq_true rfl) rfl ?_
                          refine rb_aload_n hV dX10_command_182 rfl rfl ?_
                          refine rb_get hV (v := .inl (fc 0)) dX10_command_183 ⟨RX10, TX10, 24, rfl, (Nat.le_of_ble_eq_true rfl), lf_X10_100⟩ (gw_49 _) rfl ?_
                          refine rb_if_ge hV (tgt := 201) dX10_command_186 (by decide) (by unfold ab_r at *; omega) (fun c186 => absurd c186 (by omega)) (fun c186 => ?_)
                          refine rb_iload_n hV dX10_command_189 rfl rfl ?_
                          refine rb_if_ge hV (tgt := 201) dX10_command_190 (by decide) (by unfold ab_r at *; omega) (fun z => absurd z (by decide)) (fun _ => ?_)
                          refine rb_aload_n hV dX10_command_193 rfl rfl ?_
                          refine rb_aload_n hV dX10_command_194 rfl rfl ?_
                          refine rb_get hV (v := .inl (fa 0)) dX10_command_195 ⟨RX10, TX10, 24, rfl, (Nat.le_of_ble_eq_true rfl), lf_X10_106⟩ (gw_49 _) rfl ?_
                          refine rb_put hV (C := RX10) (T := TX10) (N := 24) (ci := 9) (j := 14) dX10_command_198 rfl (Nat.le_of_ble_eq_true rfl) lf_X10_100 rfl (gw_49 _) (Nat.le_of_ble_eq_true rfl) (ft_X10_14 _) ((pw_49_14 _ _).trans (congrArg WW (ab_s_same _ 124 _ _))) ?_
                          have hz0 : sbj (s 56) (s 121 0) (fa 0) (fb 0) = -1 := sbj_none h9 h10 h11 h12
                          rw [hfa, hfb] at hz0
                          exact C201 _ _ (Or.inl ⟨rfl, hfa, hz0⟩)
                        · have h12 : isNm (s 56) (s 121 0) 12 (fa 0) (fb 0) := (isNm_12 _ _ _ _).mpr (by omega)
                          refine rb_iconst hV dX10_command_176 ?_
                          refine rb_goto hV (tgt := 181) dX10_command_177 (by decide) ?_
                          refine rb_istore_n hV (L2 := [some (.inr (some 49)), some (.inl 3), none, none, none, none]) dX10_command_181 rfl (Nat.le_of_ble_eq_true rfl) rfl ?_
                          refine rb_aload_n hV dX10_command_182 rfl rfl ?_
                          refine rb_get hV (v := .inl (fc 0)) dX10_command_183 ⟨RX10, TX10, 24, rfl, (Nat.le_of_ble_eq_true rfl), lf_X10_100⟩ (gw_49 _) rfl ?_
                          refine rb_if_ge hV (tgt := 201) dX10_command_186 (by decide) (by unfold ab_r at *; omega) (fun c186 => absurd c186 (by omega)) (fun c186 => ?_)
                          refine rb_iload_n hV dX10_command_189 rfl rfl ?_
                          refine rb_if_ge hV (tgt := 201) dX10_command_190 (by decide) (by unfold ab_r at *; omega) (fun _ => ?_) (fun z => absurd z (by decide))
                          have hz0 : sbj (s 56) (s 121 0) (fa 0) (fb 0) = 3 := ((cif_neg h9).trans ((cif_neg h10).trans ((cif_neg h11).trans (cif_pos h12))))
                          rw [hfa, hfb] at hz0
                          exact C201 _ _ (Or.inr (Or.inr (Or.inr (Or.inr (⟨rfl, by omega, hz0⟩)))))
                      · rw [if_neg e154]
                        show V 157 [some (.inr (some 49)), none, none, none, none, none] [.inl 0] (WW (ab_s (ab_s (ab_s s 122 fa) 123 fb) 124 fc)) 0 0
                        refine rb_if_eq hV (tgt := 180) dX10_command_157 (by decide) (by unfold ab_r at *; omega) (fun _ => ?_) (fun z => absurd z (by decide))
                        have h12 : ¬ isNm (s 56) (s 121 0) 12 (fa 0) (fb 0) := fun q => e154 (by have q2 := (isNm_12 _ _ _ _).mp q; omega)
                        clear e146 e154
                        refine rb_iconst hV dX10_command_180 ?_
                        refine rb_istore_n hV (L2 := [some (.inr (some 49)), some (.inl (-1)), none, none, none, none]) dX10_command_181 rfl (Nat.le_of_ble_eq_true rfl) rfl ?_
                        refine rb_aload_n hV dX10_command_182 rfl rfl ?_
                        refine rb_get hV (v := .inl (fc 0)) dX10_command_183 ⟨RX10, TX10, 24, rfl, (Nat.le_of_ble_eq_true rfl), lf_X10_100⟩ (gw_49 _) rfl ?_
                        refine rb_if_ge hV (tgt := 201) dX10_command_186 (by decide) (by unfold ab_r at *; omega) (fun c186 => absurd c186 (by omega)) (fun c186 => ?_)
                        refine rb_iload_n hV dX10_command_189 rfl rfl ?_
                        refine rb_if_ge hV (tgt := 201) dX10_command_190 (by decide) (by unfold ab_r at *; omega) (fun z => absurd z (by decide)) (fun _ => ?_)
                        refine rb_aload_n hV dX10_command_193 rfl rfl ?_
                        refine rb_aload_n hV dX10_command_194 rfl rfl ?_
                        refine rb_get hV (v := .inl (fa 0)) dX10_command_195 ⟨RX10, TX10, 24, rfl, (Nat.le_of_ble_eq_true rfl), lf_X10_106⟩ (gw_49 _) rfl ?_
                        refine rb_put hV (C := RX10) (T := TX10) (N := 24) (ci := 9) (j := 14) dX10_command_198 rfl (Nat.le_of_ble_eq_true rfl) lf_X10_100 rfl (gw_49 _) (Nat.le_of_ble_eq_true rfl) (ft_X10_14 _) ((pw_49_14 _ _).trans (congrArg WW (ab_s_same _ 124 _ _))) ?_
                        have hz0 : sbj (s 56) (s 121 0) (fa 0) (fb 0) = -1 := sbj_none h9 h10 h11 h12
                        rw [hfa, hfb] at hz0
                        exact C201 _ _ (Or.inl ⟨rfl, hfa, hz0⟩)
                    · rw [if_neg e146]
                      show V 149 [some (.inr (some 49)), none, none, none, none, none] [.inl 0] (WW (ab_s (ab_s (ab_s s 122 fa) 123 fb) 124 fc)) 0 0
                      refine rb_if_eq hV (tgt := 180) dX10_command_149 (by decide) (by unfold ab_r at *; omega) (fun _ => ?_) (fun z => absurd z (by decide))
                      have h12 : ¬ isNm (s 56) (s 121 0) 12 (fa 0) (fb 0) := fun q => e146 (by have q2 := (isNm_12 _ _ _ _).mp q; omega)
                      clear e146
                      refine rb_iconst hV dX10_command_180 ?_
                      refine rb_istore_n hV (L2 := [some (.inr (some 49)), some (.inl (-1)), none, none, none, none]) dX10_command_181 rfl (Nat.le_of_ble_eq_true rfl) rfl ?_
                      refine rb_aload_n hV dX10_command_182 rfl rfl ?_
                      refine rb_get hV (v := .inl (fc 0)) dX10_command_183 ⟨RX10, TX10, 24, rfl, (Nat.le_of_ble_eq_true rfl), lf_X10_100⟩ (gw_49 _) rfl ?_
                      refine rb_if_ge hV (tgt := 201) dX10_command_186 (by decide) (by unfold ab_r at *; omega) (fun c186 => absurd c186 (by omega)) (fun c186 => ?_)
                      refine rb_iload_n hV dX10_command_189 rfl rfl ?_
                      refine rb_if_ge hV (tgt := 201) dX10_command_190 (by decide) (by unfold ab_r at *; omega) (fun z => absurd z (by decide)) (fun _ => ?_)
                      refine rb_aload_n hV dX10_command_193 rfl rfl ?_
                      refine rb_aload_n hV dX10_command_194 rfl rfl ?_
                      refine rb_get hV (v := .inl (fa 0)) dX10_command_195 ⟨RX10, TX10, 24, rfl, (Nat.le_of_ble_eq_true rfl), lf_X10_106⟩ (gw_49 _) rfl ?_
                      refine rb_put hV (C := RX10) (T := TX10) (N := 24) (ci := 9) (j := 14) dX10_command_198 rfl (Nat.le_of_ble_eq_true rfl) lf_X10_100 rfl (gw_49 _) (Nat.le_of_ble_eq_true rfl) (ft_X10_14 _) ((pw_49_14 _ _).trans (congrArg WW (ab_s_same _ 124 _ _))) ?_
                      have hz0 : sbj (s 56) (s 121 0) (fa 0) (fb 0) = -1 := sbj_none h9 h10 h11 h12
                      rw [hfa, hfb] at hz0
                      exact C201 _ _ (Or.inl ⟨rfl, hfa, hz0⟩)
                  · have h11 : isNm (s 56) (s 121 0) 11 (fa 0) (fb 0) := (isNm_11 _ _ _ _).mpr (by omega)
                    refine rb_iconst hV dX10_command_133 ?_
                    refine rb_goto hV (tgt := 181) dX10_command_134 (by decide) ?_
                    refine rb_istore_n hV (L2 := [some (.inr (some 49)), some (.inl 2), none, none, none, none]) dX10_command_181 rfl (Nat.le_of_ble_eq_true rfl) rfl ?_
                    refine rb_aload_n hV dX10_command_182 rfl rfl ?_
                    refine rb_get hV (v := .inl (fc 0)) dX10_command_183 ⟨RX10, TX10, 24, rfl, (Nat.le_of_ble_eq_true rfl), lf_X10_100⟩ (gw_49 _) rfl ?_
                    refine rb_if_ge hV (tgt := 201) dX10_command_186 (by decide) (by unfold ab_r at *; omega) (fun c186 => absurd c186 (by omega)) (fun c186 => ?_)
                    refine rb_iload_n hV dX10_command_189 rfl rfl ?_
                    refine rb_if_ge hV (tgt := 201) dX10_command_190 (by decide) (by unfold ab_r at *; omega) (fun _ => ?_) (fun z => absurd z (by decide))
                    have hz0 : sbj (s 56) (s 121 0) (fa 0) (fb 0) = 2 := ((cif_neg h9).trans ((cif_neg h10).trans (cif_pos h11)))
                    rw [hfa, hfb] at hz0
                    exact C201 _ _ (Or.inr (Or.inr (Or.inr (Or.inl ⟨rfl, by omega, hz0⟩))))
                · rw [if_neg e111]
                  show V 114 [some (.inr (some 49)), none, none, none, none, none] [.inl 0] (WW (ab_s (ab_s (ab_s s 122 fa) 123 fb) 124 fc)) 0 0
                  refine rb_if_eq hV (tgt := 137) dX10_command_114 (by decide) (by unfold ab_r at *; omega) (fun _ => ?_) (fun z => absurd z (by decide))
                  have h11 : ¬ isNm (s 56) (s 121 0) 11 (fa 0) (fb 0) := fun q => e111 (by have q2 := (isNm_11 _ _ _ _).mp q; omega)
                  clear e103 e111
                  refine rb_aload_n hV dX10_command_137 rfl rfl ?_
                  refine rb_bipush hV dX10_command_138 (by decide) ?_
                  refine rb_bipush hV dX10_command_140 (by decide) ?_
                  refine rb_bipush hV dX10_command_142 (by decide) ?_
                  refine rb_bipush hV dX10_command_144 (by decide) ?_
                  refine rb_callV hV (rest := []) dX10_command_146 (c_X10_isPiece (ab_s (ab_s (ab_s s 122 fa) 123 fb) 124 fc) 115 112 97 99 (by decide) (show 0 ≤ (fa 0) by omega) (show (fb 0) ≤ 120 by omega) (show (fa 0) ≤ 121 by omega) (show 0 ≤ (fb 0) by omega) ht) lk_X10_113 rfl (Or.inl ⟨9, _, TX10, 24, gw_49 _, rfl⟩) rfl ⟨rfl, rfl, (Nat.le_of_ble_eq_true rfl), (Nat.le_of_ble_eq_true rfl), (Nat.le_of_ble_eq_true rfl), (Nat.le_of_ble_eq_true rfl)⟩ (Nat.le_of_ble_eq_true rfl) (fun r9 h9 p9 => ?_)
                  obtain ⟨rfl, rfl⟩ := p9
                  show V 149 [some (.inr (some 49)), none, none, none, none, none] [.inl (if 3 < (fb 0) - (fa 0) ∧ s 56 (fa 0) = 115 ∧ s 56 ((fa 0) + 1) = 112 ∧ s 56 ((fa 0) + 2) = 97 ∧ s 56 ((fa 0) + 3) = 99 then 1 else 0)] (WW (ab_s (ab_s (ab_s s 122 fa) 123 fb) 124 fc)) 0 0
                  by_cases e146 : 3 < (fb 0) - (fa 0) ∧ s 56 (fa 0) = 115 ∧ s 56 ((fa 0) + 1) = 112 ∧ s 56 ((fa 0) + 2) = 97 ∧ s 56 ((fa 0) + 3) = 99
                  · rw [if_pos e146]
                    show V 149 [some (.inr (some 49)), none, none, none, none, none] [.inl 1] (WW (ab_s (ab_s (ab_s s 122 fa) 123 fb) 124 fc)) 0 0
                    refine rb_if_eq hV (tgt := 180) dX10_command_149 (by decide) (by unfold ab_r at *; omega) (fun z => absurd z (by decide)) (fun _ => ?_)
                    refine rb_aload_n hV dX10_command_152 rfl rfl ?_
                    refine rb_iconst hV dX10_command_153 ?_
                    refine rb_callV hV (rest := []) dX10_command_154 (c_X10_isLong (ab_s (ab_s (ab_s s 122 fa) 123 fb) 124 fc) 5 (by decide) (show 0 ≤ (fa 0) by omega) (show (fb 0) ≤ 120 by omega) (show (fa 0) ≤ 121 by omega) (show 0 ≤ (fb 0) by omega)) lk_X10_117 rfl (Or.inl ⟨9, _, TX10, 24, gw_49 _, rfl⟩) rfl ⟨rfl, rfl, (Nat.le_of_ble_eq_true rfl), (Nat.le_of_ble_eq_true rfl), (Nat.le_of_ble_eq_true rfl), (Nat.le_of_ble_eq_true rfl)⟩ (Nat.le_of_ble_eq_true rfl) (fun r9 h9 p9 => ?_)
                    obtain ⟨rfl, rfl⟩ := p9
                    show V 157 [some (.inr (some 49)), none, none, none, none, none] [.inl (if (fb 0) - (fa 0) = 5 then 1 else 0)] (WW (ab_s (ab_s (ab_s s 122 fa) 123 fb) 124 fc)) 0 0
                    by_cases e154 : (fb 0) - (fa 0) = 5
                    · rw [if_pos e154]
                      show V 157 [some (.inr (some 49)), none, none, none, none, none] [.inl 1] (WW (ab_s (ab_s (ab_s s 122 fa) 123 fb) 124 fc)) 0 0
                      refine rb_if_eq hV (tgt := 180) dX10_command_157 (by decide) (by unfold ab_r at *; omega) (fun z => absurd z (by decide)) (fun _ => ?_)
                      refine rb_aload_n hV dX10_command_160 rfl rfl ?_
                      refine rb_get hV (v := .inr (some 56)) dX10_command_161 ⟨RX10, TX10, 24, rfl, (Nat.le_of_ble_eq_true rfl), lf_X10_38⟩ (gw_49 _) rfl ?_
                      refine rb_aload_n hV dX10_command_164 rfl rfl ?_
                      refine rb_get hV (v := .inl (fa 0)) dX10_command_165 ⟨RX10, TX10, 24, rfl, (Nat.le_of_ble_eq_true rfl), lf_X10_106⟩ (gw_49 _) rfl ?_
                      refine rb_iconst hV dX10_command_168 ?_
                      refine rb_iadd hV dX10_command_169 ?_
                      refine rb_cald hV (f := (s 56)) dX10_command_170 (gw_56 _) (Nat.le_of_ble_eq_true rfl) (by omega) ?_
                      refine rb_bipush hV dX10_command_171 (by decide) ?_
                      have h4r := hx4 (fa 0 + 4)
                      refine rb_icmp_ne hV (tgt := 180) dX10_command_173 (by decide) ⟨(by unfold ab_r at *; omega), (by unfold ab_r at *; omega)⟩ (fun c173 => ?_) (fun c173 => ?_)
                      · have h12 : ¬ isNm (s 56) (s 121 0) 12 (fa 0) (fb 0) := fun q => c173 (by have q2 := (isNm_12 _ _ _ _).mp q; omega)
                        clear e146 e154 c173
                        refine rb_iconst hV dX10_command_180 ?_
                        refine rb_istore_n hV (L2 := [some (.inr (some 49)), some (.inl (-1)), none, none, none, none]) dX10_command_181 rfl (Nat.le_of_ble_eq_true rfl) rfl ?_
                        refine rb_aload_n hV dX10_command_182 rfl rfl ?_
                        refine rb_get hV (v := .inl (fc 0)) dX10_command_183 ⟨RX10, TX10, 24, rfl, (Nat.le_of_ble_eq_true rfl), lf_X10_100⟩ (gw_49 _) rfl ?_
                        refine rb_if_ge hV (tgt := 201) dX10_command_186 (by decide) (by unfold ab_r at *; omega) (fun c186 => absurd c186 (by omega)) (fun c186 => ?_)
                        refine rb_iload_n hV dX10_command_189 rfl rfl ?_
                        refine rb_if_ge hV (tgt := 201) dX10_command_190 (by decide) (by unfold ab_r at *; omega) (fun z => absurd z (by decide)) (fun _ => ?_)
                        refine rb_aload_n hV dX10_command_193 rfl rfl ?_
                        refine rb_aload_n hV dX10_command_194 rfl rfl ?_
                        refine rb_get hV (v := .inl (fa 0)) dX10_command_195 ⟨RX10, TX10, 24, rfl, (Nat.le_of_ble_eq_true rfl), lf_X10_106⟩ (gw_49 _) rfl ?_
                        refine rb_put hV (C := RX10) (T := TX10) (N := 24) (ci := 9) (j := 14) dX10_command_198 rfl (Nat.le_of_ble_eq_true rfl) lf_X10_100 rfl (gw_49 _) (Nat.le_of_ble_eq_true rfl) (ft_X10_14 _) ((pw_49_14 _ _).trans (congrArg WW (ab_s_same _ 124 _ _))) ?_
                        have hz0 : sbj (s 56) (s 121 0) (fa 0) (fb 0) = -1 := sbj_none h9 h10 h11 h12
                        rw [hfa, hfb] at hz0
                        exact C201 _ _ (Or.inl ⟨rfl, hfa, hz0⟩)
                      · have h12 : isNm (s 56) (s 121 0) 12 (fa 0) (fb 0) := (isNm_12 _ _ _ _).mpr (by omega)
                        refine rb_iconst hV dX10_command_176 ?_
                        refine rb_goto hV (tgt := 181) dX10_command_177 (by decide) ?_
                        refine rb_istore_n hV (L2 := [some (.inr (some 49)), some (.inl 3), none, none, none, none]) dX10_command_181 rfl (Nat.le_of_ble_eq_true rfl) rfl ?_
                        refine rb_aload_n hV dX10_command_182 rfl rfl ?_
                        refine rb_get hV (v := .inl (fc 0)) dX10_command_183 ⟨RX10, TX10, 24, rfl, (Nat.le_of_ble_eq_true rfl), lf_X10_100⟩ (gw_49 _) rfl ?_
                        refine rb_if_ge hV (tgt := 201) dX10_command_186 (by decide) (by unfold ab_r at *; omega) (fun c186 => absurd c186 (by omega)) (fun c186 => ?_)
                        refine rb_iload_n hV dX10_command_189 rfl rfl ?_
                        refine rb_if_ge hV (tgt := 201) dX10_command_190 (by decide) (by unfold ab_r at *; omega) (fun _ => ?_) (fun z => absurd z (by decide))
                        have hz0 : sbj (s 56) (s 121 0) (fa 0) (fb 0) = 3 := ((cif_neg h9).trans ((cif_neg h10).trans ((cif_neg h11).trans (cif_pos h12))))
                        rw [hfa, hfb] at hz0
                        exact C201 _ _ (Or.inr (Or.inr (Or.inr (Or.inr (⟨rfl, by omega, hz0⟩)))))
                    · rw [if_neg e154]
                      show V 157 [some (.inr (some 49)), none, none, none, none, none] [.inl 0] (WW (ab_s (ab_s (ab_s s 122 fa) 123 fb) 124 fc)) 0 0
                      refine rb_if_eq hV (tgt := 180) dX10_command_157 (by decide) (by unfold ab_r at *; omega) (fun _ => ?_) (fun z => absurd z (by decide))
                      have h12 : ¬ isNm (s 56) (s 121 0) 12 (fa 0) (fb 0) := fun q => e154 (by have q2 := (isNm_12 _ _ _ _).mp q; omega)
                      clear e146 e154
                      refine rb_iconst hV dX10_command_180 ?_
                      refine rb_istore_n hV (L2 := [some (.inr (some 49)), some (.inl (-1)), none, none, none, none]) dX10_command_181 rfl (Nat.le_of_ble_eq_true rfl) rfl ?_
                      refine rb_aload_n hV dX10_command_182 rfl rfl ?_
                      refine rb_get hV (v := .inl (fc 0)) dX10_command_183 ⟨RX10, TX10, 24, rfl, (Nat.le_of_ble_eq_true rfl), lf_X10_100⟩ (gw_49 _) rfl ?_
                      refine rb_if_ge hV (tgt := 201) dX10_command_186 (by decide) (by unfold ab_r at *; omega) (fun c186 => absurd c186 (by omega)) (fun c186 => ?_)
                      refine rb_iload_n hV dX10_command_189 rfl rfl ?_
                      refine rb_if_ge hV (tgt := 201) dX10_command_190 (by decide) (by unfold ab_r at *; omega) (fun z => absurd z (by decide)) (fun _ => ?_)
                      refine rb_aload_n hV dX10_command_193 rfl rfl ?_
                      refine rb_aload_n hV dX10_command_194 rfl rfl ?_
                      refine rb_get hV (v := .inl (fa 0)) dX10_command_195 ⟨RX10, TX10, 24, rfl, (Nat.le_of_ble_eq_true rfl), lf_X10_106⟩ (gw_49 _) rfl ?_
                      refine rb_put hV (C := RX10) (T := TX10) (N := 24) (ci := 9) (j := 14) dX10_command_198 rfl (Nat.le_of_ble_eq_true rfl) lf_X10_100 rfl (gw_49 _) (Nat.le_of_ble_eq_true rfl) (ft_X10_14 _) ((pw_49_14 _ _).trans (congrArg WW (ab_s_same _ 124 _ _))) ?_
                      have hz0 : sbj (s 56) (s 121 0) (fa 0) (fb 0) = -1 := sbj_none h9 h10 h11 h12
                      rw [hfa, hfb] at hz0
                      exact C201 _ _ (Or.inl ⟨rfl, hfa, hz0⟩)
                  · rw [if_neg e146]
                    show V 149 [some (.inr (some 49)), none, none, none, none, none] [.inl 0] (WW (ab_s (ab_s (ab_s s 122 fa) 123 fb) 124 fc)) 0 0
                    refine rb_if_eq hV (tgt := 180) dX10_command_149 (by decide) (by unfold ab_r at *; omega) (fun _ => ?_) (fun z => absurd z (by decide))
                    have h12 : ¬ isNm (s 56) (s 121 0) 12 (fa 0) (fb 0) := fun q => e146 (by have q2 := (isNm_12 _ _ _ _).mp q; omega)
                    clear e146
                    refine rb_iconst hV dX10_command_180 ?_
                    refine rb_istore_n hV (L2 := [some (.inr (some 49)), some (.inl (-1)), none, none, none, none]) dX10_command_181 rfl (Nat.le_of_ble_eq_true rfl) rfl ?_
                    refine rb_aload_n hV dX10_command_182 rfl rfl ?_
                    refine rb_get hV (v := .inl (fc 0)) dX10_command_183 ⟨RX10, TX10, 24, rfl, (Nat.le_of_ble_eq_true rfl), lf_X10_100⟩ (gw_49 _) rfl ?_
                    refine rb_if_ge hV (tgt := 201) dX10_command_186 (by decide) (by unfold ab_r at *; omega) (fun c186 => absurd c186 (by omega)) (fun c186 => ?_)
                    refine rb_iload_n hV dX10_command_189 rfl rfl ?_
                    refine rb_if_ge hV (tgt := 201) dX10_command_190 (by decide) (by unfold ab_r at *; omega) (fun z => absurd z (by decide)) (fun _ => ?_)
                    refine rb_aload_n hV dX10_command_193 rfl rfl ?_
                    refine rb_aload_n hV dX10_command_194 rfl rfl ?_
                    refine rb_get hV (v := .inl (fa 0)) dX10_command_195 ⟨RX10, TX10, 24, rfl, (Nat.le_of_ble_eq_true rfl), lf_X10_106⟩ (gw_49 _) rfl ?_
                    refine rb_put hV (C := RX10) (T := TX10) (N := 24) (ci := 9) (j := 14) dX10_command_198 rfl (Nat.le_of_ble_eq_true rfl) lf_X10_100 rfl (gw_49 _) (Nat.le_of_ble_eq_true rfl) (ft_X10_14 _) ((pw_49_14 _ _).trans (congrArg WW (ab_s_same _ 124 _ _))) ?_
                    have hz0 : sbj (s 56) (s 121 0) (fa 0) (fb 0) = -1 := sbj_none h9 h10 h11 h12
                    rw [hfa, hfb] at hz0
                    exact C201 _ _ (Or.inl ⟨rfl, hfa, hz0⟩)
              · rw [if_neg e103]
                show V 106 [some (.inr (some 49)), none, none, none, none, none] [.inl 0] (WW (ab_s (ab_s (ab_s s 122 fa) 123 fb) 124 fc)) 0 0
                refine rb_if_eq hV (tgt := 137) dX10_command_106 (by decide) (by unfold ab_r at *; omega) (fun _ => ?_) (fun z => absurd z (by decide))
                have h11 : ¬ isNm (s 56) (s 121 0) 11 (fa 0) (fb 0) := fun q => e103 (by have q2 := (isNm_11 _ _ _ _).mp q; omega)
                clear e103
                refine rb_aload_n hV dX10_command_137 rfl rfl ?_
                refine rb_bipush hV dX10_command_138 (by decide) ?_
                refine rb_bipush hV dX10_command_140 (by decide) ?_
                refine rb_bipush hV dX10_command_142 (by decide) ?_
                refine rb_bipush hV dX10_command_144 (by decide) ?_
                refine rb_callV hV (rest := []) dX10_command_146 (c_X10_isPiece (ab_s (ab_s (ab_s s 122 fa) 123 fb) 124 fc) 115 112 97 99 (by decide) (show 0 ≤ (fa 0) by omega) (show (fb 0) ≤ 120 by omega) (show (fa 0) ≤ 121 by omega) (show 0 ≤ (fb 0) by omega) ht) lk_X10_113 rfl (Or.inl ⟨9, _, TX10, 24, gw_49 _, rfl⟩) rfl ⟨rfl, rfl, (Nat.le_of_ble_eq_true rfl), (Nat.le_of_ble_eq_true rfl), (Nat.le_of_ble_eq_true rfl), (Nat.le_of_ble_eq_true rfl)⟩ (Nat.le_of_ble_eq_true rfl) (fun r9 h9 p9 => ?_)
                obtain ⟨rfl, rfl⟩ := p9
                show V 149 [some (.inr (some 49)), none, none, none, none, none] [.inl (if 3 < (fb 0) - (fa 0) ∧ s 56 (fa 0) = 115 ∧ s 56 ((fa 0) + 1) = 112 ∧ s 56 ((fa 0) + 2) = 97 ∧ s 56 ((fa 0) + 3) = 99 then 1 else 0)] (WW (ab_s (ab_s (ab_s s 122 fa) 123 fb) 124 fc)) 0 0
                by_cases e146 : 3 < (fb 0) - (fa 0) ∧ s 56 (fa 0) = 115 ∧ s 56 ((fa 0) + 1) = 112 ∧ s 56 ((fa 0) + 2) = 97 ∧ s 56 ((fa 0) + 3) = 99
                · rw [if_pos e146]
                  show V 149 [some (.inr (some 49)), none, none, none, none, none] [.inl 1] (WW (ab_s (ab_s (ab_s s 122 fa) 123 fb) 124 fc)) 0 0
                  refine rb_if_eq hV (tgt := 180) dX10_command_149 (by decide) (by unfold ab_r at *; omega) (fun z => absurd z (by decide)) (fun _ => ?_)
                  refine rb_aload_n hV dX10_command_152 rfl rfl ?_
                  refine rb_iconst hV dX10_command_153 ?_
                  refine rb_callV hV (rest := []) dX10_command_154 (c_X10_isLong (ab_s (ab_s (ab_s s 122 fa) 123 fb) 124 fc) 5 (by decide) (show 0 ≤ (fa 0) by omega) (show (fb 0) ≤ 120 by omega) (show (fa 0) ≤ 121 by omega) (show 0 ≤ (fb 0) by omega)) lk_X10_117 rfl (Or.inl ⟨9, _, TX10, 24, gw_49 _, rfl⟩) rfl ⟨rfl, rfl, (Nat.le_of_ble_eq_true rfl), (Nat.le_of_ble_eq_true rfl), (Nat.le_of_ble_eq_true rfl), (Nat.le_of_ble_eq_true rfl)⟩ (Nat.le_of_ble_eq_true rfl) (fun r9 h9 p9 => ?_)
                  obtain ⟨rfl, rfl⟩ := p9
                  show V 157 [some (.inr (some 49)), none, none, none, none, none] [.inl (if (fb 0) - (fa 0) = 5 then 1 else 0)] (WW (ab_s (ab_s (ab_s s 122 fa) 123 fb) 124 fc)) 0 0
                  by_cases e154 : (fb 0) - (fa 0) = 5
                  · rw [if_pos e154]
                    show V 157 [some (.inr (some 49)), none, none, none, none, none] [.inl 1] (WW (ab_s (ab_s (ab_s s 122 fa) 123 fb) 124 fc)) 0 0
                    refine rb_if_eq hV (tgt := 180) dX10_command_157 (by decide) (by unfold ab_r at *; omega) (fun z => absurd z (by decide)) (fun _ => ?_)
                    refine rb_aload_n hV dX10_command_160 rfl rfl ?_
                    refine rb_get hV (v := .inr (some 56)) dX10_command_161 ⟨RX10, TX10, 24, rfl, (Nat.le_of_ble_eq_true rfl), lf_X10_38⟩ (gw_49 _) rfl ?_
                    refine rb_aload_n hV dX10_command_164 rfl rfl ?_
                    refine rb_get hV (v := .inl (fa 0)) dX10_command_165 ⟨RX10, TX10, 24, rfl, (Nat.le_of_ble_eq_true rfl), lf_X10_106⟩ (gw_49 _) rfl ?_
                    refine rb_iconst hV dX10_command_168 ?_
                    refine rb_iadd hV dX10_command_169 ?_
                    refine rb_cald hV (f := (s 56)) dX10_command_170 (gw_56 _) (Nat.le_of_ble_eq_true rfl) (by omega) ?_
                    refine rb_bipush hV dX10_command_171 (by decide) ?_
                    have h4r := hx4 (fa 0 + 4)
                    refine rb_icmp_ne hV (tgt := 180) dX10_command_173 (by decide) ⟨(by unfold ab_r at *; omega), (by unfold ab_r at *; omega)⟩ (fun c173 => ?_) (fun c173 => ?_)
                    · have h12 : ¬ isNm (s 56) (s 121 0) 12 (fa 0) (fb 0) := fun q => c173 (by have q2 := (isNm_12 _ _ _ _).mp q; omega)
                      clear e146 e154 c173
                      refine rb_iconst hV dX10_command_180 ?_
                      refine rb_istore_n hV (L2 := [some (.inr (some 49)), some (.inl (-1)), none, none, none, none]) dX10_command_181 rfl (Nat.le_of_ble_eq_true rfl) rfl ?_
                      refine rb_aload_n hV dX10_command_182 rfl rfl ?_
                      refine rb_get hV (v := .inl (fc 0)) dX10_command_183 ⟨RX10, TX10, 24, rfl, (Nat.le_of_ble_eq_true rfl), lf_X10_100⟩ (gw_49 _) rfl ?_
                      refine rb_if_ge hV (tgt := 201) dX10_command_186 (by decide) (by unfold ab_r at *; omega) (fun c186 => absurd c186 (by omega)) (fun c186 => ?_)
                      refine rb_iload_n hV dX10_command_189 rfl rfl ?_
                      refine rb_if_ge hV (tgt := 201) dX10_command_190 (by decide) (by unfold ab_r at *; omega) (fun z => absurd z (by decide)) (fun _ => ?_)
                      refine rb_aload_n hV dX10_command_193 rfl rfl ?_
                      refine rb_aload_n hV dX10_command_194 rfl rfl ?_
                      refine rb_get hV (v := .inl (fa 0)) dX10_command_195 ⟨RX10, TX10, 24, rfl, (Nat.le_of_ble_eq_true rfl), lf_X10_106⟩ (gw_49 _) rfl ?_
                      refine rb_put hV (C := RX10) (T := TX10) (N := 24) (ci := 9) (j := 14) dX10_command_198 rfl (Nat.le_of_ble_eq_true rfl) lf_X10_100 rfl (gw_49 _) (Nat.le_of_ble_eq_true rfl) (ft_X10_14 _) ((pw_49_14 _ _).trans (congrArg WW (ab_s_same _ 124 _ _))) ?_
                      have hz0 : sbj (s 56) (s 121 0) (fa 0) (fb 0) = -1 := sbj_none h9 h10 h11 h12
                      rw [hfa, hfb] at hz0
                      exact C201 _ _ (Or.inl ⟨rfl, hfa, hz0⟩)
                    · have h12 : isNm (s 56) (s 121 0) 12 (fa 0) (fb 0) := (isNm_12 _ _ _ _).mpr (by omega)
                      refine rb_iconst hV dX10_command_176 ?_
                      refine rb_goto hV (tgt := 181) dX10_command_177 (by decide) ?_
                      refine rb_istore_n hV (L2 := [some (.inr (some 49)), some (.inl 3), none, none, none, none]) dX10_command_181 rfl (Nat.le_of_ble_eq_true rfl) rfl ?_
                      refine rb_aload_n hV dX10_command_182 rfl rfl ?_
                      refine rb_get hV (v := .inl (fc 0)) dX10_command_183 ⟨RX10, TX10, 24, rfl, (Nat.le_of_ble_eq_true rfl), lf_X10_100⟩ (gw_49 _) rfl ?_
                      refine rb_if_ge hV (tgt := 201) dX10_command_186 (by decide) (by unfold ab_r at *; omega) (fun c186 => absurd c186 (by omega)) (fun c186 => ?_)
                      refine rb_iload_n hV dX10_command_189 rfl rfl ?_
                      refine rb_if_ge hV (tgt := 201) dX10_command_190 (by decide) (by unfold ab_r at *; omega) (fun _ => ?_) (fun z => absurd z (by decide))
                      have hz0 : sbj (s 56) (s 121 0) (fa 0) (fb 0) = 3 := ((cif_neg h9).trans ((cif_neg h10).trans ((cif_neg h11).trans (cif_pos h12))))
                      rw [hfa, hfb] at hz0
                      exact C201 _ _ (Or.inr (Or.inr (Or.inr (Or.inr (⟨rfl, by omega, hz0⟩)))))
                  · rw [if_neg e154]
                    show V 157 [some (.inr (some 49)), none, none, none, none, none] [.inl 0] (WW (ab_s (ab_s (ab_s s 122 fa) 123 fb) 124 fc)) 0 0
                    refine rb_if_eq hV (tgt := 180) dX10_command_157 (by decide) (by unfold ab_r at *; omega) (fun _ => ?_) (fun z => absurd z (by decide))
                    have h12 : ¬ isNm (s 56) (s 121 0) 12 (fa 0) (fb 0) := fun q => e154 (by have q2 := (isNm_12 _ _ _ _).mp q; omega)
                    clear e146 e154
                    refine rb_iconst hV dX10_command_180 ?_
                    refine rb_istore_n hV (L2 := [some (.inr (some 49)), some (.inl (-1)), none, none, none, none]) dX10_command_181 rfl (Nat.le_of_ble_eq_true rfl) rfl ?_
                    refine rb_aload_n hV dX10_command_182 rfl rfl ?_
                    refine rb_get hV (v := .inl (fc 0)) dX10_command_183 ⟨RX10, TX10, 24, rfl, (Nat.le_of_ble_eq_true rfl), lf_X10_100⟩ (gw_49 _) rfl ?_
                    refine rb_if_ge hV (tgt := 201) dX10_command_186 (by decide) (by unfold ab_r at *; omega) (fun c186 => absurd c186 (by omega)) (fun c186 => ?_)
                    refine rb_iload_n hV dX10_command_189 rfl rfl ?_
                    refine rb_if_ge hV (tgt := 201) dX10_command_190 (by decide) (by unfold ab_r at *; omega) (fun z => absurd z (by decide)) (fun _ => ?_)
                    refine rb_aload_n hV dX10_command_193 rfl rfl ?_
                    refine rb_aload_n hV dX10_command_194 rfl rfl ?_
                    refine rb_get hV (v := .inl (fa 0)) dX10_command_195 ⟨RX10, TX10, 24, rfl, (Nat.le_of_ble_eq_true rfl), lf_X10_106⟩ (gw_49 _) rfl ?_
                    refine rb_put hV (C := RX10) (T := TX10) (N := 24) (ci := 9) (j := 14) dX10_command_198 rfl (Nat.le_of_ble_eq_true rfl) lf_X10_100 rfl (gw_49 _) (Nat.le_of_ble_eq_true rfl) (ft_X10_14 _) ((pw_49_14 _ _).trans (congrArg WW (ab_s_same _ 124 _ _))) ?_
                    have hz0 : sbj (s 56) (s 121 0) (fa 0) (fb 0) = -1 := sbj_none h9 h10 h11 h12
                    rw [hfa, hfb] at hz0
                    exact C201 _ _ (Or.inl ⟨rfl, hfa, hz0⟩)
                · rw [if_neg e146]
                  show V 149 [some (.inr (some 49)), none, none, none, none, none] [.inl 0] (WW (ab_s (ab_s (ab_s s 122 fa) 123 fb) 124 fc)) 0 0
                  refine rb_if_eq hV (tgt := 180) dX10_command_149 (by decide) (by unfold ab_r at *; omega) (fun _ => ?_) (fun z => absurd z (by decide))
                  have h12 : ¬ isNm (s 56) (s 121 0) 12 (fa 0) (fb 0) := fun q => e146 (by have q2 := (isNm_12 _ _ _ _).mp q; omega)
                  clear e146
                  refine rb_iconst hV dX10_command_180 ?_
                  refine rb_istore_n hV (L2 := [some (.inr (some 49)), some (.inl (-1)), none, none, none, none]) dX10_command_181 rfl (Nat.le_of_ble_eq_true rfl) rfl ?_
                  refine rb_aload_n hV dX10_command_182 rfl rfl ?_
                  refine rb_get hV (v := .inl (fc 0)) dX10_command_183 ⟨RX10, TX10, 24, rfl, (Nat.le_of_ble_eq_true rfl), lf_X10_100⟩ (gw_49 _) rfl ?_
                  refine rb_if_ge hV (tgt := 201) dX10_command_186 (by decide) (by unfold ab_r at *; omega) (fun c186 => absurd c186 (by omega)) (fun c186 => ?_)
                  refine rb_iload_n hV dX10_command_189 rfl rfl ?_
                  refine rb_if_ge hV (tgt := 201) dX10_command_190 (by decide) (by unfold ab_r at *; omega) (fun z => absurd z (by decide)) (fun _ => ?_)
                  refine rb_aload_n hV dX10_command_193 rfl rfl ?_
                  refine rb_aload_n hV dX10_command_194 rfl rfl ?_
                  refine rb_get hV (v := .inl (fa 0)) dX10_command_195 ⟨RX10, TX10, 24, rfl, (Nat.le_of_ble_eq_true rfl), lf_X10_106⟩ (gw_49 _) rfl ?_
                  refine rb_put hV (C := RX10) (T := TX10) (N := 24) (ci := 9) (j := 14) dX10_command_198 rfl (Nat.le_of_ble_eq_true rfl) lf_X10_100 rfl (gw_49 _) (Nat.le_of_ble_eq_true rfl) (ft_X10_14 _) ((pw_49_14 _ _).trans (congrArg WW (ab_s_same _ 124 _ _))) ?_
                  have hz0 : sbj (s 56) (s 121 0) (fa 0) (fb 0) = -1 := sbj_none h9 h10 h11 h12
                  rw [hfa, hfb] at hz0
                  exact C201 _ _ (Or.inl ⟨rfl, hfa, hz0⟩)
          · rw [if_neg e76]
            show V 79 [some (.inr (some 49)), none, none, none, none, none] [.inl 0] (WW (ab_s (ab_s (ab_s s 122 fa) 123 fb) 124 fc)) 0 0
            refine rb_if_eq hV (tgt := 94) dX10_command_79 (by decide) (by unfold ab_r at *; omega) (fun _ => ?_) (fun z => absurd z (by decide))
            have h10 : ¬ isNm (s 56) (s 121 0) 10 (fa 0) (fb 0) := fun q => e76 (by have q2 := (isNm_10 _ _ _ _).mp q; omega)
            clear e76
            refine rb_aload_n hV dX10_command_94 rfl rfl ?_
            refine rb_bipush hV dX10_command_95 (by decide) ?_
            refine rb_bipush hV dX10_command_97 (by decide) ?_
            refine rb_bipush hV dX10_command_99 (by decide) ?_
            refine rb_bipush hV dX10_command_101 (by decide) ?_
            refine rb_callV hV (rest := []) dX10_command_103 (c_X10_isPiece (ab_s (ab_s (ab_s s 122 fa) 123 fb) 124 fc) 114 105 118 101 (by decide) (show 0 ≤ (fa 0) by omega) (show (fb 0) ≤ 120 by omega) (show (fa 0) ≤ 121 by omega) (show 0 ≤ (fb 0) by omega) ht) lk_X10_113 rfl (Or.inl ⟨9, _, TX10, 24, gw_49 _, rfl⟩) rfl ⟨rfl, rfl, (Nat.le_of_ble_eq_true rfl), (Nat.le_of_ble_eq_true rfl), (Nat.le_of_ble_eq_true rfl), (Nat.le_of_ble_eq_true rfl)⟩ (Nat.le_of_ble_eq_true rfl) (fun r9 h9 p9 => ?_)
            obtain ⟨rfl, rfl⟩ := p9
            show V 106 [some (.inr (some 49)), none, none, none, none, none] [.inl (if 3 < (fb 0) - (fa 0) ∧ s 56 (fa 0) = 114 ∧ s 56 ((fa 0) + 1) = 105 ∧ s 56 ((fa 0) + 2) = 118 ∧ s 56 ((fa 0) + 3) = 101 then 1 else 0)] (WW (ab_s (ab_s (ab_s s 122 fa) 123 fb) 124 fc)) 0 0
            by_cases e103 : 3 < (fb 0) - (fa 0) ∧ s 56 (fa 0) = 114 ∧ s 56 ((fa 0) + 1) = 105 ∧ s 56 ((fa 0) + 2) = 118 ∧ s 56 ((fa 0) + 3) = 101
            · rw [if_pos e103]
              show V 106 [some (.inr (some 49)), none, none, none, none, none] [.inl 1] (WW (ab_s (ab_s (ab_s s 122 fa) 123 fb) 124 fc)) 0 0
              refine rb_if_eq hV (tgt := 137) dX10_command_106 (by decide) (by unfold ab_r at *; omega) (fun z => absurd z (by decide)) (fun _ => ?_)
              refine rb_aload_n hV dX10_command_109 rfl rfl ?_
              refine rb_iconst hV dX10_command_110 ?_
              refine rb_callV hV (rest := []) dX10_command_111 (c_X10_isLong (ab_s (ab_s (ab_s s 122 fa) 123 fb) 124 fc) 5 (by decide) (show 0 ≤ (fa 0) by omega) (show (fb 0) ≤ 120 by omega) (show (fa 0) ≤ 121 by omega) (show 0 ≤ (fb 0) by omega)) lk_X10_117 rfl (Or.inl ⟨9, _, TX10, 24, gw_49 _, rfl⟩) rfl ⟨rfl, rfl, (Nat.le_of_ble_eq_true rfl), (Nat.le_of_ble_eq_true rfl), (Nat.le_of_ble_eq_true rfl), (Nat.le_of_ble_eq_true rfl)⟩ (Nat.le_of_ble_eq_true rfl) (fun r9 h9 p9 => ?_)
              obtain ⟨rfl, rfl⟩ := p9
              show V 114 [some (.inr (some 49)), none, none, none, none, none] [.inl (if (fb 0) - (fa 0) = 5 then 1 else 0)] (WW (ab_s (ab_s (ab_s s 122 fa) 123 fb) 124 fc)) 0 0
              by_cases e111 : (fb 0) - (fa 0) = 5
              · rw [if_pos e111]
                show V 114 [some (.inr (some 49)), none, none, none, none, none] [.inl 1] (WW (ab_s (ab_s (ab_s s 122 fa) 123 fb) 124 fc)) 0 0
                refine rb_if_eq hV (tgt := 137) dX10_command_114 (by decide) (by unfold ab_r at *; omega) (fun z => absurd z (by decide)) (fun _ => ?_)
                refine rb_aload_n hV dX10_command_117 rfl rfl ?_
                refine rb_get hV (v := .inr (some 56)) dX10_command_118 ⟨RX10, TX10, 24, rfl, (Nat.le_of_ble_eq_true rfl), lf_X10_38⟩ (gw_49 _) rfl ?_
                refine rb_aload_n hV dX10_command_121 rfl rfl ?_
                refine rb_get hV (v := .inl (fa 0)) dX10_command_122 ⟨RX10, TX10, 24, rfl, (Nat.le_of_ble_eq_true rfl), lf_X10_106⟩ (gw_49 _) rfl ?_
                refine rb_iconst hV dX10_command_125 ?_
                refine rb_iadd hV dX10_command_126 ?_
                refine rb_cald hV (f := (s 56)) dX10_command_127 (gw_56 _) (Nat.le_of_ble_eq_true rfl) (by omega) ?_
                refine rb_bipush hV dX10_command_128 (by decide) ?_
                have h4r := hx4 (fa 0 + 4)
                refine rb_icmp_ne hV (tgt := 137) dX10_command_130 (by decide) ⟨(by unfold ab_r at *; omega), (by unfold ab_r at *; omega)⟩ (fun c130 => ?_) (fun c130 => ?_)
                · have h11 : ¬ isNm (s 56) (s 121 0) 11 (fa 0) (fb 0) := fun q => c130 (by have q2 := (isNm_11 _ _ _ _).mp q; omega)
                  clear e103 e111 c130
                  refine rb_aload_n hV dX10_command_137 rfl rfl ?_
                  refine rb_bipush hV dX10_command_138 (by decide) ?_
                  refine rb_bipush hV dX10_command_140 (by decide) ?_
                  refine rb_bipush hV dX10_command_142 (by decide) ?_
                  refine rb_bipush hV dX10_command_144 (by decide) ?_
                  refine rb_callV hV (rest := []) dX10_command_146 (c_X10_isPiece (ab_s (ab_s (ab_s s 122 fa) 123 fb) 124 fc) 115 112 97 99 (by decide) (show 0 ≤ (fa 0) by omega) (show (fb 0) ≤ 120 by omega) (show (fa 0) ≤ 121 by omega) (show 0 ≤ (fb 0) by omega) ht) lk_X10_113 rfl (Or.inl ⟨9, _, TX10, 24, gw_49 _, rfl⟩) rfl ⟨rfl, rfl, (Nat.le_of_ble_eq_true rfl), (Nat.le_of_ble_eq_true rfl), (Nat.le_of_ble_eq_true rfl), (Nat.le_of_ble_eq_true rfl)⟩ (Nat.le_of_ble_eq_true rfl) (fun r9 h9 p9 => ?_)
                  obtain ⟨rfl, rfl⟩ := p9
                  show V 149 [some (.inr (some 49)), none, none, none, none, none] [.inl (if 3 < (fb 0) - (fa 0) ∧ s 56 (fa 0) = 115 ∧ s 56 ((fa 0) + 1) = 112 ∧ s 56 ((fa 0) + 2) = 97 ∧ s 56 ((fa 0) + 3) = 99 then 1 else 0)] (WW (ab_s (ab_s (ab_s s 122 fa) 123 fb) 124 fc)) 0 0
                  by_cases e146 : 3 < (fb 0) - (fa 0) ∧ s 56 (fa 0) = 115 ∧ s 56 ((fa 0) + 1) = 112 ∧ s 56 ((fa 0) + 2) = 97 ∧ s 56 ((fa 0) + 3) = 99
                  · rw [if_pos e146]
                    show V 149 [some (.inr (some 49)), none, none, none, none, none] [.inl 1] (WW (ab_s (ab_s (ab_s s 122 fa) 123 fb) 124 fc)) 0 0
                    refine rb_if_eq hV (tgt := 180) dX10_command_149 (by decide) (by unfold ab_r at *; omega) (fun z => absurd z (by decide)) (fun _ => ?_)
                    refine rb_aload_n hV dX10_command_152 rfl rfl ?_
                    refine rb_iconst hV dX10_command_153 ?_
                    refine rb_callV hV (rest := []) dX10_command_154 (c_X10_isLong (ab_s (ab_s (ab_s s 122 fa) 123 fb) 124 fc) 5 (by decide) (show 0 ≤ (fa 0) by omega) (show (fb 0) ≤ 120 by omega) (show (fa 0) ≤ 121 by omega) (show 0 ≤ (fb 0) by omega)) lk_X10_117 rfl (Or.inl ⟨9, _, TX10, 24, gw_49 _, rfl⟩) rfl ⟨rfl, rfl, (Nat.le_of_ble_eq_true rfl), (Nat.le_of_ble_eq_true rfl), (Nat.le_of_ble_eq_true rfl), (Nat.le_of_ble_eq_true rfl)⟩ (Nat.le_of_ble_eq_true rfl) (fun r9 h9 p9 => ?_)
                    obtain ⟨rfl, rfl⟩ := p9
                    show V 157 [some (.inr (some 49)), none, none, none, none, none] [.inl (if (fb 0) - (fa 0) = 5 then 1 else 0)] (WW (ab_s (ab_s (ab_s s 122 fa) 123 fb) 124 fc)) 0 0
                    by_cases e154 : (fb 0) - (fa 0) = 5
                    · rw [if_pos e154]
                      show V 157 [some (.inr (some 49)), none, none, none, none, none] [.inl 1] (WW (ab_s (ab_s (ab_s s 122 fa) 123 fb) 124 fc)) 0 0
                      refine rb_if_eq hV (tgt := 180) dX10_command_157 (by decide) (by unfold ab_r at *; omega) (fun z => absurd z (by decide)) (fun _ => ?_)
                      refine rb_aload_n hV dX10_command_160 rfl rfl ?_
                      refine rb_get hV (v := .inr (some 56)) dX10_command_161 ⟨RX10, TX10, 24, rfl, (Nat.le_of_ble_eq_true rfl), lf_X10_38⟩ (gw_49 _) rfl ?_
                      refine rb_aload_n hV dX10_command_164 rfl rfl ?_
                      refine rb_get hV (v := .inl (fa 0)) dX10_command_165 ⟨RX10, TX10, 24, rfl, (Nat.le_of_ble_eq_true rfl), lf_X10_106⟩ (gw_49 _) rfl ?_
                      refine rb_iconst hV dX10_command_168 ?_
                      refine rb_iadd hV dX10_command_169 ?_
                      refine rb_cald hV (f := (s 56)) dX10_command_170 (gw_56 _) (Nat.le_of_ble_eq_true rfl) (by omega) ?_
                      refine rb_bipush hV dX10_command_171 (by decide) ?_
                      have h4r := hx4 (fa 0 + 4)
                      refine rb_icmp_ne hV (tgt := 180) dX10_command_173 (by decide) ⟨(by unfold ab_r at *; omega), (by unfold ab_r at *; omega)⟩ (fun c173 => ?_) (fun c173 => ?_)
                      · have h12 : ¬ isNm (s 56) (s 121 0) 12 (fa 0) (fb 0) := fun q => c173 (by have q2 := (isNm_12 _ _ _ _).mp q; omega)
                        clear e146 e154 c173
                        refine rb_iconst hV dX10_command_180 ?_
                        refine rb_istore_n hV (L2 := [some (.inr (some 49)), some (.inl (-1)), none, none, none, none]) dX10_command_181 rfl (Nat.le_of_ble_eq_true rfl) rfl ?_
                        refine rb_aload_n hV dX10_command_182 rfl rfl ?_
                        refine rb_get hV (v := .inl (fc 0)) dX10_command_183 ⟨RX10, TX10, 24, rfl, (Nat.le_of_ble_eq_true rfl), lf_X10_100⟩ (gw_49 _) rfl ?_
                        refine rb_if_ge hV (tgt := 201) dX10_command_186 (by decide) (by unfold ab_r at *; omega) (fun c186 => absurd c186 (by omega)) (fun c186 => ?_)
                        refine rb_iload_n hV dX10_command_189 rfl rfl ?_
                        refine rb_if_ge hV (tgt := 201) dX10_command_190 (by decide) (by unfold ab_r at *; omega) (fun z => absurd z (by decide)) (fun _ => ?_)
                        refine rb_aload_n hV dX10_command_193 rfl rfl ?_
                        refine rb_aload_n hV dX10_command_194 rfl rfl ?_
                        refine rb_get hV (v := .inl (fa 0)) dX10_command_195 ⟨RX10, TX10, 24, rfl, (Nat.le_of_ble_eq_true rfl), lf_X10_106⟩ (gw_49 _) rfl ?_
                        refine rb_put hV (C := RX10) (T := TX10) (N := 24) (ci := 9) (j := 14) dX10_command_198 rfl (Nat.le_of_ble_eq_true rfl) lf_X10_100 rfl (gw_49 _) (Nat.le_of_ble_eq_true rfl) (ft_X10_14 _) ((pw_49_14 _ _).trans (congrArg WW (ab_s_same _ 124 _ _))) ?_
                        have hz0 : sbj (s 56) (s 121 0) (fa 0) (fb 0) = -1 := sbj_none h9 h10 h11 h12
                        rw [hfa, hfb] at hz0
                        exact C201 _ _ (Or.inl ⟨rfl, hfa, hz0⟩)
                      · have h12 : isNm (s 56) (s 121 0) 12 (fa 0) (fb 0) := (isNm_12 _ _ _ _).mpr (by omega)
                        refine rb_iconst hV dX10_command_176 ?_
                        refine rb_goto hV (tgt := 181) dX10_command_177 (by decide) ?_
                        refine rb_istore_n hV (L2 := [some (.inr (some 49)), some (.inl 3), none, none, none, none]) dX10_command_181 rfl (Nat.le_of_ble_eq_true rfl) rfl ?_
                        refine rb_aload_n hV dX10_command_182 rfl rfl ?_
                        refine rb_get hV (v := .inl (fc 0)) dX10_command_183 ⟨RX10, TX10, 24, rfl, (Nat.le_of_ble_eq_true rfl), lf_X10_100⟩ (gw_49 _) rfl ?_
                        refine rb_if_ge hV (tgt := 201) dX10_command_186 (by decide) (by unfold ab_r at *; omega) (fun c186 => absurd c186 (by omega)) (fun c186 => ?_)
                        refine rb_iload_n hV dX10_command_189 rfl rfl ?_
                        refine rb_if_ge hV (tgt := 201) dX10_command_190 (by decide) (by unfold ab_r at *; omega) (fun _ => ?_) (fun z => absurd z (by decide))
                        have hz0 : sbj (s 56) (s 121 0) (fa 0) (fb 0) = 3 := ((cif_neg h9).trans ((cif_neg h10).trans ((cif_neg h11).trans (cif_pos h12))))
                        rw [hfa, hfb] at hz0
                        exact C201 _ _ (Or.inr (Or.inr (Or.inr (Or.inr (⟨rfl, by omega, hz0⟩)))))
                    · rw [if_neg e154]
                      show V 157 [some (.inr (some 49)), none, none, none, none, none] [.inl 0] (WW (ab_s (ab_s (ab_s s 122 fa) 123 fb) 124 fc)) 0 0
                      refine rb_if_eq hV (tgt := 180) dX10_command_157 (by decide) (by unfold ab_r at *; omega) (fun _ => ?_) (fun z => absurd z (by decide))
                      have h12 : ¬ isNm (s 56) (s 121 0) 12 (fa 0) (fb 0) := fun q => e154 (by have q2 := (isNm_12 _ _ _ _).mp q; omega)
                      clear e146 e154
                      refine rb_iconst hV dX10_command_180 ?_
                      refine rb_istore_n hV (L2 := [some (.inr (some 49)), some (.inl (-1)), none, none, none, none]) dX10_command_181 rfl (Nat.le_of_ble_eq_true rfl) rfl ?_
                      refine rb_aload_n hV dX10_command_182 rfl rfl ?_
                      refine rb_get hV (v := .inl (fc 0)) dX10_command_183 ⟨RX10, TX10, 24, rfl, (Nat.le_of_ble_eq_true rfl), lf_X10_100⟩ (gw_49 _) rfl ?_
                      refine rb_if_ge hV (tgt := 201) dX10_command_186 (by decide) (by unfold ab_r at *; omega) (fun c186 => absurd c186 (by omega)) (fun c186 => ?_)
                      refine rb_iload_n hV dX10_command_189 rfl rfl ?_
                      refine rb_if_ge hV (tgt := 201) dX10_command_190 (by decide) (by unfold ab_r at *; omega) (fun z => absurd z (by decide)) (fun _ => ?_)
                      refine rb_aload_n hV dX10_command_193 rfl rfl ?_
                      refine rb_aload_n hV dX10_command_194 rfl rfl ?_
                      refine rb_get hV (v := .inl (fa 0)) dX10_command_195 ⟨RX10, TX10, 24, rfl, (Nat.le_of_ble_eq_true rfl), lf_X10_106⟩ (gw_49 _) rfl ?_
                      refine rb_put hV (C := RX10) (T := TX10) (N := 24) (ci := 9) (j := 14) dX10_command_198 rfl (Nat.le_of_ble_eq_true rfl) lf_X10_100 rfl (gw_49 _) (Nat.le_of_ble_eq_true rfl) (ft_X10_14 _) ((pw_49_14 _ _).trans (congrArg WW (ab_s_same _ 124 _ _))) ?_
                      have hz0 : sbj (s 56) (s 121 0) (fa 0) (fb 0) = -1 := sbj_none h9 h10 h11 h12
                      rw [hfa, hfb] at hz0
                      exact C201 _ _ (Or.inl ⟨rfl, hfa, hz0⟩)
                  · rw [if_neg e146]
                    show V 149 [some (.inr (some 49)), none, none, none, none, none] [.inl 0] (WW (ab_s (ab_s (ab_s s 122 fa) 123 fb) 124 fc)) 0 0
                    refine rb_if_eq hV (tgt := 180) dX10_command_149 (by decide) (by unfold ab_r at *; omega) (fun _ => ?_) (fun z => absurd z (by decide))
                    have h12 : ¬ isNm (s 56) (s 121 0) 12 (fa 0) (fb 0) := fun q => e146 (by have q2 := (isNm_12 _ _ _ _).mp q; omega)
                    clear e146
                    refine rb_iconst hV dX10_command_180 ?_
                    refine rb_istore_n hV (L2 := [some (.inr (some 49)), some (.inl (-1)), none, none, none, none]) dX10_command_181 rfl (Nat.le_of_ble_eq_true rfl) rfl ?_
                    refine rb_aload_n hV dX10_command_182 rfl rfl ?_
                    refine rb_get hV (v := .inl (fc 0)) dX10_command_183 ⟨RX10, TX10, 24, rfl, (Nat.le_of_ble_eq_true rfl), lf_X10_100⟩ (gw_49 _) rfl ?_
                    refine rb_if_ge hV (tgt := 201) dX10_command_186 (by decide) (by unfold ab_r at *; omega) (fun c186 => absurd c186 (by omega)) (fun c186 => ?_)
                    refine rb_iload_n hV dX10_command_189 rfl rfl ?_
                    refine rb_if_ge hV (tgt := 201) dX10_command_190 (by decide) (by unfold ab_r at *; omega) (fun z => absurd z (by decide)) (fun _ => ?_)
                    refine rb_aload_n hV dX10_command_193 rfl rfl ?_
                    refine rb_aload_n hV dX10_command_194 rfl rfl ?_
                    refine rb_get hV (v := .inl (fa 0)) dX10_command_195 ⟨RX10, TX10, 24, rfl, (Nat.le_of_ble_eq_true rfl), lf_X10_106⟩ (gw_49 _) rfl ?_
                    refine rb_put hV (C := RX10) (T := TX10) (N := 24) (ci := 9) (j := 14) dX10_command_198 rfl (Nat.le_of_ble_eq_true rfl) lf_X10_100 rfl (gw_49 _) (Nat.le_of_ble_eq_true rfl) (ft_X10_14 _) ((pw_49_14 _ _).trans (congrArg WW (ab_s_same _ 124 _ _))) ?_
                    have hz0 : sbj (s 56) (s 121 0) (fa 0) (fb 0) = -1 := sbj_none h9 h10 h11 h12
                    rw [hfa, hfb] at hz0
                    exact C201 _ _ (Or.inl ⟨rfl, hfa, hz0⟩)
                · have h11 : isNm (s 56) (s 121 0) 11 (fa 0) (fb 0) := (isNm_11 _ _ _ _).mpr (by omega)
                  refine rb_iconst hV dX10_command_133 ?_
                  refine rb_goto hV (tgt := 181) dX10_command_134 (by decide) ?_
                  refine rb_istore_n hV (L2 := [some (.inr (some 49)), some (.inl 2), none, none, none, none]) dX10_command_181 rfl (Nat.le_of_ble_eq_true rfl) rfl ?_
                  refine rb_aload_n hV dX10_command_182 rfl rfl ?_
                  refine rb_get hV (v := .inl (fc 0)) dX10_command_183 ⟨RX10, TX10, 24, rfl, (Nat.le_of_ble_eq_true rfl), lf_X10_100⟩ (gw_49 _) rfl ?_
                  refine rb_if_ge hV (tgt := 201) dX10_command_186 (by decide) (by unfold ab_r at *; omega) (fun c186 => absurd c186 (by omega)) (fun c186 => ?_)
                  refine rb_iload_n hV dX10_command_189 rfl rfl ?_
                  refine rb_if_ge hV (tgt := 201) dX10_command_190 (by decide) (by unfold ab_r at *; omega) (fun _ => ?_) (fun z => absurd z (by decide))
                  have hz0 : sbj (s 56) (s 121 0) (fa 0) (fb 0) = 2 := ((cif_neg h9).trans ((cif_neg h10).trans (cif_pos h11)))
                  rw [hfa, hfb] at hz0
                  exact C201 _ _ (Or.inr (Or.inr (Or.inr (Or.inl ⟨rfl, by omega, hz0⟩))))
              · rw [if_neg e111]
                show V 114 [some (.inr (some 49)), none, none, none, none, none] [.inl 0] (WW (ab_s (ab_s (ab_s s 122 fa) 123 fb) 124 fc)) 0 0
                refine rb_if_eq hV (tgt := 137) dX10_command_114 (by decide) (by unfold ab_r at *; omega) (fun _ => ?_) (fun z => absurd z (by decide))
                have h11 : ¬ isNm (s 56) (s 121 0) 11 (fa 0) (fb 0) := fun q => e111 (by have q2 := (isNm_11 _ _ _ _).mp q; omega)
                clear e103 e111
                refine rb_aload_n hV dX10_command_137 rfl rfl ?_
                refine rb_bipush hV dX10_command_138 (by decide) ?_
                refine rb_bipush hV dX10_command_140 (by decide) ?_
                refine rb_bipush hV dX10_command_142 (by decide) ?_
                refine rb_bipush hV dX10_command_144 (by decide) ?_
                refine rb_callV hV (rest := []) dX10_command_146 (c_X10_isPiece (ab_s (ab_s (ab_s s 122 fa) 123 fb) 124 fc) 115 112 97 99 (by decide) (show 0 ≤ (fa 0) by omega) (show (fb 0) ≤ 120 by omega) (show (fa 0) ≤ 121 by omega) (show 0 ≤ (fb 0) by omega) ht) lk_X10_113 rfl (Or.inl ⟨9, _, TX10, 24, gw_49 _, rfl⟩) rfl ⟨rfl, rfl, (Nat.le_of_ble_eq_true rfl), (Nat.le_of_ble_eq_true rfl), (Nat.le_of_ble_eq_true rfl), (Nat.le_of_ble_eq_true rfl)⟩ (Nat.le_of_ble_eq_true rfl) (fun r9 h9 p9 => ?_)
                obtain ⟨rfl, rfl⟩ := p9
                show V 149 [some (.inr (some 49)), none, none, none, none, none] [.inl (if 3 < (fb 0) - (fa 0) ∧ s 56 (fa 0) = 115 ∧ s 56 ((fa 0) + 1) = 112 ∧ s 56 ((fa 0) + 2) = 97 ∧ s 56 ((fa 0) + 3) = 99 then 1 else 0)] (WW (ab_s (ab_s (ab_s s 122 fa) 123 fb) 124 fc)) 0 0
                by_cases e146 : 3 < (fb 0) - (fa 0) ∧ s 56 (fa 0) = 115 ∧ s 56 ((fa 0) + 1) = 112 ∧ s 56 ((fa 0) + 2) = 97 ∧ s 56 ((fa 0) + 3) = 99
                · rw [if_pos e146]
                  show V 149 [some (.inr (some 49)), none, none, none, none, none] [.inl 1] (WW (ab_s (ab_s (ab_s s 122 fa) 123 fb) 124 fc)) 0 0
                  refine rb_if_eq hV (tgt := 180) dX10_command_149 (by decide) (by unfold ab_r at *; omega) (fun z => absurd z (by decide)) (fun _ => ?_)
                  refine rb_aload_n hV dX10_command_152 rfl rfl ?_
                  refine rb_iconst hV dX10_command_153 ?_
                  refine rb_callV hV (rest := []) dX10_command_154 (c_X10_isLong (ab_s (ab_s (ab_s s 122 fa) 123 fb) 124 fc) 5 (by decide) (show 0 ≤ (fa 0) by omega) (show (fb 0) ≤ 120 by omega) (show (fa 0) ≤ 121 by omega) (show 0 ≤ (fb 0) by omega)) lk_X10_117 rfl (Or.inl ⟨9, _, TX10, 24, gw_49 _, rfl⟩) rfl ⟨rfl, rfl, (Nat.le_of_ble_eq_true rfl), (Nat.le_of_ble_eq_true rfl), (Nat.le_of_ble_eq_true rfl), (Nat.le_of_ble_eq_true rfl)⟩ (Nat.le_of_ble_eq_true rfl) (fun r9 h9 p9 => ?_)
                  obtain ⟨rfl, rfl⟩ := p9
                  show V 157 [some (.inr (some 49)), none, none, none, none, none] [.inl (if (fb 0) - (fa 0) = 5 then 1 else 0)] (WW (ab_s (ab_s (ab_s s 122 fa) 123 fb) 124 fc)) 0 0
                  by_cases e154 : (fb 0) - (fa 0) = 5
                  · rw [if_pos e154]
                    show V 157 [some (.inr (some 49)), none, none, none, none, none] [.inl 1] (WW (ab_s (ab_s (ab_s s 122 fa) 123 fb) 124 fc)) 0 0
                    refine rb_if_eq hV (tgt := 180) dX10_command_157 (by decide) (by unfold ab_r at *; omega) (fun z => absurd z (by decide)) (fun _ => ?_)
                    refine rb_aload_n hV dX10_command_160 rfl rfl ?_
                    refine rb_get hV (v := .inr (some 56)) dX10_command_161 ⟨RX10, TX10, 24, rfl, (Nat.le_of_ble_eq_true rfl), lf_X10_38⟩ (gw_49 _) rfl ?_
                    refine rb_aload_n hV dX10_command_164 rfl rfl ?_
                    refine rb_get hV (v := .inl (fa 0)) dX10_command_165 ⟨RX10, TX10, 24, rfl, (Nat.le_of_ble_eq_true rfl), lf_X10_106⟩ (gw_49 _) rfl ?_
                    refine rb_iconst hV dX10_command_168 ?_
                    refine rb_iadd hV dX10_command_169 ?_
                    refine rb_cald hV (f := (s 56)) dX10_command_170 (gw_56 _) (Nat.le_of_ble_eq_true rfl) (by omega) ?_
                    refine rb_bipush hV dX10_command_171 (by decide) ?_
                    have h4r := hx4 (fa 0 + 4)
                    refine rb_icmp_ne hV (tgt := 180) dX10_command_173 (by decide) ⟨(by unfold ab_r at *; omega), (by unfold ab_r at *; omega)⟩ (fun c173 => ?_) (fun c173 => ?_)
                    · have h12 : ¬ isNm (s 56) (s 121 0) 12 (fa 0) (fb 0) := fun q => c173 (by have q2 := (isNm_12 _ _ _ _).mp q; omega)
                      clear e146 e154 c173
                      refine rb_iconst hV dX10_command_180 ?_
                      refine rb_istore_n hV (L2 := [some (.inr (some 49)), some (.inl (-1)), none, none, none, none]) dX10_command_181 rfl (Nat.le_of_ble_eq_true rfl) rfl ?_
                      refine rb_aload_n hV dX10_command_182 rfl rfl ?_
                      refine rb_get hV (v := .inl (fc 0)) dX10_command_183 ⟨RX10, TX10, 24, rfl, (Nat.le_of_ble_eq_true rfl), lf_X10_100⟩ (gw_49 _) rfl ?_
                      refine rb_if_ge hV (tgt := 201) dX10_command_186 (by decide) (by unfold ab_r at *; omega) (fun c186 => absurd c186 (by omega)) (fun c186 => ?_)
                      refine rb_iload_n hV dX10_command_189 rfl rfl ?_
                      refine rb_if_ge hV (tgt := 201) dX10_command_190 (by decide) (by unfold ab_r at *; omega) (fun z => absurd z (by decide)) (fun _ => ?_)
                      refine rb_aload_n hV dX10_command_193 rfl rfl ?_
                      refine rb_aload_n hV dX10_command_194 rfl rfl ?_
                      refine rb_get hV (v := .inl (fa 0)) dX10_command_195 ⟨RX10, TX10, 24, rfl, (Nat.le_of_ble_eq_true rfl), lf_X10_106⟩ (gw_49 _) rfl ?_
                      refine rb_put hV (C := RX10) (T := TX10) (N := 24) (ci := 9) (j := 14) dX10_command_198 rfl (Nat.le_of_ble_eq_true rfl) lf_X10_100 rfl (gw_49 _) (Nat.le_of_ble_eq_true rfl) (ft_X10_14 _) ((pw_49_14 _ _).trans (congrArg WW (ab_s_same _ 124 _ _))) ?_
                      have hz0 : sbj (s 56) (s 121 0) (fa 0) (fb 0) = -1 := sbj_none h9 h10 h11 h12
                      rw [hfa, hfb] at hz0
                      exact C201 _ _ (Or.inl ⟨rfl, hfa, hz0⟩)
                    · have h12 : isNm (s 56) (s 121 0) 12 (fa 0) (fb 0) := (isNm_12 _ _ _ _).mpr (by omega)
                      refine rb_iconst hV dX10_command_176 ?_
                      refine rb_goto hV (tgt := 181) dX10_command_177 (by decide) ?_
                      refine rb_istore_n hV (L2 := [some (.inr (some 49)), some (.inl 3), none, none, none, none]) dX10_command_181 rfl (Nat.le_of_ble_eq_true rfl) rfl ?_
                      refine rb_aload_n hV dX10_command_182 rfl rfl ?_
                      refine rb_get hV (v := .inl (fc 0)) dX10_command_183 ⟨RX10, TX10, 24, rfl, (Nat.le_of_ble_eq_true rfl), lf_X10_100⟩ (gw_49 _) rfl ?_
                      refine rb_if_ge hV (tgt := 201) dX10_command_186 (by decide) (by unfold ab_r at *; omega) (fun c186 => absurd c186 (by omega)) (fun c186 => ?_)
                      refine rb_iload_n hV dX10_command_189 rfl rfl ?_
                      refine rb_if_ge hV (tgt := 201) dX10_command_190 (by decide) (by unfold ab_r at *; omega) (fun _ => ?_) (fun z => absurd z (by decide))
                      have hz0 : sbj (s 56) (s 121 0) (fa 0) (fb 0) = 3 := ((cif_neg h9).trans ((cif_neg h10).trans ((cif_neg h11).trans (cif_pos h12))))
                      rw [hfa, hfb] at hz0
                      exact C201 _ _ (Or.inr (Or.inr (Or.inr (Or.inr (⟨rfl, by omega, hz0⟩)))))
                  · rw [if_neg e154]
                    show V 157 [some (.inr (some 49)), none, none, none, none, none] [.inl 0] (WW (ab_s (ab_s (ab_s s 122 fa) 123 fb) 124 fc)) 0 0
                    refine rb_if_eq hV (tgt := 180) dX10_command_157 (by decide) (by unfold ab_r at *; omega) (fun _ => ?_) (fun z => absurd z (by decide))
                    have h12 : ¬ isNm (s 56) (s 121 0) 12 (fa 0) (fb 0) := fun q => e154 (by have q2 := (isNm_12 _ _ _ _).mp q; omega)
                    clear e146 e154
                    refine rb_iconst hV dX10_command_180 ?_
                    refine rb_istore_n hV (L2 := [some (.inr (some 49)), some (.inl (-1)), none, none, none, none]) dX10_command_181 rfl (Nat.le_of_ble_eq_true rfl) rfl ?_
                    refine rb_aload_n hV dX10_command_182 rfl rfl ?_
                    refine rb_get hV (v := .inl (fc 0)) dX10_command_183 ⟨RX10, TX10, 24, rfl, (Nat.le_of_ble_eq_true rfl), lf_X10_100⟩ (gw_49 _) rfl ?_
                    refine rb_if_ge hV (tgt := 201) dX10_command_186 (by decide) (by unfold ab_r at *; omega) (fun c186 => absurd c186 (by omega)) (fun c186 => ?_)
                    refine rb_iload_n hV dX10_command_189 rfl rfl ?_
                    refine rb_if_ge hV (tgt := 201) dX10_command_190 (by decide) (by unfold ab_r at *; omega) (fun z => absurd z (by decide)) (fun _ => ?_)
                    refine rb_aload_n hV dX10_command_193 rfl rfl ?_
                    refine rb_aload_n hV dX10_command_194 rfl rfl ?_
                    refine rb_get hV (v := .inl (fa 0)) dX10_command_195 ⟨RX10, TX10, 24, rfl, (Nat.le_of_ble_eq_true rfl), lf_X10_106⟩ (gw_49 _) rfl ?_
                    refine rb_put hV (C := RX10) (T := TX10) (N := 24) (ci := 9) (j := 14) dX10_command_198 rfl (Nat.le_of_ble_eq_true rfl) lf_X10_100 rfl (gw_49 _) (Nat.le_of_ble_eq_true rfl) (ft_X10_14 _) ((pw_49_14 _ _).trans (congrArg WW (ab_s_same _ 124 _ _))) ?_
                    have hz0 : sbj (s 56) (s 121 0) (fa 0) (fb 0) = -1 := sbj_none h9 h10 h11 h12
                    rw [hfa, hfb] at hz0
                    exact C201 _ _ (Or.inl ⟨rfl, hfa, hz0⟩)
                · rw [if_neg e146]
                  show V 149 [some (.inr (some 49)), none, none, none, none, none] [.inl 0] (WW (ab_s (ab_s (ab_s s 122 fa) 123 fb) 124 fc)) 0 0
                  refine rb_if_eq hV (tgt := 180) dX10_command_149 (by decide) (by unfold ab_r at *; omega) (fun _ => ?_) (fun z => absurd z (by decide))
                  have h12 : ¬ isNm (s 56) (s 121 0) 12 (fa 0) (fb 0) := fun q => e146 (by have q2 := (isNm_12 _ _ _ _).mp q; omega)
                  clear e146
                  refine rb_iconst hV dX10_command_180 ?_
                  refine rb_istore_n hV (L2 := [some (.inr (some 49)), some (.inl (-1)), none, none, none, none]) dX10_command_181 rfl (Nat.le_of_ble_eq_true rfl) rfl ?_
                  refine rb_aload_n hV dX10_command_182 rfl rfl ?_
                  refine rb_get hV (v := .inl (fc 0)) dX10_command_183 ⟨RX10, TX10, 24, rfl, (Nat.le_of_ble_eq_true rfl), lf_X10_100⟩ (gw_49 _) rfl ?_
                  refine rb_if_ge hV (tgt := 201) dX10_command_186 (by decide) (by unfold ab_r at *; omega) (fun c186 => absurd c186 (by omega)) (fun c186 => ?_)
                  refine rb_iload_n hV dX10_command_189 rfl rfl ?_
                  refine rb_if_ge hV (tgt := 201) dX10_command_190 (by decide) (by unfold ab_r at *; omega) (fun z => absurd z (by decide)) (fun _ => ?_)
                  refine rb_aload_n hV dX10_command_193 rfl rfl ?_
                  refine rb_aload_n hV dX10_command_194 rfl rfl ?_
                  refine rb_get hV (v := .inl (fa 0)) dX10_command_195 ⟨RX10, TX10, 24, rfl, (Nat.le_of_ble_eq_true rfl), lf_X10_106⟩ (gw_49 _) rfl ?_
                  refine rb_put hV (C := RX10) (T := TX10) (N := 24) (ci := 9) (j := 14) dX10_command_198 rfl (Nat.le_of_ble_eq_true rfl) lf_X10_100 rfl (gw_49 _) (Nat.le_of_ble_eq_true rfl) (ft_X10_14 _) ((pw_49_14 _ _).trans (congrArg WW (ab_s_same _ 124 _ _))) ?_
                  have hz0 : sbj (s 56) (s 121 0) (fa 0) (fb 0) = -1 := sbj_none h9 h10 h11 h12
                  rw [hfa, hfb] at hz0
                  exact C201 _ _ (Or.inl ⟨rfl, hfa, hz0⟩)
            · rw [if_neg e103]
              show V 106 [some (.inr (some 49)), none, none, none, none, none] [.inl 0] (WW (ab_s (ab_s (ab_s s 122 fa) 123 fb) 124 fc)) 0 0
              refine rb_if_eq hV (tgt := 137) dX10_command_106 (by decide) (by unfold ab_r at *; omega) (fun _ => ?_) (fun z => absurd z (by decide))
              have h11 : ¬ isNm (s 56) (s 121 0) 11 (fa 0) (fb 0) := fun q => e103 (by have q2 := (isNm_11 _ _ _ _).mp q; omega)
              clear e103
              refine rb_aload_n hV dX10_command_137 rfl rfl ?_
              refine rb_bipush hV dX10_command_138 (by decide) ?_
              refine rb_bipush hV dX10_command_140 (by decide) ?_
              refine rb_bipush hV dX10_command_142 (by decide) ?_
              refine rb_bipush hV dX10_command_144 (by decide) ?_
              refine rb_callV hV (rest := []) dX10_command_146 (c_X10_isPiece (ab_s (ab_s (ab_s s 122 fa) 123 fb) 124 fc) 115 112 97 99 (by decide) (show 0 ≤ (fa 0) by omega) (show (fb 0) ≤ 120 by omega) (show (fa 0) ≤ 121 by omega) (show 0 ≤ (fb 0) by omega) ht) lk_X10_113 rfl (Or.inl ⟨9, _, TX10, 24, gw_49 _, rfl⟩) rfl ⟨rfl, rfl, (Nat.le_of_ble_eq_true rfl), (Nat.le_of_ble_eq_true rfl), (Nat.le_of_ble_eq_true rfl), (Nat.le_of_ble_eq_true rfl)⟩ (Nat.le_of_ble_eq_true rfl) (fun r9 h9 p9 => ?_)
              obtain ⟨rfl, rfl⟩ := p9
              show V 149 [some (.inr (some 49)), none, none, none, none, none] [.inl (if 3 < (fb 0) - (fa 0) ∧ s 56 (fa 0) = 115 ∧ s 56 ((fa 0) + 1) = 112 ∧ s 56 ((fa 0) + 2) = 97 ∧ s 56 ((fa 0) + 3) = 99 then 1 else 0)] (WW (ab_s (ab_s (ab_s s 122 fa) 123 fb) 124 fc)) 0 0
              by_cases e146 : 3 < (fb 0) - (fa 0) ∧ s 56 (fa 0) = 115 ∧ s 56 ((fa 0) + 1) = 112 ∧ s 56 ((fa 0) + 2) = 97 ∧ s 56 ((fa 0) + 3) = 99
              · rw [if_pos e146]
                show V 149 [some (.inr (some 49)), none, none, none, none, none] [.inl 1] (WW (ab_s (ab_s (ab_s s 122 fa) 123 fb) 124 fc)) 0 0
                refine rb_if_eq hV (tgt := 180) dX10_command_149 (by decide) (by unfold ab_r at *; omega) (fun z => absurd z (by decide)) (fun _ => ?_)
                refine rb_aload_n hV dX10_command_152 rfl rfl ?_
                refine rb_iconst hV dX10_command_153 ?_
                refine rb_callV hV (rest := []) dX10_command_154 (c_X10_isLong (ab_s (ab_s (ab_s s 122 fa) 123 fb) 124 fc) 5 (by decide) (show 0 ≤ (fa 0) by omega) (show (fb 0) ≤ 120 by omega) (show (fa 0) ≤ 121 by omega) (show 0 ≤ (fb 0) by omega)) lk_X10_117 rfl (Or.inl ⟨9, _, TX10, 24, gw_49 _, rfl⟩) rfl ⟨rfl, rfl, (Nat.le_of_ble_eq_true rfl), (Nat.le_of_ble_eq_true rfl), (Nat.le_of_ble_eq_true rfl), (Nat.le_of_ble_eq_true rfl)⟩ (Nat.le_of_ble_eq_true rfl) (fun r9 h9 p9 => ?_)
                obtain ⟨rfl, rfl⟩ := p9
                show V 157 [some (.inr (some 49)), none, none, none, none, none] [.inl (if (fb 0) - (fa 0) = 5 then 1 else 0)] (WW (ab_s (ab_s (ab_s s 122 fa) 123 fb) 124 fc)) 0 0
                by_cases e154 : (fb 0) - (fa 0) = 5
                · rw [if_pos e154]
                  show V 157 [some (.inr (some 49)), none, none, none, none, none] [.inl 1] (WW (ab_s (ab_s (ab_s s 122 fa) 123 fb) 124 fc)) 0 0
                  refine rb_if_eq hV (tgt := 180) dX10_command_157 (by decide) (by unfold ab_r at *; omega) (fun z => absurd z (by decide)) (fun _ => ?_)
                  refine rb_aload_n hV dX10_command_160 rfl rfl ?_
                  refine rb_get hV (v := .inr (some 56)) dX10_command_161 ⟨RX10, TX10, 24, rfl, (Nat.le_of_ble_eq_true rfl), lf_X10_38⟩ (gw_49 _) rfl ?_
                  refine rb_aload_n hV dX10_command_164 rfl rfl ?_
                  refine rb_get hV (v := .inl (fa 0)) dX10_command_165 ⟨RX10, TX10, 24, rfl, (Nat.le_of_ble_eq_true rfl), lf_X10_106⟩ (gw_49 _) rfl ?_
                  refine rb_iconst hV dX10_command_168 ?_
                  refine rb_iadd hV dX10_command_169 ?_
                  refine rb_cald hV (f := (s 56)) dX10_command_170 (gw_56 _) (Nat.le_of_ble_eq_true rfl) (by omega) ?_
                  refine rb_bipush hV dX10_command_171 (by decide) ?_
                  have h4r := hx4 (fa 0 + 4)
                  refine rb_icmp_ne hV (tgt := 180) dX10_command_173 (by decide) ⟨(by unfold ab_r at *; omega), (by unfold ab_r at *; omega)⟩ (fun c173 => ?_) (fun c173 => ?_)
                  · have h12 : ¬ isNm (s 56) (s 121 0) 12 (fa 0) (fb 0) := fun q => c173 (by have q2 := (isNm_12 _ _ _ _).mp q; omega)
                    clear e146 e154 c173
                    refine rb_iconst hV dX10_command_180 ?_
                    refine rb_istore_n hV (L2 := [some (.inr (some 49)), some (.inl (-1)), none, none, none, none]) dX10_command_181 rfl (Nat.le_of_ble_eq_true rfl) rfl ?_
                    refine rb_aload_n hV dX10_command_182 rfl rfl ?_
                    refine rb_get hV (v := .inl (fc 0)) dX10_command_183 ⟨RX10, TX10, 24, rfl, (Nat.le_of_ble_eq_true rfl), lf_X10_100⟩ (gw_49 _) rfl ?_
                    refine rb_if_ge hV (tgt := 201) dX10_command_186 (by decide) (by unfold ab_r at *; omega) (fun c186 => absurd c186 (by omega)) (fun c186 => ?_)
                    refine rb_iload_n hV dX10_command_189 rfl rfl ?_
                    refine rb_if_ge hV (tgt := 201) dX10_command_190 (by decide) (by unfold ab_r at *; omega) (fun z => absurd z (by decide)) (fun _ => ?_)
                    refine rb_aload_n hV dX10_command_193 rfl rfl ?_
                    refine rb_aload_n hV dX10_command_194 rfl rfl ?_
                    refine rb_get hV (v := .inl (fa 0)) dX10_command_195 ⟨RX10, TX10, 24, rfl, (Nat.le_of_ble_eq_true rfl), lf_X10_106⟩ (gw_49 _) rfl ?_
                    refine rb_put hV (C := RX10) (T := TX10) (N := 24) (ci := 9) (j := 14) dX10_command_198 rfl (Nat.le_of_ble_eq_true rfl) lf_X10_100 rfl (gw_49 _) (Nat.le_of_ble_eq_true rfl) (ft_X10_14 _) ((pw_49_14 _ _).trans (congrArg WW (ab_s_same _ 124 _ _))) ?_
                    have hz0 : sbj (s 56) (s 121 0) (fa 0) (fb 0) = -1 := sbj_none h9 h10 h11 h12
                    rw [hfa, hfb] at hz0
                    exact C201 _ _ (Or.inl ⟨rfl, hfa, hz0⟩)
                  · have h12 : isNm (s 56) (s 121 0) 12 (fa 0) (fb 0) := (isNm_12 _ _ _ _).mpr (by omega)
                    refine rb_iconst hV dX10_command_176 ?_
                    refine rb_goto hV (tgt := 181) dX10_command_177 (by decide) ?_
                    refine rb_istore_n hV (L2 := [some (.inr (some 49)), some (.inl 3), none, none, none, none]) dX10_command_181 rfl (Nat.le_of_ble_eq_true rfl) rfl ?_
                    refine rb_aload_n hV dX10_command_182 rfl rfl ?_
                    refine rb_get hV (v := .inl (fc 0)) dX10_command_183 ⟨RX10, TX10, 24, rfl, (Nat.le_of_ble_eq_true rfl), lf_X10_100⟩ (gw_49 _) rfl ?_
                    refine rb_if_ge hV (tgt := 201) dX10_command_186 (by decide) (by unfold ab_r at *; omega) (fun c186 => absurd c186 (by omega)) (fun c186 => ?_)
                    refine rb_iload_n hV dX10_command_189 rfl rfl ?_
                    refine rb_if_ge hV (tgt := 201) dX10_command_190 (by decide) (by unfold ab_r at *; omega) (fun _ => ?_) (fun z => absurd z (by decide))
                    have hz0 : sbj (s 56) (s 121 0) (fa 0) (fb 0) = 3 := ((cif_neg h9).trans ((cif_neg h10).trans ((cif_neg h11).trans (cif_pos h12))))
                    rw [hfa, hfb] at hz0
                    exact C201 _ _ (Or.inr (Or.inr (Or.inr (Or.inr (⟨rfl, by omega, hz0⟩)))))
                · rw [if_neg e154]
                  show V 157 [some (.inr (some 49)), none, none, none, none, none] [.inl 0] (WW (ab_s (ab_s (ab_s s 122 fa) 123 fb) 124 fc)) 0 0
                  refine rb_if_eq hV (tgt := 180) dX10_command_157 (by decide) (by unfold ab_r at *; omega) (fun _ => ?_) (fun z => absurd z (by decide))
                  have h12 : ¬ isNm (s 56) (s 121 0) 12 (fa 0) (fb 0) := fun q => e154 (by have q2 := (isNm_12 _ _ _ _).mp q; omega)
                  clear e146 e154
                  refine rb_iconst hV dX10_command_180 ?_
                  refine rb_istore_n hV (L2 := [some (.inr (some 49)), some (.inl (-1)), none, none, none, none]) dX10_command_181 rfl (Nat.le_of_ble_eq_true rfl) rfl ?_
                  refine rb_aload_n hV dX10_command_182 rfl rfl ?_
                  refine rb_get hV (v := .inl (fc 0)) dX10_command_183 ⟨RX10, TX10, 24, rfl, (Nat.le_of_ble_eq_true rfl), lf_X10_100⟩ (gw_49 _) rfl ?_
                  refine rb_if_ge hV (tgt := 201) dX10_command_186 (by decide) (by unfold ab_r at *; omega) (fun c186 => absurd c186 (by omega)) (fun c186 => ?_)
                  refine rb_iload_n hV dX10_command_189 rfl rfl ?_
                  refine rb_if_ge hV (tgt := 201) dX10_command_190 (by decide) (by unfold ab_r at *; omega) (fun z => absurd z (by decide)) (fun _ => ?_)
                  refine rb_aload_n hV dX10_command_193 rfl rfl ?_
                  refine rb_aload_n hV dX10_command_194 rfl rfl ?_
                  refine rb_get hV (v := .inl (fa 0)) dX10_command_195 ⟨RX10, TX10, 24, rfl, (Nat.le_of_ble_eq_true rfl), lf_X10_106⟩ (gw_49 _) rfl ?_
                  refine rb_put hV (C := RX10) (T := TX10) (N := 24) (ci := 9) (j := 14) dX10_command_198 rfl (Nat.le_of_ble_eq_true rfl) lf_X10_100 rfl (gw_49 _) (Nat.le_of_ble_eq_true rfl) (ft_X10_14 _) ((pw_49_14 _ _).trans (congrArg WW (ab_s_same _ 124 _ _))) ?_
                  have hz0 : sbj (s 56) (s 121 0) (fa 0) (fb 0) = -1 := sbj_none h9 h10 h11 h12
                  rw [hfa, hfb] at hz0
                  exact C201 _ _ (Or.inl ⟨rfl, hfa, hz0⟩)
              · rw [if_neg e146]
                show V 149 [some (.inr (some 49)), none, none, none, none, none] [.inl 0] (WW (ab_s (ab_s (ab_s s 122 fa) 123 fb) 124 fc)) 0 0
                refine rb_if_eq hV (tgt := 180) dX10_command_149 (by decide) (by unfold ab_r at *; omega) (fun _ => ?_) (fun z => absurd z (by decide))
                have h12 : ¬ isNm (s 56) (s 121 0) 12 (fa 0) (fb 0) := fun q => e146 (by have q2 := (isNm_12 _ _ _ _).mp q; omega)
                clear e146
                refine rb_iconst hV dX10_command_180 ?_
                refine rb_istore_n hV (L2 := [some (.inr (some 49)), some (.inl (-1)), none, none, none, none]) dX10_command_181 rfl (Nat.le_of_ble_eq_true rfl) rfl ?_
                refine rb_aload_n hV dX10_command_182 rfl rfl ?_
                refine rb_get hV (v := .inl (fc 0)) dX10_command_183 ⟨RX10, TX10, 24, rfl, (Nat.le_of_ble_eq_true rfl), lf_X10_100⟩ (gw_49 _) rfl ?_
                refine rb_if_ge hV (tgt := 201) dX10_command_186 (by decide) (by unfold ab_r at *; omega) (fun c186 => absurd c186 (by omega)) (fun c186 => ?_)
                refine rb_iload_n hV dX10_command_189 rfl rfl ?_
                refine rb_if_ge hV (tgt := 201) dX10_command_190 (by decide) (by unfold ab_r at *; omega) (fun z => absurd z (by decide)) (fun _ => ?_)
                refine rb_aload_n hV dX10_command_193 rfl rfl ?_
                refine rb_aload_n hV dX10_command_194 rfl rfl ?_
                refine rb_get hV (v := .inl (fa 0)) dX10_command_195 ⟨RX10, TX10, 24, rfl, (Nat.le_of_ble_eq_true rfl), lf_X10_106⟩ (gw_49 _) rfl ?_
                refine rb_put hV (C := RX10) (T := TX10) (N := 24) (ci := 9) (j := 14) dX10_command_198 rfl (Nat.le_of_ble_eq_true rfl) lf_X10_100 rfl (gw_49 _) (Nat.le_of_ble_eq_true rfl) (ft_X10_14 _) ((pw_49_14 _ _).trans (congrArg WW (ab_s_same _ 124 _ _))) ?_
                have hz0 : sbj (s 56) (s 121 0) (fa 0) (fb 0) = -1 := sbj_none h9 h10 h11 h12
                rw [hfa, hfb] at hz0
                exact C201 _ _ (Or.inl ⟨rfl, hfa, hz0⟩)
      · rw [if_neg e44]
        show V 47 [some (.inr (some 49)), none, none, none, none, none] [.inl 0] (WW (ab_s (ab_s (ab_s s 122 fa) 123 fb) 124 fc)) 0 0
        refine rb_if_eq hV (tgt := 67) dX10_command_47 (by decide) (by unfold ab_r at *; omega) (fun _ => ?_) (fun z => absurd z (by decide))
        have h9 : ¬ isNm (s 56) (s 121 0) 9 (fa 0) (fb 0) := fun q => e44 (by have q2 := (isNm_9 _ _ _ _).mp q; omega)
        clear e35 e44
        refine rb_aload_n hV dX10_command_67 rfl rfl ?_
        refine rb_bipush hV dX10_command_68 (by decide) ?_
        refine rb_bipush hV dX10_command_70 (by decide) ?_
        refine rb_bipush hV dX10_command_72 (by decide) ?_
        refine rb_bipush hV dX10_command_74 (by decide) ?_
        refine rb_callV hV (rest := []) dX10_command_76 (c_X10_isPiece (ab_s (ab_s (ab_s s 122 fa) 123 fb) 124 fc) 104 97 110 103 (by decide) (show 0 ≤ (fa 0) by omega) (show (fb 0) ≤ 120 by omega) (show (fa 0) ≤ 121 by omega) (show 0 ≤ (fb 0) by omega) ht) lk_X10_113 rfl (Or.inl ⟨9, _, TX10, 24, gw_49 _, rfl⟩) rfl ⟨rfl, rfl, (Nat.le_of_ble_eq_true rfl), (Nat.le_of_ble_eq_true rfl), (Nat.le_of_ble_eq_true rfl), (Nat.le_of_ble_eq_true rfl)⟩ (Nat.le_of_ble_eq_true rfl) (fun r9 h9 p9 => ?_)
        obtain ⟨rfl, rfl⟩ := p9
        show V 79 [some (.inr (some 49)), none, none, none, none, none] [.inl (if 3 < (fb 0) - (fa 0) ∧ s 56 (fa 0) = 104 ∧ s 56 ((fa 0) + 1) = 97 ∧ s 56 ((fa 0) + 2) = 110 ∧ s 56 ((fa 0) + 3) = 103 then 1 else 0)] (WW (ab_s (ab_s (ab_s s 122 fa) 123 fb) 124 fc)) 0 0
        by_cases e76 : 3 < (fb 0) - (fa 0) ∧ s 56 (fa 0) = 104 ∧ s 56 ((fa 0) + 1) = 97 ∧ s 56 ((fa 0) + 2) = 110 ∧ s 56 ((fa 0) + 3) = 103
        · rw [if_pos e76]
          show V 79 [some (.inr (some 49)), none, none, none, none, none] [.inl 1] (WW (ab_s (ab_s (ab_s s 122 fa) 123 fb) 124 fc)) 0 0
          refine rb_if_eq hV (tgt := 94) dX10_command_79 (by decide) (by unfold ab_r at *; omega) (fun z => absurd z (by decide)) (fun _ => ?_)
          refine rb_aload_n hV dX10_command_82 rfl rfl ?_
          refine rb_iconst hV dX10_command_83 ?_
          refine rb_callV hV (rest := []) dX10_command_84 (c_X10_isLong (ab_s (ab_s (ab_s s 122 fa) 123 fb) 124 fc) 4 (by decide) (show 0 ≤ (fa 0) by omega) (show (fb 0) ≤ 120 by omega) (show (fa 0) ≤ 121 by omega) (show 0 ≤ (fb 0) by omega)) lk_X10_117 rfl (Or.inl ⟨9, _, TX10, 24, gw_49 _, rfl⟩) rfl ⟨rfl, rfl, (Nat.le_of_ble_eq_true rfl), (Nat.le_of_ble_eq_true rfl), (Nat.le_of_ble_eq_true rfl), (Nat.le_of_ble_eq_true rfl)⟩ (Nat.le_of_ble_eq_true rfl) (fun r9 h9 p9 => ?_)
          obtain ⟨rfl, rfl⟩ := p9
          show V 87 [some (.inr (some 49)), none, none, none, none, none] [.inl (if (fb 0) - (fa 0) = 4 then 1 else 0)] (WW (ab_s (ab_s (ab_s s 122 fa) 123 fb) 124 fc)) 0 0
          by_cases e84 : (fb 0) - (fa 0) = 4
          · rw [if_pos e84]
            show V 87 [some (.inr (some 49)), none, none, none, none, none] [.inl 1] (WW (ab_s (ab_s (ab_s s 122 fa) 123 fb) 124 fc)) 0 0
            refine rb_if_eq hV (tgt := 94) dX10_command_87 (by decide) (by unfold ab_r at *; omega) (fun z => absurd z (by decide)) (fun _ => ?_)
            have h10 : isNm (s 56) (s 121 0) 10 (fa 0) (fb 0) := (isNm_10 _ _ _ _).mpr (by omega)
            refine rb_iconst hV dX10_command_90 ?_
            refine rb_goto hV (tgt := 181) dX10_command_91 (by decide) ?_
            refine rb_istore_n hV (L2 := [some (.inr (some 49)), some (.inl 1), none, none, none, none]) dX10_command_181 rfl (Nat.le_of_ble_eq_true rfl) rfl ?_
            refine rb_aload_n hV dX10_command_182 rfl rfl ?_
            refine rb_get hV (v := .inl (fc 0)) dX10_command_183 ⟨RX10, TX10, 24, rfl, (Nat.le_of_ble_eq_true rfl), lf_X10_100⟩ (gw_49 _) rfl ?_
            refine rb_if_ge hV (tgt := 201) dX10_command_186 (by decide) (by unfold ab_r at *; omega) (fun c186 => absurd c186 (by omega)) (fun c186 => ?_)
            refine rb_iload_n hV dX10_command_189 rfl rfl ?_
            refine rb_if_ge hV (tgt := 201) dX10_command_190 (by decide) (by unfold ab_r at *; omega) (fun _ => ?_) (fun z => absurd z (by decide))
            have hz0 : sbj (s 56) (s 121 0) (fa 0) (fb 0) = 1 := ((cif_neg h9).trans (cif_pos h10))
            rw [hfa, hfb] at hz0
            exact C201 _ _ (Or.inr (Or.inr (Or.inl ⟨rfl, by omega, hz0⟩)))
          · rw [if_neg e84]
            show V 87 [some (.inr (some 49)), none, none, none, none, none] [.inl 0] (WW (ab_s (ab_s (ab_s s 122 fa) 123 fb) 124 fc)) 0 0
            refine rb_if_eq hV (tgt := 94) dX10_command_87 (by decide) (by unfold ab_r at *; omega) (fun _ => ?_) (fun z => absurd z (by decide))
            have h10 : ¬ isNm (s 56) (s 121 0) 10 (fa 0) (fb 0) := fun q => e84 (by have q2 := (isNm_10 _ _ _ _).mp q; omega)
            clear e76 e84
            refine rb_aload_n hV dX10_command_94 rfl rfl ?_
            refine rb_bipush hV dX10_command_95 (by decide) ?_
            refine rb_bipush hV dX10_command_97 (by decide) ?_
            refine rb_bipush hV dX10_command_99 (by decide) ?_
            refine rb_bipush hV dX10_command_101 (by decide) ?_
            refine rb_callV hV (rest := []) dX10_command_103 (c_X10_isPiece (ab_s (ab_s (ab_s s 122 fa) 123 fb) 124 fc) 114 105 118 101 (by decide) (show 0 ≤ (fa 0) by omega) (show (fb 0) ≤ 120 by omega) (show (fa 0) ≤ 121 by omega) (show 0 ≤ (fb 0) by omega) ht) lk_X10_113 rfl (Or.inl ⟨9, _, TX10, 24, gw_49 _, rfl⟩) rfl ⟨rfl, rfl, (Nat.le_of_ble_eq_true rfl), (Nat.le_of_ble_eq_true rfl), (Nat.le_of_ble_eq_true rfl), (Nat.le_of_ble_eq_true rfl)⟩ (Nat.le_of_ble_eq_true rfl) (fun r9 h9 p9 => ?_)
            obtain ⟨rfl, rfl⟩ := p9
            show V 106 [some (.inr (some 49)), none, none, none, none, none] [.inl (if 3 < (fb 0) - (fa 0) ∧ s 56 (fa 0) = 114 ∧ s 56 ((fa 0) + 1) = 105 ∧ s 56 ((fa 0) + 2) = 118 ∧ s 56 ((fa 0) + 3) = 101 then 1 else 0)] (WW (ab_s (ab_s (ab_s s 122 fa) 123 fb) 124 fc)) 0 0
            by_cases e103 : 3 < (fb 0) - (fa 0) ∧ s 56 (fa 0) = 114 ∧ s 56 ((fa 0) + 1) = 105 ∧ s 56 ((fa 0) + 2) = 118 ∧ s 56 ((fa 0) + 3) = 101
            · rw [if_pos e103]
              show V 106 [some (.inr (some 49)), none, none, none, none, none] [.inl 1] (WW (ab_s (ab_s (ab_s s 122 fa) 123 fb) 124 fc)) 0 0
              refine rb_if_eq hV (tgt := 137) dX10_command_106 (by decide) (by unfold ab_r at *; omega) (fun z => absurd z (by decide)) (fun _ => ?_)
              refine rb_aload_n hV dX10_command_109 rfl rfl ?_
              refine rb_iconst hV dX10_command_110 ?_
              refine rb_callV hV (rest := []) dX10_command_111 (c_X10_isLong (ab_s (ab_s (ab_s s 122 fa) 123 fb) 124 fc) 5 (by decide) (show 0 ≤ (fa 0) by omega) (show (fb 0) ≤ 120 by omega) (show (fa 0) ≤ 121 by omega) (show 0 ≤ (fb 0) by omega)) lk_X10_117 rfl (Or.inl ⟨9, _, TX10, 24, gw_49 _, rfl⟩) rfl ⟨rfl, rfl, (Nat.le_of_ble_eq_true rfl), (Nat.le_of_ble_eq_true rfl), (Nat.le_of_ble_eq_true rfl), (Nat.le_of_ble_eq_true rfl)⟩ (Nat.le_of_ble_eq_true rfl) (fun r9 h9 p9 => ?_)
              obtain ⟨rfl, rfl⟩ := p9
              show V 114 [some (.inr (some 49)), none, none, none, none, none] [.inl (if (fb 0) - (fa 0) = 5 then 1 else 0)] (WW (ab_s (ab_s (ab_s s 122 fa) 123 fb) 124 fc)) 0 0
              by_cases e111 : (fb 0) - (fa 0) = 5
              · rw [if_pos e111]
                show V 114 [some (.inr (some 49)), none, none, none, none, none] [.inl 1] (WW (ab_s (ab_s (ab_s s 122 fa) 123 fb) 124 fc)) 0 0
                refine rb_if_eq hV (tgt := 137) dX10_command_114 (by decide) (by unfold ab_r at *; omega) (fun z => absurd z (by decide)) (fun _ => ?_)
                refine rb_aload_n hV dX10_command_117 rfl rfl ?_
                refine rb_get hV (v := .inr (some 56)) dX10_command_118 ⟨RX10, TX10, 24, rfl, (Nat.le_of_ble_eq_true rfl), lf_X10_38⟩ (gw_49 _) rfl ?_
                refine rb_aload_n hV dX10_command_121 rfl rfl ?_
                refine rb_get hV (v := .inl (fa 0)) dX10_command_122 ⟨RX10, TX10, 24, rfl, (Nat.le_of_ble_eq_true rfl), lf_X10_106⟩ (gw_49 _) rfl ?_
                refine rb_iconst hV dX10_command_125 ?_
                refine rb_iadd hV dX10_command_126 ?_
                refine rb_cald hV (f := (s 56)) dX10_command_127 (gw_56 _) (Nat.le_of_ble_eq_true rfl) (by omega) ?_
                refine rb_bipush hV dX10_command_128 (by decide) ?_
                have h4r := hx4 (fa 0 + 4)
                refine rb_icmp_ne hV (tgt := 137) dX10_command_130 (by decide) ⟨(by unfold ab_r at *; omega), (by unfold ab_r at *; omega)⟩ (fun c130 => ?_) (fun c130 => ?_)
                · have h11 : ¬ isNm (s 56) (s 121 0) 11 (fa 0) (fb 0) := fun q => c130 (by have q2 := (isNm_11 _ _ _ _).mp q; omega)
                  clear e103 e111 c130
                  refine rb_aload_n hV dX10_command_137 rfl rfl ?_
                  refine rb_bipush hV dX10_command_138 (by decide) ?_
                  refine rb_bipush hV dX10_command_140 (by decide) ?_
                  refine rb_bipush hV dX10_command_142 (by decide) ?_
                  refine rb_bipush hV dX10_command_144 (by decide) ?_
                  refine rb_callV hV (rest := []) dX10_command_146 (c_X10_isPiece (ab_s (ab_s (ab_s s 122 fa) 123 fb) 124 fc) 115 112 97 99 (by decide) (show 0 ≤ (fa 0) by omega) (show (fb 0) ≤ 120 by omega) (show (fa 0) ≤ 121 by omega) (show 0 ≤ (fb 0) by omega) ht) lk_X10_113 rfl (Or.inl ⟨9, _, TX10, 24, gw_49 _, rfl⟩) rfl ⟨rfl, rfl, (Nat.le_of_ble_eq_true rfl), (Nat.le_of_ble_eq_true rfl), (Nat.le_of_ble_eq_true rfl), (Nat.le_of_ble_eq_true rfl)⟩ (Nat.le_of_ble_eq_true rfl) (fun r9 h9 p9 => ?_)
                  obtain ⟨rfl, rfl⟩ := p9
                  show V 149 [some (.inr (some 49)), none, none, none, none, none] [.inl (if 3 < (fb 0) - (fa 0) ∧ s 56 (fa 0) = 115 ∧ s 56 ((fa 0) + 1) = 112 ∧ s 56 ((fa 0) + 2) = 97 ∧ s 56 ((fa 0) + 3) = 99 then 1 else 0)] (WW (ab_s (ab_s (ab_s s 122 fa) 123 fb) 124 fc)) 0 0
                  by_cases e146 : 3 < (fb 0) - (fa 0) ∧ s 56 (fa 0) = 115 ∧ s 56 ((fa 0) + 1) = 112 ∧ s 56 ((fa 0) + 2) = 97 ∧ s 56 ((fa 0) + 3) = 99
                  · rw [if_pos e146]
                    show V 149 [some (.inr (some 49)), none, none, none, none, none] [.inl 1] (WW (ab_s (ab_s (ab_s s 122 fa) 123 fb) 124 fc)) 0 0
                    refine rb_if_eq hV (tgt := 180) dX10_command_149 (by decide) (by unfold ab_r at *; omega) (fun z => absurd z (by decide)) (fun _ => ?_)
                    refine rb_aload_n hV dX10_command_152 rfl rfl ?_
                    refine rb_iconst hV dX10_command_153 ?_
                    refine rb_callV hV (rest := []) dX10_command_154 (c_X10_isLong (ab_s (ab_s (ab_s s 122 fa) 123 fb) 124 fc) 5 (by decide) (show 0 ≤ (fa 0) by omega) (show (fb 0) ≤ 120 by omega) (show (fa 0) ≤ 121 by omega) (show 0 ≤ (fb 0) by omega)) lk_X10_117 rfl (Or.inl ⟨9, _, TX10, 24, gw_49 _, rfl⟩) rfl ⟨rfl, rfl, (Nat.le_of_ble_eq_true rfl), (Nat.le_of_ble_eq_true rfl), (Nat.le_of_ble_eq_true rfl), (Nat.le_of_ble_eq_true rfl)⟩ (Nat.le_of_ble_eq_true rfl) (fun r9 h9 p9 => ?_)
                    obtain ⟨rfl, rfl⟩ := p9
                    show V 157 [some (.inr (some 49)), none, none, none, none, none] [.inl (if (fb 0) - (fa 0) = 5 then 1 else 0)] (WW (ab_s (ab_s (ab_s s 122 fa) 123 fb) 124 fc)) 0 0
                    by_cases e154 : (fb 0) - (fa 0) = 5
                    · rw [if_pos e154]
                      show V 157 [some (.inr (some 49)), none, none, none, none, none] [.inl 1] (WW (ab_s (ab_s (ab_s s 122 fa) 123 fb) 124 fc)) 0 0
                      refine rb_if_eq hV (tgt := 180) dX10_command_157 (by decide) (by unfold ab_r at *; omega) (fun z => absurd z (by decide)) (fun _ => ?_)
                      refine rb_aload_n hV dX10_command_160 rfl rfl ?_
                      refine rb_get hV (v := .inr (some 56)) dX10_command_161 ⟨RX10, TX10, 24, rfl, (Nat.le_of_ble_eq_true rfl), lf_X10_38⟩ (gw_49 _) rfl ?_
                      refine rb_aload_n hV dX10_command_164 rfl rfl ?_
                      refine rb_get hV (v := .inl (fa 0)) dX10_command_165 ⟨RX10, TX10, 24, rfl, (Nat.le_of_ble_eq_true rfl), lf_X10_106⟩ (gw_49 _) rfl ?_
                      refine rb_iconst hV dX10_command_168 ?_
                      refine rb_iadd hV dX10_command_169 ?_
                      refine rb_cald hV (f := (s 56)) dX10_command_170 (gw_56 _) (Nat.le_of_ble_eq_true rfl) (by omega) ?_
                      refine rb_bipush hV dX10_command_171 (by decide) ?_
                      have h4r := hx4 (fa 0 + 4)
                      refine rb_icmp_ne hV (tgt := 180) dX10_command_173 (by decide) ⟨(by unfold ab_r at *; omega), (by unfold ab_r at *; omega)⟩ (fun c173 => ?_) (fun c173 => ?_)
                      · have h12 : ¬ isNm (s 56) (s 121 0) 12 (fa 0) (fb 0) := fun q => c173 (by have q2 := (isNm_12 _ _ _ _).mp q; omega)
                        clear e146 e154 c173
                        refine rb_iconst hV dX10_command_180 ?_
                        refine rb_istore_n hV (L2 := [some (.inr (some 49)), some (.inl (-1)), none, none, none, none]) dX10_command_181 rfl (Nat.le_of_ble_eq_true rfl) rfl ?_
                        refine rb_aload_n hV dX10_command_182 rfl rfl ?_
                        refine rb_get hV (v := .inl (fc 0)) dX10_command_183 ⟨RX10, TX10, 24, rfl, (Nat.le_of_ble_eq_true rfl), lf_X10_100⟩ (gw_49 _) rfl ?_
                        refine rb_if_ge hV (tgt := 201) dX10_command_186 (by decide) (by unfold ab_r at *; omega) (fun c186 => absurd c186 (by omega)) (fun c186 => ?_)
                        refine rb_iload_n hV dX10_command_189 rfl rfl ?_
                        refine rb_if_ge hV (tgt := 201) dX10_command_190 (by decide) (by unfold ab_r at *; omega) (fun z => absurd z (by decide)) (fun _ => ?_)
                        refine rb_aload_n hV dX10_command_193 rfl rfl ?_
                        refine rb_aload_n hV dX10_command_194 rfl rfl ?_
                        refine rb_get hV (v := .inl (fa 0)) dX10_command_195 ⟨RX10, TX10, 24, rfl, (Nat.le_of_ble_eq_true rfl), lf_X10_106⟩ (gw_49 _) rfl ?_
                        refine rb_put hV (C := RX10) (T := TX10) (N := 24) (ci := 9) (j := 14) dX10_command_198 rfl (Nat.le_of_ble_eq_true rfl) lf_X10_100 rfl (gw_49 _) (Nat.le_of_ble_eq_true rfl) (ft_X10_14 _) ((pw_49_14 _ _).trans (congrArg WW (ab_s_same _ 124 _ _))) ?_
                        have hz0 : sbj (s 56) (s 121 0) (fa 0) (fb 0) = -1 := sbj_none h9 h10 h11 h12
                        rw [hfa, hfb] at hz0
                        exact C201 _ _ (Or.inl ⟨rfl, hfa, hz0⟩)
                      · have h12 : isNm (s 56) (s 121 0) 12 (fa 0) (fb 0) := (isNm_12 _ _ _ _).mpr (by omega)
                        refine rb_iconst hV dX10_command_176 ?_
                        refine rb_goto hV (tgt := 181) dX10_command_177 (by decide) ?_
                        refine rb_istore_n hV (L2 := [some (.inr (some 49)), some (.inl 3), none, none, none, none]) dX10_command_181 rfl (Nat.le_of_ble_eq_true rfl) rfl ?_
                        refine rb_aload_n hV dX10_command_182 rfl rfl ?_
                        refine rb_get hV (v := .inl (fc 0)) dX10_command_183 ⟨RX10, TX10, 24, rfl, (Nat.le_of_ble_eq_true rfl), lf_X10_100⟩ (gw_49 _) rfl ?_
                        refine rb_if_ge hV (tgt := 201) dX10_command_186 (by decide) (by unfold ab_r at *; omega) (fun c186 => absurd c186 (by omega)) (fun c186 => ?_)
                        refine rb_iload_n hV dX10_command_189 rfl rfl ?_
                        refine rb_if_ge hV (tgt := 201) dX10_command_190 (by decide) (by unfold ab_r at *; omega) (fun _ => ?_) (fun z => absurd z (by decide))
                        have hz0 : sbj (s 56) (s 121 0) (fa 0) (fb 0) = 3 := ((cif_neg h9).trans ((cif_neg h10).trans ((cif_neg h11).trans (cif_pos h12))))
                        rw [hfa, hfb] at hz0
                        exact C201 _ _ (Or.inr (Or.inr (Or.inr (Or.inr (⟨rfl, by omega, hz0⟩)))))
                    · rw [if_neg e154]
                      show V 157 [some (.inr (some 49)), none, none, none, none, none] [.inl 0] (WW (ab_s (ab_s (ab_s s 122 fa) 123 fb) 124 fc)) 0 0
                      refine rb_if_eq hV (tgt := 180) dX10_command_157 (by decide) (by unfold ab_r at *; omega) (fun _ => ?_) (fun z => absurd z (by decide))
                      have h12 : ¬ isNm (s 56) (s 121 0) 12 (fa 0) (fb 0) := fun q => e154 (by have q2 := (isNm_12 _ _ _ _).mp q; omega)
                      clear e146 e154
                      refine rb_iconst hV dX10_command_180 ?_
                      refine rb_istore_n hV (L2 := [some (.inr (some 49)), some (.inl (-1)), none, none, none, none]) dX10_command_181 rfl (Nat.le_of_ble_eq_true rfl) rfl ?_
                      refine rb_aload_n hV dX10_command_182 rfl rfl ?_
                      refine rb_get hV (v := .inl (fc 0)) dX10_command_183 ⟨RX10, TX10, 24, rfl, (Nat.le_of_ble_eq_true rfl), lf_X10_100⟩ (gw_49 _) rfl ?_
                      refine rb_if_ge hV (tgt := 201) dX10_command_186 (by decide) (by unfold ab_r at *; omega) (fun c186 => absurd c186 (by omega)) (fun c186 => ?_)
                      refine rb_iload_n hV dX10_command_189 rfl rfl ?_
                      refine rb_if_ge hV (tgt := 201) dX10_command_190 (by decide) (by unfold ab_r at *; omega) (fun z => absurd z (by decide)) (fun _ => ?_)
                      refine rb_aload_n hV dX10_command_193 rfl rfl ?_
                      refine rb_aload_n hV dX10_command_194 rfl rfl ?_
                      refine rb_get hV (v := .inl (fa 0)) dX10_command_195 ⟨RX10, TX10, 24, rfl, (Nat.le_of_ble_eq_true rfl), lf_X10_106⟩ (gw_49 _) rfl ?_
                      refine rb_put hV (C := RX10) (T := TX10) (N := 24) (ci := 9) (j := 14) dX10_command_198 rfl (Nat.le_of_ble_eq_true rfl) lf_X10_100 rfl (gw_49 _) (Nat.le_of_ble_eq_true rfl) (ft_X10_14 _) ((pw_49_14 _ _).trans (congrArg WW (ab_s_same _ 124 _ _))) ?_
                      have hz0 : sbj (s 56) (s 121 0) (fa 0) (fb 0) = -1 := sbj_none h9 h10 h11 h12
                      rw [hfa, hfb] at hz0
                      exact C201 _ _ (Or.inl ⟨rfl, hfa, hz0⟩)
                  · rw [if_neg e146]
                    show V 149 [some (.inr (some 49)), none, none, none, none, none] [.inl 0] (WW (ab_s (ab_s (ab_s s 122 fa) 123 fb) 124 fc)) 0 0
                    refine rb_if_eq hV (tgt := 180) dX10_command_149 (by decide) (by unfold ab_r at *; omega) (fun _ => ?_) (fun z => absurd z (by decide))
                    have h12 : ¬ isNm (s 56) (s 121 0) 12 (fa 0) (fb 0) := fun q => e146 (by have q2 := (isNm_12 _ _ _ _).mp q; omega)
                    clear e146
                    refine rb_iconst hV dX10_command_180 ?_
                    refine rb_istore_n hV (L2 := [some (.inr (some 49)), some (.inl (-1)), none, none, none, none]) dX10_command_181 rfl (Nat.le_of_ble_eq_true rfl) rfl ?_
                    refine rb_aload_n hV dX10_command_182 rfl rfl ?_
                    refine rb_get hV (v := .inl (fc 0)) dX10_command_183 ⟨RX10, TX10, 24, rfl, (Nat.le_of_ble_eq_true rfl), lf_X10_100⟩ (gw_49 _) rfl ?_
                    refine rb_if_ge hV (tgt := 201) dX10_command_186 (by decide) (by unfold ab_r at *; omega) (fun c186 => absurd c186 (by omega)) (fun c186 => ?_)
                    refine rb_iload_n hV dX10_command_189 rfl rfl ?_
                    refine rb_if_ge hV (tgt := 201) dX10_command_190 (by decide) (by unfold ab_r at *; omega) (fun z => absurd z (by decide)) (fun _ => ?_)
                    refine rb_aload_n hV dX10_command_193 rfl rfl ?_
                    refine rb_aload_n hV dX10_command_194 rfl rfl ?_
                    refine rb_get hV (v := .inl (fa 0)) dX10_command_195 ⟨RX10, TX10, 24, rfl, (Nat.le_of_ble_eq_true rfl), lf_X10_106⟩ (gw_49 _) rfl ?_
                    refine rb_put hV (C := RX10) (T := TX10) (N := 24) (ci := 9) (j := 14) dX10_command_198 rfl (Nat.le_of_ble_eq_true rfl) lf_X10_100 rfl (gw_49 _) (Nat.le_of_ble_eq_true rfl) (ft_X10_14 _) ((pw_49_14 _ _).trans (congrArg WW (ab_s_same _ 124 _ _))) ?_
                    have hz0 : sbj (s 56) (s 121 0) (fa 0) (fb 0) = -1 := sbj_none h9 h10 h11 h12
                    rw [hfa, hfb] at hz0
                    exact C201 _ _ (Or.inl ⟨rfl, hfa, hz0⟩)
                · have h11 : isNm (s 56) (s 121 0) 11 (fa 0) (fb 0) := (isNm_11 _ _ _ _).mpr (by omega)
                  refine rb_iconst hV dX10_command_133 ?_
                  refine rb_goto hV (tgt := 181) dX10_command_134 (by decide) ?_
                  refine rb_istore_n hV (L2 := [some (.inr (some 49)), some (.inl 2), none, none, none, none]) dX10_command_181 rfl (Nat.le_of_ble_eq_true rfl) rfl ?_
                  refine rb_aload_n hV dX10_command_182 rfl rfl ?_
                  refine rb_get hV (v := .inl (fc 0)) dX10_command_183 ⟨RX10, TX10, 24, rfl, (Nat.le_of_ble_eq_true rfl), lf_X10_100⟩ (gw_49 _) rfl ?_
                  refine rb_if_ge hV (tgt := 201) dX10_command_186 (by decide) (by unfold ab_r at *; omega) (fun c186 => absurd c186 (by omega)) (fun c186 => ?_)
                  refine rb_iload_n hV dX10_command_189 rfl rfl ?_
                  refine rb_if_ge hV (tgt := 201) dX10_command_190 (by decide) (by unfold ab_r at *; omega) (fun _ => ?_) (fun z => absurd z (by decide))
                  have hz0 : sbj (s 56) (s 121 0) (fa 0) (fb 0) = 2 := ((cif_neg h9).trans ((cif_neg h10).trans (cif_pos h11)))
                  rw [hfa, hfb] at hz0
                  exact C201 _ _ (Or.inr (Or.inr (Or.inr (Or.inl ⟨rfl, by omega, hz0⟩))))
              · rw [if_neg e111]
                show V 114 [some (.inr (some 49)), none, none, none, none, none] [.inl 0] (WW (ab_s (ab_s (ab_s s 122 fa) 123 fb) 124 fc)) 0 0
                refine rb_if_eq hV (tgt := 137) dX10_command_114 (by decide) (by unfold ab_r at *; omega) (fun _ => ?_) (fun z => absurd z (by decide))
                have h11 : ¬ isNm (s 56) (s 121 0) 11 (fa 0) (fb 0) := fun q => e111 (by have q2 := (isNm_11 _ _ _ _).mp q; omega)
                clear e103 e111
                refine rb_aload_n hV dX10_command_137 rfl rfl ?_
                refine rb_bipush hV dX10_command_138 (by decide) ?_
                refine rb_bipush hV dX10_command_140 (by decide) ?_
                refine rb_bipush hV dX10_command_142 (by decide) ?_
                refine rb_bipush hV dX10_command_144 (by decide) ?_
                refine rb_callV hV (rest := []) dX10_command_146 (c_X10_isPiece (ab_s (ab_s (ab_s s 122 fa) 123 fb) 124 fc) 115 112 97 99 (by decide) (show 0 ≤ (fa 0) by omega) (show (fb 0) ≤ 120 by omega) (show (fa 0) ≤ 121 by omega) (show 0 ≤ (fb 0) by omega) ht) lk_X10_113 rfl (Or.inl ⟨9, _, TX10, 24, gw_49 _, rfl⟩) rfl ⟨rfl, rfl, (Nat.le_of_ble_eq_true rfl), (Nat.le_of_ble_eq_true rfl), (Nat.le_of_ble_eq_true rfl), (Nat.le_of_ble_eq_true rfl)⟩ (Nat.le_of_ble_eq_true rfl) (fun r9 h9 p9 => ?_)
                obtain ⟨rfl, rfl⟩ := p9
                show V 149 [some (.inr (some 49)), none, none, none, none, none] [.inl (if 3 < (fb 0) - (fa 0) ∧ s 56 (fa 0) = 115 ∧ s 56 ((fa 0) + 1) = 112 ∧ s 56 ((fa 0) + 2) = 97 ∧ s 56 ((fa 0) + 3) = 99 then 1 else 0)] (WW (ab_s (ab_s (ab_s s 122 fa) 123 fb) 124 fc)) 0 0
                by_cases e146 : 3 < (fb 0) - (fa 0) ∧ s 56 (fa 0) = 115 ∧ s 56 ((fa 0) + 1) = 112 ∧ s 56 ((fa 0) + 2) = 97 ∧ s 56 ((fa 0) + 3) = 99
                · rw [if_pos e146]
                  show V 149 [some (.inr (some 49)), none, none, none, none, none] [.inl 1] (WW (ab_s (ab_s (ab_s s 122 fa) 123 fb) 124 fc)) 0 0
                  refine rb_if_eq hV (tgt := 180) dX10_command_149 (by decide) (by unfold ab_r at *; omega) (fun z => absurd z (by decide)) (fun _ => ?_)
                  refine rb_aload_n hV dX10_command_152 rfl rfl ?_
                  refine rb_iconst hV dX10_command_153 ?_
                  refine rb_callV hV (rest := []) dX10_command_154 (c_X10_isLong (ab_s (ab_s (ab_s s 122 fa) 123 fb) 124 fc) 5 (by decide) (show 0 ≤ (fa 0) by omega) (show (fb 0) ≤ 120 by omega) (show (fa 0) ≤ 121 by omega) (show 0 ≤ (fb 0) by omega)) lk_X10_117 rfl (Or.inl ⟨9, _, TX10, 24, gw_49 _, rfl⟩) rfl ⟨rfl, rfl, (Nat.le_of_ble_eq_true rfl), (Nat.le_of_ble_eq_true rfl), (Nat.le_of_ble_eq_true rfl), (Nat.le_of_ble_eq_true rfl)⟩ (Nat.le_of_ble_eq_true rfl) (fun r9 h9 p9 => ?_)
                  obtain ⟨rfl, rfl⟩ := p9
                  show V 157 [some (.inr (some 49)), none, none, none, none, none] [.inl (if (fb 0) - (fa 0) = 5 then 1 else 0)] (WW (ab_s (ab_s (ab_s s 122 fa) 123 fb) 124 fc)) 0 0
                  by_cases e154 : (fb 0) - (fa 0) = 5
                  · rw [if_pos e154]
                    show V 157 [some (.inr (some 49)), none, none, none, none, none] [.inl 1] (WW (ab_s (ab_s (ab_s s 122 fa) 123 fb) 124 fc)) 0 0
                    refine rb_if_eq hV (tgt := 180) dX10_command_157 (by decide) (by unfold ab_r at *; omega) (fun z => absurd z (by decide)) (fun _ => ?_)
                    refine rb_aload_n hV dX10_command_160 rfl rfl ?_
                    refine rb_get hV (v := .inr (some 56)) dX10_command_161 ⟨RX10, TX10, 24, rfl, (Nat.le_of_ble_eq_true rfl), lf_X10_38⟩ (gw_49 _) rfl ?_
                    refine rb_aload_n hV dX10_command_164 rfl rfl ?_
                    refine rb_get hV (v := .inl (fa 0)) dX10_command_165 ⟨RX10, TX10, 24, rfl, (Nat.le_of_ble_eq_true rfl), lf_X10_106⟩ (gw_49 _) rfl ?_
                    refine rb_iconst hV dX10_command_168 ?_
                    refine rb_iadd hV dX10_command_169 ?_
                    refine rb_cald hV (f := (s 56)) dX10_command_170 (gw_56 _) (Nat.le_of_ble_eq_true rfl) (by omega) ?_
                    refine rb_bipush hV dX10_command_171 (by decide) ?_
                    have h4r := hx4 (fa 0 + 4)
                    refine rb_icmp_ne hV (tgt := 180) dX10_command_173 (by decide) ⟨(by unfold ab_r at *; omega), (by unfold ab_r at *; omega)⟩ (fun c173 => ?_) (fun c173 => ?_)
                    · have h12 : ¬ isNm (s 56) (s 121 0) 12 (fa 0) (fb 0) := fun q => c173 (by have q2 := (isNm_12 _ _ _ _).mp q; omega)
                      clear e146 e154 c173
                      refine rb_iconst hV dX10_command_180 ?_
                      refine rb_istore_n hV (L2 := [some (.inr (some 49)), some (.inl (-1)), none, none, none, none]) dX10_command_181 rfl (Nat.le_of_ble_eq_true rfl) rfl ?_
                      refine rb_aload_n hV dX10_command_182 rfl rfl ?_
                      refine rb_get hV (v := .inl (fc 0)) dX10_command_183 ⟨RX10, TX10, 24, rfl, (Nat.le_of_ble_eq_true rfl), lf_X10_100⟩ (gw_49 _) rfl ?_
                      refine rb_if_ge hV (tgt := 201) dX10_command_186 (by decide) (by unfold ab_r at *; omega) (fun c186 => absurd c186 (by omega)) (fun c186 => ?_)
                      refine rb_iload_n hV dX10_command_189 rfl rfl ?_
                      refine rb_if_ge hV (tgt := 201) dX10_command_190 (by decide) (by unfold ab_r at *; omega) (fun z => absurd z (by decide)) (fun _ => ?_)
                      refine rb_aload_n hV dX10_command_193 rfl rfl ?_
                      refine rb_aload_n hV dX10_command_194 rfl rfl ?_
                      refine rb_get hV (v := .inl (fa 0)) dX10_command_195 ⟨RX10, TX10, 24, rfl, (Nat.le_of_ble_eq_true rfl), lf_X10_106⟩ (gw_49 _) rfl ?_
                      refine rb_put hV (C := RX10) (T := TX10) (N := 24) (ci := 9) (j := 14) dX10_command_198 rfl (Nat.le_of_ble_eq_true rfl) lf_X10_100 rfl (gw_49 _) (Nat.le_of_ble_eq_true rfl) (ft_X10_14 _) ((pw_49_14 _ _).trans (congrArg WW (ab_s_same _ 124 _ _))) ?_
                      have hz0 : sbj (s 56) (s 121 0) (fa 0) (fb 0) = -1 := sbj_none h9 h10 h11 h12
                      rw [hfa, hfb] at hz0
                      exact C201 _ _ (Or.inl ⟨rfl, hfa, hz0⟩)
                    · have h12 : isNm (s 56) (s 121 0) 12 (fa 0) (fb 0) := (isNm_12 _ _ _ _).mpr (by omega)
                      refine rb_iconst hV dX10_command_176 ?_
                      refine rb_goto hV (tgt := 181) dX10_command_177 (by decide) ?_
                      refine rb_istore_n hV (L2 := [some (.inr (some 49)), some (.inl 3), none, none, none, none]) dX10_command_181 rfl (Nat.le_of_ble_eq_true rfl) rfl ?_
                      refine rb_aload_n hV dX10_command_182 rfl rfl ?_
                      refine rb_get hV (v := .inl (fc 0)) dX10_command_183 ⟨RX10, TX10, 24, rfl, (Nat.le_of_ble_eq_true rfl), lf_X10_100⟩ (gw_49 _) rfl ?_
                      refine rb_if_ge hV (tgt := 201) dX10_command_186 (by decide) (by unfold ab_r at *; omega) (fun c186 => absurd c186 (by omega)) (fun c186 => ?_)
                      refine rb_iload_n hV dX10_command_189 rfl rfl ?_
                      refine rb_if_ge hV (tgt := 201) dX10_command_190 (by decide) (by unfold ab_r at *; omega) (fun _ => ?_) (fun z => absurd z (by decide))
                      have hz0 : sbj (s 56) (s 121 0) (fa 0) (fb 0) = 3 := ((cif_neg h9).trans ((cif_neg h10).trans ((cif_neg h11).trans (cif_pos h12))))
                      rw [hfa, hfb] at hz0
                      exact C201 _ _ (Or.inr (Or.inr (Or.inr (Or.inr (⟨rfl, by omega, hz0⟩)))))
                  · rw [if_neg e154]
                    show V 157 [some (.inr (some 49)), none, none, none, none, none] [.inl 0] (WW (ab_s (ab_s (ab_s s 122 fa) 123 fb) 124 fc)) 0 0
                    refine rb_if_eq hV (tgt := 180) dX10_command_157 (by decide) (by unfold ab_r at *; omega) (fun _ => ?_) (fun z => absurd z (by decide))
                    have h12 : ¬ isNm (s 56) (s 121 0) 12 (fa 0) (fb 0) := fun q => e154 (by have q2 := (isNm_12 _ _ _ _).mp q; omega)
                    clear e146 e154
                    refine rb_iconst hV dX10_command_180 ?_
                    refine rb_istore_n hV (L2 := [some (.inr (some 49)), some (.inl (-1)), none, none, none, none]) dX10_command_181 rfl (Nat.le_of_ble_eq_true rfl) rfl ?_
                    refine rb_aload_n hV dX10_command_182 rfl rfl ?_
                    refine rb_get hV (v := .inl (fc 0)) dX10_command_183 ⟨RX10, TX10, 24, rfl, (Nat.le_of_ble_eq_true rfl), lf_X10_100⟩ (gw_49 _) rfl ?_
                    refine rb_if_ge hV (tgt := 201) dX10_command_186 (by decide) (by unfold ab_r at *; omega) (fun c186 => absurd c186 (by omega)) (fun c186 => ?_)
                    refine rb_iload_n hV dX10_command_189 rfl rfl ?_
                    refine rb_if_ge hV (tgt := 201) dX10_command_190 (by decide) (by unfold ab_r at *; omega) (fun z => absurd z (by decide)) (fun _ => ?_)
                    refine rb_aload_n hV dX10_command_193 rfl rfl ?_
                    refine rb_aload_n hV dX10_command_194 rfl rfl ?_
                    refine rb_get hV (v := .inl (fa 0)) dX10_command_195 ⟨RX10, TX10, 24, rfl, (Nat.le_of_ble_eq_true rfl), lf_X10_106⟩ (gw_49 _) rfl ?_
                    refine rb_put hV (C := RX10) (T := TX10) (N := 24) (ci := 9) (j := 14) dX10_command_198 rfl (Nat.le_of_ble_eq_true rfl) lf_X10_100 rfl (gw_49 _) (Nat.le_of_ble_eq_true rfl) (ft_X10_14 _) ((pw_49_14 _ _).trans (congrArg WW (ab_s_same _ 124 _ _))) ?_
                    have hz0 : sbj (s 56) (s 121 0) (fa 0) (fb 0) = -1 := sbj_none h9 h10 h11 h12
                    rw [hfa, hfb] at hz0
                    exact C201 _ _ (Or.inl ⟨rfl, hfa, hz0⟩)
                · rw [if_neg e146]
                  show V 149 [some (.inr (some 49)), none, none, none, none, none] [.inl 0] (WW (ab_s (ab_s (ab_s s 122 fa) 123 fb) 124 fc)) 0 0
                  refine rb_if_eq hV (tgt := 180) dX10_command_149 (by decide) (by unfold ab_r at *; omega) (fun _ => ?_) (fun z => absurd z (by decide))
                  have h12 : ¬ isNm (s 56) (s 121 0) 12 (fa 0) (fb 0) := fun q => e146 (by have q2 := (isNm_12 _ _ _ _).mp q; omega)
                  clear e146
                  refine rb_iconst hV dX10_command_180 ?_
                  refine rb_istore_n hV (L2 := [some (.inr (some 49)), some (.inl (-1)), none, none, none, none]) dX10_command_181 rfl (Nat.le_of_ble_eq_true rfl) rfl ?_
                  refine rb_aload_n hV dX10_command_182 rfl rfl ?_
                  refine rb_get hV (v := .inl (fc 0)) dX10_command_183 ⟨RX10, TX10, 24, rfl, (Nat.le_of_ble_eq_true rfl), lf_X10_100⟩ (gw_49 _) rfl ?_
                  refine rb_if_ge hV (tgt := 201) dX10_command_186 (by decide) (by unfold ab_r at *; omega) (fun c186 => absurd c186 (by omega)) (fun c186 => ?_)
                  refine rb_iload_n hV dX10_command_189 rfl rfl ?_
                  refine rb_if_ge hV (tgt := 201) dX10_command_190 (by decide) (by unfold ab_r at *; omega) (fun z => absurd z (by decide)) (fun _ => ?_)
                  refine rb_aload_n hV dX10_command_193 rfl rfl ?_
                  refine rb_aload_n hV dX10_command_194 rfl rfl ?_
                  refine rb_get hV (v := .inl (fa 0)) dX10_command_195 ⟨RX10, TX10, 24, rfl, (Nat.le_of_ble_eq_true rfl), lf_X10_106⟩ (gw_49 _) rfl ?_
                  refine rb_put hV (C := RX10) (T := TX10) (N := 24) (ci := 9) (j := 14) dX10_command_198 rfl (Nat.le_of_ble_eq_true rfl) lf_X10_100 rfl (gw_49 _) (Nat.le_of_ble_eq_true rfl) (ft_X10_14 _) ((pw_49_14 _ _).trans (congrArg WW (ab_s_same _ 124 _ _))) ?_
                  have hz0 : sbj (s 56) (s 121 0) (fa 0) (fb 0) = -1 := sbj_none h9 h10 h11 h12
                  rw [hfa, hfb] at hz0
                  exact C201 _ _ (Or.inl ⟨rfl, hfa, hz0⟩)
            · rw [if_neg e103]
              show V 106 [some (.inr (some 49)), none, none, none, none, none] [.inl 0] (WW (ab_s (ab_s (ab_s s 122 fa) 123 fb) 124 fc)) 0 0
              refine rb_if_eq hV (tgt := 137) dX10_command_106 (by decide) (by unfold ab_r at *; omega) (fun _ => ?_) (fun z => absurd z (by decide))
              have h11 : ¬ isNm (s 56) (s 121 0) 11 (fa 0) (fb 0) := fun q => e103 (by have q2 := (isNm_11 _ _ _ _).mp q; omega)
              clear e103
              refine rb_aload_n hV dX10_command_137 rfl rfl ?_
              refine rb_bipush hV dX10_command_138 (by decide) ?_
              refine rb_bipush hV dX10_command_140 (by decide) ?_
              refine rb_bipush hV dX10_command_142 (by decide) ?_
              refine rb_bipush hV dX10_command_144 (by decide) ?_
              refine rb_callV hV (rest := []) dX10_command_146 (c_X10_isPiece (ab_s (ab_s (ab_s s 122 fa) 123 fb) 124 fc) 115 112 97 99 (by decide) (show 0 ≤ (fa 0) by omega) (show (fb 0) ≤ 120 by omega) (show (fa 0) ≤ 121 by omega) (show 0 ≤ (fb 0) by omega) ht) lk_X10_113 rfl (Or.inl ⟨9, _, TX10, 24, gw_49 _, rfl⟩) rfl ⟨rfl, rfl, (Nat.le_of_ble_eq_true rfl), (Nat.le_of_ble_eq_true rfl), (Nat.le_of_ble_eq_true rfl), (Nat.le_of_ble_eq_true rfl)⟩ (Nat.le_of_ble_eq_true rfl) (fun r9 h9 p9 => ?_)
              obtain ⟨rfl, rfl⟩ := p9
              show V 149 [some (.inr (some 49)), none, none, none, none, none] [.inl (if 3 < (fb 0) - (fa 0) ∧ s 56 (fa 0) = 115 ∧ s 56 ((fa 0) + 1) = 112 ∧ s 56 ((fa 0) + 2) = 97 ∧ s 56 ((fa 0) + 3) = 99 then 1 else 0)] (WW (ab_s (ab_s (ab_s s 122 fa) 123 fb) 124 fc)) 0 0
              by_cases e146 : 3 < (fb 0) - (fa 0) ∧ s 56 (fa 0) = 115 ∧ s 56 ((fa 0) + 1) = 112 ∧ s 56 ((fa 0) + 2) = 97 ∧ s 56 ((fa 0) + 3) = 99
              · rw [if_pos e146]
                show V 149 [some (.inr (some 49)), none, none, none, none, none] [.inl 1] (WW (ab_s (ab_s (ab_s s 122 fa) 123 fb) 124 fc)) 0 0
                refine rb_if_eq hV (tgt := 180) dX10_command_149 (by decide) (by unfold ab_r at *; omega) (fun z => absurd z (by decide)) (fun _ => ?_)
                refine rb_aload_n hV dX10_command_152 rfl rfl ?_
                refine rb_iconst hV dX10_command_153 ?_
                refine rb_callV hV (rest := []) dX10_command_154 (c_X10_isLong (ab_s (ab_s (ab_s s 122 fa) 123 fb) 124 fc) 5 (by decide) (show 0 ≤ (fa 0) by omega) (show (fb 0) ≤ 120 by omega) (show (fa 0) ≤ 121 by omega) (show 0 ≤ (fb 0) by omega)) lk_X10_117 rfl (Or.inl ⟨9, _, TX10, 24, gw_49 _, rfl⟩) rfl ⟨rfl, rfl, (Nat.le_of_ble_eq_true rfl), (Nat.le_of_ble_eq_true rfl), (Nat.le_of_ble_eq_true rfl), (Nat.le_of_ble_eq_true rfl)⟩ (Nat.le_of_ble_eq_true rfl) (fun r9 h9 p9 => ?_)
                obtain ⟨rfl, rfl⟩ := p9
                show V 157 [some (.inr (some 49)), none, none, none, none, none] [.inl (if (fb 0) - (fa 0) = 5 then 1 else 0)] (WW (ab_s (ab_s (ab_s s 122 fa) 123 fb) 124 fc)) 0 0
                by_cases e154 : (fb 0) - (fa 0) = 5
                · rw [if_pos e154]
                  show V 157 [some (.inr (some 49)), none, none, none, none, none] [.inl 1] (WW (ab_s (ab_s (ab_s s 122 fa) 123 fb) 124 fc)) 0 0
                  refine rb_if_eq hV (tgt := 180) dX10_command_157 (by decide) (by unfold ab_r at *; omega) (fun z => absurd z (by decide)) (fun _ => ?_)
                  refine rb_aload_n hV dX10_command_160 rfl rfl ?_
                  refine rb_get hV (v := .inr (some 56)) dX10_command_161 ⟨RX10, TX10, 24, rfl, (Nat.le_of_ble_eq_true rfl), lf_X10_38⟩ (gw_49 _) rfl ?_
                  refine rb_aload_n hV dX10_command_164 rfl rfl ?_
                  refine rb_get hV (v := .inl (fa 0)) dX10_command_165 ⟨RX10, TX10, 24, rfl, (Nat.le_of_ble_eq_true rfl), lf_X10_106⟩ (gw_49 _) rfl ?_
                  refine rb_iconst hV dX10_command_168 ?_
                  refine rb_iadd hV dX10_command_169 ?_
                  refine rb_cald hV (f := (s 56)) dX10_command_170 (gw_56 _) (Nat.le_of_ble_eq_true rfl) (by omega) ?_
                  refine rb_bipush hV dX10_command_171 (by decide) ?_
                  have h4r := hx4 (fa 0 + 4)
                  refine rb_icmp_ne hV (tgt := 180) dX10_command_173 (by decide) ⟨(by unfold ab_r at *; omega), (by unfold ab_r at *; omega)⟩ (fun c173 => ?_) (fun c173 => ?_)
                  · have h12 : ¬ isNm (s 56) (s 121 0) 12 (fa 0) (fb 0) := fun q => c173 (by have q2 := (isNm_12 _ _ _ _).mp q; omega)
                    clear e146 e154 c173
                    refine rb_iconst hV dX10_command_180 ?_
                    refine rb_istore_n hV (L2 := [some (.inr (some 49)), some (.inl (-1)), none, none, none, none]) dX10_command_181 rfl (Nat.le_of_ble_eq_true rfl) rfl ?_
                    refine rb_aload_n hV dX10_command_182 rfl rfl ?_
                    refine rb_get hV (v := .inl (fc 0)) dX10_command_183 ⟨RX10, TX10, 24, rfl, (Nat.le_of_ble_eq_true rfl), lf_X10_100⟩ (gw_49 _) rfl ?_
                    refine rb_if_ge hV (tgt := 201) dX10_command_186 (by decide) (by unfold ab_r at *; omega) (fun c186 => absurd c186 (by omega)) (fun c186 => ?_)
                    refine rb_iload_n hV dX10_command_189 rfl rfl ?_
                    refine rb_if_ge hV (tgt := 201) dX10_command_190 (by decide) (by unfold ab_r at *; omega) (fun z => absurd z (by decide)) (fun _ => ?_)
                    refine rb_aload_n hV dX10_command_193 rfl rfl ?_
                    refine rb_aload_n hV dX10_command_194 rfl rfl ?_
                    refine rb_get hV (v := .inl (fa 0)) dX10_command_195 ⟨RX10, TX10, 24, rfl, (Nat.le_of_ble_eq_true rfl), lf_X10_106⟩ (gw_49 _) rfl ?_
                    refine rb_put hV (C := RX10) (T := TX10) (N := 24) (ci := 9) (j := 14) dX10_command_198 rfl (Nat.le_of_ble_eq_true rfl) lf_X10_100 rfl (gw_49 _) (Nat.le_of_ble_eq_true rfl) (ft_X10_14 _) ((pw_49_14 _ _).trans (congrArg WW (ab_s_same _ 124 _ _))) ?_
                    have hz0 : sbj (s 56) (s 121 0) (fa 0) (fb 0) = -1 := sbj_none h9 h10 h11 h12
                    rw [hfa, hfb] at hz0
                    exact C201 _ _ (Or.inl ⟨rfl, hfa, hz0⟩)
                  · have h12 : isNm (s 56) (s 121 0) 12 (fa 0) (fb 0) := (isNm_12 _ _ _ _).mpr (by omega)
                    refine rb_iconst hV dX10_command_176 ?_
                    refine rb_goto hV (tgt := 181) dX10_command_177 (by decide) ?_
                    refine rb_istore_n hV (L2 := [some (.inr (some 49)), some (.inl 3), none, none, none, none]) dX10_command_181 rfl (Nat.le_of_ble_eq_true rfl) rfl ?_
                    refine rb_aload_n hV dX10_command_182 rfl rfl ?_
                    refine rb_get hV (v := .inl (fc 0)) dX10_command_183 ⟨RX10, TX10, 24, rfl, (Nat.le_of_ble_eq_true rfl), lf_X10_100⟩ (gw_49 _) rfl ?_
                    refine rb_if_ge hV (tgt := 201) dX10_command_186 (by decide) (by unfold ab_r at *; omega) (fun c186 => absurd c186 (by omega)) (fun c186 => ?_)
                    refine rb_iload_n hV dX10_command_189 rfl rfl ?_
                    refine rb_if_ge hV (tgt := 201) dX10_command_190 (by decide) (by unfold ab_r at *; omega) (fun _ => ?_) (fun z => absurd z (by decide))
                    have hz0 : sbj (s 56) (s 121 0) (fa 0) (fb 0) = 3 := ((cif_neg h9).trans ((cif_neg h10).trans ((cif_neg h11).trans (cif_pos h12))))
                    rw [hfa, hfb] at hz0
                    exact C201 _ _ (Or.inr (Or.inr (Or.inr (Or.inr (⟨rfl, by omega, hz0⟩)))))
                · rw [if_neg e154]
                  show V 157 [some (.inr (some 49)), none, none, none, none, none] [.inl 0] (WW (ab_s (ab_s (ab_s s 122 fa) 123 fb) 124 fc)) 0 0
                  refine rb_if_eq hV (tgt := 180) dX10_command_157 (by decide) (by unfold ab_r at *; omega) (fun _ => ?_) (fun z => absurd z (by decide))
                  have h12 : ¬ isNm (s 56) (s 121 0) 12 (fa 0) (fb 0) := fun q => e154 (by have q2 := (isNm_12 _ _ _ _).mp q; omega)
                  clear e146 e154
                  refine rb_iconst hV dX10_command_180 ?_
                  refine rb_istore_n hV (L2 := [some (.inr (some 49)), some (.inl (-1)), none, none, none, none]) dX10_command_181 rfl (Nat.le_of_ble_eq_true rfl) rfl ?_
                  refine rb_aload_n hV dX10_command_182 rfl rfl ?_
                  refine rb_get hV (v := .inl (fc 0)) dX10_command_183 ⟨RX10, TX10, 24, rfl, (Nat.le_of_ble_eq_true rfl), lf_X10_100⟩ (gw_49 _) rfl ?_
                  refine rb_if_ge hV (tgt := 201) dX10_command_186 (by decide) (by unfold ab_r at *; omega) (fun c186 => absurd c186 (by omega)) (fun c186 => ?_)
                  refine rb_iload_n hV dX10_command_189 rfl rfl ?_
                  refine rb_if_ge hV (tgt := 201) dX10_command_190 (by decide) (by unfold ab_r at *; omega) (fun z => absurd z (by decide)) (fun _ => ?_)
                  refine rb_aload_n hV dX10_command_193 rfl rfl ?_
                  refine rb_aload_n hV dX10_command_194 rfl rfl ?_
                  refine rb_get hV (v := .inl (fa 0)) dX10_command_195 ⟨RX10, TX10, 24, rfl, (Nat.le_of_ble_eq_true rfl), lf_X10_106⟩ (gw_49 _) rfl ?_
                  refine rb_put hV (C := RX10) (T := TX10) (N := 24) (ci := 9) (j := 14) dX10_command_198 rfl (Nat.le_of_ble_eq_true rfl) lf_X10_100 rfl (gw_49 _) (Nat.le_of_ble_eq_true rfl) (ft_X10_14 _) ((pw_49_14 _ _).trans (congrArg WW (ab_s_same _ 124 _ _))) ?_
                  have hz0 : sbj (s 56) (s 121 0) (fa 0) (fb 0) = -1 := sbj_none h9 h10 h11 h12
                  rw [hfa, hfb] at hz0
                  exact C201 _ _ (Or.inl ⟨rfl, hfa, hz0⟩)
              · rw [if_neg e146]
                show V 149 [some (.inr (some 49)), none, none, none, none, none] [.inl 0] (WW (ab_s (ab_s (ab_s s 122 fa) 123 fb) 124 fc)) 0 0
                refine rb_if_eq hV (tgt := 180) dX10_command_149 (by decide) (by unfold ab_r at *; omega) (fun _ => ?_) (fun z => absurd z (by decide))
                have h12 : ¬ isNm (s 56) (s 121 0) 12 (fa 0) (fb 0) := fun q => e146 (by have q2 := (isNm_12 _ _ _ _).mp q; omega)
                clear e146
                refine rb_iconst hV dX10_command_180 ?_
                refine rb_istore_n hV (L2 := [some (.inr (some 49)), some (.inl (-1)), none, none, none, none]) dX10_command_181 rfl (Nat.le_of_ble_eq_true rfl) rfl ?_
                refine rb_aload_n hV dX10_command_182 rfl rfl ?_
                refine rb_get hV (v := .inl (fc 0)) dX10_command_183 ⟨RX10, TX10, 24, rfl, (Nat.le_of_ble_eq_true rfl), lf_X10_100⟩ (gw_49 _) rfl ?_
                refine rb_if_ge hV (tgt := 201) dX10_command_186 (by decide) (by unfold ab_r at *; omega) (fun c186 => absurd c186 (by omega)) (fun c186 => ?_)
                refine rb_iload_n hV dX10_command_189 rfl rfl ?_
                refine rb_if_ge hV (tgt := 201) dX10_command_190 (by decide) (by unfold ab_r at *; omega) (fun z => absurd z (by decide)) (fun _ => ?_)
                refine rb_aload_n hV dX10_command_193 rfl rfl ?_
                refine rb_aload_n hV dX10_command_194 rfl rfl ?_
                refine rb_get hV (v := .inl (fa 0)) dX10_command_195 ⟨RX10, TX10, 24, rfl, (Nat.le_of_ble_eq_true rfl), lf_X10_106⟩ (gw_49 _) rfl ?_
                refine rb_put hV (C := RX10) (T := TX10) (N := 24) (ci := 9) (j := 14) dX10_command_198 rfl (Nat.le_of_ble_eq_true rfl) lf_X10_100 rfl (gw_49 _) (Nat.le_of_ble_eq_true rfl) (ft_X10_14 _) ((pw_49_14 _ _).trans (congrArg WW (ab_s_same _ 124 _ _))) ?_
                have hz0 : sbj (s 56) (s 121 0) (fa 0) (fb 0) = -1 := sbj_none h9 h10 h11 h12
                rw [hfa, hfb] at hz0
                exact C201 _ _ (Or.inl ⟨rfl, hfa, hz0⟩)
        · rw [if_neg e76]
          show V 79 [some (.inr (some 49)), none, none, none, none, none] [.inl 0] (WW (ab_s (ab_s (ab_s s 122 fa) 123 fb) 124 fc)) 0 0
          refine rb_if_eq hV (tgt := 94) dX10_command_79 (by decide) (by unfold ab_r at *; omega) (fun _ => ?_) (fun z => absurd z (by decide))
          have h10 : ¬ isNm (s 56) (s 121 0) 10 (fa 0) (fb 0) := fun q => e76 (by have q2 := (isNm_10 _ _ _ _).mp q; omega)
          clear e76
          refine rb_aload_n hV dX10_command_94 rfl rfl ?_
          refine rb_bipush hV dX10_command_95 (by decide) ?_
          refine rb_bipush hV dX10_command_97 (by decide) ?_
          refine rb_bipush hV dX10_command_99 (by decide) ?_
          refine rb_bipush hV dX10_command_101 (by decide) ?_
          refine rb_callV hV (rest := []) dX10_command_103 (c_X10_isPiece (ab_s (ab_s (ab_s s 122 fa) 123 fb) 124 fc) 114 105 118 101 (by decide) (show 0 ≤ (fa 0) by omega) (show (fb 0) ≤ 120 by omega) (show (fa 0) ≤ 121 by omega) (show 0 ≤ (fb 0) by omega) ht) lk_X10_113 rfl (Or.inl ⟨9, _, TX10, 24, gw_49 _, rfl⟩) rfl ⟨rfl, rfl, (Nat.le_of_ble_eq_true rfl), (Nat.le_of_ble_eq_true rfl), (Nat.le_of_ble_eq_true rfl), (Nat.le_of_ble_eq_true rfl)⟩ (Nat.le_of_ble_eq_true rfl) (fun r9 h9 p9 => ?_)
          obtain ⟨rfl, rfl⟩ := p9
          show V 106 [some (.inr (some 49)), none, none, none, none, none] [.inl (if 3 < (fb 0) - (fa 0) ∧ s 56 (fa 0) = 114 ∧ s 56 ((fa 0) + 1) = 105 ∧ s 56 ((fa 0) + 2) = 118 ∧ s 56 ((fa 0) + 3) = 101 then 1 else 0)] (WW (ab_s (ab_s (ab_s s 122 fa) 123 fb) 124 fc)) 0 0
          by_cases e103 : 3 < (fb 0) - (fa 0) ∧ s 56 (fa 0) = 114 ∧ s 56 ((fa 0) + 1) = 105 ∧ s 56 ((fa 0) + 2) = 118 ∧ s 56 ((fa 0) + 3) = 101
          · rw [if_pos e103]
            show V 106 [some (.inr (some 49)), none, none, none, none, none] [.inl 1] (WW (ab_s (ab_s (ab_s s 122 fa) 123 fb) 124 fc)) 0 0
            refine rb_if_eq hV (tgt := 137) dX10_command_106 (by decide) (by unfold ab_r at *; omega) (fun z => absurd z (by decide)) (fun _ => ?_)
            refine rb_aload_n hV dX10_command_109 rfl rfl ?_
            refine rb_iconst hV dX10_command_110 ?_
            refine rb_callV hV (rest := []) dX10_command_111 (c_X10_isLong (ab_s (ab_s (ab_s s 122 fa) 123 fb) 124 fc) 5 (by decide) (show 0 ≤ (fa 0) by omega) (show (fb 0) ≤ 120 by omega) (show (fa 0) ≤ 121 by omega) (show 0 ≤ (fb 0) by omega)) lk_X10_117 rfl (Or.inl ⟨9, _, TX10, 24, gw_49 _, rfl⟩) rfl ⟨rfl, rfl, (Nat.le_of_ble_eq_true rfl), (Nat.le_of_ble_eq_true rfl), (Nat.le_of_ble_eq_true rfl), (Nat.le_of_ble_eq_true rfl)⟩ (Nat.le_of_ble_eq_true rfl) (fun r9 h9 p9 => ?_)
            obtain ⟨rfl, rfl⟩ := p9
            show V 114 [some (.inr (some 49)), none, none, none, none, none] [.inl (if (fb 0) - (fa 0) = 5 then 1 else 0)] (WW (ab_s (ab_s (ab_s s 122 fa) 123 fb) 124 fc)) 0 0
            by_cases e111 : (fb 0) - (fa 0) = 5
            · rw [if_pos e111]
              show V 114 [some (.inr (some 49)), none, none, none, none, none] [.inl 1] (WW (ab_s (ab_s (ab_s s 122 fa) 123 fb) 124 fc)) 0 0
              refine rb_if_eq hV (tgt := 137) dX10_command_114 (by decide) (by unfold ab_r at *; omega) (fun z => absurd z (by decide)) (fun _ => ?_)
              refine rb_aload_n hV dX10_command_117 rfl rfl ?_
              refine rb_get hV (v := .inr (some 56)) dX10_command_118 ⟨RX10, TX10, 24, rfl, (Nat.le_of_ble_eq_true rfl), lf_X10_38⟩ (gw_49 _) rfl ?_
              refine rb_aload_n hV dX10_command_121 rfl rfl ?_
              refine rb_get hV (v := .inl (fa 0)) dX10_command_122 ⟨RX10, TX10, 24, rfl, (Nat.le_of_ble_eq_true rfl), lf_X10_106⟩ (gw_49 _) rfl ?_
              refine rb_iconst hV dX10_command_125 ?_
              refine rb_iadd hV dX10_command_126 ?_
              refine rb_cald hV (f := (s 56)) dX10_command_127 (gw_56 _) (Nat.le_of_ble_eq_true rfl) (by omega) ?_
              refine rb_bipush hV dX10_command_128 (by decide) ?_
              have h4r := hx4 (fa 0 + 4)
              refine rb_icmp_ne hV (tgt := 137) dX10_command_130 (by decide) ⟨(by unfold ab_r at *; omega), (by unfold ab_r at *; omega)⟩ (fun c130 => ?_) (fun c130 => ?_)
              · have h11 : ¬ isNm (s 56) (s 121 0) 11 (fa 0) (fb 0) := fun q => c130 (by have q2 := (isNm_11 _ _ _ _).mp q; omega)
                clear e103 e111 c130
                refine rb_aload_n hV dX10_command_137 rfl rfl ?_
                refine rb_bipush hV dX10_command_138 (by decide) ?_
                refine rb_bipush hV dX10_command_140 (by decide) ?_
                refine rb_bipush hV dX10_command_142 (by decide) ?_
                refine rb_bipush hV dX10_command_144 (by decide) ?_
                refine rb_callV hV (rest := []) dX10_command_146 (c_X10_isPiece (ab_s (ab_s (ab_s s 122 fa) 123 fb) 124 fc) 115 112 97 99 (by decide) (show 0 ≤ (fa 0) by omega) (show (fb 0) ≤ 120 by omega) (show (fa 0) ≤ 121 by omega) (show 0 ≤ (fb 0) by omega) ht) lk_X10_113 rfl (Or.inl ⟨9, _, TX10, 24, gw_49 _, rfl⟩) rfl ⟨rfl, rfl, (Nat.le_of_ble_eq_true rfl), (Nat.le_of_ble_eq_true rfl), (Nat.le_of_ble_eq_true rfl), (Nat.le_of_ble_eq_true rfl)⟩ (Nat.le_of_ble_eq_true rfl) (fun r9 h9 p9 => ?_)
                obtain ⟨rfl, rfl⟩ := p9
                show V 149 [some (.inr (some 49)), none, none, none, none, none] [.inl (if 3 < (fb 0) - (fa 0) ∧ s 56 (fa 0) = 115 ∧ s 56 ((fa 0) + 1) = 112 ∧ s 56 ((fa 0) + 2) = 97 ∧ s 56 ((fa 0) + 3) = 99 then 1 else 0)] (WW (ab_s (ab_s (ab_s s 122 fa) 123 fb) 124 fc)) 0 0
                by_cases e146 : 3 < (fb 0) - (fa 0) ∧ s 56 (fa 0) = 115 ∧ s 56 ((fa 0) + 1) = 112 ∧ s 56 ((fa 0) + 2) = 97 ∧ s 56 ((fa 0) + 3) = 99
                · rw [if_pos e146]
                  show V 149 [some (.inr (some 49)), none, none, none, none, none] [.inl 1] (WW (ab_s (ab_s (ab_s s 122 fa) 123 fb) 124 fc)) 0 0
                  refine rb_if_eq hV (tgt := 180) dX10_command_149 (by decide) (by unfold ab_r at *; omega) (fun z => absurd z (by decide)) (fun _ => ?_)
                  refine rb_aload_n hV dX10_command_152 rfl rfl ?_
                  refine rb_iconst hV dX10_command_153 ?_
                  refine rb_callV hV (rest := []) dX10_command_154 (c_X10_isLong (ab_s (ab_s (ab_s s 122 fa) 123 fb) 124 fc) 5 (by decide) (show 0 ≤ (fa 0) by omega) (show (fb 0) ≤ 120 by omega) (show (fa 0) ≤ 121 by omega) (show 0 ≤ (fb 0) by omega)) lk_X10_117 rfl (Or.inl ⟨9, _, TX10, 24, gw_49 _, rfl⟩) rfl ⟨rfl, rfl, (Nat.le_of_ble_eq_true rfl), (Nat.le_of_ble_eq_true rfl), (Nat.le_of_ble_eq_true rfl), (Nat.le_of_ble_eq_true rfl)⟩ (Nat.le_of_ble_eq_true rfl) (fun r9 h9 p9 => ?_)
                  obtain ⟨rfl, rfl⟩ := p9
                  show V 157 [some (.inr (some 49)), none, none, none, none, none] [.inl (if (fb 0) - (fa 0) = 5 then 1 else 0)] (WW (ab_s (ab_s (ab_s s 122 fa) 123 fb) 124 fc)) 0 0
                  by_cases e154 : (fb 0) - (fa 0) = 5
                  · rw [if_pos e154]
                    show V 157 [some (.inr (some 49)), none, none, none, none, none] [.inl 1] (WW (ab_s (ab_s (ab_s s 122 fa) 123 fb) 124 fc)) 0 0
                    refine rb_if_eq hV (tgt := 180) dX10_command_157 (by decide) (by unfold ab_r at *; omega) (fun z => absurd z (by decide)) (fun _ => ?_)
                    refine rb_aload_n hV dX10_command_160 rfl rfl ?_
                    refine rb_get hV (v := .inr (some 56)) dX10_command_161 ⟨RX10, TX10, 24, rfl, (Nat.le_of_ble_eq_true rfl), lf_X10_38⟩ (gw_49 _) rfl ?_
                    refine rb_aload_n hV dX10_command_164 rfl rfl ?_
                    refine rb_get hV (v := .inl (fa 0)) dX10_command_165 ⟨RX10, TX10, 24, rfl, (Nat.le_of_ble_eq_true rfl), lf_X10_106⟩ (gw_49 _) rfl ?_
                    refine rb_iconst hV dX10_command_168 ?_
                    refine rb_iadd hV dX10_command_169 ?_
                    refine rb_cald hV (f := (s 56)) dX10_command_170 (gw_56 _) (Nat.le_of_ble_eq_true rfl) (by omega) ?_
                    refine rb_bipush hV dX10_command_171 (by decide) ?_
                    have h4r := hx4 (fa 0 + 4)
                    refine rb_icmp_ne hV (tgt := 180) dX10_command_173 (by decide) ⟨(by unfold ab_r at *; omega), (by unfold ab_r at *; omega)⟩ (fun c173 => ?_) (fun c173 => ?_)
                    · have h12 : ¬ isNm (s 56) (s 121 0) 12 (fa 0) (fb 0) := fun q => c173 (by have q2 := (isNm_12 _ _ _ _).mp q; omega)
                      clear e146 e154 c173
                      refine rb_iconst hV dX10_command_180 ?_
                      refine rb_istore_n hV (L2 := [some (.inr (some 49)), some (.inl (-1)), none, none, none, none]) dX10_command_181 rfl (Nat.le_of_ble_eq_true rfl) rfl ?_
                      refine rb_aload_n hV dX10_command_182 rfl rfl ?_
                      refine rb_get hV (v := .inl (fc 0)) dX10_command_183 ⟨RX10, TX10, 24, rfl, (Nat.le_of_ble_eq_true rfl), lf_X10_100⟩ (gw_49 _) rfl ?_
                      refine rb_if_ge hV (tgt := 201) dX10_command_186 (by decide) (by unfold ab_r at *; omega) (fun c186 => absurd c186 (by omega)) (fun c186 => ?_)
                      refine rb_iload_n hV dX10_command_189 rfl rfl ?_
                      refine rb_if_ge hV (tgt := 201) dX10_command_190 (by decide) (by unfold ab_r at *; omega) (fun z => absurd z (by decide)) (fun _ => ?_)
                      refine rb_aload_n hV dX10_command_193 rfl rfl ?_
                      refine rb_aload_n hV dX10_command_194 rfl rfl ?_
                      refine rb_get hV (v := .inl (fa 0)) dX10_command_195 ⟨RX10, TX10, 24, rfl, (Nat.le_of_ble_eq_true rfl), lf_X10_106⟩ (gw_49 _) rfl ?_
                      refine rb_put hV (C := RX10) (T := TX10) (N := 24) (ci := 9) (j := 14) dX10_command_198 rfl (Nat.le_of_ble_eq_true rfl) lf_X10_100 rfl (gw_49 _) (Nat.le_of_ble_eq_true rfl) (ft_X10_14 _) ((pw_49_14 _ _).trans (congrArg WW (ab_s_same _ 124 _ _))) ?_
                      have hz0 : sbj (s 56) (s 121 0) (fa 0) (fb 0) = -1 := sbj_none h9 h10 h11 h12
                      rw [hfa, hfb] at hz0
                      exact C201 _ _ (Or.inl ⟨rfl, hfa, hz0⟩)
                    · have h12 : isNm (s 56) (s 121 0) 12 (fa 0) (fb 0) := (isNm_12 _ _ _ _).mpr (by omega)
                      refine rb_iconst hV dX10_command_176 ?_
                      refine rb_goto hV (tgt := 181) dX10_command_177 (by decide) ?_
                      refine rb_istore_n hV (L2 := [some (.inr (some 49)), some (.inl 3), none, none, none, none]) dX10_command_181 rfl (Nat.le_of_ble_eq_true rfl) rfl ?_
                      refine rb_aload_n hV dX10_command_182 rfl rfl ?_
                      refine rb_get hV (v := .inl (fc 0)) dX10_command_183 ⟨RX10, TX10, 24, rfl, (Nat.le_of_ble_eq_true rfl), lf_X10_100⟩ (gw_49 _) rfl ?_
                      refine rb_if_ge hV (tgt := 201) dX10_command_186 (by decide) (by unfold ab_r at *; omega) (fun c186 => absurd c186 (by omega)) (fun c186 => ?_)
                      refine rb_iload_n hV dX10_command_189 rfl rfl ?_
                      refine rb_if_ge hV (tgt := 201) dX10_command_190 (by decide) (by unfold ab_r at *; omega) (fun _ => ?_) (fun z => absurd z (by decide))
                      have hz0 : sbj (s 56) (s 121 0) (fa 0) (fb 0) = 3 := ((cif_neg h9).trans ((cif_neg h10).trans ((cif_neg h11).trans (cif_pos h12))))
                      rw [hfa, hfb] at hz0
                      exact C201 _ _ (Or.inr (Or.inr (Or.inr (Or.inr (⟨rfl, by omega, hz0⟩)))))
                  · rw [if_neg e154]
                    show V 157 [some (.inr (some 49)), none, none, none, none, none] [.inl 0] (WW (ab_s (ab_s (ab_s s 122 fa) 123 fb) 124 fc)) 0 0
                    refine rb_if_eq hV (tgt := 180) dX10_command_157 (by decide) (by unfold ab_r at *; omega) (fun _ => ?_) (fun z => absurd z (by decide))
                    have h12 : ¬ isNm (s 56) (s 121 0) 12 (fa 0) (fb 0) := fun q => e154 (by have q2 := (isNm_12 _ _ _ _).mp q; omega)
                    clear e146 e154
                    refine rb_iconst hV dX10_command_180 ?_
                    refine rb_istore_n hV (L2 := [some (.inr (some 49)), some (.inl (-1)), none, none, none, none]) dX10_command_181 rfl (Nat.le_of_ble_eq_true rfl) rfl ?_
                    refine rb_aload_n hV dX10_command_182 rfl rfl ?_
                    refine rb_get hV (v := .inl (fc 0)) dX10_command_183 ⟨RX10, TX10, 24, rfl, (Nat.le_of_ble_eq_true rfl), lf_X10_100⟩ (gw_49 _) rfl ?_
                    refine rb_if_ge hV (tgt := 201) dX10_command_186 (by decide) (by unfold ab_r at *; omega) (fun c186 => absurd c186 (by omega)) (fun c186 => ?_)
                    refine rb_iload_n hV dX10_command_189 rfl rfl ?_
                    refine rb_if_ge hV (tgt := 201) dX10_command_190 (by decide) (by unfold ab_r at *; omega) (fun z => absurd z (by decide)) (fun _ => ?_)
                    refine rb_aload_n hV dX10_command_193 rfl rfl ?_
                    refine rb_aload_n hV dX10_command_194 rfl rfl ?_
                    refine rb_get hV (v := .inl (fa 0)) dX10_command_195 ⟨RX10, TX10, 24, rfl, (Nat.le_of_ble_eq_true rfl), lf_X10_106⟩ (gw_49 _) rfl ?_
                    refine rb_put hV (C := RX10) (T := TX10) (N := 24) (ci := 9) (j := 14) dX10_command_198 rfl (Nat.le_of_ble_eq_true rfl) lf_X10_100 rfl (gw_49 _) (Nat.le_of_ble_eq_true rfl) (ft_X10_14 _) ((pw_49_14 _ _).trans (congrArg WW (ab_s_same _ 124 _ _))) ?_
                    have hz0 : sbj (s 56) (s 121 0) (fa 0) (fb 0) = -1 := sbj_none h9 h10 h11 h12
                    rw [hfa, hfb] at hz0
                    exact C201 _ _ (Or.inl ⟨rfl, hfa, hz0⟩)
                · rw [if_neg e146]
                  show V 149 [some (.inr (some 49)), none, none, none, none, none] [.inl 0] (WW (ab_s (ab_s (ab_s s 122 fa) 123 fb) 124 fc)) 0 0
                  refine rb_if_eq hV (tgt := 180) dX10_command_149 (by decide) (by unfold ab_r at *; omega) (fun _ => ?_) (fun z => absurd z (by decide))
                  have h12 : ¬ isNm (s 56) (s 121 0) 12 (fa 0) (fb 0) := fun q => e146 (by have q2 := (isNm_12 _ _ _ _).mp q; omega)
                  clear e146
                  refine rb_iconst hV dX10_command_180 ?_
                  refine rb_istore_n hV (L2 := [some (.inr (some 49)), some (.inl (-1)), none, none, none, none]) dX10_command_181 rfl (Nat.le_of_ble_eq_true rfl) rfl ?_
                  refine rb_aload_n hV dX10_command_182 rfl rfl ?_
                  refine rb_get hV (v := .inl (fc 0)) dX10_command_183 ⟨RX10, TX10, 24, rfl, (Nat.le_of_ble_eq_true rfl), lf_X10_100⟩ (gw_49 _) rfl ?_
                  refine rb_if_ge hV (tgt := 201) dX10_command_186 (by decide) (by unfold ab_r at *; omega) (fun c186 => absurd c186 (by omega)) (fun c186 => ?_)
                  refine rb_iload_n hV dX10_command_189 rfl rfl ?_
                  refine rb_if_ge hV (tgt := 201) dX10_command_190 (by decide) (by unfold ab_r at *; omega) (fun z => absurd z (by decide)) (fun _ => ?_)
                  refine rb_aload_n hV dX10_command_193 rfl rfl ?_
                  refine rb_aload_n hV dX10_command_194 rfl rfl ?_
                  refine rb_get hV (v := .inl (fa 0)) dX10_command_195 ⟨RX10, TX10, 24, rfl, (Nat.le_of_ble_eq_true rfl), lf_X10_106⟩ (gw_49 _) rfl ?_
                  refine rb_put hV (C := RX10) (T := TX10) (N := 24) (ci := 9) (j := 14) dX10_command_198 rfl (Nat.le_of_ble_eq_true rfl) lf_X10_100 rfl (gw_49 _) (Nat.le_of_ble_eq_true rfl) (ft_X10_14 _) ((pw_49_14 _ _).trans (congrArg WW (ab_s_same _ 124 _ _))) ?_
                  have hz0 : sbj (s 56) (s 121 0) (fa 0) (fb 0) = -1 := sbj_none h9 h10 h11 h12
                  rw [hfa, hfb] at hz0
                  exact C201 _ _ (Or.inl ⟨rfl, hfa, hz0⟩)
              · have h11 : isNm (s 56) (s 121 0) 11 (fa 0) (fb 0) := (isNm_11 _ _ _ _).mpr (by omega)
                refine rb_iconst hV dX10_command_133 ?_
                refine rb_goto hV (tgt := 181) dX10_command_134 (by decide) ?_
                refine rb_istore_n hV (L2 := [some (.inr (some 49)), some (.inl 2), none, none, none, none]) dX10_command_181 rfl (Nat.le_of_ble_eq_true rfl) rfl ?_
                refine rb_aload_n hV dX10_command_182 rfl rfl ?_
                refine rb_get hV (v := .inl (fc 0)) dX10_command_183 ⟨RX10, TX10, 24, rfl, (Nat.le_of_ble_eq_true rfl), lf_X10_100⟩ (gw_49 _) rfl ?_
                refine rb_if_ge hV (tgt := 201) dX10_command_186 (by decide) (by unfold ab_r at *; omega) (fun c186 => absurd c186 (by omega)) (fun c186 => ?_)
                refine rb_iload_n hV dX10_command_189 rfl rfl ?_
                refine rb_if_ge hV (tgt := 201) dX10_command_190 (by decide) (by unfold ab_r at *; omega) (fun _ => ?_) (fun z => absurd z (by decide))
                have hz0 : sbj (s 56) (s 121 0) (fa 0) (fb 0) = 2 := ((cif_neg h9).trans ((cif_neg h10).trans (cif_pos h11)))
                rw [hfa, hfb] at hz0
                exact C201 _ _ (Or.inr (Or.inr (Or.inr (Or.inl ⟨rfl, by omega, hz0⟩))))
            · rw [if_neg e111]
              show V 114 [some (.inr (some 49)), none, none, none, none, none] [.inl 0] (WW (ab_s (ab_s (ab_s s 122 fa) 123 fb) 124 fc)) 0 0
              refine rb_if_eq hV (tgt := 137) dX10_command_114 (by decide) (by unfold ab_r at *; omega) (fun _ => ?_) (fun z => absurd z (by decide))
              have h11 : ¬ isNm (s 56) (s 121 0) 11 (fa 0) (fb 0) := fun q => e111 (by have q2 := (isNm_11 _ _ _ _).mp q; omega)
              clear e103 e111
              refine rb_aload_n hV dX10_command_137 rfl rfl ?_
              refine rb_bipush hV dX10_command_138 (by decide) ?_
              refine rb_bipush hV dX10_command_140 (by decide) ?_
              refine rb_bipush hV dX10_command_142 (by decide) ?_
              refine rb_bipush hV dX10_command_144 (by decide) ?_
              refine rb_callV hV (rest := []) dX10_command_146 (c_X10_isPiece (ab_s (ab_s (ab_s s 122 fa) 123 fb) 124 fc) 115 112 97 99 (by decide) (show 0 ≤ (fa 0) by omega) (show (fb 0) ≤ 120 by omega) (show (fa 0) ≤ 121 by omega) (show 0 ≤ (fb 0) by omega) ht) lk_X10_113 rfl (Or.inl ⟨9, _, TX10, 24, gw_49 _, rfl⟩) rfl ⟨rfl, rfl, (Nat.le_of_ble_eq_true rfl), (Nat.le_of_ble_eq_true rfl), (Nat.le_of_ble_eq_true rfl), (Nat.le_of_ble_eq_true rfl)⟩ (Nat.le_of_ble_eq_true rfl) (fun r9 h9 p9 => ?_)
              obtain ⟨rfl, rfl⟩ := p9
              show V 149 [some (.inr (some 49)), none, none, none, none, none] [.inl (if 3 < (fb 0) - (fa 0) ∧ s 56 (fa 0) = 115 ∧ s 56 ((fa 0) + 1) = 112 ∧ s 56 ((fa 0) + 2) = 97 ∧ s 56 ((fa 0) + 3) = 99 then 1 else 0)] (WW (ab_s (ab_s (ab_s s 122 fa) 123 fb) 124 fc)) 0 0
              by_cases e146 : 3 < (fb 0) - (fa 0) ∧ s 56 (fa 0) = 115 ∧ s 56 ((fa 0) + 1) = 112 ∧ s 56 ((fa 0) + 2) = 97 ∧ s 56 ((fa 0) + 3) = 99
              · rw [if_pos e146]
                show V 149 [some (.inr (some 49)), none, none, none, none, none] [.inl 1] (WW (ab_s (ab_s (ab_s s 122 fa) 123 fb) 124 fc)) 0 0
                refine rb_if_eq hV (tgt := 180) dX10_command_149 (by decide) (by unfold ab_r at *; omega) (fun z => absurd z (by decide)) (fun _ => ?_)
                refine rb_aload_n hV dX10_command_152 rfl rfl ?_
                refine rb_iconst hV dX10_command_153 ?_
                refine rb_callV hV (rest := []) dX10_command_154 (c_X10_isLong (ab_s (ab_s (ab_s s 122 fa) 123 fb) 124 fc) 5 (by decide) (show 0 ≤ (fa 0) by omega) (show (fb 0) ≤ 120 by omega) (show (fa 0) ≤ 121 by omega) (show 0 ≤ (fb 0) by omega)) lk_X10_117 rfl (Or.inl ⟨9, _, TX10, 24, gw_49 _, rfl⟩) rfl ⟨rfl, rfl, (Nat.le_of_ble_eq_true rfl), (Nat.le_of_ble_eq_true rfl), (Nat.le_of_ble_eq_true rfl), (Nat.le_of_ble_eq_true rfl)⟩ (Nat.le_of_ble_eq_true rfl) (fun r9 h9 p9 => ?_)
                obtain ⟨rfl, rfl⟩ := p9
                show V 157 [some (.inr (some 49)), none, none, none, none, none] [.inl (if (fb 0) - (fa 0) = 5 then 1 else 0)] (WW (ab_s (ab_s (ab_s s 122 fa) 123 fb) 124 fc)) 0 0
                by_cases e154 : (fb 0) - (fa 0) = 5
                · rw [if_pos e154]
                  show V 157 [some (.inr (some 49)), none, none, none, none, none] [.inl 1] (WW (ab_s (ab_s (ab_s s 122 fa) 123 fb) 124 fc)) 0 0
                  refine rb_if_eq hV (tgt := 180) dX10_command_157 (by decide) (by unfold ab_r at *; omega) (fun z => absurd z (by decide)) (fun _ => ?_)
                  refine rb_aload_n hV dX10_command_160 rfl rfl ?_
                  refine rb_get hV (v := .inr (some 56)) dX10_command_161 ⟨RX10, TX10, 24, rfl, (Nat.le_of_ble_eq_true rfl), lf_X10_38⟩ (gw_49 _) rfl ?_
                  refine rb_aload_n hV dX10_command_164 rfl rfl ?_
                  refine rb_get hV (v := .inl (fa 0)) dX10_command_165 ⟨RX10, TX10, 24, rfl, (Nat.le_of_ble_eq_true rfl), lf_X10_106⟩ (gw_49 _) rfl ?_
                  refine rb_iconst hV dX10_command_168 ?_
                  refine rb_iadd hV dX10_command_169 ?_
                  refine rb_cald hV (f := (s 56)) dX10_command_170 (gw_56 _) (Nat.le_of_ble_eq_true rfl) (by omega) ?_
                  refine rb_bipush hV dX10_command_171 (by decide) ?_
                  have h4r := hx4 (fa 0 + 4)
                  refine rb_icmp_ne hV (tgt := 180) dX10_command_173 (by decide) ⟨(by unfold ab_r at *; omega), (by unfold ab_r at *; omega)⟩ (fun c173 => ?_) (fun c173 => ?_)
                  · have h12 : ¬ isNm (s 56) (s 121 0) 12 (fa 0) (fb 0) := fun q => c173 (by have q2 := (isNm_12 _ _ _ _).mp q; omega)
                    clear e146 e154 c173
                    refine rb_iconst hV dX10_command_180 ?_
                    refine rb_istore_n hV (L2 := [some (.inr (some 49)), some (.inl (-1)), none, none, none, none]) dX10_command_181 rfl (Nat.le_of_ble_eq_true rfl) rfl ?_
                    refine rb_aload_n hV dX10_command_182 rfl rfl ?_
                    refine rb_get hV (v := .inl (fc 0)) dX10_command_183 ⟨RX10, TX10, 24, rfl, (Nat.le_of_ble_eq_true rfl), lf_X10_100⟩ (gw_49 _) rfl ?_
                    refine rb_if_ge hV (tgt := 201) dX10_command_186 (by decide) (by unfold ab_r at *; omega) (fun c186 => absurd c186 (by omega)) (fun c186 => ?_)
                    refine rb_iload_n hV dX10_command_189 rfl rfl ?_
                    refine rb_if_ge hV (tgt := 201) dX10_command_190 (by decide) (by unfold ab_r at *; omega) (fun z => absurd z (by decide)) (fun _ => ?_)
                    refine rb_aload_n hV dX10_command_193 rfl rfl ?_
                    refine rb_aload_n hV dX10_command_194 rfl rfl ?_
                    refine rb_get hV (v := .inl (fa 0)) dX10_command_195 ⟨RX10, TX10, 24, rfl, (Nat.le_of_ble_eq_true rfl), lf_X10_106⟩ (gw_49 _) rfl ?_
                    refine rb_put hV (C := RX10) (T := TX10) (N := 24) (ci := 9) (j := 14) dX10_command_198 rfl (Nat.le_of_ble_eq_true rfl) lf_X10_100 rfl (gw_49 _) (Nat.le_of_ble_eq_true rfl) (ft_X10_14 _) ((pw_49_14 _ _).trans (congrArg WW (ab_s_same _ 124 _ _))) ?_
                    have hz0 : sbj (s 56) (s 121 0) (fa 0) (fb 0) = -1 := sbj_none h9 h10 h11 h12
                    rw [hfa, hfb] at hz0
                    exact C201 _ _ (Or.inl ⟨rfl, hfa, hz0⟩)
                  · have h12 : isNm (s 56) (s 121 0) 12 (fa 0) (fb 0) := (isNm_12 _ _ _ _).mpr (by omega)
                    refine rb_iconst hV dX10_command_176 ?_
                    refine rb_goto hV (tgt := 181) dX10_command_177 (by decide) ?_
                    refine rb_istore_n hV (L2 := [some (.inr (some 49)), some (.inl 3), none, none, none, none]) dX10_command_181 rfl (Nat.le_of_ble_eq_true rfl) rfl ?_
                    refine rb_aload_n hV dX10_command_182 rfl rfl ?_
                    refine rb_get hV (v := .inl (fc 0)) dX10_command_183 ⟨RX10, TX10, 24, rfl, (Nat.le_of_ble_eq_true rfl), lf_X10_100⟩ (gw_49 _) rfl ?_
                    refine rb_if_ge hV (tgt := 201) dX10_command_186 (by decide) (by unfold ab_r at *; omega) (fun c186 => absurd c186 (by omega)) (fun c186 => ?_)
                    refine rb_iload_n hV dX10_command_189 rfl rfl ?_
                    refine rb_if_ge hV (tgt := 201) dX10_command_190 (by decide) (by unfold ab_r at *; omega) (fun _ => ?_) (fun z => absurd z (by decide))
                    have hz0 : sbj (s 56) (s 121 0) (fa 0) (fb 0) = 3 := ((cif_neg h9).trans ((cif_neg h10).trans ((cif_neg h11).trans (cif_pos h12))))
                    rw [hfa, hfb] at hz0
                    exact C201 _ _ (Or.inr (Or.inr (Or.inr (Or.inr (⟨rfl, by omega, hz0⟩)))))
                · rw [if_neg e154]
                  show V 157 [some (.inr (some 49)), none, none, none, none, none] [.inl 0] (WW (ab_s (ab_s (ab_s s 122 fa) 123 fb) 124 fc)) 0 0
                  refine rb_if_eq hV (tgt := 180) dX10_command_157 (by decide) (by unfold ab_r at *; omega) (fun _ => ?_) (fun z => absurd z (by decide))
                  have h12 : ¬ isNm (s 56) (s 121 0) 12 (fa 0) (fb 0) := fun q => e154 (by have q2 := (isNm_12 _ _ _ _).mp q; omega)
                  clear e146 e154
                  refine rb_iconst hV dX10_command_180 ?_
                  refine rb_istore_n hV (L2 := [some (.inr (some 49)), some (.inl (-1)), none, none, none, none]) dX10_command_181 rfl (Nat.le_of_ble_eq_true rfl) rfl ?_
                  refine rb_aload_n hV dX10_command_182 rfl rfl ?_
                  refine rb_get hV (v := .inl (fc 0)) dX10_command_183 ⟨RX10, TX10, 24, rfl, (Nat.le_of_ble_eq_true rfl), lf_X10_100⟩ (gw_49 _) rfl ?_
                  refine rb_if_ge hV (tgt := 201) dX10_command_186 (by decide) (by unfold ab_r at *; omega) (fun c186 => absurd c186 (by omega)) (fun c186 => ?_)
                  refine rb_iload_n hV dX10_command_189 rfl rfl ?_
                  refine rb_if_ge hV (tgt := 201) dX10_command_190 (by decide) (by unfold ab_r at *; omega) (fun z => absurd z (by decide)) (fun _ => ?_)
                  refine rb_aload_n hV dX10_command_193 rfl rfl ?_
                  refine rb_aload_n hV dX10_command_194 rfl rfl ?_
                  refine rb_get hV (v := .inl (fa 0)) dX10_command_195 ⟨RX10, TX10, 24, rfl, (Nat.le_of_ble_eq_true rfl), lf_X10_106⟩ (gw_49 _) rfl ?_
                  refine rb_put hV (C := RX10) (T := TX10) (N := 24) (ci := 9) (j := 14) dX10_command_198 rfl (Nat.le_of_ble_eq_true rfl) lf_X10_100 rfl (gw_49 _) (Nat.le_of_ble_eq_true rfl) (ft_X10_14 _) ((pw_49_14 _ _).trans (congrArg WW (ab_s_same _ 124 _ _))) ?_
                  have hz0 : sbj (s 56) (s 121 0) (fa 0) (fb 0) = -1 := sbj_none h9 h10 h11 h12
                  rw [hfa, hfb] at hz0
                  exact C201 _ _ (Or.inl ⟨rfl, hfa, hz0⟩)
              · rw [if_neg e146]
                show V 149 [some (.inr (some 49)), none, none, none, none, none] [.inl 0] (WW (ab_s (ab_s (ab_s s 122 fa) 123 fb) 124 fc)) 0 0
                refine rb_if_eq hV (tgt := 180) dX10_command_149 (by decide) (by unfold ab_r at *; omega) (fun _ => ?_) (fun z => absurd z (by decide))
                have h12 : ¬ isNm (s 56) (s 121 0) 12 (fa 0) (fb 0) := fun q => e146 (by have q2 := (isNm_12 _ _ _ _).mp q; omega)
                clear e146
                refine rb_iconst hV dX10_command_180 ?_
                refine rb_istore_n hV (L2 := [some (.inr (some 49)), some (.inl (-1)), none, none, none, none]) dX10_command_181 rfl (Nat.le_of_ble_eq_true rfl) rfl ?_
                refine rb_aload_n hV dX10_command_182 rfl rfl ?_
                refine rb_get hV (v := .inl (fc 0)) dX10_command_183 ⟨RX10, TX10, 24, rfl, (Nat.le_of_ble_eq_true rfl), lf_X10_100⟩ (gw_49 _) rfl ?_
                refine rb_if_ge hV (tgt := 201) dX10_command_186 (by decide) (by unfold ab_r at *; omega) (fun c186 => absurd c186 (by omega)) (fun c186 => ?_)
                refine rb_iload_n hV dX10_command_189 rfl rfl ?_
                refine rb_if_ge hV (tgt := 201) dX10_command_190 (by decide) (by unfold ab_r at *; omega) (fun z => absurd z (by decide)) (fun _ => ?_)
                refine rb_aload_n hV dX10_command_193 rfl rfl ?_
                refine rb_aload_n hV dX10_command_194 rfl rfl ?_
                refine rb_get hV (v := .inl (fa 0)) dX10_command_195 ⟨RX10, TX10, 24, rfl, (Nat.le_of_ble_eq_true rfl), lf_X10_106⟩ (gw_49 _) rfl ?_
                refine rb_put hV (C := RX10) (T := TX10) (N := 24) (ci := 9) (j := 14) dX10_command_198 rfl (Nat.le_of_ble_eq_true rfl) lf_X10_100 rfl (gw_49 _) (Nat.le_of_ble_eq_true rfl) (ft_X10_14 _) ((pw_49_14 _ _).trans (congrArg WW (ab_s_same _ 124 _ _))) ?_
                have hz0 : sbj (s 56) (s 121 0) (fa 0) (fb 0) = -1 := sbj_none h9 h10 h11 h12
                rw [hfa, hfb] at hz0
                exact C201 _ _ (Or.inl ⟨rfl, hfa, hz0⟩)
          · rw [if_neg e103]
            show V 106 [some (.inr (some 49)), none, none, none, none, none] [.inl 0] (WW (ab_s (ab_s (ab_s s 122 fa) 123 fb) 124 fc)) 0 0
            refine rb_if_eq hV (tgt := 137) dX10_command_106 (by decide) (by unfold ab_r at *; omega) (fun _ => ?_) (fun z => absurd z (by decide))
            have h11 : ¬ isNm (s 56) (s 121 0) 11 (fa 0) (fb 0) := fun q => e103 (by have q2 := (isNm_11 _ _ _ _).mp q; omega)
            clear e103
            refine rb_aload_n hV dX10_command_137 rfl rfl ?_
            refine rb_bipush hV dX10_command_138 (by decide) ?_
            refine rb_bipush hV dX10_command_140 (by decide) ?_
            refine rb_bipush hV dX10_command_142 (by decide) ?_
            refine rb_bipush hV dX10_command_144 (by decide) ?_
            refine rb_callV hV (rest := []) dX10_command_146 (c_X10_isPiece (ab_s (ab_s (ab_s s 122 fa) 123 fb) 124 fc) 115 112 97 99 (by decide) (show 0 ≤ (fa 0) by omega) (show (fb 0) ≤ 120 by omega) (show (fa 0) ≤ 121 by omega) (show 0 ≤ (fb 0) by omega) ht) lk_X10_113 rfl (Or.inl ⟨9, _, TX10, 24, gw_49 _, rfl⟩) rfl ⟨rfl, rfl, (Nat.le_of_ble_eq_true rfl), (Nat.le_of_ble_eq_true rfl), (Nat.le_of_ble_eq_true rfl), (Nat.le_of_ble_eq_true rfl)⟩ (Nat.le_of_ble_eq_true rfl) (fun r9 h9 p9 => ?_)
            obtain ⟨rfl, rfl⟩ := p9
            show V 149 [some (.inr (some 49)), none, none, none, none, none] [.inl (if 3 < (fb 0) - (fa 0) ∧ s 56 (fa 0) = 115 ∧ s 56 ((fa 0) + 1) = 112 ∧ s 56 ((fa 0) + 2) = 97 ∧ s 56 ((fa 0) + 3) = 99 then 1 else 0)] (WW (ab_s (ab_s (ab_s s 122 fa) 123 fb) 124 fc)) 0 0
            by_cases e146 : 3 < (fb 0) - (fa 0) ∧ s 56 (fa 0) = 115 ∧ s 56 ((fa 0) + 1) = 112 ∧ s 56 ((fa 0) + 2) = 97 ∧ s 56 ((fa 0) + 3) = 99
            · rw [if_pos e146]
              show V 149 [some (.inr (some 49)), none, none, none, none, none] [.inl 1] (WW (ab_s (ab_s (ab_s s 122 fa) 123 fb) 124 fc)) 0 0
              refine rb_if_eq hV (tgt := 180) dX10_command_149 (by decide) (by unfold ab_r at *; omega) (fun z => absurd z (by decide)) (fun _ => ?_)
              refine rb_aload_n hV dX10_command_152 rfl rfl ?_
              refine rb_iconst hV dX10_command_153 ?_
              refine rb_callV hV (rest := []) dX10_command_154 (c_X10_isLong (ab_s (ab_s (ab_s s 122 fa) 123 fb) 124 fc) 5 (by decide) (show 0 ≤ (fa 0) by omega) (show (fb 0) ≤ 120 by omega) (show (fa 0) ≤ 121 by omega) (show 0 ≤ (fb 0) by omega)) lk_X10_117 rfl (Or.inl ⟨9, _, TX10, 24, gw_49 _, rfl⟩) rfl ⟨rfl, rfl, (Nat.le_of_ble_eq_true rfl), (Nat.le_of_ble_eq_true rfl), (Nat.le_of_ble_eq_true rfl), (Nat.le_of_ble_eq_true rfl)⟩ (Nat.le_of_ble_eq_true rfl) (fun r9 h9 p9 => ?_)
              obtain ⟨rfl, rfl⟩ := p9
              show V 157 [some (.inr (some 49)), none, none, none, none, none] [.inl (if (fb 0) - (fa 0) = 5 then 1 else 0)] (WW (ab_s (ab_s (ab_s s 122 fa) 123 fb) 124 fc)) 0 0
              by_cases e154 : (fb 0) - (fa 0) = 5
              · rw [if_pos e154]
                show V 157 [some (.inr (some 49)), none, none, none, none, none] [.inl 1] (WW (ab_s (ab_s (ab_s s 122 fa) 123 fb) 124 fc)) 0 0
                refine rb_if_eq hV (tgt := 180) dX10_command_157 (by decide) (by unfold ab_r at *; omega) (fun z => absurd z (by decide)) (fun _ => ?_)
                refine rb_aload_n hV dX10_command_160 rfl rfl ?_
                refine rb_get hV (v := .inr (some 56)) dX10_command_161 ⟨RX10, TX10, 24, rfl, (Nat.le_of_ble_eq_true rfl), lf_X10_38⟩ (gw_49 _) rfl ?_
                refine rb_aload_n hV dX10_command_164 rfl rfl ?_
                refine rb_get hV (v := .inl (fa 0)) dX10_command_165 ⟨RX10, TX10, 24, rfl, (Nat.le_of_ble_eq_true rfl), lf_X10_106⟩ (gw_49 _) rfl ?_
                refine rb_iconst hV dX10_command_168 ?_
                refine rb_iadd hV dX10_command_169 ?_
                refine rb_cald hV (f := (s 56)) dX10_command_170 (gw_56 _) (Nat.le_of_ble_eq_true rfl) (by omega) ?_
                refine rb_bipush hV dX10_command_171 (by decide) ?_
                have h4r := hx4 (fa 0 + 4)
                refine rb_icmp_ne hV (tgt := 180) dX10_command_173 (by decide) ⟨(by unfold ab_r at *; omega), (by unfold ab_r at *; omega)⟩ (fun c173 => ?_) (fun c173 => ?_)
                · have h12 : ¬ isNm (s 56) (s 121 0) 12 (fa 0) (fb 0) := fun q => c173 (by have q2 := (isNm_12 _ _ _ _).mp q; omega)
                  clear e146 e154 c173
                  refine rb_iconst hV dX10_command_180 ?_
                  refine rb_istore_n hV (L2 := [some (.inr (some 49)), some (.inl (-1)), none, none, none, none]) dX10_command_181 rfl (Nat.le_of_ble_eq_true rfl) rfl ?_
                  refine rb_aload_n hV dX10_command_182 rfl rfl ?_
                  refine rb_get hV (v := .inl (fc 0)) dX10_command_183 ⟨RX10, TX10, 24, rfl, (Nat.le_of_ble_eq_true rfl), lf_X10_100⟩ (gw_49 _) rfl ?_
                  refine rb_if_ge hV (tgt := 201) dX10_command_186 (by decide) (by unfold ab_r at *; omega) (fun c186 => absurd c186 (by omega)) (fun c186 => ?_)
                  refine rb_iload_n hV dX10_command_189 rfl rfl ?_
                  refine rb_if_ge hV (tgt := 201) dX10_command_190 (by decide) (by unfold ab_r at *; omega) (fun z => absurd z (by decide)) (fun _ => ?_)
                  refine rb_aload_n hV dX10_command_193 rfl rfl ?_
                  refine rb_aload_n hV dX10_command_194 rfl rfl ?_
                  refine rb_get hV (v := .inl (fa 0)) dX10_command_195 ⟨RX10, TX10, 24, rfl, (Nat.le_of_ble_eq_true rfl), lf_X10_106⟩ (gw_49 _) rfl ?_
                  refine rb_put hV (C := RX10) (T := TX10) (N := 24) (ci := 9) (j := 14) dX10_command_198 rfl (Nat.le_of_ble_eq_true rfl) lf_X10_100 rfl (gw_49 _) (Nat.le_of_ble_eq_true rfl) (ft_X10_14 _) ((pw_49_14 _ _).trans (congrArg WW (ab_s_same _ 124 _ _))) ?_
                  have hz0 : sbj (s 56) (s 121 0) (fa 0) (fb 0) = -1 := sbj_none h9 h10 h11 h12
                  rw [hfa, hfb] at hz0
                  exact C201 _ _ (Or.inl ⟨rfl, hfa, hz0⟩)
                · have h12 : isNm (s 56) (s 121 0) 12 (fa 0) (fb 0) := (isNm_12 _ _ _ _).mpr (by omega)
                  refine rb_iconst hV dX10_command_176 ?_
                  refine rb_goto hV (tgt := 181) dX10_command_177 (by decide) ?_
                  refine rb_istore_n hV (L2 := [some (.inr (some 49)), some (.inl 3), none, none, none, none]) dX10_command_181 rfl (Nat.le_of_ble_eq_true rfl) rfl ?_
                  refine rb_aload_n hV dX10_command_182 rfl rfl ?_
                  refine rb_get hV (v := .inl (fc 0)) dX10_command_183 ⟨RX10, TX10, 24, rfl, (Nat.le_of_ble_eq_true rfl), lf_X10_100⟩ (gw_49 _) rfl ?_
                  refine rb_if_ge hV (tgt := 201) dX10_command_186 (by decide) (by unfold ab_r at *; omega) (fun c186 => absurd c186 (by omega)) (fun c186 => ?_)
                  refine rb_iload_n hV dX10_command_189 rfl rfl ?_
                  refine rb_if_ge hV (tgt := 201) dX10_command_190 (by decide) (by unfold ab_r at *; omega) (fun _ => ?_) (fun z => absurd z (by decide))
                  have hz0 : sbj (s 56) (s 121 0) (fa 0) (fb 0) = 3 := ((cif_neg h9).trans ((cif_neg h10).trans ((cif_neg h11).trans (cif_pos h12))))
                  rw [hfa, hfb] at hz0
                  exact C201 _ _ (Or.inr (Or.inr (Or.inr (Or.inr (⟨rfl, by omega, hz0⟩)))))
              · rw [if_neg e154]
                show V 157 [some (.inr (some 49)), none, none, none, none, none] [.inl 0] (WW (ab_s (ab_s (ab_s s 122 fa) 123 fb) 124 fc)) 0 0
                refine rb_if_eq hV (tgt := 180) dX10_command_157 (by decide) (by unfold ab_r at *; omega) (fun _ => ?_) (fun z => absurd z (by decide))
                have h12 : ¬ isNm (s 56) (s 121 0) 12 (fa 0) (fb 0) := fun q => e154 (by have q2 := (isNm_12 _ _ _ _).mp q; omega)
                clear e146 e154
                refine rb_iconst hV dX10_command_180 ?_
                refine rb_istore_n hV (L2 := [some (.inr (some 49)), some (.inl (-1)), none, none, none, none]) dX10_command_181 rfl (Nat.le_of_ble_eq_true rfl) rfl ?_
                refine rb_aload_n hV dX10_command_182 rfl rfl ?_
                refine rb_get hV (v := .inl (fc 0)) dX10_command_183 ⟨RX10, TX10, 24, rfl, (Nat.le_of_ble_eq_true rfl), lf_X10_100⟩ (gw_49 _) rfl ?_
                refine rb_if_ge hV (tgt := 201) dX10_command_186 (by decide) (by unfold ab_r at *; omega) (fun c186 => absurd c186 (by omega)) (fun c186 => ?_)
                refine rb_iload_n hV dX10_command_189 rfl rfl ?_
                refine rb_if_ge hV (tgt := 201) dX10_command_190 (by decide) (by unfold ab_r at *; omega) (fun z => absurd z (by decide)) (fun _ => ?_)
                refine rb_aload_n hV dX10_command_193 rfl rfl ?_
                refine rb_aload_n hV dX10_command_194 rfl rfl ?_
                refine rb_get hV (v := .inl (fa 0)) dX10_command_195 ⟨RX10, TX10, 24, rfl, (Nat.le_of_ble_eq_true rfl), lf_X10_106⟩ (gw_49 _) rfl ?_
                refine rb_put hV (C := RX10) (T := TX10) (N := 24) (ci := 9) (j := 14) dX10_command_198 rfl (Nat.le_of_ble_eq_true rfl) lf_X10_100 rfl (gw_49 _) (Nat.le_of_ble_eq_true rfl) (ft_X10_14 _) ((pw_49_14 _ _).trans (congrArg WW (ab_s_same _ 124 _ _))) ?_
                have hz0 : sbj (s 56) (s 121 0) (fa 0) (fb 0) = -1 := sbj_none h9 h10 h11 h12
                rw [hfa, hfb] at hz0
                exact C201 _ _ (Or.inl ⟨rfl, hfa, hz0⟩)
            · rw [if_neg e146]
              show V 149 [some (.inr (some 49)), none, none, none, none, none] [.inl 0] (WW (ab_s (ab_s (ab_s s 122 fa) 123 fb) 124 fc)) 0 0
              refine rb_if_eq hV (tgt := 180) dX10_command_149 (by decide) (by unfold ab_r at *; omega) (fun _ => ?_) (fun z => absurd z (by decide))
              have h12 : ¬ isNm (s 56) (s 121 0) 12 (fa 0) (fb 0) := fun q => e146 (by have q2 := (isNm_12 _ _ _ _).mp q; omega)
              clear e146
              refine rb_iconst hV dX10_command_180 ?_
              refine rb_istore_n hV (L2 := [some (.inr (some 49)), some (.inl (-1)), none, none, none, none]) dX10_command_181 rfl (Nat.le_of_ble_eq_true rfl) rfl ?_
              refine rb_aload_n hV dX10_command_182 rfl rfl ?_
              refine rb_get hV (v := .inl (fc 0)) dX10_command_183 ⟨RX10, TX10, 24, rfl, (Nat.le_of_ble_eq_true rfl), lf_X10_100⟩ (gw_49 _) rfl ?_
              refine rb_if_ge hV (tgt := 201) dX10_command_186 (by decide) (by unfold ab_r at *; omega) (fun c186 => absurd c186 (by omega)) (fun c186 => ?_)
              refine rb_iload_n hV dX10_command_189 rfl rfl ?_
              refine rb_if_ge hV (tgt := 201) dX10_command_190 (by decide) (by unfold ab_r at *; omega) (fun z => absurd z (by decide)) (fun _ => ?_)
              refine rb_aload_n hV dX10_command_193 rfl rfl ?_
              refine rb_aload_n hV dX10_command_194 rfl rfl ?_
              refine rb_get hV (v := .inl (fa 0)) dX10_command_195 ⟨RX10, TX10, 24, rfl, (Nat.le_of_ble_eq_true rfl), lf_X10_106⟩ (gw_49 _) rfl ?_
              refine rb_put hV (C := RX10) (T := TX10) (N := 24) (ci := 9) (j := 14) dX10_command_198 rfl (Nat.le_of_ble_eq_true rfl) lf_X10_100 rfl (gw_49 _) (Nat.le_of_ble_eq_true rfl) (ft_X10_14 _) ((pw_49_14 _ _).trans (congrArg WW (ab_s_same _ 124 _ _))) ?_
              have hz0 : sbj (s 56) (s 121 0) (fa 0) (fb 0) = -1 := sbj_none h9 h10 h11 h12
              rw [hfa, hfb] at hz0
              exact C201 _ _ (Or.inl ⟨rfl, hfa, hz0⟩)
    · rw [if_neg e35]
      show V 38 [some (.inr (some 49)), none, none, none, none, none] [.inl 0] (WW (ab_s (ab_s (ab_s s 122 fa) 123 fb) 124 fc)) 0 0
      refine rb_if_eq hV (tgt := 67) dX10_command_38 (by decide) (by unfold ab_r at *; omega) (fun _ => ?_) (fun z => absurd z (by decide))
      have h9 : ¬ isNm (s 56) (s 121 0) 9 (fa 0) (fb 0) := fun q => e35 (by have q2 := (isNm_9 _ _ _ _).mp q; omega)
      clear e35
      refine rb_aload_n hV dX10_command_67 rfl rfl ?_
      refine rb_bipush hV dX10_command_68 (by decide) ?_
      refine rb_bipush hV dX10_command_70 (by decide) ?_
      refine rb_bipush hV dX10_command_72 (by decide) ?_
      refine rb_bipush hV dX10_command_74 (by decide) ?_
      refine rb_callV hV (rest := []) dX10_command_76 (c_X10_isPiece (ab_s (ab_s (ab_s s 122 fa) 123 fb) 124 fc) 104 97 110 103 (by decide) (show 0 ≤ (fa 0) by omega) (show (fb 0) ≤ 120 by omega) (show (fa 0) ≤ 121 by omega) (show 0 ≤ (fb 0) by omega) ht) lk_X10_113 rfl (Or.inl ⟨9, _, TX10, 24, gw_49 _, rfl⟩) rfl ⟨rfl, rfl, (Nat.le_of_ble_eq_true rfl), (Nat.le_of_ble_eq_true rfl), (Nat.le_of_ble_eq_true rfl), (Nat.le_of_ble_eq_true rfl)⟩ (Nat.le_of_ble_eq_true rfl) (fun r9 h9 p9 => ?_)
      obtain ⟨rfl, rfl⟩ := p9
      show V 79 [some (.inr (some 49)), none, none, none, none, none] [.inl (if 3 < (fb 0) - (fa 0) ∧ s 56 (fa 0) = 104 ∧ s 56 ((fa 0) + 1) = 97 ∧ s 56 ((fa 0) + 2) = 110 ∧ s 56 ((fa 0) + 3) = 103 then 1 else 0)] (WW (ab_s (ab_s (ab_s s 122 fa) 123 fb) 124 fc)) 0 0
      by_cases e76 : 3 < (fb 0) - (fa 0) ∧ s 56 (fa 0) = 104 ∧ s 56 ((fa 0) + 1) = 97 ∧ s 56 ((fa 0) + 2) = 110 ∧ s 56 ((fa 0) + 3) = 103
      · rw [if_pos e76]
        show V 79 [some (.inr (some 49)), none, none, none, none, none] [.inl 1] (WW (ab_s (ab_s (ab_s s 122 fa) 123 fb) 124 fc)) 0 0
        refine rb_if_eq hV (tgt := 94) dX10_command_79 (by decide) (by unfold ab_r at *; omega) (fun z => absurd z (by decide)) (fun _ => ?_)
        refine rb_aload_n hV dX10_command_82 rfl rfl ?_
        refine rb_iconst hV dX10_command_83 ?_
        refine rb_callV hV (rest := []) dX10_command_84 (c_X10_isLong (ab_s (ab_s (ab_s s 122 fa) 123 fb) 124 fc) 4 (by decide) (show 0 ≤ (fa 0) by omega) (show (fb 0) ≤ 120 by omega) (show (fa 0) ≤ 121 by omega) (show 0 ≤ (fb 0) by omega)) lk_X10_117 rfl (Or.inl ⟨9, _, TX10, 24, gw_49 _, rfl⟩) rfl ⟨rfl, rfl, (Nat.le_of_ble_eq_true rfl), (Nat.le_of_ble_eq_true rfl), (Nat.le_of_ble_eq_true rfl), (Nat.le_of_ble_eq_true rfl)⟩ (Nat.le_of_ble_eq_true rfl) (fun r9 h9 p9 => ?_)
        obtain ⟨rfl, rfl⟩ := p9
        show V 87 [some (.inr (some 49)), none, none, none, none, none] [.inl (if (fb 0) - (fa 0) = 4 then 1 else 0)] (WW (ab_s (ab_s (ab_s s 122 fa) 123 fb) 124 fc)) 0 0
        by_cases e84 : (fb 0) - (fa 0) = 4
        · rw [if_pos e84]
          show V 87 [some (.inr (some 49)), none, none, none, none, none] [.inl 1] (WW (ab_s (ab_s (ab_s s 122 fa) 123 fb) 124 fc)) 0 0
          refine rb_if_eq hV (tgt := 94) dX10_command_87 (by decide) (by unfold ab_r at *; omega) (fun z => absurd z (by decide)) (fun _ => ?_)
          have h10 : isNm (s 56) (s 121 0) 10 (fa 0) (fb 0) := (isNm_10 _ _ _ _).mpr (by omega)
          refine rb_iconst hV dX10_command_90 ?_
          refine rb_goto hV (tgt := 181) dX10_command_91 (by decide) ?_
          refine rb_istore_n hV (L2 := [some (.inr (some 49)), some (.inl 1), none, none, none, none]) dX10_command_181 rfl (Nat.le_of_ble_eq_true rfl) rfl ?_
          refine rb_aload_n hV dX10_command_182 rfl rfl ?_
          refine rb_get hV (v := .inl (fc 0)) dX10_command_183 ⟨RX10, TX10, 24, rfl, (Nat.le_of_ble_eq_true rfl), lf_X10_100⟩ (gw_49 _) rfl ?_
          refine rb_if_ge hV (tgt := 201) dX10_command_186 (by decide) (by unfold ab_r at *; omega) (fun c186 => absurd c186 (by omega)) (fun c186 => ?_)
          refine rb_iload_n hV dX10_command_189 rfl rfl ?_
          refine rb_if_ge hV (tgt := 201) dX10_command_190 (by decide) (by unfold ab_r at *; omega) (fun _ => ?_) (fun z => absurd z (by decide))
          have hz0 : sbj (s 56) (s 121 0) (fa 0) (fb 0) = 1 := ((cif_neg h9).trans (cif_pos h10))
          rw [hfa, hfb] at hz0
          exact C201 _ _ (Or.inr (Or.inr (Or.inl ⟨rfl, by omega, hz0⟩)))
        · rw [if_neg e84]
          show V 87 [some (.inr (some 49)), none, none, none, none, none] [.inl 0] (WW (ab_s (ab_s (ab_s s 122 fa) 123 fb) 124 fc)) 0 0
          refine rb_if_eq hV (tgt := 94) dX10_command_87 (by decide) (by unfold ab_r at *; omega) (fun _ => ?_) (fun z => absurd z (by decide))
          have h10 : ¬ isNm (s 56) (s 121 0) 10 (fa 0) (fb 0) := fun q => e84 (by have q2 := (isNm_10 _ _ _ _).mp q; omega)
          clear e76 e84
          refine rb_aload_n hV dX10_command_94 rfl rfl ?_
          refine rb_bipush hV dX10_command_95 (by decide) ?_
          refine rb_bipush hV dX10_command_97 (by decide) ?_
          refine rb_bipush hV dX10_command_99 (by decide) ?_
          refine rb_bipush hV dX10_command_101 (by decide) ?_
          refine rb_callV hV (rest := []) dX10_command_103 (c_X10_isPiece (ab_s (ab_s (ab_s s 122 fa) 123 fb) 124 fc) 114 105 118 101 (by decide) (show 0 ≤ (fa 0) by omega) (show (fb 0) ≤ 120 by omega) (show (fa 0) ≤ 121 by omega) (show 0 ≤ (fb 0) by omega) ht) lk_X10_113 rfl (Or.inl ⟨9, _, TX10, 24, gw_49 _, rfl⟩) rfl ⟨rfl, rfl, (Nat.le_of_ble_eq_true rfl), (Nat.le_of_ble_eq_true rfl), (Nat.le_of_ble_eq_true rfl), (Nat.le_of_ble_eq_true rfl)⟩ (Nat.le_of_ble_eq_true rfl) (fun r9 h9 p9 => ?_)
          obtain ⟨rfl, rfl⟩ := p9
          show V 106 [some (.inr (some 49)), none, none, none, none, none] [.inl (if 3 < (fb 0) - (fa 0) ∧ s 56 (fa 0) = 114 ∧ s 56 ((fa 0) + 1) = 105 ∧ s 56 ((fa 0) + 2) = 118 ∧ s 56 ((fa 0) + 3) = 101 then 1 else 0)] (WW (ab_s (ab_s (ab_s s 122 fa) 123 fb) 124 fc)) 0 0
          by_cases e103 : 3 < (fb 0) - (fa 0) ∧ s 56 (fa 0) = 114 ∧ s 56 ((fa 0) + 1) = 105 ∧ s 56 ((fa 0) + 2) = 118 ∧ s 56 ((fa 0) + 3) = 101
          · rw [if_pos e103]
            show V 106 [some (.inr (some 49)), none, none, none, none, none] [.inl 1] (WW (ab_s (ab_s (ab_s s 122 fa) 123 fb) 124 fc)) 0 0
            refine rb_if_eq hV (tgt := 137) dX10_command_106 (by decide) (by unfold ab_r at *; omega) (fun z => absurd z (by decide)) (fun _ => ?_)
            refine rb_aload_n hV dX10_command_109 rfl rfl ?_
            refine rb_iconst hV dX10_command_110 ?_
            refine rb_callV hV (rest := []) dX10_command_111 (c_X10_isLong (ab_s (ab_s (ab_s s 122 fa) 123 fb) 124 fc) 5 (by decide) (show 0 ≤ (fa 0) by omega) (show (fb 0) ≤ 120 by omega) (show (fa 0) ≤ 121 by omega) (show 0 ≤ (fb 0) by omega)) lk_X10_117 rfl (Or.inl ⟨9, _, TX10, 24, gw_49 _, rfl⟩) rfl ⟨rfl, rfl, (Nat.le_of_ble_eq_true rfl), (Nat.le_of_ble_eq_true rfl), (Nat.le_of_ble_eq_true rfl), (Nat.le_of_ble_eq_true rfl)⟩ (Nat.le_of_ble_eq_true rfl) (fun r9 h9 p9 => ?_)
            obtain ⟨rfl, rfl⟩ := p9
            show V 114 [some (.inr (some 49)), none, none, none, none, none] [.inl (if (fb 0) - (fa 0) = 5 then 1 else 0)] (WW (ab_s (ab_s (ab_s s 122 fa) 123 fb) 124 fc)) 0 0
            by_cases e111 : (fb 0) - (fa 0) = 5
            · rw [if_pos e111]
              show V 114 [some (.inr (some 49)), none, none, none, none, none] [.inl 1] (WW (ab_s (ab_s (ab_s s 122 fa) 123 fb) 124 fc)) 0 0
              refine rb_if_eq hV (tgt := 137) dX10_command_114 (by decide) (by unfold ab_r at *; omega) (fun z => absurd z (by decide)) (fun _ => ?_)
              refine rb_aload_n hV dX10_command_117 rfl rfl ?_
              refine rb_get hV (v := .inr (some 56)) dX10_command_118 ⟨RX10, TX10, 24, rfl, (Nat.le_of_ble_eq_true rfl), lf_X10_38⟩ (gw_49 _) rfl ?_
              refine rb_aload_n hV dX10_command_121 rfl rfl ?_
              refine rb_get hV (v := .inl (fa 0)) dX10_command_122 ⟨RX10, TX10, 24, rfl, (Nat.le_of_ble_eq_true rfl), lf_X10_106⟩ (gw_49 _) rfl ?_
              refine rb_iconst hV dX10_command_125 ?_
              refine rb_iadd hV dX10_command_126 ?_
              refine rb_cald hV (f := (s 56)) dX10_command_127 (gw_56 _) (Nat.le_of_ble_eq_true rfl) (by omega) ?_
              refine rb_bipush hV dX10_command_128 (by decide) ?_
              have h4r := hx4 (fa 0 + 4)
              refine rb_icmp_ne hV (tgt := 137) dX10_command_130 (by decide) ⟨(by unfold ab_r at *; omega), (by unfold ab_r at *; omega)⟩ (fun c130 => ?_) (fun c130 => ?_)
              · have h11 : ¬ isNm (s 56) (s 121 0) 11 (fa 0) (fb 0) := fun q => c130 (by have q2 := (isNm_11 _ _ _ _).mp q; omega)
                clear e103 e111 c130
                refine rb_aload_n hV dX10_command_137 rfl rfl ?_
                refine rb_bipush hV dX10_command_138 (by decide) ?_
                refine rb_bipush hV dX10_command_140 (by decide) ?_
                refine rb_bipush hV dX10_command_142 (by decide) ?_
                refine rb_bipush hV dX10_command_144 (by decide) ?_
                refine rb_callV hV (rest := []) dX10_command_146 (c_X10_isPiece (ab_s (ab_s (ab_s s 122 fa) 123 fb) 124 fc) 115 112 97 99 (by decide) (show 0 ≤ (fa 0) by omega) (show (fb 0) ≤ 120 by omega) (show (fa 0) ≤ 121 by omega) (show 0 ≤ (fb 0) by omega) ht) lk_X10_113 rfl (Or.inl ⟨9, _, TX10, 24, gw_49 _, rfl⟩) rfl ⟨rfl, rfl, (Nat.le_of_ble_eq_true rfl), (Nat.le_of_ble_eq_true rfl), (Nat.le_of_ble_eq_true rfl), (Nat.le_of_ble_eq_true rfl)⟩ (Nat.le_of_ble_eq_true rfl) (fun r9 h9 p9 => ?_)
                obtain ⟨rfl, rfl⟩ := p9
                show V 149 [some (.inr (some 49)), none, none, none, none, none] [.inl (if 3 < (fb 0) - (fa 0) ∧ s 56 (fa 0) = 115 ∧ s 56 ((fa 0) + 1) = 112 ∧ s 56 ((fa 0) + 2) = 97 ∧ s 56 ((fa 0) + 3) = 99 then 1 else 0)] (WW (ab_s (ab_s (ab_s s 122 fa) 123 fb) 124 fc)) 0 0
                by_cases e146 : 3 < (fb 0) - (fa 0) ∧ s 56 (fa 0) = 115 ∧ s 56 ((fa 0) + 1) = 112 ∧ s 56 ((fa 0) + 2) = 97 ∧ s 56 ((fa 0) + 3) = 99
                · rw [if_pos e146]
                  show V 149 [some (.inr (some 49)), none, none, none, none, none] [.inl 1] (WW (ab_s (ab_s (ab_s s 122 fa) 123 fb) 124 fc)) 0 0
                  refine rb_if_eq hV (tgt := 180) dX10_command_149 (by decide) (by unfold ab_r at *; omega) (fun z => absurd z (by decide)) (fun _ => ?_)
                  refine rb_aload_n hV dX10_command_152 rfl rfl ?_
                  refine rb_iconst hV dX10_command_153 ?_
                  refine rb_callV hV (rest := []) dX10_command_154 (c_X10_isLong (ab_s (ab_s (ab_s s 122 fa) 123 fb) 124 fc) 5 (by decide) (show 0 ≤ (fa 0) by omega) (show (fb 0) ≤ 120 by omega) (show (fa 0) ≤ 121 by omega) (show 0 ≤ (fb 0) by omega)) lk_X10_117 rfl (Or.inl ⟨9, _, TX10, 24, gw_49 _, rfl⟩) rfl ⟨rfl, rfl, (Nat.le_of_ble_eq_true rfl), (Nat.le_of_ble_eq_true rfl), (Nat.le_of_ble_eq_true rfl), (Nat.le_of_ble_eq_true rfl)⟩ (Nat.le_of_ble_eq_true rfl) (fun r9 h9 p9 => ?_)
                  obtain ⟨rfl, rfl⟩ := p9
                  show V 157 [some (.inr (some 49)), none, none, none, none, none] [.inl (if (fb 0) - (fa 0) = 5 then 1 else 0)] (WW (ab_s (ab_s (ab_s s 122 fa) 123 fb) 124 fc)) 0 0
                  by_cases e154 : (fb 0) - (fa 0) = 5
                  · rw [if_pos e154]
                    show V 157 [some (.inr (some 49)), none, none, none, none, none] [.inl 1] (WW (ab_s (ab_s (ab_s s 122 fa) 123 fb) 124 fc)) 0 0
                    refine rb_if_eq hV (tgt := 180) dX10_command_157 (by decide) (by unfold ab_r at *; omega) (fun z => absurd z (by decide)) (fun _ => ?_)
                    refine rb_aload_n hV dX10_command_160 rfl rfl ?_
                    refine rb_get hV (v := .inr (some 56)) dX10_command_161 ⟨RX10, TX10, 24, rfl, (Nat.le_of_ble_eq_true rfl), lf_X10_38⟩ (gw_49 _) rfl ?_
                    refine rb_aload_n hV dX10_command_164 rfl rfl ?_
                    refine rb_get hV (v := .inl (fa 0)) dX10_command_165 ⟨RX10, TX10, 24, rfl, (Nat.le_of_ble_eq_true rfl), lf_X10_106⟩ (gw_49 _) rfl ?_
                    refine rb_iconst hV dX10_command_168 ?_
                    refine rb_iadd hV dX10_command_169 ?_
                    refine rb_cald hV (f := (s 56)) dX10_command_170 (gw_56 _) (Nat.le_of_ble_eq_true rfl) (by omega) ?_
                    refine rb_bipush hV dX10_command_171 (by decide) ?_
                    have h4r := hx4 (fa 0 + 4)
                    refine rb_icmp_ne hV (tgt := 180) dX10_command_173 (by decide) ⟨(by unfold ab_r at *; omega), (by unfold ab_r at *; omega)⟩ (fun c173 => ?_) (fun c173 => ?_)
                    · have h12 : ¬ isNm (s 56) (s 121 0) 12 (fa 0) (fb 0) := fun q => c173 (by have q2 := (isNm_12 _ _ _ _).mp q; omega)
                      clear e146 e154 c173
                      refine rb_iconst hV dX10_command_180 ?_
                      refine rb_istore_n hV (L2 := [some (.inr (some 49)), some (.inl (-1)), none, none, none, none]) dX10_command_181 rfl (Nat.le_of_ble_eq_true rfl) rfl ?_
                      refine rb_aload_n hV dX10_command_182 rfl rfl ?_
                      refine rb_get hV (v := .inl (fc 0)) dX10_command_183 ⟨RX10, TX10, 24, rfl, (Nat.le_of_ble_eq_true rfl), lf_X10_100⟩ (gw_49 _) rfl ?_
                      refine rb_if_ge hV (tgt := 201) dX10_command_186 (by decide) (by unfold ab_r at *; omega) (fun c186 => absurd c186 (by omega)) (fun c186 => ?_)
                      refine rb_iload_n hV dX10_command_189 rfl rfl ?_
                      refine rb_if_ge hV (tgt := 201) dX10_command_190 (by decide) (by unfold ab_r at *; omega) (fun z => absurd z (by decide)) (fun _ => ?_)
                      refine rb_aload_n hV dX10_command_193 rfl rfl ?_
                      refine rb_aload_n hV dX10_command_194 rfl rfl ?_
                      refine rb_get hV (v := .inl (fa 0)) dX10_command_195 ⟨RX10, TX10, 24, rfl, (Nat.le_of_ble_eq_true rfl), lf_X10_106⟩ (gw_49 _) rfl ?_
                      refine rb_put hV (C := RX10) (T := TX10) (N := 24) (ci := 9) (j := 14) dX10_command_198 rfl (Nat.le_of_ble_eq_true rfl) lf_X10_100 rfl (gw_49 _) (Nat.le_of_ble_eq_true rfl) (ft_X10_14 _) ((pw_49_14 _ _).trans (congrArg WW (ab_s_same _ 124 _ _))) ?_
                      have hz0 : sbj (s 56) (s 121 0) (fa 0) (fb 0) = -1 := sbj_none h9 h10 h11 h12
                      rw [hfa, hfb] at hz0
                      exact C201 _ _ (Or.inl ⟨rfl, hfa, hz0⟩)
                    · have h12 : isNm (s 56) (s 121 0) 12 (fa 0) (fb 0) := (isNm_12 _ _ _ _).mpr (by omega)
                      refine rb_iconst hV dX10_command_176 ?_
                      refine rb_goto hV (tgt := 181) dX10_command_177 (by decide) ?_
                      refine rb_istore_n hV (L2 := [some (.inr (some 49)), some (.inl 3), none, none, none, none]) dX10_command_181 rfl (Nat.le_of_ble_eq_true rfl) rfl ?_
                      refine rb_aload_n hV dX10_command_182 rfl rfl ?_
                      refine rb_get hV (v := .inl (fc 0)) dX10_command_183 ⟨RX10, TX10, 24, rfl, (Nat.le_of_ble_eq_true rfl), lf_X10_100⟩ (gw_49 _) rfl ?_
                      refine rb_if_ge hV (tgt := 201) dX10_command_186 (by decide) (by unfold ab_r at *; omega) (fun c186 => absurd c186 (by omega)) (fun c186 => ?_)
                      refine rb_iload_n hV dX10_command_189 rfl rfl ?_
                      refine rb_if_ge hV (tgt := 201) dX10_command_190 (by decide) (by unfold ab_r at *; omega) (fun _ => ?_) (fun z => absurd z (by decide))
                      have hz0 : sbj (s 56) (s 121 0) (fa 0) (fb 0) = 3 := ((cif_neg h9).trans ((cif_neg h10).trans ((cif_neg h11).trans (cif_pos h12))))
                      rw [hfa, hfb] at hz0
                      exact C201 _ _ (Or.inr (Or.inr (Or.inr (Or.inr (⟨rfl, by omega, hz0⟩)))))
                  · rw [if_neg e154]
                    show V 157 [some (.inr (some 49)), none, none, none, none, none] [.inl 0] (WW (ab_s (ab_s (ab_s s 122 fa) 123 fb) 124 fc)) 0 0
                    refine rb_if_eq hV (tgt := 180) dX10_command_157 (by decide) (by unfold ab_r at *; omega) (fun _ => ?_) (fun z => absurd z (by decide))
                    have h12 : ¬ isNm (s 56) (s 121 0) 12 (fa 0) (fb 0) := fun q => e154 (by have q2 := (isNm_12 _ _ _ _).mp q; omega)
                    clear e146 e154
                    refine rb_iconst hV dX10_command_180 ?_
                    refine rb_istore_n hV (L2 := [some (.inr (some 49)), some (.inl (-1)), none, none, none, none]) dX10_command_181 rfl (Nat.le_of_ble_eq_true rfl) rfl ?_
                    refine rb_aload_n hV dX10_command_182 rfl rfl ?_
                    refine rb_get hV (v := .inl (fc 0)) dX10_command_183 ⟨RX10, TX10, 24, rfl, (Nat.le_of_ble_eq_true rfl), lf_X10_100⟩ (gw_49 _) rfl ?_
                    refine rb_if_ge hV (tgt := 201) dX10_command_186 (by decide) (by unfold ab_r at *; omega) (fun c186 => absurd c186 (by omega)) (fun c186 => ?_)
                    refine rb_iload_n hV dX10_command_189 rfl rfl ?_
                    refine rb_if_ge hV (tgt := 201) dX10_command_190 (by decide) (by unfold ab_r at *; omega) (fun z => absurd z (by decide)) (fun _ => ?_)
                    refine rb_aload_n hV dX10_command_193 rfl rfl ?_
                    refine rb_aload_n hV dX10_command_194 rfl rfl ?_
                    refine rb_get hV (v := .inl (fa 0)) dX10_command_195 ⟨RX10, TX10, 24, rfl, (Nat.le_of_ble_eq_true rfl), lf_X10_106⟩ (gw_49 _) rfl ?_
                    refine rb_put hV (C := RX10) (T := TX10) (N := 24) (ci := 9) (j := 14) dX10_command_198 rfl (Nat.le_of_ble_eq_true rfl) lf_X10_100 rfl (gw_49 _) (Nat.le_of_ble_eq_true rfl) (ft_X10_14 _) ((pw_49_14 _ _).trans (congrArg WW (ab_s_same _ 124 _ _))) ?_
                    have hz0 : sbj (s 56) (s 121 0) (fa 0) (fb 0) = -1 := sbj_none h9 h10 h11 h12
                    rw [hfa, hfb] at hz0
                    exact C201 _ _ (Or.inl ⟨rfl, hfa, hz0⟩)
                · rw [if_neg e146]
                  show V 149 [some (.inr (some 49)), none, none, none, none, none] [.inl 0] (WW (ab_s (ab_s (ab_s s 122 fa) 123 fb) 124 fc)) 0 0
                  refine rb_if_eq hV (tgt := 180) dX10_command_149 (by decide) (by unfold ab_r at *; omega) (fun _ => ?_) (fun z => absurd z (by decide))
                  have h12 : ¬ isNm (s 56) (s 121 0) 12 (fa 0) (fb 0) := fun q => e146 (by have q2 := (isNm_12 _ _ _ _).mp q; omega)
                  clear e146
                  refine rb_iconst hV dX10_command_180 ?_
                  refine rb_istore_n hV (L2 := [some (.inr (some 49)), some (.inl (-1)), none, none, none, none]) dX10_command_181 rfl (Nat.le_of_ble_eq_true rfl) rfl ?_
                  refine rb_aload_n hV dX10_command_182 rfl rfl ?_
                  refine rb_get hV (v := .inl (fc 0)) dX10_command_183 ⟨RX10, TX10, 24, rfl, (Nat.le_of_ble_eq_true rfl), lf_X10_100⟩ (gw_49 _) rfl ?_
                  refine rb_if_ge hV (tgt := 201) dX10_command_186 (by decide) (by unfold ab_r at *; omega) (fun c186 => absurd c186 (by omega)) (fun c186 => ?_)
                  refine rb_iload_n hV dX10_command_189 rfl rfl ?_
                  refine rb_if_ge hV (tgt := 201) dX10_command_190 (by decide) (by unfold ab_r at *; omega) (fun z => absurd z (by decide)) (fun _ => ?_)
                  refine rb_aload_n hV dX10_command_193 rfl rfl ?_
                  refine rb_aload_n hV dX10_command_194 rfl rfl ?_
                  refine rb_get hV (v := .inl (fa 0)) dX10_command_195 ⟨RX10, TX10, 24, rfl, (Nat.le_of_ble_eq_true rfl), lf_X10_106⟩ (gw_49 _) rfl ?_
                  refine rb_put hV (C := RX10) (T := TX10) (N := 24) (ci := 9) (j := 14) dX10_command_198 rfl (Nat.le_of_ble_eq_true rfl) lf_X10_100 rfl (gw_49 _) (Nat.le_of_ble_eq_true rfl) (ft_X10_14 _) ((pw_49_14 _ _).trans (congrArg WW (ab_s_same _ 124 _ _))) ?_
                  have hz0 : sbj (s 56) (s 121 0) (fa 0) (fb 0) = -1 := sbj_none h9 h10 h11 h12
                  rw [hfa, hfb] at hz0
                  exact C201 _ _ (Or.inl ⟨rfl, hfa, hz0⟩)
              · have h11 : isNm (s 56) (s 121 0) 11 (fa 0) (fb 0) := (isNm_11 _ _ _ _).mpr (by omega)
                refine rb_iconst hV dX10_command_133 ?_
                refine rb_goto hV (tgt := 181) dX10_command_134 (by decide) ?_
                refine rb_istore_n hV (L2 := [some (.inr (some 49)), some (.inl 2), none, none, none, none]) dX10_command_181 rfl (Nat.le_of_ble_eq_true rfl) rfl ?_
                refine rb_aload_n hV dX10_command_182 rfl rfl ?_
                refine rb_get hV (v := .inl (fc 0)) dX10_command_183 ⟨RX10, TX10, 24, rfl, (Nat.le_of_ble_eq_true rfl), lf_X10_100⟩ (gw_49 _) rfl ?_
                refine rb_if_ge hV (tgt := 201) dX10_command_186 (by decide) (by unfold ab_r at *; omega) (fun c186 => absurd c186 (by omega)) (fun c186 => ?_)
                refine rb_iload_n hV dX10_command_189 rfl rfl ?_
                refine rb_if_ge hV (tgt := 201) dX10_command_190 (by decide) (by unfold ab_r at *; omega) (fun _ => ?_) (fun z => absurd z (by decide))
                have hz0 : sbj (s 56) (s 121 0) (fa 0) (fb 0) = 2 := ((cif_neg h9).trans ((cif_neg h10).trans (cif_pos h11)))
                rw [hfa, hfb] at hz0
                exact C201 _ _ (Or.inr (Or.inr (Or.inr (Or.inl ⟨rfl, by omega, hz0⟩))))
            · rw [if_neg e111]
              show V 114 [some (.inr (some 49)), none, none, none, none, none] [.inl 0] (WW (ab_s (ab_s (ab_s s 122 fa) 123 fb) 124 fc)) 0 0
              refine rb_if_eq hV (tgt := 137) dX10_command_114 (by decide) (by unfold ab_r at *; omega) (fun _ => ?_) (fun z => absurd z (by decide))
              have h11 : ¬ isNm (s 56) (s 121 0) 11 (fa 0) (fb 0) := fun q => e111 (by have q2 := (isNm_11 _ _ _ _).mp q; omega)
              clear e103 e111
              refine rb_aload_n hV dX10_command_137 rfl rfl ?_
              refine rb_bipush hV dX10_command_138 (by decide) ?_
              refine rb_bipush hV dX10_command_140 (by decide) ?_
              refine rb_bipush hV dX10_command_142 (by decide) ?_
              refine rb_bipush hV dX10_command_144 (by decide) ?_
              refine rb_callV hV (rest := []) dX10_command_146 (c_X10_isPiece (ab_s (ab_s (ab_s s 122 fa) 123 fb) 124 fc) 115 112 97 99 (by decide) (show 0 ≤ (fa 0) by omega) (show (fb 0) ≤ 120 by omega) (show (fa 0) ≤ 121 by omega) (show 0 ≤ (fb 0) by omega) ht) lk_X10_113 rfl (Or.inl ⟨9, _, TX10, 24, gw_49 _, rfl⟩) rfl ⟨rfl, rfl, (Nat.le_of_ble_eq_true rfl), (Nat.le_of_ble_eq_true rfl), (Nat.le_of_ble_eq_true rfl), (Nat.le_of_ble_eq_true rfl)⟩ (Nat.le_of_ble_eq_true rfl) (fun r9 h9 p9 => ?_)
              obtain ⟨rfl, rfl⟩ := p9
              show V 149 [some (.inr (some 49)), none, none, none, none, none] [.inl (if 3 < (fb 0) - (fa 0) ∧ s 56 (fa 0) = 115 ∧ s 56 ((fa 0) + 1) = 112 ∧ s 56 ((fa 0) + 2) = 97 ∧ s 56 ((fa 0) + 3) = 99 then 1 else 0)] (WW (ab_s (ab_s (ab_s s 122 fa) 123 fb) 124 fc)) 0 0
              by_cases e146 : 3 < (fb 0) - (fa 0) ∧ s 56 (fa 0) = 115 ∧ s 56 ((fa 0) + 1) = 112 ∧ s 56 ((fa 0) + 2) = 97 ∧ s 56 ((fa 0) + 3) = 99
              · rw [if_pos e146]
                show V 149 [some (.inr (some 49)), none, none, none, none, none] [.inl 1] (WW (ab_s (ab_s (ab_s s 122 fa) 123 fb) 124 fc)) 0 0
                refine rb_if_eq hV (tgt := 180) dX10_command_149 (by decide) (by unfold ab_r at *; omega) (fun z => absurd z (by decide)) (fun _ => ?_)
                refine rb_aload_n hV dX10_command_152 rfl rfl ?_
                refine rb_iconst hV dX10_command_153 ?_
                refine rb_callV hV (rest := []) dX10_command_154 (c_X10_isLong (ab_s (ab_s (ab_s s 122 fa) 123 fb) 124 fc) 5 (by decide) (show 0 ≤ (fa 0) by omega) (show (fb 0) ≤ 120 by omega) (show (fa 0) ≤ 121 by omega) (show 0 ≤ (fb 0) by omega)) lk_X10_117 rfl (Or.inl ⟨9, _, TX10, 24, gw_49 _, rfl⟩) rfl ⟨rfl, rfl, (Nat.le_of_ble_eq_true rfl), (Nat.le_of_ble_eq_true rfl), (Nat.le_of_ble_eq_true rfl), (Nat.le_of_ble_eq_true rfl)⟩ (Nat.le_of_ble_eq_true rfl) (fun r9 h9 p9 => ?_)
                obtain ⟨rfl, rfl⟩ := p9
                show V 157 [some (.inr (some 49)), none, none, none, none, none] [.inl (if (fb 0) - (fa 0) = 5 then 1 else 0)] (WW (ab_s (ab_s (ab_s s 122 fa) 123 fb) 124 fc)) 0 0
                by_cases e154 : (fb 0) - (fa 0) = 5
                · rw [if_pos e154]
                  show V 157 [some (.inr (some 49)), none, none, none, none, none] [.inl 1] (WW (ab_s (ab_s (ab_s s 122 fa) 123 fb) 124 fc)) 0 0
                  refine rb_if_eq hV (tgt := 180) dX10_command_157 (by decide) (by unfold ab_r at *; omega) (fun z => absurd z (by decide)) (fun _ => ?_)
                  refine rb_aload_n hV dX10_command_160 rfl rfl ?_
                  refine rb_get hV (v := .inr (some 56)) dX10_command_161 ⟨RX10, TX10, 24, rfl, (Nat.le_of_ble_eq_true rfl), lf_X10_38⟩ (gw_49 _) rfl ?_
                  refine rb_aload_n hV dX10_command_164 rfl rfl ?_
                  refine rb_get hV (v := .inl (fa 0)) dX10_command_165 ⟨RX10, TX10, 24, rfl, (Nat.le_of_ble_eq_true rfl), lf_X10_106⟩ (gw_49 _) rfl ?_
                  refine rb_iconst hV dX10_command_168 ?_
                  refine rb_iadd hV dX10_command_169 ?_
                  refine rb_cald hV (f := (s 56)) dX10_command_170 (gw_56 _) (Nat.le_of_ble_eq_true rfl) (by omega) ?_
                  refine rb_bipush hV dX10_command_171 (by decide) ?_
                  have h4r := hx4 (fa 0 + 4)
                  refine rb_icmp_ne hV (tgt := 180) dX10_command_173 (by decide) ⟨(by unfold ab_r at *; omega), (by unfold ab_r at *; omega)⟩ (fun c173 => ?_) (fun c173 => ?_)
                  · have h12 : ¬ isNm (s 56) (s 121 0) 12 (fa 0) (fb 0) := fun q => c173 (by have q2 := (isNm_12 _ _ _ _).mp q; omega)
                    clear e146 e154 c173
                    refine rb_iconst hV dX10_command_180 ?_
                    refine rb_istore_n hV (L2 := [some (.inr (some 49)), some (.inl (-1)), none, none, none, none]) dX10_command_181 rfl (Nat.le_of_ble_eq_true rfl) rfl ?_
                    refine rb_aload_n hV dX10_command_182 rfl rfl ?_
                    refine rb_get hV (v := .inl (fc 0)) dX10_command_183 ⟨RX10, TX10, 24, rfl, (Nat.le_of_ble_eq_true rfl), lf_X10_100⟩ (gw_49 _) rfl ?_
                    refine rb_if_ge hV (tgt := 201) dX10_command_186 (by decide) (by unfold ab_r at *; omega) (fun c186 => absurd c186 (by omega)) (fun c186 => ?_)
                    refine rb_iload_n hV dX10_command_189 rfl rfl ?_
                    refine rb_if_ge hV (tgt := 201) dX10_command_190 (by decide) (by unfold ab_r at *; omega) (fun z => absurd z (by decide)) (fun _ => ?_)
                    refine rb_aload_n hV dX10_command_193 rfl rfl ?_
                    refine rb_aload_n hV dX10_command_194 rfl rfl ?_
                    refine rb_get hV (v := .inl (fa 0)) dX10_command_195 ⟨RX10, TX10, 24, rfl, (Nat.le_of_ble_eq_true rfl), lf_X10_106⟩ (gw_49 _) rfl ?_
                    refine rb_put hV (C := RX10) (T := TX10) (N := 24) (ci := 9) (j := 14) dX10_command_198 rfl (Nat.le_of_ble_eq_true rfl) lf_X10_100 rfl (gw_49 _) (Nat.le_of_ble_eq_true rfl) (ft_X10_14 _) ((pw_49_14 _ _).trans (congrArg WW (ab_s_same _ 124 _ _))) ?_
                    have hz0 : sbj (s 56) (s 121 0) (fa 0) (fb 0) = -1 := sbj_none h9 h10 h11 h12
                    rw [hfa, hfb] at hz0
                    exact C201 _ _ (Or.inl ⟨rfl, hfa, hz0⟩)
                  · have h12 : isNm (s 56) (s 121 0) 12 (fa 0) (fb 0) := (isNm_12 _ _ _ _).mpr (by omega)
                    refine rb_iconst hV dX10_command_176 ?_
                    refine rb_goto hV (tgt := 181) dX10_command_177 (by decide) ?_
                    refine rb_istore_n hV (L2 := [some (.inr (some 49)), some (.inl 3), none, none, none, none]) dX10_command_181 rfl (Nat.le_of_ble_eq_true rfl) rfl ?_
                    refine rb_aload_n hV dX10_command_182 rfl rfl ?_
                    refine rb_get hV (v := .inl (fc 0)) dX10_command_183 ⟨RX10, TX10, 24, rfl, (Nat.le_of_ble_eq_true rfl), lf_X10_100⟩ (gw_49 _) rfl ?_
                    refine rb_if_ge hV (tgt := 201) dX10_command_186 (by decide) (by unfold ab_r at *; omega) (fun c186 => absurd c186 (by omega)) (fun c186 => ?_)
                    refine rb_iload_n hV dX10_command_189 rfl rfl ?_
                    refine rb_if_ge hV (tgt := 201) dX10_command_190 (by decide) (by unfold ab_r at *; omega) (fun _ => ?_) (fun z => absurd z (by decide))
                    have hz0 : sbj (s 56) (s 121 0) (fa 0) (fb 0) = 3 := ((cif_neg h9).trans ((cif_neg h10).trans ((cif_neg h11).trans (cif_pos h12))))
                    rw [hfa, hfb] at hz0
                    exact C201 _ _ (Or.inr (Or.inr (Or.inr (Or.inr (⟨rfl, by omega, hz0⟩)))))
                · rw [if_neg e154]
                  show V 157 [some (.inr (some 49)), none, none, none, none, none] [.inl 0] (WW (ab_s (ab_s (ab_s s 122 fa) 123 fb) 124 fc)) 0 0
                  refine rb_if_eq hV (tgt := 180) dX10_command_157 (by decide) (by unfold ab_r at *; omega) (fun _ => ?_) (fun z => absurd z (by decide))
                  have h12 : ¬ isNm (s 56) (s 121 0) 12 (fa 0) (fb 0) := fun q => e154 (by have q2 := (isNm_12 _ _ _ _).mp q; omega)
                  clear e146 e154
                  refine rb_iconst hV dX10_command_180 ?_
                  refine rb_istore_n hV (L2 := [some (.inr (some 49)), some (.inl (-1)), none, none, none, none]) dX10_command_181 rfl (Nat.le_of_ble_eq_true rfl) rfl ?_
                  refine rb_aload_n hV dX10_command_182 rfl rfl ?_
                  refine rb_get hV (v := .inl (fc 0)) dX10_command_183 ⟨RX10, TX10, 24, rfl, (Nat.le_of_ble_eq_true rfl), lf_X10_100⟩ (gw_49 _) rfl ?_
                  refine rb_if_ge hV (tgt := 201) dX10_command_186 (by decide) (by unfold ab_r at *; omega) (fun c186 => absurd c186 (by omega)) (fun c186 => ?_)
                  refine rb_iload_n hV dX10_command_189 rfl rfl ?_
                  refine rb_if_ge hV (tgt := 201) dX10_command_190 (by decide) (by unfold ab_r at *; omega) (fun z => absurd z (by decide)) (fun _ => ?_)
                  refine rb_aload_n hV dX10_command_193 rfl rfl ?_
                  refine rb_aload_n hV dX10_command_194 rfl rfl ?_
                  refine rb_get hV (v := .inl (fa 0)) dX10_command_195 ⟨RX10, TX10, 24, rfl, (Nat.le_of_ble_eq_true rfl), lf_X10_106⟩ (gw_49 _) rfl ?_
                  refine rb_put hV (C := RX10) (T := TX10) (N := 24) (ci := 9) (j := 14) dX10_command_198 rfl (Nat.le_of_ble_eq_true rfl) lf_X10_100 rfl (gw_49 _) (Nat.le_of_ble_eq_true rfl) (ft_X10_14 _) ((pw_49_14 _ _).trans (congrArg WW (ab_s_same _ 124 _ _))) ?_
                  have hz0 : sbj (s 56) (s 121 0) (fa 0) (fb 0) = -1 := sbj_none h9 h10 h11 h12
                  rw [hfa, hfb] at hz0
                  exact C201 _ _ (Or.inl ⟨rfl, hfa, hz0⟩)
              · rw [if_neg e146]
                show V 149 [some (.inr (some 49)), none, none, none, none, none] [.inl 0] (WW (ab_s (ab_s (ab_s s 122 fa) 123 fb) 124 fc)) 0 0
                refine rb_if_eq hV (tgt := 180) dX10_command_149 (by decide) (by unfold ab_r at *; omega) (fun _ => ?_) (fun z => absurd z (by decide))
                have h12 : ¬ isNm (s 56) (s 121 0) 12 (fa 0) (fb 0) := fun q => e146 (by have q2 := (isNm_12 _ _ _ _).mp q; omega)
                clear e146
                refine rb_iconst hV dX10_command_180 ?_
                refine rb_istore_n hV (L2 := [some (.inr (some 49)), some (.inl (-1)), none, none, none, none]) dX10_command_181 rfl (Nat.le_of_ble_eq_true rfl) rfl ?_
                refine rb_aload_n hV dX10_command_182 rfl rfl ?_
                refine rb_get hV (v := .inl (fc 0)) dX10_command_183 ⟨RX10, TX10, 24, rfl, (Nat.le_of_ble_eq_true rfl), lf_X10_100⟩ (gw_49 _) rfl ?_
                refine rb_if_ge hV (tgt := 201) dX10_command_186 (by decide) (by unfold ab_r at *; omega) (fun c186 => absurd c186 (by omega)) (fun c186 => ?_)
                refine rb_iload_n hV dX10_command_189 rfl rfl ?_
                refine rb_if_ge hV (tgt := 201) dX10_command_190 (by decide) (by unfold ab_r at *; omega) (fun z => absurd z (by decide)) (fun _ => ?_)
                refine rb_aload_n hV dX10_command_193 rfl rfl ?_
                refine rb_aload_n hV dX10_command_194 rfl rfl ?_
                refine rb_get hV (v := .inl (fa 0)) dX10_command_195 ⟨RX10, TX10, 24, rfl, (Nat.le_of_ble_eq_true rfl), lf_X10_106⟩ (gw_49 _) rfl ?_
                refine rb_put hV (C := RX10) (T := TX10) (N := 24) (ci := 9) (j := 14) dX10_command_198 rfl (Nat.le_of_ble_eq_true rfl) lf_X10_100 rfl (gw_49 _) (Nat.le_of_ble_eq_true rfl) (ft_X10_14 _) ((pw_49_14 _ _).trans (congrArg WW (ab_s_same _ 124 _ _))) ?_
                have hz0 : sbj (s 56) (s 121 0) (fa 0) (fb 0) = -1 := sbj_none h9 h10 h11 h12
                rw [hfa, hfb] at hz0
                exact C201 _ _ (Or.inl ⟨rfl, hfa, hz0⟩)
          · rw [if_neg e103]
            show V 106 [some (.inr (some 49)), none, none, none, none, none] [.inl 0] (WW (ab_s (ab_s (ab_s s 122 fa) 123 fb) 124 fc)) 0 0
            refine rb_if_eq hV (tgt := 137) dX10_command_106 (by decide) (by unfold ab_r at *; omega) (fun _ => ?_) (fun z => absurd z (by decide))
            have h11 : ¬ isNm (s 56) (s 121 0) 11 (fa 0) (fb 0) := fun q => e103 (by have q2 := (isNm_11 _ _ _ _).mp q; omega)
            clear e103
            refine rb_aload_n hV dX10_command_137 rfl rfl ?_
            refine rb_bipush hV dX10_command_138 (by decide) ?_
            refine rb_bipush hV dX10_command_140 (by decide) ?_
            refine rb_bipush hV dX10_command_142 (by decide) ?_
            refine rb_bipush hV dX10_command_144 (by decide) ?_
            refine rb_callV hV (rest := []) dX10_command_146 (c_X10_isPiece (ab_s (ab_s (ab_s s 122 fa) 123 fb) 124 fc) 115 112 97 99 (by decide) (show 0 ≤ (fa 0) by omega) (show (fb 0) ≤ 120 by omega) (show (fa 0) ≤ 121 by omega) (show 0 ≤ (fb 0) by omega) ht) lk_X10_113 rfl (Or.inl ⟨9, _, TX10, 24, gw_49 _, rfl⟩) rfl ⟨rfl, rfl, (Nat.le_of_ble_eq_true rfl), (Nat.le_of_ble_eq_true rfl), (Nat.le_of_ble_eq_true rfl), (Nat.le_of_ble_eq_true rfl)⟩ (Nat.le_of_ble_eq_true rfl) (fun r9 h9 p9 => ?_)
            obtain ⟨rfl, rfl⟩ := p9
            show V 149 [some (.inr (some 49)), none, none, none, none, none] [.inl (if 3 < (fb 0) - (fa 0) ∧ s 56 (fa 0) = 115 ∧ s 56 ((fa 0) + 1) = 112 ∧ s 56 ((fa 0) + 2) = 97 ∧ s 56 ((fa 0) + 3) = 99 then 1 else 0)] (WW (ab_s (ab_s (ab_s s 122 fa) 123 fb) 124 fc)) 0 0
            by_cases e146 : 3 < (fb 0) - (fa 0) ∧ s 56 (fa 0) = 115 ∧ s 56 ((fa 0) + 1) = 112 ∧ s 56 ((fa 0) + 2) = 97 ∧ s 56 ((fa 0) + 3) = 99
            · rw [if_pos e146]
              show V 149 [some (.inr (some 49)), none, none, none, none, none] [.inl 1] (WW (ab_s (ab_s (ab_s s 122 fa) 123 fb) 124 fc)) 0 0
              refine rb_if_eq hV (tgt := 180) dX10_command_149 (by decide) (by unfold ab_r at *; omega) (fun z => absurd z (by decide)) (fun _ => ?_)
              refine rb_aload_n hV dX10_command_152 rfl rfl ?_
              refine rb_iconst hV dX10_command_153 ?_
              refine rb_callV hV (rest := []) dX10_command_154 (c_X10_isLong (ab_s (ab_s (ab_s s 122 fa) 123 fb) 124 fc) 5 (by decide) (show 0 ≤ (fa 0) by omega) (show (fb 0) ≤ 120 by omega) (show (fa 0) ≤ 121 by omega) (show 0 ≤ (fb 0) by omega)) lk_X10_117 rfl (Or.inl ⟨9, _, TX10, 24, gw_49 _, rfl⟩) rfl ⟨rfl, rfl, (Nat.le_of_ble_eq_true rfl), (Nat.le_of_ble_eq_true rfl), (Nat.le_of_ble_eq_true rfl), (Nat.le_of_ble_eq_true rfl)⟩ (Nat.le_of_ble_eq_true rfl) (fun r9 h9 p9 => ?_)
              obtain ⟨rfl, rfl⟩ := p9
              show V 157 [some (.inr (some 49)), none, none, none, none, none] [.inl (if (fb 0) - (fa 0) = 5 then 1 else 0)] (WW (ab_s (ab_s (ab_s s 122 fa) 123 fb) 124 fc)) 0 0
              by_cases e154 : (fb 0) - (fa 0) = 5
              · rw [if_pos e154]
                show V 157 [some (.inr (some 49)), none, none, none, none, none] [.inl 1] (WW (ab_s (ab_s (ab_s s 122 fa) 123 fb) 124 fc)) 0 0
                refine rb_if_eq hV (tgt := 180) dX10_command_157 (by decide) (by unfold ab_r at *; omega) (fun z => absurd z (by decide)) (fun _ => ?_)
                refine rb_aload_n hV dX10_command_160 rfl rfl ?_
                refine rb_get hV (v := .inr (some 56)) dX10_command_161 ⟨RX10, TX10, 24, rfl, (Nat.le_of_ble_eq_true rfl), lf_X10_38⟩ (gw_49 _) rfl ?_
                refine rb_aload_n hV dX10_command_164 rfl rfl ?_
                refine rb_get hV (v := .inl (fa 0)) dX10_command_165 ⟨RX10, TX10, 24, rfl, (Nat.le_of_ble_eq_true rfl), lf_X10_106⟩ (gw_49 _) rfl ?_
                refine rb_iconst hV dX10_command_168 ?_
                refine rb_iadd hV dX10_command_169 ?_
                refine rb_cald hV (f := (s 56)) dX10_command_170 (gw_56 _) (Nat.le_of_ble_eq_true rfl) (by omega) ?_
                refine rb_bipush hV dX10_command_171 (by decide) ?_
                have h4r := hx4 (fa 0 + 4)
                refine rb_icmp_ne hV (tgt := 180) dX10_command_173 (by decide) ⟨(by unfold ab_r at *; omega), (by unfold ab_r at *; omega)⟩ (fun c173 => ?_) (fun c173 => ?_)
                · have h12 : ¬ isNm (s 56) (s 121 0) 12 (fa 0) (fb 0) := fun q => c173 (by have q2 := (isNm_12 _ _ _ _).mp q; omega)
                  clear e146 e154 c173
                  refine rb_iconst hV dX10_command_180 ?_
                  refine rb_istore_n hV (L2 := [some (.inr (some 49)), some (.inl (-1)), none, none, none, none]) dX10_command_181 rfl (Nat.le_of_ble_eq_true rfl) rfl ?_
                  refine rb_aload_n hV dX10_command_182 rfl rfl ?_
                  refine rb_get hV (v := .inl (fc 0)) dX10_command_183 ⟨RX10, TX10, 24, rfl, (Nat.le_of_ble_eq_true rfl), lf_X10_100⟩ (gw_49 _) rfl ?_
                  refine rb_if_ge hV (tgt := 201) dX10_command_186 (by decide) (by unfold ab_r at *; omega) (fun c186 => absurd c186 (by omega)) (fun c186 => ?_)
                  refine rb_iload_n hV dX10_command_189 rfl rfl ?_
                  refine rb_if_ge hV (tgt := 201) dX10_command_190 (by decide) (by unfold ab_r at *; omega) (fun z => absurd z (by decide)) (fun _ => ?_)
                  refine rb_aload_n hV dX10_command_193 rfl rfl ?_
                  refine rb_aload_n hV dX10_command_194 rfl rfl ?_
                  refine rb_get hV (v := .inl (fa 0)) dX10_command_195 ⟨RX10, TX10, 24, rfl, (Nat.le_of_ble_eq_true rfl), lf_X10_106⟩ (gw_49 _) rfl ?_
                  refine rb_put hV (C := RX10) (T := TX10) (N := 24) (ci := 9) (j := 14) dX10_command_198 rfl (Nat.le_of_ble_eq_true rfl) lf_X10_100 rfl (gw_49 _) (Nat.le_of_ble_eq_true rfl) (ft_X10_14 _) ((pw_49_14 _ _).trans (congrArg WW (ab_s_same _ 124 _ _))) ?_
                  have hz0 : sbj (s 56) (s 121 0) (fa 0) (fb 0) = -1 := sbj_none h9 h10 h11 h12
                  rw [hfa, hfb] at hz0
                  exact C201 _ _ (Or.inl ⟨rfl, hfa, hz0⟩)
                · have h12 : isNm (s 56) (s 121 0) 12 (fa 0) (fb 0) := (isNm_12 _ _ _ _).mpr (by omega)
                  refine rb_iconst hV dX10_command_176 ?_
                  refine rb_goto hV (tgt := 181) dX10_command_177 (by decide) ?_
                  refine rb_istore_n hV (L2 := [some (.inr (some 49)), some (.inl 3), none, none, none, none]) dX10_command_181 rfl (Nat.le_of_ble_eq_true rfl) rfl ?_
                  refine rb_aload_n hV dX10_command_182 rfl rfl ?_
                  refine rb_get hV (v := .inl (fc 0)) dX10_command_183 ⟨RX10, TX10, 24, rfl, (Nat.le_of_ble_eq_true rfl), lf_X10_100⟩ (gw_49 _) rfl ?_
                  refine rb_if_ge hV (tgt := 201) dX10_command_186 (by decide) (by unfold ab_r at *; omega) (fun c186 => absurd c186 (by omega)) (fun c186 => ?_)
                  refine rb_iload_n hV dX10_command_189 rfl rfl ?_
                  refine rb_if_ge hV (tgt := 201) dX10_command_190 (by decide) (by unfold ab_r at *; omega) (fun _ => ?_) (fun z => absurd z (by decide))
                  have hz0 : sbj (s 56) (s 121 0) (fa 0) (fb 0) = 3 := ((cif_neg h9).trans ((cif_neg h10).trans ((cif_neg h11).trans (cif_pos h12))))
                  rw [hfa, hfb] at hz0
                  exact C201 _ _ (Or.inr (Or.inr (Or.inr (Or.inr (⟨rfl, by omega, hz0⟩)))))
              · rw [if_neg e154]
                show V 157 [some (.inr (some 49)), none, none, none, none, none] [.inl 0] (WW (ab_s (ab_s (ab_s s 122 fa) 123 fb) 124 fc)) 0 0
                refine rb_if_eq hV (tgt := 180) dX10_command_157 (by decide) (by unfold ab_r at *; omega) (fun _ => ?_) (fun z => absurd z (by decide))
                have h12 : ¬ isNm (s 56) (s 121 0) 12 (fa 0) (fb 0) := fun q => e154 (by have q2 := (isNm_12 _ _ _ _).mp q; omega)
                clear e146 e154
                refine rb_iconst hV dX10_command_180 ?_
                refine rb_istore_n hV (L2 := [some (.inr (some 49)), some (.inl (-1)), none, none, none, none]) dX10_command_181 rfl (Nat.le_of_ble_eq_true rfl) rfl ?_
                refine rb_aload_n hV dX10_command_182 rfl rfl ?_
                refine rb_get hV (v := .inl (fc 0)) dX10_command_183 ⟨RX10, TX10, 24, rfl, (Nat.le_of_ble_eq_true rfl), lf_X10_100⟩ (gw_49 _) rfl ?_
                refine rb_if_ge hV (tgt := 201) dX10_command_186 (by decide) (by unfold ab_r at *; omega) (fun c186 => absurd c186 (by omega)) (fun c186 => ?_)
                refine rb_iload_n hV dX10_command_189 rfl rfl ?_
                refine rb_if_ge hV (tgt := 201) dX10_command_190 (by decide) (by unfold ab_r at *; omega) (fun z => absurd z (by decide)) (fun _ => ?_)
                refine rb_aload_n hV dX10_command_193 rfl rfl ?_
                refine rb_aload_n hV dX10_command_194 rfl rfl ?_
                refine rb_get hV (v := .inl (fa 0)) dX10_command_195 ⟨RX10, TX10, 24, rfl, (Nat.le_of_ble_eq_true rfl), lf_X10_106⟩ (gw_49 _) rfl ?_
                refine rb_put hV (C := RX10) (T := TX10) (N := 24) (ci := 9) (j := 14) dX10_command_198 rfl (Nat.le_of_ble_eq_true rfl) lf_X10_100 rfl (gw_49 _) (Nat.le_of_ble_eq_true rfl) (ft_X10_14 _) ((pw_49_14 _ _).trans (congrArg WW (ab_s_same _ 124 _ _))) ?_
                have hz0 : sbj (s 56) (s 121 0) (fa 0) (fb 0) = -1 := sbj_none h9 h10 h11 h12
                rw [hfa, hfb] at hz0
                exact C201 _ _ (Or.inl ⟨rfl, hfa, hz0⟩)
            · rw [if_neg e146]
              show V 149 [some (.inr (some 49)), none, none, none, none, none] [.inl 0] (WW (ab_s (ab_s (ab_s s 122 fa) 123 fb) 124 fc)) 0 0
              refine rb_if_eq hV (tgt := 180) dX10_command_149 (by decide) (by unfold ab_r at *; omega) (fun _ => ?_) (fun z => absurd z (by decide))
              have h12 : ¬ isNm (s 56) (s 121 0) 12 (fa 0) (fb 0) := fun q => e146 (by have q2 := (isNm_12 _ _ _ _).mp q; omega)
              clear e146
              refine rb_iconst hV dX10_command_180 ?_
              refine rb_istore_n hV (L2 := [some (.inr (some 49)), some (.inl (-1)), none, none, none, none]) dX10_command_181 rfl (Nat.le_of_ble_eq_true rfl) rfl ?_
              refine rb_aload_n hV dX10_command_182 rfl rfl ?_
              refine rb_get hV (v := .inl (fc 0)) dX10_command_183 ⟨RX10, TX10, 24, rfl, (Nat.le_of_ble_eq_true rfl), lf_X10_100⟩ (gw_49 _) rfl ?_
              refine rb_if_ge hV (tgt := 201) dX10_command_186 (by decide) (by unfold ab_r at *; omega) (fun c186 => absurd c186 (by omega)) (fun c186 => ?_)
              refine rb_iload_n hV dX10_command_189 rfl rfl ?_
              refine rb_if_ge hV (tgt := 201) dX10_command_190 (by decide) (by unfold ab_r at *; omega) (fun z => absurd z (by decide)) (fun _ => ?_)
              refine rb_aload_n hV dX10_command_193 rfl rfl ?_
              refine rb_aload_n hV dX10_command_194 rfl rfl ?_
              refine rb_get hV (v := .inl (fa 0)) dX10_command_195 ⟨RX10, TX10, 24, rfl, (Nat.le_of_ble_eq_true rfl), lf_X10_106⟩ (gw_49 _) rfl ?_
              refine rb_put hV (C := RX10) (T := TX10) (N := 24) (ci := 9) (j := 14) dX10_command_198 rfl (Nat.le_of_ble_eq_true rfl) lf_X10_100 rfl (gw_49 _) (Nat.le_of_ble_eq_true rfl) (ft_X10_14 _) ((pw_49_14 _ _).trans (congrArg WW (ab_s_same _ 124 _ _))) ?_
              have hz0 : sbj (s 56) (s 121 0) (fa 0) (fb 0) = -1 := sbj_none h9 h10 h11 h12
              rw [hfa, hfb] at hz0
              exact C201 _ _ (Or.inl ⟨rfl, hfa, hz0⟩)
      · rw [if_neg e76]
        show V 79 [some (.inr (some 49)), none, none, none, none, none] [.inl 0] (WW (ab_s (ab_s (ab_s s 122 fa) 123 fb) 124 fc)) 0 0
        refine rb_if_eq hV (tgt := 94) dX10_command_79 (by decide) (by unfold ab_r at *; omega) (fun _ => ?_) (fun z => absurd z (by decide))
        have h10 : ¬ isNm (s 56) (s 121 0) 10 (fa 0) (fb 0) := fun q => e76 (by have q2 := (isNm_10 _ _ _ _).mp q; omega)
        clear e76
        refine rb_aload_n hV dX10_command_94 rfl rfl ?_
        refine rb_bipush hV dX10_command_95 (by decide) ?_
        refine rb_bipush hV dX10_command_97 (by decide) ?_
        refine rb_bipush hV dX10_command_99 (by decide) ?_
        refine rb_bipush hV dX10_command_101 (by decide) ?_
        refine rb_callV hV (rest := []) dX10_command_103 (c_X10_isPiece (ab_s (ab_s (ab_s s 122 fa) 123 fb) 124 fc) 114 105 118 101 (by decide) (show 0 ≤ (fa 0) by omega) (show (fb 0) ≤ 120 by omega) (show (fa 0) ≤ 121 by omega) (show 0 ≤ (fb 0) by omega) ht) lk_X10_113 rfl (Or.inl ⟨9, _, TX10, 24, gw_49 _, rfl⟩) rfl ⟨rfl, rfl, (Nat.le_of_ble_eq_true rfl), (Nat.le_of_ble_eq_true rfl), (Nat.le_of_ble_eq_true rfl), (Nat.le_of_ble_eq_true rfl)⟩ (Nat.le_of_ble_eq_true rfl) (fun r9 h9 p9 => ?_)
        obtain ⟨rfl, rfl⟩ := p9
        show V 106 [some (.inr (some 49)), none, none, none, none, none] [.inl (if 3 < (fb 0) - (fa 0) ∧ s 56 (fa 0) = 114 ∧ s 56 ((fa 0) + 1) = 105 ∧ s 56 ((fa 0) + 2) = 118 ∧ s 56 ((fa 0) + 3) = 101 then 1 else 0)] (WW (ab_s (ab_s (ab_s s 122 fa) 123 fb) 124 fc)) 0 0
        by_cases e103 : 3 < (fb 0) - (fa 0) ∧ s 56 (fa 0) = 114 ∧ s 56 ((fa 0) + 1) = 105 ∧ s 56 ((fa 0) + 2) = 118 ∧ s 56 ((fa 0) + 3) = 101
        · rw [if_pos e103]
          show V 106 [some (.inr (some 49)), none, none, none, none, none] [.inl 1] (WW (ab_s (ab_s (ab_s s 122 fa) 123 fb) 124 fc)) 0 0
          refine rb_if_eq hV (tgt := 137) dX10_command_106 (by decide) (by unfold ab_r at *; omega) (fun z => absurd z (by decide)) (fun _ => ?_)
          refine rb_aload_n hV dX10_command_109 rfl rfl ?_
          refine rb_iconst hV dX10_command_110 ?_
          refine rb_callV hV (rest := []) dX10_command_111 (c_X10_isLong (ab_s (ab_s (ab_s s 122 fa) 123 fb) 124 fc) 5 (by decide) (show 0 ≤ (fa 0) by omega) (show (fb 0) ≤ 120 by omega) (show (fa 0) ≤ 121 by omega) (show 0 ≤ (fb 0) by omega)) lk_X10_117 rfl (Or.inl ⟨9, _, TX10, 24, gw_49 _, rfl⟩) rfl ⟨rfl, rfl, (Nat.le_of_ble_eq_true rfl), (Nat.le_of_ble_eq_true rfl), (Nat.le_of_ble_eq_true rfl), (Nat.le_of_ble_eq_true rfl)⟩ (Nat.le_of_ble_eq_true rfl) (fun r9 h9 p9 => ?_)
          obtain ⟨rfl, rfl⟩ := p9
          show V 114 [some (.inr (some 49)), none, none, none, none, none] [.inl (if (fb 0) - (fa 0) = 5 then 1 else 0)] (WW (ab_s (ab_s (ab_s s 122 fa) 123 fb) 124 fc)) 0 0
          by_cases e111 : (fb 0) - (fa 0) = 5
          · rw [if_pos e111]
            show V 114 [some (.inr (some 49)), none, none, none, none, none] [.inl 1] (WW (ab_s (ab_s (ab_s s 122 fa) 123 fb) 124 fc)) 0 0
            refine rb_if_eq hV (tgt := 137) dX10_command_114 (by decide) (by unfold ab_r at *; omega) (fun z => absurd z (by decide)) (fun _ => ?_)
            refine rb_aload_n hV dX10_command_117 rfl rfl ?_
            refine rb_get hV (v := .inr (some 56)) dX10_command_118 ⟨RX10, TX10, 24, rfl, (Nat.le_of_ble_eq_true rfl), lf_X10_38⟩ (gw_49 _) rfl ?_
            refine rb_aload_n hV dX10_command_121 rfl rfl ?_
            refine rb_get hV (v := .inl (fa 0)) dX10_command_122 ⟨RX10, TX10, 24, rfl, (Nat.le_of_ble_eq_true rfl), lf_X10_106⟩ (gw_49 _) rfl ?_
            refine rb_iconst hV dX10_command_125 ?_
            refine rb_iadd hV dX10_command_126 ?_
            refine rb_cald hV (f := (s 56)) dX10_command_127 (gw_56 _) (Nat.le_of_ble_eq_true rfl) (by omega) ?_
            refine rb_bipush hV dX10_command_128 (by decide) ?_
            have h4r := hx4 (fa 0 + 4)
            refine rb_icmp_ne hV (tgt := 137) dX10_command_130 (by decide) ⟨(by unfold ab_r at *; omega), (by unfold ab_r at *; omega)⟩ (fun c130 => ?_) (fun c130 => ?_)
            · have h11 : ¬ isNm (s 56) (s 121 0) 11 (fa 0) (fb 0) := fun q => c130 (by have q2 := (isNm_11 _ _ _ _).mp q; omega)
              clear e103 e111 c130
              refine rb_aload_n hV dX10_command_137 rfl rfl ?_
              refine rb_bipush hV dX10_command_138 (by decide) ?_
              refine rb_bipush hV dX10_command_140 (by decide) ?_
              refine rb_bipush hV dX10_command_142 (by decide) ?_
              refine rb_bipush hV dX10_command_144 (by decide) ?_
              refine rb_callV hV (rest := []) dX10_command_146 (c_X10_isPiece (ab_s (ab_s (ab_s s 122 fa) 123 fb) 124 fc) 115 112 97 99 (by decide) (show 0 ≤ (fa 0) by omega) (show (fb 0) ≤ 120 by omega) (show (fa 0) ≤ 121 by omega) (show 0 ≤ (fb 0) by omega) ht) lk_X10_113 rfl (Or.inl ⟨9, _, TX10, 24, gw_49 _, rfl⟩) rfl ⟨rfl, rfl, (Nat.le_of_ble_eq_true rfl), (Nat.le_of_ble_eq_true rfl), (Nat.le_of_ble_eq_true rfl), (Nat.le_of_ble_eq_true rfl)⟩ (Nat.le_of_ble_eq_true rfl) (fun r9 h9 p9 => ?_)
              obtain ⟨rfl, rfl⟩ := p9
              show V 149 [some (.inr (some 49)), none, none, none, none, none] [.inl (if 3 < (fb 0) - (fa 0) ∧ s 56 (fa 0) = 115 ∧ s 56 ((fa 0) + 1) = 112 ∧ s 56 ((fa 0) + 2) = 97 ∧ s 56 ((fa 0) + 3) = 99 then 1 else 0)] (WW (ab_s (ab_s (ab_s s 122 fa) 123 fb) 124 fc)) 0 0
              by_cases e146 : 3 < (fb 0) - (fa 0) ∧ s 56 (fa 0) = 115 ∧ s 56 ((fa 0) + 1) = 112 ∧ s 56 ((fa 0) + 2) = 97 ∧ s 56 ((fa 0) + 3) = 99
              · rw [if_pos e146]
                show V 149 [some (.inr (some 49)), none, none, none, none, none] [.inl 1] (WW (ab_s (ab_s (ab_s s 122 fa) 123 fb) 124 fc)) 0 0
                refine rb_if_eq hV (tgt := 180) dX10_command_149 (by decide) (by unfold ab_r at *; omega) (fun z => absurd z (by decide)) (fun _ => ?_)
                refine rb_aload_n hV dX10_command_152 rfl rfl ?_
                refine rb_iconst hV dX10_command_153 ?_
                refine rb_callV hV (rest := []) dX10_command_154 (c_X10_isLong (ab_s (ab_s (ab_s s 122 fa) 123 fb) 124 fc) 5 (by decide) (show 0 ≤ (fa 0) by omega) (show (fb 0) ≤ 120 by omega) (show (fa 0) ≤ 121 by omega) (show 0 ≤ (fb 0) by omega)) lk_X10_117 rfl (Or.inl ⟨9, _, TX10, 24, gw_49 _, rfl⟩) rfl ⟨rfl, rfl, (Nat.le_of_ble_eq_true rfl), (Nat.le_of_ble_eq_true rfl), (Nat.le_of_ble_eq_true rfl), (Nat.le_of_ble_eq_true rfl)⟩ (Nat.le_of_ble_eq_true rfl) (fun r9 h9 p9 => ?_)
                obtain ⟨rfl, rfl⟩ := p9
                show V 157 [some (.inr (some 49)), none, none, none, none, none] [.inl (if (fb 0) - (fa 0) = 5 then 1 else 0)] (WW (ab_s (ab_s (ab_s s 122 fa) 123 fb) 124 fc)) 0 0
                by_cases e154 : (fb 0) - (fa 0) = 5
                · rw [if_pos e154]
                  show V 157 [some (.inr (some 49)), none, none, none, none, none] [.inl 1] (WW (ab_s (ab_s (ab_s s 122 fa) 123 fb) 124 fc)) 0 0
                  refine rb_if_eq hV (tgt := 180) dX10_command_157 (by decide) (by unfold ab_r at *; omega) (fun z => absurd z (by decide)) (fun _ => ?_)
                  refine rb_aload_n hV dX10_command_160 rfl rfl ?_
                  refine rb_get hV (v := .inr (some 56)) dX10_command_161 ⟨RX10, TX10, 24, rfl, (Nat.le_of_ble_eq_true rfl), lf_X10_38⟩ (gw_49 _) rfl ?_
                  refine rb_aload_n hV dX10_command_164 rfl rfl ?_
                  refine rb_get hV (v := .inl (fa 0)) dX10_command_165 ⟨RX10, TX10, 24, rfl, (Nat.le_of_ble_eq_true rfl), lf_X10_106⟩ (gw_49 _) rfl ?_
                  refine rb_iconst hV dX10_command_168 ?_
                  refine rb_iadd hV dX10_command_169 ?_
                  refine rb_cald hV (f := (s 56)) dX10_command_170 (gw_56 _) (Nat.le_of_ble_eq_true rfl) (by omega) ?_
                  refine rb_bipush hV dX10_command_171 (by decide) ?_
                  have h4r := hx4 (fa 0 + 4)
                  refine rb_icmp_ne hV (tgt := 180) dX10_command_173 (by decide) ⟨(by unfold ab_r at *; omega), (by unfold ab_r at *; omega)⟩ (fun c173 => ?_) (fun c173 => ?_)
                  · have h12 : ¬ isNm (s 56) (s 121 0) 12 (fa 0) (fb 0) := fun q => c173 (by have q2 := (isNm_12 _ _ _ _).mp q; omega)
                    clear e146 e154 c173
                    refine rb_iconst hV dX10_command_180 ?_
                    refine rb_istore_n hV (L2 := [some (.inr (some 49)), some (.inl (-1)), none, none, none, none]) dX10_command_181 rfl (Nat.le_of_ble_eq_true rfl) rfl ?_
                    refine rb_aload_n hV dX10_command_182 rfl rfl ?_
                    refine rb_get hV (v := .inl (fc 0)) dX10_command_183 ⟨RX10, TX10, 24, rfl, (Nat.le_of_ble_eq_true rfl), lf_X10_100⟩ (gw_49 _) rfl ?_
                    refine rb_if_ge hV (tgt := 201) dX10_command_186 (by decide) (by unfold ab_r at *; omega) (fun c186 => absurd c186 (by omega)) (fun c186 => ?_)
                    refine rb_iload_n hV dX10_command_189 rfl rfl ?_
                    refine rb_if_ge hV (tgt := 201) dX10_command_190 (by decide) (by unfold ab_r at *; omega) (fun z => absurd z (by decide)) (fun _ => ?_)
                    refine rb_aload_n hV dX10_command_193 rfl rfl ?_
                    refine rb_aload_n hV dX10_command_194 rfl rfl ?_
                    refine rb_get hV (v := .inl (fa 0)) dX10_command_195 ⟨RX10, TX10, 24, rfl, (Nat.le_of_ble_eq_true rfl), lf_X10_106⟩ (gw_49 _) rfl ?_
                    refine rb_put hV (C := RX10) (T := TX10) (N := 24) (ci := 9) (j := 14) dX10_command_198 rfl (Nat.le_of_ble_eq_true rfl) lf_X10_100 rfl (gw_49 _) (Nat.le_of_ble_eq_true rfl) (ft_X10_14 _) ((pw_49_14 _ _).trans (congrArg WW (ab_s_same _ 124 _ _))) ?_
                    have hz0 : sbj (s 56) (s 121 0) (fa 0) (fb 0) = -1 := sbj_none h9 h10 h11 h12
                    rw [hfa, hfb] at hz0
                    exact C201 _ _ (Or.inl ⟨rfl, hfa, hz0⟩)
                  · have h12 : isNm (s 56) (s 121 0) 12 (fa 0) (fb 0) := (isNm_12 _ _ _ _).mpr (by omega)
                    refine rb_iconst hV dX10_command_176 ?_
                    refine rb_goto hV (tgt := 181) dX10_command_177 (by decide) ?_
                    refine rb_istore_n hV (L2 := [some (.inr (some 49)), some (.inl 3), none, none, none, none]) dX10_command_181 rfl (Nat.le_of_ble_eq_true rfl) rfl ?_
                    refine rb_aload_n hV dX10_command_182 rfl rfl ?_
                    refine rb_get hV (v := .inl (fc 0)) dX10_command_183 ⟨RX10, TX10, 24, rfl, (Nat.le_of_ble_eq_true rfl), lf_X10_100⟩ (gw_49 _) rfl ?_
                    refine rb_if_ge hV (tgt := 201) dX10_command_186 (by decide) (by unfold ab_r at *; omega) (fun c186 => absurd c186 (by omega)) (fun c186 => ?_)
                    refine rb_iload_n hV dX10_command_189 rfl rfl ?_
                    refine rb_if_ge hV (tgt := 201) dX10_command_190 (by decide) (by unfold ab_r at *; omega) (fun _ => ?_) (fun z => absurd z (by decide))
                    have hz0 : sbj (s 56) (s 121 0) (fa 0) (fb 0) = 3 := ((cif_neg h9).trans ((cif_neg h10).trans ((cif_neg h11).trans (cif_pos h12))))
                    rw [hfa, hfb] at hz0
                    exact C201 _ _ (Or.inr (Or.inr (Or.inr (Or.inr (⟨rfl, by omega, hz0⟩)))))
                · rw [if_neg e154]
                  show V 157 [some (.inr (some 49)), none, none, none, none, none] [.inl 0] (WW (ab_s (ab_s (ab_s s 122 fa) 123 fb) 124 fc)) 0 0
                  refine rb_if_eq hV (tgt := 180) dX10_command_157 (by decide) (by unfold ab_r at *; omega) (fun _ => ?_) (fun z => absurd z (by decide))
                  have h12 : ¬ isNm (s 56) (s 121 0) 12 (fa 0) (fb 0) := fun q => e154 (by have q2 := (isNm_12 _ _ _ _).mp q; omega)
                  clear e146 e154
                  refine rb_iconst hV dX10_command_180 ?_
                  refine rb_istore_n hV (L2 := [some (.inr (some 49)), some (.inl (-1)), none, none, none, none]) dX10_command_181 rfl (Nat.le_of_ble_eq_true rfl) rfl ?_
                  refine rb_aload_n hV dX10_command_182 rfl rfl ?_
                  refine rb_get hV (v := .inl (fc 0)) dX10_command_183 ⟨RX10, TX10, 24, rfl, (Nat.le_of_ble_eq_true rfl), lf_X10_100⟩ (gw_49 _) rfl ?_
                  refine rb_if_ge hV (tgt := 201) dX10_command_186 (by decide) (by unfold ab_r at *; omega) (fun c186 => absurd c186 (by omega)) (fun c186 => ?_)
                  refine rb_iload_n hV dX10_command_189 rfl rfl ?_
                  refine rb_if_ge hV (tgt := 201) dX10_command_190 (by decide) (by unfold ab_r at *; omega) (fun z => absurd z (by decide)) (fun _ => ?_)
                  refine rb_aload_n hV dX10_command_193 rfl rfl ?_
                  refine rb_aload_n hV dX10_command_194 rfl rfl ?_
                  refine rb_get hV (v := .inl (fa 0)) dX10_command_195 ⟨RX10, TX10, 24, rfl, (Nat.le_of_ble_eq_true rfl), lf_X10_106⟩ (gw_49 _) rfl ?_
                  refine rb_put hV (C := RX10) (T := TX10) (N := 24) (ci := 9) (j := 14) dX10_command_198 rfl (Nat.le_of_ble_eq_true rfl) lf_X10_100 rfl (gw_49 _) (Nat.le_of_ble_eq_true rfl) (ft_X10_14 _) ((pw_49_14 _ _).trans (congrArg WW (ab_s_same _ 124 _ _))) ?_
                  have hz0 : sbj (s 56) (s 121 0) (fa 0) (fb 0) = -1 := sbj_none h9 h10 h11 h12
                  rw [hfa, hfb] at hz0
                  exact C201 _ _ (Or.inl ⟨rfl, hfa, hz0⟩)
              · rw [if_neg e146]
                show V 149 [some (.inr (some 49)), none, none, none, none, none] [.inl 0] (WW (ab_s (ab_s (ab_s s 122 fa) 123 fb) 124 fc)) 0 0
                refine rb_if_eq hV (tgt := 180) dX10_command_149 (by decide) (by unfold ab_r at *; omega) (fun _ => ?_) (fun z => absurd z (by decide))
                have h12 : ¬ isNm (s 56) (s 121 0) 12 (fa 0) (fb 0) := fun q => e146 (by have q2 := (isNm_12 _ _ _ _).mp q; omega)
                clear e146
                refine rb_iconst hV dX10_command_180 ?_
                refine rb_istore_n hV (L2 := [some (.inr (some 49)), some (.inl (-1)), none, none, none, none]) dX10_command_181 rfl (Nat.le_of_ble_eq_true rfl) rfl ?_
                refine rb_aload_n hV dX10_command_182 rfl rfl ?_
                refine rb_get hV (v := .inl (fc 0)) dX10_command_183 ⟨RX10, TX10, 24, rfl, (Nat.le_of_ble_eq_true rfl), lf_X10_100⟩ (gw_49 _) rfl ?_
                refine rb_if_ge hV (tgt := 201) dX10_command_186 (by decide) (by unfold ab_r at *; omega) (fun c186 => absurd c186 (by omega)) (fun c186 => ?_)
                refine rb_iload_n hV dX10_command_189 rfl rfl ?_
                refine rb_if_ge hV (tgt := 201) dX10_command_190 (by decide) (by unfold ab_r at *; omega) (fun z => absurd z (by decide)) (fun _ => ?_)
                refine rb_aload_n hV dX10_command_193 rfl rfl ?_
                refine rb_aload_n hV dX10_command_194 rfl rfl ?_
                refine rb_get hV (v := .inl (fa 0)) dX10_command_195 ⟨RX10, TX10, 24, rfl, (Nat.le_of_ble_eq_true rfl), lf_X10_106⟩ (gw_49 _) rfl ?_
                refine rb_put hV (C := RX10) (T := TX10) (N := 24) (ci := 9) (j := 14) dX10_command_198 rfl (Nat.le_of_ble_eq_true rfl) lf_X10_100 rfl (gw_49 _) (Nat.le_of_ble_eq_true rfl) (ft_X10_14 _) ((pw_49_14 _ _).trans (congrArg WW (ab_s_same _ 124 _ _))) ?_
                have hz0 : sbj (s 56) (s 121 0) (fa 0) (fb 0) = -1 := sbj_none h9 h10 h11 h12
                rw [hfa, hfb] at hz0
                exact C201 _ _ (Or.inl ⟨rfl, hfa, hz0⟩)
            · have h11 : isNm (s 56) (s 121 0) 11 (fa 0) (fb 0) := (isNm_11 _ _ _ _).mpr (by omega)
              refine rb_iconst hV dX10_command_133 ?_
              refine rb_goto hV (tgt := 181) dX10_command_134 (by decide) ?_
              refine rb_istore_n hV (L2 := [some (.inr (some 49)), some (.inl 2), none, none, none, none]) dX10_command_181 rfl (Nat.le_of_ble_eq_true rfl) rfl ?_
              refine rb_aload_n hV dX10_command_182 rfl rfl ?_
              refine rb_get hV (v := .inl (fc 0)) dX10_command_183 ⟨RX10, TX10, 24, rfl, (Nat.le_of_ble_eq_true rfl), lf_X10_100⟩ (gw_49 _) rfl ?_
              refine rb_if_ge hV (tgt := 201) dX10_command_186 (by decide) (by unfold ab_r at *; omega) (fun c186 => absurd c186 (by omega)) (fun c186 => ?_)
              refine rb_iload_n hV dX10_command_189 rfl rfl ?_
              refine rb_if_ge hV (tgt := 201) dX10_command_190 (by decide) (by unfold ab_r at *; omega) (fun _ => ?_) (fun z => absurd z (by decide))
              have hz0 : sbj (s 56) (s 121 0) (fa 0) (fb 0) = 2 := ((cif_neg h9).trans ((cif_neg h10).trans (cif_pos h11)))
              rw [hfa, hfb] at hz0
              exact C201 _ _ (Or.inr (Or.inr (Or.inr (Or.inl ⟨rfl, by omega, hz0⟩))))
          · rw [if_neg e111]
            show V 114 [some (.inr (some 49)), none, none, none, none, none] [.inl 0] (WW (ab_s (ab_s (ab_s s 122 fa) 123 fb) 124 fc)) 0 0
            refine rb_if_eq hV (tgt := 137) dX10_command_114 (by decide) (by unfold ab_r at *; omega) (fun _ => ?_) (fun z => absurd z (by decide))
            have h11 : ¬ isNm (s 56) (s 121 0) 11 (fa 0) (fb 0) := fun q => e111 (by have q2 := (isNm_11 _ _ _ _).mp q; omega)
            clear e103 e111
            refine rb_aload_n hV dX10_command_137 rfl rfl ?_
            refine rb_bipush hV dX10_command_138 (by decide) ?_
            refine rb_bipush hV dX10_command_140 (by decide) ?_
            refine rb_bipush hV dX10_command_142 (by decide) ?_
            refine rb_bipush hV dX10_command_144 (by decide) ?_
            refine rb_callV hV (rest := []) dX10_command_146 (c_X10_isPiece (ab_s (ab_s (ab_s s 122 fa) 123 fb) 124 fc) 115 112 97 99 (by decide) (show 0 ≤ (fa 0) by omega) (show (fb 0) ≤ 120 by omega) (show (fa 0) ≤ 121 by omega) (show 0 ≤ (fb 0) by omega) ht) lk_X10_113 rfl (Or.inl ⟨9, _, TX10, 24, gw_49 _, rfl⟩) rfl ⟨rfl, rfl, (Nat.le_of_ble_eq_true rfl), (Nat.le_of_ble_eq_true rfl), (Nat.le_of_ble_eq_true rfl), (Nat.le_of_ble_eq_true rfl)⟩ (Nat.le_of_ble_eq_true rfl) (fun r9 h9 p9 => ?_)
            obtain ⟨rfl, rfl⟩ := p9
            show V 149 [some (.inr (some 49)), none, none, none, none, none] [.inl (if 3 < (fb 0) - (fa 0) ∧ s 56 (fa 0) = 115 ∧ s 56 ((fa 0) + 1) = 112 ∧ s 56 ((fa 0) + 2) = 97 ∧ s 56 ((fa 0) + 3) = 99 then 1 else 0)] (WW (ab_s (ab_s (ab_s s 122 fa) 123 fb) 124 fc)) 0 0
            by_cases e146 : 3 < (fb 0) - (fa 0) ∧ s 56 (fa 0) = 115 ∧ s 56 ((fa 0) + 1) = 112 ∧ s 56 ((fa 0) + 2) = 97 ∧ s 56 ((fa 0) + 3) = 99
            · rw [if_pos e146]
              show V 149 [some (.inr (some 49)), none, none, none, none, none] [.inl 1] (WW (ab_s (ab_s (ab_s s 122 fa) 123 fb) 124 fc)) 0 0
              refine rb_if_eq hV (tgt := 180) dX10_command_149 (by decide) (by unfold ab_r at *; omega) (fun z => absurd z (by decide)) (fun _ => ?_)
              refine rb_aload_n hV dX10_command_152 rfl rfl ?_
              refine rb_iconst hV dX10_command_153 ?_
              refine rb_callV hV (rest := []) dX10_command_154 (c_X10_isLong (ab_s (ab_s (ab_s s 122 fa) 123 fb) 124 fc) 5 (by decide) (show 0 ≤ (fa 0) by omega) (show (fb 0) ≤ 120 by omega) (show (fa 0) ≤ 121 by omega) (show 0 ≤ (fb 0) by omega)) lk_X10_117 rfl (Or.inl ⟨9, _, TX10, 24, gw_49 _, rfl⟩) rfl ⟨rfl, rfl, (Nat.le_of_ble_eq_true rfl), (Nat.le_of_ble_eq_true rfl), (Nat.le_of_ble_eq_true rfl), (Nat.le_of_ble_eq_true rfl)⟩ (Nat.le_of_ble_eq_true rfl) (fun r9 h9 p9 => ?_)
              obtain ⟨rfl, rfl⟩ := p9
              show V 157 [some (.inr (some 49)), none, none, none, none, none] [.inl (if (fb 0) - (fa 0) = 5 then 1 else 0)] (WW (ab_s (ab_s (ab_s s 122 fa) 123 fb) 124 fc)) 0 0
              by_cases e154 : (fb 0) - (fa 0) = 5
              · rw [if_pos e154]
                show V 157 [some (.inr (some 49)), none, none, none, none, none] [.inl 1] (WW (ab_s (ab_s (ab_s s 122 fa) 123 fb) 124 fc)) 0 0
                refine rb_if_eq hV (tgt := 180) dX10_command_157 (by decide) (by unfold ab_r at *; omega) (fun z => absurd z (by decide)) (fun _ => ?_)
                refine rb_aload_n hV dX10_command_160 rfl rfl ?_
                refine rb_get hV (v := .inr (some 56)) dX10_command_161 ⟨RX10, TX10, 24, rfl, (Nat.le_of_ble_eq_true rfl), lf_X10_38⟩ (gw_49 _) rfl ?_
                refine rb_aload_n hV dX10_command_164 rfl rfl ?_
                refine rb_get hV (v := .inl (fa 0)) dX10_command_165 ⟨RX10, TX10, 24, rfl, (Nat.le_of_ble_eq_true rfl), lf_X10_106⟩ (gw_49 _) rfl ?_
                refine rb_iconst hV dX10_command_168 ?_
                refine rb_iadd hV dX10_command_169 ?_
                refine rb_cald hV (f := (s 56)) dX10_command_170 (gw_56 _) (Nat.le_of_ble_eq_true rfl) (by omega) ?_
                refine rb_bipush hV dX10_command_171 (by decide) ?_
                have h4r := hx4 (fa 0 + 4)
                refine rb_icmp_ne hV (tgt := 180) dX10_command_173 (by decide) ⟨(by unfold ab_r at *; omega), (by unfold ab_r at *; omega)⟩ (fun c173 => ?_) (fun c173 => ?_)
                · have h12 : ¬ isNm (s 56) (s 121 0) 12 (fa 0) (fb 0) := fun q => c173 (by have q2 := (isNm_12 _ _ _ _).mp q; omega)
                  clear e146 e154 c173
                  refine rb_iconst hV dX10_command_180 ?_
                  refine rb_istore_n hV (L2 := [some (.inr (some 49)), some (.inl (-1)), none, none, none, none]) dX10_command_181 rfl (Nat.le_of_ble_eq_true rfl) rfl ?_
                  refine rb_aload_n hV dX10_command_182 rfl rfl ?_
                  refine rb_get hV (v := .inl (fc 0)) dX10_command_183 ⟨RX10, TX10, 24, rfl, (Nat.le_of_ble_eq_true rfl), lf_X10_100⟩ (gw_49 _) rfl ?_
                  refine rb_if_ge hV (tgt := 201) dX10_command_186 (by decide) (by unfold ab_r at *; omega) (fun c186 => absurd c186 (by omega)) (fun c186 => ?_)
                  refine rb_iload_n hV dX10_command_189 rfl rfl ?_
                  refine rb_if_ge hV (tgt := 201) dX10_command_190 (by decide) (by unfold ab_r at *; omega) (fun z => absurd z (by decide)) (fun _ => ?_)
                  refine rb_aload_n hV dX10_command_193 rfl rfl ?_
                  refine rb_aload_n hV dX10_command_194 rfl rfl ?_
                  refine rb_get hV (v := .inl (fa 0)) dX10_command_195 ⟨RX10, TX10, 24, rfl, (Nat.le_of_ble_eq_true rfl), lf_X10_106⟩ (gw_49 _) rfl ?_
                  refine rb_put hV (C := RX10) (T := TX10) (N := 24) (ci := 9) (j := 14) dX10_command_198 rfl (Nat.le_of_ble_eq_true rfl) lf_X10_100 rfl (gw_49 _) (Nat.le_of_ble_eq_true rfl) (ft_X10_14 _) ((pw_49_14 _ _).trans (congrArg WW (ab_s_same _ 124 _ _))) ?_
                  have hz0 : sbj (s 56) (s 121 0) (fa 0) (fb 0) = -1 := sbj_none h9 h10 h11 h12
                  rw [hfa, hfb] at hz0
                  exact C201 _ _ (Or.inl ⟨rfl, hfa, hz0⟩)
                · have h12 : isNm (s 56) (s 121 0) 12 (fa 0) (fb 0) := (isNm_12 _ _ _ _).mpr (by omega)
                  refine rb_iconst hV dX10_command_176 ?_
                  refine rb_goto hV (tgt := 181) dX10_command_177 (by decide) ?_
                  refine rb_istore_n hV (L2 := [some (.inr (some 49)), some (.inl 3), none, none, none, none]) dX10_command_181 rfl (Nat.le_of_ble_eq_true rfl) rfl ?_
                  refine rb_aload_n hV dX10_command_182 rfl rfl ?_
                  refine rb_get hV (v := .inl (fc 0)) dX10_command_183 ⟨RX10, TX10, 24, rfl, (Nat.le_of_ble_eq_true rfl), lf_X10_100⟩ (gw_49 _) rfl ?_
                  refine rb_if_ge hV (tgt := 201) dX10_command_186 (by decide) (by unfold ab_r at *; omega) (fun c186 => absurd c186 (by omega)) (fun c186 => ?_)
                  refine rb_iload_n hV dX10_command_189 rfl rfl ?_
                  refine rb_if_ge hV (tgt := 201) dX10_command_190 (by decide) (by unfold ab_r at *; omega) (fun _ => ?_) (fun z => absurd z (by decide))
                  have hz0 : sbj (s 56) (s 121 0) (fa 0) (fb 0) = 3 := ((cif_neg h9).trans ((cif_neg h10).trans ((cif_neg h11).trans (cif_pos h12))))
                  rw [hfa, hfb] at hz0
                  exact C201 _ _ (Or.inr (Or.inr (Or.inr (Or.inr (⟨rfl, by omega, hz0⟩)))))
              · rw [if_neg e154]
                show V 157 [some (.inr (some 49)), none, none, none, none, none] [.inl 0] (WW (ab_s (ab_s (ab_s s 122 fa) 123 fb) 124 fc)) 0 0
                refine rb_if_eq hV (tgt := 180) dX10_command_157 (by decide) (by unfold ab_r at *; omega) (fun _ => ?_) (fun z => absurd z (by decide))
                have h12 : ¬ isNm (s 56) (s 121 0) 12 (fa 0) (fb 0) := fun q => e154 (by have q2 := (isNm_12 _ _ _ _).mp q; omega)
                clear e146 e154
                refine rb_iconst hV dX10_command_180 ?_
                refine rb_istore_n hV (L2 := [some (.inr (some 49)), some (.inl (-1)), none, none, none, none]) dX10_command_181 rfl (Nat.le_of_ble_eq_true rfl) rfl ?_
                refine rb_aload_n hV dX10_command_182 rfl rfl ?_
                refine rb_get hV (v := .inl (fc 0)) dX10_command_183 ⟨RX10, TX10, 24, rfl, (Nat.le_of_ble_eq_true rfl), lf_X10_100⟩ (gw_49 _) rfl ?_
                refine rb_if_ge hV (tgt := 201) dX10_command_186 (by decide) (by unfold ab_r at *; omega) (fun c186 => absurd c186 (by omega)) (fun c186 => ?_)
                refine rb_iload_n hV dX10_command_189 rfl rfl ?_
                refine rb_if_ge hV (tgt := 201) dX10_command_190 (by decide) (by unfold ab_r at *; omega) (fun z => absurd z (by decide)) (fun _ => ?_)
                refine rb_aload_n hV dX10_command_193 rfl rfl ?_
                refine rb_aload_n hV dX10_command_194 rfl rfl ?_
                refine rb_get hV (v := .inl (fa 0)) dX10_command_195 ⟨RX10, TX10, 24, rfl, (Nat.le_of_ble_eq_true rfl), lf_X10_106⟩ (gw_49 _) rfl ?_
                refine rb_put hV (C := RX10) (T := TX10) (N := 24) (ci := 9) (j := 14) dX10_command_198 rfl (Nat.le_of_ble_eq_true rfl) lf_X10_100 rfl (gw_49 _) (Nat.le_of_ble_eq_true rfl) (ft_X10_14 _) ((pw_49_14 _ _).trans (congrArg WW (ab_s_same _ 124 _ _))) ?_
                have hz0 : sbj (s 56) (s 121 0) (fa 0) (fb 0) = -1 := sbj_none h9 h10 h11 h12
                rw [hfa, hfb] at hz0
                exact C201 _ _ (Or.inl ⟨rfl, hfa, hz0⟩)
            · rw [if_neg e146]
              show V 149 [some (.inr (some 49)), none, none, none, none, none] [.inl 0] (WW (ab_s (ab_s (ab_s s 122 fa) 123 fb) 124 fc)) 0 0
              refine rb_if_eq hV (tgt := 180) dX10_command_149 (by decide) (by unfold ab_r at *; omega) (fun _ => ?_) (fun z => absurd z (by decide))
              have h12 : ¬ isNm (s 56) (s 121 0) 12 (fa 0) (fb 0) := fun q => e146 (by have q2 := (isNm_12 _ _ _ _).mp q; omega)
              clear e146
              refine rb_iconst hV dX10_command_180 ?_
              refine rb_istore_n hV (L2 := [some (.inr (some 49)), some (.inl (-1)), none, none, none, none]) dX10_command_181 rfl (Nat.le_of_ble_eq_true rfl) rfl ?_
              refine rb_aload_n hV dX10_command_182 rfl rfl ?_
              refine rb_get hV (v := .inl (fc 0)) dX10_command_183 ⟨RX10, TX10, 24, rfl, (Nat.le_of_ble_eq_true rfl), lf_X10_100⟩ (gw_49 _) rfl ?_
              refine rb_if_ge hV (tgt := 201) dX10_command_186 (by decide) (by unfold ab_r at *; omega) (fun c186 => absurd c186 (by omega)) (fun c186 => ?_)
              refine rb_iload_n hV dX10_command_189 rfl rfl ?_
              refine rb_if_ge hV (tgt := 201) dX10_command_190 (by decide) (by unfold ab_r at *; omega) (fun z => absurd z (by decide)) (fun _ => ?_)
              refine rb_aload_n hV dX10_command_193 rfl rfl ?_
              refine rb_aload_n hV dX10_command_194 rfl rfl ?_
              refine rb_get hV (v := .inl (fa 0)) dX10_command_195 ⟨RX10, TX10, 24, rfl, (Nat.le_of_ble_eq_true rfl), lf_X10_106⟩ (gw_49 _) rfl ?_
              refine rb_put hV (C := RX10) (T := TX10) (N := 24) (ci := 9) (j := 14) dX10_command_198 rfl (Nat.le_of_ble_eq_true rfl) lf_X10_100 rfl (gw_49 _) (Nat.le_of_ble_eq_true rfl) (ft_X10_14 _) ((pw_49_14 _ _).trans (congrArg WW (ab_s_same _ 124 _ _))) ?_
              have hz0 : sbj (s 56) (s 121 0) (fa 0) (fb 0) = -1 := sbj_none h9 h10 h11 h12
              rw [hfa, hfb] at hz0
              exact C201 _ _ (Or.inl ⟨rfl, hfa, hz0⟩)
        · rw [if_neg e103]
          show V 106 [some (.inr (some 49)), none, none, none, none, none] [.inl 0] (WW (ab_s (ab_s (ab_s s 122 fa) 123 fb) 124 fc)) 0 0
          refine rb_if_eq hV (tgt := 137) dX10_command_106 (by decide) (by unfold ab_r at *; omega) (fun _ => ?_) (fun z => absurd z (by decide))
          have h11 : ¬ isNm (s 56) (s 121 0) 11 (fa 0) (fb 0) := fun q => e103 (by have q2 := (isNm_11 _ _ _ _).mp q; omega)
          clear e103
          refine rb_aload_n hV dX10_command_137 rfl rfl ?_
          refine rb_bipush hV dX10_command_138 (by decide) ?_
          refine rb_bipush hV dX10_command_140 (by decide) ?_
          refine rb_bipush hV dX10_command_142 (by decide) ?_
          refine rb_bipush hV dX10_command_144 (by decide) ?_
          refine rb_callV hV (rest := []) dX10_command_146 (c_X10_isPiece (ab_s (ab_s (ab_s s 122 fa) 123 fb) 124 fc) 115 112 97 99 (by decide) (show 0 ≤ (fa 0) by omega) (show (fb 0) ≤ 120 by omega) (show (fa 0) ≤ 121 by omega) (show 0 ≤ (fb 0) by omega) ht) lk_X10_113 rfl (Or.inl ⟨9, _, TX10, 24, gw_49 _, rfl⟩) rfl ⟨rfl, rfl, (Nat.le_of_ble_eq_true rfl), (Nat.le_of_ble_eq_true rfl), (Nat.le_of_ble_eq_true rfl), (Nat.le_of_ble_eq_true rfl)⟩ (Nat.le_of_ble_eq_true rfl) (fun r9 h9 p9 => ?_)
          obtain ⟨rfl, rfl⟩ := p9
          show V 149 [some (.inr (some 49)), none, none, none, none, none] [.inl (if 3 < (fb 0) - (fa 0) ∧ s 56 (fa 0) = 115 ∧ s 56 ((fa 0) + 1) = 112 ∧ s 56 ((fa 0) + 2) = 97 ∧ s 56 ((fa 0) + 3) = 99 then 1 else 0)] (WW (ab_s (ab_s (ab_s s 122 fa) 123 fb) 124 fc)) 0 0
          by_cases e146 : 3 < (fb 0) - (fa 0) ∧ s 56 (fa 0) = 115 ∧ s 56 ((fa 0) + 1) = 112 ∧ s 56 ((fa 0) + 2) = 97 ∧ s 56 ((fa 0) + 3) = 99
          · rw [if_pos e146]
            show V 149 [some (.inr (some 49)), none, none, none, none, none] [.inl 1] (WW (ab_s (ab_s (ab_s s 122 fa) 123 fb) 124 fc)) 0 0
            refine rb_if_eq hV (tgt := 180) dX10_command_149 (by decide) (by unfold ab_r at *; omega) (fun z => absurd z (by decide)) (fun _ => ?_)
            refine rb_aload_n hV dX10_command_152 rfl rfl ?_
            refine rb_iconst hV dX10_command_153 ?_
            refine rb_callV hV (rest := []) dX10_command_154 (c_X10_isLong (ab_s (ab_s (ab_s s 122 fa) 123 fb) 124 fc) 5 (by decide) (show 0 ≤ (fa 0) by omega) (show (fb 0) ≤ 120 by omega) (show (fa 0) ≤ 121 by omega) (show 0 ≤ (fb 0) by omega)) lk_X10_117 rfl (Or.inl ⟨9, _, TX10, 24, gw_49 _, rfl⟩) rfl ⟨rfl, rfl, (Nat.le_of_ble_eq_true rfl), (Nat.le_of_ble_eq_true rfl), (Nat.le_of_ble_eq_true rfl), (Nat.le_of_ble_eq_true rfl)⟩ (Nat.le_of_ble_eq_true rfl) (fun r9 h9 p9 => ?_)
            obtain ⟨rfl, rfl⟩ := p9
            show V 157 [some (.inr (some 49)), none, none, none, none, none] [.inl (if (fb 0) - (fa 0) = 5 then 1 else 0)] (WW (ab_s (ab_s (ab_s s 122 fa) 123 fb) 124 fc)) 0 0
            by_cases e154 : (fb 0) - (fa 0) = 5
            · rw [if_pos e154]
              show V 157 [some (.inr (some 49)), none, none, none, none, none] [.inl 1] (WW (ab_s (ab_s (ab_s s 122 fa) 123 fb) 124 fc)) 0 0
              refine rb_if_eq hV (tgt := 180) dX10_command_157 (by decide) (by unfold ab_r at *; omega) (fun z => absurd z (by decide)) (fun _ => ?_)
              refine rb_aload_n hV dX10_command_160 rfl rfl ?_
              refine rb_get hV (v := .inr (some 56)) dX10_command_161 ⟨RX10, TX10, 24, rfl, (Nat.le_of_ble_eq_true rfl), lf_X10_38⟩ (gw_49 _) rfl ?_
              refine rb_aload_n hV dX10_command_164 rfl rfl ?_
              refine rb_get hV (v := .inl (fa 0)) dX10_command_165 ⟨RX10, TX10, 24, rfl, (Nat.le_of_ble_eq_true rfl), lf_X10_106⟩ (gw_49 _) rfl ?_
              refine rb_iconst hV dX10_command_168 ?_
              refine rb_iadd hV dX10_command_169 ?_
              refine rb_cald hV (f := (s 56)) dX10_command_170 (gw_56 _) (Nat.le_of_ble_eq_true rfl) (by omega) ?_
              refine rb_bipush hV dX10_command_171 (by decide) ?_
              have h4r := hx4 (fa 0 + 4)
              refine rb_icmp_ne hV (tgt := 180) dX10_command_173 (by decide) ⟨(by unfold ab_r at *; omega), (by unfold ab_r at *; omega)⟩ (fun c173 => ?_) (fun c173 => ?_)
              · have h12 : ¬ isNm (s 56) (s 121 0) 12 (fa 0) (fb 0) := fun q => c173 (by have q2 := (isNm_12 _ _ _ _).mp q; omega)
                clear e146 e154 c173
                refine rb_iconst hV dX10_command_180 ?_
                refine rb_istore_n hV (L2 := [some (.inr (some 49)), some (.inl (-1)), none, none, none, none]) dX10_command_181 rfl (Nat.le_of_ble_eq_true rfl) rfl ?_
                refine rb_aload_n hV dX10_command_182 rfl rfl ?_
                refine rb_get hV (v := .inl (fc 0)) dX10_command_183 ⟨RX10, TX10, 24, rfl, (Nat.le_of_ble_eq_true rfl), lf_X10_100⟩ (gw_49 _) rfl ?_
                refine rb_if_ge hV (tgt := 201) dX10_command_186 (by decide) (by unfold ab_r at *; omega) (fun c186 => absurd c186 (by omega)) (fun c186 => ?_)
                refine rb_iload_n hV dX10_command_189 rfl rfl ?_
                refine rb_if_ge hV (tgt := 201) dX10_command_190 (by decide) (by unfold ab_r at *; omega) (fun z => absurd z (by decide)) (fun _ => ?_)
                refine rb_aload_n hV dX10_command_193 rfl rfl ?_
                refine rb_aload_n hV dX10_command_194 rfl rfl ?_
                refine rb_get hV (v := .inl (fa 0)) dX10_command_195 ⟨RX10, TX10, 24, rfl, (Nat.le_of_ble_eq_true rfl), lf_X10_106⟩ (gw_49 _) rfl ?_
                refine rb_put hV (C := RX10) (T := TX10) (N := 24) (ci := 9) (j := 14) dX10_command_198 rfl (Nat.le_of_ble_eq_true rfl) lf_X10_100 rfl (gw_49 _) (Nat.le_of_ble_eq_true rfl) (ft_X10_14 _) ((pw_49_14 _ _).trans (congrArg WW (ab_s_same _ 124 _ _))) ?_
                have hz0 : sbj (s 56) (s 121 0) (fa 0) (fb 0) = -1 := sbj_none h9 h10 h11 h12
                rw [hfa, hfb] at hz0
                exact C201 _ _ (Or.inl ⟨rfl, hfa, hz0⟩)
              · have h12 : isNm (s 56) (s 121 0) 12 (fa 0) (fb 0) := (isNm_12 _ _ _ _).mpr (by omega)
                refine rb_iconst hV dX10_command_176 ?_
                refine rb_goto hV (tgt := 181) dX10_command_177 (by decide) ?_
                refine rb_istore_n hV (L2 := [some (.inr (some 49)), some (.inl 3), none, none, none, none]) dX10_command_181 rfl (Nat.le_of_ble_eq_true rfl) rfl ?_
                refine rb_aload_n hV dX10_command_182 rfl rfl ?_
                refine rb_get hV (v := .inl (fc 0)) dX10_command_183 ⟨RX10, TX10, 24, rfl, (Nat.le_of_ble_eq_true rfl), lf_X10_100⟩ (gw_49 _) rfl ?_
                refine rb_if_ge hV (tgt := 201) dX10_command_186 (by decide) (by unfold ab_r at *; omega) (fun c186 => absurd c186 (by omega)) (fun c186 => ?_)
                refine rb_iload_n hV dX10_command_189 rfl rfl ?_
                refine rb_if_ge hV (tgt := 201) dX10_command_190 (by decide) (by unfold ab_r at *; omega) (fun _ => ?_) (fun z => absurd z (by decide))
                have hz0 : sbj (s 56) (s 121 0) (fa 0) (fb 0) = 3 := ((cif_neg h9).trans ((cif_neg h10).trans ((cif_neg h11).trans (cif_pos h12))))
                rw [hfa, hfb] at hz0
                exact C201 _ _ (Or.inr (Or.inr (Or.inr (Or.inr (⟨rfl, by omega, hz0⟩)))))
            · rw [if_neg e154]
              show V 157 [some (.inr (some 49)), none, none, none, none, none] [.inl 0] (WW (ab_s (ab_s (ab_s s 122 fa) 123 fb) 124 fc)) 0 0
              refine rb_if_eq hV (tgt := 180) dX10_command_157 (by decide) (by unfold ab_r at *; omega) (fun _ => ?_) (fun z => absurd z (by decide))
              have h12 : ¬ isNm (s 56) (s 121 0) 12 (fa 0) (fb 0) := fun q => e154 (by have q2 := (isNm_12 _ _ _ _).mp q; omega)
              clear e146 e154
              refine rb_iconst hV dX10_command_180 ?_
              refine rb_istore_n hV (L2 := [some (.inr (some 49)), some (.inl (-1)), none, none, none, none]) dX10_command_181 rfl (Nat.le_of_ble_eq_true rfl) rfl ?_
              refine rb_aload_n hV dX10_command_182 rfl rfl ?_
              refine rb_get hV (v := .inl (fc 0)) dX10_command_183 ⟨RX10, TX10, 24, rfl, (Nat.le_of_ble_eq_true rfl), lf_X10_100⟩ (gw_49 _) rfl ?_
              refine rb_if_ge hV (tgt := 201) dX10_command_186 (by decide) (by unfold ab_r at *; omega) (fun c186 => absurd c186 (by omega)) (fun c186 => ?_)
              refine rb_iload_n hV dX10_command_189 rfl rfl ?_
              refine rb_if_ge hV (tgt := 201) dX10_command_190 (by decide) (by unfold ab_r at *; omega) (fun z => absurd z (by decide)) (fun _ => ?_)
              refine rb_aload_n hV dX10_command_193 rfl rfl ?_
              refine rb_aload_n hV dX10_command_194 rfl rfl ?_
              refine rb_get hV (v := .inl (fa 0)) dX10_command_195 ⟨RX10, TX10, 24, rfl, (Nat.le_of_ble_eq_true rfl), lf_X10_106⟩ (gw_49 _) rfl ?_
              refine rb_put hV (C := RX10) (T := TX10) (N := 24) (ci := 9) (j := 14) dX10_command_198 rfl (Nat.le_of_ble_eq_true rfl) lf_X10_100 rfl (gw_49 _) (Nat.le_of_ble_eq_true rfl) (ft_X10_14 _) ((pw_49_14 _ _).trans (congrArg WW (ab_s_same _ 124 _ _))) ?_
              have hz0 : sbj (s 56) (s 121 0) (fa 0) (fb 0) = -1 := sbj_none h9 h10 h11 h12
              rw [hfa, hfb] at hz0
              exact C201 _ _ (Or.inl ⟨rfl, hfa, hz0⟩)
          · rw [if_neg e146]
            show V 149 [some (.inr (some 49)), none, none, none, none, none] [.inl 0] (WW (ab_s (ab_s (ab_s s 122 fa) 123 fb) 124 fc)) 0 0
            refine rb_if_eq hV (tgt := 180) dX10_command_149 (by decide) (by unfold ab_r at *; omega) (fun _ => ?_) (fun z => absurd z (by decide))
            have h12 : ¬ isNm (s 56) (s 121 0) 12 (fa 0) (fb 0) := fun q => e146 (by have q2 := (isNm_12 _ _ _ _).mp q; omega)
            clear e146
            refine rb_iconst hV dX10_command_180 ?_
            refine rb_istore_n hV (L2 := [some (.inr (some 49)), some (.inl (-1)), none, none, none, none]) dX10_command_181 rfl (Nat.le_of_ble_eq_true rfl) rfl ?_
            refine rb_aload_n hV dX10_command_182 rfl rfl ?_
            refine rb_get hV (v := .inl (fc 0)) dX10_command_183 ⟨RX10, TX10, 24, rfl, (Nat.le_of_ble_eq_true rfl), lf_X10_100⟩ (gw_49 _) rfl ?_
            refine rb_if_ge hV (tgt := 201) dX10_command_186 (by decide) (by unfold ab_r at *; omega) (fun c186 => absurd c186 (by omega)) (fun c186 => ?_)
            refine rb_iload_n hV dX10_command_189 rfl rfl ?_
            refine rb_if_ge hV (tgt := 201) dX10_command_190 (by decide) (by unfold ab_r at *; omega) (fun z => absurd z (by decide)) (fun _ => ?_)
            refine rb_aload_n hV dX10_command_193 rfl rfl ?_
            refine rb_aload_n hV dX10_command_194 rfl rfl ?_
            refine rb_get hV (v := .inl (fa 0)) dX10_command_195 ⟨RX10, TX10, 24, rfl, (Nat.le_of_ble_eq_true rfl), lf_X10_106⟩ (gw_49 _) rfl ?_
            refine rb_put hV (C := RX10) (T := TX10) (N := 24) (ci := 9) (j := 14) dX10_command_198 rfl (Nat.le_of_ble_eq_true rfl) lf_X10_100 rfl (gw_49 _) (Nat.le_of_ble_eq_true rfl) (ft_X10_14 _) ((pw_49_14 _ _).trans (congrArg WW (ab_s_same _ 124 _ _))) ?_
            have hz0 : sbj (s 56) (s 121 0) (fa 0) (fb 0) = -1 := sbj_none h9 h10 h11 h12
            rw [hfa, hfb] at hz0
            exact C201 _ _ (Or.inl ⟨rfl, hfa, hz0⟩)
  · refine rb_iconst hV dX10_command_22 ?_
    refine rb_goto hV (tgt := 181) dX10_command_23 (by decide) ?_
    refine rb_istore_n hV (L2 := [some (.inr (some 49)), some (.inl (-1)), none, none, none, none]) dX10_command_181 rfl (Nat.le_of_ble_eq_true rfl) rfl ?_
    refine rb_aload_n hV dX10_command_182 rfl rfl ?_
    refine rb_get hV (v := .inl (fc 0)) dX10_command_183 ⟨RX10, TX10, 24, rfl, (Nat.le_of_ble_eq_true rfl), lf_X10_100⟩ (gw_49 _) rfl ?_
    refine rb_if_ge hV (tgt := 201) dX10_command_186 (by decide) (by unfold ab_r at *; omega) (fun c186 => ?_) (fun c186 => absurd c186 (by omega))
    exact C201 _ _ (Or.inl ⟨rfl, by have z := hnb4 (by omega); omega, by
        have z := (hnb4 (by omega)).resolve_left (by omega)
        rw [← hfb, show fb 0 = 0 by omega]
        exact sbj_none (fun q => by have q2 := (isNm_9 _ _ _ _).mp q; omega) (fun q => by have q2 := (isNm_10 _ _ _ _).mp q; omega) (fun q => by have q2 := (isNm_11 _ _ _ _).mp q; omega) (fun q => by have q2 := (isNm_12 _ _ _ _).mp q; omega)⟩)
