/-! p23: the law takes second choices -/
theorem XS2 {s : Nat → Int → Int} {l : Int} (h0 : 0 ≤ l) (h1 : l < s 107 0) : xsecond s l 2 = -1002 ∧ (sec (vX s) (s 19) (s 26) l = -1 → xsecond s l 0 = -1004 ∧ xsecond s l 1 = -1004) ∧ (¬ sec (vX s) (s 19) (s 26) l = -1 → xsecond s l 0 = sec (vX s) (s 19) (s 26) l ∧ xsecond s l 1 = Sm (ldm (vX s) (s 26)) 0 l + cd (vX s) (s 19) (s 26 l) (sec (vX s) (s 19) (s 26) l)) := by
  have hin : ¬ ¬ (0 ≤ l ∧ l < s 107 0) := fun z => z ⟨h0, h1⟩
  unfold xsecond
  refine ⟨?_, fun q => ⟨?_, ?_⟩, fun q => ⟨?_, ?_⟩⟩
  · rw [if_neg hin, if_pos (by omega)]
  · rw [if_neg hin, if_neg (by omega), if_pos q]
  · rw [if_neg hin, if_neg (by omega), if_pos q]
  · rw [if_neg hin, if_neg (by omega), if_neg q, if_pos rfl]
  · rw [if_neg hin, if_neg (by omega), if_neg q, if_neg (by omega)]
theorem no_way {s s2 : Nat → Int → Int} {L : List Nat} (hx : XI s) (hx2 : XI s2) (hk : KEEP L s s2) (h1 : 103 ∉ L) (h2 : 19 ∉ L) : s2 107 0 = 0 ↔ s 107 0 = 0 := by
  rw [hx2.2.2.2.2.2.1, hx.2.2.2.2.2.1, hk 103 h1, hk 19 h2]

set_option maxHeartbeats 4000000 in
set_option maxRecDepth 20000 in
theorem c_L_seconds (s : Nat → Int → Int) (gg : Int) (hx : XI s) : ab_Mt yL_seconds cL_seconds 11 (some .boolean) ({ frames := 7, cells := 0, slots := 0, locals := 185 } : Room) false 0 0 [.inr (some 0), .inl gg] (WW s) (fun r h2 => r = some (.inl 1) ∧ ∃ t, h2 = WW t ∧ XI t) := by
  refine ab_mk RL false rfl pn_L_seconds (fun z => by cases z) (Nat.le_of_ble_eq_true rfl) (fun V hV => ?_)
  show V 0 [some (.inr (some 0)), some (.inl gg), none, none, none, none, none, none, none, none, none] [] (WW s) 0 0
  obtain ⟨hp, hr, hbw, hv, hst, hz, hx1, hx2, hx3, hx4⟩ := id hx
  have hn : 0 ≤ s 103 0 ∧ s 103 0 ≤ 60 := hp.1
  have hnl : 0 ≤ s 107 0 ∧ s 107 0 ≤ s 103 0 := hv.1
  have hb := BWp_BS hp hbw
  have hx3b : 0 ≤ xcount s 3 ∧ xcount s 3 ≤ 732000 := by
    have q := hb 0 (Int.le_refl 0) hp.1.1
    rw [xcount_3]
    split <;> omega
  refine rb_aload_n hV dL_seconds_0 rfl rfl ?_
  refine rb_iconst hV dL_seconds_1 ?_
  refine rb_callV hV (rest := []) dL_seconds_2 (c_X9_count s 1 (by unfold ab_r at *; omega) hx) lk_L_36 rfl (Or.inl ⟨8, _, TX9, 8, gw_0 _, rfl⟩) rfl ⟨rfl, rfl, (Nat.le_of_ble_eq_true rfl), (Nat.le_of_ble_eq_true rfl), (Nat.le_of_ble_eq_true rfl), (Nat.le_of_ble_eq_true rfl)⟩ (Nat.le_of_ble_eq_true rfl) (fun r9 h9 p9 => ?_)
  obtain ⟨rfl, rfl⟩ : r9 = some (.inl (s 107 0)) ∧ h9 = WW s := ⟨p9.1.trans (congrArg (fun z : Int => (some (Sum.inl z) : Option ab_V)) rfl), p9.2⟩
  show V 5 [some (.inr (some 0)), some (.inl gg), none, none, none, none, none, none, none, none, none] [.inl (s 107 0)] (WW s) 0 0
  refine rb_istore_n hV (L2 := [some (.inr (some 0)), some (.inl gg), some (.inl (s 107 0)), none, none, none, none, none, none, none, none]) dL_seconds_5 rfl (Nat.le_of_ble_eq_true rfl) rfl ?_
  refine rb_aload_n hV dL_seconds_6 rfl rfl ?_
  refine rb_iconst hV dL_seconds_7 ?_
  refine rb_callV hV (rest := []) dL_seconds_8 (c_X9_count s 3 (by unfold ab_r at *; omega) hx) lk_L_36 rfl (Or.inl ⟨8, _, TX9, 8, gw_0 _, rfl⟩) rfl ⟨rfl, rfl, (Nat.le_of_ble_eq_true rfl), (Nat.le_of_ble_eq_true rfl), (Nat.le_of_ble_eq_true rfl), (Nat.le_of_ble_eq_true rfl)⟩ (Nat.le_of_ble_eq_true rfl) (fun r9 h9 p9 => ?_)
  obtain ⟨rfl, rfl⟩ : r9 = some (.inl (xcount s 3)) ∧ h9 = WW s := ⟨p9.1.trans (congrArg (fun z : Int => (some (Sum.inl z) : Option ab_V)) rfl), p9.2⟩
  show V 11 [some (.inr (some 0)), some (.inl gg), some (.inl (s 107 0)), none, none, none, none, none, none, none, none] [.inl (xcount s 3)] (WW s) 0 0
  refine rb_istore_n hV (L2 := [some (.inr (some 0)), some (.inl gg), some (.inl (s 107 0)), some (.inl (xcount s 3)), none, none, none, none, none, none, none]) dL_seconds_11 rfl (Nat.le_of_ble_eq_true rfl) rfl ?_
  refine rb_iload_n hV dL_seconds_12 rfl rfl ?_
  refine rb_if_ne hV (tgt := 39) dL_seconds_13 (by decide) (by unfold ab_r at *; omega) (fun c13 => ?_) (fun c13 => ?_)
  · refine rb_iload_n hV dL_seconds_39 rfl rfl ?_
    refine rb_iload_n hV dL_seconds_40 rfl rfl ?_
    refine rb_callS hV (rest := []) dL_seconds_41 (c_L_low s gg (s 107 0) (by omega)) lk_L_9 rfl rfl ⟨rfl, rfl, (Nat.le_of_ble_eq_true rfl), (Nat.le_of_ble_eq_true rfl), (Nat.le_of_ble_eq_true rfl), (Nat.le_of_ble_eq_true rfl)⟩ (Nat.le_of_ble_eq_true rfl) (fun r9 h9 p9 => ?_)
    obtain ⟨o41, rfl, rfl, ho41⟩ := p9
    show V 44 [some (.inr (some 0)), some (.inl gg), some (.inl (s 107 0)), some (.inl (xcount s 3)), none, none, none, none, none, none, none] [.inl o41] (WW s) 0 0
    refine rb_istore hV (L2 := [some (.inr (some 0)), some (.inl gg), some (.inl (s 107 0)), some (.inl (xcount s 3)), some (.inl o41), none, none, none, none, none, none]) dL_seconds_44 (Nat.le_of_ble_eq_true rfl) rfl ?_
    by_cases hse : (sec (vX s) (s 19) (s 26) o41) = -1
    · have hxs2 := XS2 ho41.1 ho41.2
      have rl := RV_line hx ho41.1 ho41.2
      have bl := rl.2.2.2.1
      refine rb_aload_n hV dL_seconds_46 rfl rfl ?_
      refine rb_iload hV dL_seconds_47 rfl ?_
      refine rb_iconst hV dL_seconds_49 ?_
      refine rb_callV hV (rest := []) dL_seconds_50 (c_X9_second s o41 0 (by unfold ab_r at *; omega) (by unfold ab_r at *; omega) hx) lk_L_56 rfl (Or.inl ⟨8, _, TX9, 8, gw_0 _, rfl⟩) rfl ⟨rfl, rfl, (Nat.le_of_ble_eq_true rfl), (Nat.le_of_ble_eq_true rfl), (Nat.le_of_ble_eq_true rfl), (Nat.le_of_ble_eq_true rfl)⟩ (Nat.le_of_ble_eq_true rfl) (fun r9 h9 p9 => ?_)
      obtain ⟨rfl, rfl⟩ : r9 = some (.inl (-1004)) ∧ h9 = WW s := ⟨p9.1.trans (congrArg (fun z : Int => (some (Sum.inl z) : Option ab_V)) (hxs2.2.1 hse).1), p9.2⟩
      show V 53 [some (.inr (some 0)), some (.inl gg), some (.inl (s 107 0)), some (.inl (xcount s 3)), some (.inl o41), none, none, none, none, none, none] [.inl (-1004)] (WW s) 0 0
      refine rb_istore hV (L2 := [some (.inr (some 0)), some (.inl gg), some (.inl (s 107 0)), some (.inl (xcount s 3)), some (.inl o41), some (.inl (-1004)), none, none, none, none, none]) dL_seconds_53 (Nat.le_of_ble_eq_true rfl) rfl ?_
      refine rb_aload_n hV dL_seconds_55 rfl rfl ?_
      refine rb_iload hV dL_seconds_56 rfl ?_
      refine rb_iconst hV dL_seconds_58 ?_
      refine rb_callV hV (rest := []) dL_seconds_59 (c_X9_second s o41 1 (by unfold ab_r at *; omega) (by unfold ab_r at *; omega) hx) lk_L_56 rfl (Or.inl ⟨8, _, TX9, 8, gw_0 _, rfl⟩) rfl ⟨rfl, rfl, (Nat.le_of_ble_eq_true rfl), (Nat.le_of_ble_eq_true rfl), (Nat.le_of_ble_eq_true rfl), (Nat.le_of_ble_eq_true rfl)⟩ (Nat.le_of_ble_eq_true rfl) (fun r9 h9 p9 => ?_)
      obtain ⟨rfl, rfl⟩ : r9 = some (.inl (-1004)) ∧ h9 = WW s := ⟨p9.1.trans (congrArg (fun z : Int => (some (Sum.inl z) : Option ab_V)) (hxs2.2.1 hse).2), p9.2⟩
      show V 62 [some (.inr (some 0)), some (.inl gg), some (.inl (s 107 0)), some (.inl (xcount s 3)), some (.inl o41), some (.inl (-1004)), none, none, none, none, none] [.inl (-1004)] (WW s) 0 0
      refine rb_istore hV (L2 := [some (.inr (some 0)), some (.inl gg), some (.inl (s 107 0)), some (.inl (xcount s 3)), some (.inl o41), some (.inl (-1004)), some (.inl (-1004)), none, none, none, none]) dL_seconds_62 (Nat.le_of_ble_eq_true rfl) rfl ?_
      refine rb_aload_n hV dL_seconds_64 rfl rfl ?_
      refine rb_iload hV dL_seconds_65 rfl ?_
      refine rb_iconst hV dL_seconds_67 ?_
      refine rb_callV hV (rest := []) dL_seconds_68 (c_X9_line s o41 0 (by unfold ab_r at *; omega) (by unfold ab_r at *; omega) hx) lk_L_43 rfl (Or.inl ⟨8, _, TX9, 8, gw_0 _, rfl⟩) rfl ⟨rfl, rfl, (Nat.le_of_ble_eq_true rfl), (Nat.le_of_ble_eq_true rfl), (Nat.le_of_ble_eq_true rfl), (Nat.le_of_ble_eq_true rfl)⟩ (Nat.le_of_ble_eq_true rfl) (fun r9 h9 p9 => ?_)
      obtain ⟨rfl, rfl⟩ : r9 = some (.inl (s 26 o41)) ∧ h9 = WW s := ⟨p9.1.trans (congrArg (fun z : Int => (some (Sum.inl z) : Option ab_V)) rl.1), p9.2⟩
      show V 71 [some (.inr (some 0)), some (.inl gg), some (.inl (s 107 0)), some (.inl (xcount s 3)), some (.inl o41), some (.inl (-1004)), some (.inl (-1004)), none, none, none, none] [.inl (s 26 o41)] (WW s) 0 0
      refine rb_istore hV (L2 := [some (.inr (some 0)), some (.inl gg), some (.inl (s 107 0)), some (.inl (xcount s 3)), some (.inl o41), some (.inl (-1004)), some (.inl (-1004)), some (.inl (s 26 o41)), none, none, none]) dL_seconds_71 (Nat.le_of_ble_eq_true rfl) rfl ?_
      refine rb_aload_n hV dL_seconds_73 rfl rfl ?_
      refine rb_iload hV dL_seconds_74 rfl ?_
      refine rb_iconst hV dL_seconds_76 ?_
      refine rb_callV hV (rest := []) dL_seconds_77 (c_X9_line s o41 1 (by unfold ab_r at *; omega) (by unfold ab_r at *; omega) hx) lk_L_43 rfl (Or.inl ⟨8, _, TX9, 8, gw_0 _, rfl⟩) rfl ⟨rfl, rfl, (Nat.le_of_ble_eq_true rfl), (Nat.le_of_ble_eq_true rfl), (Nat.le_of_ble_eq_true rfl), (Nat.le_of_ble_eq_true rfl)⟩ (Nat.le_of_ble_eq_true rfl) (fun r9 h9 p9 => ?_)
      obtain ⟨rfl, rfl⟩ : r9 = some (.inl (s 26 (o41 + 1) - 1)) ∧ h9 = WW s := ⟨p9.1.trans (congrArg (fun z : Int => (some (Sum.inl z) : Option ab_V)) rl.2.1), p9.2⟩
      show V 80 [some (.inr (some 0)), some (.inl gg), some (.inl (s 107 0)), some (.inl (xcount s 3)), some (.inl o41), some (.inl (-1004)), some (.inl (-1004)), some (.inl (s 26 o41)), none, none, none] [.inl (s 26 (o41 + 1) - 1)] (WW s) 0 0
      refine rb_istore hV (L2 := [some (.inr (some 0)), some (.inl gg), some (.inl (s 107 0)), some (.inl (xcount s 3)), some (.inl o41), some (.inl (-1004)), some (.inl (-1004)), some (.inl (s 26 o41)), some (.inl (s 26 (o41 + 1) - 1)), none, none]) dL_seconds_80 (Nat.le_of_ble_eq_true rfl) rfl ?_
      refine rb_aload_n hV dL_seconds_82 rfl rfl ?_
      refine rb_iload hV dL_seconds_83 rfl ?_
      refine rb_iconst hV dL_seconds_85 ?_
      refine rb_callV hV (rest := []) dL_seconds_86 (c_X9_second s o41 2 (by unfold ab_r at *; omega) (by unfold ab_r at *; omega) hx) lk_L_56 rfl (Or.inl ⟨8, _, TX9, 8, gw_0 _, rfl⟩) rfl ⟨rfl, rfl, (Nat.le_of_ble_eq_true rfl), (Nat.le_of_ble_eq_true rfl), (Nat.le_of_ble_eq_true rfl), (Nat.le_of_ble_eq_true rfl)⟩ (Nat.le_of_ble_eq_true rfl) (fun r9 h9 p9 => ?_)
      obtain ⟨rfl, rfl⟩ : r9 = some (.inl (-1002)) ∧ h9 = WW s := ⟨p9.1.trans (congrArg (fun z : Int => (some (Sum.inl z) : Option ab_V)) hxs2.1), p9.2⟩
      show V 89 [some (.inr (some 0)), some (.inl gg), some (.inl (s 107 0)), some (.inl (xcount s 3)), some (.inl o41), some (.inl (-1004)), some (.inl (-1004)), some (.inl (s 26 o41)), some (.inl (s 26 (o41 + 1) - 1)), none, none] [.inl (-1002)] (WW s) 0 0
      refine rb_sipush hV dL_seconds_89 (by decide) ?_
      refine rb_icmp_eq hV (tgt := 97) dL_seconds_92 (by decide) ⟨(by unfold ab_r at *; omega), (by unfold ab_r at *; omega)⟩ (fun _ => ?_) (fun z => absurd z (by decide))
      refine rb_iload hV dL_seconds_97 rfl ?_
      refine rb_if_ge hV (tgt := 128) dL_seconds_99 (by decide) (by unfold ab_r at *; omega) (fun z => absurd z (by decide)) (fun _ => ?_)
      refine rb_iload hV dL_seconds_102 rfl ?_
      refine rb_sipush hV dL_seconds_104 (by decide) ?_
      refine rb_icmp_ne hV (tgt := 126) dL_seconds_107 (by decide) ⟨(by unfold ab_r at *; omega), (by unfold ab_r at *; omega)⟩ (fun z => absurd z (by decide)) (fun _ => ?_)
      refine rb_aload_n hV dL_seconds_110 rfl rfl ?_
      refine rb_iload hV dL_seconds_111 rfl ?_
      refine rb_callV hV (rest := []) dL_seconds_113 (c_X9_takeSecond s o41 (by unfold ab_r at *; omega) hx) lk_L_59 rfl (Or.inl ⟨8, _, TX9, 8, gw_0 _, rfl⟩) rfl ⟨rfl, rfl, (Nat.le_of_ble_eq_true rfl), (Nat.le_of_ble_eq_true rfl), (Nat.le_of_ble_eq_true rfl), (Nat.le_of_ble_eq_true rfl)⟩ (Nat.le_of_ble_eq_true rfl) (fun r9 h9 p9 => ?_)
      obtain ⟨rfl, rfl⟩ : r9 = some (.inl (-1004)) ∧ h9 = WW s := by
        rcases p9 with ⟨q, -⟩ | ⟨-, -, q⟩ | ⟨-, q, -⟩
        · omega
        · exact q
        · exact absurd hse q
      show V 116 [some (.inr (some 0)), some (.inl gg), some (.inl (s 107 0)), some (.inl (xcount s 3)), some (.inl o41), some (.inl (-1004)), some (.inl (-1004)), some (.inl (s 26 o41)), some (.inl (s 26 (o41 + 1) - 1)), none, none] [.inl (-1004)] (WW s) 0 0
      refine rb_sipush hV dL_seconds_116 (by decide) ?_
      refine rb_icmp_ne hV (tgt := 126) dL_seconds_119 (by decide) ⟨(by unfold ab_r at *; omega), (by unfold ab_r at *; omega)⟩ (fun z => absurd z (by decide)) (fun _ => ?_)
      refine rb_iconst hV dL_seconds_122 ?_
      refine rb_goto hV (tgt := 127) dL_seconds_123 (by decide) ?_
      refine rb_ret hV (r := some (.inl 1)) dL_seconds_127 rfl ⟨(Nat.le_of_ble_eq_true rfl), (Nat.le_of_ble_eq_true rfl)⟩ (by first | exact Or.inl rfl | exact Or.inr rfl | omega) ?_
      exact ⟨rfl, _, rfl, hx⟩
    · have hxs2 := XS2 ho41.1 ho41.2
      have rl := RV_line hx ho41.1 ho41.2
      have bl := rl.2.2.2.1
      have hsc := XI_sec hx ho41.1 ho41.2 hse
      obtain ⟨b2, hb2⟩ : ∃ b2, b2 = (sec (vX s) (s 19) (s 26) o41) := ⟨_, rfl⟩
      obtain ⟨su, hsu⟩ : ∃ su, su = (Sm (ldm (vX s) (s 26)) 0 o41 + cd (vX s) (s 19) (s 26 o41) (sec (vX s) (s 19) (s 26) o41)) := ⟨_, rfl⟩
      have hsc2 : ¬ b2 = s 26 (o41 + 1) - 1 ∧ (0 ≤ s 26 o41 ∧ s 26 o41 ≤ b2 ∧ b2 < s 103 0) ∧ xcount s 3 ≤ su ∧ su ≤ 2000000 := by
        rw [hb2, hsu]
        exact ⟨hsc.1, hsc.2.1, hsc.2.2.2.2⟩
      refine rb_aload_n hV dL_seconds_46 rfl rfl ?_
      refine rb_iload hV dL_seconds_47 rfl ?_
      refine rb_iconst hV dL_seconds_49 ?_
      refine rb_callV hV (rest := []) dL_seconds_50 (c_X9_second s o41 0 (by unfold ab_r at *; omega) (by unfold ab_r at *; omega) hx) lk_L_56 rfl (Or.inl ⟨8, _, TX9, 8, gw_0 _, rfl⟩) rfl ⟨rfl, rfl, (Nat.le_of_ble_eq_true rfl), (Nat.le_of_ble_eq_true rfl), (Nat.le_of_ble_eq_true rfl), (Nat.le_of_ble_eq_true rfl)⟩ (Nat.le_of_ble_eq_true rfl) (fun r9 h9 p9 => ?_)
      obtain ⟨rfl, rfl⟩ : r9 = some (.inl b2) ∧ h9 = WW s := ⟨p9.1.trans (congrArg (fun z : Int => (some (Sum.inl z) : Option ab_V)) ((hxs2.2.2 hse).1.trans hb2.symm)), p9.2⟩
      show V 53 [some (.inr (some 0)), some (.inl gg), some (.inl (s 107 0)), some (.inl (xcount s 3)), some (.inl o41), none, none, none, none, none, none] [.inl b2] (WW s) 0 0
      refine rb_istore hV (L2 := [some (.inr (some 0)), some (.inl gg), some (.inl (s 107 0)), some (.inl (xcount s 3)), some (.inl o41), some (.inl b2), none, none, none, none, none]) dL_seconds_53 (Nat.le_of_ble_eq_true rfl) rfl ?_
      refine rb_aload_n hV dL_seconds_55 rfl rfl ?_
      refine rb_iload hV dL_seconds_56 rfl ?_
      refine rb_iconst hV dL_seconds_58 ?_
      refine rb_callV hV (rest := []) dL_seconds_59 (c_X9_second s o41 1 (by unfold ab_r at *; omega) (by unfold ab_r at *; omega) hx) lk_L_56 rfl (Or.inl ⟨8, _, TX9, 8, gw_0 _, rfl⟩) rfl ⟨rfl, rfl, (Nat.le_of_ble_eq_true rfl), (Nat.le_of_ble_eq_true rfl), (Nat.le_of_ble_eq_true rfl), (Nat.le_of_ble_eq_true rfl)⟩ (Nat.le_of_ble_eq_true rfl) (fun r9 h9 p9 => ?_)
      obtain ⟨rfl, rfl⟩ : r9 = some (.inl su) ∧ h9 = WW s := ⟨p9.1.trans (congrArg (fun z : Int => (some (Sum.inl z) : Option ab_V)) ((hxs2.2.2 hse).2.trans hsu.symm)), p9.2⟩
      show V 62 [some (.inr (some 0)), some (.inl gg), some (.inl (s 107 0)), some (.inl (xcount s 3)), some (.inl o41), some (.inl b2), none, none, none, none, none] [.inl su] (WW s) 0 0
      refine rb_istore hV (L2 := [some (.inr (some 0)), some (.inl gg), some (.inl (s 107 0)), some (.inl (xcount s 3)), some (.inl o41), some (.inl b2), some (.inl su), none, none, none, none]) dL_seconds_62 (Nat.le_of_ble_eq_true rfl) rfl ?_
      refine rb_aload_n hV dL_seconds_64 rfl rfl ?_
      refine rb_iload hV dL_seconds_65 rfl ?_
      refine rb_iconst hV dL_seconds_67 ?_
      refine rb_callV hV (rest := []) dL_seconds_68 (c_X9_line s o41 0 (by unfold ab_r at *; omega) (by unfold ab_r at *; omega) hx) lk_L_43 rfl (Or.inl ⟨8, _, TX9, 8, gw_0 _, rfl⟩) rfl ⟨rfl, rfl, (Nat.le_of_ble_eq_true rfl), (Nat.le_of_ble_eq_true rfl), (Nat.le_of_ble_eq_true rfl), (Nat.le_of_ble_eq_true rfl)⟩ (Nat.le_of_ble_eq_true rfl) (fun r9 h9 p9 => ?_)
      obtain ⟨rfl, rfl⟩ : r9 = some (.inl (s 26 o41)) ∧ h9 = WW s := ⟨p9.1.trans (congrArg (fun z : Int => (some (Sum.inl z) : Option ab_V)) rl.1), p9.2⟩
      show V 71 [some (.inr (some 0)), some (.inl gg), some (.inl (s 107 0)), some (.inl (xcount s 3)), some (.inl o41), some (.inl b2), some (.inl su), none, none, none, none] [.inl (s 26 o41)] (WW s) 0 0
      refine rb_istore hV (L2 := [some (.inr (some 0)), some (.inl gg), some (.inl (s 107 0)), some (.inl (xcount s 3)), some (.inl o41), some (.inl b2), some (.inl su), some (.inl (s 26 o41)), none, none, none]) dL_seconds_71 (Nat.le_of_ble_eq_true rfl) rfl ?_
      refine rb_aload_n hV dL_seconds_73 rfl rfl ?_
      refine rb_iload hV dL_seconds_74 rfl ?_
      refine rb_iconst hV dL_seconds_76 ?_
      refine rb_callV hV (rest := []) dL_seconds_77 (c_X9_line s o41 1 (by unfold ab_r at *; omega) (by unfold ab_r at *; omega) hx) lk_L_43 rfl (Or.inl ⟨8, _, TX9, 8, gw_0 _, rfl⟩) rfl ⟨rfl, rfl, (Nat.le_of_ble_eq_true rfl), (Nat.le_of_ble_eq_true rfl), (Nat.le_of_ble_eq_true rfl), (Nat.le_of_ble_eq_true rfl)⟩ (Nat.le_of_ble_eq_true rfl) (fun r9 h9 p9 => ?_)
      obtain ⟨rfl, rfl⟩ : r9 = some (.inl (s 26 (o41 + 1) - 1)) ∧ h9 = WW s := ⟨p9.1.trans (congrArg (fun z : Int => (some (Sum.inl z) : Option ab_V)) rl.2.1), p9.2⟩
      show V 80 [some (.inr (some 0)), some (.inl gg), some (.inl (s 107 0)), some (.inl (xcount s 3)), some (.inl o41), some (.inl b2), some (.inl su), some (.inl (s 26 o41)), none, none, none] [.inl (s 26 (o41 + 1) - 1)] (WW s) 0 0
      refine rb_istore hV (L2 := [some (.inr (some 0)), some (.inl gg), some (.inl (s 107 0)), some (.inl (xcount s 3)), some (.inl o41), some (.inl b2), some (.inl su), some (.inl (s 26 o41)), some (.inl (s 26 (o41 + 1) - 1)), none, none]) dL_seconds_80 (Nat.le_of_ble_eq_true rfl) rfl ?_
      refine rb_aload_n hV dL_seconds_82 rfl rfl ?_
      refine rb_iload hV dL_seconds_83 rfl ?_
      refine rb_iconst hV dL_seconds_85 ?_
      refine rb_callV hV (rest := []) dL_seconds_86 (c_X9_second s o41 2 (by unfold ab_r at *; omega) (by unfold ab_r at *; omega) hx) lk_L_56 rfl (Or.inl ⟨8, _, TX9, 8, gw_0 _, rfl⟩) rfl ⟨rfl, rfl, (Nat.le_of_ble_eq_true rfl), (Nat.le_of_ble_eq_true rfl), (Nat.le_of_ble_eq_true rfl), (Nat.le_of_ble_eq_true rfl)⟩ (Nat.le_of_ble_eq_true rfl) (fun r9 h9 p9 => ?_)
      obtain ⟨rfl, rfl⟩ : r9 = some (.inl (-1002)) ∧ h9 = WW s := ⟨p9.1.trans (congrArg (fun z : Int => (some (Sum.inl z) : Option ab_V)) hxs2.1), p9.2⟩
      show V 89 [some (.inr (some 0)), some (.inl gg), some (.inl (s 107 0)), some (.inl (xcount s 3)), some (.inl o41), some (.inl b2), some (.inl su), some (.inl (s 26 o41)), some (.inl (s 26 (o41 + 1) - 1)), none, none] [.inl (-1002)] (WW s) 0 0
      refine rb_sipush hV dL_seconds_89 (by decide) ?_
      refine rb_icmp_eq hV (tgt := 97) dL_seconds_92 (by decide) ⟨(by unfold ab_r at *; omega), (by unfold ab_r at *; omega)⟩ (fun _ => ?_) (fun z => absurd z (by decide))
      refine rb_iload hV dL_seconds_97 rfl ?_
      refine rb_if_ge hV (tgt := 128) dL_seconds_99 (by decide) (by unfold ab_r at *; omega) (fun c99 => ?_) (fun c99 => absurd c99 (by omega))
      refine rb_iload hV dL_seconds_128 rfl ?_
      refine rb_iload hV dL_seconds_130 rfl ?_
      refine rb_icmp_eq hV (tgt := 203) dL_seconds_132 (by decide) ⟨(by unfold ab_r at *; omega), (by unfold ab_r at *; omega)⟩ (fun c132 => absurd c132 (by omega)) (fun c132 => ?_)
      refine rb_iload hV dL_seconds_135 rfl ?_
      refine rb_iload hV dL_seconds_137 rfl ?_
      refine rb_icmp_lt hV (tgt := 203) dL_seconds_139 (by decide) ⟨(by unfold ab_r at *; omega), (by unfold ab_r at *; omega)⟩ (fun c139 => absurd c139 (by omega)) (fun c139 => ?_)
      refine rb_iload hV dL_seconds_142 rfl ?_
      refine rb_iload_n hV dL_seconds_144 rfl rfl ?_
      refine rb_icmp_lt hV (tgt := 203) dL_seconds_145 (by decide) ⟨(by unfold ab_r at *; omega), (by unfold ab_r at *; omega)⟩ (fun c145 => absurd c145 (by omega)) (fun c145 => ?_)
      refine rb_aload_n hV dL_seconds_148 rfl rfl ?_
      refine rb_iload hV dL_seconds_149 rfl ?_
      refine rb_callV hV (rest := []) dL_seconds_151 (c_X9_takeSecond s o41 (by unfold ab_r at *; omega) hx) lk_L_59 rfl (Or.inl ⟨8, _, TX9, 8, gw_0 _, rfl⟩) rfl ⟨rfl, rfl, (Nat.le_of_ble_eq_true rfl), (Nat.le_of_ble_eq_true rfl), (Nat.le_of_ble_eq_true rfl), (Nat.le_of_ble_eq_true rfl)⟩ (Nat.le_of_ble_eq_true rfl) (fun r9 h9 p9 => ?_)
      obtain ⟨s2, rfl, rfl, hx2, hk2, hgo⟩ : ∃ s2, r9 = some (.inl (s2 107 0)) ∧ h9 = WW s2 ∧ XI s2 ∧ KEEP LB s s2 ∧ (s2 107 0, s2 26) = go (s 20) (s 103 0) (s 103 0 - ((sec (vX s) (s 19) (s 26) o41) + 1)).toNat (o41 + 1) ((sec (vX s) (s 19) (s 26) o41) + 1) (s 26) := by
        rcases p9 with ⟨q, -⟩ | ⟨-, q, -⟩ | ⟨-, -, q⟩
        · omega
        · exact absurd q hse
        · exact q
      have htk := XI_take hx ho41.1 ho41.2 hse hx2 hk2 hgo
      have rl2 := RV_line hx2 ho41.1 htk.1
      have hnb := hx2.2.2.2.1.1
      have hnb2 := hx2.1.1
      have e2 : vX s2 0 0 = s2 103 0 := rfl
      show V 154 [some (.inr (some 0)), some (.inl gg), some (.inl (s 107 0)), some (.inl (xcount s 3)), some (.inl o41), some (.inl b2), some (.inl su), some (.inl (s 26 o41)), some (.inl (s 26 (o41 + 1) - 1)), none, none] [.inl (s2 107 0)] (WW s2) 0 0
      refine rb_aload_n hV dL_seconds_154 rfl rfl ?_
      refine rb_iconst hV dL_seconds_155 ?_
      refine rb_callV hV (rest := [.inl (s2 107 0)]) dL_seconds_156 (c_X9_count s2 1 (by unfold ab_r at *; omega) hx2) lk_L_36 rfl (Or.inl ⟨8, _, TX9, 8, gw_0 _, rfl⟩) rfl ⟨rfl, rfl, (Nat.le_of_ble_eq_true rfl), (Nat.le_of_ble_eq_true rfl), (Nat.le_of_ble_eq_true rfl), (Nat.le_of_ble_eq_true rfl)⟩ (Nat.le_of_ble_eq_true rfl) (fun r9 h9 p9 => ?_)
      obtain ⟨rfl, rfl⟩ : r9 = some (.inl (s2 107 0)) ∧ h9 = WW s2 := ⟨p9.1.trans (congrArg (fun z : Int => (some (Sum.inl z) : Option ab_V)) rfl), p9.2⟩
      show V 159 [some (.inr (some 0)), some (.inl gg), some (.inl (s 107 0)), some (.inl (xcount s 3)), some (.inl o41), some (.inl b2), some (.inl su), some (.inl (s 26 o41)), some (.inl (s 26 (o41 + 1) - 1)), none, none] [.inl (s2 107 0), .inl (s2 107 0)] (WW s2) 0 0
      refine rb_icmp_ne hV (tgt := 203) dL_seconds_159 (by decide) ⟨(by unfold ab_r at *; omega), (by unfold ab_r at *; omega)⟩ (fun c159 => absurd c159 (by omega)) (fun c159 => ?_)
      refine rb_aload_n hV dL_seconds_162 rfl rfl ?_
      refine rb_iload hV dL_seconds_163 rfl ?_
      refine rb_iconst hV dL_seconds_165 ?_
      refine rb_callV hV (rest := []) dL_seconds_166 (c_X9_line s2 o41 0 (by unfold ab_r at *; omega) (by unfold ab_r at *; omega) hx2) lk_L_43 rfl (Or.inl ⟨8, _, TX9, 8, gw_0 _, rfl⟩) rfl ⟨rfl, rfl, (Nat.le_of_ble_eq_true rfl), (Nat.le_of_ble_eq_true rfl), (Nat.le_of_ble_eq_true rfl), (Nat.le_of_ble_eq_true rfl)⟩ (Nat.le_of_ble_eq_true rfl) (fun r9 h9 p9 => ?_)
      obtain ⟨rfl, rfl⟩ : r9 = some (.inl (s 26 o41)) ∧ h9 = WW s2 := ⟨p9.1.trans (congrArg (fun z : Int => (some (Sum.inl z) : Option ab_V)) (rl2.1.trans htk.2.1)), p9.2⟩
      show V 169 [some (.inr (some 0)), some (.inl gg), some (.inl (s 107 0)), some (.inl (xcount s 3)), some (.inl o41), some (.inl b2), some (.inl su), some (.inl (s 26 o41)), some (.inl (s 26 (o41 + 1) - 1)), none, none] [.inl (s 26 o41)] (WW s2) 0 0
      refine rb_iload hV dL_seconds_169 rfl ?_
      refine rb_icmp_ne hV (tgt := 203) dL_seconds_171 (by decide) ⟨(by unfold ab_r at *; omega), (by unfold ab_r at *; omega)⟩ (fun c171 => absurd c171 (by omega)) (fun c171 => ?_)
      refine rb_aload_n hV dL_seconds_174 rfl rfl ?_
      refine rb_iload hV dL_seconds_175 rfl ?_
      refine rb_iconst hV dL_seconds_177 ?_
      refine rb_callV hV (rest := []) dL_seconds_178 (c_X9_line s2 o41 1 (by unfold ab_r at *; omega) (by unfold ab_r at *; omega) hx2) lk_L_43 rfl (Or.inl ⟨8, _, TX9, 8, gw_0 _, rfl⟩) rfl ⟨rfl, rfl, (Nat.le_of_ble_eq_true rfl), (Nat.le_of_ble_eq_true rfl), (Nat.le_of_ble_eq_true rfl), (Nat.le_of_ble_eq_true rfl)⟩ (Nat.le_of_ble_eq_true rfl) (fun r9 h9 p9 => ?_)
      obtain ⟨rfl, rfl⟩ : r9 = some (.inl b2) ∧ h9 = WW s2 := ⟨p9.1.trans (congrArg (fun z : Int => (some (Sum.inl z) : Option ab_V)) (rl2.2.1.trans (htk.2.2.1.trans hb2.symm))), p9.2⟩
      show V 181 [some (.inr (some 0)), some (.inl gg), some (.inl (s 107 0)), some (.inl (xcount s 3)), some (.inl o41), some (.inl b2), some (.inl su), some (.inl (s 26 o41)), some (.inl (s 26 (o41 + 1) - 1)), none, none] [.inl b2] (WW s2) 0 0
      refine rb_iload hV dL_seconds_181 rfl ?_
      refine rb_icmp_ne hV (tgt := 203) dL_seconds_183 (by decide) ⟨(by unfold ab_r at *; omega), (by unfold ab_r at *; omega)⟩ (fun c183 => absurd c183 (by omega)) (fun c183 => ?_)
      refine rb_aload_n hV dL_seconds_186 rfl rfl ?_
      refine rb_iconst hV dL_seconds_187 ?_
      refine rb_callV hV (rest := []) dL_seconds_188 (c_X9_count s2 2 (by unfold ab_r at *; omega) hx2) lk_L_36 rfl (Or.inl ⟨8, _, TX9, 8, gw_0 _, rfl⟩) rfl ⟨rfl, rfl, (Nat.le_of_ble_eq_true rfl), (Nat.le_of_ble_eq_true rfl), (Nat.le_of_ble_eq_true rfl), (Nat.le_of_ble_eq_true rfl)⟩ (Nat.le_of_ble_eq_true rfl) (fun r9 h9 p9 => ?_)
      obtain ⟨rfl, rfl⟩ : r9 = some (.inl su) ∧ h9 = WW s2 := ⟨p9.1.trans (congrArg (fun z : Int => (some (Sum.inl z) : Option ab_V)) (show xcount s2 2 = su from htk.2.2.2.1.trans hsu.symm)), p9.2⟩
      show V 191 [some (.inr (some 0)), some (.inl gg), some (.inl (s 107 0)), some (.inl (xcount s 3)), some (.inl o41), some (.inl b2), some (.inl su), some (.inl (s 26 o41)), some (.inl (s 26 (o41 + 1) - 1)), none, none] [.inl su] (WW s2) 0 0
      refine rb_iload hV dL_seconds_191 rfl ?_
      refine rb_icmp_ne hV (tgt := 203) dL_seconds_193 (by decide) ⟨(by unfold ab_r at *; omega), (by unfold ab_r at *; omega)⟩ (fun c193 => absurd c193 (by omega)) (fun c193 => ?_)
      refine rb_aload_n hV dL_seconds_196 rfl rfl ?_
      refine rb_callS hV (rest := []) dL_seconds_197 (c_L_lines s2 hx2) lk_L_74 rfl rfl ⟨rfl, rfl, (Nat.le_of_ble_eq_true rfl), (Nat.le_of_ble_eq_true rfl), (Nat.le_of_ble_eq_true rfl), (Nat.le_of_ble_eq_true rfl)⟩ (Nat.le_of_ble_eq_true rfl) (fun r9 h9 p9 => ?_)
      obtain ⟨rfl, rfl⟩ := p9
      show V 200 [some (.inr (some 0)), some (.inl gg), some (.inl (s 107 0)), some (.inl (xcount s 3)), some (.inl o41), some (.inl b2), some (.inl su), some (.inl (s 26 o41)), some (.inl (s 26 (o41 + 1) - 1)), none, none] [.inl 1] (WW s2) 0 0
      refine rb_if_ne hV (tgt := 205) dL_seconds_200 (by decide) (by unfold ab_r at *; omega) (fun _ => ?_) (fun z => absurd z (by decide))
      refine rb_iload_n hV dL_seconds_205 rfl rfl ?_
      refine rb_bipush hV dL_seconds_206 (by decide) ?_
      refine rb_ishrx hV dL_seconds_208 (fun z208 r208 => ?_)
      refine rb_iconst hV dL_seconds_209 ?_
      refine rb_iandx hV dL_seconds_210 (fun z210 r210 => ?_)
      refine rb_if_ne hV (tgt := 276) dL_seconds_211 (by decide) (by unfold ab_r at *; omega) (fun c211 => ?_) (fun c211 => ?_)
      · refine rb_aload_n hV dL_seconds_276 rfl rfl ?_
        refine rb_callV hV (rest := []) dL_seconds_277 (c_X9_layBest s2 hx2) lk_L_68 rfl (Or.inl ⟨8, _, TX9, 8, gw_0 _, rfl⟩) rfl ⟨rfl, rfl, (Nat.le_of_ble_eq_true rfl), (Nat.le_of_ble_eq_true rfl), (Nat.le_of_ble_eq_true rfl), (Nat.le_of_ble_eq_true rfl)⟩ (Nat.le_of_ble_eq_true rfl) (fun r9 h9 p9 => ?_)
        obtain ⟨m277, rfl, hx277, hb277, hk277, rfl⟩ := p9
        have h277 : ¬ m277 107 0 = 0 := fun q => absurd ((no_way hx2 hx277 hk277 (by decide) (by decide)).mp q) (by omega)
        rw [if_neg h277]
        have hbe := BESTL_opt hx277 hb277
        have hbf : xcount m277 3 = xcount s2 3 := by
          rw [xcount_3, xcount_3, hk277 103 (by decide), hk277 19 (by decide)]
        have hnb := hx277.2.2.2.1.1
        have hnb2 := hx277.1.1
        have e277 : vX m277 0 0 = m277 103 0 := rfl
        have hdb := (ST_b hx277.1 hx277.2.2.2.1 hx277.2.2.2.2.1).1
        show V 280 [some (.inr (some 0)), some (.inl gg), some (.inl (s 107 0)), some (.inl (xcount s 3)), some (.inl o41), some (.inl b2), some (.inl su), some (.inl (s 26 o41)), some (.inl (s 26 (o41 + 1) - 1)), none, none] [.inl (m277 107 0)] (WW m277) 0 0
        refine rb_aload_n hV dL_seconds_280 rfl rfl ?_
        refine rb_iconst hV dL_seconds_281 ?_
        refine rb_callV hV (rest := [.inl (m277 107 0)]) dL_seconds_282 (c_X9_count m277 1 (by unfold ab_r at *; omega) hx277) lk_L_36 rfl (Or.inl ⟨8, _, TX9, 8, gw_0 _, rfl⟩) rfl ⟨rfl, rfl, (Nat.le_of_ble_eq_true rfl), (Nat.le_of_ble_eq_true rfl), (Nat.le_of_ble_eq_true rfl), (Nat.le_of_ble_eq_true rfl)⟩ (Nat.le_of_ble_eq_true rfl) (fun r9 h9 p9 => ?_)
        obtain ⟨rfl, rfl⟩ : r9 = some (.inl (m277 107 0)) ∧ h9 = WW m277 := ⟨p9.1.trans (congrArg (fun z : Int => (some (Sum.inl z) : Option ab_V)) rfl), p9.2⟩
        show V 285 [some (.inr (some 0)), some (.inl gg), some (.inl (s 107 0)), some (.inl (xcount s 3)), some (.inl o41), some (.inl b2), some (.inl su), some (.inl (s 26 o41)), some (.inl (s 26 (o41 + 1) - 1)), none, none] [.inl (m277 107 0), .inl (m277 107 0)] (WW m277) 0 0
        refine rb_icmp_ne hV (tgt := 301) dL_seconds_285 (by decide) ⟨(by unfold ab_r at *; omega), (by unfold ab_r at *; omega)⟩ (fun c285 => absurd c285 (by omega)) (fun c285 => ?_)
        refine rb_aload_n hV dL_seconds_288 rfl rfl ?_
        refine rb_iconst hV dL_seconds_289 ?_
        refine rb_callV hV (rest := []) dL_seconds_290 (c_X9_count m277 2 (by unfold ab_r at *; omega) hx277) lk_L_36 rfl (Or.inl ⟨8, _, TX9, 8, gw_0 _, rfl⟩) rfl ⟨rfl, rfl, (Nat.le_of_ble_eq_true rfl), (Nat.le_of_ble_eq_true rfl), (Nat.le_of_ble_eq_true rfl), (Nat.le_of_ble_eq_true rfl)⟩ (Nat.le_of_ble_eq_true rfl) (fun r9 h9 p9 => ?_)
        obtain ⟨rfl, rfl⟩ : r9 = some (.inl (m277 108 0)) ∧ h9 = WW m277 := ⟨p9.1.trans (congrArg (fun z : Int => (some (Sum.inl z) : Option ab_V)) rfl), p9.2⟩
        show V 293 [some (.inr (some 0)), some (.inl gg), some (.inl (s 107 0)), some (.inl (xcount s 3)), some (.inl o41), some (.inl b2), some (.inl su), some (.inl (s 26 o41)), some (.inl (s 26 (o41 + 1) - 1)), none, none] [.inl (m277 108 0)] (WW m277) 0 0
        refine rb_iload_n hV dL_seconds_293 rfl rfl ?_
        refine rb_icmp_ne hV (tgt := 301) dL_seconds_294 (by decide) ⟨(by unfold ab_r at *; omega), (by unfold ab_r at *; omega)⟩ (fun c294 => absurd c294 (by omega)) (fun c294 => ?_)
        refine rb_iconst hV dL_seconds_297 ?_
        refine rb_goto hV (tgt := 302) dL_seconds_298 (by decide) ?_
        refine rb_ret hV (r := some (.inl 1)) dL_seconds_302 rfl ⟨(Nat.le_of_ble_eq_true rfl), (Nat.le_of_ble_eq_true rfl)⟩ (by first | exact Or.inl rfl | exact Or.inr rfl | omega) ?_
        exact ⟨rfl, _, rfl, hx277⟩
      · refine rb_aload_n hV dL_seconds_214 rfl rfl ?_
        refine rb_bipush hV dL_seconds_215 (by decide) ?_
        refine rb_callV hV (rest := []) dL_seconds_217 (c_X9_count s2 6 (by unfold ab_r at *; omega) hx2) lk_L_36 rfl (Or.inl ⟨8, _, TX9, 8, gw_0 _, rfl⟩) rfl ⟨rfl, rfl, (Nat.le_of_ble_eq_true rfl), (Nat.le_of_ble_eq_true rfl), (Nat.le_of_ble_eq_true rfl), (Nat.le_of_ble_eq_true rfl)⟩ (Nat.le_of_ble_eq_true rfl) (fun r9 h9 p9 => ?_)
        obtain ⟨rfl, rfl⟩ : r9 = some (.inl (s2 110 0)) ∧ h9 = WW s2 := ⟨p9.1.trans (congrArg (fun z : Int => (some (Sum.inl z) : Option ab_V)) rfl), p9.2⟩
        show V 220 [some (.inr (some 0)), some (.inl gg), some (.inl (s 107 0)), some (.inl (xcount s 3)), some (.inl o41), some (.inl b2), some (.inl su), some (.inl (s 26 o41)), some (.inl (s 26 (o41 + 1) - 1)), none, none] [.inl (s2 110 0)] (WW s2) 0 0
        refine rb_istore hV (L2 := [some (.inr (some 0)), some (.inl gg), some (.inl (s 107 0)), some (.inl (xcount s 3)), some (.inl o41), some (.inl b2), some (.inl su), some (.inl (s 26 o41)), some (.inl (s 26 (o41 + 1) - 1)), some (.inl (s2 110 0)), none]) dL_seconds_220 (Nat.le_of_ble_eq_true rfl) rfl ?_
        refine rb_aload_n hV dL_seconds_222 rfl rfl ?_
        refine rb_callV hV (rest := []) dL_seconds_223 (c_X9_breakRivers s2 hx2) lk_L_71 rfl (Or.inl ⟨8, _, TX9, 8, gw_0 _, rfl⟩) rfl ⟨rfl, rfl, (Nat.le_of_ble_eq_true rfl), (Nat.le_of_ble_eq_true rfl), (Nat.le_of_ble_eq_true rfl), (Nat.le_of_ble_eq_true rfl)⟩ (Nat.le_of_ble_eq_true rfl) (fun r9 h9 p9 => ?_)
        obtain ⟨n223, m223, rfl, rfl, hx223, hk223, hn223, hbr223, -⟩ := p9
        have h223 := BRN_lt hx2.1 (BWp_BW hx2.2.2.1) hx2.2.2.2.1 n223.toNat _ _ _ hbr223
        have h224 : (n223 = 0 → m223 110 0 = s2 110 0) ∧ (¬ n223 = 0 → m223 110 0 < s2 110 0) := ⟨fun q => h223.1 (by omega), fun q => h223.2.1 (by omega)⟩
        have hsb := (ST_b hx223.1 hx223.2.2.2.1 hx223.2.2.2.2.1).2
        have hsb2 := (ST_b hx2.1 hx2.2.2.2.1 hx2.2.2.2.2.1).2
        show V 226 [some (.inr (some 0)), some (.inl gg), some (.inl (s 107 0)), some (.inl (xcount s 3)), some (.inl o41), some (.inl b2), some (.inl su), some (.inl (s 26 o41)), some (.inl (s 26 (o41 + 1) - 1)), some (.inl (s2 110 0)), none] [.inl n223] (WW m223) 0 0
        refine rb_istore hV (L2 := [some (.inr (some 0)), some (.inl gg), some (.inl (s 107 0)), some (.inl (xcount s 3)), some (.inl o41), some (.inl b2), some (.inl su), some (.inl (s 26 o41)), some (.inl (s 26 (o41 + 1) - 1)), some (.inl (s2 110 0)), some (.inl n223)]) dL_seconds_226 (Nat.le_of_ble_eq_true rfl) rfl ?_
        refine rb_iload hV dL_seconds_228 rfl ?_
        refine rb_if_lt hV (tgt := 274) dL_seconds_230 (by decide) (by unfold ab_r at *; omega) (fun c230 => absurd c230 (by omega)) (fun c230 => ?_)
        refine rb_iload hV dL_seconds_233 rfl ?_
        refine rb_bipush hV dL_seconds_235 (by decide) ?_
        refine rb_icmp_gt hV (tgt := 274) dL_seconds_237 (by decide) ⟨(by unfold ab_r at *; omega), (by unfold ab_r at *; omega)⟩ (fun c237 => absurd c237 (by omega)) (fun c237 => ?_)
        refine rb_iload hV dL_seconds_240 rfl ?_
        refine rb_if_ne hV (tgt := 259) dL_seconds_242 (by decide) (by unfold ab_r at *; omega) (fun c242 => ?_) (fun c242 => ?_)
        · refine rb_aload_n hV dL_seconds_259 rfl rfl ?_
          refine rb_bipush hV dL_seconds_260 (by decide) ?_
          refine rb_callV hV (rest := []) dL_seconds_262 (c_X9_count m223 6 (by unfold ab_r at *; omega) hx223) lk_L_36 rfl (Or.inl ⟨8, _, TX9, 8, gw_0 _, rfl⟩) rfl ⟨rfl, rfl, (Nat.le_of_ble_eq_true rfl), (Nat.le_of_ble_eq_true rfl), (Nat.le_of_ble_eq_true rfl), (Nat.le_of_ble_eq_true rfl)⟩ (Nat.le_of_ble_eq_true rfl) (fun r9 h9 p9 => ?_)
          obtain ⟨rfl, rfl⟩ : r9 = some (.inl (m223 110 0)) ∧ h9 = WW m223 := ⟨p9.1.trans (congrArg (fun z : Int => (some (Sum.inl z) : Option ab_V)) rfl), p9.2⟩
          show V 265 [some (.inr (some 0)), some (.inl gg), some (.inl (s 107 0)), some (.inl (xcount s 3)), some (.inl o41), some (.inl b2), some (.inl su), some (.inl (s 26 o41)), some (.inl (s 26 (o41 + 1) - 1)), some (.inl (s2 110 0)), some (.inl n223)] [.inl (m223 110 0)] (WW m223) 0 0
          refine rb_iload hV dL_seconds_265 rfl ?_
          refine rb_icmp_ge hV (tgt := 274) dL_seconds_267 (by decide) ⟨(by unfold ab_r at *; omega), (by unfold ab_r at *; omega)⟩ (fun c267 => absurd c267 (by omega)) (fun c267 => ?_)
          refine rb_iconst hV dL_seconds_270 ?_
          refine rb_goto hV (tgt := 275) dL_seconds_271 (by decide) ?_
          refine rb_ret hV (r := some (.inl 1)) dL_seconds_275 rfl ⟨(Nat.le_of_ble_eq_true rfl), (Nat.le_of_ble_eq_true rfl)⟩ (by first | exact Or.inl rfl | exact Or.inr rfl | omega) ?_
          exact ⟨rfl, _, rfl, hx223⟩
        · refine rb_aload_n hV dL_seconds_245 rfl rfl ?_
          refine rb_bipush hV dL_seconds_246 (by decide) ?_
          refine rb_callV hV (rest := []) dL_seconds_248 (c_X9_count m223 6 (by unfold ab_r at *; omega) hx223) lk_L_36 rfl (Or.inl ⟨8, _, TX9, 8, gw_0 _, rfl⟩) rfl ⟨rfl, rfl, (Nat.le_of_ble_eq_true rfl), (Nat.le_of_ble_eq_true rfl), (Nat.le_of_ble_eq_true rfl), (Nat.le_of_ble_eq_true rfl)⟩ (Nat.le_of_ble_eq_true rfl) (fun r9 h9 p9 => ?_)
          obtain ⟨rfl, rfl⟩ : r9 = some (.inl (m223 110 0)) ∧ h9 = WW m223 := ⟨p9.1.trans (congrArg (fun z : Int => (some (Sum.inl z) : Option ab_V)) rfl), p9.2⟩
          show V 251 [some (.inr (some 0)), some (.inl gg), some (.inl (s 107 0)), some (.inl (xcount s 3)), some (.inl o41), some (.inl b2), some (.inl su), some (.inl (s 26 o41)), some (.inl (s 26 (o41 + 1) - 1)), some (.inl (s2 110 0)), some (.inl n223)] [.inl (m223 110 0)] (WW m223) 0 0
          refine rb_iload hV dL_seconds_251 rfl ?_
          refine rb_icmp_ne hV (tgt := 274) dL_seconds_253 (by decide) ⟨(by unfold ab_r at *; omega), (by unfold ab_r at *; omega)⟩ (fun c253 => absurd c253 (by omega)) (fun c253 => ?_)
          refine rb_goto hV (tgt := 270) dL_seconds_256 (by decide) ?_
          refine rb_iconst hV dL_seconds_270 ?_
          refine rb_goto hV (tgt := 275) dL_seconds_271 (by decide) ?_
          refine rb_ret hV (r := some (.inl 1)) dL_seconds_275 rfl ⟨(Nat.le_of_ble_eq_true rfl), (Nat.le_of_ble_eq_true rfl)⟩ (by first | exact Or.inl rfl | exact Or.inr rfl | omega) ?_
          exact ⟨rfl, _, rfl, hx223⟩
  · refine rb_aload_n hV dL_seconds_16 rfl rfl ?_
    refine rb_callV hV (rest := []) dL_seconds_17 (c_X9_layBest s hx) lk_L_68 rfl (Or.inl ⟨8, _, TX9, 8, gw_0 _, rfl⟩) rfl ⟨rfl, rfl, (Nat.le_of_ble_eq_true rfl), (Nat.le_of_ble_eq_true rfl), (Nat.le_of_ble_eq_true rfl), (Nat.le_of_ble_eq_true rfl)⟩ (Nat.le_of_ble_eq_true rfl) (fun r9 h9 p9 => ?_)
    obtain ⟨m17, rfl, hx17, hb17, hk17, rfl⟩ := p9
    have h17 : m17 107 0 = 0 := (no_way hx hx17 hk17 (by decide) (by decide)).mpr c13
    rw [if_pos h17]
    show V 20 [some (.inr (some 0)), some (.inl gg), some (.inl (s 107 0)), some (.inl (xcount s 3)), none, none, none, none, none, none, none] [.inl (-1004)] (WW m17) 0 0
    refine rb_sipush hV dL_seconds_20 (by decide) ?_
    refine rb_icmp_ne hV (tgt := 37) dL_seconds_23 (by decide) ⟨(by unfold ab_r at *; omega), (by unfold ab_r at *; omega)⟩ (fun z => absurd z (by decide)) (fun _ => ?_)
    refine rb_aload_n hV dL_seconds_26 rfl rfl ?_
    refine rb_callV hV (rest := []) dL_seconds_27 (c_X9_breakRivers m17 hx17) lk_L_71 rfl (Or.inl ⟨8, _, TX9, 8, gw_0 _, rfl⟩) rfl ⟨rfl, rfl, (Nat.le_of_ble_eq_true rfl), (Nat.le_of_ble_eq_true rfl), (Nat.le_of_ble_eq_true rfl), (Nat.le_of_ble_eq_true rfl)⟩ (Nat.le_of_ble_eq_true rfl) (fun r9 h9 p9 => ?_)
    obtain ⟨n27, m27, rfl, rfl, hx27, hk27, hn27, hbr27, -⟩ := p9
    have h27 := BRN_lt hx17.1 (BWp_BW hx17.2.2.1) hx17.2.2.2.1 n27.toNat _ _ _ hbr27
    have h28 := h27.2.2.2 h17
    show V 30 [some (.inr (some 0)), some (.inl gg), some (.inl (s 107 0)), some (.inl (xcount s 3)), none, none, none, none, none, none, none] [.inl n27] (WW m27) 0 0
    refine rb_if_ne hV (tgt := 37) dL_seconds_30 (by decide) (by unfold ab_r at *; omega) (fun c30 => absurd c30 (by omega)) (fun c30 => ?_)
    refine rb_iconst hV dL_seconds_33 ?_
    refine rb_goto hV (tgt := 38) dL_seconds_34 (by decide) ?_
    refine rb_ret hV (r := some (.inl 1)) dL_seconds_38 rfl ⟨(Nat.le_of_ble_eq_true rfl), (Nat.le_of_ble_eq_true rfl)⟩ (by first | exact Or.inl rfl | exact Or.inr rfl | omega) ?_
    exact ⟨rfl, _, rfl, hx27⟩
