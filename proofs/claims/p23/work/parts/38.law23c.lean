/-! p23: the law looks at the lines -/

set_option maxHeartbeats 4000000 in
set_option maxRecDepth 20000 in
theorem c_L_lines (s : Nat → Int → Int) (hx : XI s) : ab_Mt yL_lines cL_lines 19 (some .boolean) ({ frames := 6, cells := 0, slots := 0, locals := 147 } : Room) false 0 0 [.inr (some 0)] (WW s) (fun r h2 => r = some (.inl 1) ∧ h2 = WW s) := by
  refine ab_mk RL false rfl pn_L_lines (fun z => by cases z) (Nat.le_of_ble_eq_true rfl) (fun V hV => ?_)
  show V 0 [some (.inr (some 0)), none, none, none, none, none, none, none, none, none, none, none, none, none, none, none, none, none, none] [] (WW s) 0 0
  obtain ⟨hp, hr, hbw, hv, hst, hz, hx1, hx2, hx3, hx4⟩ := id hx
  have hn : 0 ≤ s 103 0 ∧ s 103 0 ≤ 60 := hp.1
  have hnl : 0 ≤ s 107 0 ∧ s 107 0 ≤ s 103 0 := hv.1
  have hb := BWp_BS hp hbw
  refine rb_aload_n hV dL_lines_0 rfl rfl ?_
  refine rb_iconst hV dL_lines_1 ?_
  refine rb_callV hV (rest := []) dL_lines_2 (c_X9_count s 1 (by unfold ab_r at *; omega) hx) lk_L_36 rfl (Or.inl ⟨8, _, TX9, 8, gw_0 _, rfl⟩) rfl ⟨rfl, rfl, (Nat.le_of_ble_eq_true rfl), (Nat.le_of_ble_eq_true rfl), (Nat.le_of_ble_eq_true rfl), (Nat.le_of_ble_eq_true rfl)⟩ (Nat.le_of_ble_eq_true rfl) (fun r9 h9 p9 => ?_)
  obtain ⟨rfl, rfl⟩ : r9 = some (.inl (s 107 0)) ∧ h9 = WW s := ⟨p9.1.trans (congrArg (fun z : Int => (some (Sum.inl z) : Option ab_V)) rfl), p9.2⟩
  show V 5 [some (.inr (some 0)), none, none, none, none, none, none, none, none, none, none, none, none, none, none, none, none, none, none] [.inl (s 107 0)] (WW s) 0 0
  refine rb_istore_n hV (L2 := [some (.inr (some 0)), some (.inl (s 107 0)), none, none, none, none, none, none, none, none, none, none, none, none, none, none, none, none, none]) dL_lines_5 rfl (Nat.le_of_ble_eq_true rfl) rfl ?_
  refine rb_aload_n hV dL_lines_6 rfl rfl ?_
  refine rb_iconst hV dL_lines_7 ?_
  refine rb_callV hV (rest := []) dL_lines_8 (c_X9_count s 0 (by unfold ab_r at *; omega) hx) lk_L_36 rfl (Or.inl ⟨8, _, TX9, 8, gw_0 _, rfl⟩) rfl ⟨rfl, rfl, (Nat.le_of_ble_eq_true rfl), (Nat.le_of_ble_eq_true rfl), (Nat.le_of_ble_eq_true rfl), (Nat.le_of_ble_eq_true rfl)⟩ (Nat.le_of_ble_eq_true rfl) (fun r9 h9 p9 => ?_)
  obtain ⟨rfl, rfl⟩ : r9 = some (.inl (s 103 0)) ∧ h9 = WW s := ⟨p9.1.trans (congrArg (fun z : Int => (some (Sum.inl z) : Option ab_V)) rfl), p9.2⟩
  show V 11 [some (.inr (some 0)), some (.inl (s 107 0)), none, none, none, none, none, none, none, none, none, none, none, none, none, none, none, none, none] [.inl (s 103 0)] (WW s) 0 0
  refine rb_istore_n hV (L2 := [some (.inr (some 0)), some (.inl (s 107 0)), some (.inl (s 103 0)), none, none, none, none, none, none, none, none, none, none, none, none, none, none, none, none]) dL_lines_11 rfl (Nat.le_of_ble_eq_true rfl) rfl ?_
  refine rb_iconst hV dL_lines_12 ?_
  refine rb_istore_n hV (L2 := [some (.inr (some 0)), some (.inl (s 107 0)), some (.inl (s 103 0)), some (.inl 0), none, none, none, none, none, none, none, none, none, none, none, none, none, none, none]) dL_lines_13 rfl (Nat.le_of_ble_eq_true rfl) rfl ?_
  refine rb_iconst hV dL_lines_14 ?_
  refine rb_istore hV (L2 := [some (.inr (some 0)), some (.inl (s 107 0)), some (.inl (s 103 0)), some (.inl 0), some (.inl 0), none, none, none, none, none, none, none, none, none, none, none, none, none, none]) dL_lines_15 (Nat.le_of_ble_eq_true rfl) rfl ?_
  refine rb_iconst hV dL_lines_17 ?_
  refine rb_istore hV (L2 := [some (.inr (some 0)), some (.inl (s 107 0)), some (.inl (s 103 0)), some (.inl 0), some (.inl 0), some (.inl 0), none, none, none, none, none, none, none, none, none, none, none, none, none]) dL_lines_18 (Nat.le_of_ble_eq_true rfl) rfl ?_
  have h20 : ∀ (n20 : Nat) (next : Int) (dem : Int) (line : Int), (0 ≤ line ∧ line ≤ s 107 0) → (line = 0 ∧ next = 0 ∨ 0 < line ∧ next = s 26 line) → (dem = Sm (ldm (vX s) (s 26)) 0 line) → ((s 107 0 - line).toNat) < n20 → V 20 [some (.inr (some 0)), some (.inl (s 107 0)), some (.inl (s 103 0)), some (.inl next), some (.inl dem), some (.inl line), none, none, none, none, none, none, none, none, none, none, none, none, none] [] (WW s) 0 0 := by
    intro n20
    induction n20 with
    | zero => intro next dem line hl0 hnx hdm hm; omega
    | succ n20 ih20 =>
      intro next dem line hl0 hnx hdm hm
      refine rb_iload hV dL_lines_20 rfl ?_
      refine rb_iload_n hV dL_lines_22 rfl rfl ?_
      refine rb_icmp_ge hV (tgt := 690) dL_lines_23 (by decide) ⟨(by unfold ab_r at *; omega), (by unfold ab_r at *; omega)⟩ (fun c23 => ?_) (fun c23 => ?_)
      · have hle : line = s 107 0 := by omega
        rw [hle] at hnx hdm
        have hd8 : s 108 0 = Sm (ldm (vX s) (s 26)) 0 (s 107 0) := hst.1
        have hop := XI_opt hx
        have hsd := Sldm_b hp hv hnl.1 (Int.le_refl _)
        have hnx2 : s 107 0 = 0 ∨ next = s 103 0 := by
          rcases hnx with q | q
          · exact Or.inl q.1
          · have q2 := (hv.2.2 q.1).2
            exact Or.inr (q.2.trans q2)
        have hx3b : 0 ≤ xcount s 3 := by
          have q := hb 0 (Int.le_refl 0) hp.1.1
          rw [xcount_3]
          split <;> omega
        have j699 : V 699 [some (.inr (some 0)), some (.inl (s 107 0)), some (.inl (s 103 0)), some (.inl next), some (.inl dem), some (.inl line), none, none, none, none, none, none, none, none, none, none, none, none, none] [] (WW s) 0 0 := by
          refine rb_aload_n hV dL_lines_699 rfl rfl ?_
          refine rb_iconst hV dL_lines_700 ?_
          refine rb_callV hV (rest := []) dL_lines_701 (c_X9_count s 2 (by unfold ab_r at *; omega) hx) lk_L_36 rfl (Or.inl ⟨8, _, TX9, 8, gw_0 _, rfl⟩) rfl ⟨rfl, rfl, (Nat.le_of_ble_eq_true rfl), (Nat.le_of_ble_eq_true rfl), (Nat.le_of_ble_eq_true rfl), (Nat.le_of_ble_eq_true rfl)⟩ (Nat.le_of_ble_eq_true rfl) (fun r9 h9 p9 => ?_)
          obtain ⟨rfl, rfl⟩ : r9 = some (.inl (s 108 0)) ∧ h9 = WW s := ⟨p9.1.trans (congrArg (fun z : Int => (some (Sum.inl z) : Option ab_V)) rfl), p9.2⟩
          show V 704 [some (.inr (some 0)), some (.inl (s 107 0)), some (.inl (s 103 0)), some (.inl next), some (.inl dem), some (.inl line), none, none, none, none, none, none, none, none, none, none, none, none, none] [.inl (s 108 0)] (WW s) 0 0
          refine rb_iload hV dL_lines_704 rfl ?_
          refine rb_icmp_ne hV (tgt := 802) dL_lines_706 (by decide) ⟨(by unfold ab_r at *; omega), (by unfold ab_r at *; omega)⟩ (fun c706 => absurd c706 (by omega)) (fun c706 => ?_)
          refine rb_aload_n hV dL_lines_709 rfl rfl ?_
          refine rb_iconst hV dL_lines_710 ?_
          refine rb_callV hV (rest := []) dL_lines_711 (c_X9_count s 3 (by unfold ab_r at *; omega) hx) lk_L_36 rfl (Or.inl ⟨8, _, TX9, 8, gw_0 _, rfl⟩) rfl ⟨rfl, rfl, (Nat.le_of_ble_eq_true rfl), (Nat.le_of_ble_eq_true rfl), (Nat.le_of_ble_eq_true rfl), (Nat.le_of_ble_eq_true rfl)⟩ (Nat.le_of_ble_eq_true rfl) (fun r9 h9 p9 => ?_)
          obtain ⟨rfl, rfl⟩ : r9 = some (.inl (xcount s 3)) ∧ h9 = WW s := ⟨p9.1.trans (congrArg (fun z : Int => (some (Sum.inl z) : Option ab_V)) rfl), p9.2⟩
          show V 714 [some (.inr (some 0)), some (.inl (s 107 0)), some (.inl (s 103 0)), some (.inl next), some (.inl dem), some (.inl line), none, none, none, none, none, none, none, none, none, none, none, none, none] [.inl (xcount s 3)] (WW s) 0 0
          refine rb_iload hV dL_lines_714 rfl ?_
          refine rb_icmp_gt hV (tgt := 802) dL_lines_716 (by decide) ⟨(by unfold ab_r at *; omega), (by unfold ab_r at *; omega)⟩ (fun c716 => absurd c716 (by omega)) (fun c716 => ?_)
          refine rb_aload_n hV dL_lines_719 rfl rfl ?_
          refine rb_iload_n hV dL_lines_720 rfl rfl ?_
          refine rb_iconst hV dL_lines_721 ?_
          refine rb_callV hV (rest := []) dL_lines_722 (c_X9_line s (s 107 0) 0 (by unfold ab_r at *; omega) (by unfold ab_r at *; omega) hx) lk_L_43 rfl (Or.inl ⟨8, _, TX9, 8, gw_0 _, rfl⟩) rfl ⟨rfl, rfl, (Nat.le_of_ble_eq_true rfl), (Nat.le_of_ble_eq_true rfl), (Nat.le_of_ble_eq_true rfl), (Nat.le_of_ble_eq_true rfl)⟩ (Nat.le_of_ble_eq_true rfl) (fun r9 h9 p9 => ?_)
          obtain ⟨rfl, rfl⟩ : r9 = some (.inl (-1001)) ∧ h9 = WW s := ⟨p9.1.trans (congrArg (fun z : Int => (some (Sum.inl z) : Option ab_V)) (show xline s (s 107 0) 0 = -1001 from if_pos (by omega))), p9.2⟩
          show V 725 [some (.inr (some 0)), some (.inl (s 107 0)), some (.inl (s 103 0)), some (.inl next), some (.inl dem), some (.inl line), none, none, none, none, none, none, none, none, none, none, none, none, none] [.inl (-1001)] (WW s) 0 0
          refine rb_sipush hV dL_lines_725 (by decide) ?_
          refine rb_icmp_ne hV (tgt := 802) dL_lines_728 (by decide) ⟨(by unfold ab_r at *; omega), (by unfold ab_r at *; omega)⟩ (fun z => absurd z (by decide)) (fun _ => ?_)
          refine rb_aload_n hV dL_lines_731 rfl rfl ?_
          refine rb_iload_n hV dL_lines_732 rfl rfl ?_
          refine rb_iconst hV dL_lines_733 ?_
          refine rb_callV hV (rest := []) dL_lines_734 (c_X9_second s (s 107 0) 0 (by unfold ab_r at *; omega) (by unfold ab_r at *; omega) hx) lk_L_56 rfl (Or.inl ⟨8, _, TX9, 8, gw_0 _, rfl⟩) rfl ⟨rfl, rfl, (Nat.le_of_ble_eq_true rfl), (Nat.le_of_ble_eq_true rfl), (Nat.le_of_ble_eq_true rfl), (Nat.le_of_ble_eq_true rfl)⟩ (Nat.le_of_ble_eq_true rfl) (fun r9 h9 p9 => ?_)
          obtain ⟨rfl, rfl⟩ : r9 = some (.inl (-1001)) ∧ h9 = WW s := ⟨p9.1.trans (congrArg (fun z : Int => (some (Sum.inl z) : Option ab_V)) (show xsecond s (s 107 0) 0 = -1001 from if_pos (by omega))), p9.2⟩
          show V 737 [some (.inr (some 0)), some (.inl (s 107 0)), some (.inl (s 103 0)), some (.inl next), some (.inl dem), some (.inl line), none, none, none, none, none, none, none, none, none, none, none, none, none] [.inl (-1001)] (WW s) 0 0
          refine rb_sipush hV dL_lines_737 (by decide) ?_
          refine rb_icmp_ne hV (tgt := 802) dL_lines_740 (by decide) ⟨(by unfold ab_r at *; omega), (by unfold ab_r at *; omega)⟩ (fun z => absurd z (by decide)) (fun _ => ?_)
          refine rb_aload_n hV dL_lines_743 rfl rfl ?_
          refine rb_iload_n hV dL_lines_744 rfl rfl ?_
          refine rb_callV hV (rest := []) dL_lines_745 (c_X9_takeSecond s (s 107 0) (by unfold ab_r at *; omega) hx) lk_L_59 rfl (Or.inl ⟨8, _, TX9, 8, gw_0 _, rfl⟩) rfl ⟨rfl, rfl, (Nat.le_of_ble_eq_true rfl), (Nat.le_of_ble_eq_true rfl), (Nat.le_of_ble_eq_true rfl), (Nat.le_of_ble_eq_true rfl)⟩ (Nat.le_of_ble_eq_true rfl) (fun r9 h9 p9 => ?_)
          obtain ⟨rfl, rfl⟩ : r9 = some (.inl (-1001)) ∧ h9 = WW s := by
            rcases p9 with ⟨-, q⟩ | ⟨q, -⟩ | ⟨q, -⟩
            · exact q
            · omega
            · omega
          show V 748 [some (.inr (some 0)), some (.inl (s 107 0)), some (.inl (s 103 0)), some (.inl next), some (.inl dem), some (.inl line), none, none, none, none, none, none, none, none, none, none, none, none, none] [.inl (-1001)] (WW s) 0 0
          refine rb_sipush hV dL_lines_748 (by decide) ?_
          refine rb_icmp_ne hV (tgt := 802) dL_lines_751 (by decide) ⟨(by unfold ab_r at *; omega), (by unfold ab_r at *; omega)⟩ (fun z => absurd z (by decide)) (fun _ => ?_)
          refine rb_aload_n hV dL_lines_754 rfl rfl ?_
          refine rb_iload_n hV dL_lines_755 rfl rfl ?_
          refine rb_iconst hV dL_lines_756 ?_
          refine rb_iconst hV dL_lines_757 ?_
          refine rb_callV hV (rest := []) dL_lines_758 (c_X9_space s (s 107 0) 0 0 (by unfold ab_r at *; omega) (by unfold ab_r at *; omega) (by unfold ab_r at *; omega) hx) lk_L_49 rfl (Or.inl ⟨8, _, TX9, 8, gw_0 _, rfl⟩) rfl ⟨rfl, rfl, (Nat.le_of_ble_eq_true rfl), (Nat.le_of_ble_eq_true rfl), (Nat.le_of_ble_eq_true rfl), (Nat.le_of_ble_eq_true rfl)⟩ (Nat.le_of_ble_eq_true rfl) (fun r9 h9 p9 => ?_)
          obtain ⟨rfl, rfl⟩ : r9 = some (.inl (-1001)) ∧ h9 = WW s := ⟨p9.1.trans (congrArg (fun z : Int => (some (Sum.inl z) : Option ab_V)) (show xspace s (s 107 0) 0 0 = -1001 from if_pos (by omega))), p9.2⟩
          show V 761 [some (.inr (some 0)), some (.inl (s 107 0)), some (.inl (s 103 0)), some (.inl next), some (.inl dem), some (.inl line), none, none, none, none, none, none, none, none, none, none, none, none, none] [.inl (-1001)] (WW s) 0 0
          refine rb_sipush hV dL_lines_761 (by decide) ?_
          refine rb_icmp_ne hV (tgt := 802) dL_lines_764 (by decide) ⟨(by unfold ab_r at *; omega), (by unfold ab_r at *; omega)⟩ (fun z => absurd z (by decide)) (fun _ => ?_)
          refine rb_iload_n hV dL_lines_767 rfl rfl ?_
          refine rb_if_gt hV (tgt := 798) dL_lines_768 (by decide) (by unfold ab_r at *; omega) (fun c768 => ?_) (fun c768 => ?_)
          · refine rb_iconst hV dL_lines_798 ?_
            refine rb_goto hV (tgt := 803) dL_lines_799 (by decide) ?_
            refine rb_ret hV (r := some (.inl 1)) dL_lines_803 rfl ⟨(Nat.le_of_ble_eq_true rfl), (Nat.le_of_ble_eq_true rfl)⟩ (by first | exact Or.inl rfl | exact Or.inr rfl | omega) ?_
            exact ⟨rfl, rfl⟩
          · refine rb_iload_n hV dL_lines_771 rfl rfl ?_
            refine rb_if_eq hV (tgt := 798) dL_lines_772 (by decide) (by unfold ab_r at *; omega) (fun c772 => ?_) (fun c772 => ?_)
            · refine rb_iconst hV dL_lines_798 ?_
              refine rb_goto hV (tgt := 803) dL_lines_799 (by decide) ?_
              refine rb_ret hV (r := some (.inl 1)) dL_lines_803 rfl ⟨(Nat.le_of_ble_eq_true rfl), (Nat.le_of_ble_eq_true rfl)⟩ (by first | exact Or.inl rfl | exact Or.inr rfl | omega) ?_
              exact ⟨rfl, rfl⟩
            · refine rb_aload_n hV dL_lines_775 rfl rfl ?_
              refine rb_iconst hV dL_lines_776 ?_
              refine rb_callV hV (rest := []) dL_lines_777 (c_X9_begin s 0 (by unfold ab_r at *; omega) hx) lk_L_46 rfl (Or.inl ⟨8, _, TX9, 8, gw_0 _, rfl⟩) rfl ⟨rfl, rfl, (Nat.le_of_ble_eq_true rfl), (Nat.le_of_ble_eq_true rfl), (Nat.le_of_ble_eq_true rfl), (Nat.le_of_ble_eq_true rfl)⟩ (Nat.le_of_ble_eq_true rfl) (fun r9 h9 p9 => ?_)
              obtain ⟨rfl, rfl⟩ : r9 = some (.inl (-1004)) ∧ h9 = WW s := ⟨p9.1.trans (congrArg (fun z : Int => (some (Sum.inl z) : Option ab_V)) (show xbegin s 0 = -1004 from (if_neg (by omega)).trans (if_pos (by omega)))), p9.2⟩
              show V 780 [some (.inr (some 0)), some (.inl (s 107 0)), some (.inl (s 103 0)), some (.inl next), some (.inl dem), some (.inl line), none, none, none, none, none, none, none, none, none, none, none, none, none] [.inl (-1004)] (WW s) 0 0
              refine rb_sipush hV dL_lines_780 (by decide) ?_
              refine rb_icmp_ne hV (tgt := 802) dL_lines_783 (by decide) ⟨(by unfold ab_r at *; omega), (by unfold ab_r at *; omega)⟩ (fun z => absurd z (by decide)) (fun _ => ?_)
              refine rb_aload_n hV dL_lines_786 rfl rfl ?_
              refine rb_iconst hV dL_lines_787 ?_
              refine rb_iconst hV dL_lines_788 ?_
              refine rb_callV hV (rest := []) dL_lines_789 (c_X9_word s 0 3 (by unfold ab_r at *; omega) (by unfold ab_r at *; omega) hx) lk_L_40 rfl (Or.inl ⟨8, _, TX9, 8, gw_0 _, rfl⟩) rfl ⟨rfl, rfl, (Nat.le_of_ble_eq_true rfl), (Nat.le_of_ble_eq_true rfl), (Nat.le_of_ble_eq_true rfl), (Nat.le_of_ble_eq_true rfl)⟩ (Nat.le_of_ble_eq_true rfl) (fun r9 h9 p9 => ?_)
              obtain ⟨rfl, rfl⟩ : r9 = some (.inl (-1004)) ∧ h9 = WW s := ⟨p9.1.trans (congrArg (fun z : Int => (some (Sum.inl z) : Option ab_V)) (show xword s 0 3 = -1004 from by unfold xword; rw [if_neg (by omega), if_neg (by decide), if_neg (by decide), if_neg (by decide), if_pos rfl, if_pos (by omega)])), p9.2⟩
              show V 792 [some (.inr (some 0)), some (.inl (s 107 0)), some (.inl (s 103 0)), some (.inl next), some (.inl dem), some (.inl line), none, none, none, none, none, none, none, none, none, none, none, none, none] [.inl (-1004)] (WW s) 0 0
              refine rb_sipush hV dL_lines_792 (by decide) ?_
              refine rb_icmp_ne hV (tgt := 802) dL_lines_795 (by decide) ⟨(by unfold ab_r at *; omega), (by unfold ab_r at *; omega)⟩ (fun z => absurd z (by decide)) (fun _ => ?_)
              refine rb_iconst hV dL_lines_798 ?_
              refine rb_goto hV (tgt := 803) dL_lines_799 (by decide) ?_
              refine rb_ret hV (r := some (.inl 1)) dL_lines_803 rfl ⟨(Nat.le_of_ble_eq_true rfl), (Nat.le_of_ble_eq_true rfl)⟩ (by first | exact Or.inl rfl | exact Or.inr rfl | omega) ?_
              exact ⟨rfl, rfl⟩
        refine rb_iload_n hV dL_lines_690 rfl rfl ?_
        refine rb_if_eq hV (tgt := 699) dL_lines_691 (by decide) (by unfold ab_r at *; omega) (fun c691 => ?_) (fun c691 => ?_)
        · refine j699 
        · refine rb_iload_n hV dL_lines_694 rfl rfl ?_
          refine rb_iload_n hV dL_lines_695 rfl rfl ?_
          refine rb_icmp_ne hV (tgt := 802) dL_lines_696 (by decide) ⟨(by unfold ab_r at *; omega), (by unfold ab_r at *; omega)⟩ (fun c696 => absurd c696 (by omega)) (fun c696 => ?_)
          refine j699 
      · obtain ⟨A, hA⟩ : ∃ A, A = s 26 line := ⟨_, rfl⟩
        obtain ⟨B, hB⟩ : ∃ B, B = s 26 (line + 1) - 1 := ⟨_, rfl⟩
        obtain ⟨hAB, hps, el0, el1, el2, el3, el4, el5, el6, el7, el8, el9, elz⟩ := LN_line hx hl0.1 (by omega) hA hB
        have e0 : vX s 0 0 = s 103 0 := rfl
        have hnA : next = A := by
          have q := hv.2.2 (by omega)
          rcases hnx with q1 | q1
          · rw [hA, q1.1, q.1]
            exact q1.2
          · rw [hA]
            exact q1.2
        have b2 := nt_b hp hAB.1 hAB.2.1 (by rw [e0]; exact hAB.2.2)
        have b3 := df_b hp hAB.1 hAB.2.1 (by rw [e0]; exact hAB.2.2)
        have b4 := bd_b hp hAB.1 hAB.2.1 (by rw [e0]; exact hAB.2.2) hps
        have b5 := dm_b hp hAB.1 hAB.2.1 (by rw [e0]; exact hAB.2.2) hps
        have b6 := hL_b hp hAB.1 (show A < vX s 0 0 by omega)
        have b7 := hR_b hp (show 0 ≤ B by omega) (show B < vX s 0 0 by omega)
        have bm : 10 ≤ s 100 0 ∧ s 100 0 ≤ 200 := hp.2.2.1
        have hdf : df (vX s) A B = s 100 0 - nt (vX s) A B := rfl
        have bps := ps_iff.mp hps
        have bst := st_b hp hAB.1 hAB.2.1 (show B ≤ vX s 0 0 by omega)
        have bsh := sh_b hp hAB.1 hAB.2.1 (show B ≤ vX s 0 0 by omega)
        have lne := ln_e hp hAB.1 hAB.2.1 (by rw [e0]; exact hAB.2.2) hps
        have ln0 := ln_0 (vX s) hAB.2.1
        have ewb := (LN_word hx hl0.1 (by omega) hA hB hAB.2.1 (Int.le_refl B)).2.1
        have bwb := (LN_word hx hl0.1 (by omega) hA hB hAB.2.1 (Int.le_refl B)).2.2.2.2.2.2.1
        have b6m : vX s 6 0 = s 100 0 := rfl
        refine rb_aload_n hV dL_lines_26 rfl rfl ?_
        refine rb_iload hV dL_lines_27 rfl ?_
        refine rb_iconst hV dL_lines_29 ?_
        refine rb_callV hV (rest := []) dL_lines_30 (c_X9_line s line 0 (by unfold ab_r at *; omega) (by unfold ab_r at *; omega) hx) lk_L_43 rfl (Or.inl ⟨8, _, TX9, 8, gw_0 _, rfl⟩) rfl ⟨rfl, rfl, (Nat.le_of_ble_eq_true rfl), (Nat.le_of_ble_eq_true rfl), (Nat.le_of_ble_eq_true rfl), (Nat.le_of_ble_eq_true rfl)⟩ (Nat.le_of_ble_eq_true rfl) (fun r9 h9 p9 => ?_)
        obtain ⟨rfl, rfl⟩ : r9 = some (.inl A) ∧ h9 = WW s := ⟨p9.1.trans (congrArg (fun z : Int => (some (Sum.inl z) : Option ab_V)) el0), p9.2⟩
        show V 33 [some (.inr (some 0)), some (.inl (s 107 0)), some (.inl (s 103 0)), some (.inl next), some (.inl dem), some (.inl line), none, none, none, none, none, none, none, none, none, none, none, none, none] [.inl A] (WW s) 0 0
        refine rb_istore hV (L2 := [some (.inr (some 0)), some (.inl (s 107 0)), some (.inl (s 103 0)), some (.inl next), some (.inl dem), some (.inl line), some (.inl A), none, none, none, none, none, none, none, none, none, none, none, none]) dL_lines_33 (Nat.le_of_ble_eq_true rfl) rfl ?_
        refine rb_aload_n hV dL_lines_35 rfl rfl ?_
        refine rb_iload hV dL_lines_36 rfl ?_
        refine rb_iconst hV dL_lines_38 ?_
        refine rb_callV hV (rest := []) dL_lines_39 (c_X9_line s line 1 (by unfold ab_r at *; omega) (by unfold ab_r at *; omega) hx) lk_L_43 rfl (Or.inl ⟨8, _, TX9, 8, gw_0 _, rfl⟩) rfl ⟨rfl, rfl, (Nat.le_of_ble_eq_true rfl), (Nat.le_of_ble_eq_true rfl), (Nat.le_of_ble_eq_true rfl), (Nat.le_of_ble_eq_true rfl)⟩ (Nat.le_of_ble_eq_true rfl) (fun r9 h9 p9 => ?_)
        obtain ⟨rfl, rfl⟩ : r9 = some (.inl B) ∧ h9 = WW s := ⟨p9.1.trans (congrArg (fun z : Int => (some (Sum.inl z) : Option ab_V)) el1), p9.2⟩
        show V 42 [some (.inr (some 0)), some (.inl (s 107 0)), some (.inl (s 103 0)), some (.inl next), some (.inl dem), some (.inl line), some (.inl A), none, none, none, none, none, none, none, none, none, none, none, none] [.inl B] (WW s) 0 0
        refine rb_istore hV (L2 := [some (.inr (some 0)), some (.inl (s 107 0)), some (.inl (s 103 0)), some (.inl next), some (.inl dem), some (.inl line), some (.inl A), some (.inl B), none, none, none, none, none, none, none, none, none, none, none]) dL_lines_42 (Nat.le_of_ble_eq_true rfl) rfl ?_
        have j57 : ∀ (last : Int), (last = 1 ∧ B = s 103 0 - 1 ∨ last = 0 ∧ ¬ B = s 103 0 - 1) → V 57 [some (.inr (some 0)), some (.inl (s 107 0)), some (.inl (s 103 0)), some (.inl next), some (.inl dem), some (.inl line), some (.inl A), some (.inl B), none, none, none, none, none, none, none, none, none, none, none] [.inl last] (WW s) 0 0 := by
          intro last hla
          have hla2 : last = 0 ∨ last = 1 := by omega
          refine rb_istore hV (L2 := [some (.inr (some 0)), some (.inl (s 107 0)), some (.inl (s 103 0)), some (.inl next), some (.inl dem), some (.inl line), some (.inl A), some (.inl B), some (.inl last), none, none, none, none, none, none, none, none, none, none]) dL_lines_57 (Nat.le_of_ble_eq_true rfl) rfl ?_
          refine rb_aload_n hV dL_lines_59 rfl rfl ?_
          refine rb_iload hV dL_lines_60 rfl ?_
          refine rb_iconst hV dL_lines_62 ?_
          refine rb_callV hV (rest := []) dL_lines_63 (c_X9_line s line 3 (by unfold ab_r at *; omega) (by unfold ab_r at *; omega) hx) lk_L_43 rfl (Or.inl ⟨8, _, TX9, 8, gw_0 _, rfl⟩) rfl ⟨rfl, rfl, (Nat.le_of_ble_eq_true rfl), (Nat.le_of_ble_eq_true rfl), (Nat.le_of_ble_eq_true rfl), (Nat.le_of_ble_eq_true rfl)⟩ (Nat.le_of_ble_eq_true rfl) (fun r9 h9 p9 => ?_)
          obtain ⟨rfl, rfl⟩ : r9 = some (.inl (df (vX s) A B)) ∧ h9 = WW s := ⟨p9.1.trans (congrArg (fun z : Int => (some (Sum.inl z) : Option ab_V)) el3), p9.2⟩
          show V 66 [some (.inr (some 0)), some (.inl (s 107 0)), some (.inl (s 103 0)), some (.inl next), some (.inl dem), some (.inl line), some (.inl A), some (.inl B), some (.inl last), none, none, none, none, none, none, none, none, none, none] [.inl (df (vX s) A B)] (WW s) 0 0
          refine rb_istore hV (L2 := [some (.inr (some 0)), some (.inl (s 107 0)), some (.inl (s 103 0)), some (.inl next), some (.inl dem), some (.inl line), some (.inl A), some (.inl B), some (.inl last), some (.inl (df (vX s) A B)), none, none, none, none, none, none, none, none, none]) dL_lines_66 (Nat.le_of_ble_eq_true rfl) rfl ?_
          refine rb_aload_n hV dL_lines_68 rfl rfl ?_
          refine rb_iload hV dL_lines_69 rfl ?_
          refine rb_iconst hV dL_lines_71 ?_
          refine rb_callV hV (rest := []) dL_lines_72 (c_X9_line s line 4 (by unfold ab_r at *; omega) (by unfold ab_r at *; omega) hx) lk_L_43 rfl (Or.inl ⟨8, _, TX9, 8, gw_0 _, rfl⟩) rfl ⟨rfl, rfl, (Nat.le_of_ble_eq_true rfl), (Nat.le_of_ble_eq_true rfl), (Nat.le_of_ble_eq_true rfl), (Nat.le_of_ble_eq_true rfl)⟩ (Nat.le_of_ble_eq_true rfl) (fun r9 h9 p9 => ?_)
          obtain ⟨rfl, rfl⟩ : r9 = some (.inl (bd (vX s) A B)) ∧ h9 = WW s := ⟨p9.1.trans (congrArg (fun z : Int => (some (Sum.inl z) : Option ab_V)) el4), p9.2⟩
          show V 75 [some (.inr (some 0)), some (.inl (s 107 0)), some (.inl (s 103 0)), some (.inl next), some (.inl dem), some (.inl line), some (.inl A), some (.inl B), some (.inl last), some (.inl (df (vX s) A B)), none, none, none, none, none, none, none, none, none] [.inl (bd (vX s) A B)] (WW s) 0 0
          refine rb_istore hV (L2 := [some (.inr (some 0)), some (.inl (s 107 0)), some (.inl (s 103 0)), some (.inl next), some (.inl dem), some (.inl line), some (.inl A), some (.inl B), some (.inl last), some (.inl (df (vX s) A B)), some (.inl (bd (vX s) A B)), none, none, none, none, none, none, none, none]) dL_lines_75 (Nat.le_of_ble_eq_true rfl) rfl ?_
          refine rb_aload_n hV dL_lines_77 rfl rfl ?_
          refine rb_iload hV dL_lines_78 rfl ?_
          refine rb_bipush hV dL_lines_80 (by decide) ?_
          refine rb_callV hV (rest := []) dL_lines_82 (c_X9_line s line 6 (by unfold ab_r at *; omega) (by unfold ab_r at *; omega) hx) lk_L_43 rfl (Or.inl ⟨8, _, TX9, 8, gw_0 _, rfl⟩) rfl ⟨rfl, rfl, (Nat.le_of_ble_eq_true rfl), (Nat.le_of_ble_eq_true rfl), (Nat.le_of_ble_eq_true rfl), (Nat.le_of_ble_eq_true rfl)⟩ (Nat.le_of_ble_eq_true rfl) (fun r9 h9 p9 => ?_)
          obtain ⟨rfl, rfl⟩ : r9 = some (.inl (hL (vX s) A)) ∧ h9 = WW s := ⟨p9.1.trans (congrArg (fun z : Int => (some (Sum.inl z) : Option ab_V)) el6), p9.2⟩
          show V 85 [some (.inr (some 0)), some (.inl (s 107 0)), some (.inl (s 103 0)), some (.inl next), some (.inl dem), some (.inl line), some (.inl A), some (.inl B), some (.inl last), some (.inl (df (vX s) A B)), some (.inl (bd (vX s) A B)), none, none, none, none, none, none, none, none] [.inl (hL (vX s) A)] (WW s) 0 0
          refine rb_ineg hV dL_lines_85 ?_
          refine rb_aload_n hV dL_lines_86 rfl rfl ?_
          refine rb_iload hV dL_lines_87 rfl ?_
          refine rb_bipush hV dL_lines_89 (by decide) ?_
          refine rb_callV hV (rest := [.inl (-(hL (vX s) A))]) dL_lines_91 (c_X9_line s line 7 (by unfold ab_r at *; omega) (by unfold ab_r at *; omega) hx) lk_L_43 rfl (Or.inl ⟨8, _, TX9, 8, gw_0 _, rfl⟩) rfl ⟨rfl, rfl, (Nat.le_of_ble_eq_true rfl), (Nat.le_of_ble_eq_true rfl), (Nat.le_of_ble_eq_true rfl), (Nat.le_of_ble_eq_true rfl)⟩ (Nat.le_of_ble_eq_true rfl) (fun r9 h9 p9 => ?_)
          obtain ⟨rfl, rfl⟩ : r9 = some (.inl (hR (vX s) B)) ∧ h9 = WW s := ⟨p9.1.trans (congrArg (fun z : Int => (some (Sum.inl z) : Option ab_V)) el7), p9.2⟩
          show V 94 [some (.inr (some 0)), some (.inl (s 107 0)), some (.inl (s 103 0)), some (.inl next), some (.inl dem), some (.inl line), some (.inl A), some (.inl B), some (.inl last), some (.inl (df (vX s) A B)), some (.inl (bd (vX s) A B)), none, none, none, none, none, none, none, none] [.inl (hR (vX s) B), .inl (-(hL (vX s) A))] (WW s) 0 0
          refine rb_isub hV dL_lines_94 ?_
          refine rb_istore hV (L2 := [some (.inr (some 0)), some (.inl (s 107 0)), some (.inl (s 103 0)), some (.inl next), some (.inl dem), some (.inl line), some (.inl A), some (.inl B), some (.inl last), some (.inl (df (vX s) A B)), some (.inl (bd (vX s) A B)), some (.inl ((-(hL (vX s) A)) - (hR (vX s) B))), none, none, none, none, none, none, none]) dL_lines_95 (Nat.le_of_ble_eq_true rfl) rfl ?_
          refine rb_iload hV dL_lines_97 rfl ?_
          refine rb_istore hV (L2 := [some (.inr (some 0)), some (.inl (s 107 0)), some (.inl (s 103 0)), some (.inl next), some (.inl dem), some (.inl line), some (.inl A), some (.inl B), some (.inl last), some (.inl (df (vX s) A B)), some (.inl (bd (vX s) A B)), some (.inl ((-(hL (vX s) A)) - (hR (vX s) B))), some (.inl ((-(hL (vX s) A)) - (hR (vX s) B))), none, none, none, none, none, none]) dL_lines_99 (Nat.le_of_ble_eq_true rfl) rfl ?_
          refine rb_aload_n hV dL_lines_101 rfl rfl ?_
          refine rb_iload hV dL_lines_102 rfl ?_
          refine rb_bipush hV dL_lines_104 (by decide) ?_
          refine rb_callV hV (rest := []) dL_lines_106 (c_X9_line s line 6 (by unfold ab_r at *; omega) (by unfold ab_r at *; omega) hx) lk_L_43 rfl (Or.inl ⟨8, _, TX9, 8, gw_0 _, rfl⟩) rfl ⟨rfl, rfl, (Nat.le_of_ble_eq_true rfl), (Nat.le_of_ble_eq_true rfl), (Nat.le_of_ble_eq_true rfl), (Nat.le_of_ble_eq_true rfl)⟩ (Nat.le_of_ble_eq_true rfl) (fun r9 h9 p9 => ?_)
          obtain ⟨rfl, rfl⟩ : r9 = some (.inl (hL (vX s) A)) ∧ h9 = WW s := ⟨p9.1.trans (congrArg (fun z : Int => (some (Sum.inl z) : Option ab_V)) el6), p9.2⟩
          show V 109 [some (.inr (some 0)), some (.inl (s 107 0)), some (.inl (s 103 0)), some (.inl next), some (.inl dem), some (.inl line), some (.inl A), some (.inl B), some (.inl last), some (.inl (df (vX s) A B)), some (.inl (bd (vX s) A B)), some (.inl ((-(hL (vX s) A)) - (hR (vX s) B))), some (.inl ((-(hL (vX s) A)) - (hR (vX s) B))), none, none, none, none, none, none] [.inl (hL (vX s) A)] (WW s) 0 0
          refine rb_ineg hV dL_lines_109 ?_
          refine rb_istore hV (L2 := [some (.inr (some 0)), some (.inl (s 107 0)), some (.inl (s 103 0)), some (.inl next), some (.inl dem), some (.inl line), some (.inl A), some (.inl B), some (.inl last), some (.inl (df (vX s) A B)), some (.inl (bd (vX s) A B)), some (.inl ((-(hL (vX s) A)) - (hR (vX s) B))), some (.inl ((-(hL (vX s) A)) - (hR (vX s) B))), some (.inl (-(hL (vX s) A))), none, none, none, none, none]) dL_lines_110 (Nat.le_of_ble_eq_true rfl) rfl ?_
          refine rb_iconst hV dL_lines_112 ?_
          refine rb_istore hV (L2 := [some (.inr (some 0)), some (.inl (s 107 0)), some (.inl (s 103 0)), some (.inl next), some (.inl dem), some (.inl line), some (.inl A), some (.inl B), some (.inl last), some (.inl (df (vX s) A B)), some (.inl (bd (vX s) A B)), some (.inl ((-(hL (vX s) A)) - (hR (vX s) B))), some (.inl ((-(hL (vX s) A)) - (hR (vX s) B))), some (.inl (-(hL (vX s) A))), some (.inl 0), none, none, none, none]) dL_lines_113 (Nat.le_of_ble_eq_true rfl) rfl ?_
          refine rb_iconst hV dL_lines_115 ?_
          refine rb_istore hV (L2 := [some (.inr (some 0)), some (.inl (s 107 0)), some (.inl (s 103 0)), some (.inl next), some (.inl dem), some (.inl line), some (.inl A), some (.inl B), some (.inl last), some (.inl (df (vX s) A B)), some (.inl (bd (vX s) A B)), some (.inl ((-(hL (vX s) A)) - (hR (vX s) B))), some (.inl ((-(hL (vX s) A)) - (hR (vX s) B))), some (.inl (-(hL (vX s) A))), some (.inl 0), some (.inl 0), none, none, none]) dL_lines_116 (Nat.le_of_ble_eq_true rfl) rfl ?_
          refine rb_iload hV dL_lines_118 rfl ?_
          refine rb_iload_n hV dL_lines_120 rfl rfl ?_
          refine rb_icmp_ne hV (tgt := 164) dL_lines_121 (by decide) ⟨(by unfold ab_r at *; omega), (by unfold ab_r at *; omega)⟩ (fun c121 => absurd c121 (by omega)) (fun c121 => ?_)
          refine rb_iload hV dL_lines_124 rfl ?_
          refine rb_iload hV dL_lines_126 rfl ?_
          refine rb_icmp_lt hV (tgt := 164) dL_lines_128 (by decide) ⟨(by unfold ab_r at *; omega), (by unfold ab_r at *; omega)⟩ (fun c128 => absurd c128 (by omega)) (fun c128 => ?_)
          refine rb_aload_n hV dL_lines_131 rfl rfl ?_
          refine rb_iload hV dL_lines_132 rfl ?_
          refine rb_iconst hV dL_lines_134 ?_
          refine rb_callV hV (rest := []) dL_lines_135 (c_X9_line s line 2 (by unfold ab_r at *; omega) (by unfold ab_r at *; omega) hx) lk_L_43 rfl (Or.inl ⟨8, _, TX9, 8, gw_0 _, rfl⟩) rfl ⟨rfl, rfl, (Nat.le_of_ble_eq_true rfl), (Nat.le_of_ble_eq_true rfl), (Nat.le_of_ble_eq_true rfl), (Nat.le_of_ble_eq_true rfl)⟩ (Nat.le_of_ble_eq_true rfl) (fun r9 h9 p9 => ?_)
          obtain ⟨rfl, rfl⟩ : r9 = some (.inl (nt (vX s) A B)) ∧ h9 = WW s := ⟨p9.1.trans (congrArg (fun z : Int => (some (Sum.inl z) : Option ab_V)) el2), p9.2⟩
          show V 138 [some (.inr (some 0)), some (.inl (s 107 0)), some (.inl (s 103 0)), some (.inl next), some (.inl dem), some (.inl line), some (.inl A), some (.inl B), some (.inl last), some (.inl (df (vX s) A B)), some (.inl (bd (vX s) A B)), some (.inl ((-(hL (vX s) A)) - (hR (vX s) B))), some (.inl ((-(hL (vX s) A)) - (hR (vX s) B))), some (.inl (-(hL (vX s) A))), some (.inl 0), some (.inl 0), none, none, none] [.inl (nt (vX s) A B)] (WW s) 0 0
          refine rb_iload hV dL_lines_138 rfl ?_
          refine rb_iadd hV dL_lines_140 ?_
          refine rb_aload_n hV dL_lines_141 rfl rfl ?_
          refine rb_bipush hV dL_lines_142 (by decide) ?_
          refine rb_callV hV (rest := [.inl ((nt (vX s) A B) + (df (vX s) A B))]) dL_lines_144 (c_X9_count s 7 (by unfold ab_r at *; omega) hx) lk_L_36 rfl (Or.inl ⟨8, _, TX9, 8, gw_0 _, rfl⟩) rfl ⟨rfl, rfl, (Nat.le_of_ble_eq_true rfl), (Nat.le_of_ble_eq_true rfl), (Nat.le_of_ble_eq_true rfl), (Nat.le_of_ble_eq_true rfl)⟩ (Nat.le_of_ble_eq_true rfl) (fun r9 h9 p9 => ?_)
          obtain ⟨rfl, rfl⟩ : r9 = some (.inl (s 100 0)) ∧ h9 = WW s := ⟨p9.1.trans (congrArg (fun z : Int => (some (Sum.inl z) : Option ab_V)) rfl), p9.2⟩
          show V 147 [some (.inr (some 0)), some (.inl (s 107 0)), some (.inl (s 103 0)), some (.inl next), some (.inl dem), some (.inl line), some (.inl A), some (.inl B), some (.inl last), some (.inl (df (vX s) A B)), some (.inl (bd (vX s) A B)), some (.inl ((-(hL (vX s) A)) - (hR (vX s) B))), some (.inl ((-(hL (vX s) A)) - (hR (vX s) B))), some (.inl (-(hL (vX s) A))), some (.inl 0), some (.inl 0), none, none, none] [.inl (s 100 0), .inl ((nt (vX s) A B) + (df (vX s) A B))] (WW s) 0 0
          refine rb_icmp_ne hV (tgt := 164) dL_lines_147 (by decide) ⟨(by unfold ab_r at *; omega), (by unfold ab_r at *; omega)⟩ (fun c147 => absurd c147 (by omega)) (fun c147 => ?_)
          refine rb_aload_n hV dL_lines_150 rfl rfl ?_
          refine rb_iload hV dL_lines_151 rfl ?_
          refine rb_bipush hV dL_lines_153 (by decide) ?_
          refine rb_callV hV (rest := []) dL_lines_155 (c_X9_line s line 9 (by unfold ab_r at *; omega) (by unfold ab_r at *; omega) hx) lk_L_43 rfl (Or.inl ⟨8, _, TX9, 8, gw_0 _, rfl⟩) rfl ⟨rfl, rfl, (Nat.le_of_ble_eq_true rfl), (Nat.le_of_ble_eq_true rfl), (Nat.le_of_ble_eq_true rfl), (Nat.le_of_ble_eq_true rfl)⟩ (Nat.le_of_ble_eq_true rfl) (fun r9 h9 p9 => ?_)
          obtain ⟨rfl, rfl⟩ : r9 = some (.inl (-1002)) ∧ h9 = WW s := ⟨p9.1.trans (congrArg (fun z : Int => (some (Sum.inl z) : Option ab_V)) el9), p9.2⟩
          show V 158 [some (.inr (some 0)), some (.inl (s 107 0)), some (.inl (s 103 0)), some (.inl next), some (.inl dem), some (.inl line), some (.inl A), some (.inl B), some (.inl last), some (.inl (df (vX s) A B)), some (.inl (bd (vX s) A B)), some (.inl ((-(hL (vX s) A)) - (hR (vX s) B))), some (.inl ((-(hL (vX s) A)) - (hR (vX s) B))), some (.inl (-(hL (vX s) A))), some (.inl 0), some (.inl 0), none, none, none] [.inl (-1002)] (WW s) 0 0
          refine rb_sipush hV dL_lines_158 (by decide) ?_
          refine rb_icmp_eq hV (tgt := 166) dL_lines_161 (by decide) ⟨(by unfold ab_r at *; omega), (by unfold ab_r at *; omega)⟩ (fun _ => ?_) (fun z => absurd z (by decide))
          refine rb_iload hV dL_lines_166 rfl ?_
          refine rb_istore hV (L2 := [some (.inr (some 0)), some (.inl (s 107 0)), some (.inl (s 103 0)), some (.inl next), some (.inl dem), some (.inl line), some (.inl A), some (.inl B), some (.inl last), some (.inl (df (vX s) A B)), some (.inl (bd (vX s) A B)), some (.inl ((-(hL (vX s) A)) - (hR (vX s) B))), some (.inl ((-(hL (vX s) A)) - (hR (vX s) B))), some (.inl (-(hL (vX s) A))), some (.inl 0), some (.inl 0), some (.inl A), none, none]) dL_lines_168 (Nat.le_of_ble_eq_true rfl) rfl ?_
          have h170 : ∀ (n170 : Nat) (nat : Int) (wide : Int) (a13 : Int) (str : Int) (shr : Int) (w : Int), (A ≤ w ∧ w ≤ B + 1) → (nat = (lnN (vX s) A B w)) → (wide = (lnW (vX s) A B w)) → (w ≤ B → a13 = (bgF (vX s) (swF (vX s) A B) A w)) → (str = (lnT (vX s) A B w)) → (shr = (lnS (vX s) A B w)) → ((B + 1 - w).toNat) < n170 → V 170 [some (.inr (some 0)), some (.inl (s 107 0)), some (.inl (s 103 0)), some (.inl next), some (.inl dem), some (.inl line), some (.inl A), some (.inl B), some (.inl last), some (.inl (df (vX s) A B)), some (.inl (bd (vX s) A B)), some (.inl nat), some (.inl wide), some (.inl a13), some (.inl str), some (.inl shr), some (.inl w), none, none] [] (WW s) 0 0 := by
            intro n170
            induction n170 with
            | zero => intro nat wide a13 str shr w hw hna hwi hat hst2 hsh2 hm; omega
            | succ n170 ih170 =>
              intro nat wide a13 str shr w hw hna hwi hat hst2 hsh2 hm
              refine rb_iload hV dL_lines_170 rfl ?_
              refine rb_iload hV dL_lines_172 rfl ?_
              refine rb_icmp_gt hV (tgt := 456) dL_lines_174 (by decide) ⟨(by unfold ab_r at *; omega), (by unfold ab_r at *; omega)⟩ (fun c174 => ?_) (fun c174 => ?_)
              · have hwe : w = B + 1 := by omega
                rw [hwe, lne.1] at hna
                rw [hwe] at hwi
                rw [hwe, lne.2.2.1] at hst2
                rw [hwe, lne.2.2.2] at hsh2
                have lne2 := lne.2.1
                have hwm : wide = s 100 0 - df (vX s) A B ∧ (0 < df (vX s) A B ∧ B = s 103 0 - 1) ∨ wide = s 100 0 ∧ ¬ (0 < df (vX s) A B ∧ B = s 103 0 - 1) := by
                  by_cases q : 0 < df (vX s) A B ∧ B = s 103 0 - 1
                  · exact Or.inl ⟨by rw [hwi, lne2]; exact if_pos q, q⟩
                  · exact Or.inr ⟨by rw [hwi, lne2]; exact if_neg q, q⟩
                have hrmm : ¬ (df (vX s) A B = 0 ∨ (0 < df (vX s) A B ∧ B = s 103 0 - 1)) → 1 ≤ rmm (vX s) A B ∧ rmm (vX s) A B ≤ 2340 ∧ - rmm (vX s) A B ≤ df (vX s) A B ∧ df (vX s) A B ≤ rmm (vX s) A B := fun q => rmm_b hp hAB.1 hAB.2.1 (by rw [e0]; exact hAB.2.2) hps q
                have j468 : ∀ (rm : Int), (rm = rmm (vX s) A B) → V 468 [some (.inr (some 0)), some (.inl (s 107 0)), some (.inl (s 103 0)), some (.inl next), some (.inl dem), some (.inl line), some (.inl A), some (.inl B), some (.inl last), some (.inl (df (vX s) A B)), some (.inl (bd (vX s) A B)), some (.inl nat), some (.inl wide), some (.inl a13), some (.inl str), some (.inl shr), none, none, none] [.inl rm] (WW s) 0 0 := by
                  intro rm hrm
                  have brm : -1 ≤ rm ∧ rm ≤ 3000 := by
                    rw [hrm]
                    unfold rmm
                    split <;> omega
                  refine rb_istore hV (L2 := [some (.inr (some 0)), some (.inl (s 107 0)), some (.inl (s 103 0)), some (.inl next), some (.inl dem), some (.inl line), some (.inl A), some (.inl B), some (.inl last), some (.inl (df (vX s) A B)), some (.inl (bd (vX s) A B)), some (.inl nat), some (.inl wide), some (.inl a13), some (.inl str), some (.inl shr), some (.inl rm), none, none]) dL_lines_468 (Nat.le_of_ble_eq_true rfl) rfl ?_
                  have j512 : ∀ (due : Int), (due = bd (vX s) A B) → V 512 [some (.inr (some 0)), some (.inl (s 107 0)), some (.inl (s 103 0)), some (.inl next), some (.inl dem), some (.inl line), some (.inl A), some (.inl B), some (.inl last), some (.inl (df (vX s) A B)), some (.inl (bd (vX s) A B)), some (.inl nat), some (.inl wide), some (.inl a13), some (.inl str), some (.inl shr), some (.inl rm), none, none] [.inl due] (WW s) 0 0 := by
                    intro due hdu
                    refine rb_istore hV (L2 := [some (.inr (some 0)), some (.inl (s 107 0)), some (.inl (s 103 0)), some (.inl next), some (.inl dem), some (.inl line), some (.inl A), some (.inl B), some (.inl last), some (.inl (df (vX s) A B)), some (.inl (bd (vX s) A B)), some (.inl nat), some (.inl wide), some (.inl a13), some (.inl str), some (.inl shr), some (.inl rm), some (.inl due), none]) dL_lines_512 (Nat.le_of_ble_eq_true rfl) rfl ?_
                    have j536 : ∀ (poor : Int), (poor = if ¬ B = s 103 0 - 1 ∧ vX s 2 B ≤ 2 then 100 else 0) → V 536 [some (.inr (some 0)), some (.inl (s 107 0)), some (.inl (s 103 0)), some (.inl next), some (.inl dem), some (.inl line), some (.inl A), some (.inl B), some (.inl last), some (.inl (df (vX s) A B)), some (.inl (bd (vX s) A B)), some (.inl nat), some (.inl wide), some (.inl a13), some (.inl str), some (.inl shr), some (.inl rm), some (.inl due), none] [.inl poor] (WW s) 0 0 := by
                      intro poor hpo
                      have hdm2 : dm (vX s) A B = (10 + due) * (10 + due) + poor := by
                        rw [hdu, hpo]
                        rfl
                      refine rb_istore hV (L2 := [some (.inr (some 0)), some (.inl (s 107 0)), some (.inl (s 103 0)), some (.inl next), some (.inl dem), some (.inl line), some (.inl A), some (.inl B), some (.inl last), some (.inl (df (vX s) A B)), some (.inl (bd (vX s) A B)), some (.inl nat), some (.inl wide), some (.inl a13), some (.inl str), some (.inl shr), some (.inl rm), some (.inl due), some (.inl poor)]) dL_lines_536 (Nat.le_of_ble_eq_true rfl) rfl ?_
                      refine rb_iload hV dL_lines_538 rfl ?_
                      refine rb_aload_n hV dL_lines_540 rfl rfl ?_
                      refine rb_iload hV dL_lines_541 rfl ?_
                      refine rb_iconst hV dL_lines_543 ?_
                      refine rb_callV hV (rest := [.inl nat]) dL_lines_544 (c_X9_line s line 2 (by unfold ab_r at *; omega) (by unfold ab_r at *; omega) hx) lk_L_43 rfl (Or.inl ⟨8, _, TX9, 8, gw_0 _, rfl⟩) rfl ⟨rfl, rfl, (Nat.le_of_ble_eq_true rfl), (Nat.le_of_ble_eq_true rfl), (Nat.le_of_ble_eq_true rfl), (Nat.le_of_ble_eq_true rfl)⟩ (Nat.le_of_ble_eq_true rfl) (fun r9 h9 p9 => ?_)
                      obtain ⟨rfl, rfl⟩ : r9 = some (.inl (nt (vX s) A B)) ∧ h9 = WW s := ⟨p9.1.trans (congrArg (fun z : Int => (some (Sum.inl z) : Option ab_V)) el2), p9.2⟩
                      show V 547 [some (.inr (some 0)), some (.inl (s 107 0)), some (.inl (s 103 0)), some (.inl next), some (.inl dem), some (.inl line), some (.inl A), some (.inl B), some (.inl last), some (.inl (df (vX s) A B)), some (.inl (bd (vX s) A B)), some (.inl nat), some (.inl wide), some (.inl a13), some (.inl str), some (.inl shr), some (.inl rm), some (.inl due), some (.inl poor)] [.inl (nt (vX s) A B), .inl nat] (WW s) 0 0
                      refine rb_icmp_ne hV (tgt := 665) dL_lines_547 (by decide) ⟨(by unfold ab_r at *; omega), (by unfold ab_r at *; omega)⟩ (fun c547 => absurd c547 (by omega)) (fun c547 => ?_)
                      refine rb_iload hV dL_lines_550 rfl ?_
                      refine rb_aload_n hV dL_lines_552 rfl rfl ?_
                      refine rb_iload hV dL_lines_553 rfl ?_
                      refine rb_bipush hV dL_lines_555 (by decide) ?_
                      refine rb_callV hV (rest := [.inl wide]) dL_lines_557 (c_X9_line s line 8 (by unfold ab_r at *; omega) (by unfold ab_r at *; omega) hx) lk_L_43 rfl (Or.inl ⟨8, _, TX9, 8, gw_0 _, rfl⟩) rfl ⟨rfl, rfl, (Nat.le_of_ble_eq_true rfl), (Nat.le_of_ble_eq_true rfl), (Nat.le_of_ble_eq_true rfl), (Nat.le_of_ble_eq_true rfl)⟩ (Nat.le_of_ble_eq_true rfl) (fun r9 h9 p9 => ?_)
                      obtain ⟨rfl, rfl⟩ : r9 = some (.inl (lnW (vX s) A B (B + 1))) ∧ h9 = WW s := ⟨p9.1.trans (congrArg (fun z : Int => (some (Sum.inl z) : Option ab_V)) el8), p9.2⟩
                      show V 560 [some (.inr (some 0)), some (.inl (s 107 0)), some (.inl (s 103 0)), some (.inl next), some (.inl dem), some (.inl line), some (.inl A), some (.inl B), some (.inl last), some (.inl (df (vX s) A B)), some (.inl (bd (vX s) A B)), some (.inl nat), some (.inl wide), some (.inl a13), some (.inl str), some (.inl shr), some (.inl rm), some (.inl due), some (.inl poor)] [.inl (lnW (vX s) A B (B + 1)), .inl wide] (WW s) 0 0
                      refine rb_icmp_ne hV (tgt := 665) dL_lines_560 (by decide) ⟨(by unfold ab_r at *; omega), (by unfold ab_r at *; omega)⟩ (fun c560 => absurd c560 (by omega)) (fun c560 => ?_)
                      refine rb_iload hV dL_lines_563 rfl ?_
                      have j593 : ∀ (exp : Int), (exp = wide) → V 593 [some (.inr (some 0)), some (.inl (s 107 0)), some (.inl (s 103 0)), some (.inl next), some (.inl dem), some (.inl line), some (.inl A), some (.inl B), some (.inl last), some (.inl (df (vX s) A B)), some (.inl (bd (vX s) A B)), some (.inl nat), some (.inl wide), some (.inl a13), some (.inl str), some (.inl shr), some (.inl rm), some (.inl due), some (.inl poor)] [.inl exp, .inl wide] (WW s) 0 0 := by
                        intro exp hex
                        refine rb_icmp_ne hV (tgt := 665) dL_lines_593 (by decide) ⟨(by unfold ab_r at *; omega), (by unfold ab_r at *; omega)⟩ (fun c593 => absurd c593 (by omega)) (fun c593 => ?_)
                        refine rb_iload hV dL_lines_596 rfl ?_
                        refine rb_iload hV dL_lines_598 rfl ?_
                        refine rb_icmp_ne hV (tgt := 665) dL_lines_600 (by decide) ⟨(by unfold ab_r at *; omega), (by unfold ab_r at *; omega)⟩ (fun c600 => absurd c600 (by omega)) (fun c600 => ?_)
                        refine rb_aload_n hV dL_lines_603 rfl rfl ?_
                        refine rb_iload hV dL_lines_604 rfl ?_
                        refine rb_iconst hV dL_lines_606 ?_
                        refine rb_callV hV (rest := []) dL_lines_607 (c_X9_line s line 5 (by unfold ab_r at *; omega) (by unfold ab_r at *; omega) hx) lk_L_43 rfl (Or.inl ⟨8, _, TX9, 8, gw_0 _, rfl⟩) rfl ⟨rfl, rfl, (Nat.le_of_ble_eq_true rfl), (Nat.le_of_ble_eq_true rfl), (Nat.le_of_ble_eq_true rfl), (Nat.le_of_ble_eq_true rfl)⟩ (Nat.le_of_ble_eq_true rfl) (fun r9 h9 p9 => ?_)
                        obtain ⟨rfl, rfl⟩ : r9 = some (.inl (dm (vX s) A B)) ∧ h9 = WW s := ⟨p9.1.trans (congrArg (fun z : Int => (some (Sum.inl z) : Option ab_V)) el5), p9.2⟩
                        show V 610 [some (.inr (some 0)), some (.inl (s 107 0)), some (.inl (s 103 0)), some (.inl next), some (.inl dem), some (.inl line), some (.inl A), some (.inl B), some (.inl last), some (.inl (df (vX s) A B)), some (.inl (bd (vX s) A B)), some (.inl nat), some (.inl wide), some (.inl a13), some (.inl str), some (.inl shr), some (.inl rm), some (.inl due), some (.inl poor)] [.inl (dm (vX s) A B)] (WW s) 0 0
                        refine rb_bipush hV dL_lines_610 (by decide) ?_
                        refine rb_iload hV dL_lines_612 rfl ?_
                        refine rb_iadd hV dL_lines_614 ?_
                        refine rb_bipush hV dL_lines_615 (by decide) ?_
                        refine rb_iload hV dL_lines_617 rfl ?_
                        refine rb_iadd hV dL_lines_619 ?_
                        refine rb_imul hV dL_lines_620 ?_
                        refine rb_iload hV dL_lines_621 rfl ?_
                        refine rb_iadd hV dL_lines_623 ?_
                        refine rb_icmp_ne hV (tgt := 665) dL_lines_624 (by decide) ⟨(by unfold ab_r at *; omega), (by unfold ab_r at *; omega)⟩ (fun c624 => absurd c624 (by omega)) (fun c624 => ?_)
                        refine rb_iload hV dL_lines_627 rfl ?_
                        refine rb_iload hV dL_lines_629 rfl ?_
                        refine rb_ineg hV dL_lines_631 ?_
                        refine rb_icmp_lt hV (tgt := 665) dL_lines_632 (by decide) ⟨(by unfold ab_r at *; omega), (by unfold ab_r at *; omega)⟩ (fun c632 => absurd c632 (by omega)) (fun c632 => ?_)
                        refine rb_iload hV dL_lines_635 rfl ?_
                        refine rb_iload hV dL_lines_637 rfl ?_
                        refine rb_icmp_le hV (tgt := 647) dL_lines_639 (by decide) ⟨(by unfold ab_r at *; omega), (by unfold ab_r at *; omega)⟩ (fun c639 => ?_) (fun c639 => ?_)
                        · refine rb_aload_n hV dL_lines_647 rfl rfl ?_
                          refine rb_iload hV dL_lines_648 rfl ?_
                          refine rb_iload hV dL_lines_650 rfl ?_
                          refine rb_iload hV dL_lines_652 rfl ?_
                          refine rb_isub hV dL_lines_654 ?_
                          refine rb_iconst hV dL_lines_655 ?_
                          refine rb_callV hV (rest := []) dL_lines_656 (c_X9_space s line (B - A) 0 (by unfold ab_r at *; omega) (by unfold ab_r at *; omega) (by unfold ab_r at *; omega) hx) lk_L_49 rfl (Or.inl ⟨8, _, TX9, 8, gw_0 _, rfl⟩) rfl ⟨rfl, rfl, (Nat.le_of_ble_eq_true rfl), (Nat.le_of_ble_eq_true rfl), (Nat.le_of_ble_eq_true rfl), (Nat.le_of_ble_eq_true rfl)⟩ (Nat.le_of_ble_eq_true rfl) (fun r9 h9 p9 => ?_)
                          obtain ⟨rfl, rfl⟩ : r9 = some (.inl (-1001)) ∧ h9 = WW s := ⟨p9.1.trans (congrArg (fun z : Int => (some (Sum.inl z) : Option ab_V)) elz), p9.2⟩
                          show V 659 [some (.inr (some 0)), some (.inl (s 107 0)), some (.inl (s 103 0)), some (.inl next), some (.inl dem), some (.inl line), some (.inl A), some (.inl B), some (.inl last), some (.inl (df (vX s) A B)), some (.inl (bd (vX s) A B)), some (.inl nat), some (.inl wide), some (.inl a13), some (.inl str), some (.inl shr), some (.inl rm), some (.inl due), some (.inl poor)] [.inl (-1001)] (WW s) 0 0
                          refine rb_sipush hV dL_lines_659 (by decide) ?_
                          refine rb_icmp_eq hV (tgt := 667) dL_lines_662 (by decide) ⟨(by unfold ab_r at *; omega), (by unfold ab_r at *; omega)⟩ (fun _ => ?_) (fun z => absurd z (by decide))
                          refine rb_iload hV dL_lines_667 rfl ?_
                          refine rb_aload_n hV dL_lines_669 rfl rfl ?_
                          refine rb_iload hV dL_lines_670 rfl ?_
                          refine rb_iconst hV dL_lines_672 ?_
                          refine rb_callV hV (rest := [.inl dem]) dL_lines_673 (c_X9_line s line 5 (by unfold ab_r at *; omega) (by unfold ab_r at *; omega) hx) lk_L_43 rfl (Or.inl ⟨8, _, TX9, 8, gw_0 _, rfl⟩) rfl ⟨rfl, rfl, (Nat.le_of_ble_eq_true rfl), (Nat.le_of_ble_eq_true rfl), (Nat.le_of_ble_eq_true rfl), (Nat.le_of_ble_eq_true rfl)⟩ (Nat.le_of_ble_eq_true rfl) (fun r9 h9 p9 => ?_)
                          obtain ⟨rfl, rfl⟩ : r9 = some (.inl (dm (vX s) A B)) ∧ h9 = WW s := ⟨p9.1.trans (congrArg (fun z : Int => (some (Sum.inl z) : Option ab_V)) el5), p9.2⟩
                          show V 676 [some (.inr (some 0)), some (.inl (s 107 0)), some (.inl (s 103 0)), some (.inl next), some (.inl dem), some (.inl line), some (.inl A), some (.inl B), some (.inl last), some (.inl (df (vX s) A B)), some (.inl (bd (vX s) A B)), some (.inl nat), some (.inl wide), some (.inl a13), some (.inl str), some (.inl shr), some (.inl rm), some (.inl due), some (.inl poor)] [.inl (dm (vX s) A B), .inl dem] (WW s) 0 0
                          refine rb_iadd hV dL_lines_676 ?_
                          refine rb_istore hV (L2 := [some (.inr (some 0)), some (.inl (s 107 0)), some (.inl (s 103 0)), some (.inl next), some (.inl (dem + (dm (vX s) A B))), some (.inl line), some (.inl A), some (.inl B), some (.inl last), some (.inl (df (vX s) A B)), some (.inl (bd (vX s) A B)), some (.inl nat), some (.inl wide), some (.inl a13), some (.inl str), some (.inl shr), some (.inl rm), some (.inl due), some (.inl poor)]) dL_lines_677 (Nat.le_of_ble_eq_true rfl) rfl ?_
                          refine rb_iload hV dL_lines_679 rfl ?_
                          refine rb_iconst hV dL_lines_681 ?_
                          refine rb_iadd hV dL_lines_682 ?_
                          refine rb_istore_n hV (L2 := [some (.inr (some 0)), some (.inl (s 107 0)), some (.inl (s 103 0)), some (.inl (B + 1)), some (.inl (dem + (dm (vX s) A B))), some (.inl line), some (.inl A), some (.inl B), some (.inl last), some (.inl (df (vX s) A B)), some (.inl (bd (vX s) A B)), some (.inl nat), some (.inl wide), some (.inl a13), some (.inl str), some (.inl shr), some (.inl rm), some (.inl due), some (.inl poor)]) dL_lines_683 rfl (Nat.le_of_ble_eq_true rfl) rfl ?_
                          refine rb_iinc hV (L2 := [some (.inr (some 0)), some (.inl (s 107 0)), some (.inl (s 103 0)), some (.inl (B + 1)), some (.inl (dem + (dm (vX s) A B))), some (.inl (line + 1)), some (.inl A), some (.inl B), some (.inl last), some (.inl (df (vX s) A B)), some (.inl (bd (vX s) A B)), some (.inl nat), some (.inl wide), some (.inl a13), some (.inl str), some (.inl shr), some (.inl rm), some (.inl due), some (.inl poor)]) dL_lines_684 rfl rfl rfl ?_
                          refine rb_goto hV (tgt := 20) dL_lines_687 (by decide) ?_
                          refine rb_weak hV (L2 := [some (.inr (some 0)), some (.inl (s 107 0)), some (.inl (s 103 0)), some (.inl (B + 1)), some (.inl (dem + (dm (vX s) A B))), some (.inl (line + 1)), none, none, none, none, none, none, none, none, none, none, none, none, none]) ⟨rfl, ⟨rfl, ⟨rfl, ⟨rfl, ⟨rfl, ⟨rfl, trivial⟩⟩⟩⟩⟩⟩ ?_
                          refine ih20 (B + 1) (dem + (dm (vX s) A B)) (line + 1) ?_ ?_ ?_ ?_
                          · omega
                          · exact Or.inr ⟨by omega, by omega⟩
                          · rw [Sm_succ _ hl0.1, hdm]
                            show _ + dm (vX s) A B = _ + dm (vX s) (s 26 line) (s 26 (line + 1) - 1)
                            rw [hA, hB]
                          · omega
                        · refine rb_iload hV dL_lines_642 rfl ?_
                          refine rb_if_eq hV (tgt := 665) dL_lines_644 (by decide) (by unfold ab_r at *; omega) (fun c644 => absurd c644 (by omega)) (fun c644 => ?_)
                          refine rb_aload_n hV dL_lines_647 rfl rfl ?_
                          refine rb_iload hV dL_lines_648 rfl ?_
                          refine rb_iload hV dL_lines_650 rfl ?_
                          refine rb_iload hV dL_lines_652 rfl ?_
                          refine rb_isub hV dL_lines_654 ?_
                          refine rb_iconst hV dL_lines_655 ?_
                          refine rb_callV hV (rest := []) dL_lines_656 (c_X9_space s line (B - A) 0 (by unfold ab_r at *; omega) (by unfold ab_r at *; omega) (by unfold ab_r at *; omega) hx) lk_L_49 rfl (Or.inl ⟨8, _, TX9, 8, gw_0 _, rfl⟩) rfl ⟨rfl, rfl, (Nat.le_of_ble_eq_true rfl), (Nat.le_of_ble_eq_true rfl), (Nat.le_of_ble_eq_true rfl), (Nat.le_of_ble_eq_true rfl)⟩ (Nat.le_of_ble_eq_true rfl) (fun r9 h9 p9 => ?_)
                          obtain ⟨rfl, rfl⟩ : r9 = some (.inl (-1001)) ∧ h9 = WW s := ⟨p9.1.trans (congrArg (fun z : Int => (some (Sum.inl z) : Option ab_V)) elz), p9.2⟩
                          show V 659 [some (.inr (some 0)), some (.inl (s 107 0)), some (.inl (s 103 0)), some (.inl next), some (.inl dem), some (.inl line), some (.inl A), some (.inl B), some (.inl last), some (.inl (df (vX s) A B)), some (.inl (bd (vX s) A B)), some (.inl nat), some (.inl wide), some (.inl a13), some (.inl str), some (.inl shr), some (.inl rm), some (.inl due), some (.inl poor)] [.inl (-1001)] (WW s) 0 0
                          refine rb_sipush hV dL_lines_659 (by decide) ?_
                          refine rb_icmp_eq hV (tgt := 667) dL_lines_662 (by decide) ⟨(by unfold ab_r at *; omega), (by unfold ab_r at *; omega)⟩ (fun _ => ?_) (fun z => absurd z (by decide))
                          refine rb_iload hV dL_lines_667 rfl ?_
                          refine rb_aload_n hV dL_lines_669 rfl rfl ?_
                          refine rb_iload hV dL_lines_670 rfl ?_
                          refine rb_iconst hV dL_lines_672 ?_
                          refine rb_callV hV (rest := [.inl dem]) dL_lines_673 (c_X9_line s line 5 (by unfold ab_r at *; omega) (by unfold ab_r at *; omega) hx) lk_L_43 rfl (Or.inl ⟨8, _, TX9, 8, gw_0 _, rfl⟩) rfl ⟨rfl, rfl, (Nat.le_of_ble_eq_true rfl), (Nat.le_of_ble_eq_true rfl), (Nat.le_of_ble_eq_true rfl), (Nat.le_of_ble_eq_true rfl)⟩ (Nat.le_of_ble_eq_true rfl) (fun r9 h9 p9 => ?_)
                          obtain ⟨rfl, rfl⟩ : r9 = some (.inl (dm (vX s) A B)) ∧ h9 = WW s := ⟨p9.1.trans (congrArg (fun z : Int => (some (Sum.inl z) : Option ab_V)) el5), p9.2⟩
                          show V 676 [some (.inr (some 0)), some (.inl (s 107 0)), some (.inl (s 103 0)), some (.inl next), some (.inl dem), some (.inl line), some (.inl A), some (.inl B), some (.inl last), some (.inl (df (vX s) A B)), some (.inl (bd (vX s) A B)), some (.inl nat), some (.inl wide), some (.inl a13), some (.inl str), some (.inl shr), some (.inl rm), some (.inl due), some (.inl poor)] [.inl (dm (vX s) A B), .inl dem] (WW s) 0 0
                          refine rb_iadd hV dL_lines_676 ?_
                          refine rb_istore hV (L2 := [some (.inr (some 0)), some (.inl (s 107 0)), some (.inl (s 103 0)), some (.inl next), some (.inl (dem + (dm (vX s) A B))), some (.inl line), some (.inl A), some (.inl B), some (.inl last), some (.inl (df (vX s) A B)), some (.inl (bd (vX s) A B)), some (.inl nat), some (.inl wide), some (.inl a13), some (.inl str), some (.inl shr), some (.inl rm), some (.inl due), some (.inl poor)]) dL_lines_677 (Nat.le_of_ble_eq_true rfl) rfl ?_
                          refine rb_iload hV dL_lines_679 rfl ?_
                          refine rb_iconst hV dL_lines_681 ?_
                          refine rb_iadd hV dL_lines_682 ?_
                          refine rb_istore_n hV (L2 := [some (.inr (some 0)), some (.inl (s 107 0)), some (.inl (s 103 0)), some (.inl (B + 1)), some (.inl (dem + (dm (vX s) A B))), some (.inl line), some (.inl A), some (.inl B), some (.inl last), some (.inl (df (vX s) A B)), some (.inl (bd (vX s) A B)), some (.inl nat), some (.inl wide), some (.inl a13), some (.inl str), some (.inl shr), some (.inl rm), some (.inl due), some (.inl poor)]) dL_lines_683 rfl (Nat.le_of_ble_eq_true rfl) rfl ?_
                          refine rb_iinc hV (L2 := [some (.inr (some 0)), some (.inl (s 107 0)), some (.inl (s 103 0)), some (.inl (B + 1)), some (.inl (dem + (dm (vX s) A B))), some (.inl (line + 1)), some (.inl A), some (.inl B), some (.inl last), some (.inl (df (vX s) A B)), some (.inl (bd (vX s) A B)), some (.inl nat), some (.inl wide), some (.inl a13), some (.inl str), some (.inl shr), some (.inl rm), some (.inl due), some (.inl poor)]) dL_lines_684 rfl rfl rfl ?_
                          refine rb_goto hV (tgt := 20) dL_lines_687 (by decide) ?_
                          refine rb_weak hV (L2 := [some (.inr (some 0)), some (.inl (s 107 0)), some (.inl (s 103 0)), some (.inl (B + 1)), some (.inl (dem + (dm (vX s) A B))), some (.inl (line + 1)), none, none, none, none, none, none, none, none, none, none, none, none, none]) ⟨rfl, ⟨rfl, ⟨rfl, ⟨rfl, ⟨rfl, ⟨rfl, trivial⟩⟩⟩⟩⟩⟩ ?_
                          refine ih20 (B + 1) (dem + (dm (vX s) A B)) (line + 1) ?_ ?_ ?_ ?_
                          · omega
                          · exact Or.inr ⟨by omega, by omega⟩
                          · rw [Sm_succ _ hl0.1, hdm]
                            show _ + dm (vX s) A B = _ + dm (vX s) (s 26 line) (s 26 (line + 1) - 1)
                            rw [hA, hB]
                          · omega
                      refine rb_iload hV dL_lines_565 rfl ?_
                      refine rb_if_eq hV (tgt := 587) dL_lines_567 (by decide) (by unfold ab_r at *; omega) (fun c567 => ?_) (fun c567 => ?_)
                      · refine rb_aload_n hV dL_lines_587 rfl rfl ?_
                        refine rb_bipush hV dL_lines_588 (by decide) ?_
                        refine rb_callV hV (rest := [.inl wide]) dL_lines_590 (c_X9_count s 7 (by unfold ab_r at *; omega) hx) lk_L_36 rfl (Or.inl ⟨8, _, TX9, 8, gw_0 _, rfl⟩) rfl ⟨rfl, rfl, (Nat.le_of_ble_eq_true rfl), (Nat.le_of_ble_eq_true rfl), (Nat.le_of_ble_eq_true rfl), (Nat.le_of_ble_eq_true rfl)⟩ (Nat.le_of_ble_eq_true rfl) (fun r9 h9 p9 => ?_)
                        obtain ⟨rfl, rfl⟩ : r9 = some (.inl (s 100 0)) ∧ h9 = WW s := ⟨p9.1.trans (congrArg (fun z : Int => (some (Sum.inl z) : Option ab_V)) rfl), p9.2⟩
                        show V 593 [some (.inr (some 0)), some (.inl (s 107 0)), some (.inl (s 103 0)), some (.inl next), some (.inl dem), some (.inl line), some (.inl A), some (.inl B), some (.inl last), some (.inl (df (vX s) A B)), some (.inl (bd (vX s) A B)), some (.inl nat), some (.inl wide), some (.inl a13), some (.inl str), some (.inl shr), some (.inl rm), some (.inl due), some (.inl poor)] [.inl (s 100 0), .inl wide] (WW s) 0 0
                        refine j593 (s 100 0) ?_
                        · omega
                      · refine rb_iload hV dL_lines_570 rfl ?_
                        refine rb_if_le hV (tgt := 587) dL_lines_572 (by decide) (by unfold ab_r at *; omega) (fun c572 => ?_) (fun c572 => ?_)
                        · refine rb_aload_n hV dL_lines_587 rfl rfl ?_
                          refine rb_bipush hV dL_lines_588 (by decide) ?_
                          refine rb_callV hV (rest := [.inl wide]) dL_lines_590 (c_X9_count s 7 (by unfold ab_r at *; omega) hx) lk_L_36 rfl (Or.inl ⟨8, _, TX9, 8, gw_0 _, rfl⟩) rfl ⟨rfl, rfl, (Nat.le_of_ble_eq_true rfl), (Nat.le_of_ble_eq_true rfl), (Nat.le_of_ble_eq_true rfl), (Nat.le_of_ble_eq_true rfl)⟩ (Nat.le_of_ble_eq_true rfl) (fun r9 h9 p9 => ?_)
                          obtain ⟨rfl, rfl⟩ : r9 = some (.inl (s 100 0)) ∧ h9 = WW s := ⟨p9.1.trans (congrArg (fun z : Int => (some (Sum.inl z) : Option ab_V)) rfl), p9.2⟩
                          show V 593 [some (.inr (some 0)), some (.inl (s 107 0)), some (.inl (s 103 0)), some (.inl next), some (.inl dem), some (.inl line), some (.inl A), some (.inl B), some (.inl last), some (.inl (df (vX s) A B)), some (.inl (bd (vX s) A B)), some (.inl nat), some (.inl wide), some (.inl a13), some (.inl str), some (.inl shr), some (.inl rm), some (.inl due), some (.inl poor)] [.inl (s 100 0), .inl wide] (WW s) 0 0
                          refine j593 (s 100 0) ?_
                          · omega
                        · refine rb_aload_n hV dL_lines_575 rfl rfl ?_
                          refine rb_bipush hV dL_lines_576 (by decide) ?_
                          refine rb_callV hV (rest := [.inl wide]) dL_lines_578 (c_X9_count s 7 (by unfold ab_r at *; omega) hx) lk_L_36 rfl (Or.inl ⟨8, _, TX9, 8, gw_0 _, rfl⟩) rfl ⟨rfl, rfl, (Nat.le_of_ble_eq_true rfl), (Nat.le_of_ble_eq_true rfl), (Nat.le_of_ble_eq_true rfl), (Nat.le_of_ble_eq_true rfl)⟩ (Nat.le_of_ble_eq_true rfl) (fun r9 h9 p9 => ?_)
                          obtain ⟨rfl, rfl⟩ : r9 = some (.inl (s 100 0)) ∧ h9 = WW s := ⟨p9.1.trans (congrArg (fun z : Int => (some (Sum.inl z) : Option ab_V)) rfl), p9.2⟩
                          show V 581 [some (.inr (some 0)), some (.inl (s 107 0)), some (.inl (s 103 0)), some (.inl next), some (.inl dem), some (.inl line), some (.inl A), some (.inl B), some (.inl last), some (.inl (df (vX s) A B)), some (.inl (bd (vX s) A B)), some (.inl nat), some (.inl wide), some (.inl a13), some (.inl str), some (.inl shr), some (.inl rm), some (.inl due), some (.inl poor)] [.inl (s 100 0), .inl wide] (WW s) 0 0
                          refine rb_iload hV dL_lines_581 rfl ?_
                          refine rb_isub hV dL_lines_583 ?_
                          refine rb_goto hV (tgt := 593) dL_lines_584 (by decide) ?_
                          refine j593 ((s 100 0) - (df (vX s) A B)) ?_
                          · omega
                    refine rb_iload hV dL_lines_514 rfl ?_
                    refine rb_if_ne hV (tgt := 535) dL_lines_516 (by decide) (by unfold ab_r at *; omega) (fun c516 => ?_) (fun c516 => ?_)
                    · refine rb_iconst hV dL_lines_535 ?_
                      refine j536 0 ?_
                      · exact (if_neg (by omega)).symm
                    · refine rb_aload_n hV dL_lines_519 rfl rfl ?_
                      refine rb_iload hV dL_lines_520 rfl ?_
                      refine rb_iconst hV dL_lines_522 ?_
                      refine rb_callV hV (rest := []) dL_lines_523 (c_X9_word s B 1 (by unfold ab_r at *; omega) (by unfold ab_r at *; omega) hx) lk_L_40 rfl (Or.inl ⟨8, _, TX9, 8, gw_0 _, rfl⟩) rfl ⟨rfl, rfl, (Nat.le_of_ble_eq_true rfl), (Nat.le_of_ble_eq_true rfl), (Nat.le_of_ble_eq_true rfl), (Nat.le_of_ble_eq_true rfl)⟩ (Nat.le_of_ble_eq_true rfl) (fun r9 h9 p9 => ?_)
                      obtain ⟨rfl, rfl⟩ : r9 = some (.inl (vX s 2 B)) ∧ h9 = WW s := ⟨p9.1.trans (congrArg (fun z : Int => (some (Sum.inl z) : Option ab_V)) ewb), p9.2⟩
                      show V 526 [some (.inr (some 0)), some (.inl (s 107 0)), some (.inl (s 103 0)), some (.inl next), some (.inl dem), some (.inl line), some (.inl A), some (.inl B), some (.inl last), some (.inl (df (vX s) A B)), some (.inl (bd (vX s) A B)), some (.inl nat), some (.inl wide), some (.inl a13), some (.inl str), some (.inl shr), some (.inl rm), some (.inl due), none] [.inl (vX s 2 B)] (WW s) 0 0
                      refine rb_iconst hV dL_lines_526 ?_
                      refine rb_icmp_gt hV (tgt := 535) dL_lines_527 (by decide) ⟨(by unfold ab_r at *; omega), (by unfold ab_r at *; omega)⟩ (fun c527 => ?_) (fun c527 => ?_)
                      · refine rb_iconst hV dL_lines_535 ?_
                        refine j536 0 ?_
                        · exact (if_neg (by omega)).symm
                      · refine rb_bipush hV dL_lines_530 (by decide) ?_
                        refine rb_goto hV (tgt := 536) dL_lines_532 (by decide) ?_
                        refine j536 100 ?_
                        · exact (if_pos ⟨by omega, by omega⟩).symm
                  refine rb_iload hV dL_lines_470 rfl ?_
                  refine rb_if_eq hV (tgt := 485) dL_lines_472 (by decide) (by unfold ab_r at *; omega) (fun c472 => ?_) (fun c472 => ?_)
                  · refine rb_iconst hV dL_lines_485 ?_
                    refine rb_goto hV (tgt := 512) dL_lines_486 (by decide) ?_
                    refine j512 0 ?_
                    · exact (if_pos (by omega)).symm
                  · refine rb_iload hV dL_lines_475 rfl ?_
                    refine rb_if_le hV (tgt := 489) dL_lines_477 (by decide) (by unfold ab_r at *; omega) (fun c477 => ?_) (fun c477 => ?_)
                    · refine rb_iload hV dL_lines_489 rfl ?_
                      refine rb_if_ne hV (tgt := 498) dL_lines_491 (by decide) (by unfold ab_r at *; omega) (fun c491 => ?_) (fun c491 => absurd c491 (by have q := hrmm (by omega); omega))
                      have q9 := hrmm (by omega)
                      rw [← hrm] at q9
                      have q8 := sq_r q9.2.2.1 q9.2.2.2 (by omega) q9.2.1
                      have q7 : rm * rm ≠ 0 := by
                        have q6 : 1 * 1 ≤ rm * rm := Int.mul_le_mul q9.1 q9.1 (by omega) (by omega)
                        omega
                      refine rb_bipush hV dL_lines_498 (by decide) ?_
                      refine rb_iload hV dL_lines_500 rfl ?_
                      refine rb_imul hV dL_lines_502 ?_
                      refine rb_iload hV dL_lines_503 rfl ?_
                      refine rb_imul hV dL_lines_505 ?_
                      refine rb_iload hV dL_lines_506 rfl ?_
                      refine rb_iload hV dL_lines_508 rfl ?_
                      refine rb_imul hV dL_lines_510 ?_
                      refine rb_idiv hV dL_lines_511 ⟨(by unfold ab_r; omega), (by unfold ab_r; omega)⟩ q7 ?_
                      refine j512 ((((100 * (df (vX s) A B)) * (df (vX s) A B))).tdiv (rm * rm)) ?_
                      · have q : ¬ (df (vX s) A B = 0 ∨ (0 < df (vX s) A B ∧ B = s 103 0 - 1)) := by omega
                        rw [hrm]
                        exact (if_neg q).symm
                    · refine rb_iload hV dL_lines_480 rfl ?_
                      refine rb_if_eq hV (tgt := 489) dL_lines_482 (by decide) (by unfold ab_r at *; omega) (fun c482 => ?_) (fun c482 => ?_)
                      · refine rb_iload hV dL_lines_489 rfl ?_
                        refine rb_if_ne hV (tgt := 498) dL_lines_491 (by decide) (by unfold ab_r at *; omega) (fun c491 => ?_) (fun c491 => absurd c491 (by have q := hrmm (by omega); omega))
                        have q9 := hrmm (by omega)
                        rw [← hrm] at q9
                        have q8 := sq_r q9.2.2.1 q9.2.2.2 (by omega) q9.2.1
                        have q7 : rm * rm ≠ 0 := by
                          have q6 : 1 * 1 ≤ rm * rm := Int.mul_le_mul q9.1 q9.1 (by omega) (by omega)
                          omega
                        refine rb_bipush hV dL_lines_498 (by decide) ?_
                        refine rb_iload hV dL_lines_500 rfl ?_
                        refine rb_imul hV dL_lines_502 ?_
                        refine rb_iload hV dL_lines_503 rfl ?_
                        refine rb_imul hV dL_lines_505 ?_
                        refine rb_iload hV dL_lines_506 rfl ?_
                        refine rb_iload hV dL_lines_508 rfl ?_
                        refine rb_imul hV dL_lines_510 ?_
                        refine rb_idiv hV dL_lines_511 ⟨(by unfold ab_r; omega), (by unfold ab_r; omega)⟩ q7 ?_
                        refine j512 ((((100 * (df (vX s) A B)) * (df (vX s) A B))).tdiv (rm * rm)) ?_
                        · have q : ¬ (df (vX s) A B = 0 ∨ (0 < df (vX s) A B ∧ B = s 103 0 - 1)) := by omega
                          rw [hrm]
                          exact (if_neg q).symm
                      · refine rb_iconst hV dL_lines_485 ?_
                        refine rb_goto hV (tgt := 512) dL_lines_486 (by decide) ?_
                        refine j512 0 ?_
                        · exact (if_pos (by omega)).symm
                refine rb_iload hV dL_lines_456 rfl ?_
                refine rb_if_le hV (tgt := 466) dL_lines_458 (by decide) (by unfold ab_r at *; omega) (fun c458 => ?_) (fun c458 => ?_)
                · refine rb_iload hV dL_lines_466 rfl ?_
                  refine rb_weak hV (L2 := [some (.inr (some 0)), some (.inl (s 107 0)), some (.inl (s 103 0)), some (.inl next), some (.inl dem), some (.inl line), some (.inl A), some (.inl B), some (.inl last), some (.inl (df (vX s) A B)), some (.inl (bd (vX s) A B)), some (.inl nat), some (.inl wide), some (.inl a13), some (.inl str), some (.inl shr), none, none, none]) ⟨rfl, ⟨rfl, ⟨rfl, ⟨rfl, ⟨rfl, ⟨rfl, ⟨rfl, ⟨rfl, ⟨rfl, ⟨rfl, ⟨rfl, ⟨rfl, ⟨rfl, ⟨rfl, ⟨rfl, ⟨rfl, trivial⟩⟩⟩⟩⟩⟩⟩⟩⟩⟩⟩⟩⟩⟩⟩⟩ ?_
                  refine j468 shr ?_
                  · rw [hsh2]
                    exact (if_neg (by omega)).symm
                · refine rb_iload hV dL_lines_461 rfl ?_
                  refine rb_goto hV (tgt := 468) dL_lines_463 (by decide) ?_
                  refine rb_weak hV (L2 := [some (.inr (some 0)), some (.inl (s 107 0)), some (.inl (s 103 0)), some (.inl next), some (.inl dem), some (.inl line), some (.inl A), some (.inl B), some (.inl last), some (.inl (df (vX s) A B)), some (.inl (bd (vX s) A B)), some (.inl nat), some (.inl wide), some (.inl a13), some (.inl str), some (.inl shr), none, none, none]) ⟨rfl, ⟨rfl, ⟨rfl, ⟨rfl, ⟨rfl, ⟨rfl, ⟨rfl, ⟨rfl, ⟨rfl, ⟨rfl, ⟨rfl, ⟨rfl, ⟨rfl, ⟨rfl, ⟨rfl, ⟨rfl, trivial⟩⟩⟩⟩⟩⟩⟩⟩⟩⟩⟩⟩⟩⟩⟩⟩ ?_
                  refine j468 str ?_
                  · rw [hst2]
                    exact (if_pos (by omega)).symm
              · have hwB0 : w ≤ B := by omega
                obtain ⟨ew0, ew1, ew2, ew3, eb, bw1, bw2, bw3, bbg⟩ := LN_word hx hl0.1 (by omega) hA hB hw.1 hwB0
                have hat := hat hwB0
                refine rb_iload hV dL_lines_177 rfl ?_
                refine rb_aload_n hV dL_lines_179 rfl rfl ?_
                refine rb_iload hV dL_lines_180 rfl ?_
                refine rb_iconst hV dL_lines_182 ?_
                refine rb_callV hV (rest := [.inl nat]) dL_lines_183 (c_X9_word s w 0 (by unfold ab_r at *; omega) (by unfold ab_r at *; omega) hx) lk_L_40 rfl (Or.inl ⟨8, _, TX9, 8, gw_0 _, rfl⟩) rfl ⟨rfl, rfl, (Nat.le_of_ble_eq_true rfl), (Nat.le_of_ble_eq_true rfl), (Nat.le_of_ble_eq_true rfl), (Nat.le_of_ble_eq_true rfl)⟩ (Nat.le_of_ble_eq_true rfl) (fun r9 h9 p9 => ?_)
                obtain ⟨rfl, rfl⟩ : r9 = some (.inl (vX s 1 w)) ∧ h9 = WW s := ⟨p9.1.trans (congrArg (fun z : Int => (some (Sum.inl z) : Option ab_V)) ew0), p9.2⟩
                show V 186 [some (.inr (some 0)), some (.inl (s 107 0)), some (.inl (s 103 0)), some (.inl next), some (.inl dem), some (.inl line), some (.inl A), some (.inl B), some (.inl last), some (.inl (df (vX s) A B)), some (.inl (bd (vX s) A B)), some (.inl nat), some (.inl wide), some (.inl a13), some (.inl str), some (.inl shr), some (.inl w), none, none] [.inl (vX s 1 w), .inl nat] (WW s) 0 0
                refine rb_iadd hV dL_lines_186 ?_
                refine rb_istore hV (L2 := [some (.inr (some 0)), some (.inl (s 107 0)), some (.inl (s 103 0)), some (.inl next), some (.inl dem), some (.inl line), some (.inl A), some (.inl B), some (.inl last), some (.inl (df (vX s) A B)), some (.inl (bd (vX s) A B)), some (.inl (nat + (vX s 1 w))), some (.inl wide), some (.inl a13), some (.inl str), some (.inl shr), some (.inl w), none, none]) dL_lines_187 (Nat.le_of_ble_eq_true rfl) rfl ?_
                refine rb_iload hV dL_lines_189 rfl ?_
                refine rb_aload_n hV dL_lines_191 rfl rfl ?_
                refine rb_iload hV dL_lines_192 rfl ?_
                refine rb_iconst hV dL_lines_194 ?_
                refine rb_callV hV (rest := [.inl wide]) dL_lines_195 (c_X9_word s w 0 (by unfold ab_r at *; omega) (by unfold ab_r at *; omega) hx) lk_L_40 rfl (Or.inl ⟨8, _, TX9, 8, gw_0 _, rfl⟩) rfl ⟨rfl, rfl, (Nat.le_of_ble_eq_true rfl), (Nat.le_of_ble_eq_true rfl), (Nat.le_of_ble_eq_true rfl), (Nat.le_of_ble_eq_true rfl)⟩ (Nat.le_of_ble_eq_true rfl) (fun r9 h9 p9 => ?_)
                obtain ⟨rfl, rfl⟩ : r9 = some (.inl (vX s 1 w)) ∧ h9 = WW s := ⟨p9.1.trans (congrArg (fun z : Int => (some (Sum.inl z) : Option ab_V)) ew0), p9.2⟩
                show V 198 [some (.inr (some 0)), some (.inl (s 107 0)), some (.inl (s 103 0)), some (.inl next), some (.inl dem), some (.inl line), some (.inl A), some (.inl B), some (.inl last), some (.inl (df (vX s) A B)), some (.inl (bd (vX s) A B)), some (.inl (nat + (vX s 1 w))), some (.inl wide), some (.inl a13), some (.inl str), some (.inl shr), some (.inl w), none, none] [.inl (vX s 1 w), .inl wide] (WW s) 0 0
                refine rb_iadd hV dL_lines_198 ?_
                refine rb_istore hV (L2 := [some (.inr (some 0)), some (.inl (s 107 0)), some (.inl (s 103 0)), some (.inl next), some (.inl dem), some (.inl line), some (.inl A), some (.inl B), some (.inl last), some (.inl (df (vX s) A B)), some (.inl (bd (vX s) A B)), some (.inl (nat + (vX s 1 w))), some (.inl (wide + (vX s 1 w))), some (.inl a13), some (.inl str), some (.inl shr), some (.inl w), none, none]) dL_lines_199 (Nat.le_of_ble_eq_true rfl) rfl ?_
                refine rb_aload_n hV dL_lines_201 rfl rfl ?_
                refine rb_iload hV dL_lines_202 rfl ?_
                refine rb_callV hV (rest := []) dL_lines_204 (c_X9_begin s w (by unfold ab_r at *; omega) hx) lk_L_46 rfl (Or.inl ⟨8, _, TX9, 8, gw_0 _, rfl⟩) rfl ⟨rfl, rfl, (Nat.le_of_ble_eq_true rfl), (Nat.le_of_ble_eq_true rfl), (Nat.le_of_ble_eq_true rfl), (Nat.le_of_ble_eq_true rfl)⟩ (Nat.le_of_ble_eq_true rfl) (fun r9 h9 p9 => ?_)
                obtain ⟨rfl, rfl⟩ : r9 = some (.inl (bgF (vX s) (swF (vX s) A B) A w)) ∧ h9 = WW s := ⟨p9.1.trans (congrArg (fun z : Int => (some (Sum.inl z) : Option ab_V)) eb), p9.2⟩
                show V 207 [some (.inr (some 0)), some (.inl (s 107 0)), some (.inl (s 103 0)), some (.inl next), some (.inl dem), some (.inl line), some (.inl A), some (.inl B), some (.inl last), some (.inl (df (vX s) A B)), some (.inl (bd (vX s) A B)), some (.inl (nat + (vX s 1 w))), some (.inl (wide + (vX s 1 w))), some (.inl a13), some (.inl str), some (.inl shr), some (.inl w), none, none] [.inl (bgF (vX s) (swF (vX s) A B) A w)] (WW s) 0 0
                refine rb_iload hV dL_lines_207 rfl ?_
                refine rb_icmp_ne hV (tgt := 224) dL_lines_209 (by decide) ⟨(by unfold ab_r at *; omega), (by unfold ab_r at *; omega)⟩ (fun c209 => absurd c209 (by omega)) (fun c209 => ?_)
                refine rb_aload_n hV dL_lines_212 rfl rfl ?_
                refine rb_iload hV dL_lines_213 rfl ?_
                refine rb_iconst hV dL_lines_215 ?_
                refine rb_callV hV (rest := []) dL_lines_216 (c_X9_word s w 3 (by unfold ab_r at *; omega) (by unfold ab_r at *; omega) hx) lk_L_40 rfl (Or.inl ⟨8, _, TX9, 8, gw_0 _, rfl⟩) rfl ⟨rfl, rfl, (Nat.le_of_ble_eq_true rfl), (Nat.le_of_ble_eq_true rfl), (Nat.le_of_ble_eq_true rfl), (Nat.le_of_ble_eq_true rfl)⟩ (Nat.le_of_ble_eq_true rfl) (fun r9 h9 p9 => ?_)
                obtain ⟨rfl, rfl⟩ : r9 = some (.inl line) ∧ h9 = WW s := ⟨p9.1.trans (congrArg (fun z : Int => (some (Sum.inl z) : Option ab_V)) ew3), p9.2⟩
                show V 219 [some (.inr (some 0)), some (.inl (s 107 0)), some (.inl (s 103 0)), some (.inl next), some (.inl dem), some (.inl line), some (.inl A), some (.inl B), some (.inl last), some (.inl (df (vX s) A B)), some (.inl (bd (vX s) A B)), some (.inl (nat + (vX s 1 w))), some (.inl (wide + (vX s 1 w))), some (.inl a13), some (.inl str), some (.inl shr), some (.inl w), none, none] [.inl line] (WW s) 0 0
                refine rb_iload hV dL_lines_219 rfl ?_
                refine rb_icmp_eq hV (tgt := 226) dL_lines_221 (by decide) ⟨(by unfold ab_r at *; omega), (by unfold ab_r at *; omega)⟩ (fun c221 => ?_) (fun c221 => absurd c221 (by omega))
                refine rb_iload hV dL_lines_226 rfl ?_
                refine rb_aload_n hV dL_lines_228 rfl rfl ?_
                refine rb_iload hV dL_lines_229 rfl ?_
                refine rb_iconst hV dL_lines_231 ?_
                refine rb_callV hV (rest := [.inl a13]) dL_lines_232 (c_X9_word s w 0 (by unfold ab_r at *; omega) (by unfold ab_r at *; omega) hx) lk_L_40 rfl (Or.inl ⟨8, _, TX9, 8, gw_0 _, rfl⟩) rfl ⟨rfl, rfl, (Nat.le_of_ble_eq_true rfl), (Nat.le_of_ble_eq_true rfl), (Nat.le_of_ble_eq_true rfl), (Nat.le_of_ble_eq_true rfl)⟩ (Nat.le_of_ble_eq_true rfl) (fun r9 h9 p9 => ?_)
                obtain ⟨rfl, rfl⟩ : r9 = some (.inl (vX s 1 w)) ∧ h9 = WW s := ⟨p9.1.trans (congrArg (fun z : Int => (some (Sum.inl z) : Option ab_V)) ew0), p9.2⟩
                show V 235 [some (.inr (some 0)), some (.inl (s 107 0)), some (.inl (s 103 0)), some (.inl next), some (.inl dem), some (.inl line), some (.inl A), some (.inl B), some (.inl last), some (.inl (df (vX s) A B)), some (.inl (bd (vX s) A B)), some (.inl (nat + (vX s 1 w))), some (.inl (wide + (vX s 1 w))), some (.inl a13), some (.inl str), some (.inl shr), some (.inl w), none, none] [.inl (vX s 1 w), .inl a13] (WW s) 0 0
                refine rb_iadd hV dL_lines_235 ?_
                refine rb_istore hV (L2 := [some (.inr (some 0)), some (.inl (s 107 0)), some (.inl (s 103 0)), some (.inl next), some (.inl dem), some (.inl line), some (.inl A), some (.inl B), some (.inl last), some (.inl (df (vX s) A B)), some (.inl (bd (vX s) A B)), some (.inl (nat + (vX s 1 w))), some (.inl (wide + (vX s 1 w))), some (.inl (a13 + (vX s 1 w))), some (.inl str), some (.inl shr), some (.inl w), none, none]) dL_lines_236 (Nat.le_of_ble_eq_true rfl) rfl ?_
                refine rb_iload hV dL_lines_238 rfl ?_
                refine rb_iload hV dL_lines_240 rfl ?_
                refine rb_icmp_ge hV (tgt := 450) dL_lines_242 (by decide) ⟨(by unfold ab_r at *; omega), (by unfold ab_r at *; omega)⟩ (fun c242 => ?_) (fun c242 => ?_)
                · have hwB : w = B := by omega
                  have lnb := ln_b (vX s) hAB.2.1
                  rw [hwB] at hna hwi hst2 hsh2 hat
                  refine rb_iinc hV (L2 := [some (.inr (some 0)), some (.inl (s 107 0)), some (.inl (s 103 0)), some (.inl next), some (.inl dem), some (.inl line), some (.inl A), some (.inl B), some (.inl last), some (.inl (df (vX s) A B)), some (.inl (bd (vX s) A B)), some (.inl (nat + (vX s 1 w))), some (.inl (wide + (vX s 1 w))), some (.inl (a13 + (vX s 1 w))), some (.inl str), some (.inl shr), some (.inl (w + 1)), none, none]) dL_lines_450 rfl rfl rfl ?_
                  refine rb_goto hV (tgt := 170) dL_lines_453 (by decide) ?_
                  refine ih170 (nat + (vX s 1 w)) (wide + (vX s 1 w)) (a13 + (vX s 1 w)) str shr (w + 1) ?_ ?_ ?_ ?_ ?_ ?_ ?_
                  · omega
                  · rw [hwB, lnb.1]
                    omega
                  · rw [hwB, lnb.2.1]
                    omega
                  · intro q
                    omega
                  · rw [hwB, lnb.2.2.1]
                    omega
                  · rw [hwB, lnb.2.2.2]
                    omega
                  · omega
                · obtain ⟨⟨es0, es1, es2⟩, ⟨ek0, ek1, ek2⟩, bk, f1, f2, f3, f4, f5⟩ := LN_space hx hl0.1 (by omega) hA hB hw.1 (show w < B by omega)
                  have lns := ln_s (vX s) hw.1 (show w < B by omega)
                  refine rb_aload_n hV dL_lines_245 rfl rfl ?_
                  refine rb_iload hV dL_lines_246 rfl ?_
                  refine rb_iconst hV dL_lines_248 ?_
                  refine rb_callV hV (rest := []) dL_lines_249 (c_X9_word s w 2 (by unfold ab_r at *; omega) (by unfold ab_r at *; omega) hx) lk_L_40 rfl (Or.inl ⟨8, _, TX9, 8, gw_0 _, rfl⟩) rfl ⟨rfl, rfl, (Nat.le_of_ble_eq_true rfl), (Nat.le_of_ble_eq_true rfl), (Nat.le_of_ble_eq_true rfl), (Nat.le_of_ble_eq_true rfl)⟩ (Nat.le_of_ble_eq_true rfl) (fun r9 h9 p9 => ?_)
                  obtain ⟨rfl, rfl⟩ : r9 = some (.inl (vX s 3 w)) ∧ h9 = WW s := ⟨p9.1.trans (congrArg (fun z : Int => (some (Sum.inl z) : Option ab_V)) ew2), p9.2⟩
                  show V 252 [some (.inr (some 0)), some (.inl (s 107 0)), some (.inl (s 103 0)), some (.inl next), some (.inl dem), some (.inl line), some (.inl A), some (.inl B), some (.inl last), some (.inl (df (vX s) A B)), some (.inl (bd (vX s) A B)), some (.inl (nat + (vX s 1 w))), some (.inl (wide + (vX s 1 w))), some (.inl (a13 + (vX s 1 w))), some (.inl str), some (.inl shr), some (.inl w), none, none] [.inl (vX s 3 w)] (WW s) 0 0
                  refine rb_istore hV (L2 := [some (.inr (some 0)), some (.inl (s 107 0)), some (.inl (s 103 0)), some (.inl next), some (.inl dem), some (.inl line), some (.inl A), some (.inl B), some (.inl last), some (.inl (df (vX s) A B)), some (.inl (bd (vX s) A B)), some (.inl (nat + (vX s 1 w))), some (.inl (wide + (vX s 1 w))), some (.inl (a13 + (vX s 1 w))), some (.inl str), some (.inl shr), some (.inl w), some (.inl (vX s 3 w)), none]) dL_lines_252 (Nat.le_of_ble_eq_true rfl) rfl ?_
                  refine rb_aload_n hV dL_lines_254 rfl rfl ?_
                  refine rb_iload hV dL_lines_255 rfl ?_
                  refine rb_iload hV dL_lines_257 rfl ?_
                  refine rb_iload hV dL_lines_259 rfl ?_
                  refine rb_isub hV dL_lines_261 ?_
                  refine rb_iconst hV dL_lines_262 ?_
                  refine rb_callV hV (rest := []) dL_lines_263 (c_X9_space s line (w - A) 0 (by unfold ab_r at *; omega) (by unfold ab_r at *; omega) (by unfold ab_r at *; omega) hx) lk_L_49 rfl (Or.inl ⟨8, _, TX9, 8, gw_0 _, rfl⟩) rfl ⟨rfl, rfl, (Nat.le_of_ble_eq_true rfl), (Nat.le_of_ble_eq_true rfl), (Nat.le_of_ble_eq_true rfl), (Nat.le_of_ble_eq_true rfl)⟩ (Nat.le_of_ble_eq_true rfl) (fun r9 h9 p9 => ?_)
                  obtain ⟨rfl, rfl⟩ : r9 = some (.inl (swF (vX s) A B w)) ∧ h9 = WW s := ⟨p9.1.trans (congrArg (fun z : Int => (some (Sum.inl z) : Option ab_V)) es0), p9.2⟩
                  show V 266 [some (.inr (some 0)), some (.inl (s 107 0)), some (.inl (s 103 0)), some (.inl next), some (.inl dem), some (.inl line), some (.inl A), some (.inl B), some (.inl last), some (.inl (df (vX s) A B)), some (.inl (bd (vX s) A B)), some (.inl (nat + (vX s 1 w))), some (.inl (wide + (vX s 1 w))), some (.inl (a13 + (vX s 1 w))), some (.inl str), some (.inl shr), some (.inl w), some (.inl (vX s 3 w)), none] [.inl (swF (vX s) A B w)] (WW s) 0 0
                  refine rb_istore hV (L2 := [some (.inr (some 0)), some (.inl (s 107 0)), some (.inl (s 103 0)), some (.inl next), some (.inl dem), some (.inl line), some (.inl A), some (.inl B), some (.inl last), some (.inl (df (vX s) A B)), some (.inl (bd (vX s) A B)), some (.inl (nat + (vX s 1 w))), some (.inl (wide + (vX s 1 w))), some (.inl (a13 + (vX s 1 w))), some (.inl str), some (.inl shr), some (.inl w), some (.inl (vX s 3 w)), some (.inl (swF (vX s) A B w))]) dL_lines_266 (Nat.le_of_ble_eq_true rfl) rfl ?_
                  refine rb_aload_n hV dL_lines_268 rfl rfl ?_
                  refine rb_iload hV dL_lines_269 rfl ?_
                  refine rb_iload hV dL_lines_271 rfl ?_
                  refine rb_iload hV dL_lines_273 rfl ?_
                  refine rb_isub hV dL_lines_275 ?_
                  refine rb_iconst hV dL_lines_276 ?_
                  refine rb_callV hV (rest := []) dL_lines_277 (c_X9_space s line (w - A) 1 (by unfold ab_r at *; omega) (by unfold ab_r at *; omega) (by unfold ab_r at *; omega) hx) lk_L_49 rfl (Or.inl ⟨8, _, TX9, 8, gw_0 _, rfl⟩) rfl ⟨rfl, rfl, (Nat.le_of_ble_eq_true rfl), (Nat.le_of_ble_eq_true rfl), (Nat.le_of_ble_eq_true rfl), (Nat.le_of_ble_eq_true rfl)⟩ (Nat.le_of_ble_eq_true rfl) (fun r9 h9 p9 => ?_)
                  obtain ⟨rfl, rfl⟩ : r9 = some (.inl ((bgF (vX s) (swF (vX s) A B) A w) + vX s 1 w)) ∧ h9 = WW s := ⟨p9.1.trans (congrArg (fun z : Int => (some (Sum.inl z) : Option ab_V)) es1), p9.2⟩
                  show V 280 [some (.inr (some 0)), some (.inl (s 107 0)), some (.inl (s 103 0)), some (.inl next), some (.inl dem), some (.inl line), some (.inl A), some (.inl B), some (.inl last), some (.inl (df (vX s) A B)), some (.inl (bd (vX s) A B)), some (.inl (nat + (vX s 1 w))), some (.inl (wide + (vX s 1 w))), some (.inl (a13 + (vX s 1 w))), some (.inl str), some (.inl shr), some (.inl w), some (.inl (vX s 3 w)), some (.inl (swF (vX s) A B w))] [.inl ((bgF (vX s) (swF (vX s) A B) A w) + vX s 1 w)] (WW s) 0 0
                  refine rb_iload hV dL_lines_280 rfl ?_
                  refine rb_icmp_ne hV (tgt := 382) dL_lines_282 (by decide) ⟨(by unfold ab_r at *; omega), (by unfold ab_r at *; omega)⟩ (fun c282 => absurd c282 (by omega)) (fun c282 => ?_)
                  refine rb_aload_n hV dL_lines_285 rfl rfl ?_
                  refine rb_iload hV dL_lines_286 rfl ?_
                  refine rb_iload hV dL_lines_288 rfl ?_
                  refine rb_iload hV dL_lines_290 rfl ?_
                  refine rb_isub hV dL_lines_292 ?_
                  refine rb_iconst hV dL_lines_293 ?_
                  refine rb_callV hV (rest := []) dL_lines_294 (c_X9_space s line (w - A) 2 (by unfold ab_r at *; omega) (by unfold ab_r at *; omega) (by unfold ab_r at *; omega) hx) lk_L_49 rfl (Or.inl ⟨8, _, TX9, 8, gw_0 _, rfl⟩) rfl ⟨rfl, rfl, (Nat.le_of_ble_eq_true rfl), (Nat.le_of_ble_eq_true rfl), (Nat.le_of_ble_eq_true rfl), (Nat.le_of_ble_eq_true rfl)⟩ (Nat.le_of_ble_eq_true rfl) (fun r9 h9 p9 => ?_)
                  obtain ⟨rfl, rfl⟩ : r9 = some (.inl (vX s 3 w)) ∧ h9 = WW s := ⟨p9.1.trans (congrArg (fun z : Int => (some (Sum.inl z) : Option ab_V)) es2), p9.2⟩
                  show V 297 [some (.inr (some 0)), some (.inl (s 107 0)), some (.inl (s 103 0)), some (.inl next), some (.inl dem), some (.inl line), some (.inl A), some (.inl B), some (.inl last), some (.inl (df (vX s) A B)), some (.inl (bd (vX s) A B)), some (.inl (nat + (vX s 1 w))), some (.inl (wide + (vX s 1 w))), some (.inl (a13 + (vX s 1 w))), some (.inl str), some (.inl shr), some (.inl w), some (.inl (vX s 3 w)), some (.inl (swF (vX s) A B w))] [.inl (vX s 3 w)] (WW s) 0 0
                  refine rb_iload hV dL_lines_297 rfl ?_
                  refine rb_icmp_ne hV (tgt := 382) dL_lines_299 (by decide) ⟨(by unfold ab_r at *; omega), (by unfold ab_r at *; omega)⟩ (fun c299 => absurd c299 (by omega)) (fun c299 => ?_)
                  refine rb_iload hV dL_lines_302 rfl ?_
                  refine rb_aload_n hV dL_lines_304 rfl rfl ?_
                  refine rb_iload hV dL_lines_305 rfl ?_
                  refine rb_iconst hV dL_lines_307 ?_
                  refine rb_callV hV (rest := [.inl (swF (vX s) A B w)]) dL_lines_308 (c_X9_spaceWidth s (vX s 3 w) 0 (by unfold ab_r at *; omega) (by unfold ab_r at *; omega) hx) lk_L_53 rfl (Or.inl ⟨8, _, TX9, 8, gw_0 _, rfl⟩) rfl ⟨rfl, rfl, (Nat.le_of_ble_eq_true rfl), (Nat.le_of_ble_eq_true rfl), (Nat.le_of_ble_eq_true rfl), (Nat.le_of_ble_eq_true rfl)⟩ (Nat.le_of_ble_eq_true rfl) (fun r9 h9 p9 => ?_)
                  obtain ⟨rfl, rfl⟩ : r9 = some (.inl (vX s 9 (vX s 3 w))) ∧ h9 = WW s := ⟨p9.1.trans (congrArg (fun z : Int => (some (Sum.inl z) : Option ab_V)) ek0), p9.2⟩
                  show V 311 [some (.inr (some 0)), some (.inl (s 107 0)), some (.inl (s 103 0)), some (.inl next), some (.inl dem), some (.inl line), some (.inl A), some (.inl B), some (.inl last), some (.inl (df (vX s) A B)), some (.inl (bd (vX s) A B)), some (.inl (nat + (vX s 1 w))), some (.inl (wide + (vX s 1 w))), some (.inl (a13 + (vX s 1 w))), some (.inl str), some (.inl shr), some (.inl w), some (.inl (vX s 3 w)), some (.inl (swF (vX s) A B w))] [.inl (vX s 9 (vX s 3 w)), .inl (swF (vX s) A B w)] (WW s) 0 0
                  refine rb_icmp_lt hV (tgt := 382) dL_lines_311 (by decide) ⟨(by unfold ab_r at *; omega), (by unfold ab_r at *; omega)⟩ (fun c311 => absurd c311 (by omega)) (fun c311 => ?_)
                  refine rb_iload hV dL_lines_314 rfl ?_
                  refine rb_aload_n hV dL_lines_316 rfl rfl ?_
                  refine rb_iload hV dL_lines_317 rfl ?_
                  refine rb_iconst hV dL_lines_319 ?_
                  refine rb_callV hV (rest := [.inl (swF (vX s) A B w)]) dL_lines_320 (c_X9_spaceWidth s (vX s 3 w) 2 (by unfold ab_r at *; omega) (by unfold ab_r at *; omega) hx) lk_L_53 rfl (Or.inl ⟨8, _, TX9, 8, gw_0 _, rfl⟩) rfl ⟨rfl, rfl, (Nat.le_of_ble_eq_true rfl), (Nat.le_of_ble_eq_true rfl), (Nat.le_of_ble_eq_true rfl), (Nat.le_of_ble_eq_true rfl)⟩ (Nat.le_of_ble_eq_true rfl) (fun r9 h9 p9 => ?_)
                  obtain ⟨rfl, rfl⟩ : r9 = some (.inl (vX s 11 (vX s 3 w))) ∧ h9 = WW s := ⟨p9.1.trans (congrArg (fun z : Int => (some (Sum.inl z) : Option ab_V)) ek2), p9.2⟩
                  show V 323 [some (.inr (some 0)), some (.inl (s 107 0)), some (.inl (s 103 0)), some (.inl next), some (.inl dem), some (.inl line), some (.inl A), some (.inl B), some (.inl last), some (.inl (df (vX s) A B)), some (.inl (bd (vX s) A B)), some (.inl (nat + (vX s 1 w))), some (.inl (wide + (vX s 1 w))), some (.inl (a13 + (vX s 1 w))), some (.inl str), some (.inl shr), some (.inl w), some (.inl (vX s 3 w)), some (.inl (swF (vX s) A B w))] [.inl (vX s 11 (vX s 3 w)), .inl (swF (vX s) A B w)] (WW s) 0 0
                  refine rb_icmp_gt hV (tgt := 382) dL_lines_323 (by decide) ⟨(by unfold ab_r at *; omega), (by unfold ab_r at *; omega)⟩ (fun c323 => absurd c323 (by omega)) (fun c323 => ?_)
                  have j384 : V 384 [some (.inr (some 0)), some (.inl (s 107 0)), some (.inl (s 103 0)), some (.inl next), some (.inl dem), some (.inl line), some (.inl A), some (.inl B), some (.inl last), some (.inl (df (vX s) A B)), some (.inl (bd (vX s) A B)), some (.inl (nat + (vX s 1 w))), some (.inl (wide + (vX s 1 w))), some (.inl (a13 + (vX s 1 w))), some (.inl str), some (.inl shr), some (.inl w), some (.inl (vX s 3 w)), some (.inl (swF (vX s) A B w))] [] (WW s) 0 0 := by
                    refine rb_iload hV dL_lines_384 rfl ?_
                    refine rb_aload_n hV dL_lines_386 rfl rfl ?_
                    refine rb_iload hV dL_lines_387 rfl ?_
                    refine rb_iconst hV dL_lines_389 ?_
                    refine rb_callV hV (rest := [.inl (nat + (vX s 1 w))]) dL_lines_390 (c_X9_spaceWidth s (vX s 3 w) 1 (by unfold ab_r at *; omega) (by unfold ab_r at *; omega) hx) lk_L_53 rfl (Or.inl ⟨8, _, TX9, 8, gw_0 _, rfl⟩) rfl ⟨rfl, rfl, (Nat.le_of_ble_eq_true rfl), (Nat.le_of_ble_eq_true rfl), (Nat.le_of_ble_eq_true rfl), (Nat.le_of_ble_eq_true rfl)⟩ (Nat.le_of_ble_eq_true rfl) (fun r9 h9 p9 => ?_)
                    obtain ⟨rfl, rfl⟩ : r9 = some (.inl (vX s 10 (vX s 3 w))) ∧ h9 = WW s := ⟨p9.1.trans (congrArg (fun z : Int => (some (Sum.inl z) : Option ab_V)) ek1), p9.2⟩
                    show V 393 [some (.inr (some 0)), some (.inl (s 107 0)), some (.inl (s 103 0)), some (.inl next), some (.inl dem), some (.inl line), some (.inl A), some (.inl B), some (.inl last), some (.inl (df (vX s) A B)), some (.inl (bd (vX s) A B)), some (.inl (nat + (vX s 1 w))), some (.inl (wide + (vX s 1 w))), some (.inl (a13 + (vX s 1 w))), some (.inl str), some (.inl shr), some (.inl w), some (.inl (vX s 3 w)), some (.inl (swF (vX s) A B w))] [.inl (vX s 10 (vX s 3 w)), .inl (nat + (vX s 1 w))] (WW s) 0 0
                    refine rb_iadd hV dL_lines_393 ?_
                    refine rb_istore hV (L2 := [some (.inr (some 0)), some (.inl (s 107 0)), some (.inl (s 103 0)), some (.inl next), some (.inl dem), some (.inl line), some (.inl A), some (.inl B), some (.inl last), some (.inl (df (vX s) A B)), some (.inl (bd (vX s) A B)), some (.inl ((nat + (vX s 1 w)) + (vX s 10 (vX s 3 w)))), some (.inl (wide + (vX s 1 w))), some (.inl (a13 + (vX s 1 w))), some (.inl str), some (.inl shr), some (.inl w), some (.inl (vX s 3 w)), some (.inl (swF (vX s) A B w))]) dL_lines_394 (Nat.le_of_ble_eq_true rfl) rfl ?_
                    refine rb_iload hV dL_lines_396 rfl ?_
                    refine rb_iload hV dL_lines_398 rfl ?_
                    refine rb_iadd hV dL_lines_400 ?_
                    refine rb_istore hV (L2 := [some (.inr (some 0)), some (.inl (s 107 0)), some (.inl (s 103 0)), some (.inl next), some (.inl dem), some (.inl line), some (.inl A), some (.inl B), some (.inl last), some (.inl (df (vX s) A B)), some (.inl (bd (vX s) A B)), some (.inl ((nat + (vX s 1 w)) + (vX s 10 (vX s 3 w)))), some (.inl ((wide + (vX s 1 w)) + (swF (vX s) A B w))), some (.inl (a13 + (vX s 1 w))), some (.inl str), some (.inl shr), some (.inl w), some (.inl (vX s 3 w)), some (.inl (swF (vX s) A B w))]) dL_lines_401 (Nat.le_of_ble_eq_true rfl) rfl ?_
                    refine rb_iload hV dL_lines_403 rfl ?_
                    refine rb_iload hV dL_lines_405 rfl ?_
                    refine rb_iadd hV dL_lines_407 ?_
                    refine rb_istore hV (L2 := [some (.inr (some 0)), some (.inl (s 107 0)), some (.inl (s 103 0)), some (.inl next), some (.inl dem), some (.inl line), some (.inl A), some (.inl B), some (.inl last), some (.inl (df (vX s) A B)), some (.inl (bd (vX s) A B)), some (.inl ((nat + (vX s 1 w)) + (vX s 10 (vX s 3 w)))), some (.inl ((wide + (vX s 1 w)) + (swF (vX s) A B w))), some (.inl ((a13 + (vX s 1 w)) + (swF (vX s) A B w))), some (.inl str), some (.inl shr), some (.inl w), some (.inl (vX s 3 w)), some (.inl (swF (vX s) A B w))]) dL_lines_408 (Nat.le_of_ble_eq_true rfl) rfl ?_
                    refine rb_iload hV dL_lines_410 rfl ?_
                    refine rb_aload_n hV dL_lines_412 rfl rfl ?_
                    refine rb_iload hV dL_lines_413 rfl ?_
                    refine rb_iconst hV dL_lines_415 ?_
                    refine rb_callV hV (rest := [.inl str]) dL_lines_416 (c_X9_spaceWidth s (vX s 3 w) 2 (by unfold ab_r at *; omega) (by unfold ab_r at *; omega) hx) lk_L_53 rfl (Or.inl ⟨8, _, TX9, 8, gw_0 _, rfl⟩) rfl ⟨rfl, rfl, (Nat.le_of_ble_eq_true rfl), (Nat.le_of_ble_eq_true rfl), (Nat.le_of_ble_eq_true rfl), (Nat.le_of_ble_eq_true rfl)⟩ (Nat.le_of_ble_eq_true rfl) (fun r9 h9 p9 => ?_)
                    obtain ⟨rfl, rfl⟩ : r9 = some (.inl (vX s 11 (vX s 3 w))) ∧ h9 = WW s := ⟨p9.1.trans (congrArg (fun z : Int => (some (Sum.inl z) : Option ab_V)) ek2), p9.2⟩
                    show V 419 [some (.inr (some 0)), some (.inl (s 107 0)), some (.inl (s 103 0)), some (.inl next), some (.inl dem), some (.inl line), some (.inl A), some (.inl B), some (.inl last), some (.inl (df (vX s) A B)), some (.inl (bd (vX s) A B)), some (.inl ((nat + (vX s 1 w)) + (vX s 10 (vX s 3 w)))), some (.inl ((wide + (vX s 1 w)) + (swF (vX s) A B w))), some (.inl ((a13 + (vX s 1 w)) + (swF (vX s) A B w))), some (.inl str), some (.inl shr), some (.inl w), some (.inl (vX s 3 w)), some (.inl (swF (vX s) A B w))] [.inl (vX s 11 (vX s 3 w)), .inl str] (WW s) 0 0
                    refine rb_aload_n hV dL_lines_419 rfl rfl ?_
                    refine rb_iload hV dL_lines_420 rfl ?_
                    refine rb_iconst hV dL_lines_422 ?_
                    refine rb_callV hV (rest := [.inl (vX s 11 (vX s 3 w)), .inl str]) dL_lines_423 (c_X9_spaceWidth s (vX s 3 w) 1 (by unfold ab_r at *; omega) (by unfold ab_r at *; omega) hx) lk_L_53 rfl (Or.inl ⟨8, _, TX9, 8, gw_0 _, rfl⟩) rfl ⟨rfl, rfl, (Nat.le_of_ble_eq_true rfl), (Nat.le_of_ble_eq_true rfl), (Nat.le_of_ble_eq_true rfl), (Nat.le_of_ble_eq_true rfl)⟩ (Nat.le_of_ble_eq_true rfl) (fun r9 h9 p9 => ?_)
                    obtain ⟨rfl, rfl⟩ : r9 = some (.inl (vX s 10 (vX s 3 w))) ∧ h9 = WW s := ⟨p9.1.trans (congrArg (fun z : Int => (some (Sum.inl z) : Option ab_V)) ek1), p9.2⟩
                    show V 426 [some (.inr (some 0)), some (.inl (s 107 0)), some (.inl (s 103 0)), some (.inl next), some (.inl dem), some (.inl line), some (.inl A), some (.inl B), some (.inl last), some (.inl (df (vX s) A B)), some (.inl (bd (vX s) A B)), some (.inl ((nat + (vX s 1 w)) + (vX s 10 (vX s 3 w)))), some (.inl ((wide + (vX s 1 w)) + (swF (vX s) A B w))), some (.inl ((a13 + (vX s 1 w)) + (swF (vX s) A B w))), some (.inl str), some (.inl shr), some (.inl w), some (.inl (vX s 3 w)), some (.inl (swF (vX s) A B w))] [.inl (vX s 10 (vX s 3 w)), .inl (vX s 11 (vX s 3 w)), .inl str] (WW s) 0 0
                    refine rb_isub hV dL_lines_426 ?_
                    refine rb_iadd hV dL_lines_427 ?_
                    refine rb_istore hV (L2 := [some (.inr (some 0)), some (.inl (s 107 0)), some (.inl (s 103 0)), some (.inl next), some (.inl dem), some (.inl line), some (.inl A), some (.inl B), some (.inl last), some (.inl (df (vX s) A B)), some (.inl (bd (vX s) A B)), some (.inl ((nat + (vX s 1 w)) + (vX s 10 (vX s 3 w)))), some (.inl ((wide + (vX s 1 w)) + (swF (vX s) A B w))), some (.inl ((a13 + (vX s 1 w)) + (swF (vX s) A B w))), some (.inl (str + ((vX s 11 (vX s 3 w)) - (vX s 10 (vX s 3 w))))), some (.inl shr), some (.inl w), some (.inl (vX s 3 w)), some (.inl (swF (vX s) A B w))]) dL_lines_428 (Nat.le_of_ble_eq_true rfl) rfl ?_
                    refine rb_iload hV dL_lines_430 rfl ?_
                    refine rb_aload_n hV dL_lines_432 rfl rfl ?_
                    refine rb_iload hV dL_lines_433 rfl ?_
                    refine rb_iconst hV dL_lines_435 ?_
                    refine rb_callV hV (rest := [.inl shr]) dL_lines_436 (c_X9_spaceWidth s (vX s 3 w) 1 (by unfold ab_r at *; omega) (by unfold ab_r at *; omega) hx) lk_L_53 rfl (Or.inl ⟨8, _, TX9, 8, gw_0 _, rfl⟩) rfl ⟨rfl, rfl, (Nat.le_of_ble_eq_true rfl), (Nat.le_of_ble_eq_true rfl), (Nat.le_of_ble_eq_true rfl), (Nat.le_of_ble_eq_true rfl)⟩ (Nat.le_of_ble_eq_true rfl) (fun r9 h9 p9 => ?_)
                    obtain ⟨rfl, rfl⟩ : r9 = some (.inl (vX s 10 (vX s 3 w))) ∧ h9 = WW s := ⟨p9.1.trans (congrArg (fun z : Int => (some (Sum.inl z) : Option ab_V)) ek1), p9.2⟩
                    show V 439 [some (.inr (some 0)), some (.inl (s 107 0)), some (.inl (s 103 0)), some (.inl next), some (.inl dem), some (.inl line), some (.inl A), some (.inl B), some (.inl last), some (.inl (df (vX s) A B)), some (.inl (bd (vX s) A B)), some (.inl ((nat + (vX s 1 w)) + (vX s 10 (vX s 3 w)))), some (.inl ((wide + (vX s 1 w)) + (swF (vX s) A B w))), some (.inl ((a13 + (vX s 1 w)) + (swF (vX s) A B w))), some (.inl (str + ((vX s 11 (vX s 3 w)) - (vX s 10 (vX s 3 w))))), some (.inl shr), some (.inl w), some (.inl (vX s 3 w)), some (.inl (swF (vX s) A B w))] [.inl (vX s 10 (vX s 3 w)), .inl shr] (WW s) 0 0
                    refine rb_aload_n hV dL_lines_439 rfl rfl ?_
                    refine rb_iload hV dL_lines_440 rfl ?_
                    refine rb_iconst hV dL_lines_442 ?_
                    refine rb_callV hV (rest := [.inl (vX s 10 (vX s 3 w)), .inl shr]) dL_lines_443 (c_X9_spaceWidth s (vX s 3 w) 0 (by unfold ab_r at *; omega) (by unfold ab_r at *; omega) hx) lk_L_53 rfl (Or.inl ⟨8, _, TX9, 8, gw_0 _, rfl⟩) rfl ⟨rfl, rfl, (Nat.le_of_ble_eq_true rfl), (Nat.le_of_ble_eq_true rfl), (Nat.le_of_ble_eq_true rfl), (Nat.le_of_ble_eq_true rfl)⟩ (Nat.le_of_ble_eq_true rfl) (fun r9 h9 p9 => ?_)
                    obtain ⟨rfl, rfl⟩ : r9 = some (.inl (vX s 9 (vX s 3 w))) ∧ h9 = WW s := ⟨p9.1.trans (congrArg (fun z : Int => (some (Sum.inl z) : Option ab_V)) ek0), p9.2⟩
                    show V 446 [some (.inr (some 0)), some (.inl (s 107 0)), some (.inl (s 103 0)), some (.inl next), some (.inl dem), some (.inl line), some (.inl A), some (.inl B), some (.inl last), some (.inl (df (vX s) A B)), some (.inl (bd (vX s) A B)), some (.inl ((nat + (vX s 1 w)) + (vX s 10 (vX s 3 w)))), some (.inl ((wide + (vX s 1 w)) + (swF (vX s) A B w))), some (.inl ((a13 + (vX s 1 w)) + (swF (vX s) A B w))), some (.inl (str + ((vX s 11 (vX s 3 w)) - (vX s 10 (vX s 3 w))))), some (.inl shr), some (.inl w), some (.inl (vX s 3 w)), some (.inl (swF (vX s) A B w))] [.inl (vX s 9 (vX s 3 w)), .inl (vX s 10 (vX s 3 w)), .inl shr] (WW s) 0 0
                    refine rb_isub hV dL_lines_446 ?_
                    refine rb_iadd hV dL_lines_447 ?_
                    refine rb_istore hV (L2 := [some (.inr (some 0)), some (.inl (s 107 0)), some (.inl (s 103 0)), some (.inl next), some (.inl dem), some (.inl line), some (.inl A), some (.inl B), some (.inl last), some (.inl (df (vX s) A B)), some (.inl (bd (vX s) A B)), some (.inl ((nat + (vX s 1 w)) + (vX s 10 (vX s 3 w)))), some (.inl ((wide + (vX s 1 w)) + (swF (vX s) A B w))), some (.inl ((a13 + (vX s 1 w)) + (swF (vX s) A B w))), some (.inl (str + ((vX s 11 (vX s 3 w)) - (vX s 10 (vX s 3 w))))), some (.inl (shr + ((vX s 10 (vX s 3 w)) - (vX s 9 (vX s 3 w))))), some (.inl w), some (.inl (vX s 3 w)), some (.inl (swF (vX s) A B w))]) dL_lines_448 (Nat.le_of_ble_eq_true rfl) rfl ?_
                    refine rb_iinc hV (L2 := [some (.inr (some 0)), some (.inl (s 107 0)), some (.inl (s 103 0)), some (.inl next), some (.inl dem), some (.inl line), some (.inl A), some (.inl B), some (.inl last), some (.inl (df (vX s) A B)), some (.inl (bd (vX s) A B)), some (.inl ((nat + (vX s 1 w)) + (vX s 10 (vX s 3 w)))), some (.inl ((wide + (vX s 1 w)) + (swF (vX s) A B w))), some (.inl ((a13 + (vX s 1 w)) + (swF (vX s) A B w))), some (.inl (str + ((vX s 11 (vX s 3 w)) - (vX s 10 (vX s 3 w))))), some (.inl (shr + ((vX s 10 (vX s 3 w)) - (vX s 9 (vX s 3 w))))), some (.inl (w + 1)), some (.inl (vX s 3 w)), some (.inl (swF (vX s) A B w))]) dL_lines_450 rfl rfl rfl ?_
                    refine rb_goto hV (tgt := 170) dL_lines_453 (by decide) ?_
                    refine rb_weak hV (L2 := [some (.inr (some 0)), some (.inl (s 107 0)), some (.inl (s 103 0)), some (.inl next), some (.inl dem), some (.inl line), some (.inl A), some (.inl B), some (.inl last), some (.inl (df (vX s) A B)), some (.inl (bd (vX s) A B)), some (.inl ((nat + (vX s 1 w)) + (vX s 10 (vX s 3 w)))), some (.inl ((wide + (vX s 1 w)) + (swF (vX s) A B w))), some (.inl ((a13 + (vX s 1 w)) + (swF (vX s) A B w))), some (.inl (str + ((vX s 11 (vX s 3 w)) - (vX s 10 (vX s 3 w))))), some (.inl (shr + ((vX s 10 (vX s 3 w)) - (vX s 9 (vX s 3 w))))), some (.inl (w + 1)), none, none]) ⟨rfl, ⟨rfl, ⟨rfl, ⟨rfl, ⟨rfl, ⟨rfl, ⟨rfl, ⟨rfl, ⟨rfl, ⟨rfl, ⟨rfl, ⟨rfl, ⟨rfl, ⟨rfl, ⟨rfl, ⟨rfl, ⟨rfl, trivial⟩⟩⟩⟩⟩⟩⟩⟩⟩⟩⟩⟩⟩⟩⟩⟩⟩ ?_
                    refine ih170 ((nat + (vX s 1 w)) + (vX s 10 (vX s 3 w))) ((wide + (vX s 1 w)) + (swF (vX s) A B w)) ((a13 + (vX s 1 w)) + (swF (vX s) A B w)) (str + ((vX s 11 (vX s 3 w)) - (vX s 10 (vX s 3 w)))) (shr + ((vX s 10 (vX s 3 w)) - (vX s 9 (vX s 3 w)))) (w + 1) ?_ ?_ ?_ ?_ ?_ ?_ ?_
                    · omega
                    · omega
                    · omega
                    · intro _
                      rw [bgF_s _ _ hw.1]
                      omega
                    · omega
                    · omega
                    · omega
                  refine rb_iload hV dL_lines_326 rfl ?_
                  refine rb_if_le hV (tgt := 343) dL_lines_328 (by decide) (by unfold ab_r at *; omega) (fun c328 => ?_) (fun c328 => ?_)
                  · refine rb_iload hV dL_lines_343 rfl ?_
                    refine rb_if_ge hV (tgt := 360) dL_lines_345 (by decide) (by unfold ab_r at *; omega) (fun c345 => ?_) (fun c345 => ?_)
                    · refine rb_iload hV dL_lines_360 rfl ?_
                      refine rb_if_eq hV (tgt := 384) dL_lines_362 (by decide) (by unfold ab_r at *; omega) (fun c362 => ?_) (fun c362 => ?_)
                      · refine j384 
                      · refine rb_iload hV dL_lines_365 rfl ?_
                        refine rb_if_lt hV (tgt := 384) dL_lines_367 (by decide) (by unfold ab_r at *; omega) (fun c367 => ?_) (fun c367 => ?_)
                        · refine j384 
                        · refine rb_iload hV dL_lines_370 rfl ?_
                          refine rb_aload_n hV dL_lines_372 rfl rfl ?_
                          refine rb_iload hV dL_lines_373 rfl ?_
                          refine rb_iconst hV dL_lines_375 ?_
                          refine rb_callV hV (rest := [.inl (swF (vX s) A B w)]) dL_lines_376 (c_X9_spaceWidth s (vX s 3 w) 1 (by unfold ab_r at *; omega) (by unfold ab_r at *; omega) hx) lk_L_53 rfl (Or.inl ⟨8, _, TX9, 8, gw_0 _, rfl⟩) rfl ⟨rfl, rfl, (Nat.le_of_ble_eq_true rfl), (Nat.le_of_ble_eq_true rfl), (Nat.le_of_ble_eq_true rfl), (Nat.le_of_ble_eq_true rfl)⟩ (Nat.le_of_ble_eq_true rfl) (fun r9 h9 p9 => ?_)
                          obtain ⟨rfl, rfl⟩ : r9 = some (.inl (vX s 10 (vX s 3 w))) ∧ h9 = WW s := ⟨p9.1.trans (congrArg (fun z : Int => (some (Sum.inl z) : Option ab_V)) ek1), p9.2⟩
                          show V 379 [some (.inr (some 0)), some (.inl (s 107 0)), some (.inl (s 103 0)), some (.inl next), some (.inl dem), some (.inl line), some (.inl A), some (.inl B), some (.inl last), some (.inl (df (vX s) A B)), some (.inl (bd (vX s) A B)), some (.inl (nat + (vX s 1 w))), some (.inl (wide + (vX s 1 w))), some (.inl (a13 + (vX s 1 w))), some (.inl str), some (.inl shr), some (.inl w), some (.inl (vX s 3 w)), some (.inl (swF (vX s) A B w))] [.inl (vX s 10 (vX s 3 w)), .inl (swF (vX s) A B w)] (WW s) 0 0
                          refine rb_icmp_eq hV (tgt := 384) dL_lines_379 (by decide) ⟨(by unfold ab_r at *; omega), (by unfold ab_r at *; omega)⟩ (fun c379 => ?_) (fun c379 => absurd c379 (by omega))
                          refine j384 
                    · refine rb_iload hV dL_lines_348 rfl ?_
                      refine rb_aload_n hV dL_lines_350 rfl rfl ?_
                      refine rb_iload hV dL_lines_351 rfl ?_
                      refine rb_iconst hV dL_lines_353 ?_
                      refine rb_callV hV (rest := [.inl (swF (vX s) A B w)]) dL_lines_354 (c_X9_spaceWidth s (vX s 3 w) 1 (by unfold ab_r at *; omega) (by unfold ab_r at *; omega) hx) lk_L_53 rfl (Or.inl ⟨8, _, TX9, 8, gw_0 _, rfl⟩) rfl ⟨rfl, rfl, (Nat.le_of_ble_eq_true rfl), (Nat.le_of_ble_eq_true rfl), (Nat.le_of_ble_eq_true rfl), (Nat.le_of_ble_eq_true rfl)⟩ (Nat.le_of_ble_eq_true rfl) (fun r9 h9 p9 => ?_)
                      obtain ⟨rfl, rfl⟩ : r9 = some (.inl (vX s 10 (vX s 3 w))) ∧ h9 = WW s := ⟨p9.1.trans (congrArg (fun z : Int => (some (Sum.inl z) : Option ab_V)) ek1), p9.2⟩
                      show V 357 [some (.inr (some 0)), some (.inl (s 107 0)), some (.inl (s 103 0)), some (.inl next), some (.inl dem), some (.inl line), some (.inl A), some (.inl B), some (.inl last), some (.inl (df (vX s) A B)), some (.inl (bd (vX s) A B)), some (.inl (nat + (vX s 1 w))), some (.inl (wide + (vX s 1 w))), some (.inl (a13 + (vX s 1 w))), some (.inl str), some (.inl shr), some (.inl w), some (.inl (vX s 3 w)), some (.inl (swF (vX s) A B w))] [.inl (vX s 10 (vX s 3 w)), .inl (swF (vX s) A B w)] (WW s) 0 0
                      refine rb_icmp_gt hV (tgt := 382) dL_lines_357 (by decide) ⟨(by unfold ab_r at *; omega), (by unfold ab_r at *; omega)⟩ (fun c357 => absurd c357 (by omega)) (fun c357 => ?_)
                      refine rb_iload hV dL_lines_360 rfl ?_
                      refine rb_if_eq hV (tgt := 384) dL_lines_362 (by decide) (by unfold ab_r at *; omega) (fun c362 => ?_) (fun c362 => ?_)
                      · refine j384 
                      · refine rb_iload hV dL_lines_365 rfl ?_
                        refine rb_if_lt hV (tgt := 384) dL_lines_367 (by decide) (by unfold ab_r at *; omega) (fun c367 => ?_) (fun c367 => ?_)
                        · refine j384 
                        · refine rb_iload hV dL_lines_370 rfl ?_
                          refine rb_aload_n hV dL_lines_372 rfl rfl ?_
                          refine rb_iload hV dL_lines_373 rfl ?_
                          refine rb_iconst hV dL_lines_375 ?_
                          refine rb_callV hV (rest := [.inl (swF (vX s) A B w)]) dL_lines_376 (c_X9_spaceWidth s (vX s 3 w) 1 (by unfold ab_r at *; omega) (by unfold ab_r at *; omega) hx) lk_L_53 rfl (Or.inl ⟨8, _, TX9, 8, gw_0 _, rfl⟩) rfl ⟨rfl, rfl, (Nat.le_of_ble_eq_true rfl), (Nat.le_of_ble_eq_true rfl), (Nat.le_of_ble_eq_true rfl), (Nat.le_of_ble_eq_true rfl)⟩ (Nat.le_of_ble_eq_true rfl) (fun r9 h9 p9 => ?_)
                          obtain ⟨rfl, rfl⟩ : r9 = some (.inl (vX s 10 (vX s 3 w))) ∧ h9 = WW s := ⟨p9.1.trans (congrArg (fun z : Int => (some (Sum.inl z) : Option ab_V)) ek1), p9.2⟩
                          show V 379 [some (.inr (some 0)), some (.inl (s 107 0)), some (.inl (s 103 0)), some (.inl next), some (.inl dem), some (.inl line), some (.inl A), some (.inl B), some (.inl last), some (.inl (df (vX s) A B)), some (.inl (bd (vX s) A B)), some (.inl (nat + (vX s 1 w))), some (.inl (wide + (vX s 1 w))), some (.inl (a13 + (vX s 1 w))), some (.inl str), some (.inl shr), some (.inl w), some (.inl (vX s 3 w)), some (.inl (swF (vX s) A B w))] [.inl (vX s 10 (vX s 3 w)), .inl (swF (vX s) A B w)] (WW s) 0 0
                          refine rb_icmp_eq hV (tgt := 384) dL_lines_379 (by decide) ⟨(by unfold ab_r at *; omega), (by unfold ab_r at *; omega)⟩ (fun c379 => ?_) (fun c379 => absurd c379 (by omega))
                          refine j384 
                  · refine rb_iload hV dL_lines_331 rfl ?_
                    refine rb_aload_n hV dL_lines_333 rfl rfl ?_
                    refine rb_iload hV dL_lines_334 rfl ?_
                    refine rb_iconst hV dL_lines_336 ?_
                    refine rb_callV hV (rest := [.inl (swF (vX s) A B w)]) dL_lines_337 (c_X9_spaceWidth s (vX s 3 w) 1 (by unfold ab_r at *; omega) (by unfold ab_r at *; omega) hx) lk_L_53 rfl (Or.inl ⟨8, _, TX9, 8, gw_0 _, rfl⟩) rfl ⟨rfl, rfl, (Nat.le_of_ble_eq_true rfl), (Nat.le_of_ble_eq_true rfl), (Nat.le_of_ble_eq_true rfl), (Nat.le_of_ble_eq_true rfl)⟩ (Nat.le_of_ble_eq_true rfl) (fun r9 h9 p9 => ?_)
                    obtain ⟨rfl, rfl⟩ : r9 = some (.inl (vX s 10 (vX s 3 w))) ∧ h9 = WW s := ⟨p9.1.trans (congrArg (fun z : Int => (some (Sum.inl z) : Option ab_V)) ek1), p9.2⟩
                    show V 340 [some (.inr (some 0)), some (.inl (s 107 0)), some (.inl (s 103 0)), some (.inl next), some (.inl dem), some (.inl line), some (.inl A), some (.inl B), some (.inl last), some (.inl (df (vX s) A B)), some (.inl (bd (vX s) A B)), some (.inl (nat + (vX s 1 w))), some (.inl (wide + (vX s 1 w))), some (.inl (a13 + (vX s 1 w))), some (.inl str), some (.inl shr), some (.inl w), some (.inl (vX s 3 w)), some (.inl (swF (vX s) A B w))] [.inl (vX s 10 (vX s 3 w)), .inl (swF (vX s) A B w)] (WW s) 0 0
                    refine rb_icmp_lt hV (tgt := 382) dL_lines_340 (by decide) ⟨(by unfold ab_r at *; omega), (by unfold ab_r at *; omega)⟩ (fun c340 => absurd c340 (by omega)) (fun c340 => ?_)
                    refine rb_iload hV dL_lines_343 rfl ?_
                    refine rb_if_ge hV (tgt := 360) dL_lines_345 (by decide) (by unfold ab_r at *; omega) (fun c345 => ?_) (fun c345 => ?_)
                    · refine rb_iload hV dL_lines_360 rfl ?_
                      refine rb_if_eq hV (tgt := 384) dL_lines_362 (by decide) (by unfold ab_r at *; omega) (fun c362 => ?_) (fun c362 => ?_)
                      · refine j384 
                      · refine rb_iload hV dL_lines_365 rfl ?_
                        refine rb_if_lt hV (tgt := 384) dL_lines_367 (by decide) (by unfold ab_r at *; omega) (fun c367 => ?_) (fun c367 => ?_)
                        · refine j384 
                        · refine rb_iload hV dL_lines_370 rfl ?_
                          refine rb_aload_n hV dL_lines_372 rfl rfl ?_
                          refine rb_iload hV dL_lines_373 rfl ?_
                          refine rb_iconst hV dL_lines_375 ?_
                          refine rb_callV hV (rest := [.inl (swF (vX s) A B w)]) dL_lines_376 (c_X9_spaceWidth s (vX s 3 w) 1 (by unfold ab_r at *; omega) (by unfold ab_r at *; omega) hx) lk_L_53 rfl (Or.inl ⟨8, _, TX9, 8, gw_0 _, rfl⟩) rfl ⟨rfl, rfl, (Nat.le_of_ble_eq_true rfl), (Nat.le_of_ble_eq_true rfl), (Nat.le_of_ble_eq_true rfl), (Nat.le_of_ble_eq_true rfl)⟩ (Nat.le_of_ble_eq_true rfl) (fun r9 h9 p9 => ?_)
                          obtain ⟨rfl, rfl⟩ : r9 = some (.inl (vX s 10 (vX s 3 w))) ∧ h9 = WW s := ⟨p9.1.trans (congrArg (fun z : Int => (some (Sum.inl z) : Option ab_V)) ek1), p9.2⟩
                          show V 379 [some (.inr (some 0)), some (.inl (s 107 0)), some (.inl (s 103 0)), some (.inl next), some (.inl dem), some (.inl line), some (.inl A), some (.inl B), some (.inl last), some (.inl (df (vX s) A B)), some (.inl (bd (vX s) A B)), some (.inl (nat + (vX s 1 w))), some (.inl (wide + (vX s 1 w))), some (.inl (a13 + (vX s 1 w))), some (.inl str), some (.inl shr), some (.inl w), some (.inl (vX s 3 w)), some (.inl (swF (vX s) A B w))] [.inl (vX s 10 (vX s 3 w)), .inl (swF (vX s) A B w)] (WW s) 0 0
                          refine rb_icmp_eq hV (tgt := 384) dL_lines_379 (by decide) ⟨(by unfold ab_r at *; omega), (by unfold ab_r at *; omega)⟩ (fun c379 => ?_) (fun c379 => absurd c379 (by omega))
                          refine j384 
                    · refine rb_iload hV dL_lines_348 rfl ?_
                      refine rb_aload_n hV dL_lines_350 rfl rfl ?_
                      refine rb_iload hV dL_lines_351 rfl ?_
                      refine rb_iconst hV dL_lines_353 ?_
                      refine rb_callV hV (rest := [.inl (swF (vX s) A B w)]) dL_lines_354 (c_X9_spaceWidth s (vX s 3 w) 1 (by unfold ab_r at *; omega) (by unfold ab_r at *; omega) hx) lk_L_53 rfl (Or.inl ⟨8, _, TX9, 8, gw_0 _, rfl⟩) rfl ⟨rfl, rfl, (Nat.le_of_ble_eq_true rfl), (Nat.le_of_ble_eq_true rfl), (Nat.le_of_ble_eq_true rfl), (Nat.le_of_ble_eq_true rfl)⟩ (Nat.le_of_ble_eq_true rfl) (fun r9 h9 p9 => ?_)
                      obtain ⟨rfl, rfl⟩ : r9 = some (.inl (vX s 10 (vX s 3 w))) ∧ h9 = WW s := ⟨p9.1.trans (congrArg (fun z : Int => (some (Sum.inl z) : Option ab_V)) ek1), p9.2⟩
                      show V 357 [some (.inr (some 0)), some (.inl (s 107 0)), some (.inl (s 103 0)), some (.inl next), some (.inl dem), some (.inl line), some (.inl A), some (.inl B), some (.inl last), some (.inl (df (vX s) A B)), some (.inl (bd (vX s) A B)), some (.inl (nat + (vX s 1 w))), some (.inl (wide + (vX s 1 w))), some (.inl (a13 + (vX s 1 w))), some (.inl str), some (.inl shr), some (.inl w), some (.inl (vX s 3 w)), some (.inl (swF (vX s) A B w))] [.inl (vX s 10 (vX s 3 w)), .inl (swF (vX s) A B w)] (WW s) 0 0
                      refine rb_icmp_gt hV (tgt := 382) dL_lines_357 (by decide) ⟨(by unfold ab_r at *; omega), (by unfold ab_r at *; omega)⟩ (fun c357 => absurd c357 (by omega)) (fun c357 => ?_)
                      refine rb_iload hV dL_lines_360 rfl ?_
                      refine rb_if_eq hV (tgt := 384) dL_lines_362 (by decide) (by unfold ab_r at *; omega) (fun c362 => ?_) (fun c362 => ?_)
                      · refine j384 
                      · refine rb_iload hV dL_lines_365 rfl ?_
                        refine rb_if_lt hV (tgt := 384) dL_lines_367 (by decide) (by unfold ab_r at *; omega) (fun c367 => ?_) (fun c367 => ?_)
                        · refine j384 
                        · refine rb_iload hV dL_lines_370 rfl ?_
                          refine rb_aload_n hV dL_lines_372 rfl rfl ?_
                          refine rb_iload hV dL_lines_373 rfl ?_
                          refine rb_iconst hV dL_lines_375 ?_
                          refine rb_callV hV (rest := [.inl (swF (vX s) A B w)]) dL_lines_376 (c_X9_spaceWidth s (vX s 3 w) 1 (by unfold ab_r at *; omega) (by unfold ab_r at *; omega) hx) lk_L_53 rfl (Or.inl ⟨8, _, TX9, 8, gw_0 _, rfl⟩) rfl ⟨rfl, rfl, (Nat.le_of_ble_eq_true rfl), (Nat.le_of_ble_eq_true rfl), (Nat.le_of_ble_eq_true rfl), (Nat.le_of_ble_eq_true rfl)⟩ (Nat.le_of_ble_eq_true rfl) (fun r9 h9 p9 => ?_)
                          obtain ⟨rfl, rfl⟩ : r9 = some (.inl (vX s 10 (vX s 3 w))) ∧ h9 = WW s := ⟨p9.1.trans (congrArg (fun z : Int => (some (Sum.inl z) : Option ab_V)) ek1), p9.2⟩
                          show V 379 [some (.inr (some 0)), some (.inl (s 107 0)), some (.inl (s 103 0)), some (.inl next), some (.inl dem), some (.inl line), some (.inl A), some (.inl B), some (.inl last), some (.inl (df (vX s) A B)), some (.inl (bd (vX s) A B)), some (.inl (nat + (vX s 1 w))), some (.inl (wide + (vX s 1 w))), some (.inl (a13 + (vX s 1 w))), some (.inl str), some (.inl shr), some (.inl w), some (.inl (vX s 3 w)), some (.inl (swF (vX s) A B w))] [.inl (vX s 10 (vX s 3 w)), .inl (swF (vX s) A B w)] (WW s) 0 0
                          refine rb_icmp_eq hV (tgt := 384) dL_lines_379 (by decide) ⟨(by unfold ab_r at *; omega), (by unfold ab_r at *; omega)⟩ (fun c379 => ?_) (fun c379 => absurd c379 (by omega))
                          refine j384 
          refine h170 _ ((-(hL (vX s) A)) - (hR (vX s) B)) ((-(hL (vX s) A)) - (hR (vX s) B)) (-(hL (vX s) A)) 0 0 A ?_ ?_ ?_ ?_ ?_ ?_ (Nat.lt_succ_self _)
          · omega
          · omega
          · omega
          · intro _
            rw [bgF_0]
          · omega
          · omega
        refine rb_iload hV dL_lines_44 rfl ?_
        refine rb_iload_n hV dL_lines_46 rfl rfl ?_
        refine rb_iconst hV dL_lines_47 ?_
        refine rb_isub hV dL_lines_48 ?_
        refine rb_icmp_ne hV (tgt := 56) dL_lines_49 (by decide) ⟨(by unfold ab_r at *; omega), (by unfold ab_r at *; omega)⟩ (fun c49 => ?_) (fun c49 => ?_)
        · refine rb_iconst hV dL_lines_56 ?_
          refine j57 0 ?_
          · exact Or.inr ⟨rfl, by omega⟩
        · refine rb_iconst hV dL_lines_52 ?_
          refine rb_goto hV (tgt := 57) dL_lines_53 (by decide) ?_
          refine j57 1 ?_
          · exact Or.inl ⟨rfl, by omega⟩
  refine h20 _ 0 0 0 ?_ ?_ ?_ (Nat.lt_succ_self _)
  · omega
  · exact Or.inl ⟨rfl, rfl⟩
  · exact (Sm_self _ 0).symm
