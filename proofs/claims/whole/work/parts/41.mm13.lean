/-! the reference: a command -/
set_option maxRecDepth 20000 in
theorem c_X10_nextPiece_n (s : Nat → Int → Int) (x : Int) (hf : 0 ≤ s 124 0 ∧ s 124 0 ≤ 121) : ab_Mt yX10_nextPiece cX10_nextPiece 2 none ({ frames := 0, cells := 0, slots := 0, locals := 0 } : Room) false 0 0 [.inr (some 49), .inl x] (WW s) (fun r h2 => r = none ∧ h2 = WW s) := by
  refine ab_mk RX10 false rfl pn_X10_nextPiece (fun z => by cases z) (Nat.le_of_ble_eq_true rfl) (fun V hV => ?_)
  show V 0 [some (.inr (some 49)), some (.inl x)] [] (WW s) 0 0
  refine rb_aload_n hV dX10_nextPiece_0 rfl rfl ?_
  refine rb_get hV (v := .inl (s 124 0)) dX10_nextPiece_1 ⟨RX10, TX10, 24, rfl, (Nat.le_of_ble_eq_true rfl), lf_X10_100⟩ (gw_49 _) rfl ?_
  refine rb_if_lt hV (tgt := 8) dX10_nextPiece_4 (by decide) (by unfold ab_r at *; omega) (fun c4 => absurd c4 (by omega)) (fun c4 => ?_)
  refine rb_ret hV (r := none) dX10_nextPiece_7 rfl ⟨(Nat.le_of_ble_eq_true rfl), (Nat.le_of_ble_eq_true rfl)⟩ trivial ?_
  exact ⟨rfl, rfl⟩

set_option maxRecDepth 20000 in
theorem c_X10_number_n (s : Nat → Int → Int) (lo hi : Int) (hf : 0 ≤ s 124 0 ∧ s 124 0 ≤ 121) (h1 : 0 ≤ s 122 0 ∧ s 122 0 ≤ 121) (h2 : 0 ≤ s 123 0 ∧ s 123 0 ≤ 121) : ab_Mt yX10_number cX10_number 5 (some .int) ({ frames := 1, cells := 0, slots := 0, locals := 22 } : Room) false 0 0 [.inr (some 49), .inl lo, .inl hi] (WW s) (fun r h2 => r = some (.inl 0) ∧ h2 = WW s) := by
  refine ab_mk RX10 false rfl pn_X10_number (fun z => by cases z) (Nat.le_of_ble_eq_true rfl) (fun V hV => ?_)
  show V 0 [some (.inr (some 49)), some (.inl lo), some (.inl hi), none, none] [] (WW s) 0 0
  refine rb_aload_n hV dX10_number_0 rfl rfl ?_
  refine rb_iconst hV dX10_number_1 ?_
  refine rb_callV hV (rest := []) dX10_number_2 (c_X10_nextPiece_n s 0 hf) lk_X10_109 rfl (Or.inl ⟨9, _, TX10, 24, gw_49 _, rfl⟩) rfl ⟨rfl, rfl, (Nat.le_of_ble_eq_true rfl), (Nat.le_of_ble_eq_true rfl), (Nat.le_of_ble_eq_true rfl), (Nat.le_of_ble_eq_true rfl)⟩ (Nat.le_of_ble_eq_true rfl) (fun r9 h9 p9 => ?_)
  obtain ⟨rfl, rfl⟩ := p9
  show V 5 [some (.inr (some 49)), some (.inl lo), some (.inl hi), none, none] [] (WW s) 0 0
  refine rb_iconst hV dX10_number_5 ?_
  refine rb_istore_n hV (L2 := [some (.inr (some 49)), some (.inl lo), some (.inl hi), some (.inl 0), none]) dX10_number_6 rfl (Nat.le_of_ble_eq_true rfl) rfl ?_
  refine rb_aload_n hV dX10_number_7 rfl rfl ?_
  refine rb_get hV (v := .inl (s 122 0)) dX10_number_8 ⟨RX10, TX10, 24, rfl, (Nat.le_of_ble_eq_true rfl), lf_X10_106⟩ (gw_49 _) rfl ?_
  refine rb_istore hV (L2 := [some (.inr (some 49)), some (.inl lo), some (.inl hi), some (.inl 0), some (.inl (s 122 0))]) dX10_number_11 (Nat.le_of_ble_eq_true rfl) rfl ?_
  refine rb_iload hV dX10_number_13 rfl ?_
  refine rb_aload_n hV dX10_number_15 rfl rfl ?_
  refine rb_get hV (v := .inl (s 123 0)) dX10_number_16 ⟨RX10, TX10, 24, rfl, (Nat.le_of_ble_eq_true rfl), lf_X10_103⟩ (gw_49 _) rfl ?_
  refine rb_icmp_ge hV (tgt := 93) dX10_number_19 (by decide) ⟨(by unfold ab_r at *; omega), (by unfold ab_r at *; omega)⟩ (fun c19 => ?_) (fun c19 => ?_)
  · refine rb_aload_n hV dX10_number_93 rfl rfl ?_
    refine rb_get hV (v := .inl (s 124 0)) dX10_number_94 ⟨RX10, TX10, 24, rfl, (Nat.le_of_ble_eq_true rfl), lf_X10_100⟩ (gw_49 _) rfl ?_
    refine rb_if_ge hV (tgt := 117) dX10_number_97 (by decide) (by unfold ab_r at *; omega) (fun c97 => ?_) (fun c97 => absurd c97 (by omega))
    refine rb_iload_n hV dX10_number_117 rfl rfl ?_
    refine rb_ret hV (r := some (.inl 0)) dX10_number_118 rfl ⟨(Nat.le_of_ble_eq_true rfl), (Nat.le_of_ble_eq_true rfl)⟩ trivial ?_
    exact ⟨rfl, rfl⟩
  · refine rb_aload_n hV dX10_number_22 rfl rfl ?_
    refine rb_get hV (v := .inl (s 124 0)) dX10_number_23 ⟨RX10, TX10, 24, rfl, (Nat.le_of_ble_eq_true rfl), lf_X10_100⟩ (gw_49 _) rfl ?_
    refine rb_if_ge hV (tgt := 93) dX10_number_26 (by decide) (by unfold ab_r at *; omega) (fun c26 => ?_) (fun c26 => absurd c26 (by omega))
    refine rb_aload_n hV dX10_number_93 rfl rfl ?_
    refine rb_get hV (v := .inl (s 124 0)) dX10_number_94 ⟨RX10, TX10, 24, rfl, (Nat.le_of_ble_eq_true rfl), lf_X10_100⟩ (gw_49 _) rfl ?_
    refine rb_if_ge hV (tgt := 117) dX10_number_97 (by decide) (by unfold ab_r at *; omega) (fun c97 => ?_) (fun c97 => absurd c97 (by omega))
    refine rb_iload_n hV dX10_number_117 rfl rfl ?_
    refine rb_ret hV (r := some (.inl 0)) dX10_number_118 rfl ⟨(Nat.le_of_ble_eq_true rfl), (Nat.le_of_ble_eq_true rfl)⟩ trivial ?_
    exact ⟨rfl, rfl⟩

def KDR (t : Int → Int) (n b0 v b c : Int) : Prop := (b0 = n ∧ c = n) ∨ (b0 < n ∧ kdn t n (b0 + 1) (eo t (b0 + 1) (n - (b0 + 1)).toNat) = -1 ∧ c = b0 + 1) ∨ (b0 < n ∧ ¬ kdn t n (b0 + 1) (eo t (b0 + 1) (n - (b0 + 1)).toNat) = -1 ∧ v = kdn t n (b0 + 1) (eo t (b0 + 1) (n - (b0 + 1)).toNat) ∧ c = -1 ∧ b = eo t (b0 + 1) (n - (b0 + 1)).toNat)
theorem ends_at {t : Int → Int} {a b : Int} : (b - a = 6 → t (b - 3) = t (a + 3) ∧ t (b - 2) = t (a + 4) ∧ t (b - 1) = t (a + 5)) ∧ (b - a = 7 → t (b - 3) = t (a + 4) ∧ t (b - 2) = t (a + 5) ∧ t (b - 1) = t (a + 6)) ∧ (b - a = 8 → t (b - 3) = t (a + 5) ∧ t (b - 2) = t (a + 6) ∧ t (b - 1) = t (a + 7)) := by
  refine ⟨fun q => ?_, fun q => ?_, fun q => ?_⟩
  · rw [show b - 3 = a + 3 by omega, show b - 2 = a + 4 by omega, show b - 1 = a + 5 by omega]
    exact ⟨rfl, rfl, rfl⟩
  · rw [show b - 3 = a + 4 by omega, show b - 2 = a + 5 by omega, show b - 1 = a + 6 by omega]
    exact ⟨rfl, rfl, rfl⟩
  · rw [show b - 3 = a + 5 by omega, show b - 2 = a + 6 by omega, show b - 1 = a + 7 by omega]
    exact ⟨rfl, rfl, rfl⟩

set_option maxHeartbeats 4000000 in
set_option maxRecDepth 20000 in
theorem c_X10_kind (s : Nat → Int → Int) (hn : 0 ≤ s 121 0 ∧ s 121 0 ≤ 120) (ht : ∀ v, 0 ≤ s 56 v ∧ s 56 v < 65536) (hf : s 124 0 = -1) (hb0 : 0 ≤ s 123 0 ∧ s 123 0 ≤ s 121 0) (ha0 : 0 ≤ s 122 0 ∧ s 122 0 ≤ 121) : ab_Mt yX10_kind cX10_kind 2 (some .int) ({ frames := 1, cells := 0, slots := 0, locals := 24 } : Room) false 0 0 [.inr (some 49)] (WW s) (fun r h2 => ∃ v fa fb fc, r = some (.inl v) ∧ h2 = WW (ab_s (ab_s (ab_s s 122 fa) 123 fb) 124 fc) ∧ (-1 ≤ v ∧ v ≤ 2) ∧ ((fb 0 ≤ s 121 0 ∧ 0 ≤ fb 0) ∧ 0 ≤ fa 0 ∧ fa 0 ≤ 121) ∧ KDR (s 56) (s 121 0) (s 123 0) v (fb 0) (fc 0)) := by
  refine ab_mk RX10 false rfl pn_X10_kind (fun z => by cases z) (Nat.le_of_ble_eq_true rfl) (fun V hV => ?_)
  show V 0 [some (.inr (some 49)), none] [] (WW s) 0 0
  refine rb_aload_n hV dX10_kind_0 rfl rfl ?_
  refine rb_iconst hV dX10_kind_1 ?_
  refine rb_callV hV (rest := []) dX10_kind_2 (c_X10_nextPiece_f s (show 0 ≤ (s 121 0) ∧ (s 121 0) ≤ 120 by omega) ht (show (s 124 0) = -1 by omega) (show 0 ≤ (s 123 0) ∧ (s 123 0) ≤ (s 121 0) by omega) (show 0 ≤ (s 122 0) ∧ (s 122 0) ≤ 121 by omega)) lk_X10_109 rfl (Or.inl ⟨9, _, TX10, 24, gw_49 _, rfl⟩) rfl ⟨rfl, rfl, (Nat.le_of_ble_eq_true rfl), (Nat.le_of_ble_eq_true rfl), (Nat.le_of_ble_eq_true rfl), (Nat.le_of_ble_eq_true rfl)⟩ (Nat.le_of_ble_eq_true rfl) (fun r9 h9 p9 => ?_)
  obtain ⟨rfl, fa, fb, fc, rfl, hnp⟩ := p9
  replace hnp : NP (s 56) (s 121 0) (s 123 0) (fa 0) (fb 0) (fc 0) := hnp
  have hnb := NP_b hnp (by omega) (by omega)
  show V 5 [some (.inr (some 49)), none] [] (WW (ab_s (ab_s (ab_s s 122 fa) 123 fb) 124 fc)) 0 0
  have hnb1 := hnb.1
  have hnb2 := hnb.2.1
  have hnb3 := hnb.2.2.1
  have hnb4 := hnb.2.2.2.1
  have hnb5 := hnb.2.2.2.2
  refine rb_aload_n hV dX10_kind_5 rfl rfl ?_
  refine rb_get hV (v := .inl (fc 0)) dX10_kind_6 ⟨RX10, TX10, 24, rfl, (Nat.le_of_ble_eq_true rfl), lf_X10_100⟩ (gw_49 _) rfl ?_
  refine rb_if_lt hV (tgt := 16) dX10_kind_9 (by decide) (by unfold ab_r at *; omega) (fun c9 => ?_) (fun c9 => ?_)
  · have hcc := hnb2 (by omega)
    have hee := ends_at (t := s 56) (a := fa 0) (b := fb 0)
    refine rb_aload_n hV dX10_kind_16 rfl rfl ?_
    refine rb_bipush hV dX10_kind_17 (by decide) ?_
    refine rb_bipush hV dX10_kind_19 (by decide) ?_
    refine rb_bipush hV dX10_kind_21 (by decide) ?_
    refine rb_bipush hV dX10_kind_23 (by decide) ?_
    refine rb_callV hV (rest := []) dX10_kind_25 (c_X10_isPiece (ab_s (ab_s (ab_s s 122 fa) 123 fb) 124 fc) 119 111 114 100 (by decide) (show 0 ≤ (fa 0) by omega) (show (fb 0) ≤ 120 by omega) (show (fa 0) ≤ 121 by omega) (show 0 ≤ (fb 0) by omega) ht) lk_X10_113 rfl (Or.inl ⟨9, _, TX10, 24, gw_49 _, rfl⟩) rfl ⟨rfl, rfl, (Nat.le_of_ble_eq_true rfl), (Nat.le_of_ble_eq_true rfl), (Nat.le_of_ble_eq_true rfl), (Nat.le_of_ble_eq_true rfl)⟩ (Nat.le_of_ble_eq_true rfl) (fun r9 h9 p9 => ?_)
    obtain ⟨rfl, rfl⟩ := p9
    show V 28 [some (.inr (some 49)), none] [.inl (if 3 < (fb 0) - (fa 0) ∧ s 56 (fa 0) = 119 ∧ s 56 ((fa 0) + 1) = 111 ∧ s 56 ((fa 0) + 2) = 114 ∧ s 56 ((fa 0) + 3) = 100 then 1 else 0)] (WW (ab_s (ab_s (ab_s s 122 fa) 123 fb) 124 fc)) 0 0
    by_cases e25 : 3 < (fb 0) - (fa 0) ∧ s 56 (fa 0) = 119 ∧ s 56 ((fa 0) + 1) = 111 ∧ s 56 ((fa 0) + 2) = 114 ∧ s 56 ((fa 0) + 3) = 100
    · rw [if_pos e25]
      show V 28 [some (.inr (some 49)), none] [.inl 1] (WW (ab_s (ab_s (ab_s s 122 fa) 123 fb) 124 fc)) 0 0
      refine rb_if_eq hV (tgt := 43) dX10_kind_28 (by decide) (by unfold ab_r at *; omega) (fun z => absurd z (by decide)) (fun _ => ?_)
      refine rb_aload_n hV dX10_kind_31 rfl rfl ?_
      refine rb_iconst hV dX10_kind_32 ?_
      refine rb_callV hV (rest := []) dX10_kind_33 (c_X10_isLong (ab_s (ab_s (ab_s s 122 fa) 123 fb) 124 fc) 4 (by decide) (show 0 ≤ (fa 0) by omega) (show (fb 0) ≤ 120 by omega) (show (fa 0) ≤ 121 by omega) (show 0 ≤ (fb 0) by omega)) lk_X10_117 rfl (Or.inl ⟨9, _, TX10, 24, gw_49 _, rfl⟩) rfl ⟨rfl, rfl, (Nat.le_of_ble_eq_true rfl), (Nat.le_of_ble_eq_true rfl), (Nat.le_of_ble_eq_true rfl), (Nat.le_of_ble_eq_true rfl)⟩ (Nat.le_of_ble_eq_true rfl) (fun r9 h9 p9 => ?_)
      obtain ⟨rfl, rfl⟩ := p9
      show V 36 [some (.inr (some 49)), none] [.inl (if (fb 0) - (fa 0) = 4 then 1 else 0)] (WW (ab_s (ab_s (ab_s s 122 fa) 123 fb) 124 fc)) 0 0
      by_cases e33 : (fb 0) - (fa 0) = 4
      · rw [if_pos e33]
        show V 36 [some (.inr (some 49)), none] [.inl 1] (WW (ab_s (ab_s (ab_s s 122 fa) 123 fb) 124 fc)) 0 0
        refine rb_if_eq hV (tgt := 43) dX10_kind_36 (by decide) (by unfold ab_r at *; omega) (fun z => absurd z (by decide)) (fun _ => ?_)
        have h13 : isNm (s 56) (s 121 0) 13 (fa 0) (fb 0) := (isNm_13 _ _ _ _).mpr (by omega)
        refine rb_iconst hV dX10_kind_39 ?_
        refine rb_goto hV (tgt := 142) dX10_kind_40 (by decide) ?_
        refine rb_istore_n hV (L2 := [some (.inr (some 49)), some (.inl 0)]) dX10_kind_142 rfl (Nat.le_of_ble_eq_true rfl) rfl ?_
        refine rb_aload_n hV dX10_kind_143 rfl rfl ?_
        refine rb_get hV (v := .inl (fc 0)) dX10_kind_144 ⟨RX10, TX10, 24, rfl, (Nat.le_of_ble_eq_true rfl), lf_X10_100⟩ (gw_49 _) rfl ?_
        refine rb_if_ge hV (tgt := 162) dX10_kind_147 (by decide) (by unfold ab_r at *; omega) (fun c147 => absurd c147 (by omega)) (fun c147 => ?_)
        refine rb_iload_n hV dX10_kind_150 rfl rfl ?_
        refine rb_if_ge hV (tgt := 162) dX10_kind_151 (by decide) (by unfold ab_r at *; omega) (fun _ => ?_) (fun z => absurd z (by decide))
        refine rb_iload_n hV dX10_kind_162 rfl rfl ?_
        refine rb_ret hV (r := some (.inl 0)) dX10_kind_163 rfl ⟨(Nat.le_of_ble_eq_true rfl), (Nat.le_of_ble_eq_true rfl)⟩ trivial ?_
        obtain ⟨n1, n2, n3, n4, n5⟩ := hnb2 (by omega)
        have hkd : kdn (s 56) (s 121 0) (s 123 0 + 1) (eo (s 56) (s 123 0 + 1) (s 121 0 - (s 123 0 + 1)).toNat) = 0 := by
          rw [← n5, ← n2]
          exact cif_pos h13
        exact ⟨_, _, _, _, rfl, rfl, by decide, by show (fb 0 ≤ s 121 0 ∧ 0 ≤ fb 0) ∧ 0 ≤ fa 0 ∧ fa 0 ≤ 121; omega, Or.inr (Or.inr ⟨n1, by omega, hkd.symm, by omega, n5⟩)⟩
      · rw [if_neg e33]
        show V 36 [some (.inr (some 49)), none] [.inl 0] (WW (ab_s (ab_s (ab_s s 122 fa) 123 fb) 124 fc)) 0 0
        refine rb_if_eq hV (tgt := 43) dX10_kind_36 (by decide) (by unfold ab_r at *; omega) (fun _ => ?_) (fun z => absurd z (by decide))
        have h13 : ¬ isNm (s 56) (s 121 0) 13 (fa 0) (fb 0) := fun q => e33 (by have q2 := (isNm_13 _ _ _ _).mp q; omega)
        clear e25 e33
        refine rb_aload_n hV dX10_kind_43 rfl rfl ?_
        refine rb_bipush hV dX10_kind_44 (by decide) ?_
        refine rb_bipush hV dX10_kind_46 (by decide) ?_
        refine rb_bipush hV dX10_kind_48 (by decide) ?_
        refine rb_bipush hV dX10_kind_50 (by decide) ?_
        refine rb_callV hV (rest := []) dX10_kind_52 (c_X10_isPiece (ab_s (ab_s (ab_s s 122 fa) 123 fb) 124 fc) 99 108 97 117 (by decide) (show 0 ≤ (fa 0) by omega) (show (fb 0) ≤ 120 by omega) (show (fa 0) ≤ 121 by omega) (show 0 ≤ (fb 0) by omega) ht) lk_X10_113 rfl (Or.inl ⟨9, _, TX10, 24, gw_49 _, rfl⟩) rfl ⟨rfl, rfl, (Nat.le_of_ble_eq_true rfl), (Nat.le_of_ble_eq_true rfl), (Nat.le_of_ble_eq_true rfl), (Nat.le_of_ble_eq_true rfl)⟩ (Nat.le_of_ble_eq_true rfl) (fun r9 h9 p9 => ?_)
        obtain ⟨rfl, rfl⟩ := p9
        show V 55 [some (.inr (some 49)), none] [.inl (if 3 < (fb 0) - (fa 0) ∧ s 56 (fa 0) = 99 ∧ s 56 ((fa 0) + 1) = 108 ∧ s 56 ((fa 0) + 2) = 97 ∧ s 56 ((fa 0) + 3) = 117 then 1 else 0)] (WW (ab_s (ab_s (ab_s s 122 fa) 123 fb) 124 fc)) 0 0
        by_cases e52 : 3 < (fb 0) - (fa 0) ∧ s 56 (fa 0) = 99 ∧ s 56 ((fa 0) + 1) = 108 ∧ s 56 ((fa 0) + 2) = 97 ∧ s 56 ((fa 0) + 3) = 117
        · rw [if_pos e52]
          show V 55 [some (.inr (some 49)), none] [.inl 1] (WW (ab_s (ab_s (ab_s s 122 fa) 123 fb) 124 fc)) 0 0
          refine rb_if_eq hV (tgt := 84) dX10_kind_55 (by decide) (by unfold ab_r at *; omega) (fun z => absurd z (by decide)) (fun _ => ?_)
          refine rb_aload_n hV dX10_kind_58 rfl rfl ?_
          refine rb_bipush hV dX10_kind_59 (by decide) ?_
          refine rb_callV hV (rest := []) dX10_kind_61 (c_X10_isLong (ab_s (ab_s (ab_s s 122 fa) 123 fb) 124 fc) 6 (by decide) (show 0 ≤ (fa 0) by omega) (show (fb 0) ≤ 120 by omega) (show (fa 0) ≤ 121 by omega) (show 0 ≤ (fb 0) by omega)) lk_X10_117 rfl (Or.inl ⟨9, _, TX10, 24, gw_49 _, rfl⟩) rfl ⟨rfl, rfl, (Nat.le_of_ble_eq_true rfl), (Nat.le_of_ble_eq_true rfl), (Nat.le_of_ble_eq_true rfl), (Nat.le_of_ble_eq_true rfl)⟩ (Nat.le_of_ble_eq_true rfl) (fun r9 h9 p9 => ?_)
          obtain ⟨rfl, rfl⟩ := p9
          show V 64 [some (.inr (some 49)), none] [.inl (if (fb 0) - (fa 0) = 6 then 1 else 0)] (WW (ab_s (ab_s (ab_s s 122 fa) 123 fb) 124 fc)) 0 0
          by_cases e61 : (fb 0) - (fa 0) = 6
          · rw [if_pos e61]
            show V 64 [some (.inr (some 49)), none] [.inl 1] (WW (ab_s (ab_s (ab_s s 122 fa) 123 fb) 124 fc)) 0 0
            refine rb_if_eq hV (tgt := 84) dX10_kind_64 (by decide) (by unfold ab_r at *; omega) (fun z => absurd z (by decide)) (fun _ => ?_)
            refine rb_aload_n hV dX10_kind_67 rfl rfl ?_
            refine rb_bipush hV dX10_kind_68 (by decide) ?_
            refine rb_bipush hV dX10_kind_70 (by decide) ?_
            refine rb_bipush hV dX10_kind_72 (by decide) ?_
            refine rb_callV hV (rest := []) dX10_kind_74 (c_X10_endsWith (ab_s (ab_s (ab_s s 122 fa) 123 fb) 124 fc) 117 115 101 (by decide) (show 3 ≤ (fb 0) ∧ (fb 0) ≤ 120 by omega) ht) lk_X10_121 rfl (Or.inl ⟨9, _, TX10, 24, gw_49 _, rfl⟩) rfl ⟨rfl, rfl, (Nat.le_of_ble_eq_true rfl), (Nat.le_of_ble_eq_true rfl), (Nat.le_of_ble_eq_true rfl), (Nat.le_of_ble_eq_true rfl)⟩ (Nat.le_of_ble_eq_true rfl) (fun r9 h9 p9 => ?_)
            obtain ⟨rfl, rfl⟩ := p9
            show V 77 [some (.inr (some 49)), none] [.inl (if s 56 ((fb 0) - 3) = 117 ∧ s 56 ((fb 0) - 2) = 115 ∧ s 56 ((fb 0) - 1) = 101 then 1 else 0)] (WW (ab_s (ab_s (ab_s s 122 fa) 123 fb) 124 fc)) 0 0
            by_cases e74 : s 56 ((fb 0) - 3) = 117 ∧ s 56 ((fb 0) - 2) = 115 ∧ s 56 ((fb 0) - 1) = 101
            · rw [if_pos e74]
              show V 77 [some (.inr (some 49)), none] [.inl 1] (WW (ab_s (ab_s (ab_s s 122 fa) 123 fb) 124 fc)) 0 0
              refine rb_if_eq hV (tgt := 84) dX10_kind_77 (by decide) (by unfold ab_r at *; omega) (fun z => absurd z (by decide)) (fun _ => ?_)
              have h14 : isNm (s 56) (s 121 0) 14 (fa 0) (fb 0) := (isNm_14 _ _ _ _).mpr (by omega)
              refine rb_iconst hV dX10_kind_80 ?_
              refine rb_goto hV (tgt := 142) dX10_kind_81 (by decide) ?_
              refine rb_istore_n hV (L2 := [some (.inr (some 49)), some (.inl 1)]) dX10_kind_142 rfl (Nat.le_of_ble_eq_true rfl) rfl ?_
              refine rb_aload_n hV dX10_kind_143 rfl rfl ?_
              refine rb_get hV (v := .inl (fc 0)) dX10_kind_144 ⟨RX10, TX10, 24, rfl, (Nat.le_of_ble_eq_true rfl), lf_X10_100⟩ (gw_49 _) rfl ?_
              refine rb_if_ge hV (tgt := 162) dX10_kind_147 (by decide) (by unfold ab_r at *; omega) (fun c147 => absurd c147 (by omega)) (fun c147 => ?_)
              refine rb_iload_n hV dX10_kind_150 rfl rfl ?_
              refine rb_if_ge hV (tgt := 162) dX10_kind_151 (by decide) (by unfold ab_r at *; omega) (fun _ => ?_) (fun z => absurd z (by decide))
              refine rb_iload_n hV dX10_kind_162 rfl rfl ?_
              refine rb_ret hV (r := some (.inl 1)) dX10_kind_163 rfl ⟨(Nat.le_of_ble_eq_true rfl), (Nat.le_of_ble_eq_true rfl)⟩ trivial ?_
              obtain ⟨n1, n2, n3, n4, n5⟩ := hnb2 (by omega)
              have hkd : kdn (s 56) (s 121 0) (s 123 0 + 1) (eo (s 56) (s 123 0 + 1) (s 121 0 - (s 123 0 + 1)).toNat) = 1 := by
                rw [← n5, ← n2]
                exact (cif_neg h13).trans (cif_pos h14)
              exact ⟨_, _, _, _, rfl, rfl, by decide, by show (fb 0 ≤ s 121 0 ∧ 0 ≤ fb 0) ∧ 0 ≤ fa 0 ∧ fa 0 ≤ 121; omega, Or.inr (Or.inr ⟨n1, by omega, hkd.symm, by omega, n5⟩)⟩
            · rw [if_neg e74]
              show V 77 [some (.inr (some 49)), none] [.inl 0] (WW (ab_s (ab_s (ab_s s 122 fa) 123 fb) 124 fc)) 0 0
              refine rb_if_eq hV (tgt := 84) dX10_kind_77 (by decide) (by unfold ab_r at *; omega) (fun _ => ?_) (fun z => absurd z (by decide))
              have h14 : ¬ isNm (s 56) (s 121 0) 14 (fa 0) (fb 0) := fun q => e74 (by have q2 := (isNm_14 _ _ _ _).mp q; omega)
              clear e52 e61 e74
              refine rb_aload_n hV dX10_kind_84 rfl rfl ?_
              refine rb_bipush hV dX10_kind_85 (by decide) ?_
              refine rb_bipush hV dX10_kind_87 (by decide) ?_
              refine rb_bipush hV dX10_kind_89 (by decide) ?_
              refine rb_bipush hV dX10_kind_91 (by decide) ?_
              refine rb_callV hV (rest := []) dX10_kind_93 (c_X10_isPiece (ab_s (ab_s (ab_s s 122 fa) 123 fb) 124 fc) 115 101 110 116 (by decide) (show 0 ≤ (fa 0) by omega) (show (fb 0) ≤ 120 by omega) (show (fa 0) ≤ 121 by omega) (show 0 ≤ (fb 0) by omega) ht) lk_X10_113 rfl (Or.inl ⟨9, _, TX10, 24, gw_49 _, rfl⟩) rfl ⟨rfl, rfl, (Nat.le_of_ble_eq_true rfl), (Nat.le_of_ble_eq_true rfl), (Nat.le_of_ble_eq_true rfl), (Nat.le_of_ble_eq_true rfl)⟩ (Nat.le_of_ble_eq_true rfl) (fun r9 h9 p9 => ?_)
              obtain ⟨rfl, rfl⟩ := p9
              show V 96 [some (.inr (some 49)), none] [.inl (if 3 < (fb 0) - (fa 0) ∧ s 56 (fa 0) = 115 ∧ s 56 ((fa 0) + 1) = 101 ∧ s 56 ((fa 0) + 2) = 110 ∧ s 56 ((fa 0) + 3) = 116 then 1 else 0)] (WW (ab_s (ab_s (ab_s s 122 fa) 123 fb) 124 fc)) 0 0
              by_cases e93 : 3 < (fb 0) - (fa 0) ∧ s 56 (fa 0) = 115 ∧ s 56 ((fa 0) + 1) = 101 ∧ s 56 ((fa 0) + 2) = 110 ∧ s 56 ((fa 0) + 3) = 116
              · rw [if_pos e93]
                show V 96 [some (.inr (some 49)), none] [.inl 1] (WW (ab_s (ab_s (ab_s s 122 fa) 123 fb) 124 fc)) 0 0
                refine rb_if_eq hV (tgt := 141) dX10_kind_96 (by decide) (by unfold ab_r at *; omega) (fun z => absurd z (by decide)) (fun _ => ?_)
                refine rb_aload_n hV dX10_kind_99 rfl rfl ?_
                refine rb_bipush hV dX10_kind_100 (by decide) ?_
                refine rb_callV hV (rest := []) dX10_kind_102 (c_X10_isLong (ab_s (ab_s (ab_s s 122 fa) 123 fb) 124 fc) 8 (by decide) (show 0 ≤ (fa 0) by omega) (show (fb 0) ≤ 120 by omega) (show (fa 0) ≤ 121 by omega) (show 0 ≤ (fb 0) by omega)) lk_X10_117 rfl (Or.inl ⟨9, _, TX10, 24, gw_49 _, rfl⟩) rfl ⟨rfl, rfl, (Nat.le_of_ble_eq_true rfl), (Nat.le_of_ble_eq_true rfl), (Nat.le_of_ble_eq_true rfl), (Nat.le_of_ble_eq_true rfl)⟩ (Nat.le_of_ble_eq_true rfl) (fun r9 h9 p9 => ?_)
                obtain ⟨rfl, rfl⟩ := p9
                show V 105 [some (.inr (some 49)), none] [.inl (if (fb 0) - (fa 0) = 8 then 1 else 0)] (WW (ab_s (ab_s (ab_s s 122 fa) 123 fb) 124 fc)) 0 0
                by_cases e102 : (fb 0) - (fa 0) = 8
                · rw [if_pos e102]
                  show V 105 [some (.inr (some 49)), none] [.inl 1] (WW (ab_s (ab_s (ab_s s 122 fa) 123 fb) 124 fc)) 0 0
                  refine rb_if_eq hV (tgt := 141) dX10_kind_105 (by decide) (by unfold ab_r at *; omega) (fun z => absurd z (by decide)) (fun _ => ?_)
                  refine rb_aload_n hV dX10_kind_108 rfl rfl ?_
                  refine rb_bipush hV dX10_kind_109 (by decide) ?_
                  refine rb_bipush hV dX10_kind_111 (by decide) ?_
                  refine rb_bipush hV dX10_kind_113 (by decide) ?_
                  refine rb_callV hV (rest := []) dX10_kind_115 (c_X10_endsWith (ab_s (ab_s (ab_s s 122 fa) 123 fb) 124 fc) 110 99 101 (by decide) (show 3 ≤ (fb 0) ∧ (fb 0) ≤ 120 by omega) ht) lk_X10_121 rfl (Or.inl ⟨9, _, TX10, 24, gw_49 _, rfl⟩) rfl ⟨rfl, rfl, (Nat.le_of_ble_eq_true rfl), (Nat.le_of_ble_eq_true rfl), (Nat.le_of_ble_eq_true rfl), (Nat.le_of_ble_eq_true rfl)⟩ (Nat.le_of_ble_eq_true rfl) (fun r9 h9 p9 => ?_)
                  obtain ⟨rfl, rfl⟩ := p9
                  show V 118 [some (.inr (some 49)), none] [.inl (if s 56 ((fb 0) - 3) = 110 ∧ s 56 ((fb 0) - 2) = 99 ∧ s 56 ((fb 0) - 1) = 101 then 1 else 0)] (WW (ab_s (ab_s (ab_s s 122 fa) 123 fb) 124 fc)) 0 0
                  by_cases e115 : s 56 ((fb 0) - 3) = 110 ∧ s 56 ((fb 0) - 2) = 99 ∧ s 56 ((fb 0) - 1) = 101
                  · rw [if_pos e115]
                    show V 118 [some (.inr (some 49)), none] [.inl 1] (WW (ab_s (ab_s (ab_s s 122 fa) 123 fb) 124 fc)) 0 0
                    refine rb_if_eq hV (tgt := 141) dX10_kind_118 (by decide) (by unfold ab_r at *; omega) (fun z => absurd z (by decide)) (fun _ => ?_)
                    refine rb_aload_n hV dX10_kind_121 rfl rfl ?_
                    refine rb_get hV (v := .inr (some 56)) dX10_kind_122 ⟨RX10, TX10, 24, rfl, (Nat.le_of_ble_eq_true rfl), lf_X10_38⟩ (gw_49 _) rfl ?_
                    refine rb_aload_n hV dX10_kind_125 rfl rfl ?_
                    refine rb_get hV (v := .inl (fa 0)) dX10_kind_126 ⟨RX10, TX10, 24, rfl, (Nat.le_of_ble_eq_true rfl), lf_X10_106⟩ (gw_49 _) rfl ?_
                    refine rb_iconst hV dX10_kind_129 ?_
                    refine rb_iadd hV dX10_kind_130 ?_
                    refine rb_cald hV (f := (s 56)) dX10_kind_131 (gw_56 _) (Nat.le_of_ble_eq_true rfl) (by omega) ?_
                    refine rb_bipush hV dX10_kind_132 (by decide) ?_
                    have h4r := ht (fa 0 + 4)
                    refine rb_icmp_ne hV (tgt := 141) dX10_kind_134 (by decide) ⟨(by unfold ab_r at *; omega), (by unfold ab_r at *; omega)⟩ (fun c134 => ?_) (fun c134 => ?_)
                    · have h15 : ¬ isNm (s 56) (s 121 0) 15 (fa 0) (fb 0) := fun q => c134 (by have q2 := (isNm_15 _ _ _ _).mp q; omega)
                      clear e93 e102 e115 c134
                      refine rb_iconst hV dX10_kind_141 ?_
                      refine rb_istore_n hV (L2 := [some (.inr (some 49)), some (.inl (-1))]) dX10_kind_142 rfl (Nat.le_of_ble_eq_true rfl) rfl ?_
                      refine rb_aload_n hV dX10_kind_143 rfl rfl ?_
                      refine rb_get hV (v := .inl (fc 0)) dX10_kind_144 ⟨RX10, TX10, 24, rfl, (Nat.le_of_ble_eq_true rfl), lf_X10_100⟩ (gw_49 _) rfl ?_
                      refine rb_if_ge hV (tgt := 162) dX10_kind_147 (by decide) (by unfold ab_r at *; omega) (fun c147 => absurd c147 (by omega)) (fun c147 => ?_)
                      refine rb_iload_n hV dX10_kind_150 rfl rfl ?_
                      refine rb_if_ge hV (tgt := 162) dX10_kind_151 (by decide) (by unfold ab_r at *; omega) (fun z => absurd z (by decide)) (fun _ => ?_)
                      refine rb_aload_n hV dX10_kind_154 rfl rfl ?_
                      refine rb_aload_n hV dX10_kind_155 rfl rfl ?_
                      refine rb_get hV (v := .inl (fa 0)) dX10_kind_156 ⟨RX10, TX10, 24, rfl, (Nat.le_of_ble_eq_true rfl), lf_X10_106⟩ (gw_49 _) rfl ?_
                      refine rb_put hV (C := RX10) (T := TX10) (N := 24) (ci := 9) (j := 14) dX10_kind_159 rfl (Nat.le_of_ble_eq_true rfl) lf_X10_100 rfl (gw_49 _) (Nat.le_of_ble_eq_true rfl) (ft_X10_14 _) ((pw_49_14 _ _).trans (congrArg WW (ab_s_same _ 124 _ _))) ?_
                      refine rb_iload_n hV dX10_kind_162 rfl rfl ?_
                      refine rb_ret hV (r := some (.inl (-1))) dX10_kind_163 rfl ⟨(Nat.le_of_ble_eq_true rfl), (Nat.le_of_ble_eq_true rfl)⟩ trivial ?_
                      obtain ⟨n1, n2, n3, n4, n5⟩ := hnb2 (by omega)
                      have hkd : kdn (s 56) (s 121 0) (s 123 0 + 1) (eo (s 56) (s 123 0 + 1) (s 121 0 - (s 123 0 + 1)).toNat) = -1 := by
                        rw [← n5, ← n2]
                        exact kdn_none h13 h14 h15
                      exact ⟨_, _, _, _, rfl, rfl, by decide, by show (fb 0 ≤ s 121 0 ∧ 0 ≤ fb 0) ∧ 0 ≤ fa 0 ∧ fa 0 ≤ 121; omega, Or.inr (Or.inl ⟨n1, hkd, by omega⟩)⟩
                    · have h15 : isNm (s 56) (s 121 0) 15 (fa 0) (fb 0) := (isNm_15 _ _ _ _).mpr (by omega)
                      refine rb_iconst hV dX10_kind_137 ?_
                      refine rb_goto hV (tgt := 142) dX10_kind_138 (by decide) ?_
                      refine rb_istore_n hV (L2 := [some (.inr (some 49)), some (.inl 2)]) dX10_kind_142 rfl (Nat.le_of_ble_eq_true rfl) rfl ?_
                      refine rb_aload_n hV dX10_kind_143 rfl rfl ?_
                      refine rb_get hV (v := .inl (fc 0)) dX10_kind_144 ⟨RX10, TX10, 24, rfl, (Nat.le_of_ble_eq_true rfl), lf_X10_100⟩ (gw_49 _) rfl ?_
                      refine rb_if_ge hV (tgt := 162) dX10_kind_147 (by decide) (by unfold ab_r at *; omega) (fun c147 => absurd c147 (by omega)) (fun c147 => ?_)
                      refine rb_iload_n hV dX10_kind_150 rfl rfl ?_
                      refine rb_if_ge hV (tgt := 162) dX10_kind_151 (by decide) (by unfold ab_r at *; omega) (fun _ => ?_) (fun z => absurd z (by decide))
                      refine rb_iload_n hV dX10_kind_162 rfl rfl ?_
                      refine rb_ret hV (r := some (.inl 2)) dX10_kind_163 rfl ⟨(Nat.le_of_ble_eq_true rfl), (Nat.le_of_ble_eq_true rfl)⟩ trivial ?_
                      obtain ⟨n1, n2, n3, n4, n5⟩ := hnb2 (by omega)
                      have hkd : kdn (s 56) (s 121 0) (s 123 0 + 1) (eo (s 56) (s 123 0 + 1) (s 121 0 - (s 123 0 + 1)).toNat) = 2 := by
                        rw [← n5, ← n2]
                        exact (cif_neg h13).trans ((cif_neg h14).trans (cif_pos h15))
                      exact ⟨_, _, _, _, rfl, rfl, by decide, by show (fb 0 ≤ s 121 0 ∧ 0 ≤ fb 0) ∧ 0 ≤ fa 0 ∧ fa 0 ≤ 121; omega, Or.inr (Or.inr ⟨n1, by omega, hkd.symm, by omega, n5⟩)⟩
                  · rw [if_neg e115]
                    show V 118 [some (.inr (some 49)), none] [.inl 0] (WW (ab_s (ab_s (ab_s s 122 fa) 123 fb) 124 fc)) 0 0
                    refine rb_if_eq hV (tgt := 141) dX10_kind_118 (by decide) (by unfold ab_r at *; omega) (fun _ => ?_) (fun z => absurd z (by decide))
                    have h15 : ¬ isNm (s 56) (s 121 0) 15 (fa 0) (fb 0) := fun q => e115 (by have q2 := (isNm_15 _ _ _ _).mp q; omega)
                    clear e93 e102 e115
                    refine rb_iconst hV dX10_kind_141 ?_
                    refine rb_istore_n hV (L2 := [some (.inr (some 49)), some (.inl (-1))]) dX10_kind_142 rfl (Nat.le_of_ble_eq_true rfl) rfl ?_
                    refine rb_aload_n hV dX10_kind_143 rfl rfl ?_
                    refine rb_get hV (v := .inl (fc 0)) dX10_kind_144 ⟨RX10, TX10, 24, rfl, (Nat.le_of_ble_eq_true rfl), lf_X10_100⟩ (gw_49 _) rfl ?_
                    refine rb_if_ge hV (tgt := 162) dX10_kind_147 (by decide) (by unfold ab_r at *; omega) (fun c147 => absurd c147 (by omega)) (fun c147 => ?_)
                    refine rb_iload_n hV dX10_kind_150 rfl rfl ?_
                    refine rb_if_ge hV (tgt := 162) dX10_kind_151 (by decide) (by unfold ab_r at *; omega) (fun z => absurd z (by decide)) (fun _ => ?_)
                    refine rb_aload_n hV dX10_kind_154 rfl rfl ?_
                    refine rb_aload_n hV dX10_kind_155 rfl rfl ?_
                    refine rb_get hV (v := .inl (fa 0)) dX10_kind_156 ⟨RX10, TX10, 24, rfl, (Nat.le_of_ble_eq_true rfl), lf_X10_106⟩ (gw_49 _) rfl ?_
                    refine rb_put hV (C := RX10) (T := TX10) (N := 24) (ci := 9) (j := 14) dX10_kind_159 rfl (Nat.le_of_ble_eq_true rfl) lf_X10_100 rfl (gw_49 _) (Nat.le_of_ble_eq_true rfl) (ft_X10_14 _) ((pw_49_14 _ _).trans (congrArg WW (ab_s_same _ 124 _ _))) ?_
                    refine rb_iload_n hV dX10_kind_162 rfl rfl ?_
                    refine rb_ret hV (r := some (.inl (-1))) dX10_kind_163 rfl ⟨(Nat.le_of_ble_eq_true rfl), (Nat.le_of_ble_eq_true rfl)⟩ trivial ?_
                    obtain ⟨n1, n2, n3, n4, n5⟩ := hnb2 (by omega)
                    have hkd : kdn (s 56) (s 121 0) (s 123 0 + 1) (eo (s 56) (s 123 0 + 1) (s 121 0 - (s 123 0 + 1)).toNat) = -1 := by
                      rw [← n5, ← n2]
                      exact kdn_none h13 h14 h15
                    exact ⟨_, _, _, _, rfl, rfl, by decide, by show (fb 0 ≤ s 121 0 ∧ 0 ≤ fb 0) ∧ 0 ≤ fa 0 ∧ fa 0 ≤ 121; omega, Or.inr (Or.inl ⟨n1, hkd, by omega⟩)⟩
                · rw [if_neg e102]
                  show V 105 [some (.inr (some 49)), none] [.inl 0] (WW (ab_s (ab_s (ab_s s 122 fa) 123 fb) 124 fc)) 0 0
                  refine rb_if_eq hV (tgt := 141) dX10_kind_105 (by decide) (by unfold ab_r at *; omega) (fun _ => ?_) (fun z => absurd z (by decide))
                  have h15 : ¬ isNm (s 56) (s 121 0) 15 (fa 0) (fb 0) := fun q => e102 (by have q2 := (isNm_15 _ _ _ _).mp q; omega)
                  clear e93 e102
                  refine rb_iconst hV dX10_kind_141 ?_
                  refine rb_istore_n hV (L2 := [some (.inr (some 49)), some (.inl (-1))]) dX10_kind_142 rfl (Nat.le_of_ble_eq_true rfl) rfl ?_
                  refine rb_aload_n hV dX10_kind_143 rfl rfl ?_
                  refine rb_get hV (v := .inl (fc 0)) dX10_kind_144 ⟨RX10, TX10, 24, rfl, (Nat.le_of_ble_eq_true rfl), lf_X10_100⟩ (gw_49 _) rfl ?_
                  refine rb_if_ge hV (tgt := 162) dX10_kind_147 (by decide) (by unfold ab_r at *; omega) (fun c147 => absurd c147 (by omega)) (fun c147 => ?_)
                  refine rb_iload_n hV dX10_kind_150 rfl rfl ?_
                  refine rb_if_ge hV (tgt := 162) dX10_kind_151 (by decide) (by unfold ab_r at *; omega) (fun z => absurd z (by decide)) (fun _ => ?_)
                  refine rb_aload_n hV dX10_kind_154 rfl rfl ?_
                  refine rb_aload_n hV dX10_kind_155 rfl rfl ?_
                  refine rb_get hV (v := .inl (fa 0)) dX10_kind_156 ⟨RX10, TX10, 24, rfl, (Nat.le_of_ble_eq_true rfl), lf_X10_106⟩ (gw_49 _) rfl ?_
                  refine rb_put hV (C := RX10) (T := TX10) (N := 24) (ci := 9) (j := 14) dX10_kind_159 rfl (Nat.le_of_ble_eq_true rfl) lf_X10_100 rfl (gw_49 _) (Nat.le_of_ble_eq_true rfl) (ft_X10_14 _) ((pw_49_14 _ _).trans (congrArg WW (ab_s_same _ 124 _ _))) ?_
                  refine rb_iload_n hV dX10_kind_162 rfl rfl ?_
                  refine rb_ret hV (r := some (.inl (-1))) dX10_kind_163 rfl ⟨(Nat.le_of_ble_eq_true rfl), (Nat.le_of_ble_eq_true rfl)⟩ trivial ?_
                  obtain ⟨n1, n2, n3, n4, n5⟩ := hnb2 (by omega)
                  have hkd : kdn (s 56) (s 121 0) (s 123 0 + 1) (eo (s 56) (s 123 0 + 1) (s 121 0 - (s 123 0 + 1)).toNat) = -1 := by
                    rw [← n5, ← n2]
                    exact kdn_none h13 h14 h15
                  exact ⟨_, _, _, _, rfl, rfl, by decide, by show (fb 0 ≤ s 121 0 ∧ 0 ≤ fb 0) ∧ 0 ≤ fa 0 ∧ fa 0 ≤ 121; omega, Or.inr (Or.inl ⟨n1, hkd, by omega⟩)⟩
              · rw [if_neg e93]
                show V 96 [some (.inr (some 49)), none] [.inl 0] (WW (ab_s (ab_s (ab_s s 122 fa) 123 fb) 124 fc)) 0 0
                refine rb_if_eq hV (tgt := 141) dX10_kind_96 (by decide) (by unfold ab_r at *; omega) (fun _ => ?_) (fun z => absurd z (by decide))
                have h15 : ¬ isNm (s 56) (s 121 0) 15 (fa 0) (fb 0) := fun q => e93 (by have q2 := (isNm_15 _ _ _ _).mp q; omega)
                clear e93
                refine rb_iconst hV dX10_kind_141 ?_
                refine rb_istore_n hV (L2 := [some (.inr (some 49)), some (.inl (-1))]) dX10_kind_142 rfl (Nat.le_of_ble_eq_true rfl) rfl ?_
                refine rb_aload_n hV dX10_kind_143 rfl rfl ?_
                refine rb_get hV (v := .inl (fc 0)) dX10_kind_144 ⟨RX10, TX10, 24, rfl, (Nat.le_of_ble_eq_true rfl), lf_X10_100⟩ (gw_49 _) rfl ?_
                refine rb_if_ge hV (tgt := 162) dX10_kind_147 (by decide) (by unfold ab_r at *; omega) (fun c147 => absurd c147 (by omega)) (fun c147 => ?_)
                refine rb_iload_n hV dX10_kind_150 rfl rfl ?_
                refine rb_if_ge hV (tgt := 162) dX10_kind_151 (by decide) (by unfold ab_r at *; omega) (fun z => absurd z (by decide)) (fun _ => ?_)
                refine rb_aload_n hV dX10_kind_154 rfl rfl ?_
                refine rb_aload_n hV dX10_kind_155 rfl rfl ?_
                refine rb_get hV (v := .inl (fa 0)) dX10_kind_156 ⟨RX10, TX10, 24, rfl, (Nat.le_of_ble_eq_true rfl), lf_X10_106⟩ (gw_49 _) rfl ?_
                refine rb_put hV (C := RX10) (T := TX10) (N := 24) (ci := 9) (j := 14) dX10_kind_159 rfl (Nat.le_of_ble_eq_true rfl) lf_X10_100 rfl (gw_49 _) (Nat.le_of_ble_eq_true rfl) (ft_X10_14 _) ((pw_49_14 _ _).trans (congrArg WW (ab_s_same _ 124 _ _))) ?_
                refine rb_iload_n hV dX10_kind_162 rfl rfl ?_
                refine rb_ret hV (r := some (.inl (-1))) dX10_kind_163 rfl ⟨(Nat.le_of_ble_eq_true rfl), (Nat.le_of_ble_eq_true rfl)⟩ trivial ?_
                obtain ⟨n1, n2, n3, n4, n5⟩ := hnb2 (by omega)
                have hkd : kdn (s 56) (s 121 0) (s 123 0 + 1) (eo (s 56) (s 123 0 + 1) (s 121 0 - (s 123 0 + 1)).toNat) = -1 := by
                  rw [← n5, ← n2]
                  exact kdn_none h13 h14 h15
                exact ⟨_, _, _, _, rfl, rfl, by decide, by show (fb 0 ≤ s 121 0 ∧ 0 ≤ fb 0) ∧ 0 ≤ fa 0 ∧ fa 0 ≤ 121; omega, Or.inr (Or.inl ⟨n1, hkd, by omega⟩)⟩
          · rw [if_neg e61]
            show V 64 [some (.inr (some 49)), none] [.inl 0] (WW (ab_s (ab_s (ab_s s 122 fa) 123 fb) 124 fc)) 0 0
            refine rb_if_eq hV (tgt := 84) dX10_kind_64 (by decide) (by unfold ab_r at *; omega) (fun _ => ?_) (fun z => absurd z (by decide))
            have h14 : ¬ isNm (s 56) (s 121 0) 14 (fa 0) (fb 0) := fun q => e61 (by have q2 := (isNm_14 _ _ _ _).mp q; omega)
            clear e52 e61
            refine rb_aload_n hV dX10_kind_84 rfl rfl ?_
            refine rb_bipush hV dX10_kind_85 (by decide) ?_
            refine rb_bipush hV dX10_kind_87 (by decide) ?_
            refine rb_bipush hV dX10_kind_89 (by decide) ?_
            refine rb_bipush hV dX10_kind_91 (by decide) ?_
            refine rb_callV hV (rest := []) dX10_kind_93 (c_X10_isPiece (ab_s (ab_s (ab_s s 122 fa) 123 fb) 124 fc) 115 101 110 116 (by decide) (show 0 ≤ (fa 0) by omega) (show (fb 0) ≤ 120 by omega) (show (fa 0) ≤ 121 by omega) (show 0 ≤ (fb 0) by omega) ht) lk_X10_113 rfl (Or.inl ⟨9, _, TX10, 24, gw_49 _, rfl⟩) rfl ⟨rfl, rfl, (Nat.le_of_ble_eq_true rfl), (Nat.le_of_ble_eq_true rfl), (Nat.le_of_ble_eq_true rfl), (Nat.le_of_ble_eq_true rfl)⟩ (Nat.le_of_ble_eq_true rfl) (fun r9 h9 p9 => ?_)
            obtain ⟨rfl, rfl⟩ := p9
            show V 96 [some (.inr (some 49)), none] [.inl (if 3 < (fb 0) - (fa 0) ∧ s 56 (fa 0) = 115 ∧ s 56 ((fa 0) + 1) = 101 ∧ s 56 ((fa 0) + 2) = 110 ∧ s 56 ((fa 0) + 3) = 116 then 1 else 0)] (WW (ab_s (ab_s (ab_s s 122 fa) 123 fb) 124 fc)) 0 0
            by_cases e93 : 3 < (fb 0) - (fa 0) ∧ s 56 (fa 0) = 115 ∧ s 56 ((fa 0) + 1) = 101 ∧ s 56 ((fa 0) + 2) = 110 ∧ s 56 ((fa 0) + 3) = 116
            · rw [if_pos e93]
              show V 96 [some (.inr (some 49)), none] [.inl 1] (WW (ab_s (ab_s (ab_s s 122 fa) 123 fb) 124 fc)) 0 0
              refine rb_if_eq hV (tgt := 141) dX10_kind_96 (by decide) (by unfold ab_r at *; omega) (fun z => absurd z (by decide)) (fun _ => ?_)
              refine rb_aload_n hV dX10_kind_99 rfl rfl ?_
              refine rb_bipush hV dX10_kind_100 (by decide) ?_
              refine rb_callV hV (rest := []) dX10_kind_102 (c_X10_isLong (ab_s (ab_s (ab_s s 122 fa) 123 fb) 124 fc) 8 (by decide) (show 0 ≤ (fa 0) by omega) (show (fb 0) ≤ 120 by omega) (show (fa 0) ≤ 121 by omega) (show 0 ≤ (fb 0) by omega)) lk_X10_117 rfl (Or.inl ⟨9, _, TX10, 24, gw_49 _, rfl⟩) rfl ⟨rfl, rfl, (Nat.le_of_ble_eq_true rfl), (Nat.le_of_ble_eq_true rfl), (Nat.le_of_ble_eq_true rfl), (Nat.le_of_ble_eq_true rfl)⟩ (Nat.le_of_ble_eq_true rfl) (fun r9 h9 p9 => ?_)
              obtain ⟨rfl, rfl⟩ := p9
              show V 105 [some (.inr (some 49)), none] [.inl (if (fb 0) - (fa 0) = 8 then 1 else 0)] (WW (ab_s (ab_s (ab_s s 122 fa) 123 fb) 124 fc)) 0 0
              by_cases e102 : (fb 0) - (fa 0) = 8
              · rw [if_pos e102]
                show V 105 [some (.inr (some 49)), none] [.inl 1] (WW (ab_s (ab_s (ab_s s 122 fa) 123 fb) 124 fc)) 0 0
                refine rb_if_eq hV (tgt := 141) dX10_kind_105 (by decide) (by unfold ab_r at *; omega) (fun z => absurd z (by decide)) (fun _ => ?_)
                refine rb_aload_n hV dX10_kind_108 rfl rfl ?_
                refine rb_bipush hV dX10_kind_109 (by decide) ?_
                refine rb_bipush hV dX10_kind_111 (by decide) ?_
                refine rb_bipush hV dX10_kind_113 (by decide) ?_
                refine rb_callV hV (rest := []) dX10_kind_115 (c_X10_endsWith (ab_s (ab_s (ab_s s 122 fa) 123 fb) 124 fc) 110 99 101 (by decide) (show 3 ≤ (fb 0) ∧ (fb 0) ≤ 120 by omega) ht) lk_X10_121 rfl (Or.inl ⟨9, _, TX10, 24, gw_49 _, rfl⟩) rfl ⟨rfl, rfl, (Nat.le_of_ble_eq_true rfl), (Nat.le_of_ble_eq_true rfl), (Nat.le_of_ble_eq_true rfl), (Nat.le_of_ble_eq_true rfl)⟩ (Nat.le_of_ble_eq_true rfl) (fun r9 h9 p9 => ?_)
                obtain ⟨rfl, rfl⟩ := p9
                show V 118 [some (.inr (some 49)), none] [.inl (if s 56 ((fb 0) - 3) = 110 ∧ s 56 ((fb 0) - 2) = 99 ∧ s 56 ((fb 0) - 1) = 101 then 1 else 0)] (WW (ab_s (ab_s (ab_s s 122 fa) 123 fb) 124 fc)) 0 0
                by_cases e115 : s 56 ((fb 0) - 3) = 110 ∧ s 56 ((fb 0) - 2) = 99 ∧ s 56 ((fb 0) - 1) = 101
                · rw [if_pos e115]
                  show V 118 [some (.inr (some 49)), none] [.inl 1] (WW (ab_s (ab_s (ab_s s 122 fa) 123 fb) 124 fc)) 0 0
                  refine rb_if_eq hV (tgt := 141) dX10_kind_118 (by decide) (by unfold ab_r at *; omega) (fun z => absurd z (by decide)) (fun _ => ?_)
                  refine rb_aload_n hV dX10_kind_121 rfl rfl ?_
                  refine rb_get hV (v := .inr (some 56)) dX10_kind_122 ⟨RX10, TX10, 24, rfl, (Nat.le_of_ble_eq_true rfl), lf_X10_38⟩ (gw_49 _) rfl ?_
                  refine rb_aload_n hV dX10_kind_125 rfl rfl ?_
                  refine rb_get hV (v := .inl (fa 0)) dX10_kind_126 ⟨RX10, TX10, 24, rfl, (Nat.le_of_ble_eq_true rfl), lf_X10_106⟩ (gw_49 _) rfl ?_
                  refine rb_iconst hV dX10_kind_129 ?_
                  refine rb_iadd hV dX10_kind_130 ?_
                  refine rb_cald hV (f := (s 56)) dX10_kind_131 (gw_56 _) (Nat.le_of_ble_eq_true rfl) (by omega) ?_
                  refine rb_bipush hV dX10_kind_132 (by decide) ?_
                  have h4r := ht (fa 0 + 4)
                  refine rb_icmp_ne hV (tgt := 141) dX10_kind_134 (by decide) ⟨(by unfold ab_r at *; omega), (by unfold ab_r at *; omega)⟩ (fun c134 => ?_) (fun c134 => ?_)
                  · have h15 : ¬ isNm (s 56) (s 121 0) 15 (fa 0) (fb 0) := fun q => c134 (by have q2 := (isNm_15 _ _ _ _).mp q; omega)
                    clear e93 e102 e115 c134
                    refine rb_iconst hV dX10_kind_141 ?_
                    refine rb_istore_n hV (L2 := [some (.inr (some 49)), some (.inl (-1))]) dX10_kind_142 rfl (Nat.le_of_ble_eq_true rfl) rfl ?_
                    refine rb_aload_n hV dX10_kind_143 rfl rfl ?_
                    refine rb_get hV (v := .inl (fc 0)) dX10_kind_144 ⟨RX10, TX10, 24, rfl, (Nat.le_of_ble_eq_true rfl), lf_X10_100⟩ (gw_49 _) rfl ?_
                    refine rb_if_ge hV (tgt := 162) dX10_kind_147 (by decide) (by unfold ab_r at *; omega) (fun c147 => absurd c147 (by omega)) (fun c147 => ?_)
                    refine rb_iload_n hV dX10_kind_150 rfl rfl ?_
                    refine rb_if_ge hV (tgt := 162) dX10_kind_151 (by decide) (by unfold ab_r at *; omega) (fun z => absurd z (by decide)) (fun _ => ?_)
                    refine rb_aload_n hV dX10_kind_154 rfl rfl ?_
                    refine rb_aload_n hV dX10_kind_155 rfl rfl ?_
                    refine rb_get hV (v := .inl (fa 0)) dX10_kind_156 ⟨RX10, TX10, 24, rfl, (Nat.le_of_ble_eq_true rfl), lf_X10_106⟩ (gw_49 _) rfl ?_
                    refine rb_put hV (C := RX10) (T := TX10) (N := 24) (ci := 9) (j := 14) dX10_kind_159 rfl (Nat.le_of_ble_eq_true rfl) lf_X10_100 rfl (gw_49 _) (Nat.le_of_ble_eq_true rfl) (ft_X10_14 _) ((pw_49_14 _ _).trans (congrArg WW (ab_s_same _ 124 _ _))) ?_
                    refine rb_iload_n hV dX10_kind_162 rfl rfl ?_
                    refine rb_ret hV (r := some (.inl (-1))) dX10_kind_163 rfl ⟨(Nat.le_of_ble_eq_true rfl), (Nat.le_of_ble_eq_true rfl)⟩ trivial ?_
                    obtain ⟨n1, n2, n3, n4, n5⟩ := hnb2 (by omega)
                    have hkd : kdn (s 56) (s 121 0) (s 123 0 + 1) (eo (s 56) (s 123 0 + 1) (s 121 0 - (s 123 0 + 1)).toNat) = -1 := by
                      rw [← n5, ← n2]
                      exact kdn_none h13 h14 h15
                    exact ⟨_, _, _, _, rfl, rfl, by decide, by show (fb 0 ≤ s 121 0 ∧ 0 ≤ fb 0) ∧ 0 ≤ fa 0 ∧ fa 0 ≤ 121; omega, Or.inr (Or.inl ⟨n1, hkd, by omega⟩)⟩
                  · have h15 : isNm (s 56) (s 121 0) 15 (fa 0) (fb 0) := (isNm_15 _ _ _ _).mpr (by omega)
                    refine rb_iconst hV dX10_kind_137 ?_
                    refine rb_goto hV (tgt := 142) dX10_kind_138 (by decide) ?_
                    refine rb_istore_n hV (L2 := [some (.inr (some 49)), some (.inl 2)]) dX10_kind_142 rfl (Nat.le_of_ble_eq_true rfl) rfl ?_
                    refine rb_aload_n hV dX10_kind_143 rfl rfl ?_
                    refine rb_get hV (v := .inl (fc 0)) dX10_kind_144 ⟨RX10, TX10, 24, rfl, (Nat.le_of_ble_eq_true rfl), lf_X10_100⟩ (gw_49 _) rfl ?_
                    refine rb_if_ge hV (tgt := 162) dX10_kind_147 (by decide) (by unfold ab_r at *; omega) (fun c147 => absurd c147 (by omega)) (fun c147 => ?_)
                    refine rb_iload_n hV dX10_kind_150 rfl rfl ?_
                    refine rb_if_ge hV (tgt := 162) dX10_kind_151 (by decide) (by unfold ab_r at *; omega) (fun _ => ?_) (fun z => absurd z (by decide))
                    refine rb_iload_n hV dX10_kind_162 rfl rfl ?_
                    refine rb_ret hV (r := some (.inl 2)) dX10_kind_163 rfl ⟨(Nat.le_of_ble_eq_true rfl), (Nat.le_of_ble_eq_true rfl)⟩ trivial ?_
                    obtain ⟨n1, n2, n3, n4, n5⟩ := hnb2 (by omega)
                    have hkd : kdn (s 56) (s 121 0) (s 123 0 + 1) (eo (s 56) (s 123 0 + 1) (s 121 0 - (s 123 0 + 1)).toNat) = 2 := by
                      rw [← n5, ← n2]
                      exact (cif_neg h13).trans ((cif_neg h14).trans (cif_pos h15))
                    exact ⟨_, _, _, _, rfl, rfl, by decide, by show (fb 0 ≤ s 121 0 ∧ 0 ≤ fb 0) ∧ 0 ≤ fa 0 ∧ fa 0 ≤ 121; omega, Or.inr (Or.inr ⟨n1, by omega, hkd.symm, by omega, n5⟩)⟩
                · rw [if_neg e115]
                  show V 118 [some (.inr (some 49)), none] [.inl 0] (WW (ab_s (ab_s (ab_s s 122 fa) 123 fb) 124 fc)) 0 0
                  refine rb_if_eq hV (tgt := 141) dX10_kind_118 (by decide) (by unfold ab_r at *; omega) (fun _ => ?_) (fun z => absurd z (by decide))
                  have h15 : ¬ isNm (s 56) (s 121 0) 15 (fa 0) (fb 0) := fun q => e115 (by have q2 := (isNm_15 _ _ _ _).mp q; omega)
                  clear e93 e102 e115
                  refine rb_iconst hV dX10_kind_141 ?_
                  refine rb_istore_n hV (L2 := [some (.inr (some 49)), some (.inl (-1))]) dX10_kind_142 rfl (Nat.le_of_ble_eq_true rfl) rfl ?_
                  refine rb_aload_n hV dX10_kind_143 rfl rfl ?_
                  refine rb_get hV (v := .inl (fc 0)) dX10_kind_144 ⟨RX10, TX10, 24, rfl, (Nat.le_of_ble_eq_true rfl), lf_X10_100⟩ (gw_49 _) rfl ?_
                  refine rb_if_ge hV (tgt := 162) dX10_kind_147 (by decide) (by unfold ab_r at *; omega) (fun c147 => absurd c147 (by omega)) (fun c147 => ?_)
                  refine rb_iload_n hV dX10_kind_150 rfl rfl ?_
                  refine rb_if_ge hV (tgt := 162) dX10_kind_151 (by decide) (by unfold ab_r at *; omega) (fun z => absurd z (by decide)) (fun _ => ?_)
                  refine rb_aload_n hV dX10_kind_154 rfl rfl ?_
                  refine rb_aload_n hV dX10_kind_155 rfl rfl ?_
                  refine rb_get hV (v := .inl (fa 0)) dX10_kind_156 ⟨RX10, TX10, 24, rfl, (Nat.le_of_ble_eq_true rfl), lf_X10_106⟩ (gw_49 _) rfl ?_
                  refine rb_put hV (C := RX10) (T := TX10) (N := 24) (ci := 9) (j := 14) dX10_kind_159 rfl (Nat.le_of_ble_eq_true rfl) lf_X10_100 rfl (gw_49 _) (Nat.le_of_ble_eq_true rfl) (ft_X10_14 _) ((pw_49_14 _ _).trans (congrArg WW (ab_s_same _ 124 _ _))) ?_
                  refine rb_iload_n hV dX10_kind_162 rfl rfl ?_
                  refine rb_ret hV (r := some (.inl (-1))) dX10_kind_163 rfl ⟨(Nat.le_of_ble_eq_true rfl), (Nat.le_of_ble_eq_true rfl)⟩ trivial ?_
                  obtain ⟨n1, n2, n3, n4, n5⟩ := hnb2 (by omega)
                  have hkd : kdn (s 56) (s 121 0) (s 123 0 + 1) (eo (s 56) (s 123 0 + 1) (s 121 0 - (s 123 0 + 1)).toNat) = -1 := by
                    rw [← n5, ← n2]
                    exact kdn_none h13 h14 h15
                  exact ⟨_, _, _, _, rfl, rfl, by decide, by show (fb 0 ≤ s 121 0 ∧ 0 ≤ fb 0) ∧ 0 ≤ fa 0 ∧ fa 0 ≤ 121; omega, Or.inr (Or.inl ⟨n1, hkd, by omega⟩)⟩
              · rw [if_neg e102]
                show V 105 [some (.inr (some 49)), none] [.inl 0] (WW (ab_s (ab_s (ab_s s 122 fa) 123 fb) 124 fc)) 0 0
                refine rb_if_eq hV (tgt := 141) dX10_kind_105 (by decide) (by unfold ab_r at *; omega) (fun _ => ?_) (fun z => absurd z (by decide))
                have h15 : ¬ isNm (s 56) (s 121 0) 15 (fa 0) (fb 0) := fun q => e102 (by have q2 := (isNm_15 _ _ _ _).mp q; omega)
                clear e93 e102
                refine rb_iconst hV dX10_kind_141 ?_
                refine rb_istore_n hV (L2 := [some (.inr (some 49)), some (.inl (-1))]) dX10_kind_142 rfl (Nat.le_of_ble_eq_true rfl) rfl ?_
                refine rb_aload_n hV dX10_kind_143 rfl rfl ?_
                refine rb_get hV (v := .inl (fc 0)) dX10_kind_144 ⟨RX10, TX10, 24, rfl, (Nat.le_of_ble_eq_true rfl), lf_X10_100⟩ (gw_49 _) rfl ?_
                refine rb_if_ge hV (tgt := 162) dX10_kind_147 (by decide) (by unfold ab_r at *; omega) (fun c147 => absurd c147 (by omega)) (fun c147 => ?_)
                refine rb_iload_n hV dX10_kind_150 rfl rfl ?_
                refine rb_if_ge hV (tgt := 162) dX10_kind_151 (by decide) (by unfold ab_r at *; omega) (fun z => absurd z (by decide)) (fun _ => ?_)
                refine rb_aload_n hV dX10_kind_154 rfl rfl ?_
                refine rb_aload_n hV dX10_kind_155 rfl rfl ?_
                refine rb_get hV (v := .inl (fa 0)) dX10_kind_156 ⟨RX10, TX10, 24, rfl, (Nat.le_of_ble_eq_true rfl), lf_X10_106⟩ (gw_49 _) rfl ?_
                refine rb_put hV (C := RX10) (T := TX10) (N := 24) (ci := 9) (j := 14) dX10_kind_159 rfl (Nat.le_of_ble_eq_true rfl) lf_X10_100 rfl (gw_49 _) (Nat.le_of_ble_eq_true rfl) (ft_X10_14 _) ((pw_49_14 _ _).trans (congrArg WW (ab_s_same _ 124 _ _))) ?_
                refine rb_iload_n hV dX10_kind_162 rfl rfl ?_
                refine rb_ret hV (r := some (.inl (-1))) dX10_kind_163 rfl ⟨(Nat.le_of_ble_eq_true rfl), (Nat.le_of_ble_eq_true rfl)⟩ trivial ?_
                obtain ⟨n1, n2, n3, n4, n5⟩ := hnb2 (by omega)
                have hkd : kdn (s 56) (s 121 0) (s 123 0 + 1) (eo (s 56) (s 123 0 + 1) (s 121 0 - (s 123 0 + 1)).toNat) = -1 := by
                  rw [← n5, ← n2]
                  exact kdn_none h13 h14 h15
                exact ⟨_, _, _, _, rfl, rfl, by decide, by show (fb 0 ≤ s 121 0 ∧ 0 ≤ fb 0) ∧ 0 ≤ fa 0 ∧ fa 0 ≤ 121; omega, Or.inr (Or.inl ⟨n1, hkd, by omega⟩)⟩
            · rw [if_neg e93]
              show V 96 [some (.inr (some 49)), none] [.inl 0] (WW (ab_s (ab_s (ab_s s 122 fa) 123 fb) 124 fc)) 0 0
              refine rb_if_eq hV (tgt := 141) dX10_kind_96 (by decide) (by unfold ab_r at *; omega) (fun _ => ?_) (fun z => absurd z (by decide))
              have h15 : ¬ isNm (s 56) (s 121 0) 15 (fa 0) (fb 0) := fun q => e93 (by have q2 := (isNm_15 _ _ _ _).mp q; omega)
              clear e93
              refine rb_iconst hV dX10_kind_141 ?_
              refine rb_istore_n hV (L2 := [some (.inr (some 49)), some (.inl (-1))]) dX10_kind_142 rfl (Nat.le_of_ble_eq_true rfl) rfl ?_
              refine rb_aload_n hV dX10_kind_143 rfl rfl ?_
              refine rb_get hV (v := .inl (fc 0)) dX10_kind_144 ⟨RX10, TX10, 24, rfl, (Nat.le_of_ble_eq_true rfl), lf_X10_100⟩ (gw_49 _) rfl ?_
              refine rb_if_ge hV (tgt := 162) dX10_kind_147 (by decide) (by unfold ab_r at *; omega) (fun c147 => absurd c147 (by omega)) (fun c147 => ?_)
              refine rb_iload_n hV dX10_kind_150 rfl rfl ?_
              refine rb_if_ge hV (tgt := 162) dX10_kind_151 (by decide) (by unfold ab_r at *; omega) (fun z => absurd z (by decide)) (fun _ => ?_)
              refine rb_aload_n hV dX10_kind_154 rfl rfl ?_
              refine rb_aload_n hV dX10_kind_155 rfl rfl ?_
              refine rb_get hV (v := .inl (fa 0)) dX10_kind_156 ⟨RX10, TX10, 24, rfl, (Nat.le_of_ble_eq_true rfl), lf_X10_106⟩ (gw_49 _) rfl ?_
              refine rb_put hV (C := RX10) (T := TX10) (N := 24) (ci := 9) (j := 14) dX10_kind_159 rfl (Nat.le_of_ble_eq_true rfl) lf_X10_100 rfl (gw_49 _) (Nat.le_of_ble_eq_true rfl) (ft_X10_14 _) ((pw_49_14 _ _).trans (congrArg WW (ab_s_same _ 124 _ _))) ?_
              refine rb_iload_n hV dX10_kind_162 rfl rfl ?_
              refine rb_ret hV (r := some (.inl (-1))) dX10_kind_163 rfl ⟨(Nat.le_of_ble_eq_true rfl), (Nat.le_of_ble_eq_true rfl)⟩ trivial ?_
              obtain ⟨n1, n2, n3, n4, n5⟩ := hnb2 (by omega)
              have hkd : kdn (s 56) (s 121 0) (s 123 0 + 1) (eo (s 56) (s 123 0 + 1) (s 121 0 - (s 123 0 + 1)).toNat) = -1 := by
                rw [← n5, ← n2]
                exact kdn_none h13 h14 h15
              exact ⟨_, _, _, _, rfl, rfl, by decide, by show (fb 0 ≤ s 121 0 ∧ 0 ≤ fb 0) ∧ 0 ≤ fa 0 ∧ fa 0 ≤ 121; omega, Or.inr (Or.inl ⟨n1, hkd, by omega⟩)⟩
        · rw [if_neg e52]
          show V 55 [some (.inr (some 49)), none] [.inl 0] (WW (ab_s (ab_s (ab_s s 122 fa) 123 fb) 124 fc)) 0 0
          refine rb_if_eq hV (tgt := 84) dX10_kind_55 (by decide) (by unfold ab_r at *; omega) (fun _ => ?_) (fun z => absurd z (by decide))
          have h14 : ¬ isNm (s 56) (s 121 0) 14 (fa 0) (fb 0) := fun q => e52 (by have q2 := (isNm_14 _ _ _ _).mp q; omega)
          clear e52
          refine rb_aload_n hV dX10_kind_84 rfl rfl ?_
          refine rb_bipush hV dX10_kind_85 (by decide) ?_
          refine rb_bipush hV dX10_kind_87 (by decide) ?_
          refine rb_bipush hV dX10_kind_89 (by decide) ?_
          refine rb_bipush hV dX10_kind_91 (by decide) ?_
          refine rb_callV hV (rest := []) dX10_kind_93 (c_X10_isPiece (ab_s (ab_s (ab_s s 122 fa) 123 fb) 124 fc) 115 101 110 116 (by decide) (show 0 ≤ (fa 0) by omega) (show (fb 0) ≤ 120 by omega) (show (fa 0) ≤ 121 by omega) (show 0 ≤ (fb 0) by omega) ht) lk_X10_113 rfl (Or.inl ⟨9, _, TX10, 24, gw_49 _, rfl⟩) rfl ⟨rfl, rfl, (Nat.le_of_ble_eq_true rfl), (Nat.le_of_ble_eq_true rfl), (Nat.le_of_ble_eq_true rfl), (Nat.le_of_ble_eq_true rfl)⟩ (Nat.le_of_ble_eq_true rfl) (fun r9 h9 p9 => ?_)
          obtain ⟨rfl, rfl⟩ := p9
          show V 96 [some (.inr (some 49)), none] [.inl (if 3 < (fb 0) - (fa 0) ∧ s 56 (fa 0) = 115 ∧ s 56 ((fa 0) + 1) = 101 ∧ s 56 ((fa 0) + 2) = 110 ∧ s 56 ((fa 0) + 3) = 116 then 1 else 0)] (WW (ab_s (ab_s (ab_s s 122 fa) 123 fb) 124 fc)) 0 0
          by_cases e93 : 3 < (fb 0) - (fa 0) ∧ s 56 (fa 0) = 115 ∧ s 56 ((fa 0) + 1) = 101 ∧ s 56 ((fa 0) + 2) = 110 ∧ s 56 ((fa 0) + 3) = 116
          · rw [if_pos e93]
            show V 96 [some (.inr (some 49)), none] [.inl 1] (WW (ab_s (ab_s (ab_s s 122 fa) 123 fb) 124 fc)) 0 0
            refine rb_if_eq hV (tgt := 141) dX10_kind_96 (by decide) (by unfold ab_r at *; omega) (fun z => absurd z (by decide)) (fun _ => ?_)
            refine rb_aload_n hV dX10_kind_99 rfl rfl ?_
            refine rb_bipush hV dX10_kind_100 (by decide) ?_
            refine rb_callV hV (rest := []) dX10_kind_102 (c_X10_isLong (ab_s (ab_s (ab_s s 122 fa) 123 fb) 124 fc) 8 (by decide) (show 0 ≤ (fa 0) by omega) (show (fb 0) ≤ 120 by omega) (show (fa 0) ≤ 121 by omega) (show 0 ≤ (fb 0) by omega)) lk_X10_117 rfl (Or.inl ⟨9, _, TX10, 24, gw_49 _, rfl⟩) rfl ⟨rfl, rfl, (Nat.le_of_ble_eq_true rfl), (Nat.le_of_ble_eq_true rfl), (Nat.le_of_ble_eq_true rfl), (Nat.le_of_ble_eq_true rfl)⟩ (Nat.le_of_ble_eq_true rfl) (fun r9 h9 p9 => ?_)
            obtain ⟨rfl, rfl⟩ := p9
            show V 105 [some (.inr (some 49)), none] [.inl (if (fb 0) - (fa 0) = 8 then 1 else 0)] (WW (ab_s (ab_s (ab_s s 122 fa) 123 fb) 124 fc)) 0 0
            by_cases e102 : (fb 0) - (fa 0) = 8
            · rw [if_pos e102]
              show V 105 [some (.inr (some 49)), none] [.inl 1] (WW (ab_s (ab_s (ab_s s 122 fa) 123 fb) 124 fc)) 0 0
              refine rb_if_eq hV (tgt := 141) dX10_kind_105 (by decide) (by unfold ab_r at *; omega) (fun z => absurd z (by decide)) (fun _ => ?_)
              refine rb_aload_n hV dX10_kind_108 rfl rfl ?_
              refine rb_bipush hV dX10_kind_109 (by decide) ?_
              refine rb_bipush hV dX10_kind_111 (by decide) ?_
              refine rb_bipush hV dX10_kind_113 (by decide) ?_
              refine rb_callV hV (rest := []) dX10_kind_115 (c_X10_endsWith (ab_s (ab_s (ab_s s 122 fa) 123 fb) 124 fc) 110 99 101 (by decide) (show 3 ≤ (fb 0) ∧ (fb 0) ≤ 120 by omega) ht) lk_X10_121 rfl (Or.inl ⟨9, _, TX10, 24, gw_49 _, rfl⟩) rfl ⟨rfl, rfl, (Nat.le_of_ble_eq_true rfl), (Nat.le_of_ble_eq_true rfl), (Nat.le_of_ble_eq_true rfl), (Nat.le_of_ble_eq_true rfl)⟩ (Nat.le_of_ble_eq_true rfl) (fun r9 h9 p9 => ?_)
              obtain ⟨rfl, rfl⟩ := p9
              show V 118 [some (.inr (some 49)), none] [.inl (if s 56 ((fb 0) - 3) = 110 ∧ s 56 ((fb 0) - 2) = 99 ∧ s 56 ((fb 0) - 1) = 101 then 1 else 0)] (WW (ab_s (ab_s (ab_s s 122 fa) 123 fb) 124 fc)) 0 0
              by_cases e115 : s 56 ((fb 0) - 3) = 110 ∧ s 56 ((fb 0) - 2) = 99 ∧ s 56 ((fb 0) - 1) = 101
              · rw [if_pos e115]
                show V 118 [some (.inr (some 49)), none] [.inl 1] (WW (ab_s (ab_s (ab_s s 122 fa) 123 fb) 124 fc)) 0 0
                refine rb_if_eq hV (tgt := 141) dX10_kind_118 (by decide) (by unfold ab_r at *; omega) (fun z => absurd z (by decide)) (fun _ => ?_)
                refine rb_aload_n hV dX10_kind_121 rfl rfl ?_
                refine rb_get hV (v := .inr (some 56)) dX10_kind_122 ⟨RX10, TX10, 24, rfl, (Nat.le_of_ble_eq_true rfl), lf_X10_38⟩ (gw_49 _) rfl ?_
                refine rb_aload_n hV dX10_kind_125 rfl rfl ?_
                refine rb_get hV (v := .inl (fa 0)) dX10_kind_126 ⟨RX10, TX10, 24, rfl, (Nat.le_of_ble_eq_true rfl), lf_X10_106⟩ (gw_49 _) rfl ?_
                refine rb_iconst hV dX10_kind_129 ?_
                refine rb_iadd hV dX10_kind_130 ?_
                refine rb_cald hV (f := (s 56)) dX10_kind_131 (gw_56 _) (Nat.le_of_ble_eq_true rfl) (by omega) ?_
                refine rb_bipush hV dX10_kind_132 (by decide) ?_
                have h4r := ht (fa 0 + 4)
                refine rb_icmp_ne hV (tgt := 141) dX10_kind_134 (by decide) ⟨(by unfold ab_r at *; omega), (by unfold ab_r at *; omega)⟩ (fun c134 => ?_) (fun c134 => ?_)
                · have h15 : ¬ isNm (s 56) (s 121 0) 15 (fa 0) (fb 0) := fun q => c134 (by have q2 := (isNm_15 _ _ _ _).mp q; omega)
                  clear e93 e102 e115 c134
                  refine rb_iconst hV dX10_kind_141 ?_
                  refine rb_istore_n hV (L2 := [some (.inr (some 49)), some (.inl (-1))]) dX10_kind_142 rfl (Nat.le_of_ble_eq_true rfl) rfl ?_
                  refine rb_aload_n hV dX10_kind_143 rfl rfl ?_
                  refine rb_get hV (v := .inl (fc 0)) dX10_kind_144 ⟨RX10, TX10, 24, rfl, (Nat.le_of_ble_eq_true rfl), lf_X10_100⟩ (gw_49 _) rfl ?_
                  refine rb_if_ge hV (tgt := 162) dX10_kind_147 (by decide) (by unfold ab_r at *; omega) (fun c147 => absurd c147 (by omega)) (fun c147 => ?_)
                  refine rb_iload_n hV dX10_kind_150 rfl rfl ?_
                  refine rb_if_ge hV (tgt := 162) dX10_kind_151 (by decide) (by unfold ab_r at *; omega) (fun z => absurd z (by decide)) (fun _ => ?_)
                  refine rb_aload_n hV dX10_kind_154 rfl rfl ?_
                  refine rb_aload_n hV dX10_kind_155 rfl rfl ?_
                  refine rb_get hV (v := .inl (fa 0)) dX10_kind_156 ⟨RX10, TX10, 24, rfl, (Nat.le_of_ble_eq_true rfl), lf_X10_106⟩ (gw_49 _) rfl ?_
                  refine rb_put hV (C := RX10) (T := TX10) (N := 24) (ci := 9) (j := 14) dX10_kind_159 rfl (Nat.le_of_ble_eq_true rfl) lf_X10_100 rfl (gw_49 _) (Nat.le_of_ble_eq_true rfl) (ft_X10_14 _) ((pw_49_14 _ _).trans (congrArg WW (ab_s_same _ 124 _ _))) ?_
                  refine rb_iload_n hV dX10_kind_162 rfl rfl ?_
                  refine rb_ret hV (r := some (.inl (-1))) dX10_kind_163 rfl ⟨(Nat.le_of_ble_eq_true rfl), (Nat.le_of_ble_eq_true rfl)⟩ trivial ?_
                  obtain ⟨n1, n2, n3, n4, n5⟩ := hnb2 (by omega)
                  have hkd : kdn (s 56) (s 121 0) (s 123 0 + 1) (eo (s 56) (s 123 0 + 1) (s 121 0 - (s 123 0 + 1)).toNat) = -1 := by
                    rw [← n5, ← n2]
                    exact kdn_none h13 h14 h15
                  exact ⟨_, _, _, _, rfl, rfl, by decide, by show (fb 0 ≤ s 121 0 ∧ 0 ≤ fb 0) ∧ 0 ≤ fa 0 ∧ fa 0 ≤ 121; omega, Or.inr (Or.inl ⟨n1, hkd, by omega⟩)⟩
                · have h15 : isNm (s 56) (s 121 0) 15 (fa 0) (fb 0) := (isNm_15 _ _ _ _).mpr (by omega)
                  refine rb_iconst hV dX10_kind_137 ?_
                  refine rb_goto hV (tgt := 142) dX10_kind_138 (by decide) ?_
                  refine rb_istore_n hV (L2 := [some (.inr (some 49)), some (.inl 2)]) dX10_kind_142 rfl (Nat.le_of_ble_eq_true rfl) rfl ?_
                  refine rb_aload_n hV dX10_kind_143 rfl rfl ?_
                  refine rb_get hV (v := .inl (fc 0)) dX10_kind_144 ⟨RX10, TX10, 24, rfl, (Nat.le_of_ble_eq_true rfl), lf_X10_100⟩ (gw_49 _) rfl ?_
                  refine rb_if_ge hV (tgt := 162) dX10_kind_147 (by decide) (by unfold ab_r at *; omega) (fun c147 => absurd c147 (by omega)) (fun c147 => ?_)
                  refine rb_iload_n hV dX10_kind_150 rfl rfl ?_
                  refine rb_if_ge hV (tgt := 162) dX10_kind_151 (by decide) (by unfold ab_r at *; omega) (fun _ => ?_) (fun z => absurd z (by decide))
                  refine rb_iload_n hV dX10_kind_162 rfl rfl ?_
                  refine rb_ret hV (r := some (.inl 2)) dX10_kind_163 rfl ⟨(Nat.le_of_ble_eq_true rfl), (Nat.le_of_ble_eq_true rfl)⟩ trivial ?_
                  obtain ⟨n1, n2, n3, n4, n5⟩ := hnb2 (by omega)
                  have hkd : kdn (s 56) (s 121 0) (s 123 0 + 1) (eo (s 56) (s 123 0 + 1) (s 121 0 - (s 123 0 + 1)).toNat) = 2 := by
                    rw [← n5, ← n2]
                    exact (cif_neg h13).trans ((cif_neg h14).trans (cif_pos h15))
                  exact ⟨_, _, _, _, rfl, rfl, by decide, by show (fb 0 ≤ s 121 0 ∧ 0 ≤ fb 0) ∧ 0 ≤ fa 0 ∧ fa 0 ≤ 121; omega, Or.inr (Or.inr ⟨n1, by omega, hkd.symm, by omega, n5⟩)⟩
              · rw [if_neg e115]
                show V 118 [some (.inr (some 49)), none] [.inl 0] (WW (ab_s (ab_s (ab_s s 122 fa) 123 fb) 124 fc)) 0 0
                refine rb_if_eq hV (tgt := 141) dX10_kind_118 (by decide) (by unfold ab_r at *; omega) (fun _ => ?_) (fun z => absurd z (by decide))
                have h15 : ¬ isNm (s 56) (s 121 0) 15 (fa 0) (fb 0) := fun q => e115 (by have q2 := (isNm_15 _ _ _ _).mp q; omega)
                clear e93 e102 e115
                refine rb_iconst hV dX10_kind_141 ?_
                refine rb_istore_n hV (L2 := [some (.inr (some 49)), some (.inl (-1))]) dX10_kind_142 rfl (Nat.le_of_ble_eq_true rfl) rfl ?_
                refine rb_aload_n hV dX10_kind_143 rfl rfl ?_
                refine rb_get hV (v := .inl (fc 0)) dX10_kind_144 ⟨RX10, TX10, 24, rfl, (Nat.le_of_ble_eq_true rfl), lf_X10_100⟩ (gw_49 _) rfl ?_
                refine rb_if_ge hV (tgt := 162) dX10_kind_147 (by decide) (by unfold ab_r at *; omega) (fun c147 => absurd c147 (by omega)) (fun c147 => ?_)
                refine rb_iload_n hV dX10_kind_150 rfl rfl ?_
                refine rb_if_ge hV (tgt := 162) dX10_kind_151 (by decide) (by unfold ab_r at *; omega) (fun z => absurd z (by decide)) (fun _ => ?_)
                refine rb_aload_n hV dX10_kind_154 rfl rfl ?_
                refine rb_aload_n hV dX10_kind_155 rfl rfl ?_
                refine rb_get hV (v := .inl (fa 0)) dX10_kind_156 ⟨RX10, TX10, 24, rfl, (Nat.le_of_ble_eq_true rfl), lf_X10_106⟩ (gw_49 _) rfl ?_
                refine rb_put hV (C := RX10) (T := TX10) (N := 24) (ci := 9) (j := 14) dX10_kind_159 rfl (Nat.le_of_ble_eq_true rfl) lf_X10_100 rfl (gw_49 _) (Nat.le_of_ble_eq_true rfl) (ft_X10_14 _) ((pw_49_14 _ _).trans (congrArg WW (ab_s_same _ 124 _ _))) ?_
                refine rb_iload_n hV dX10_kind_162 rfl rfl ?_
                refine rb_ret hV (r := some (.inl (-1))) dX10_kind_163 rfl ⟨(Nat.le_of_ble_eq_true rfl), (Nat.le_of_ble_eq_true rfl)⟩ trivial ?_
                obtain ⟨n1, n2, n3, n4, n5⟩ := hnb2 (by omega)
                have hkd : kdn (s 56) (s 121 0) (s 123 0 + 1) (eo (s 56) (s 123 0 + 1) (s 121 0 - (s 123 0 + 1)).toNat) = -1 := by
                  rw [← n5, ← n2]
                  exact kdn_none h13 h14 h15
                exact ⟨_, _, _, _, rfl, rfl, by decide, by show (fb 0 ≤ s 121 0 ∧ 0 ≤ fb 0) ∧ 0 ≤ fa 0 ∧ fa 0 ≤ 121; omega, Or.inr (Or.inl ⟨n1, hkd, by omega⟩)⟩
            · rw [if_neg e102]
              show V 105 [some (.inr (some 49)), none] [.inl 0] (WW (ab_s (ab_s (ab_s s 122 fa) 123 fb) 124 fc)) 0 0
              refine rb_if_eq hV (tgt := 141) dX10_kind_105 (by decide) (by unfold ab_r at *; omega) (fun _ => ?_) (fun z => absurd z (by decide))
              have h15 : ¬ isNm (s 56) (s 121 0) 15 (fa 0) (fb 0) := fun q => e102 (by have q2 := (isNm_15 _ _ _ _).mp q; omega)
              clear e93 e102
              refine rb_iconst hV dX10_kind_141 ?_
              refine rb_istore_n hV (L2 := [some (.inr (some 49)), some (.inl (-1))]) dX10_kind_142 rfl (Nat.le_of_ble_eq_true rfl) rfl ?_
              refine rb_aload_n hV dX10_kind_143 rfl rfl ?_
              refine rb_get hV (v := .inl (fc 0)) dX10_kind_144 ⟨RX10, TX10, 24, rfl, (Nat.le_of_ble_eq_true rfl), lf_X10_100⟩ (gw_49 _) rfl ?_
              refine rb_if_ge hV (tgt := 162) dX10_kind_147 (by decide) (by unfold ab_r at *; omega) (fun c147 => absurd c147 (by omega)) (fun c147 => ?_)
              refine rb_iload_n hV dX10_kind_150 rfl rfl ?_
              refine rb_if_ge hV (tgt := 162) dX10_kind_151 (by decide) (by unfold ab_r at *; omega) (fun z => absurd z (by decide)) (fun _ => ?_)
              refine rb_aload_n hV dX10_kind_154 rfl rfl ?_
              refine rb_aload_n hV dX10_kind_155 rfl rfl ?_
              refine rb_get hV (v := .inl (fa 0)) dX10_kind_156 ⟨RX10, TX10, 24, rfl, (Nat.le_of_ble_eq_true rfl), lf_X10_106⟩ (gw_49 _) rfl ?_
              refine rb_put hV (C := RX10) (T := TX10) (N := 24) (ci := 9) (j := 14) dX10_kind_159 rfl (Nat.le_of_ble_eq_true rfl) lf_X10_100 rfl (gw_49 _) (Nat.le_of_ble_eq_true rfl) (ft_X10_14 _) ((pw_49_14 _ _).trans (congrArg WW (ab_s_same _ 124 _ _))) ?_
              refine rb_iload_n hV dX10_kind_162 rfl rfl ?_
              refine rb_ret hV (r := some (.inl (-1))) dX10_kind_163 rfl ⟨(Nat.le_of_ble_eq_true rfl), (Nat.le_of_ble_eq_true rfl)⟩ trivial ?_
              obtain ⟨n1, n2, n3, n4, n5⟩ := hnb2 (by omega)
              have hkd : kdn (s 56) (s 121 0) (s 123 0 + 1) (eo (s 56) (s 123 0 + 1) (s 121 0 - (s 123 0 + 1)).toNat) = -1 := by
                rw [← n5, ← n2]
                exact kdn_none h13 h14 h15
              exact ⟨_, _, _, _, rfl, rfl, by decide, by show (fb 0 ≤ s 121 0 ∧ 0 ≤ fb 0) ∧ 0 ≤ fa 0 ∧ fa 0 ≤ 121; omega, Or.inr (Or.inl ⟨n1, hkd, by omega⟩)⟩
          · rw [if_neg e93]
            show V 96 [some (.inr (some 49)), none] [.inl 0] (WW (ab_s (ab_s (ab_s s 122 fa) 123 fb) 124 fc)) 0 0
            refine rb_if_eq hV (tgt := 141) dX10_kind_96 (by decide) (by unfold ab_r at *; omega) (fun _ => ?_) (fun z => absurd z (by decide))
            have h15 : ¬ isNm (s 56) (s 121 0) 15 (fa 0) (fb 0) := fun q => e93 (by have q2 := (isNm_15 _ _ _ _).mp q; omega)
            clear e93
            refine rb_iconst hV dX10_kind_141 ?_
            refine rb_istore_n hV (L2 := [some (.inr (some 49)), some (.inl (-1))]) dX10_kind_142 rfl (Nat.le_of_ble_eq_true rfl) rfl ?_
            refine rb_aload_n hV dX10_kind_143 rfl rfl ?_
            refine rb_get hV (v := .inl (fc 0)) dX10_kind_144 ⟨RX10, TX10, 24, rfl, (Nat.le_of_ble_eq_true rfl), lf_X10_100⟩ (gw_49 _) rfl ?_
            refine rb_if_ge hV (tgt := 162) dX10_kind_147 (by decide) (by unfold ab_r at *; omega) (fun c147 => absurd c147 (by omega)) (fun c147 => ?_)
            refine rb_iload_n hV dX10_kind_150 rfl rfl ?_
            refine rb_if_ge hV (tgt := 162) dX10_kind_151 (by decide) (by unfold ab_r at *; omega) (fun z => absurd z (by decide)) (fun _ => ?_)
            refine rb_aload_n hV dX10_kind_154 rfl rfl ?_
            refine rb_aload_n hV dX10_kind_155 rfl rfl ?_
            refine rb_get hV (v := .inl (fa 0)) dX10_kind_156 ⟨RX10, TX10, 24, rfl, (Nat.le_of_ble_eq_true rfl), lf_X10_106⟩ (gw_49 _) rfl ?_
            refine rb_put hV (C := RX10) (T := TX10) (N := 24) (ci := 9) (j := 14) dX10_kind_159 rfl (Nat.le_of_ble_eq_true rfl) lf_X10_100 rfl (gw_49 _) (Nat.le_of_ble_eq_true rfl) (ft_X10_14 _) ((pw_49_14 _ _).trans (congrArg WW (ab_s_same _ 124 _ _))) ?_
            refine rb_iload_n hV dX10_kind_162 rfl rfl ?_
            refine rb_ret hV (r := some (.inl (-1))) dX10_kind_163 rfl ⟨(Nat.le_of_ble_eq_true rfl), (Nat.le_of_ble_eq_true rfl)⟩ trivial ?_
            obtain ⟨n1, n2, n3, n4, n5⟩ := hnb2 (by omega)
            have hkd : kdn (s 56) (s 121 0) (s 123 0 + 1) (eo (s 56) (s 123 0 + 1) (s 121 0 - (s 123 0 + 1)).toNat) = -1 := by
              rw [← n5, ← n2]
              exact kdn_none h13 h14 h15
            exact ⟨_, _, _, _, rfl, rfl, by decide, by show (fb 0 ≤ s 121 0 ∧ 0 ≤ fb 0) ∧ 0 ≤ fa 0 ∧ fa 0 ≤ 121; omega, Or.inr (Or.inl ⟨n1, hkd, by omega⟩)⟩
    · rw [if_neg e25]
      show V 28 [some (.inr (some 49)), none] [.inl 0] (WW (ab_s (ab_s (ab_s s 122 fa) 123 fb) 124 fc)) 0 0
      refine rb_if_eq hV (tgt := 43) dX10_kind_28 (by decide) (by unfold ab_r at *; omega) (fun _ => ?_) (fun z => absurd z (by decide))
      have h13 : ¬ isNm (s 56) (s 121 0) 13 (fa 0) (fb 0) := fun q => e25 (by have q2 := (isNm_13 _ _ _ _).mp q; omega)
      clear e25
      refine rb_aload_n hV dX10_kind_43 rfl rfl ?_
      refine rb_bipush hV dX10_kind_44 (by decide) ?_
      refine rb_bipush hV dX10_kind_46 (by decide) ?_
      refine rb_bipush hV dX10_kind_48 (by decide) ?_
      refine rb_bipush hV dX10_kind_50 (by decide) ?_
      refine rb_callV hV (rest := []) dX10_kind_52 (c_X10_isPiece (ab_s (ab_s (ab_s s 122 fa) 123 fb) 124 fc) 99 108 97 117 (by decide) (show 0 ≤ (fa 0) by omega) (show (fb 0) ≤ 120 by omega) (show (fa 0) ≤ 121 by omega) (show 0 ≤ (fb 0) by omega) ht) lk_X10_113 rfl (Or.inl ⟨9, _, TX10, 24, gw_49 _, rfl⟩) rfl ⟨rfl, rfl, (Nat.le_of_ble_eq_true rfl), (Nat.le_of_ble_eq_true rfl), (Nat.le_of_ble_eq_true rfl), (Nat.le_of_ble_eq_true rfl)⟩ (Nat.le_of_ble_eq_true rfl) (fun r9 h9 p9 => ?_)
      obtain ⟨rfl, rfl⟩ := p9
      show V 55 [some (.inr (some 49)), none] [.inl (if 3 < (fb 0) - (fa 0) ∧ s 56 (fa 0) = 99 ∧ s 56 ((fa 0) + 1) = 108 ∧ s 56 ((fa 0) + 2) = 97 ∧ s 56 ((fa 0) + 3) = 117 then 1 else 0)] (WW (ab_s (ab_s (ab_s s 122 fa) 123 fb) 124 fc)) 0 0
      by_cases e52 : 3 < (fb 0) - (fa 0) ∧ s 56 (fa 0) = 99 ∧ s 56 ((fa 0) + 1) = 108 ∧ s 56 ((fa 0) + 2) = 97 ∧ s 56 ((fa 0) + 3) = 117
      · rw [if_pos e52]
        show V 55 [some (.inr (some 49)), none] [.inl 1] (WW (ab_s (ab_s (ab_s s 122 fa) 123 fb) 124 fc)) 0 0
        refine rb_if_eq hV (tgt := 84) dX10_kind_55 (by decide) (by unfold ab_r at *; omega) (fun z => absurd z (by decide)) (fun _ => ?_)
        refine rb_aload_n hV dX10_kind_58 rfl rfl ?_
        refine rb_bipush hV dX10_kind_59 (by decide) ?_
        refine rb_callV hV (rest := []) dX10_kind_61 (c_X10_isLong (ab_s (ab_s (ab_s s 122 fa) 123 fb) 124 fc) 6 (by decide) (show 0 ≤ (fa 0) by omega) (show (fb 0) ≤ 120 by omega) (show (fa 0) ≤ 121 by omega) (show 0 ≤ (fb 0) by omega)) lk_X10_117 rfl (Or.inl ⟨9, _, TX10, 24, gw_49 _, rfl⟩) rfl ⟨rfl, rfl, (Nat.le_of_ble_eq_true rfl), (Nat.le_of_ble_eq_true rfl), (Nat.le_of_ble_eq_true rfl), (Nat.le_of_ble_eq_true rfl)⟩ (Nat.le_of_ble_eq_true rfl) (fun r9 h9 p9 => ?_)
        obtain ⟨rfl, rfl⟩ := p9
        show V 64 [some (.inr (some 49)), none] [.inl (if (fb 0) - (fa 0) = 6 then 1 else 0)] (WW (ab_s (ab_s (ab_s s 122 fa) 123 fb) 124 fc)) 0 0
        by_cases e61 : (fb 0) - (fa 0) = 6
        · rw [if_pos e61]
          show V 64 [some (.inr (some 49)), none] [.inl 1] (WW (ab_s (ab_s (ab_s s 122 fa) 123 fb) 124 fc)) 0 0
          refine rb_if_eq hV (tgt := 84) dX10_kind_64 (by decide) (by unfold ab_r at *; omega) (fun z => absurd z (by decide)) (fun _ => ?_)
          refine rb_aload_n hV dX10_kind_67 rfl rfl ?_
          refine rb_bipush hV dX10_kind_68 (by decide) ?_
          refine rb_bipush hV dX10_kind_70 (by decide) ?_
          refine rb_bipush hV dX10_kind_72 (by decide) ?_
          refine rb_callV hV (rest := []) dX10_kind_74 (c_X10_endsWith (ab_s (ab_s (ab_s s 122 fa) 123 fb) 124 fc) 117 115 101 (by decide) (show 3 ≤ (fb 0) ∧ (fb 0) ≤ 120 by omega) ht) lk_X10_121 rfl (Or.inl ⟨9, _, TX10, 24, gw_49 _, rfl⟩) rfl ⟨rfl, rfl, (Nat.le_of_ble_eq_true rfl), (Nat.le_of_ble_eq_true rfl), (Nat.le_of_ble_eq_true rfl), (Nat.le_of_ble_eq_true rfl)⟩ (Nat.le_of_ble_eq_true rfl) (fun r9 h9 p9 => ?_)
          obtain ⟨rfl, rfl⟩ := p9
          show V 77 [some (.inr (some 49)), none] [.inl (if s 56 ((fb 0) - 3) = 117 ∧ s 56 ((fb 0) - 2) = 115 ∧ s 56 ((fb 0) - 1) = 101 then 1 else 0)] (WW (ab_s (ab_s (ab_s s 122 fa) 123 fb) 124 fc)) 0 0
          by_cases e74 : s 56 ((fb 0) - 3) = 117 ∧ s 56 ((fb 0) - 2) = 115 ∧ s 56 ((fb 0) - 1) = 101
          · rw [if_pos e74]
            show V 77 [some (.inr (some 49)), none] [.inl 1] (WW (ab_s (ab_s (ab_s s 122 fa) 123 fb) 124 fc)) 0 0
            refine rb_if_eq hV (tgt := 84) dX10_kind_77 (by decide) (by unfold ab_r at *; omega) (fun z => absurd z (by decide)) (fun _ => ?_)
            have h14 : isNm (s 56) (s 121 0) 14 (fa 0) (fb 0) := (isNm_14 _ _ _ _).mpr (by omega)
            refine rb_iconst hV dX10_kind_80 ?_
            refine rb_goto hV (tgt := 142) dX10_kind_81 (by decide) ?_
            refine rb_istore_n hV (L2 := [some (.inr (some 49)), some (.inl 1)]) dX10_kind_142 rfl (Nat.le_of_ble_eq_true rfl) rfl ?_
            refine rb_aload_n hV dX10_kind_143 rfl rfl ?_
            refine rb_get hV (v := .inl (fc 0)) dX10_kind_144 ⟨RX10, TX10, 24, rfl, (Nat.le_of_ble_eq_true rfl), lf_X10_100⟩ (gw_49 _) rfl ?_
            refine rb_if_ge hV (tgt := 162) dX10_kind_147 (by decide) (by unfold ab_r at *; omega) (fun c147 => absurd c147 (by omega)) (fun c147 => ?_)
            refine rb_iload_n hV dX10_kind_150 rfl rfl ?_
            refine rb_if_ge hV (tgt := 162) dX10_kind_151 (by decide) (by unfold ab_r at *; omega) (fun _ => ?_) (fun z => absurd z (by decide))
            refine rb_iload_n hV dX10_kind_162 rfl rfl ?_
            refine rb_ret hV (r := some (.inl 1)) dX10_kind_163 rfl ⟨(Nat.le_of_ble_eq_true rfl), (Nat.le_of_ble_eq_true rfl)⟩ trivial ?_
            obtain ⟨n1, n2, n3, n4, n5⟩ := hnb2 (by omega)
            have hkd : kdn (s 56) (s 121 0) (s 123 0 + 1) (eo (s 56) (s 123 0 + 1) (s 121 0 - (s 123 0 + 1)).toNat) = 1 := by
              rw [← n5, ← n2]
              exact (cif_neg h13).trans (cif_pos h14)
            exact ⟨_, _, _, _, rfl, rfl, by decide, by show (fb 0 ≤ s 121 0 ∧ 0 ≤ fb 0) ∧ 0 ≤ fa 0 ∧ fa 0 ≤ 121; omega, Or.inr (Or.inr ⟨n1, by omega, hkd.symm, by omega, n5⟩)⟩
          · rw [if_neg e74]
            show V 77 [some (.inr (some 49)), none] [.inl 0] (WW (ab_s (ab_s (ab_s s 122 fa) 123 fb) 124 fc)) 0 0
            refine rb_if_eq hV (tgt := 84) dX10_kind_77 (by decide) (by unfold ab_r at *; omega) (fun _ => ?_) (fun z => absurd z (by decide))
            have h14 : ¬ isNm (s 56) (s 121 0) 14 (fa 0) (fb 0) := fun q => e74 (by have q2 := (isNm_14 _ _ _ _).mp q; omega)
            clear e52 e61 e74
            refine rb_aload_n hV dX10_kind_84 rfl rfl ?_
            refine rb_bipush hV dX10_kind_85 (by decide) ?_
            refine rb_bipush hV dX10_kind_87 (by decide) ?_
            refine rb_bipush hV dX10_kind_89 (by decide) ?_
            refine rb_bipush hV dX10_kind_91 (by decide) ?_
            refine rb_callV hV (rest := []) dX10_kind_93 (c_X10_isPiece (ab_s (ab_s (ab_s s 122 fa) 123 fb) 124 fc) 115 101 110 116 (by decide) (show 0 ≤ (fa 0) by omega) (show (fb 0) ≤ 120 by omega) (show (fa 0) ≤ 121 by omega) (show 0 ≤ (fb 0) by omega) ht) lk_X10_113 rfl (Or.inl ⟨9, _, TX10, 24, gw_49 _, rfl⟩) rfl ⟨rfl, rfl, (Nat.le_of_ble_eq_true rfl), (Nat.le_of_ble_eq_true rfl), (Nat.le_of_ble_eq_true rfl), (Nat.le_of_ble_eq_true rfl)⟩ (Nat.le_of_ble_eq_true rfl) (fun r9 h9 p9 => ?_)
            obtain ⟨rfl, rfl⟩ := p9
            show V 96 [some (.inr (some 49)), none] [.inl (if 3 < (fb 0) - (fa 0) ∧ s 56 (fa 0) = 115 ∧ s 56 ((fa 0) + 1) = 101 ∧ s 56 ((fa 0) + 2) = 110 ∧ s 56 ((fa 0) + 3) = 116 then 1 else 0)] (WW (ab_s (ab_s (ab_s s 122 fa) 123 fb) 124 fc)) 0 0
            by_cases e93 : 3 < (fb 0) - (fa 0) ∧ s 56 (fa 0) = 115 ∧ s 56 ((fa 0) + 1) = 101 ∧ s 56 ((fa 0) + 2) = 110 ∧ s 56 ((fa 0) + 3) = 116
            · rw [if_pos e93]
              show V 96 [some (.inr (some 49)), none] [.inl 1] (WW (ab_s (ab_s (ab_s s 122 fa) 123 fb) 124 fc)) 0 0
              refine rb_if_eq hV (tgt := 141) dX10_kind_96 (by decide) (by unfold ab_r at *; omega) (fun z => absurd z (by decide)) (fun _ => ?_)
              refine rb_aload_n hV dX10_kind_99 rfl rfl ?_
              refine rb_bipush hV dX10_kind_100 (by decide) ?_
              refine rb_callV hV (rest := []) dX10_kind_102 (c_X10_isLong (ab_s (ab_s (ab_s s 122 fa) 123 fb) 124 fc) 8 (by decide) (show 0 ≤ (fa 0) by omega) (show (fb 0) ≤ 120 by omega) (show (fa 0) ≤ 121 by omega) (show 0 ≤ (fb 0) by omega)) lk_X10_117 rfl (Or.inl ⟨9, _, TX10, 24, gw_49 _, rfl⟩) rfl ⟨rfl, rfl, (Nat.le_of_ble_eq_true rfl), (Nat.le_of_ble_eq_true rfl), (Nat.le_of_ble_eq_true rfl), (Nat.le_of_ble_eq_true rfl)⟩ (Nat.le_of_ble_eq_true rfl) (fun r9 h9 p9 => ?_)
              obtain ⟨rfl, rfl⟩ := p9
              show V 105 [some (.inr (some 49)), none] [.inl (if (fb 0) - (fa 0) = 8 then 1 else 0)] (WW (ab_s (ab_s (ab_s s 122 fa) 123 fb) 124 fc)) 0 0
              by_cases e102 : (fb 0) - (fa 0) = 8
              · rw [if_pos e102]
                show V 105 [some (.inr (some 49)), none] [.inl 1] (WW (ab_s (ab_s (ab_s s 122 fa) 123 fb) 124 fc)) 0 0
                refine rb_if_eq hV (tgt := 141) dX10_kind_105 (by decide) (by unfold ab_r at *; omega) (fun z => absurd z (by decide)) (fun _ => ?_)
                refine rb_aload_n hV dX10_kind_108 rfl rfl ?_
                refine rb_bipush hV dX10_kind_109 (by decide) ?_
                refine rb_bipush hV dX10_kind_111 (by decide) ?_
                refine rb_bipush hV dX10_kind_113 (by decide) ?_
                refine rb_callV hV (rest := []) dX10_kind_115 (c_X10_endsWith (ab_s (ab_s (ab_s s 122 fa) 123 fb) 124 fc) 110 99 101 (by decide) (show 3 ≤ (fb 0) ∧ (fb 0) ≤ 120 by omega) ht) lk_X10_121 rfl (Or.inl ⟨9, _, TX10, 24, gw_49 _, rfl⟩) rfl ⟨rfl, rfl, (Nat.le_of_ble_eq_true rfl), (Nat.le_of_ble_eq_true rfl), (Nat.le_of_ble_eq_true rfl), (Nat.le_of_ble_eq_true rfl)⟩ (Nat.le_of_ble_eq_true rfl) (fun r9 h9 p9 => ?_)
                obtain ⟨rfl, rfl⟩ := p9
                show V 118 [some (.inr (some 49)), none] [.inl (if s 56 ((fb 0) - 3) = 110 ∧ s 56 ((fb 0) - 2) = 99 ∧ s 56 ((fb 0) - 1) = 101 then 1 else 0)] (WW (ab_s (ab_s (ab_s s 122 fa) 123 fb) 124 fc)) 0 0
                by_cases e115 : s 56 ((fb 0) - 3) = 110 ∧ s 56 ((fb 0) - 2) = 99 ∧ s 56 ((fb 0) - 1) = 101
                · rw [if_pos e115]
                  show V 118 [some (.inr (some 49)), none] [.inl 1] (WW (ab_s (ab_s (ab_s s 122 fa) 123 fb) 124 fc)) 0 0
                  refine rb_if_eq hV (tgt := 141) dX10_kind_118 (by decide) (by unfold ab_r at *; omega) (fun z => absurd z (by decide)) (fun _ => ?_)
                  refine rb_aload_n hV dX10_kind_121 rfl rfl ?_
                  refine rb_get hV (v := .inr (some 56)) dX10_kind_122 ⟨RX10, TX10, 24, rfl, (Nat.le_of_ble_eq_true rfl), lf_X10_38⟩ (gw_49 _) rfl ?_
                  refine rb_aload_n hV dX10_kind_125 rfl rfl ?_
                  refine rb_get hV (v := .inl (fa 0)) dX10_kind_126 ⟨RX10, TX10, 24, rfl, (Nat.le_of_ble_eq_true rfl), lf_X10_106⟩ (gw_49 _) rfl ?_
                  refine rb_iconst hV dX10_kind_129 ?_
                  refine rb_iadd hV dX10_kind_130 ?_
                  refine rb_cald hV (f := (s 56)) dX10_kind_131 (gw_56 _) (Nat.le_of_ble_eq_true rfl) (by omega) ?_
                  refine rb_bipush hV dX10_kind_132 (by decide) ?_
                  have h4r := ht (fa 0 + 4)
                  refine rb_icmp_ne hV (tgt := 141) dX10_kind_134 (by decide) ⟨(by unfold ab_r at *; omega), (by unfold ab_r at *; omega)⟩ (fun c134 => ?_) (fun c134 => ?_)
                  · have h15 : ¬ isNm (s 56) (s 121 0) 15 (fa 0) (fb 0) := fun q => c134 (by have q2 := (isNm_15 _ _ _ _).mp q; omega)
                    clear e93 e102 e115 c134
                    refine rb_iconst hV dX10_kind_141 ?_
                    refine rb_istore_n hV (L2 := [some (.inr (some 49)), some (.inl (-1))]) dX10_kind_142 rfl (Nat.le_of_ble_eq_true rfl) rfl ?_
                    refine rb_aload_n hV dX10_kind_143 rfl rfl ?_
                    refine rb_get hV (v := .inl (fc 0)) dX10_kind_144 ⟨RX10, TX10, 24, rfl, (Nat.le_of_ble_eq_true rfl), lf_X10_100⟩ (gw_49 _) rfl ?_
                    refine rb_if_ge hV (tgt := 162) dX10_kind_147 (by decide) (by unfold ab_r at *; omega) (fun c147 => absurd c147 (by omega)) (fun c147 => ?_)
                    refine rb_iload_n hV dX10_kind_150 rfl rfl ?_
                    refine rb_if_ge hV (tgt := 162) dX10_kind_151 (by decide) (by unfold ab_r at *; omega) (fun z => absurd z (by decide)) (fun _ => ?_)
                    refine rb_aload_n hV dX10_kind_154 rfl rfl ?_
                    refine rb_aload_n hV dX10_kind_155 rfl rfl ?_
                    refine rb_get hV (v := .inl (fa 0)) dX10_kind_156 ⟨RX10, TX10, 24, rfl, (Nat.le_of_ble_eq_true rfl), lf_X10_106⟩ (gw_49 _) rfl ?_
                    refine rb_put hV (C := RX10) (T := TX10) (N := 24) (ci := 9) (j := 14) dX10_kind_159 rfl (Nat.le_of_ble_eq_true rfl) lf_X10_100 rfl (gw_49 _) (Nat.le_of_ble_eq_true rfl) (ft_X10_14 _) ((pw_49_14 _ _).trans (congrArg WW (ab_s_same _ 124 _ _))) ?_
                    refine rb_iload_n hV dX10_kind_162 rfl rfl ?_
                    refine rb_ret hV (r := some (.inl (-1))) dX10_kind_163 rfl ⟨(Nat.le_of_ble_eq_true rfl), (Nat.le_of_ble_eq_true rfl)⟩ trivial ?_
                    obtain ⟨n1, n2, n3, n4, n5⟩ := hnb2 (by omega)
                    have hkd : kdn (s 56) (s 121 0) (s 123 0 + 1) (eo (s 56) (s 123 0 + 1) (s 121 0 - (s 123 0 + 1)).toNat) = -1 := by
                      rw [← n5, ← n2]
                      exact kdn_none h13 h14 h15
                    exact ⟨_, _, _, _, rfl, rfl, by decide, by show (fb 0 ≤ s 121 0 ∧ 0 ≤ fb 0) ∧ 0 ≤ fa 0 ∧ fa 0 ≤ 121; omega, Or.inr (Or.inl ⟨n1, hkd, by omega⟩)⟩
                  · have h15 : isNm (s 56) (s 121 0) 15 (fa 0) (fb 0) := (isNm_15 _ _ _ _).mpr (by omega)
                    refine rb_iconst hV dX10_kind_137 ?_
                    refine rb_goto hV (tgt := 142) dX10_kind_138 (by decide) ?_
                    refine rb_istore_n hV (L2 := [some (.inr (some 49)), some (.inl 2)]) dX10_kind_142 rfl (Nat.le_of_ble_eq_true rfl) rfl ?_
                    refine rb_aload_n hV dX10_kind_143 rfl rfl ?_
                    refine rb_get hV (v := .inl (fc 0)) dX10_kind_144 ⟨RX10, TX10, 24, rfl, (Nat.le_of_ble_eq_true rfl), lf_X10_100⟩ (gw_49 _) rfl ?_
                    refine rb_if_ge hV (tgt := 162) dX10_kind_147 (by decide) (by unfold ab_r at *; omega) (fun c147 => absurd c147 (by omega)) (fun c147 => ?_)
                    refine rb_iload_n hV dX10_kind_150 rfl rfl ?_
                    refine rb_if_ge hV (tgt := 162) dX10_kind_151 (by decide) (by unfold ab_r at *; omega) (fun _ => ?_) (fun z => absurd z (by decide))
                    refine rb_iload_n hV dX10_kind_162 rfl rfl ?_
                    refine rb_ret hV (r := some (.inl 2)) dX10_kind_163 rfl ⟨(Nat.le_of_ble_eq_true rfl), (Nat.le_of_ble_eq_true rfl)⟩ trivial ?_
                    obtain ⟨n1, n2, n3, n4, n5⟩ := hnb2 (by omega)
                    have hkd : kdn (s 56) (s 121 0) (s 123 0 + 1) (eo (s 56) (s 123 0 + 1) (s 121 0 - (s 123 0 + 1)).toNat) = 2 := by
                      rw [← n5, ← n2]
                      exact (cif_neg h13).trans ((cif_neg h14).trans (cif_pos h15))
                    exact ⟨_, _, _, _, rfl, rfl, by decide, by show (fb 0 ≤ s 121 0 ∧ 0 ≤ fb 0) ∧ 0 ≤ fa 0 ∧ fa 0 ≤ 121; omega, Or.inr (Or.inr ⟨n1, by omega, hkd.symm, by omega, n5⟩)⟩
                · rw [if_neg e115]
                  show V 118 [some (.inr (some 49)), none] [.inl 0] (WW (ab_s (ab_s (ab_s s 122 fa) 123 fb) 124 fc)) 0 0
                  refine rb_if_eq hV (tgt := 141) dX10_kind_118 (by decide) (by unfold ab_r at *; omega) (fun _ => ?_) (fun z => absurd z (by decide))
                  have h15 : ¬ isNm (s 56) (s 121 0) 15 (fa 0) (fb 0) := fun q => e115 (by have q2 := (isNm_15 _ _ _ _).mp q; omega)
                  clear e93 e102 e115
                  refine rb_iconst hV dX10_kind_141 ?_
                  refine rb_istore_n hV (L2 := [some (.inr (some 49)), some (.inl (-1))]) dX10_kind_142 rfl (Nat.le_of_ble_eq_true rfl) rfl ?_
                  refine rb_aload_n hV dX10_kind_143 rfl rfl ?_
                  refine rb_get hV (v := .inl (fc 0)) dX10_kind_144 ⟨RX10, TX10, 24, rfl, (Nat.le_of_ble_eq_true rfl), lf_X10_100⟩ (gw_49 _) rfl ?_
                  refine rb_if_ge hV (tgt := 162) dX10_kind_147 (by decide) (by unfold ab_r at *; omega) (fun c147 => absurd c147 (by omega)) (fun c147 => ?_)
                  refine rb_iload_n hV dX10_kind_150 rfl rfl ?_
                  refine rb_if_ge hV (tgt := 162) dX10_kind_151 (by decide) (by unfold ab_r at *; omega) (fun z => absurd z (by decide)) (fun _ => ?_)
                  refine rb_aload_n hV dX10_kind_154 rfl rfl ?_
                  refine rb_aload_n hV dX10_kind_155 rfl rfl ?_
                  refine rb_get hV (v := .inl (fa 0)) dX10_kind_156 ⟨RX10, TX10, 24, rfl, (Nat.le_of_ble_eq_true rfl), lf_X10_106⟩ (gw_49 _) rfl ?_
                  refine rb_put hV (C := RX10) (T := TX10) (N := 24) (ci := 9) (j := 14) dX10_kind_159 rfl (Nat.le_of_ble_eq_true rfl) lf_X10_100 rfl (gw_49 _) (Nat.le_of_ble_eq_true rfl) (ft_X10_14 _) ((pw_49_14 _ _).trans (congrArg WW (ab_s_same _ 124 _ _))) ?_
                  refine rb_iload_n hV dX10_kind_162 rfl rfl ?_
                  refine rb_ret hV (r := some (.inl (-1))) dX10_kind_163 rfl ⟨(Nat.le_of_ble_eq_true rfl), (Nat.le_of_ble_eq_true rfl)⟩ trivial ?_
                  obtain ⟨n1, n2, n3, n4, n5⟩ := hnb2 (by omega)
                  have hkd : kdn (s 56) (s 121 0) (s 123 0 + 1) (eo (s 56) (s 123 0 + 1) (s 121 0 - (s 123 0 + 1)).toNat) = -1 := by
                    rw [← n5, ← n2]
                    exact kdn_none h13 h14 h15
                  exact ⟨_, _, _, _, rfl, rfl, by decide, by show (fb 0 ≤ s 121 0 ∧ 0 ≤ fb 0) ∧ 0 ≤ fa 0 ∧ fa 0 ≤ 121; omega, Or.inr (Or.inl ⟨n1, hkd, by omega⟩)⟩
              · rw [if_neg e102]
                show V 105 [some (.inr (some 49)), none] [.inl 0] (WW (ab_s (ab_s (ab_s s 122 fa) 123 fb) 124 fc)) 0 0
                refine rb_if_eq hV (tgt := 141) dX10_kind_105 (by decide) (by unfold ab_r at *; omega) (fun _ => ?_) (fun z => absurd z (by decide))
                have h15 : ¬ isNm (s 56) (s 121 0) 15 (fa 0) (fb 0) := fun q => e102 (by have q2 := (isNm_15 _ _ _ _).mp q; omega)
                clear e93 e102
                refine rb_iconst hV dX10_kind_141 ?_
                refine rb_istore_n hV (L2 := [some (.inr (some 49)), some (.inl (-1))]) dX10_kind_142 rfl (Nat.le_of_ble_eq_true rfl) rfl ?_
                refine rb_aload_n hV dX10_kind_143 rfl rfl ?_
                refine rb_get hV (v := .inl (fc 0)) dX10_kind_144 ⟨RX10, TX10, 24, rfl, (Nat.le_of_ble_eq_true rfl), lf_X10_100⟩ (gw_49 _) rfl ?_
                refine rb_if_ge hV (tgt := 162) dX10_kind_147 (by decide) (by unfold ab_r at *; omega) (fun c147 => absurd c147 (by omega)) (fun c147 => ?_)
                refine rb_iload_n hV dX10_kind_150 rfl rfl ?_
                refine rb_if_ge hV (tgt := 162) dX10_kind_151 (by decide) (by unfold ab_r at *; omega) (fun z => absurd z (by decide)) (fun _ => ?_)
                refine rb_aload_n hV dX10_kind_154 rfl rfl ?_
                refine rb_aload_n hV dX10_kind_155 rfl rfl ?_
                refine rb_get hV (v := .inl (fa 0)) dX10_kind_156 ⟨RX10, TX10, 24, rfl, (Nat.le_of_ble_eq_true rfl), lf_X10_106⟩ (gw_49 _) rfl ?_
                refine rb_put hV (C := RX10) (T := TX10) (N := 24) (ci := 9) (j := 14) dX10_kind_159 rfl (Nat.le_of_ble_eq_true rfl) lf_X10_100 rfl (gw_49 _) (Nat.le_of_ble_eq_true rfl) (ft_X10_14 _) ((pw_49_14 _ _).trans (congrArg WW (ab_s_same _ 124 _ _))) ?_
                refine rb_iload_n hV dX10_kind_162 rfl rfl ?_
                refine rb_ret hV (r := some (.inl (-1))) dX10_kind_163 rfl ⟨(Nat.le_of_ble_eq_true rfl), (Nat.le_of_ble_eq_true rfl)⟩ trivial ?_
                obtain ⟨n1, n2, n3, n4, n5⟩ := hnb2 (by omega)
                have hkd : kdn (s 56) (s 121 0) (s 123 0 + 1) (eo (s 56) (s 123 0 + 1) (s 121 0 - (s 123 0 + 1)).toNat) = -1 := by
                  rw [← n5, ← n2]
                  exact kdn_none h13 h14 h15
                exact ⟨_, _, _, _, rfl, rfl, by decide, by show (fb 0 ≤ s 121 0 ∧ 0 ≤ fb 0) ∧ 0 ≤ fa 0 ∧ fa 0 ≤ 121; omega, Or.inr (Or.inl ⟨n1, hkd, by omega⟩)⟩
            · rw [if_neg e93]
              show V 96 [some (.inr (some 49)), none] [.inl 0] (WW (ab_s (ab_s (ab_s s 122 fa) 123 fb) 124 fc)) 0 0
              refine rb_if_eq hV (tgt := 141) dX10_kind_96 (by decide) (by unfold ab_r at *; omega) (fun _ => ?_) (fun z => absurd z (by decide))
              have h15 : ¬ isNm (s 56) (s 121 0) 15 (fa 0) (fb 0) := fun q => e93 (by have q2 := (isNm_15 _ _ _ _).mp q; omega)
              clear e93
              refine rb_iconst hV dX10_kind_141 ?_
              refine rb_istore_n hV (L2 := [some (.inr (some 49)), some (.inl (-1))]) dX10_kind_142 rfl (Nat.le_of_ble_eq_true rfl) rfl ?_
              refine rb_aload_n hV dX10_kind_143 rfl rfl ?_
              refine rb_get hV (v := .inl (fc 0)) dX10_kind_144 ⟨RX10, TX10, 24, rfl, (Nat.le_of_ble_eq_true rfl), lf_X10_100⟩ (gw_49 _) rfl ?_
              refine rb_if_ge hV (tgt := 162) dX10_kind_147 (by decide) (by unfold ab_r at *; omega) (fun c147 => absurd c147 (by omega)) (fun c147 => ?_)
              refine rb_iload_n hV dX10_kind_150 rfl rfl ?_
              refine rb_if_ge hV (tgt := 162) dX10_kind_151 (by decide) (by unfold ab_r at *; omega) (fun z => absurd z (by decide)) (fun _ => ?_)
              refine rb_aload_n hV dX10_kind_154 rfl rfl ?_
              refine rb_aload_n hV dX10_kind_155 rfl rfl ?_
              refine rb_get hV (v := .inl (fa 0)) dX10_kind_156 ⟨RX10, TX10, 24, rfl, (Nat.le_of_ble_eq_true rfl), lf_X10_106⟩ (gw_49 _) rfl ?_
              refine rb_put hV (C := RX10) (T := TX10) (N := 24) (ci := 9) (j := 14) dX10_kind_159 rfl (Nat.le_of_ble_eq_true rfl) lf_X10_100 rfl (gw_49 _) (Nat.le_of_ble_eq_true rfl) (ft_X10_14 _) ((pw_49_14 _ _).trans (congrArg WW (ab_s_same _ 124 _ _))) ?_
              refine rb_iload_n hV dX10_kind_162 rfl rfl ?_
              refine rb_ret hV (r := some (.inl (-1))) dX10_kind_163 rfl ⟨(Nat.le_of_ble_eq_true rfl), (Nat.le_of_ble_eq_true rfl)⟩ trivial ?_
              obtain ⟨n1, n2, n3, n4, n5⟩ := hnb2 (by omega)
              have hkd : kdn (s 56) (s 121 0) (s 123 0 + 1) (eo (s 56) (s 123 0 + 1) (s 121 0 - (s 123 0 + 1)).toNat) = -1 := by
                rw [← n5, ← n2]
                exact kdn_none h13 h14 h15
              exact ⟨_, _, _, _, rfl, rfl, by decide, by show (fb 0 ≤ s 121 0 ∧ 0 ≤ fb 0) ∧ 0 ≤ fa 0 ∧ fa 0 ≤ 121; omega, Or.inr (Or.inl ⟨n1, hkd, by omega⟩)⟩
        · rw [if_neg e61]
          show V 64 [some (.inr (some 49)), none] [.inl 0] (WW (ab_s (ab_s (ab_s s 122 fa) 123 fb) 124 fc)) 0 0
          refine rb_if_eq hV (tgt := 84) dX10_kind_64 (by decide) (by unfold ab_r at *; omega) (fun _ => ?_) (fun z => absurd z (by decide))
          have h14 : ¬ isNm (s 56) (s 121 0) 14 (fa 0) (fb 0) := fun q => e61 (by have q2 := (isNm_14 _ _ _ _).mp q; omega)
          clear e52 e61
          refine rb_aload_n hV dX10_kind_84 rfl rfl ?_
          refine rb_bipush hV dX10_kind_85 (by decide) ?_
          refine rb_bipush hV dX10_kind_87 (by decide) ?_
          refine rb_bipush hV dX10_kind_89 (by decide) ?_
          refine rb_bipush hV dX10_kind_91 (by decide) ?_
          refine rb_callV hV (rest := []) dX10_kind_93 (c_X10_isPiece (ab_s (ab_s (ab_s s 122 fa) 123 fb) 124 fc) 115 101 110 116 (by decide) (show 0 ≤ (fa 0) by omega) (show (fb 0) ≤ 120 by omega) (show (fa 0) ≤ 121 by omega) (show 0 ≤ (fb 0) by omega) ht) lk_X10_113 rfl (Or.inl ⟨9, _, TX10, 24, gw_49 _, rfl⟩) rfl ⟨rfl, rfl, (Nat.le_of_ble_eq_true rfl), (Nat.le_of_ble_eq_true rfl), (Nat.le_of_ble_eq_true rfl), (Nat.le_of_ble_eq_true rfl)⟩ (Nat.le_of_ble_eq_true rfl) (fun r9 h9 p9 => ?_)
          obtain ⟨rfl, rfl⟩ := p9
          show V 96 [some (.inr (some 49)), none] [.inl (if 3 < (fb 0) - (fa 0) ∧ s 56 (fa 0) = 115 ∧ s 56 ((fa 0) + 1) = 101 ∧ s 56 ((fa 0) + 2) = 110 ∧ s 56 ((fa 0) + 3) = 116 then 1 else 0)] (WW (ab_s (ab_s (ab_s s 122 fa) 123 fb) 124 fc)) 0 0
          by_cases e93 : 3 < (fb 0) - (fa 0) ∧ s 56 (fa 0) = 115 ∧ s 56 ((fa 0) + 1) = 101 ∧ s 56 ((fa 0) + 2) = 110 ∧ s 56 ((fa 0) + 3) = 116
          · rw [if_pos e93]
            show V 96 [some (.inr (some 49)), none] [.inl 1] (WW (ab_s (ab_s (ab_s s 122 fa) 123 fb) 124 fc)) 0 0
            refine rb_if_eq hV (tgt := 141) dX10_kind_96 (by decide) (by unfold ab_r at *; omega) (fun z => absurd z (by decide)) (fun _ => ?_)
            refine rb_aload_n hV dX10_kind_99 rfl rfl ?_
            refine rb_bipush hV dX10_kind_100 (by decide) ?_
            refine rb_callV hV (rest := []) dX10_kind_102 (c_X10_isLong (ab_s (ab_s (ab_s s 122 fa) 123 fb) 124 fc) 8 (by decide) (show 0 ≤ (fa 0) by omega) (show (fb 0) ≤ 120 by omega) (show (fa 0) ≤ 121 by omega) (show 0 ≤ (fb 0) by omega)) lk_X10_117 rfl (Or.inl ⟨9, _, TX10, 24, gw_49 _, rfl⟩) rfl ⟨rfl, rfl, (Nat.le_of_ble_eq_true rfl), (Nat.le_of_ble_eq_true rfl), (Nat.le_of_ble_eq_true rfl), (Nat.le_of_ble_eq_true rfl)⟩ (Nat.le_of_ble_eq_true rfl) (fun r9 h9 p9 => ?_)
            obtain ⟨rfl, rfl⟩ := p9
            show V 105 [some (.inr (some 49)), none] [.inl (if (fb 0) - (fa 0) = 8 then 1 else 0)] (WW (ab_s (ab_s (ab_s s 122 fa) 123 fb) 124 fc)) 0 0
            by_cases e102 : (fb 0) - (fa 0) = 8
            · rw [if_pos e102]
              show V 105 [some (.inr (some 49)), none] [.inl 1] (WW (ab_s (ab_s (ab_s s 122 fa) 123 fb) 124 fc)) 0 0
              refine rb_if_eq hV (tgt := 141) dX10_kind_105 (by decide) (by unfold ab_r at *; omega) (fun z => absurd z (by decide)) (fun _ => ?_)
              refine rb_aload_n hV dX10_kind_108 rfl rfl ?_
              refine rb_bipush hV dX10_kind_109 (by decide) ?_
              refine rb_bipush hV dX10_kind_111 (by decide) ?_
              refine rb_bipush hV dX10_kind_113 (by decide) ?_
              refine rb_callV hV (rest := []) dX10_kind_115 (c_X10_endsWith (ab_s (ab_s (ab_s s 122 fa) 123 fb) 124 fc) 110 99 101 (by decide) (show 3 ≤ (fb 0) ∧ (fb 0) ≤ 120 by omega) ht) lk_X10_121 rfl (Or.inl ⟨9, _, TX10, 24, gw_49 _, rfl⟩) rfl ⟨rfl, rfl, (Nat.le_of_ble_eq_true rfl), (Nat.le_of_ble_eq_true rfl), (Nat.le_of_ble_eq_true rfl), (Nat.le_of_ble_eq_true rfl)⟩ (Nat.le_of_ble_eq_true rfl) (fun r9 h9 p9 => ?_)
              obtain ⟨rfl, rfl⟩ := p9
              show V 118 [some (.inr (some 49)), none] [.inl (if s 56 ((fb 0) - 3) = 110 ∧ s 56 ((fb 0) - 2) = 99 ∧ s 56 ((fb 0) - 1) = 101 then 1 else 0)] (WW (ab_s (ab_s (ab_s s 122 fa) 123 fb) 124 fc)) 0 0
              by_cases e115 : s 56 ((fb 0) - 3) = 110 ∧ s 56 ((fb 0) - 2) = 99 ∧ s 56 ((fb 0) - 1) = 101
              · rw [if_pos e115]
                show V 118 [some (.inr (some 49)), none] [.inl 1] (WW (ab_s (ab_s (ab_s s 122 fa) 123 fb) 124 fc)) 0 0
                refine rb_if_eq hV (tgt := 141) dX10_kind_118 (by decide) (by unfold ab_r at *; omega) (fun z => absurd z (by decide)) (fun _ => ?_)
                refine rb_aload_n hV dX10_kind_121 rfl rfl ?_
                refine rb_get hV (v := .inr (some 56)) dX10_kind_122 ⟨RX10, TX10, 24, rfl, (Nat.le_of_ble_eq_true rfl), lf_X10_38⟩ (gw_49 _) rfl ?_
                refine rb_aload_n hV dX10_kind_125 rfl rfl ?_
                refine rb_get hV (v := .inl (fa 0)) dX10_kind_126 ⟨RX10, TX10, 24, rfl, (Nat.le_of_ble_eq_true rfl), lf_X10_106⟩ (gw_49 _) rfl ?_
                refine rb_iconst hV dX10_kind_129 ?_
                refine rb_iadd hV dX10_kind_130 ?_
                refine rb_cald hV (f := (s 56)) dX10_kind_131 (gw_56 _) (Nat.le_of_ble_eq_true rfl) (by omega) ?_
                refine rb_bipush hV dX10_kind_132 (by decide) ?_
                have h4r := ht (fa 0 + 4)
                refine rb_icmp_ne hV (tgt := 141) dX10_kind_134 (by decide) ⟨(by unfold ab_r at *; omega), (by unfold ab_r at *; omega)⟩ (fun c134 => ?_) (fun c134 => ?_)
                · have h15 : ¬ isNm (s 56) (s 121 0) 15 (fa 0) (fb 0) := fun q => c134 (by have q2 := (isNm_15 _ _ _ _).mp q; omega)
                  clear e93 e102 e115 c134
                  refine rb_iconst hV dX10_kind_141 ?_
                  refine rb_istore_n hV (L2 := [some (.inr (some 49)), some (.inl (-1))]) dX10_kind_142 rfl (Nat.le_of_ble_eq_true rfl) rfl ?_
                  refine rb_aload_n hV dX10_kind_143 rfl rfl ?_
                  refine rb_get hV (v := .inl (fc 0)) dX10_kind_144 ⟨RX10, TX10, 24, rfl, (Nat.le_of_ble_eq_true rfl), lf_X10_100⟩ (gw_49 _) rfl ?_
                  refine rb_if_ge hV (tgt := 162) dX10_kind_147 (by decide) (by unfold ab_r at *; omega) (fun c147 => absurd c147 (by omega)) (fun c147 => ?_)
                  refine rb_iload_n hV dX10_kind_150 rfl rfl ?_
                  refine rb_if_ge hV (tgt := 162) dX10_kind_151 (by decide) (by unfold ab_r at *; omega) (fun z => absurd z (by decide)) (fun _ => ?_)
                  refine rb_aload_n hV dX10_kind_154 rfl rfl ?_
                  refine rb_aload_n hV dX10_kind_155 rfl rfl ?_
                  refine rb_get hV (v := .inl (fa 0)) dX10_kind_156 ⟨RX10, TX10, 24, rfl, (Nat.le_of_ble_eq_true rfl), lf_X10_106⟩ (gw_49 _) rfl ?_
                  refine rb_put hV (C := RX10) (T := TX10) (N := 24) (ci := 9) (j := 14) dX10_kind_159 rfl (Nat.le_of_ble_eq_true rfl) lf_X10_100 rfl (gw_49 _) (Nat.le_of_ble_eq_true rfl) (ft_X10_14 _) ((pw_49_14 _ _).trans (congrArg WW (ab_s_same _ 124 _ _))) ?_
                  refine rb_iload_n hV dX10_kind_162 rfl rfl ?_
                  refine rb_ret hV (r := some (.inl (-1))) dX10_kind_163 rfl ⟨(Nat.le_of_ble_eq_true rfl), (Nat.le_of_ble_eq_true rfl)⟩ trivial ?_
                  obtain ⟨n1, n2, n3, n4, n5⟩ := hnb2 (by omega)
                  have hkd : kdn (s 56) (s 121 0) (s 123 0 + 1) (eo (s 56) (s 123 0 + 1) (s 121 0 - (s 123 0 + 1)).toNat) = -1 := by
                    rw [← n5, ← n2]
                    exact kdn_none h13 h14 h15
                  exact ⟨_, _, _, _, rfl, rfl, by decide, by show (fb 0 ≤ s 121 0 ∧ 0 ≤ fb 0) ∧ 0 ≤ fa 0 ∧ fa 0 ≤ 121; omega, Or.inr (Or.inl ⟨n1, hkd, by omega⟩)⟩
                · have h15 : isNm (s 56) (s 121 0) 15 (fa 0) (fb 0) := (isNm_15 _ _ _ _).mpr (by omega)
                  refine rb_iconst hV dX10_kind_137 ?_
                  refine rb_goto hV (tgt := 142) dX10_kind_138 (by decide) ?_
                  refine rb_istore_n hV (L2 := [some (.inr (some 49)), some (.inl 2)]) dX10_kind_142 rfl (Nat.le_of_ble_eq_true rfl) rfl ?_
                  refine rb_aload_n hV dX10_kind_143 rfl rfl ?_
                  refine rb_get hV (v := .inl (fc 0)) dX10_kind_144 ⟨RX10, TX10, 24, rfl, (Nat.le_of_ble_eq_true rfl), lf_X10_100⟩ (gw_49 _) rfl ?_
                  refine rb_if_ge hV (tgt := 162) dX10_kind_147 (by decide) (by unfold ab_r at *; omega) (fun c147 => absurd c147 (by omega)) (fun c147 => ?_)
                  refine rb_iload_n hV dX10_kind_150 rfl rfl ?_
                  refine rb_if_ge hV (tgt := 162) dX10_kind_151 (by decide) (by unfold ab_r at *; omega) (fun _ => ?_) (fun z => absurd z (by decide))
                  refine rb_iload_n hV dX10_kind_162 rfl rfl ?_
                  refine rb_ret hV (r := some (.inl 2)) dX10_kind_163 rfl ⟨(Nat.le_of_ble_eq_true rfl), (Nat.le_of_ble_eq_true rfl)⟩ trivial ?_
                  obtain ⟨n1, n2, n3, n4, n5⟩ := hnb2 (by omega)
                  have hkd : kdn (s 56) (s 121 0) (s 123 0 + 1) (eo (s 56) (s 123 0 + 1) (s 121 0 - (s 123 0 + 1)).toNat) = 2 := by
                    rw [← n5, ← n2]
                    exact (cif_neg h13).trans ((cif_neg h14).trans (cif_pos h15))
                  exact ⟨_, _, _, _, rfl, rfl, by decide, by show (fb 0 ≤ s 121 0 ∧ 0 ≤ fb 0) ∧ 0 ≤ fa 0 ∧ fa 0 ≤ 121; omega, Or.inr (Or.inr ⟨n1, by omega, hkd.symm, by omega, n5⟩)⟩
              · rw [if_neg e115]
                show V 118 [some (.inr (some 49)), none] [.inl 0] (WW (ab_s (ab_s (ab_s s 122 fa) 123 fb) 124 fc)) 0 0
                refine rb_if_eq hV (tgt := 141) dX10_kind_118 (by decide) (by unfold ab_r at *; omega) (fun _ => ?_) (fun z => absurd z (by decide))
                have h15 : ¬ isNm (s 56) (s 121 0) 15 (fa 0) (fb 0) := fun q => e115 (by have q2 := (isNm_15 _ _ _ _).mp q; omega)
                clear e93 e102 e115
                refine rb_iconst hV dX10_kind_141 ?_
                refine rb_istore_n hV (L2 := [some (.inr (some 49)), some (.inl (-1))]) dX10_kind_142 rfl (Nat.le_of_ble_eq_true rfl) rfl ?_
                refine rb_aload_n hV dX10_kind_143 rfl rfl ?_
                refine rb_get hV (v := .inl (fc 0)) dX10_kind_144 ⟨RX10, TX10, 24, rfl, (Nat.le_of_ble_eq_true rfl), lf_X10_100⟩ (gw_49 _) rfl ?_
                refine rb_if_ge hV (tgt := 162) dX10_kind_147 (by decide) (by unfold ab_r at *; omega) (fun c147 => absurd c147 (by omega)) (fun c147 => ?_)
                refine rb_iload_n hV dX10_kind_150 rfl rfl ?_
                refine rb_if_ge hV (tgt := 162) dX10_kind_151 (by decide) (by unfold ab_r at *; omega) (fun z => absurd z (by decide)) (fun _ => ?_)
                refine rb_aload_n hV dX10_kind_154 rfl rfl ?_
                refine rb_aload_n hV dX10_kind_155 rfl rfl ?_
                refine rb_get hV (v := .inl (fa 0)) dX10_kind_156 ⟨RX10, TX10, 24, rfl, (Nat.le_of_ble_eq_true rfl), lf_X10_106⟩ (gw_49 _) rfl ?_
                refine rb_put hV (C := RX10) (T := TX10) (N := 24) (ci := 9) (j := 14) dX10_kind_159 rfl (Nat.le_of_ble_eq_true rfl) lf_X10_100 rfl (gw_49 _) (Nat.le_of_ble_eq_true rfl) (ft_X10_14 _) ((pw_49_14 _ _).trans (congrArg WW (ab_s_same _ 124 _ _))) ?_
                refine rb_iload_n hV dX10_kind_162 rfl rfl ?_
                refine rb_ret hV (r := some (.inl (-1))) dX10_kind_163 rfl ⟨(Nat.le_of_ble_eq_true rfl), (Nat.le_of_ble_eq_true rfl)⟩ trivial ?_
                obtain ⟨n1, n2, n3, n4, n5⟩ := hnb2 (by omega)
                have hkd : kdn (s 56) (s 121 0) (s 123 0 + 1) (eo (s 56) (s 123 0 + 1) (s 121 0 - (s 123 0 + 1)).toNat) = -1 := by
                  rw [← n5, ← n2]
                  exact kdn_none h13 h14 h15
                exact ⟨_, _, _, _, rfl, rfl, by decide, by show (fb 0 ≤ s 121 0 ∧ 0 ≤ fb 0) ∧ 0 ≤ fa 0 ∧ fa 0 ≤ 121; omega, Or.inr (Or.inl ⟨n1, hkd, by omega⟩)⟩
            · rw [if_neg e102]
              show V 105 [some (.inr (some 49)), none] [.inl 0] (WW (ab_s (ab_s (ab_s s 122 fa) 123 fb) 124 fc)) 0 0
              refine rb_if_eq hV (tgt := 141) dX10_kind_105 (by decide) (by unfold ab_r at *; omega) (fun _ => ?_) (fun z => absurd z (by decide))
              have h15 : ¬ isNm (s 56) (s 121 0) 15 (fa 0) (fb 0) := fun q => e102 (by have q2 := (isNm_15 _ _ _ _).mp q; omega)
              clear e93 e102
              refine rb_iconst hV dX10_kind_141 ?_
              refine rb_istore_n hV (L2 := [some (.inr (some 49)), some (.inl (-1))]) dX10_kind_142 rfl (Nat.le_of_ble_eq_true rfl) rfl ?_
              refine rb_aload_n hV dX10_kind_143 rfl rfl ?_
              refine rb_get hV (v := .inl (fc 0)) dX10_kind_144 ⟨RX10, TX10, 24, rfl, (Nat.le_of_ble_eq_true rfl), lf_X10_100⟩ (gw_49 _) rfl ?_
              refine rb_if_ge hV (tgt := 162) dX10_kind_147 (by decide) (by unfold ab_r at *; omega) (fun c147 => absurd c147 (by omega)) (fun c147 => ?_)
              refine rb_iload_n hV dX10_kind_150 rfl rfl ?_
              refine rb_if_ge hV (tgt := 162) dX10_kind_151 (by decide) (by unfold ab_r at *; omega) (fun z => absurd z (by decide)) (fun _ => ?_)
              refine rb_aload_n hV dX10_kind_154 rfl rfl ?_
              refine rb_aload_n hV dX10_kind_155 rfl rfl ?_
              refine rb_get hV (v := .inl (fa 0)) dX10_kind_156 ⟨RX10, TX10, 24, rfl, (Nat.le_of_ble_eq_true rfl), lf_X10_106⟩ (gw_49 _) rfl ?_
              refine rb_put hV (C := RX10) (T := TX10) (N := 24) (ci := 9) (j := 14) dX10_kind_159 rfl (Nat.le_of_ble_eq_true rfl) lf_X10_100 rfl (gw_49 _) (Nat.le_of_ble_eq_true rfl) (ft_X10_14 _) ((pw_49_14 _ _).trans (congrArg WW (ab_s_same _ 124 _ _))) ?_
              refine rb_iload_n hV dX10_kind_162 rfl rfl ?_
              refine rb_ret hV (r := some (.inl (-1))) dX10_kind_163 rfl ⟨(Nat.le_of_ble_eq_true rfl), (Nat.le_of_ble_eq_true rfl)⟩ trivial ?_
              obtain ⟨n1, n2, n3, n4, n5⟩ := hnb2 (by omega)
              have hkd : kdn (s 56) (s 121 0) (s 123 0 + 1) (eo (s 56) (s 123 0 + 1) (s 121 0 - (s 123 0 + 1)).toNat) = -1 := by
                rw [← n5, ← n2]
                exact kdn_none h13 h14 h15
              exact ⟨_, _, _, _, rfl, rfl, by decide, by show (fb 0 ≤ s 121 0 ∧ 0 ≤ fb 0) ∧ 0 ≤ fa 0 ∧ fa 0 ≤ 121; omega, Or.inr (Or.inl ⟨n1, hkd, by omega⟩)⟩
          · rw [if_neg e93]
            show V 96 [some (.inr (some 49)), none] [.inl 0] (WW (ab_s (ab_s (ab_s s 122 fa) 123 fb) 124 fc)) 0 0
            refine rb_if_eq hV (tgt := 141) dX10_kind_96 (by decide) (by unfold ab_r at *; omega) (fun _ => ?_) (fun z => absurd z (by decide))
            have h15 : ¬ isNm (s 56) (s 121 0) 15 (fa 0) (fb 0) := fun q => e93 (by have q2 := (isNm_15 _ _ _ _).mp q; omega)
            clear e93
            refine rb_iconst hV dX10_kind_141 ?_
            refine rb_istore_n hV (L2 := [some (.inr (some 49)), some (.inl (-1))]) dX10_kind_142 rfl (Nat.le_of_ble_eq_true rfl) rfl ?_
            refine rb_aload_n hV dX10_kind_143 rfl rfl ?_
            refine rb_get hV (v := .inl (fc 0)) dX10_kind_144 ⟨RX10, TX10, 24, rfl, (Nat.le_of_ble_eq_true rfl), lf_X10_100⟩ (gw_49 _) rfl ?_
            refine rb_if_ge hV (tgt := 162) dX10_kind_147 (by decide) (by unfold ab_r at *; omega) (fun c147 => absurd c147 (by omega)) (fun c147 => ?_)
            refine rb_iload_n hV dX10_kind_150 rfl rfl ?_
            refine rb_if_ge hV (tgt := 162) dX10_kind_151 (by decide) (by unfold ab_r at *; omega) (fun z => absurd z (by decide)) (fun _ => ?_)
            refine rb_aload_n hV dX10_kind_154 rfl rfl ?_
            refine rb_aload_n hV dX10_kind_155 rfl rfl ?_
            refine rb_get hV (v := .inl (fa 0)) dX10_kind_156 ⟨RX10, TX10, 24, rfl, (Nat.le_of_ble_eq_true rfl), lf_X10_106⟩ (gw_49 _) rfl ?_
            refine rb_put hV (C := RX10) (T := TX10) (N := 24) (ci := 9) (j := 14) dX10_kind_159 rfl (Nat.le_of_ble_eq_true rfl) lf_X10_100 rfl (gw_49 _) (Nat.le_of_ble_eq_true rfl) (ft_X10_14 _) ((pw_49_14 _ _).trans (congrArg WW (ab_s_same _ 124 _ _))) ?_
            refine rb_iload_n hV dX10_kind_162 rfl rfl ?_
            refine rb_ret hV (r := some (.inl (-1))) dX10_kind_163 rfl ⟨(Nat.le_of_ble_eq_true rfl), (Nat.le_of_ble_eq_true rfl)⟩ trivial ?_
            obtain ⟨n1, n2, n3, n4, n5⟩ := hnb2 (by omega)
            have hkd : kdn (s 56) (s 121 0) (s 123 0 + 1) (eo (s 56) (s 123 0 + 1) (s 121 0 - (s 123 0 + 1)).toNat) = -1 := by
              rw [← n5, ← n2]
              exact kdn_none h13 h14 h15
            exact ⟨_, _, _, _, rfl, rfl, by decide, by show (fb 0 ≤ s 121 0 ∧ 0 ≤ fb 0) ∧ 0 ≤ fa 0 ∧ fa 0 ≤ 121; omega, Or.inr (Or.inl ⟨n1, hkd, by omega⟩)⟩
      · rw [if_neg e52]
        show V 55 [some (.inr (some 49)), none] [.inl 0] (WW (ab_s (ab_s (ab_s s 122 fa) 123 fb) 124 fc)) 0 0
        refine rb_if_eq hV (tgt := 84) dX10_kind_55 (by decide) (by unfold ab_r at *; omega) (fun _ => ?_) (fun z => absurd z (by decide))
        have h14 : ¬ isNm (s 56) (s 121 0) 14 (fa 0) (fb 0) := fun q => e52 (by have q2 := (isNm_14 _ _ _ _).mp q; omega)
        clear e52
        refine rb_aload_n hV dX10_kind_84 rfl rfl ?_
        refine rb_bipush hV dX10_kind_85 (by decide) ?_
        refine rb_bipush hV dX10_kind_87 (by decide) ?_
        refine rb_bipush hV dX10_kind_89 (by decide) ?_
        refine rb_bipush hV dX10_kind_91 (by decide) ?_
        refine rb_callV hV (rest := []) dX10_kind_93 (c_X10_isPiece (ab_s (ab_s (ab_s s 122 fa) 123 fb) 124 fc) 115 101 110 116 (by decide) (show 0 ≤ (fa 0) by omega) (show (fb 0) ≤ 120 by omega) (show (fa 0) ≤ 121 by omega) (show 0 ≤ (fb 0) by omega) ht) lk_X10_113 rfl (Or.inl ⟨9, _, TX10, 24, gw_49 _, rfl⟩) rfl ⟨rfl, rfl, (Nat.le_of_ble_eq_true rfl), (Nat.le_of_ble_eq_true rfl), (Nat.le_of_ble_eq_true rfl), (Nat.le_of_ble_eq_true rfl)⟩ (Nat.le_of_ble_eq_true rfl) (fun r9 h9 p9 => ?_)
        obtain ⟨rfl, rfl⟩ := p9
        show V 96 [some (.inr (some 49)), none] [.inl (if 3 < (fb 0) - (fa 0) ∧ s 56 (fa 0) = 115 ∧ s 56 ((fa 0) + 1) = 101 ∧ s 56 ((fa 0) + 2) = 110 ∧ s 56 ((fa 0) + 3) = 116 then 1 else 0)] (WW (ab_s (ab_s (ab_s s 122 fa) 123 fb) 124 fc)) 0 0
        by_cases e93 : 3 < (fb 0) - (fa 0) ∧ s 56 (fa 0) = 115 ∧ s 56 ((fa 0) + 1) = 101 ∧ s 56 ((fa 0) + 2) = 110 ∧ s 56 ((fa 0) + 3) = 116
        · rw [if_pos e93]
          show V 96 [some (.inr (some 49)), none] [.inl 1] (WW (ab_s (ab_s (ab_s s 122 fa) 123 fb) 124 fc)) 0 0
          refine rb_if_eq hV (tgt := 141) dX10_kind_96 (by decide) (by unfold ab_r at *; omega) (fun z => absurd z (by decide)) (fun _ => ?_)
          refine rb_aload_n hV dX10_kind_99 rfl rfl ?_
          refine rb_bipush hV dX10_kind_100 (by decide) ?_
          refine rb_callV hV (rest := []) dX10_kind_102 (c_X10_isLong (ab_s (ab_s (ab_s s 122 fa) 123 fb) 124 fc) 8 (by decide) (show 0 ≤ (fa 0) by omega) (show (fb 0) ≤ 120 by omega) (show (fa 0) ≤ 121 by omega) (show 0 ≤ (fb 0) by omega)) lk_X10_117 rfl (Or.inl ⟨9, _, TX10, 24, gw_49 _, rfl⟩) rfl ⟨rfl, rfl, (Nat.le_of_ble_eq_true rfl), (Nat.le_of_ble_eq_true rfl), (Nat.le_of_ble_eq_true rfl), (Nat.le_of_ble_eq_true rfl)⟩ (Nat.le_of_ble_eq_true rfl) (fun r9 h9 p9 => ?_)
          obtain ⟨rfl, rfl⟩ := p9
          show V 105 [some (.inr (some 49)), none] [.inl (if (fb 0) - (fa 0) = 8 then 1 else 0)] (WW (ab_s (ab_s (ab_s s 122 fa) 123 fb) 124 fc)) 0 0
          by_cases e102 : (fb 0) - (fa 0) = 8
          · rw [if_pos e102]
            show V 105 [some (.inr (some 49)), none] [.inl 1] (WW (ab_s (ab_s (ab_s s 122 fa) 123 fb) 124 fc)) 0 0
            refine rb_if_eq hV (tgt := 141) dX10_kind_105 (by decide) (by unfold ab_r at *; omega) (fun z => absurd z (by decide)) (fun _ => ?_)
            refine rb_aload_n hV dX10_kind_108 rfl rfl ?_
            refine rb_bipush hV dX10_kind_109 (by decide) ?_
            refine rb_bipush hV dX10_kind_111 (by decide) ?_
            refine rb_bipush hV dX10_kind_113 (by decide) ?_
            refine rb_callV hV (rest := []) dX10_kind_115 (c_X10_endsWith (ab_s (ab_s (ab_s s 122 fa) 123 fb) 124 fc) 110 99 101 (by decide) (show 3 ≤ (fb 0) ∧ (fb 0) ≤ 120 by omega) ht) lk_X10_121 rfl (Or.inl ⟨9, _, TX10, 24, gw_49 _, rfl⟩) rfl ⟨rfl, rfl, (Nat.le_of_ble_eq_true rfl), (Nat.le_of_ble_eq_true rfl), (Nat.le_of_ble_eq_true rfl), (Nat.le_of_ble_eq_true rfl)⟩ (Nat.le_of_ble_eq_true rfl) (fun r9 h9 p9 => ?_)
            obtain ⟨rfl, rfl⟩ := p9
            show V 118 [some (.inr (some 49)), none] [.inl (if s 56 ((fb 0) - 3) = 110 ∧ s 56 ((fb 0) - 2) = 99 ∧ s 56 ((fb 0) - 1) = 101 then 1 else 0)] (WW (ab_s (ab_s (ab_s s 122 fa) 123 fb) 124 fc)) 0 0
            by_cases e115 : s 56 ((fb 0) - 3) = 110 ∧ s 56 ((fb 0) - 2) = 99 ∧ s 56 ((fb 0) - 1) = 101
            · rw [if_pos e115]
              show V 118 [some (.inr (some 49)), none] [.inl 1] (WW (ab_s (ab_s (ab_s s 122 fa) 123 fb) 124 fc)) 0 0
              refine rb_if_eq hV (tgt := 141) dX10_kind_118 (by decide) (by unfold ab_r at *; omega) (fun z => absurd z (by decide)) (fun _ => ?_)
              refine rb_aload_n hV dX10_kind_121 rfl rfl ?_
              refine rb_get hV (v := .inr (some 56)) dX10_kind_122 ⟨RX10, TX10, 24, rfl, (Nat.le_of_ble_eq_true rfl), lf_X10_38⟩ (gw_49 _) rfl ?_
              refine rb_aload_n hV dX10_kind_125 rfl rfl ?_
              refine rb_get hV (v := .inl (fa 0)) dX10_kind_126 ⟨RX10, TX10, 24, rfl, (Nat.le_of_ble_eq_true rfl), lf_X10_106⟩ (gw_49 _) rfl ?_
              refine rb_iconst hV dX10_kind_129 ?_
              refine rb_iadd hV dX10_kind_130 ?_
              refine rb_cald hV (f := (s 56)) dX10_kind_131 (gw_56 _) (Nat.le_of_ble_eq_true rfl) (by omega) ?_
              refine rb_bipush hV dX10_kind_132 (by decide) ?_
              have h4r := ht (fa 0 + 4)
              refine rb_icmp_ne hV (tgt := 141) dX10_kind_134 (by decide) ⟨(by unfold ab_r at *; omega), (by unfold ab_r at *; omega)⟩ (fun c134 => ?_) (fun c134 => ?_)
              · have h15 : ¬ isNm (s 56) (s 121 0) 15 (fa 0) (fb 0) := fun q => c134 (by have q2 := (isNm_15 _ _ _ _).mp q; omega)
                clear e93 e102 e115 c134
                refine rb_iconst hV dX10_kind_141 ?_
                refine rb_istore_n hV (L2 := [some (.inr (some 49)), some (.inl (-1))]) dX10_kind_142 rfl (Nat.le_of_ble_eq_true rfl) rfl ?_
                refine rb_aload_n hV dX10_kind_143 rfl rfl ?_
                refine rb_get hV (v := .inl (fc 0)) dX10_kind_144 ⟨RX10, TX10, 24, rfl, (Nat.le_of_ble_eq_true rfl), lf_X10_100⟩ (gw_49 _) rfl ?_
                refine rb_if_ge hV (tgt := 162) dX10_kind_147 (by decide) (by unfold ab_r at *; omega) (fun c147 => absurd c147 (by omega)) (fun c147 => ?_)
                refine rb_iload_n hV dX10_kind_150 rfl rfl ?_
                refine rb_if_ge hV (tgt := 162) dX10_kind_151 (by decide) (by unfold ab_r at *; omega) (fun z => absurd z (by decide)) (fun _ => ?_)
                refine rb_aload_n hV dX10_kind_154 rfl rfl ?_
                refine rb_aload_n hV dX10_kind_155 rfl rfl ?_
                refine rb_get hV (v := .inl (fa 0)) dX10_kind_156 ⟨RX10, TX10, 24, rfl, (Nat.le_of_ble_eq_true rfl), lf_X10_106⟩ (gw_49 _) rfl ?_
                refine rb_put hV (C := RX10) (T := TX10) (N := 24) (ci := 9) (j := 14) dX10_kind_159 rfl (Nat.le_of_ble_eq_true rfl) lf_X10_100 rfl (gw_49 _) (Nat.le_of_ble_eq_true rfl) (ft_X10_14 _) ((pw_49_14 _ _).trans (congrArg WW (ab_s_same _ 124 _ _))) ?_
                refine rb_iload_n hV dX10_kind_162 rfl rfl ?_
                refine rb_ret hV (r := some (.inl (-1))) dX10_kind_163 rfl ⟨(Nat.le_of_ble_eq_true rfl), (Nat.le_of_ble_eq_true rfl)⟩ trivial ?_
                obtain ⟨n1, n2, n3, n4, n5⟩ := hnb2 (by omega)
                have hkd : kdn (s 56) (s 121 0) (s 123 0 + 1) (eo (s 56) (s 123 0 + 1) (s 121 0 - (s 123 0 + 1)).toNat) = -1 := by
                  rw [← n5, ← n2]
                  exact kdn_none h13 h14 h15
                exact ⟨_, _, _, _, rfl, rfl, by decide, by show (fb 0 ≤ s 121 0 ∧ 0 ≤ fb 0) ∧ 0 ≤ fa 0 ∧ fa 0 ≤ 121; omega, Or.inr (Or.inl ⟨n1, hkd, by omega⟩)⟩
              · have h15 : isNm (s 56) (s 121 0) 15 (fa 0) (fb 0) := (isNm_15 _ _ _ _).mpr (by omega)
                refine rb_iconst hV dX10_kind_137 ?_
                refine rb_goto hV (tgt := 142) dX10_kind_138 (by decide) ?_
                refine rb_istore_n hV (L2 := [some (.inr (some 49)), some (.inl 2)]) dX10_kind_142 rfl (Nat.le_of_ble_eq_true rfl) rfl ?_
                refine rb_aload_n hV dX10_kind_143 rfl rfl ?_
                refine rb_get hV (v := .inl (fc 0)) dX10_kind_144 ⟨RX10, TX10, 24, rfl, (Nat.le_of_ble_eq_true rfl), lf_X10_100⟩ (gw_49 _) rfl ?_
                refine rb_if_ge hV (tgt := 162) dX10_kind_147 (by decide) (by unfold ab_r at *; omega) (fun c147 => absurd c147 (by omega)) (fun c147 => ?_)
                refine rb_iload_n hV dX10_kind_150 rfl rfl ?_
                refine rb_if_ge hV (tgt := 162) dX10_kind_151 (by decide) (by unfold ab_r at *; omega) (fun _ => ?_) (fun z => absurd z (by decide))
                refine rb_iload_n hV dX10_kind_162 rfl rfl ?_
                refine rb_ret hV (r := some (.inl 2)) dX10_kind_163 rfl ⟨(Nat.le_of_ble_eq_true rfl), (Nat.le_of_ble_eq_true rfl)⟩ trivial ?_
                obtain ⟨n1, n2, n3, n4, n5⟩ := hnb2 (by omega)
                have hkd : kdn (s 56) (s 121 0) (s 123 0 + 1) (eo (s 56) (s 123 0 + 1) (s 121 0 - (s 123 0 + 1)).toNat) = 2 := by
                  rw [← n5, ← n2]
                  exact (cif_neg h13).trans ((cif_neg h14).trans (cif_pos h15))
                exact ⟨_, _, _, _, rfl, rfl, by decide, by show (fb 0 ≤ s 121 0 ∧ 0 ≤ fb 0) ∧ 0 ≤ fa 0 ∧ fa 0 ≤ 121; omega, Or.inr (Or.inr ⟨n1, by omega, hkd.symm, by omega, n5⟩)⟩
            · rw [if_neg e115]
              show V 118 [some (.inr (some 49)), none] [.inl 0] (WW (ab_s (ab_s (ab_s s 122 fa) 123 fb) 124 fc)) 0 0
              refine rb_if_eq hV (tgt := 141) dX10_kind_118 (by decide) (by unfold ab_r at *; omega) (fun _ => ?_) (fun z => absurd z (by decide))
              have h15 : ¬ isNm (s 56) (s 121 0) 15 (fa 0) (fb 0) := fun q => e115 (by have q2 := (isNm_15 _ _ _ _).mp q; omega)
              clear e93 e102 e115
              refine rb_iconst hV dX10_kind_141 ?_
              refine rb_istore_n hV (L2 := [some (.inr (some 49)), some (.inl (-1))]) dX10_kind_142 rfl (Nat.le_of_ble_eq_true rfl) rfl ?_
              refine rb_aload_n hV dX10_kind_143 rfl rfl ?_
              refine rb_get hV (v := .inl (fc 0)) dX10_kind_144 ⟨RX10, TX10, 24, rfl, (Nat.le_of_ble_eq_true rfl), lf_X10_100⟩ (gw_49 _) rfl ?_
              refine rb_if_ge hV (tgt := 162) dX10_kind_147 (by decide) (by unfold ab_r at *; omega) (fun c147 => absurd c147 (by omega)) (fun c147 => ?_)
              refine rb_iload_n hV dX10_kind_150 rfl rfl ?_
              refine rb_if_ge hV (tgt := 162) dX10_kind_151 (by decide) (by unfold ab_r at *; omega) (fun z => absurd z (by decide)) (fun _ => ?_)
              refine rb_aload_n hV dX10_kind_154 rfl rfl ?_
              refine rb_aload_n hV dX10_kind_155 rfl rfl ?_
              refine rb_get hV (v := .inl (fa 0)) dX10_kind_156 ⟨RX10, TX10, 24, rfl, (Nat.le_of_ble_eq_true rfl), lf_X10_106⟩ (gw_49 _) rfl ?_
              refine rb_put hV (C := RX10) (T := TX10) (N := 24) (ci := 9) (j := 14) dX10_kind_159 rfl (Nat.le_of_ble_eq_true rfl) lf_X10_100 rfl (gw_49 _) (Nat.le_of_ble_eq_true rfl) (ft_X10_14 _) ((pw_49_14 _ _).trans (congrArg WW (ab_s_same _ 124 _ _))) ?_
              refine rb_iload_n hV dX10_kind_162 rfl rfl ?_
              refine rb_ret hV (r := some (.inl (-1))) dX10_kind_163 rfl ⟨(Nat.le_of_ble_eq_true rfl), (Nat.le_of_ble_eq_true rfl)⟩ trivial ?_
              obtain ⟨n1, n2, n3, n4, n5⟩ := hnb2 (by omega)
              have hkd : kdn (s 56) (s 121 0) (s 123 0 + 1) (eo (s 56) (s 123 0 + 1) (s 121 0 - (s 123 0 + 1)).toNat) = -1 := by
                rw [← n5, ← n2]
                exact kdn_none h13 h14 h15
              exact ⟨_, _, _, _, rfl, rfl, by decide, by show (fb 0 ≤ s 121 0 ∧ 0 ≤ fb 0) ∧ 0 ≤ fa 0 ∧ fa 0 ≤ 121; omega, Or.inr (Or.inl ⟨n1, hkd, by omega⟩)⟩
          · rw [if_neg e102]
            show V 105 [some (.inr (some 49)), none] [.inl 0] (WW (ab_s (ab_s (ab_s s 122 fa) 123 fb) 124 fc)) 0 0
            refine rb_if_eq hV (tgt := 141) dX10_kind_105 (by decide) (by unfold ab_r at *; omega) (fun _ => ?_) (fun z => absurd z (by decide))
            have h15 : ¬ isNm (s 56) (s 121 0) 15 (fa 0) (fb 0) := fun q => e102 (by have q2 := (isNm_15 _ _ _ _).mp q; omega)
            clear e93 e102
            refine rb_iconst hV dX10_kind_141 ?_
            refine rb_istore_n hV (L2 := [some (.inr (some 49)), some (.inl (-1))]) dX10_kind_142 rfl (Nat.le_of_ble_eq_true rfl) rfl ?_
            refine rb_aload_n hV dX10_kind_143 rfl rfl ?_
            refine rb_get hV (v := .inl (fc 0)) dX10_kind_144 ⟨RX10, TX10, 24, rfl, (Nat.le_of_ble_eq_true rfl), lf_X10_100⟩ (gw_49 _) rfl ?_
            refine rb_if_ge hV (tgt := 162) dX10_kind_147 (by decide) (by unfold ab_r at *; omega) (fun c147 => absurd c147 (by omega)) (fun c147 => ?_)
            refine rb_iload_n hV dX10_kind_150 rfl rfl ?_
            refine rb_if_ge hV (tgt := 162) dX10_kind_151 (by decide) (by unfold ab_r at *; omega) (fun z => absurd z (by decide)) (fun _ => ?_)
            refine rb_aload_n hV dX10_kind_154 rfl rfl ?_
            refine rb_aload_n hV dX10_kind_155 rfl rfl ?_
            refine rb_get hV (v := .inl (fa 0)) dX10_kind_156 ⟨RX10, TX10, 24, rfl, (Nat.le_of_ble_eq_true rfl), lf_X10_106⟩ (gw_49 _) rfl ?_
            refine rb_put hV (C := RX10) (T := TX10) (N := 24) (ci := 9) (j := 14) dX10_kind_159 rfl (Nat.le_of_ble_eq_true rfl) lf_X10_100 rfl (gw_49 _) (Nat.le_of_ble_eq_true rfl) (ft_X10_14 _) ((pw_49_14 _ _).trans (congrArg WW (ab_s_same _ 124 _ _))) ?_
            refine rb_iload_n hV dX10_kind_162 rfl rfl ?_
            refine rb_ret hV (r := some (.inl (-1))) dX10_kind_163 rfl ⟨(Nat.le_of_ble_eq_true rfl), (Nat.le_of_ble_eq_true rfl)⟩ trivial ?_
            obtain ⟨n1, n2, n3, n4, n5⟩ := hnb2 (by omega)
            have hkd : kdn (s 56) (s 121 0) (s 123 0 + 1) (eo (s 56) (s 123 0 + 1) (s 121 0 - (s 123 0 + 1)).toNat) = -1 := by
              rw [← n5, ← n2]
              exact kdn_none h13 h14 h15
            exact ⟨_, _, _, _, rfl, rfl, by decide, by show (fb 0 ≤ s 121 0 ∧ 0 ≤ fb 0) ∧ 0 ≤ fa 0 ∧ fa 0 ≤ 121; omega, Or.inr (Or.inl ⟨n1, hkd, by omega⟩)⟩
        · rw [if_neg e93]
          show V 96 [some (.inr (some 49)), none] [.inl 0] (WW (ab_s (ab_s (ab_s s 122 fa) 123 fb) 124 fc)) 0 0
          refine rb_if_eq hV (tgt := 141) dX10_kind_96 (by decide) (by unfold ab_r at *; omega) (fun _ => ?_) (fun z => absurd z (by decide))
          have h15 : ¬ isNm (s 56) (s 121 0) 15 (fa 0) (fb 0) := fun q => e93 (by have q2 := (isNm_15 _ _ _ _).mp q; omega)
          clear e93
          refine rb_iconst hV dX10_kind_141 ?_
          refine rb_istore_n hV (L2 := [some (.inr (some 49)), some (.inl (-1))]) dX10_kind_142 rfl (Nat.le_of_ble_eq_true rfl) rfl ?_
          refine rb_aload_n hV dX10_kind_143 rfl rfl ?_
          refine rb_get hV (v := .inl (fc 0)) dX10_kind_144 ⟨RX10, TX10, 24, rfl, (Nat.le_of_ble_eq_true rfl), lf_X10_100⟩ (gw_49 _) rfl ?_
          refine rb_if_ge hV (tgt := 162) dX10_kind_147 (by decide) (by unfold ab_r at *; omega) (fun c147 => absurd c147 (by omega)) (fun c147 => ?_)
          refine rb_iload_n hV dX10_kind_150 rfl rfl ?_
          refine rb_if_ge hV (tgt := 162) dX10_kind_151 (by decide) (by unfold ab_r at *; omega) (fun z => absurd z (by decide)) (fun _ => ?_)
          refine rb_aload_n hV dX10_kind_154 rfl rfl ?_
          refine rb_aload_n hV dX10_kind_155 rfl rfl ?_
          refine rb_get hV (v := .inl (fa 0)) dX10_kind_156 ⟨RX10, TX10, 24, rfl, (Nat.le_of_ble_eq_true rfl), lf_X10_106⟩ (gw_49 _) rfl ?_
          refine rb_put hV (C := RX10) (T := TX10) (N := 24) (ci := 9) (j := 14) dX10_kind_159 rfl (Nat.le_of_ble_eq_true rfl) lf_X10_100 rfl (gw_49 _) (Nat.le_of_ble_eq_true rfl) (ft_X10_14 _) ((pw_49_14 _ _).trans (congrArg WW (ab_s_same _ 124 _ _))) ?_
          refine rb_iload_n hV dX10_kind_162 rfl rfl ?_
          refine rb_ret hV (r := some (.inl (-1))) dX10_kind_163 rfl ⟨(Nat.le_of_ble_eq_true rfl), (Nat.le_of_ble_eq_true rfl)⟩ trivial ?_
          obtain ⟨n1, n2, n3, n4, n5⟩ := hnb2 (by omega)
          have hkd : kdn (s 56) (s 121 0) (s 123 0 + 1) (eo (s 56) (s 123 0 + 1) (s 121 0 - (s 123 0 + 1)).toNat) = -1 := by
            rw [← n5, ← n2]
            exact kdn_none h13 h14 h15
          exact ⟨_, _, _, _, rfl, rfl, by decide, by show (fb 0 ≤ s 121 0 ∧ 0 ≤ fb 0) ∧ 0 ≤ fa 0 ∧ fa 0 ≤ 121; omega, Or.inr (Or.inl ⟨n1, hkd, by omega⟩)⟩
  · refine rb_iconst hV dX10_kind_12 ?_
    refine rb_goto hV (tgt := 142) dX10_kind_13 (by decide) ?_
    refine rb_istore_n hV (L2 := [some (.inr (some 49)), some (.inl (-1))]) dX10_kind_142 rfl (Nat.le_of_ble_eq_true rfl) rfl ?_
    refine rb_aload_n hV dX10_kind_143 rfl rfl ?_
    refine rb_get hV (v := .inl (fc 0)) dX10_kind_144 ⟨RX10, TX10, 24, rfl, (Nat.le_of_ble_eq_true rfl), lf_X10_100⟩ (gw_49 _) rfl ?_
    refine rb_if_ge hV (tgt := 162) dX10_kind_147 (by decide) (by unfold ab_r at *; omega) (fun c147 => ?_) (fun c147 => absurd c147 (by omega))
    refine rb_iload_n hV dX10_kind_162 rfl rfl ?_
    refine rb_ret hV (r := some (.inl (-1))) dX10_kind_163 rfl ⟨(Nat.le_of_ble_eq_true rfl), (Nat.le_of_ble_eq_true rfl)⟩ trivial ?_
    rcases hnb4 (by omega) with n1 | ⟨n1, n2, n3, n4, n5⟩
    · exact ⟨_, _, _, _, rfl, rfl, by decide, by show (fb 0 ≤ s 121 0 ∧ 0 ≤ fb 0) ∧ 0 ≤ fa 0 ∧ fa 0 ≤ 121; omega, Or.inl ⟨n1, by rcases hnp with z | z; exact z.2.2.2; omega⟩⟩
    · exact ⟨_, _, _, _, rfl, rfl, by decide, by show (fb 0 ≤ s 121 0 ∧ 0 ≤ fb 0) ∧ 0 ≤ fa 0 ∧ fa 0 ≤ 121; omega, Or.inr (Or.inl ⟨n1, by rw [← n5, n3, n2]; exact kdn_none (fun q => by have q2 := (isNm_13 _ _ _ _).mp q; omega) (fun q => by have q2 := (isNm_14 _ _ _ _).mp q; omega) (fun q => by have q2 := (isNm_15 _ _ _ _).mp q; omega), by omega⟩)⟩

def APY (m s1 : Nat → Int → Int) (sub kd : Int) (nu : Int → Int) : Prop := (sub = 0 ∧ s1 = ab_s m 117 (fun _ => nu 0)) ∨ (sub = 1 ∧ s1 = ab_s m 118 (fun _ => nu 0)) ∨ (sub = 2 ∧ s1 = ab_s m 119 (fun _ => nu 0)) ∨ (sub = 3 ∧ s1 = ab_s m 50 (ab_u (ab_u (ab_u (m 50) (3 * kd) (nu 0)) (3 * kd + 1) (nu 1)) (3 * kd + 2) (nu 2)))
def CMD (s : Nat → Int → Int) (q : Int × Int × Int × (Int → Int)) (r : Option ab_V) (h2 : List ab_E) : Prop := ∃ fa fb fc, (¬ q.1 = -1 ∧ r = some (.inl (-100 - q.1)) ∧ h2 = WW (ab_s (ab_s (ab_s s 122 fa) 123 fb) 124 fc) ∧ MI (ab_s (ab_s (ab_s s 122 fa) 123 fb) 124 fc)) ∨ (q.1 = -1 ∧ ∃ s1 s2, APY (ab_s (ab_s (ab_s s 122 fa) 123 fb) 124 fc) s1 q.2.1 q.2.2.1 q.2.2.2 ∧ r = some (.inl (s2 125 0)) ∧ h2 = WW s2 ∧ MI s2 ∧ MBEST s2 ∧ KEEP MBk s1 s2)
