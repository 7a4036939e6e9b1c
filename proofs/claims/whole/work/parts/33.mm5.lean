/-! the reference: rivers -/
set_option maxRecDepth 20000 in
theorem c_X10_spaceBegin (s : Nat → Int → Int) (w : Int) (hw : 0 ≤ w ∧ w < 60) : ab_Mt yX10_spaceBegin cX10_spaceBegin 2 (some .int) ({ frames := 0, cells := 0, slots := 0, locals := 0 } : Room) false 0 0 [.inr (some 49), .inl w] (WW s) (fun r h2 => r = some (.inl (s 60 w + s 51 w)) ∧ h2 = WW s) := by
  refine ab_mk RX10 false rfl pn_X10_spaceBegin (fun z => by cases z) (Nat.le_of_ble_eq_true rfl) (fun V hV => ?_)
  show V 0 [some (.inr (some 49)), some (.inl w)] [] (WW s) 0 0
  refine rb_aload_n hV dX10_spaceBegin_0 rfl rfl ?_
  refine rb_get hV (v := .inr (some 60)) dX10_spaceBegin_1 ⟨RX10, TX10, 24, rfl, (Nat.le_of_ble_eq_true rfl), lf_X10_51⟩ (gw_49 _) rfl ?_
  refine rb_iload_n hV dX10_spaceBegin_4 rfl rfl ?_
  refine rb_iald hV (f := (s 60)) dX10_spaceBegin_5 (gw_60 _) (Nat.le_of_ble_eq_true rfl) (by omega) ?_
  refine rb_aload_n hV dX10_spaceBegin_6 rfl rfl ?_
  refine rb_get hV (v := .inr (some 51)) dX10_spaceBegin_7 ⟨RX10, TX10, 24, rfl, (Nat.le_of_ble_eq_true rfl), lf_X10_23⟩ (gw_49 _) rfl ?_
  refine rb_iload_n hV dX10_spaceBegin_10 rfl rfl ?_
  refine rb_iald hV (f := (s 51)) dX10_spaceBegin_11 (gw_51 _) (Nat.le_of_ble_eq_true rfl) (by omega) ?_
  refine rb_iadd hV dX10_spaceBegin_12 ?_
  refine rb_ret hV (r := some (.inl ((s 60 w) + (s 51 w)))) dX10_spaceBegin_13 rfl ⟨(Nat.le_of_ble_eq_true rfl), (Nat.le_of_ble_eq_true rfl)⟩ trivial ?_
  exact ⟨rfl, rfl⟩

set_option maxRecDepth 20000 in
theorem c_X10_middle (s : Nat → Int → Int) (w : Int) (hw : 0 ≤ w ∧ w < 60) : ab_Mt yX10_middle cX10_middle 2 (some .int) ({ frames := 1, cells := 0, slots := 0, locals := 21 } : Room) false 0 0 [.inr (some 49), .inl w] (WW s) (fun r h2 => r = some (.inl (2 * (s 60 w + s 51 w) + s 61 w)) ∧ h2 = WW s) := by
  refine ab_mk RX10 false rfl pn_X10_middle (fun z => by cases z) (Nat.le_of_ble_eq_true rfl) (fun V hV => ?_)
  show V 0 [some (.inr (some 49)), some (.inl w)] [] (WW s) 0 0
  refine rb_iconst hV dX10_middle_0 ?_
  refine rb_aload_n hV dX10_middle_1 rfl rfl ?_
  refine rb_iload_n hV dX10_middle_2 rfl rfl ?_
  refine rb_callV hV (rest := [.inl 2]) dX10_middle_3 (c_X10_spaceBegin s w (by omega)) lk_X10_212 rfl (Or.inl ⟨9, _, TX10, 24, gw_49 _, rfl⟩) rfl ⟨rfl, rfl, (Nat.le_of_ble_eq_true rfl), (Nat.le_of_ble_eq_true rfl), (Nat.le_of_ble_eq_true rfl), (Nat.le_of_ble_eq_true rfl)⟩ (Nat.le_of_ble_eq_true rfl) (fun r9 h9 p9 => ?_)
  obtain ⟨rfl, rfl⟩ := p9
  show V 6 [some (.inr (some 49)), some (.inl w)] [.inl ((s 60 w) + (s 51 w)), .inl 2] (WW s) 0 0
  refine rb_imul hV dX10_middle_6 ?_
  refine rb_aload_n hV dX10_middle_7 rfl rfl ?_
  refine rb_get hV (v := .inr (some 61)) dX10_middle_8 ⟨RX10, TX10, 24, rfl, (Nat.le_of_ble_eq_true rfl), lf_X10_54⟩ (gw_49 _) rfl ?_
  refine rb_iload_n hV dX10_middle_11 rfl rfl ?_
  refine rb_iald hV (f := (s 61)) dX10_middle_12 (gw_61 _) (Nat.le_of_ble_eq_true rfl) (by omega) ?_
  refine rb_iadd hV dX10_middle_13 ?_
  refine rb_ret hV (r := some (.inl ((2 * ((s 60 w) + (s 51 w))) + (s 61 w)))) dX10_middle_14 rfl ⟨(Nat.le_of_ble_eq_true rfl), (Nat.le_of_ble_eq_true rfl)⟩ trivial ?_
  exact ⟨rfl, rfl⟩

set_option maxRecDepth 20000 in
theorem c_X10_hasSpace (s : Nat → Int → Int) (w : Int) (hw : 0 ≤ w ∧ w < 60) (hlo : 0 ≤ s 63 w ∧ s 63 w < 60) (hf : ab_r (s 59 (s 63 w + 1) - 1)) : ab_Mt yX10_hasSpace cX10_hasSpace 2 (some .boolean) ({ frames := 1, cells := 0, slots := 0, locals := 21 } : Room) false 0 0 [.inr (some 49), .inl w] (WW s) (fun r h2 => r = some (.inl (if w < s 59 (s 63 w + 1) - 1 then 1 else 0)) ∧ h2 = WW s) := by
  refine ab_mk RX10 false rfl pn_X10_hasSpace (fun z => by cases z) (Nat.le_of_ble_eq_true rfl) (fun V hV => ?_)
  show V 0 [some (.inr (some 49)), some (.inl w)] [] (WW s) 0 0
  refine rb_iload_n hV dX10_hasSpace_0 rfl rfl ?_
  refine rb_aload_n hV dX10_hasSpace_1 rfl rfl ?_
  refine rb_aload_n hV dX10_hasSpace_2 rfl rfl ?_
  refine rb_get hV (v := .inr (some 63)) dX10_hasSpace_3 ⟨RX10, TX10, 24, rfl, (Nat.le_of_ble_eq_true rfl), lf_X10_60⟩ (gw_49 _) rfl ?_
  refine rb_iload_n hV dX10_hasSpace_6 rfl rfl ?_
  refine rb_iald hV (f := (s 63)) dX10_hasSpace_7 (gw_63 _) (Nat.le_of_ble_eq_true rfl) (by omega) ?_
  refine rb_callV hV (rest := [.inl w]) dX10_hasSpace_8 (c_X10_lastOf s (s 63 w) hlo) lk_X10_192 rfl (Or.inl ⟨9, _, TX10, 24, gw_49 _, rfl⟩) rfl ⟨rfl, rfl, (Nat.le_of_ble_eq_true rfl), (Nat.le_of_ble_eq_true rfl), (Nat.le_of_ble_eq_true rfl), (Nat.le_of_ble_eq_true rfl)⟩ (Nat.le_of_ble_eq_true rfl) (fun r9 h9 p9 => ?_)
  obtain ⟨rfl, rfl⟩ := p9
  show V 11 [some (.inr (some 49)), some (.inl w)] [.inl ((s 59 ((s 63 w) + 1)) - 1), .inl w] (WW s) 0 0
  refine rb_icmp_ge hV (tgt := 18) dX10_hasSpace_11 (by decide) ⟨(by unfold ab_r at *; omega), (by unfold ab_r at *; omega)⟩ (fun c11 => ?_) (fun c11 => ?_)
  · refine rb_iconst hV dX10_hasSpace_18 ?_
    refine rb_ret hV (r := some (.inl 0)) dX10_hasSpace_19 rfl ⟨(Nat.le_of_ble_eq_true rfl), (Nat.le_of_ble_eq_true rfl)⟩ (by first | exact Or.inl rfl | exact Or.inr rfl | omega) ?_
    exact ⟨congrArg (fun z : Int => some (Sum.inl z)) (if_neg (by omega)).symm, rfl⟩
  · refine rb_iconst hV dX10_hasSpace_14 ?_
    refine rb_goto hV (tgt := 19) dX10_hasSpace_15 (by decide) ?_
    refine rb_ret hV (r := some (.inl 1)) dX10_hasSpace_19 rfl ⟨(Nat.le_of_ble_eq_true rfl), (Nat.le_of_ble_eq_true rfl)⟩ (by first | exact Or.inl rfl | exact Or.inr rfl | omega) ?_
    exact ⟨congrArg (fun z : Int => some (Sum.inl z)) (if_pos (by omega)).symm, rfl⟩

set_option maxRecDepth 20000 in
theorem c_X10_areNear (s : Nat → Int → Int) (w v : Int) (hw : 0 ≤ w ∧ w < 60) (hv : 0 ≤ v ∧ v < 60) (hlw : 0 ≤ s 63 w ∧ s 63 w < 60) (hlv : 0 ≤ s 63 v ∧ s 63 v < 60) (hfw : 0 ≤ s 59 (s 63 w + 1) ∧ s 59 (s 63 w + 1) ≤ 60) (hfv : 0 ≤ s 59 (s 63 v + 1) ∧ s 59 (s 63 v + 1) ≤ 60) (hmw : -200000 ≤ (2 * ((s 60 w) + (s 51 w)) + (s 61 w)) ∧ (2 * ((s 60 w) + (s 51 w)) + (s 61 w)) ≤ 200000) (hmv : -200000 ≤ (2 * ((s 60 v) + (s 51 v)) + (s 61 v)) ∧ (2 * ((s 60 v) + (s 51 v)) + (s 61 v)) ≤ 200000) (ht : 0 ≤ s 119 0 ∧ s 119 0 ≤ 20) : ab_Mt yX10_areNear cX10_areNear 3 (some .boolean) ({ frames := 2, cells := 0, slots := 0, locals := 42 } : Room) false 0 0 [.inr (some 49), .inl w, .inl v] (WW s) (fun r h2 => r = some (.inl (if ((w < (s 59 ((s 63 w) + 1)) - 1 ∧ v < (s 59 ((s 63 v) + 1)) - 1) ∧ -2 * (s 119 0) ≤ (2 * ((s 60 w) + (s 51 w)) + (s 61 w)) - (2 * ((s 60 v) + (s 51 v)) + (s 61 v)) ∧ (2 * ((s 60 w) + (s 51 w)) + (s 61 w)) - (2 * ((s 60 v) + (s 51 v)) + (s 61 v)) ≤ 2 * (s 119 0)) then 1 else 0)) ∧ h2 = WW s) := by
  refine ab_mk RX10 false rfl pn_X10_areNear (fun z => by cases z) (Nat.le_of_ble_eq_true rfl) (fun V hV => ?_)
  show V 0 [some (.inr (some 49)), some (.inl w), some (.inl v)] [] (WW s) 0 0
  refine rb_aload_n hV dX10_areNear_0 rfl rfl ?_
  refine rb_iload_n hV dX10_areNear_1 rfl rfl ?_
  refine rb_callV hV (rest := []) dX10_areNear_2 (c_X10_hasSpace s w (by omega) hlw (by unfold ab_r; omega)) lk_X10_215 rfl (Or.inl ⟨9, _, TX10, 24, gw_49 _, rfl⟩) rfl ⟨rfl, rfl, (Nat.le_of_ble_eq_true rfl), (Nat.le_of_ble_eq_true rfl), (Nat.le_of_ble_eq_true rfl), (Nat.le_of_ble_eq_true rfl)⟩ (Nat.le_of_ble_eq_true rfl) (fun r9 h9 p9 => ?_)
  obtain ⟨rfl, rfl⟩ := p9
  show V 5 [some (.inr (some 49)), some (.inl w), some (.inl v)] [.inl (if w < (s 59 ((s 63 w) + 1)) - 1 then 1 else 0)] (WW s) 0 0
  by_cases e2 : w < (s 59 ((s 63 w) + 1)) - 1
  · rw [if_pos e2]
    show V 5 [some (.inr (some 49)), some (.inl w), some (.inl v)] [.inl 1] (WW s) 0 0
    refine rb_if_eq hV (tgt := 50) dX10_areNear_5 (by decide) (by unfold ab_r at *; omega) (fun z => absurd z (by decide)) (fun _ => ?_)
    refine rb_aload_n hV dX10_areNear_8 rfl rfl ?_
    refine rb_iload_n hV dX10_areNear_9 rfl rfl ?_
    refine rb_callV hV (rest := []) dX10_areNear_10 (c_X10_hasSpace s v (by omega) hlv (by unfold ab_r; omega)) lk_X10_215 rfl (Or.inl ⟨9, _, TX10, 24, gw_49 _, rfl⟩) rfl ⟨rfl, rfl, (Nat.le_of_ble_eq_true rfl), (Nat.le_of_ble_eq_true rfl), (Nat.le_of_ble_eq_true rfl), (Nat.le_of_ble_eq_true rfl)⟩ (Nat.le_of_ble_eq_true rfl) (fun r9 h9 p9 => ?_)
    obtain ⟨rfl, rfl⟩ := p9
    show V 13 [some (.inr (some 49)), some (.inl w), some (.inl v)] [.inl (if v < (s 59 ((s 63 v) + 1)) - 1 then 1 else 0)] (WW s) 0 0
    by_cases e10 : v < (s 59 ((s 63 v) + 1)) - 1
    · rw [if_pos e10]
      show V 13 [some (.inr (some 49)), some (.inl w), some (.inl v)] [.inl 1] (WW s) 0 0
      refine rb_if_eq hV (tgt := 50) dX10_areNear_13 (by decide) (by unfold ab_r at *; omega) (fun z => absurd z (by decide)) (fun _ => ?_)
      refine rb_aload_n hV dX10_areNear_16 rfl rfl ?_
      refine rb_iload_n hV dX10_areNear_17 rfl rfl ?_
      refine rb_callV hV (rest := []) dX10_areNear_18 (c_X10_middle s w (by omega)) lk_X10_218 rfl (Or.inl ⟨9, _, TX10, 24, gw_49 _, rfl⟩) rfl ⟨rfl, rfl, (Nat.le_of_ble_eq_true rfl), (Nat.le_of_ble_eq_true rfl), (Nat.le_of_ble_eq_true rfl), (Nat.le_of_ble_eq_true rfl)⟩ (Nat.le_of_ble_eq_true rfl) (fun r9 h9 p9 => ?_)
      obtain ⟨rfl, rfl⟩ := p9
      show V 21 [some (.inr (some 49)), some (.inl w), some (.inl v)] [.inl (2 * ((s 60 w) + (s 51 w)) + (s 61 w))] (WW s) 0 0
      refine rb_aload_n hV dX10_areNear_21 rfl rfl ?_
      refine rb_iload_n hV dX10_areNear_22 rfl rfl ?_
      refine rb_callV hV (rest := [.inl (2 * ((s 60 w) + (s 51 w)) + (s 61 w))]) dX10_areNear_23 (c_X10_middle s v (by omega)) lk_X10_218 rfl (Or.inl ⟨9, _, TX10, 24, gw_49 _, rfl⟩) rfl ⟨rfl, rfl, (Nat.le_of_ble_eq_true rfl), (Nat.le_of_ble_eq_true rfl), (Nat.le_of_ble_eq_true rfl), (Nat.le_of_ble_eq_true rfl)⟩ (Nat.le_of_ble_eq_true rfl) (fun r9 h9 p9 => ?_)
      obtain ⟨rfl, rfl⟩ := p9
      show V 26 [some (.inr (some 49)), some (.inl w), some (.inl v)] [.inl (2 * ((s 60 v) + (s 51 v)) + (s 61 v)), .inl (2 * ((s 60 w) + (s 51 w)) + (s 61 w))] (WW s) 0 0
      refine rb_isub hV dX10_areNear_26 ?_
      refine rb_bipush hV dX10_areNear_27 (by decide) ?_
      refine rb_aload_n hV dX10_areNear_29 rfl rfl ?_
      refine rb_get hV (v := .inl (s 119 0)) dX10_areNear_30 ⟨RX10, TX10, 24, rfl, (Nat.le_of_ble_eq_true rfl), lf_X10_16⟩ (gw_49 _) rfl ?_
      refine rb_imul hV dX10_areNear_33 ?_
      refine rb_iconst hV dX10_areNear_34 ?_
      refine rb_aload_n hV dX10_areNear_35 rfl rfl ?_
      refine rb_get hV (v := .inl (s 119 0)) dX10_areNear_36 ⟨RX10, TX10, 24, rfl, (Nat.le_of_ble_eq_true rfl), lf_X10_16⟩ (gw_49 _) rfl ?_
      refine rb_imul hV dX10_areNear_39 ?_
      refine rb_callS hV (rest := []) dX10_areNear_40 (c_X10_in s ((2 * ((s 60 w) + (s 51 w)) + (s 61 w)) - (2 * ((s 60 v) + (s 51 v)) + (s 61 v))) ((-2) * (s 119 0)) (2 * (s 119 0)) (by unfold ab_r at *; omega) (by unfold ab_r at *; omega) (by unfold ab_r at *; omega)) lk_X10_69 rfl rfl ⟨rfl, rfl, (Nat.le_of_ble_eq_true rfl), (Nat.le_of_ble_eq_true rfl), (Nat.le_of_ble_eq_true rfl), (Nat.le_of_ble_eq_true rfl)⟩ (Nat.le_of_ble_eq_true rfl) (fun r9 h9 p9 => ?_)
      obtain ⟨rfl, rfl⟩ := p9
      show V 43 [some (.inr (some 49)), some (.inl w), some (.inl v)] [.inl (if ((-2) * (s 119 0)) ≤ ((2 * ((s 60 w) + (s 51 w)) + (s 61 w)) - (2 * ((s 60 v) + (s 51 v)) + (s 61 v))) ∧ ((2 * ((s 60 w) + (s 51 w)) + (s 61 w)) - (2 * ((s 60 v) + (s 51 v)) + (s 61 v))) ≤ (2 * (s 119 0)) then 1 else 0)] (WW s) 0 0
      by_cases e40 : ((-2) * (s 119 0)) ≤ ((2 * ((s 60 w) + (s 51 w)) + (s 61 w)) - (2 * ((s 60 v) + (s 51 v)) + (s 61 v))) ∧ ((2 * ((s 60 w) + (s 51 w)) + (s 61 w)) - (2 * ((s 60 v) + (s 51 v)) + (s 61 v))) ≤ (2 * (s 119 0))
      · rw [if_pos e40]
        show V 43 [some (.inr (some 49)), some (.inl w), some (.inl v)] [.inl 1] (WW s) 0 0
        refine rb_if_eq hV (tgt := 50) dX10_areNear_43 (by decide) (by unfold ab_r at *; omega) (fun z => absurd z (by decide)) (fun _ => ?_)
        refine rb_iconst hV dX10_areNear_46 ?_
        refine rb_goto hV (tgt := 51) dX10_areNear_47 (by decide) ?_
        refine rb_ret hV (r := some (.inl 1)) dX10_areNear_51 rfl ⟨(Nat.le_of_ble_eq_true rfl), (Nat.le_of_ble_eq_true rfl)⟩ (by first | exact Or.inl rfl | exact Or.inr rfl | omega) ?_
        exact ⟨congrArg (fun z : Int => some (Sum.inl z)) (if_pos (by omega)).symm, rfl⟩
      · rw [if_neg e40]
        show V 43 [some (.inr (some 49)), some (.inl w), some (.inl v)] [.inl 0] (WW s) 0 0
        refine rb_if_eq hV (tgt := 50) dX10_areNear_43 (by decide) (by unfold ab_r at *; omega) (fun _ => ?_) (fun z => absurd z (by decide))
        refine rb_iconst hV dX10_areNear_50 ?_
        refine rb_ret hV (r := some (.inl 0)) dX10_areNear_51 rfl ⟨(Nat.le_of_ble_eq_true rfl), (Nat.le_of_ble_eq_true rfl)⟩ (by first | exact Or.inl rfl | exact Or.inr rfl | omega) ?_
        exact ⟨congrArg (fun z : Int => some (Sum.inl z)) (if_neg (by omega)).symm, rfl⟩
    · rw [if_neg e10]
      show V 13 [some (.inr (some 49)), some (.inl w), some (.inl v)] [.inl 0] (WW s) 0 0
      refine rb_if_eq hV (tgt := 50) dX10_areNear_13 (by decide) (by unfold ab_r at *; omega) (fun _ => ?_) (fun z => absurd z (by decide))
      refine rb_iconst hV dX10_areNear_50 ?_
      refine rb_ret hV (r := some (.inl 0)) dX10_areNear_51 rfl ⟨(Nat.le_of_ble_eq_true rfl), (Nat.le_of_ble_eq_true rfl)⟩ (by first | exact Or.inl rfl | exact Or.inr rfl | omega) ?_
      exact ⟨congrArg (fun z : Int => some (Sum.inl z)) (if_neg (by omega)).symm, rfl⟩
  · rw [if_neg e2]
    show V 5 [some (.inr (some 49)), some (.inl w), some (.inl v)] [.inl 0] (WW s) 0 0
    refine rb_if_eq hV (tgt := 50) dX10_areNear_5 (by decide) (by unfold ab_r at *; omega) (fun _ => ?_) (fun z => absurd z (by decide))
    refine rb_iconst hV dX10_areNear_50 ?_
    refine rb_ret hV (r := some (.inl 0)) dX10_areNear_51 rfl ⟨(Nat.le_of_ble_eq_true rfl), (Nat.le_of_ble_eq_true rfl)⟩ (by first | exact Or.inl rfl | exact Or.inr rfl | omega) ?_
    exact ⟨congrArg (fun z : Int => some (Sum.inl z)) (if_neg (by omega)).symm, rfl⟩

/-- the lines are laid -/
def LM (s : Nat → Int → Int) : Prop := PI (vM s) ∧ LV (vM s) (s 59) (s 125 0) ∧ 0 < s 125 0 ∧ LDY (vM s) (s 59) (s 125 0) (s 63) (s 60) (s 61) ∧ (∀ v, -1000 ≤ s 61 v ∧ s 61 v ≤ 1000) ∧ ∀ v, 0 ≤ s 62 v ∧ s 62 v ≤ 60
def slM (s : Nat → Int → Int) : Int → Int := slF (s 59) (s 63)
def mdM (s : Nat → Int → Int) : Int → Int := mdF (s 51) (s 60) (s 61)
theorem LM_f {s : Nat → Int → Int} (h : LM s) {v : Int} (h0 : 0 ≤ v) (h1 : v < s 120 0) : (0 ≤ s 63 v ∧ s 63 v < s 125 0) ∧ (0 ≤ s 59 (s 63 v) ∧ s 59 (s 63 v) ≤ v) ∧ (v < s 59 (s 63 v + 1) ∧ s 59 (s 63 v + 1) ≤ s 120 0) ∧ (-200000 ≤ 2 * (s 60 v + s 51 v) + s 61 v ∧ 2 * (s 60 v + s 51 v) + s 61 v ≤ 200000) := by
  obtain ⟨hp, hv, hn, hl, hs, -⟩ := h
  obtain ⟨a1, a2, a3, a4⟩ := LDY_f hp hv hn hl v h0 h1
  have a5 : 0 ≤ s 51 v ∧ s 51 v ≤ 600 := (hp.2.1 v h0 h1).1
  have a6 := hs v
  have a7 : s 59 (s 63 v + 1) ≤ s 120 0 := a3.2
  refine ⟨a1, a2, ⟨a3.1, a7⟩, by omega, by omega⟩
theorem LM_in {s : Nat → Int → Int} (h : LM s) {i v : Int} (h0 : 0 ≤ i) (h1 : i < s 125 0) (h2 : s 59 i ≤ v) (h3 : v < s 59 (i + 1)) : s 63 v = i := (h.2.2.2.1 i h0 h1 v h2 h3).1
/-- near, in the words of the class -/
theorem NR_cnd {s : Nat → Int → Int} {w v : Int} (hw : 0 ≤ s 63 w) (hv : 0 ≤ s 63 v) (h0 : 0 ≤ v) (h1 : v < w) (hl : s 63 v = s 63 w - 1) (hsw : ¬ slM s w = -1) : ((w < (s 59 ((s 63 w) + 1)) - 1 ∧ v < (s 59 ((s 63 v) + 1)) - 1) ∧ -2 * (s 119 0) ≤ (2 * ((s 60 w) + (s 51 w)) + (s 61 w)) - (2 * ((s 60 v) + (s 51 v)) + (s 61 v)) ∧ (2 * ((s 60 w) + (s 51 w)) + (s 61 w)) - (2 * ((s 60 v) + (s 51 v)) + (s 61 v)) ≤ 2 * (s 119 0)) ↔ cnd (s 63) (slM s) (mdM s) (2 * s 119 0) w v := by
  have e1 : w < s 59 (s 63 w + 1) - 1 := by
    by_cases q : w < s 59 (s 63 w + 1) - 1
    · exact q
    · exact absurd (slF_no q) hsw
  have m1 : mdM s w = 2 * (s 60 w + s 51 w) + s 61 w := rfl
  have m2 : mdM s v = 2 * (s 60 v + s 51 v) + s 61 v := rfl
  unfold cnd
  rw [m1, m2]
  by_cases q : v < s 59 (s 63 v + 1) - 1
  · have e2 : slM s v = s 63 v := slF_yes q
    rw [e2]
    constructor
    · rintro ⟨⟨a, b⟩, c, e⟩
      exact ⟨h0, h1, hl, by omega, by omega, by omega⟩
    · rintro ⟨a, b, c, e, f, g⟩
      exact ⟨⟨e1, q⟩, by omega, by omega⟩
  · have e2 : slM s v = -1 := slF_no q
    rw [e2]
    constructor
    · rintro ⟨⟨a, b⟩, c, e⟩
      exact absurd b q
    · rintro ⟨a, b, c, e, f, g⟩
      exact absurd rfl e
theorem NR_sym {s : Nat → Int → Int} {w v : Int} : ((w < (s 59 ((s 63 w) + 1)) - 1 ∧ v < (s 59 ((s 63 v) + 1)) - 1) ∧ -2 * (s 119 0) ≤ (2 * ((s 60 w) + (s 51 w)) + (s 61 w)) - (2 * ((s 60 v) + (s 51 v)) + (s 61 v)) ∧ (2 * ((s 60 w) + (s 51 w)) + (s 61 w)) - (2 * ((s 60 v) + (s 51 v)) + (s 61 v)) ≤ 2 * (s 119 0)) ↔ ((v < (s 59 ((s 63 v) + 1)) - 1 ∧ w < (s 59 ((s 63 w) + 1)) - 1) ∧ -2 * (s 119 0) ≤ (2 * ((s 60 v) + (s 51 v)) + (s 61 v)) - (2 * ((s 60 w) + (s 51 w)) + (s 61 w)) ∧ (2 * ((s 60 v) + (s 51 v)) + (s 61 v)) - (2 * ((s 60 w) + (s 51 w)) + (s 61 w)) ≤ 2 * (s 119 0)) := by
  constructor <;> rintro ⟨⟨a, b⟩, c, e⟩ <;> exact ⟨⟨b, a⟩, by omega, by omega⟩
theorem slM_no {s : Nat → Int → Int} {w : Int} (h : ¬ w < s 59 (s 63 w + 1) - 1) : slM s w = -1 := slF_no h
theorem slM_yes {s : Nat → Int → Int} {w : Int} (h0 : 0 ≤ s 63 w) (h : w < s 59 (s 63 w + 1) - 1) : ¬ slM s w = -1 := by
  have e : slM s w = s 63 w := slF_yes h
  omega

set_option maxRecDepth 20000 in
theorem c_X10_above (s : Nat → Int → Int) (w : Int) (hlm : LM s) (hw : 0 ≤ w ∧ w < s 120 0) (hsl : ¬ slM s w = -1) : ab_Mt yX10_above cX10_above 5 (some .int) ({ frames := 3, cells := 0, slots := 0, locals := 64 } : Room) false 0 0 [.inr (some 49), .inl w] (WW s) (fun r h2 => ∃ x, r = some (.inl x) ∧ h2 = WW s ∧ AB (s 63) (slM s) (mdM s) (s 62) (2 * s 119 0) w x) := by
  refine ab_mk RX10 false rfl pn_X10_above (fun z => by cases z) (Nat.le_of_ble_eq_true rfl) (fun V hV => ?_)
  show V 0 [some (.inr (some 49)), some (.inl w), none, none, none] [] (WW s) 0 0
  have hp : PI (vM s) := hlm.1
  have hv := hlm.2.1
  have hz := hlm.2.2.1
  have hn : 0 ≤ s 120 0 ∧ s 120 0 ≤ 60 := hp.1
  have hnl : 0 ≤ s 125 0 ∧ s 125 0 ≤ s 120 0 := hv.1
  have htol : 0 ≤ s 119 0 ∧ s 119 0 ≤ 20 := hp.2.2.2.2.1
  have hfw := LM_f hlm hw.1 hw.2
  refine rb_aload_n hV dX10_above_0 rfl rfl ?_
  refine rb_get hV (v := .inr (some 63)) dX10_above_1 ⟨RX10, TX10, 24, rfl, (Nat.le_of_ble_eq_true rfl), lf_X10_60⟩ (gw_49 _) rfl ?_
  refine rb_iload_n hV dX10_above_4 rfl rfl ?_
  refine rb_iald hV (f := (s 63)) dX10_above_5 (gw_63 _) (Nat.le_of_ble_eq_true rfl) (by omega) ?_
  refine rb_istore_n hV (L2 := [some (.inr (some 49)), some (.inl w), some (.inl (s 63 w)), none, none]) dX10_above_6 rfl (Nat.le_of_ble_eq_true rfl) rfl ?_
  refine rb_iconst hV dX10_above_7 ?_
  refine rb_istore_n hV (L2 := [some (.inr (some 49)), some (.inl w), some (.inl (s 63 w)), some (.inl (-1)), none]) dX10_above_8 rfl (Nat.le_of_ble_eq_true rfl) rfl ?_
  refine rb_iload_n hV dX10_above_9 rfl rfl ?_
  refine rb_if_ne hV (tgt := 20) dX10_above_10 (by decide) (by unfold ab_r at *; omega) (fun c10 => ?_) (fun c10 => ?_)
  · have hlp := hv.2.1 (s 63 w - 1) (by omega) (by omega)
    rw [show s 63 w - 1 + 1 = s 63 w by omega] at hlp
    have hlp1 := hlp.1
    have hlp2 := hlp.2.1
    refine rb_aload_n hV dX10_above_20 rfl rfl ?_
    refine rb_get hV (v := .inr (some 59)) dX10_above_21 ⟨RX10, TX10, 24, rfl, (Nat.le_of_ble_eq_true rfl), lf_X10_48⟩ (gw_49 _) rfl ?_
    refine rb_iload_n hV dX10_above_24 rfl rfl ?_
    refine rb_iconst hV dX10_above_25 ?_
    refine rb_isub hV dX10_above_26 ?_
    refine rb_iald hV (f := (s 59)) dX10_above_27 (gw_59 _) (Nat.le_of_ble_eq_true rfl) (by omega) ?_
    refine rb_istore hV (L2 := [some (.inr (some 49)), some (.inl w), some (.inl (s 63 w)), some (.inl (-1)), some (.inl (s 59 ((s 63 w) - 1)))]) dX10_above_28 (Nat.le_of_ble_eq_true rfl) rfl ?_
    have h30 : ∀ (n30 : Nat) (v : Int) (f : Int), (s 59 (s 63 w - 1) ≤ v ∧ v ≤ s 59 (s 63 w)) → (ABl (s 63) (slM s) (mdM s) (s 62) (2 * s 119 0) w v f) → ((s 59 (s 63 w) - v).toNat) < n30 → V 30 [some (.inr (some 49)), some (.inl w), some (.inl (s 63 w)), some (.inl f), some (.inl v)] [] (WW s) 0 0 := by
      intro n30
      induction n30 with
      | zero => intro v f h1 h2 hm; omega
      | succ n30 ih30 =>
        intro v f h1 h2 hm
        refine rb_iload hV dX10_above_30 rfl ?_
        refine rb_aload_n hV dX10_above_32 rfl rfl ?_
        refine rb_get hV (v := .inr (some 59)) dX10_above_33 ⟨RX10, TX10, 24, rfl, (Nat.le_of_ble_eq_true rfl), lf_X10_48⟩ (gw_49 _) rfl ?_
        refine rb_iload_n hV dX10_above_36 rfl rfl ?_
        refine rb_iald hV (f := (s 59)) dX10_above_37 (gw_59 _) (Nat.le_of_ble_eq_true rfl) (by omega) ?_
        refine rb_icmp_ge hV (tgt := 84) dX10_above_38 (by decide) ⟨(by unfold ab_r at *; omega), (by unfold ab_r at *; omega)⟩ (fun c38 => ?_) (fun c38 => ?_)
        · refine rb_iload_n hV dX10_above_84 rfl rfl ?_
          refine rb_ret hV (r := some (.inl f)) dX10_above_85 rfl ⟨(Nat.le_of_ble_eq_true rfl), (Nat.le_of_ble_eq_true rfl)⟩ trivial ?_
          exact ⟨_, rfl, rfl, ABl_end h2 (fun u q hc => by
            have hu := LM_f hlm hc.1 (by have := hc.2.1; omega)
            have q2 := hc.2.2.1
            rw [q2, show s 63 w - 1 + 1 = s 63 w by omega] at hu
            omega)⟩
        · have hfv := LM_f hlm (v := v) (by omega) (by omega)
          have hlv : s 63 v = s 63 w - 1 := LM_in hlm (by omega) (by omega) h1.1 (by rw [show s 63 w - 1 + 1 = s 63 w by omega]; omega)
          have hcn := NR_cnd (s := s) (w := w) (v := v) (by omega) (by omega) (by omega) (by omega) hlv hsl
          have hfr : f = -1 ∨ (0 ≤ f ∧ f < w) := by
            rcases h2 with q | q
            · exact Or.inl q.1
            · exact Or.inr ⟨q.2.1.1, q.2.1.2.1⟩
          have hlnv := hlm.2.2.2.2.2 v
          have hlnf := hlm.2.2.2.2.2 f
          refine rb_aload_n hV dX10_above_41 rfl rfl ?_
          refine rb_iload_n hV dX10_above_42 rfl rfl ?_
          refine rb_iload hV dX10_above_43 rfl ?_
          refine rb_callV hV (rest := []) dX10_above_45 (c_X10_areNear s w v (by omega) (by omega) (by omega) (by omega) (by omega) (by omega) (by omega) (by omega) (by omega)) lk_X10_221 rfl (Or.inl ⟨9, _, TX10, 24, gw_49 _, rfl⟩) rfl ⟨rfl, rfl, (Nat.le_of_ble_eq_true rfl), (Nat.le_of_ble_eq_true rfl), (Nat.le_of_ble_eq_true rfl), (Nat.le_of_ble_eq_true rfl)⟩ (Nat.le_of_ble_eq_true rfl) (fun r9 h9 p9 => ?_)
          obtain ⟨rfl, rfl⟩ := p9
          show V 48 [some (.inr (some 49)), some (.inl w), some (.inl (s 63 w)), some (.inl f), some (.inl v)] [.inl (if ((w < (s 59 ((s 63 w) + 1)) - 1 ∧ v < (s 59 ((s 63 v) + 1)) - 1) ∧ -2 * (s 119 0) ≤ (2 * ((s 60 w) + (s 51 w)) + (s 61 w)) - (2 * ((s 60 v) + (s 51 v)) + (s 61 v)) ∧ (2 * ((s 60 w) + (s 51 w)) + (s 61 w)) - (2 * ((s 60 v) + (s 51 v)) + (s 61 v)) ≤ 2 * (s 119 0)) then 1 else 0)] (WW s) 0 0
          by_cases e45 : ((w < (s 59 ((s 63 w) + 1)) - 1 ∧ v < (s 59 ((s 63 v) + 1)) - 1) ∧ -2 * (s 119 0) ≤ (2 * ((s 60 w) + (s 51 w)) + (s 61 w)) - (2 * ((s 60 v) + (s 51 v)) + (s 61 v)) ∧ (2 * ((s 60 w) + (s 51 w)) + (s 61 w)) - (2 * ((s 60 v) + (s 51 v)) + (s 61 v)) ≤ 2 * (s 119 0))
          · rw [if_pos e45]
            show V 48 [some (.inr (some 49)), some (.inl w), some (.inl (s 63 w)), some (.inl f), some (.inl v)] [.inl 1] (WW s) 0 0
            refine rb_if_eq hV (tgt := 76) dX10_above_48 (by decide) (by unfold ab_r at *; omega) (fun z => absurd z (by decide)) (fun _ => ?_)
            refine rb_iload_n hV dX10_above_51 rfl rfl ?_
            refine rb_if_lt hV (tgt := 71) dX10_above_52 (by decide) (by unfold ab_r at *; omega) (fun c52 => ?_) (fun c52 => ?_)
            · refine rb_iload hV dX10_above_71 rfl ?_
              refine rb_goto hV (tgt := 77) dX10_above_73 (by decide) ?_
              refine rb_istore_n hV (L2 := [some (.inr (some 49)), some (.inl w), some (.inl (s 63 w)), some (.inl v), some (.inl v)]) dX10_above_77 rfl (Nat.le_of_ble_eq_true rfl) rfl ?_
              refine rb_iinc hV (L2 := [some (.inr (some 49)), some (.inl w), some (.inl (s 63 w)), some (.inl v), some (.inl (v + 1))]) dX10_above_78 rfl rfl rfl ?_
              refine rb_goto hV (tgt := 30) dX10_above_81 (by decide) ?_
              refine ih30 (v + 1) v ?_ ?_ ?_
              · omega
              · exact ABl_new h2 (hcn.mp e45) (by omega)
              · omega
            · refine rb_aload_n hV dX10_above_55 rfl rfl ?_
              refine rb_get hV (v := .inr (some 62)) dX10_above_56 ⟨RX10, TX10, 24, rfl, (Nat.le_of_ble_eq_true rfl), lf_X10_57⟩ (gw_49 _) rfl ?_
              refine rb_iload hV dX10_above_59 rfl ?_
              refine rb_iald hV (f := (s 62)) dX10_above_61 (gw_62 _) (Nat.le_of_ble_eq_true rfl) (by omega) ?_
              refine rb_aload_n hV dX10_above_62 rfl rfl ?_
              refine rb_get hV (v := .inr (some 62)) dX10_above_63 ⟨RX10, TX10, 24, rfl, (Nat.le_of_ble_eq_true rfl), lf_X10_57⟩ (gw_49 _) rfl ?_
              refine rb_iload_n hV dX10_above_66 rfl rfl ?_
              refine rb_iald hV (f := (s 62)) dX10_above_67 (gw_62 _) (Nat.le_of_ble_eq_true rfl) (by omega) ?_
              refine rb_icmp_le hV (tgt := 76) dX10_above_68 (by decide) ⟨(by unfold ab_r at *; omega), (by unfold ab_r at *; omega)⟩ (fun c68 => ?_) (fun c68 => ?_)
              · refine rb_iload_n hV dX10_above_76 rfl rfl ?_
                refine rb_istore_n hV (L2 := [some (.inr (some 49)), some (.inl w), some (.inl (s 63 w)), some (.inl f), some (.inl v)]) dX10_above_77 rfl (Nat.le_of_ble_eq_true rfl) rfl ?_
                refine rb_iinc hV (L2 := [some (.inr (some 49)), some (.inl w), some (.inl (s 63 w)), some (.inl f), some (.inl (v + 1))]) dX10_above_78 rfl rfl rfl ?_
                refine rb_goto hV (tgt := 30) dX10_above_81 (by decide) ?_
                refine ih30 (v + 1) f ?_ ?_ ?_
                · omega
                · exact ABl_old h2 (hcn.mp e45) (by omega) (by omega)
                · omega
              · refine rb_iload hV dX10_above_71 rfl ?_
                refine rb_goto hV (tgt := 77) dX10_above_73 (by decide) ?_
                refine rb_istore_n hV (L2 := [some (.inr (some 49)), some (.inl w), some (.inl (s 63 w)), some (.inl v), some (.inl v)]) dX10_above_77 rfl (Nat.le_of_ble_eq_true rfl) rfl ?_
                refine rb_iinc hV (L2 := [some (.inr (some 49)), some (.inl w), some (.inl (s 63 w)), some (.inl v), some (.inl (v + 1))]) dX10_above_78 rfl rfl rfl ?_
                refine rb_goto hV (tgt := 30) dX10_above_81 (by decide) ?_
                refine ih30 (v + 1) v ?_ ?_ ?_
                · omega
                · exact ABl_new h2 (hcn.mp e45) (by omega)
                · omega
          · rw [if_neg e45]
            show V 48 [some (.inr (some 49)), some (.inl w), some (.inl (s 63 w)), some (.inl f), some (.inl v)] [.inl 0] (WW s) 0 0
            refine rb_if_eq hV (tgt := 76) dX10_above_48 (by decide) (by unfold ab_r at *; omega) (fun _ => ?_) (fun z => absurd z (by decide))
            refine rb_iload_n hV dX10_above_76 rfl rfl ?_
            refine rb_istore_n hV (L2 := [some (.inr (some 49)), some (.inl w), some (.inl (s 63 w)), some (.inl f), some (.inl v)]) dX10_above_77 rfl (Nat.le_of_ble_eq_true rfl) rfl ?_
            refine rb_iinc hV (L2 := [some (.inr (some 49)), some (.inl w), some (.inl (s 63 w)), some (.inl f), some (.inl (v + 1))]) dX10_above_78 rfl rfl rfl ?_
            refine rb_goto hV (tgt := 30) dX10_above_81 (by decide) ?_
            refine ih30 (v + 1) f ?_ ?_ ?_
            · omega
            · exact ABl_skip h2 (fun q => e45 (hcn.mpr q))
            · omega
    refine h30 _ (s 59 ((s 63 w) - 1)) (-1) ?_ ?_ (Nat.lt_succ_self _)
    · omega
    · exact Or.inl ⟨rfl, fun u q hc => by
        have hu := LM_f hlm hc.1 (by have := hc.2.1; omega)
        have q2 := hc.2.2.1
        rw [q2] at hu
        omega⟩
  · have hz0 : s 59 0 = 0 := (hv.2.2 hz).1
    have hl00 : s 63 w = 0 := by omega
    have hz1 : s 59 (s 63 w) = 0 := by rw [hl00]; exact hz0
    refine rb_aload_n hV dX10_above_13 rfl rfl ?_
    refine rb_get hV (v := .inl (s 120 0)) dX10_above_14 ⟨RX10, TX10, 24, rfl, (Nat.le_of_ble_eq_true rfl), lf_X10_90⟩ (gw_49 _) rfl ?_
    refine rb_goto hV (tgt := 28) dX10_above_17 (by decide) ?_
    refine rb_istore hV (L2 := [some (.inr (some 49)), some (.inl w), some (.inl (s 63 w)), some (.inl (-1)), some (.inl (s 120 0))]) dX10_above_28 (Nat.le_of_ble_eq_true rfl) rfl ?_
    refine rb_iload hV dX10_above_30 rfl ?_
    refine rb_aload_n hV dX10_above_32 rfl rfl ?_
    refine rb_get hV (v := .inr (some 59)) dX10_above_33 ⟨RX10, TX10, 24, rfl, (Nat.le_of_ble_eq_true rfl), lf_X10_48⟩ (gw_49 _) rfl ?_
    refine rb_iload_n hV dX10_above_36 rfl rfl ?_
    refine rb_iald hV (f := (s 59)) dX10_above_37 (gw_59 _) (Nat.le_of_ble_eq_true rfl) (by omega) ?_
    refine rb_icmp_ge hV (tgt := 84) dX10_above_38 (by decide) ⟨(by unfold ab_r at *; omega), (by unfold ab_r at *; omega)⟩ (fun c38 => ?_) (fun c38 => absurd c38 (by omega))
    refine rb_iload_n hV dX10_above_84 rfl rfl ?_
    refine rb_ret hV (r := some (.inl (-1))) dX10_above_85 rfl ⟨(Nat.le_of_ble_eq_true rfl), (Nat.le_of_ble_eq_true rfl)⟩ trivial ?_
    exact ⟨_, rfl, rfl, Or.inl ⟨rfl, fun u hc => by have q2 := hc.2.2.1; have hu := LM_f hlm hc.1 (by have := hc.2.1; omega); omega⟩⟩

def BLB (s : Nat → Int → Int) (w v : Int) : Prop := ∃ u, u < v ∧ 0 ≤ u ∧ s 63 u = s 63 w + 1 ∧ ((w < (s 59 ((s 63 w) + 1)) - 1 ∧ u < (s 59 ((s 63 u) + 1)) - 1) ∧ -2 * (s 119 0) ≤ (2 * ((s 60 w) + (s 51 w)) + (s 61 w)) - (2 * ((s 60 u) + (s 51 u)) + (s 61 u)) ∧ (2 * ((s 60 w) + (s 51 w)) + (s 61 w)) - (2 * ((s 60 u) + (s 51 u)) + (s 61 u)) ≤ 2 * (s 119 0))

set_option maxRecDepth 20000 in
theorem c_X10_hasBelow (s : Nat → Int → Int) (w : Int) (hlm : LM s) (hw : 0 ≤ w ∧ w < s 120 0) : ab_Mt yX10_hasBelow cX10_hasBelow 5 (some .boolean) ({ frames := 3, cells := 0, slots := 0, locals := 64 } : Room) false 0 0 [.inr (some 49), .inl w] (WW s) (fun r h2 => ∃ x, r = some (.inl x) ∧ h2 = WW s ∧ (((∃ u, u < s 120 0 - 1 ∧ ¬ slM s u = -1 ∧ cnd (s 63) (slM s) (mdM s) (2 * s 119 0) u w) ∧ x = 1) ∨ (¬ (∃ u, u < s 120 0 - 1 ∧ ¬ slM s u = -1 ∧ cnd (s 63) (slM s) (mdM s) (2 * s 119 0) u w) ∧ x = 0))) := by
  refine ab_mk RX10 false rfl pn_X10_hasBelow (fun z => by cases z) (Nat.le_of_ble_eq_true rfl) (fun V hV => ?_)
  show V 0 [some (.inr (some 49)), some (.inl w), none, none, none] [] (WW s) 0 0
  have hp : PI (vM s) := hlm.1
  have hv := hlm.2.1
  have hz := hlm.2.2.1
  have hn : 0 ≤ s 120 0 ∧ s 120 0 ≤ 60 := hp.1
  have hnl : 0 ≤ s 125 0 ∧ s 125 0 ≤ s 120 0 := hv.1
  have htol : 0 ≤ s 119 0 ∧ s 119 0 ≤ 20 := hp.2.2.2.2.1
  have hfw := LM_f hlm hw.1 hw.2
  have hnx : s 63 w + 1 < s 125 0 → s 59 (s 63 w + 1) ≤ s 59 (s 63 w + 2) ∧ s 59 (s 63 w + 2) ≤ s 120 0 := fun q => by
    have hlp := hv.2.1 (s 63 w + 1) (by omega) (by omega)
    rw [show s 63 w + 1 + 1 = s 63 w + 2 by omega] at hlp
    have hlp3 : s 59 (s 63 w + 2) ≤ s 120 0 := hlp.2.2.1
    exact ⟨by have := hlp.2.1; omega, hlp3⟩
  refine rb_aload_n hV dX10_hasBelow_0 rfl rfl ?_
  refine rb_get hV (v := .inr (some 63)) dX10_hasBelow_1 ⟨RX10, TX10, 24, rfl, (Nat.le_of_ble_eq_true rfl), lf_X10_60⟩ (gw_49 _) rfl ?_
  refine rb_iload_n hV dX10_hasBelow_4 rfl rfl ?_
  refine rb_iald hV (f := (s 63)) dX10_hasBelow_5 (gw_63 _) (Nat.le_of_ble_eq_true rfl) (by omega) ?_
  refine rb_istore_n hV (L2 := [some (.inr (some 49)), some (.inl w), some (.inl (s 63 w)), none, none]) dX10_hasBelow_6 rfl (Nat.le_of_ble_eq_true rfl) rfl ?_
  refine rb_iconst hV dX10_hasBelow_7 ?_
  refine rb_istore_n hV (L2 := [some (.inr (some 49)), some (.inl w), some (.inl (s 63 w)), some (.inl 0), none]) dX10_hasBelow_8 rfl (Nat.le_of_ble_eq_true rfl) rfl ?_
  refine rb_aload_n hV dX10_hasBelow_9 rfl rfl ?_
  refine rb_get hV (v := .inr (some 59)) dX10_hasBelow_10 ⟨RX10, TX10, 24, rfl, (Nat.le_of_ble_eq_true rfl), lf_X10_48⟩ (gw_49 _) rfl ?_
  refine rb_iload_n hV dX10_hasBelow_13 rfl rfl ?_
  refine rb_iconst hV dX10_hasBelow_14 ?_
  refine rb_iadd hV dX10_hasBelow_15 ?_
  refine rb_iald hV (f := (s 59)) dX10_hasBelow_16 (gw_59 _) (Nat.le_of_ble_eq_true rfl) (by omega) ?_
  refine rb_istore hV (L2 := [some (.inr (some 49)), some (.inl w), some (.inl (s 63 w)), some (.inl 0), some (.inl (s 59 ((s 63 w) + 1)))]) dX10_hasBelow_17 (Nat.le_of_ble_eq_true rfl) rfl ?_
  have h19 : ∀ (n19 : Nat) (x : Int) (v : Int), (s 59 (s 63 w + 1) ≤ v ∧ v ≤ s 120 0 ∧ (s 63 w + 1 < s 125 0 → v ≤ s 59 (s 63 w + 2))) → ((x = 1 ∨ x = 0) ∧ (x = 1 ↔ BLB s w v)) → ((60 - v).toNat) < n19 → V 19 [some (.inr (some 49)), some (.inl w), some (.inl (s 63 w)), some (.inl x), some (.inl v)] [] (WW s) 0 0 := by
    intro n19
    induction n19 with
    | zero => intro x v h1 h2 hm; omega
    | succ n19 ih19 =>
      intro x v h1 h2 hm
      refine rb_iload_n hV dX10_hasBelow_19 rfl rfl ?_
      refine rb_iconst hV dX10_hasBelow_20 ?_
      refine rb_iadd hV dX10_hasBelow_21 ?_
      refine rb_aload_n hV dX10_hasBelow_22 rfl rfl ?_
      refine rb_get hV (v := .inl (s 125 0)) dX10_hasBelow_23 ⟨RX10, TX10, 24, rfl, (Nat.le_of_ble_eq_true rfl), lf_X10_147⟩ (gw_49 _) rfl ?_
      refine rb_icmp_ge hV (tgt := 68) dX10_hasBelow_26 (by decide) ⟨(by unfold ab_r at *; omega), (by unfold ab_r at *; omega)⟩ (fun c26 => ?_) (fun c26 => ?_)
      · refine rb_iload_n hV dX10_hasBelow_68 rfl rfl ?_
        refine rb_ret hV (r := some (.inl x)) dX10_hasBelow_69 rfl ⟨(Nat.le_of_ble_eq_true rfl), (Nat.le_of_ble_eq_true rfl)⟩ h2.1.symm ?_
        have hall : ∀ u, 0 ≤ u → u < s 120 0 → s 63 u = s 63 w + 1 → u < v := fun u a b c => by
          have hu := LM_f hlm a b
          rw [c, show s 63 w + 1 + 1 = s 63 w + 2 by omega] at hu
          omega
        refine ⟨x, rfl, rfl, ?_⟩
        have key : x = 1 ↔ ∃ u, u < s 120 0 - 1 ∧ ¬ slM s u = -1 ∧ cnd (s 63) (slM s) (mdM s) (2 * s 119 0) u w := by
          rw [h2.2]
          constructor
          · rintro ⟨u, a, b, c, e⟩
            have hun : u < s 120 0 := by omega
            have hu := LM_f hlm b hun
            have hsu : ¬ slM s u = -1 := slM_yes hu.1.1 e.1.2
            have hle := hu.2.2.1.2
            have e2 := e.1.2
            exact ⟨u, by omega, hsu, (NR_cnd (by omega) (by omega) (by omega) (by rw [c] at hu; omega) (by omega) hsu).mp (NR_sym.mp e)⟩
          · rintro ⟨u, a, b, e⟩
            have e1 := e.2.1
            have e3 := e.2.2.1
            have hu := LM_f hlm (v := u) (by omega) (by omega)
            exact ⟨u, hall u (by omega) (by omega) (by omega), by omega, by omega, NR_sym.mp ((NR_cnd (by omega) (by omega) (by omega) (by omega) (by omega) b).mpr e)⟩
        rcases h2.1 with q | q
        · exact Or.inl ⟨key.mp q, q⟩
        · exact Or.inr ⟨fun z => by have := key.mpr z; omega, q⟩
      · have hlp := hv.2.1 (s 63 w + 1) (by omega) (by omega)
        rw [show s 63 w + 1 + 1 = s 63 w + 2 by omega] at hlp
        have hlp1 := hlp.1
        have hlp2 := hlp.2.1
        have hlp3 : s 59 (s 63 w + 2) ≤ s 120 0 := hlp.2.2.1
        refine rb_iload hV dX10_hasBelow_29 rfl ?_
        refine rb_aload_n hV dX10_hasBelow_31 rfl rfl ?_
        refine rb_get hV (v := .inr (some 59)) dX10_hasBelow_32 ⟨RX10, TX10, 24, rfl, (Nat.le_of_ble_eq_true rfl), lf_X10_48⟩ (gw_49 _) rfl ?_
        refine rb_iload_n hV dX10_hasBelow_35 rfl rfl ?_
        refine rb_iconst hV dX10_hasBelow_36 ?_
        refine rb_iadd hV dX10_hasBelow_37 ?_
        refine rb_iald hV (f := (s 59)) dX10_hasBelow_38 (gw_59 _) (Nat.le_of_ble_eq_true rfl) (by omega) ?_
        refine rb_icmp_ge hV (tgt := 68) dX10_hasBelow_39 (by decide) ⟨(by unfold ab_r at *; omega), (by unfold ab_r at *; omega)⟩ (fun c39 => ?_) (fun c39 => ?_)
        · refine rb_iload_n hV dX10_hasBelow_68 rfl rfl ?_
          refine rb_ret hV (r := some (.inl x)) dX10_hasBelow_69 rfl ⟨(Nat.le_of_ble_eq_true rfl), (Nat.le_of_ble_eq_true rfl)⟩ h2.1.symm ?_
          have hall : ∀ u, 0 ≤ u → u < s 120 0 → s 63 u = s 63 w + 1 → u < v := fun u a b c => by
            have hu := LM_f hlm a b
            rw [c, show s 63 w + 1 + 1 = s 63 w + 2 by omega] at hu
            omega
          refine ⟨x, rfl, rfl, ?_⟩
          have key : x = 1 ↔ ∃ u, u < s 120 0 - 1 ∧ ¬ slM s u = -1 ∧ cnd (s 63) (slM s) (mdM s) (2 * s 119 0) u w := by
            rw [h2.2]
            constructor
            · rintro ⟨u, a, b, c, e⟩
              have hun : u < s 120 0 := by omega
              have hu := LM_f hlm b hun
              have hsu : ¬ slM s u = -1 := slM_yes hu.1.1 e.1.2
              have hle := hu.2.2.1.2
              have e2 := e.1.2
              exact ⟨u, by omega, hsu, (NR_cnd (by omega) (by omega) (by omega) (by rw [c] at hu; omega) (by omega) hsu).mp (NR_sym.mp e)⟩
            · rintro ⟨u, a, b, e⟩
              have e1 := e.2.1
              have e3 := e.2.2.1
              have hu := LM_f hlm (v := u) (by omega) (by omega)
              exact ⟨u, hall u (by omega) (by omega) (by omega), by omega, by omega, NR_sym.mp ((NR_cnd (by omega) (by omega) (by omega) (by omega) (by omega) b).mpr e)⟩
          rcases h2.1 with q | q
          · exact Or.inl ⟨key.mp q, q⟩
          · exact Or.inr ⟨fun z => by have := key.mpr z; omega, q⟩
        · have hfv := LM_f hlm (v := v) (by omega) (by omega)
          have hlv : s 63 v = s 63 w + 1 := LM_in hlm (by omega) (by omega) h1.1 (by rw [show s 63 w + 1 + 1 = s 63 w + 2 by omega]; omega)
          refine rb_iload_n hV dX10_hasBelow_42 rfl rfl ?_
          refine rb_if_ne hV (tgt := 56) dX10_hasBelow_43 (by decide) (by unfold ab_r at *; omega) (fun c43 => ?_) (fun c43 => ?_)
          · refine rb_iconst hV dX10_hasBelow_56 ?_
            refine rb_goto hV (tgt := 61) dX10_hasBelow_57 (by decide) ?_
            refine rb_istore_n hV (L2 := [some (.inr (some 49)), some (.inl w), some (.inl (s 63 w)), some (.inl 1), some (.inl v)]) dX10_hasBelow_61 rfl (Nat.le_of_ble_eq_true rfl) rfl ?_
            refine rb_iinc hV (L2 := [some (.inr (some 49)), some (.inl w), some (.inl (s 63 w)), some (.inl 1), some (.inl (v + 1))]) dX10_hasBelow_62 rfl rfl rfl ?_
            refine rb_goto hV (tgt := 19) dX10_hasBelow_65 (by decide) ?_
            refine ih19 1 (v + 1) ?_ ?_ ?_
            · omega
            · exact ⟨Or.inl rfl, fun _ => by
                obtain ⟨u, a, b⟩ := h2.2.mp (by omega)
                exact ⟨u, by omega, b⟩, fun _ => rfl⟩
            · omega
          · refine rb_aload_n hV dX10_hasBelow_46 rfl rfl ?_
            refine rb_iload_n hV dX10_hasBelow_47 rfl rfl ?_
            refine rb_iload hV dX10_hasBelow_48 rfl ?_
            refine rb_callV hV (rest := []) dX10_hasBelow_50 (c_X10_areNear s w v (by omega) (by omega) (by omega) (by omega) (by omega) (by omega) (by omega) (by omega) (by omega)) lk_X10_221 rfl (Or.inl ⟨9, _, TX10, 24, gw_49 _, rfl⟩) rfl ⟨rfl, rfl, (Nat.le_of_ble_eq_true rfl), (Nat.le_of_ble_eq_true rfl), (Nat.le_of_ble_eq_true rfl), (Nat.le_of_ble_eq_true rfl)⟩ (Nat.le_of_ble_eq_true rfl) (fun r9 h9 p9 => ?_)
            obtain ⟨rfl, rfl⟩ := p9
            show V 53 [some (.inr (some 49)), some (.inl w), some (.inl (s 63 w)), some (.inl x), some (.inl v)] [.inl (if ((w < (s 59 ((s 63 w) + 1)) - 1 ∧ v < (s 59 ((s 63 v) + 1)) - 1) ∧ -2 * (s 119 0) ≤ (2 * ((s 60 w) + (s 51 w)) + (s 61 w)) - (2 * ((s 60 v) + (s 51 v)) + (s 61 v)) ∧ (2 * ((s 60 w) + (s 51 w)) + (s 61 w)) - (2 * ((s 60 v) + (s 51 v)) + (s 61 v)) ≤ 2 * (s 119 0)) then 1 else 0)] (WW s) 0 0
            by_cases e50 : ((w < (s 59 ((s 63 w) + 1)) - 1 ∧ v < (s 59 ((s 63 v) + 1)) - 1) ∧ -2 * (s 119 0) ≤ (2 * ((s 60 w) + (s 51 w)) + (s 61 w)) - (2 * ((s 60 v) + (s 51 v)) + (s 61 v)) ∧ (2 * ((s 60 w) + (s 51 w)) + (s 61 w)) - (2 * ((s 60 v) + (s 51 v)) + (s 61 v)) ≤ 2 * (s 119 0))
            · rw [if_pos e50]
              show V 53 [some (.inr (some 49)), some (.inl w), some (.inl (s 63 w)), some (.inl x), some (.inl v)] [.inl 1] (WW s) 0 0
              refine rb_if_eq hV (tgt := 60) dX10_hasBelow_53 (by decide) (by unfold ab_r at *; omega) (fun z => absurd z (by decide)) (fun _ => ?_)
              refine rb_iconst hV dX10_hasBelow_56 ?_
              refine rb_goto hV (tgt := 61) dX10_hasBelow_57 (by decide) ?_
              refine rb_istore_n hV (L2 := [some (.inr (some 49)), some (.inl w), some (.inl (s 63 w)), some (.inl 1), some (.inl v)]) dX10_hasBelow_61 rfl (Nat.le_of_ble_eq_true rfl) rfl ?_
              refine rb_iinc hV (L2 := [some (.inr (some 49)), some (.inl w), some (.inl (s 63 w)), some (.inl 1), some (.inl (v + 1))]) dX10_hasBelow_62 rfl rfl rfl ?_
              refine rb_goto hV (tgt := 19) dX10_hasBelow_65 (by decide) ?_
              refine ih19 1 (v + 1) ?_ ?_ ?_
              · omega
              · exact ⟨Or.inl rfl, fun _ => ⟨v, by omega, by omega, hlv, e50⟩, fun _ => rfl⟩
              · omega
            · rw [if_neg e50]
              show V 53 [some (.inr (some 49)), some (.inl w), some (.inl (s 63 w)), some (.inl x), some (.inl v)] [.inl 0] (WW s) 0 0
              refine rb_if_eq hV (tgt := 60) dX10_hasBelow_53 (by decide) (by unfold ab_r at *; omega) (fun _ => ?_) (fun z => absurd z (by decide))
              refine rb_iconst hV dX10_hasBelow_60 ?_
              refine rb_istore_n hV (L2 := [some (.inr (some 49)), some (.inl w), some (.inl (s 63 w)), some (.inl 0), some (.inl v)]) dX10_hasBelow_61 rfl (Nat.le_of_ble_eq_true rfl) rfl ?_
              refine rb_iinc hV (L2 := [some (.inr (some 49)), some (.inl w), some (.inl (s 63 w)), some (.inl 0), some (.inl (v + 1))]) dX10_hasBelow_62 rfl rfl rfl ?_
              refine rb_goto hV (tgt := 19) dX10_hasBelow_65 (by decide) ?_
              refine ih19 0 (v + 1) ?_ ?_ ?_
              · omega
              · refine ⟨Or.inr rfl, fun q => absurd q (by decide), fun ⟨u, a, b, c, e⟩ => ?_⟩
                by_cases hu : u = v
                · subst hu
                  exact absurd e e50
                · have := h2.2.mpr ⟨u, by omega, b, c, e⟩
                  omega
              · omega
  refine h19 _ 0 (s 59 ((s 63 w) + 1)) ?_ ?_ (Nat.lt_succ_self _)
  · omega
  · refine ⟨Or.inr rfl, fun q => absurd q (by decide), fun ⟨u, a, b, c, e⟩ => ?_⟩
    have hu := LM_f hlm b (by omega)
    rw [c] at hu
    omega
