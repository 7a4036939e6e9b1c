/-! the reference: signs, lines -/
def sgM (z : Int) : Int := if z = 102 ∨ z = 105 ∨ z = 106 ∨ z = 108 ∨ z = 114 ∨ z = 116 ∨ z = 73 then 2 else if z = 109 ∨ z = 119 then 4 else if z = 77 ∨ z = 87 then 5 else if 65 ≤ z ∧ z ≤ 90 then 4 else if (97 ≤ z ∧ z ≤ 122) ∨ (48 ≤ z ∧ z ≤ 57) then 3 else if z = 63 ∨ z = 45 ∨ z = 34 ∨ z = 40 ∨ z = 41 then 2 else 1
def okA (z : Int) : Prop := (z = 46 ∨ z = 33 ∨ z = 63 ∨ z = 44 ∨ z = 59 ∨ z = 58 ∨ z = 45 ∨ z = 39 ∨ z = 34) ∨ z = 40 ∨ z = 41 ∨ z = 32 ∨ (97 ≤ z ∧ z ≤ 122) ∨ (65 ≤ z ∧ z ≤ 90) ∨ (48 ≤ z ∧ z ≤ 57)
theorem sgM_or (z : Int) : sgW z = 0 ∨ sgM z = sgW z := by
  unfold sgM sgW
  (repeat' split) <;> first | exact Or.inr rfl | exact Or.inl rfl | omega
theorem sgM_eq {z : Int} (h : ¬ sgW z = 0) : sgM z = sgW z := (sgM_or z).resolve_left h
theorem okA_okc (z : Int) : okA z ↔ okc z := by
  unfold okA okc sgW
  by_cases c1 : 97 ≤ z ∧ z ≤ 122
  · rw [if_pos c1]
    refine ⟨fun _ => Or.inr ?_, fun _ => by omega⟩
    (repeat' split) <;> decide
  · rw [if_neg c1]
    by_cases c2 : 65 ≤ z ∧ z ≤ 90
    · rw [if_pos c2]
      refine ⟨fun _ => Or.inr ?_, fun _ => by omega⟩
      (repeat' split) <;> decide
    · rw [if_neg c2]
      by_cases c3 : 48 ≤ z ∧ z ≤ 57
      · rw [if_pos c3]
        exact ⟨fun _ => Or.inr (by decide), fun _ => by omega⟩
      · rw [if_neg c3]
        by_cases c4 : z = 46 ∨ z = 44 ∨ z = 59 ∨ z = 58 ∨ z = 33 ∨ z = 39
        · rw [if_pos c4]
          exact ⟨fun _ => Or.inr (by decide), fun _ => by omega⟩
        · rw [if_neg c4]
          by_cases c5 : z = 63 ∨ z = 45 ∨ z = 34 ∨ z = 40 ∨ z = 41
          · rw [if_pos c5]
            exact ⟨fun _ => Or.inr (by decide), fun _ => by omega⟩
          · rw [if_neg c5]
            exact ⟨fun q => Or.inl (by omega), fun q => by rcases q with q | q; omega; exact absurd rfl q⟩

set_option maxRecDepth 20000 in
theorem c_X10_in (s : Nat → Int → Int) (v a b : Int) (hv0 : ab_r v) (ha0 : ab_r a) (hb0 : ab_r b) : ab_Mt yX10_in cX10_in 3 (some .boolean) ({ frames := 0, cells := 0, slots := 0, locals := 0 } : Room) false 0 0 [.inl v, .inl a, .inl b] (WW s) (fun r h2 => r = some (.inl (if a ≤ v ∧ v ≤ b then 1 else 0)) ∧ h2 = WW s) := by
  refine ab_mk RX10 false rfl pn_X10_in (fun z => by cases z) (Nat.le_of_ble_eq_true rfl) (fun V hV => ?_)
  show V 0 [some (.inl v), some (.inl a), some (.inl b)] [] (WW s) 0 0
  refine rb_iload_n hV dX10_in_0 rfl rfl ?_
  refine rb_iload_n hV dX10_in_1 rfl rfl ?_
  refine rb_icmp_lt hV (tgt := 14) dX10_in_2 (by decide) ⟨(by unfold ab_r at *; omega), (by unfold ab_r at *; omega)⟩ (fun c2 => ?_) (fun c2 => ?_)
  · refine rb_iconst hV dX10_in_14 ?_
    refine rb_ret hV (r := some (.inl 0)) dX10_in_15 rfl ⟨(Nat.le_of_ble_eq_true rfl), (Nat.le_of_ble_eq_true rfl)⟩ (by first | exact Or.inl rfl | exact Or.inr rfl | omega) ?_
    exact ⟨congrArg (fun z : Int => some (Sum.inl z)) (if_neg (by omega)).symm, rfl⟩
  · refine rb_iload_n hV dX10_in_5 rfl rfl ?_
    refine rb_iload_n hV dX10_in_6 rfl rfl ?_
    refine rb_icmp_gt hV (tgt := 14) dX10_in_7 (by decide) ⟨(by unfold ab_r at *; omega), (by unfold ab_r at *; omega)⟩ (fun c7 => ?_) (fun c7 => ?_)
    · refine rb_iconst hV dX10_in_14 ?_
      refine rb_ret hV (r := some (.inl 0)) dX10_in_15 rfl ⟨(Nat.le_of_ble_eq_true rfl), (Nat.le_of_ble_eq_true rfl)⟩ (by first | exact Or.inl rfl | exact Or.inr rfl | omega) ?_
      exact ⟨congrArg (fun z : Int => some (Sum.inl z)) (if_neg (by omega)).symm, rfl⟩
    · refine rb_iconst hV dX10_in_10 ?_
      refine rb_goto hV (tgt := 15) dX10_in_11 (by decide) ?_
      refine rb_ret hV (r := some (.inl 1)) dX10_in_15 rfl ⟨(Nat.le_of_ble_eq_true rfl), (Nat.le_of_ble_eq_true rfl)⟩ (by first | exact Or.inl rfl | exact Or.inr rfl | omega) ?_
      exact ⟨congrArg (fun z : Int => some (Sum.inl z)) (if_pos (by omega)).symm, rfl⟩

set_option maxRecDepth 20000 in
theorem c_X10_widthOf (s : Nat → Int → Int) (z : Int) (hz : 0 ≤ z ∧ z < 65536) : ab_Mt yX10_widthOf cX10_widthOf 1 (some .int) ({ frames := 1, cells := 0, slots := 0, locals := 22 } : Room) false 0 0 [.inl z] (WW s) (fun r h2 => r = some (.inl (sgM z)) ∧ h2 = WW s) := by
  refine ab_mk RX10 false rfl pn_X10_widthOf (fun z => by cases z) (Nat.le_of_ble_eq_true rfl) (fun V hV => ?_)
  show V 0 [some (.inl z)] [] (WW s) 0 0
  refine rb_iload_n hV dX10_widthOf_0 rfl rfl ?_
  refine rb_bipush hV dX10_widthOf_1 (by decide) ?_
  refine rb_icmp_eq hV (tgt := 42) dX10_widthOf_3 (by decide) ⟨(by unfold ab_r at *; omega), (by unfold ab_r at *; omega)⟩ (fun c3 => ?_) (fun c3 => ?_)
  · refine rb_iconst hV dX10_widthOf_42 ?_
    refine rb_ret hV (r := some (.inl 2)) dX10_widthOf_43 rfl ⟨(Nat.le_of_ble_eq_true rfl), (Nat.le_of_ble_eq_true rfl)⟩ trivial ?_
    exact ⟨congrArg (fun z : Int => some (Sum.inl z)) (show sgM z = _ from (if_pos (by omega))).symm, rfl⟩
  · refine rb_iload_n hV dX10_widthOf_6 rfl rfl ?_
    refine rb_bipush hV dX10_widthOf_7 (by decide) ?_
    refine rb_icmp_eq hV (tgt := 42) dX10_widthOf_9 (by decide) ⟨(by unfold ab_r at *; omega), (by unfold ab_r at *; omega)⟩ (fun c9 => ?_) (fun c9 => ?_)
    · refine rb_iconst hV dX10_widthOf_42 ?_
      refine rb_ret hV (r := some (.inl 2)) dX10_widthOf_43 rfl ⟨(Nat.le_of_ble_eq_true rfl), (Nat.le_of_ble_eq_true rfl)⟩ trivial ?_
      exact ⟨congrArg (fun z : Int => some (Sum.inl z)) (show sgM z = _ from (if_pos (by omega))).symm, rfl⟩
    · refine rb_iload_n hV dX10_widthOf_12 rfl rfl ?_
      refine rb_bipush hV dX10_widthOf_13 (by decide) ?_
      refine rb_icmp_eq hV (tgt := 42) dX10_widthOf_15 (by decide) ⟨(by unfold ab_r at *; omega), (by unfold ab_r at *; omega)⟩ (fun c15 => ?_) (fun c15 => ?_)
      · refine rb_iconst hV dX10_widthOf_42 ?_
        refine rb_ret hV (r := some (.inl 2)) dX10_widthOf_43 rfl ⟨(Nat.le_of_ble_eq_true rfl), (Nat.le_of_ble_eq_true rfl)⟩ trivial ?_
        exact ⟨congrArg (fun z : Int => some (Sum.inl z)) (show sgM z = _ from (if_pos (by omega))).symm, rfl⟩
      · refine rb_iload_n hV dX10_widthOf_18 rfl rfl ?_
        refine rb_bipush hV dX10_widthOf_19 (by decide) ?_
        refine rb_icmp_eq hV (tgt := 42) dX10_widthOf_21 (by decide) ⟨(by unfold ab_r at *; omega), (by unfold ab_r at *; omega)⟩ (fun c21 => ?_) (fun c21 => ?_)
        · refine rb_iconst hV dX10_widthOf_42 ?_
          refine rb_ret hV (r := some (.inl 2)) dX10_widthOf_43 rfl ⟨(Nat.le_of_ble_eq_true rfl), (Nat.le_of_ble_eq_true rfl)⟩ trivial ?_
          exact ⟨congrArg (fun z : Int => some (Sum.inl z)) (show sgM z = _ from (if_pos (by omega))).symm, rfl⟩
        · refine rb_iload_n hV dX10_widthOf_24 rfl rfl ?_
          refine rb_bipush hV dX10_widthOf_25 (by decide) ?_
          refine rb_icmp_eq hV (tgt := 42) dX10_widthOf_27 (by decide) ⟨(by unfold ab_r at *; omega), (by unfold ab_r at *; omega)⟩ (fun c27 => ?_) (fun c27 => ?_)
          · refine rb_iconst hV dX10_widthOf_42 ?_
            refine rb_ret hV (r := some (.inl 2)) dX10_widthOf_43 rfl ⟨(Nat.le_of_ble_eq_true rfl), (Nat.le_of_ble_eq_true rfl)⟩ trivial ?_
            exact ⟨congrArg (fun z : Int => some (Sum.inl z)) (show sgM z = _ from (if_pos (by omega))).symm, rfl⟩
          · refine rb_iload_n hV dX10_widthOf_30 rfl rfl ?_
            refine rb_bipush hV dX10_widthOf_31 (by decide) ?_
            refine rb_icmp_eq hV (tgt := 42) dX10_widthOf_33 (by decide) ⟨(by unfold ab_r at *; omega), (by unfold ab_r at *; omega)⟩ (fun c33 => ?_) (fun c33 => ?_)
            · refine rb_iconst hV dX10_widthOf_42 ?_
              refine rb_ret hV (r := some (.inl 2)) dX10_widthOf_43 rfl ⟨(Nat.le_of_ble_eq_true rfl), (Nat.le_of_ble_eq_true rfl)⟩ trivial ?_
              exact ⟨congrArg (fun z : Int => some (Sum.inl z)) (show sgM z = _ from (if_pos (by omega))).symm, rfl⟩
            · refine rb_iload_n hV dX10_widthOf_36 rfl rfl ?_
              refine rb_bipush hV dX10_widthOf_37 (by decide) ?_
              refine rb_icmp_ne hV (tgt := 44) dX10_widthOf_39 (by decide) ⟨(by unfold ab_r at *; omega), (by unfold ab_r at *; omega)⟩ (fun c39 => ?_) (fun c39 => ?_)
              · refine rb_iload_n hV dX10_widthOf_44 rfl rfl ?_
                refine rb_bipush hV dX10_widthOf_45 (by decide) ?_
                refine rb_icmp_eq hV (tgt := 56) dX10_widthOf_47 (by decide) ⟨(by unfold ab_r at *; omega), (by unfold ab_r at *; omega)⟩ (fun c47 => ?_) (fun c47 => ?_)
                · refine rb_iconst hV dX10_widthOf_56 ?_
                  refine rb_ret hV (r := some (.inl 4)) dX10_widthOf_57 rfl ⟨(Nat.le_of_ble_eq_true rfl), (Nat.le_of_ble_eq_true rfl)⟩ trivial ?_
                  exact ⟨congrArg (fun z : Int => some (Sum.inl z)) (show sgM z = _ from ((if_neg (by omega)).trans (if_pos (by omega)))).symm, rfl⟩
                · refine rb_iload_n hV dX10_widthOf_50 rfl rfl ?_
                  refine rb_bipush hV dX10_widthOf_51 (by decide) ?_
                  refine rb_icmp_ne hV (tgt := 58) dX10_widthOf_53 (by decide) ⟨(by unfold ab_r at *; omega), (by unfold ab_r at *; omega)⟩ (fun c53 => ?_) (fun c53 => ?_)
                  · refine rb_iload_n hV dX10_widthOf_58 rfl rfl ?_
                    refine rb_bipush hV dX10_widthOf_59 (by decide) ?_
                    refine rb_icmp_eq hV (tgt := 70) dX10_widthOf_61 (by decide) ⟨(by unfold ab_r at *; omega), (by unfold ab_r at *; omega)⟩ (fun c61 => ?_) (fun c61 => ?_)
                    · refine rb_iconst hV dX10_widthOf_70 ?_
                      refine rb_ret hV (r := some (.inl 5)) dX10_widthOf_71 rfl ⟨(Nat.le_of_ble_eq_true rfl), (Nat.le_of_ble_eq_true rfl)⟩ trivial ?_
                      exact ⟨congrArg (fun z : Int => some (Sum.inl z)) (show sgM z = _ from ((if_neg (by omega)).trans ((if_neg (by omega)).trans (if_pos (by omega))))).symm, rfl⟩
                    · refine rb_iload_n hV dX10_widthOf_64 rfl rfl ?_
                      refine rb_bipush hV dX10_widthOf_65 (by decide) ?_
                      refine rb_icmp_ne hV (tgt := 72) dX10_widthOf_67 (by decide) ⟨(by unfold ab_r at *; omega), (by unfold ab_r at *; omega)⟩ (fun c67 => ?_) (fun c67 => ?_)
                      · refine rb_iload_n hV dX10_widthOf_72 rfl rfl ?_
                        refine rb_bipush hV dX10_widthOf_73 (by decide) ?_
                        refine rb_bipush hV dX10_widthOf_75 (by decide) ?_
                        refine rb_callS hV (rest := []) dX10_widthOf_77 (c_X10_in s z 65 90 (by unfold ab_r at *; omega) (by unfold ab_r at *; omega) (by unfold ab_r at *; omega)) lk_X10_69 rfl rfl ⟨rfl, rfl, (Nat.le_of_ble_eq_true rfl), (Nat.le_of_ble_eq_true rfl), (Nat.le_of_ble_eq_true rfl), (Nat.le_of_ble_eq_true rfl)⟩ (Nat.le_of_ble_eq_true rfl) (fun r9 h9 p9 => ?_)
                        obtain ⟨rfl, rfl⟩ := p9
                        show V 80 [some (.inl z)] [.inl (if 65 ≤ z ∧ z ≤ 90 then 1 else 0)] (WW s) 0 0
                        by_cases e77 : 65 ≤ z ∧ z ≤ 90
                        · rw [if_pos e77]
                          show V 80 [some (.inl z)] [.inl 1] (WW s) 0 0
                          refine rb_if_eq hV (tgt := 85) dX10_widthOf_80 (by decide) (by unfold ab_r at *; omega) (fun z => absurd z (by decide)) (fun _ => ?_)
                          refine rb_iconst hV dX10_widthOf_83 ?_
                          refine rb_ret hV (r := some (.inl 4)) dX10_widthOf_84 rfl ⟨(Nat.le_of_ble_eq_true rfl), (Nat.le_of_ble_eq_true rfl)⟩ trivial ?_
                          exact ⟨congrArg (fun z : Int => some (Sum.inl z)) (show sgM z = _ from ((if_neg (by omega)).trans ((if_neg (by omega)).trans ((if_neg (by omega)).trans (if_pos (by omega)))))).symm, rfl⟩
                        · rw [if_neg e77]
                          show V 80 [some (.inl z)] [.inl 0] (WW s) 0 0
                          refine rb_if_eq hV (tgt := 85) dX10_widthOf_80 (by decide) (by unfold ab_r at *; omega) (fun _ => ?_) (fun z => absurd z (by decide))
                          refine rb_iload_n hV dX10_widthOf_85 rfl rfl ?_
                          refine rb_bipush hV dX10_widthOf_86 (by decide) ?_
                          refine rb_bipush hV dX10_widthOf_88 (by decide) ?_
                          refine rb_callS hV (rest := []) dX10_widthOf_90 (c_X10_in s z 97 122 (by unfold ab_r at *; omega) (by unfold ab_r at *; omega) (by unfold ab_r at *; omega)) lk_X10_69 rfl rfl ⟨rfl, rfl, (Nat.le_of_ble_eq_true rfl), (Nat.le_of_ble_eq_true rfl), (Nat.le_of_ble_eq_true rfl), (Nat.le_of_ble_eq_true rfl)⟩ (Nat.le_of_ble_eq_true rfl) (fun r9 h9 p9 => ?_)
                          obtain ⟨rfl, rfl⟩ := p9
                          show V 93 [some (.inl z)] [.inl (if 97 ≤ z ∧ z ≤ 122 then 1 else 0)] (WW s) 0 0
                          by_cases e90 : 97 ≤ z ∧ z ≤ 122
                          · rw [if_pos e90]
                            show V 93 [some (.inl z)] [.inl 1] (WW s) 0 0
                            refine rb_if_ne hV (tgt := 107) dX10_widthOf_93 (by decide) (by unfold ab_r at *; omega) (fun _ => ?_) (fun z => absurd z (by decide))
                            refine rb_iconst hV dX10_widthOf_107 ?_
                            refine rb_ret hV (r := some (.inl 3)) dX10_widthOf_108 rfl ⟨(Nat.le_of_ble_eq_true rfl), (Nat.le_of_ble_eq_true rfl)⟩ trivial ?_
                            exact ⟨congrArg (fun z : Int => some (Sum.inl z)) (show sgM z = _ from ((if_neg (by omega)).trans ((if_neg (by omega)).trans ((if_neg (by omega)).trans ((if_neg (by omega)).trans (if_pos (by omega))))))).symm, rfl⟩
                          · rw [if_neg e90]
                            show V 93 [some (.inl z)] [.inl 0] (WW s) 0 0
                            refine rb_if_ne hV (tgt := 107) dX10_widthOf_93 (by decide) (by unfold ab_r at *; omega) (fun z => absurd z (by decide)) (fun _ => ?_)
                            refine rb_iload_n hV dX10_widthOf_96 rfl rfl ?_
                            refine rb_bipush hV dX10_widthOf_97 (by decide) ?_
                            refine rb_bipush hV dX10_widthOf_99 (by decide) ?_
                            refine rb_callS hV (rest := []) dX10_widthOf_101 (c_X10_in s z 48 57 (by unfold ab_r at *; omega) (by unfold ab_r at *; omega) (by unfold ab_r at *; omega)) lk_X10_69 rfl rfl ⟨rfl, rfl, (Nat.le_of_ble_eq_true rfl), (Nat.le_of_ble_eq_true rfl), (Nat.le_of_ble_eq_true rfl), (Nat.le_of_ble_eq_true rfl)⟩ (Nat.le_of_ble_eq_true rfl) (fun r9 h9 p9 => ?_)
                            obtain ⟨rfl, rfl⟩ := p9
                            show V 104 [some (.inl z)] [.inl (if 48 ≤ z ∧ z ≤ 57 then 1 else 0)] (WW s) 0 0
                            by_cases e101 : 48 ≤ z ∧ z ≤ 57
                            · rw [if_pos e101]
                              show V 104 [some (.inl z)] [.inl 1] (WW s) 0 0
                              refine rb_if_eq hV (tgt := 109) dX10_widthOf_104 (by decide) (by unfold ab_r at *; omega) (fun z => absurd z (by decide)) (fun _ => ?_)
                              refine rb_iconst hV dX10_widthOf_107 ?_
                              refine rb_ret hV (r := some (.inl 3)) dX10_widthOf_108 rfl ⟨(Nat.le_of_ble_eq_true rfl), (Nat.le_of_ble_eq_true rfl)⟩ trivial ?_
                              exact ⟨congrArg (fun z : Int => some (Sum.inl z)) (show sgM z = _ from ((if_neg (by omega)).trans ((if_neg (by omega)).trans ((if_neg (by omega)).trans ((if_neg (by omega)).trans (if_pos (by omega))))))).symm, rfl⟩
                            · rw [if_neg e101]
                              show V 104 [some (.inl z)] [.inl 0] (WW s) 0 0
                              refine rb_if_eq hV (tgt := 109) dX10_widthOf_104 (by decide) (by unfold ab_r at *; omega) (fun _ => ?_) (fun z => absurd z (by decide))
                              refine rb_iload_n hV dX10_widthOf_109 rfl rfl ?_
                              refine rb_bipush hV dX10_widthOf_110 (by decide) ?_
                              refine rb_icmp_eq hV (tgt := 139) dX10_widthOf_112 (by decide) ⟨(by unfold ab_r at *; omega), (by unfold ab_r at *; omega)⟩ (fun c112 => ?_) (fun c112 => ?_)
                              · refine rb_iconst hV dX10_widthOf_139 ?_
                                refine rb_goto hV (tgt := 144) dX10_widthOf_140 (by decide) ?_
                                refine rb_ret hV (r := some (.inl 2)) dX10_widthOf_144 rfl ⟨(Nat.le_of_ble_eq_true rfl), (Nat.le_of_ble_eq_true rfl)⟩ trivial ?_
                                exact ⟨congrArg (fun z : Int => some (Sum.inl z)) (show sgM z = _ from ((if_neg (by omega)).trans ((if_neg (by omega)).trans ((if_neg (by omega)).trans ((if_neg (by omega)).trans ((if_neg (by omega)).trans (if_pos (by omega)))))))).symm, rfl⟩
                              · refine rb_iload_n hV dX10_widthOf_115 rfl rfl ?_
                                refine rb_bipush hV dX10_widthOf_116 (by decide) ?_
                                refine rb_icmp_eq hV (tgt := 139) dX10_widthOf_118 (by decide) ⟨(by unfold ab_r at *; omega), (by unfold ab_r at *; omega)⟩ (fun c118 => ?_) (fun c118 => ?_)
                                · refine rb_iconst hV dX10_widthOf_139 ?_
                                  refine rb_goto hV (tgt := 144) dX10_widthOf_140 (by decide) ?_
                                  refine rb_ret hV (r := some (.inl 2)) dX10_widthOf_144 rfl ⟨(Nat.le_of_ble_eq_true rfl), (Nat.le_of_ble_eq_true rfl)⟩ trivial ?_
                                  exact ⟨congrArg (fun z : Int => some (Sum.inl z)) (show sgM z = _ from ((if_neg (by omega)).trans ((if_neg (by omega)).trans ((if_neg (by omega)).trans ((if_neg (by omega)).trans ((if_neg (by omega)).trans (if_pos (by omega)))))))).symm, rfl⟩
                                · refine rb_iload_n hV dX10_widthOf_121 rfl rfl ?_
                                  refine rb_bipush hV dX10_widthOf_122 (by decide) ?_
                                  refine rb_icmp_eq hV (tgt := 139) dX10_widthOf_124 (by decide) ⟨(by unfold ab_r at *; omega), (by unfold ab_r at *; omega)⟩ (fun c124 => ?_) (fun c124 => ?_)
                                  · refine rb_iconst hV dX10_widthOf_139 ?_
                                    refine rb_goto hV (tgt := 144) dX10_widthOf_140 (by decide) ?_
                                    refine rb_ret hV (r := some (.inl 2)) dX10_widthOf_144 rfl ⟨(Nat.le_of_ble_eq_true rfl), (Nat.le_of_ble_eq_true rfl)⟩ trivial ?_
                                    exact ⟨congrArg (fun z : Int => some (Sum.inl z)) (show sgM z = _ from ((if_neg (by omega)).trans ((if_neg (by omega)).trans ((if_neg (by omega)).trans ((if_neg (by omega)).trans ((if_neg (by omega)).trans (if_pos (by omega)))))))).symm, rfl⟩
                                  · refine rb_iload_n hV dX10_widthOf_127 rfl rfl ?_
                                    refine rb_bipush hV dX10_widthOf_128 (by decide) ?_
                                    refine rb_icmp_eq hV (tgt := 139) dX10_widthOf_130 (by decide) ⟨(by unfold ab_r at *; omega), (by unfold ab_r at *; omega)⟩ (fun c130 => ?_) (fun c130 => ?_)
                                    · refine rb_iconst hV dX10_widthOf_139 ?_
                                      refine rb_goto hV (tgt := 144) dX10_widthOf_140 (by decide) ?_
                                      refine rb_ret hV (r := some (.inl 2)) dX10_widthOf_144 rfl ⟨(Nat.le_of_ble_eq_true rfl), (Nat.le_of_ble_eq_true rfl)⟩ trivial ?_
                                      exact ⟨congrArg (fun z : Int => some (Sum.inl z)) (show sgM z = _ from ((if_neg (by omega)).trans ((if_neg (by omega)).trans ((if_neg (by omega)).trans ((if_neg (by omega)).trans ((if_neg (by omega)).trans (if_pos (by omega)))))))).symm, rfl⟩
                                    · refine rb_iload_n hV dX10_widthOf_133 rfl rfl ?_
                                      refine rb_bipush hV dX10_widthOf_134 (by decide) ?_
                                      refine rb_icmp_ne hV (tgt := 143) dX10_widthOf_136 (by decide) ⟨(by unfold ab_r at *; omega), (by unfold ab_r at *; omega)⟩ (fun c136 => ?_) (fun c136 => ?_)
                                      · refine rb_iconst hV dX10_widthOf_143 ?_
                                        refine rb_ret hV (r := some (.inl 1)) dX10_widthOf_144 rfl ⟨(Nat.le_of_ble_eq_true rfl), (Nat.le_of_ble_eq_true rfl)⟩ trivial ?_
                                        exact ⟨congrArg (fun z : Int => some (Sum.inl z)) (show sgM z = _ from ((if_neg (by omega)).trans ((if_neg (by omega)).trans ((if_neg (by omega)).trans ((if_neg (by omega)).trans ((if_neg (by omega)).trans (if_neg (by omega)))))))).symm, rfl⟩
                                      · refine rb_iconst hV dX10_widthOf_139 ?_
                                        refine rb_goto hV (tgt := 144) dX10_widthOf_140 (by decide) ?_
                                        refine rb_ret hV (r := some (.inl 2)) dX10_widthOf_144 rfl ⟨(Nat.le_of_ble_eq_true rfl), (Nat.le_of_ble_eq_true rfl)⟩ trivial ?_
                                        exact ⟨congrArg (fun z : Int => some (Sum.inl z)) (show sgM z = _ from ((if_neg (by omega)).trans ((if_neg (by omega)).trans ((if_neg (by omega)).trans ((if_neg (by omega)).trans ((if_neg (by omega)).trans (if_pos (by omega)))))))).symm, rfl⟩
                      · refine rb_iconst hV dX10_widthOf_70 ?_
                        refine rb_ret hV (r := some (.inl 5)) dX10_widthOf_71 rfl ⟨(Nat.le_of_ble_eq_true rfl), (Nat.le_of_ble_eq_true rfl)⟩ trivial ?_
                        exact ⟨congrArg (fun z : Int => some (Sum.inl z)) (show sgM z = _ from ((if_neg (by omega)).trans ((if_neg (by omega)).trans (if_pos (by omega))))).symm, rfl⟩
                  · refine rb_iconst hV dX10_widthOf_56 ?_
                    refine rb_ret hV (r := some (.inl 4)) dX10_widthOf_57 rfl ⟨(Nat.le_of_ble_eq_true rfl), (Nat.le_of_ble_eq_true rfl)⟩ trivial ?_
                    exact ⟨congrArg (fun z : Int => some (Sum.inl z)) (show sgM z = _ from ((if_neg (by omega)).trans (if_pos (by omega)))).symm, rfl⟩
              · refine rb_iconst hV dX10_widthOf_42 ?_
                refine rb_ret hV (r := some (.inl 2)) dX10_widthOf_43 rfl ⟨(Nat.le_of_ble_eq_true rfl), (Nat.le_of_ble_eq_true rfl)⟩ trivial ?_
                exact ⟨congrArg (fun z : Int => some (Sum.inl z)) (show sgM z = _ from (if_pos (by omega))).symm, rfl⟩

set_option maxRecDepth 20000 in
theorem c_X10_isSentence (s : Nat → Int → Int) (z : Int) (hz : 0 ≤ z ∧ z < 65536) : ab_Mt yX10_isSentence cX10_isSentence 1 (some .boolean) ({ frames := 0, cells := 0, slots := 0, locals := 0 } : Room) false 0 0 [.inl z] (WW s) (fun r h2 => r = some (.inl (if z = 46 ∨ z = 33 ∨ z = 63 then 1 else 0)) ∧ h2 = WW s) := by
  refine ab_mk RX10 false rfl pn_X10_isSentence (fun z => by cases z) (Nat.le_of_ble_eq_true rfl) (fun V hV => ?_)
  show V 0 [some (.inl z)] [] (WW s) 0 0
  refine rb_iload_n hV dX10_isSentence_0 rfl rfl ?_
  refine rb_bipush hV dX10_isSentence_1 (by decide) ?_
  refine rb_icmp_eq hV (tgt := 18) dX10_isSentence_3 (by decide) ⟨(by unfold ab_r at *; omega), (by unfold ab_r at *; omega)⟩ (fun c3 => ?_) (fun c3 => ?_)
  · refine rb_iconst hV dX10_isSentence_18 ?_
    refine rb_goto hV (tgt := 23) dX10_isSentence_19 (by decide) ?_
    refine rb_ret hV (r := some (.inl 1)) dX10_isSentence_23 rfl ⟨(Nat.le_of_ble_eq_true rfl), (Nat.le_of_ble_eq_true rfl)⟩ (by first | exact Or.inl rfl | exact Or.inr rfl | omega) ?_
    exact ⟨congrArg (fun z : Int => some (Sum.inl z)) (if_pos (by omega)).symm, rfl⟩
  · refine rb_iload_n hV dX10_isSentence_6 rfl rfl ?_
    refine rb_bipush hV dX10_isSentence_7 (by decide) ?_
    refine rb_icmp_eq hV (tgt := 18) dX10_isSentence_9 (by decide) ⟨(by unfold ab_r at *; omega), (by unfold ab_r at *; omega)⟩ (fun c9 => ?_) (fun c9 => ?_)
    · refine rb_iconst hV dX10_isSentence_18 ?_
      refine rb_goto hV (tgt := 23) dX10_isSentence_19 (by decide) ?_
      refine rb_ret hV (r := some (.inl 1)) dX10_isSentence_23 rfl ⟨(Nat.le_of_ble_eq_true rfl), (Nat.le_of_ble_eq_true rfl)⟩ (by first | exact Or.inl rfl | exact Or.inr rfl | omega) ?_
      exact ⟨congrArg (fun z : Int => some (Sum.inl z)) (if_pos (by omega)).symm, rfl⟩
    · refine rb_iload_n hV dX10_isSentence_12 rfl rfl ?_
      refine rb_bipush hV dX10_isSentence_13 (by decide) ?_
      refine rb_icmp_ne hV (tgt := 22) dX10_isSentence_15 (by decide) ⟨(by unfold ab_r at *; omega), (by unfold ab_r at *; omega)⟩ (fun c15 => ?_) (fun c15 => ?_)
      · refine rb_iconst hV dX10_isSentence_22 ?_
        refine rb_ret hV (r := some (.inl 0)) dX10_isSentence_23 rfl ⟨(Nat.le_of_ble_eq_true rfl), (Nat.le_of_ble_eq_true rfl)⟩ (by first | exact Or.inl rfl | exact Or.inr rfl | omega) ?_
        exact ⟨congrArg (fun z : Int => some (Sum.inl z)) (if_neg (by omega)).symm, rfl⟩
      · refine rb_iconst hV dX10_isSentence_18 ?_
        refine rb_goto hV (tgt := 23) dX10_isSentence_19 (by decide) ?_
        refine rb_ret hV (r := some (.inl 1)) dX10_isSentence_23 rfl ⟨(Nat.le_of_ble_eq_true rfl), (Nat.le_of_ble_eq_true rfl)⟩ (by first | exact Or.inl rfl | exact Or.inr rfl | omega) ?_
        exact ⟨congrArg (fun z : Int => some (Sum.inl z)) (if_pos (by omega)).symm, rfl⟩

set_option maxRecDepth 20000 in
theorem c_X10_isClause (s : Nat → Int → Int) (z : Int) (hz : 0 ≤ z ∧ z < 65536) : ab_Mt yX10_isClause cX10_isClause 1 (some .boolean) ({ frames := 0, cells := 0, slots := 0, locals := 0 } : Room) false 0 0 [.inl z] (WW s) (fun r h2 => r = some (.inl (if z = 44 ∨ z = 59 ∨ z = 58 then 1 else 0)) ∧ h2 = WW s) := by
  refine ab_mk RX10 false rfl pn_X10_isClause (fun z => by cases z) (Nat.le_of_ble_eq_true rfl) (fun V hV => ?_)
  show V 0 [some (.inl z)] [] (WW s) 0 0
  refine rb_iload_n hV dX10_isClause_0 rfl rfl ?_
  refine rb_bipush hV dX10_isClause_1 (by decide) ?_
  refine rb_icmp_eq hV (tgt := 18) dX10_isClause_3 (by decide) ⟨(by unfold ab_r at *; omega), (by unfold ab_r at *; omega)⟩ (fun c3 => ?_) (fun c3 => ?_)
  · refine rb_iconst hV dX10_isClause_18 ?_
    refine rb_goto hV (tgt := 23) dX10_isClause_19 (by decide) ?_
    refine rb_ret hV (r := some (.inl 1)) dX10_isClause_23 rfl ⟨(Nat.le_of_ble_eq_true rfl), (Nat.le_of_ble_eq_true rfl)⟩ (by first | exact Or.inl rfl | exact Or.inr rfl | omega) ?_
    exact ⟨congrArg (fun z : Int => some (Sum.inl z)) (if_pos (by omega)).symm, rfl⟩
  · refine rb_iload_n hV dX10_isClause_6 rfl rfl ?_
    refine rb_bipush hV dX10_isClause_7 (by decide) ?_
    refine rb_icmp_eq hV (tgt := 18) dX10_isClause_9 (by decide) ⟨(by unfold ab_r at *; omega), (by unfold ab_r at *; omega)⟩ (fun c9 => ?_) (fun c9 => ?_)
    · refine rb_iconst hV dX10_isClause_18 ?_
      refine rb_goto hV (tgt := 23) dX10_isClause_19 (by decide) ?_
      refine rb_ret hV (r := some (.inl 1)) dX10_isClause_23 rfl ⟨(Nat.le_of_ble_eq_true rfl), (Nat.le_of_ble_eq_true rfl)⟩ (by first | exact Or.inl rfl | exact Or.inr rfl | omega) ?_
      exact ⟨congrArg (fun z : Int => some (Sum.inl z)) (if_pos (by omega)).symm, rfl⟩
    · refine rb_iload_n hV dX10_isClause_12 rfl rfl ?_
      refine rb_bipush hV dX10_isClause_13 (by decide) ?_
      refine rb_icmp_ne hV (tgt := 22) dX10_isClause_15 (by decide) ⟨(by unfold ab_r at *; omega), (by unfold ab_r at *; omega)⟩ (fun c15 => ?_) (fun c15 => ?_)
      · refine rb_iconst hV dX10_isClause_22 ?_
        refine rb_ret hV (r := some (.inl 0)) dX10_isClause_23 rfl ⟨(Nat.le_of_ble_eq_true rfl), (Nat.le_of_ble_eq_true rfl)⟩ (by first | exact Or.inl rfl | exact Or.inr rfl | omega) ?_
        exact ⟨congrArg (fun z : Int => some (Sum.inl z)) (if_neg (by omega)).symm, rfl⟩
      · refine rb_iconst hV dX10_isClause_18 ?_
        refine rb_goto hV (tgt := 23) dX10_isClause_19 (by decide) ?_
        refine rb_ret hV (r := some (.inl 1)) dX10_isClause_23 rfl ⟨(Nat.le_of_ble_eq_true rfl), (Nat.le_of_ble_eq_true rfl)⟩ (by first | exact Or.inl rfl | exact Or.inr rfl | omega) ?_
        exact ⟨congrArg (fun z : Int => some (Sum.inl z)) (if_pos (by omega)).symm, rfl⟩

set_option maxRecDepth 20000 in
theorem c_X10_isMark (s : Nat → Int → Int) (z : Int) (hz : 0 ≤ z ∧ z < 65536) : ab_Mt yX10_isMark cX10_isMark 1 (some .boolean) ({ frames := 1, cells := 0, slots := 0, locals := 20 } : Room) false 0 0 [.inl z] (WW s) (fun r h2 => r = some (.inl (if z = 46 ∨ z = 33 ∨ z = 63 ∨ z = 44 ∨ z = 59 ∨ z = 58 ∨ z = 45 ∨ z = 39 ∨ z = 34 then 1 else 0)) ∧ h2 = WW s) := by
  refine ab_mk RX10 false rfl pn_X10_isMark (fun z => by cases z) (Nat.le_of_ble_eq_true rfl) (fun V hV => ?_)
  show V 0 [some (.inl z)] [] (WW s) 0 0
  refine rb_iload_n hV dX10_isMark_0 rfl rfl ?_
  refine rb_callS hV (rest := []) dX10_isMark_1 (c_X10_isSentence s z hz) lk_X10_73 rfl rfl ⟨rfl, rfl, (Nat.le_of_ble_eq_true rfl), (Nat.le_of_ble_eq_true rfl), (Nat.le_of_ble_eq_true rfl), (Nat.le_of_ble_eq_true rfl)⟩ (Nat.le_of_ble_eq_true rfl) (fun r9 h9 p9 => ?_)
  obtain ⟨rfl, rfl⟩ := p9
  show V 4 [some (.inl z)] [.inl (if z = 46 ∨ z = 33 ∨ z = 63 then 1 else 0)] (WW s) 0 0
  by_cases e1 : z = 46 ∨ z = 33 ∨ z = 63
  · rw [if_pos e1]
    show V 4 [some (.inl z)] [.inl 1] (WW s) 0 0
    refine rb_if_ne hV (tgt := 32) dX10_isMark_4 (by decide) (by unfold ab_r at *; omega) (fun _ => ?_) (fun z => absurd z (by decide))
    refine rb_iconst hV dX10_isMark_32 ?_
    refine rb_goto hV (tgt := 37) dX10_isMark_33 (by decide) ?_
    refine rb_ret hV (r := some (.inl 1)) dX10_isMark_37 rfl ⟨(Nat.le_of_ble_eq_true rfl), (Nat.le_of_ble_eq_true rfl)⟩ (by first | exact Or.inl rfl | exact Or.inr rfl | omega) ?_
    exact ⟨congrArg (fun z : Int => some (Sum.inl z)) (if_pos (by omega)).symm, rfl⟩
  · rw [if_neg e1]
    show V 4 [some (.inl z)] [.inl 0] (WW s) 0 0
    refine rb_if_ne hV (tgt := 32) dX10_isMark_4 (by decide) (by unfold ab_r at *; omega) (fun z => absurd z (by decide)) (fun _ => ?_)
    refine rb_iload_n hV dX10_isMark_7 rfl rfl ?_
    refine rb_callS hV (rest := []) dX10_isMark_8 (c_X10_isClause s z hz) lk_X10_77 rfl rfl ⟨rfl, rfl, (Nat.le_of_ble_eq_true rfl), (Nat.le_of_ble_eq_true rfl), (Nat.le_of_ble_eq_true rfl), (Nat.le_of_ble_eq_true rfl)⟩ (Nat.le_of_ble_eq_true rfl) (fun r9 h9 p9 => ?_)
    obtain ⟨rfl, rfl⟩ := p9
    show V 11 [some (.inl z)] [.inl (if z = 44 ∨ z = 59 ∨ z = 58 then 1 else 0)] (WW s) 0 0
    by_cases e8 : z = 44 ∨ z = 59 ∨ z = 58
    · rw [if_pos e8]
      show V 11 [some (.inl z)] [.inl 1] (WW s) 0 0
      refine rb_if_ne hV (tgt := 32) dX10_isMark_11 (by decide) (by unfold ab_r at *; omega) (fun _ => ?_) (fun z => absurd z (by decide))
      refine rb_iconst hV dX10_isMark_32 ?_
      refine rb_goto hV (tgt := 37) dX10_isMark_33 (by decide) ?_
      refine rb_ret hV (r := some (.inl 1)) dX10_isMark_37 rfl ⟨(Nat.le_of_ble_eq_true rfl), (Nat.le_of_ble_eq_true rfl)⟩ (by first | exact Or.inl rfl | exact Or.inr rfl | omega) ?_
      exact ⟨congrArg (fun z : Int => some (Sum.inl z)) (if_pos (by omega)).symm, rfl⟩
    · rw [if_neg e8]
      show V 11 [some (.inl z)] [.inl 0] (WW s) 0 0
      refine rb_if_ne hV (tgt := 32) dX10_isMark_11 (by decide) (by unfold ab_r at *; omega) (fun z => absurd z (by decide)) (fun _ => ?_)
      refine rb_iload_n hV dX10_isMark_14 rfl rfl ?_
      refine rb_bipush hV dX10_isMark_15 (by decide) ?_
      refine rb_icmp_eq hV (tgt := 32) dX10_isMark_17 (by decide) ⟨(by unfold ab_r at *; omega), (by unfold ab_r at *; omega)⟩ (fun c17 => ?_) (fun c17 => ?_)
      · refine rb_iconst hV dX10_isMark_32 ?_
        refine rb_goto hV (tgt := 37) dX10_isMark_33 (by decide) ?_
        refine rb_ret hV (r := some (.inl 1)) dX10_isMark_37 rfl ⟨(Nat.le_of_ble_eq_true rfl), (Nat.le_of_ble_eq_true rfl)⟩ (by first | exact Or.inl rfl | exact Or.inr rfl | omega) ?_
        exact ⟨congrArg (fun z : Int => some (Sum.inl z)) (if_pos (by omega)).symm, rfl⟩
      · refine rb_iload_n hV dX10_isMark_20 rfl rfl ?_
        refine rb_bipush hV dX10_isMark_21 (by decide) ?_
        refine rb_icmp_eq hV (tgt := 32) dX10_isMark_23 (by decide) ⟨(by unfold ab_r at *; omega), (by unfold ab_r at *; omega)⟩ (fun c23 => ?_) (fun c23 => ?_)
        · refine rb_iconst hV dX10_isMark_32 ?_
          refine rb_goto hV (tgt := 37) dX10_isMark_33 (by decide) ?_
          refine rb_ret hV (r := some (.inl 1)) dX10_isMark_37 rfl ⟨(Nat.le_of_ble_eq_true rfl), (Nat.le_of_ble_eq_true rfl)⟩ (by first | exact Or.inl rfl | exact Or.inr rfl | omega) ?_
          exact ⟨congrArg (fun z : Int => some (Sum.inl z)) (if_pos (by omega)).symm, rfl⟩
        · refine rb_iload_n hV dX10_isMark_26 rfl rfl ?_
          refine rb_bipush hV dX10_isMark_27 (by decide) ?_
          refine rb_icmp_ne hV (tgt := 36) dX10_isMark_29 (by decide) ⟨(by unfold ab_r at *; omega), (by unfold ab_r at *; omega)⟩ (fun c29 => ?_) (fun c29 => ?_)
          · refine rb_iconst hV dX10_isMark_36 ?_
            refine rb_ret hV (r := some (.inl 0)) dX10_isMark_37 rfl ⟨(Nat.le_of_ble_eq_true rfl), (Nat.le_of_ble_eq_true rfl)⟩ (by first | exact Or.inl rfl | exact Or.inr rfl | omega) ?_
            exact ⟨congrArg (fun z : Int => some (Sum.inl z)) (if_neg (by omega)).symm, rfl⟩
          · refine rb_iconst hV dX10_isMark_32 ?_
            refine rb_goto hV (tgt := 37) dX10_isMark_33 (by decide) ?_
            refine rb_ret hV (r := some (.inl 1)) dX10_isMark_37 rfl ⟨(Nat.le_of_ble_eq_true rfl), (Nat.le_of_ble_eq_true rfl)⟩ (by first | exact Or.inl rfl | exact Or.inr rfl | omega) ?_
            exact ⟨congrArg (fun z : Int => some (Sum.inl z)) (if_pos (by omega)).symm, rfl⟩

set_option maxRecDepth 20000 in
theorem c_X10_isAllowed (s : Nat → Int → Int) (z : Int) (hz : 0 ≤ z ∧ z < 65536) : ab_Mt yX10_isAllowed cX10_isAllowed 1 (some .boolean) ({ frames := 2, cells := 0, slots := 0, locals := 40 } : Room) false 0 0 [.inl z] (WW s) (fun r h2 => r = some (.inl (if ((z = 46 ∨ z = 33 ∨ z = 63 ∨ z = 44 ∨ z = 59 ∨ z = 58 ∨ z = 45 ∨ z = 39 ∨ z = 34) ∨ z = 40 ∨ z = 41 ∨ z = 32 ∨ (97 ≤ z ∧ z ≤ 122) ∨ (65 ≤ z ∧ z ≤ 90) ∨ (48 ≤ z ∧ z ≤ 57)) then 1 else 0)) ∧ h2 = WW s) := by
  refine ab_mk RX10 false rfl pn_X10_isAllowed (fun z => by cases z) (Nat.le_of_ble_eq_true rfl) (fun V hV => ?_)
  show V 0 [some (.inl z)] [] (WW s) 0 0
  refine rb_iload_n hV dX10_isAllowed_0 rfl rfl ?_
  refine rb_callS hV (rest := []) dX10_isAllowed_1 (c_X10_isMark s z hz) lk_X10_80 rfl rfl ⟨rfl, rfl, (Nat.le_of_ble_eq_true rfl), (Nat.le_of_ble_eq_true rfl), (Nat.le_of_ble_eq_true rfl), (Nat.le_of_ble_eq_true rfl)⟩ (Nat.le_of_ble_eq_true rfl) (fun r9 h9 p9 => ?_)
  obtain ⟨rfl, rfl⟩ := p9
  show V 4 [some (.inl z)] [.inl (if z = 46 ∨ z = 33 ∨ z = 63 ∨ z = 44 ∨ z = 59 ∨ z = 58 ∨ z = 45 ∨ z = 39 ∨ z = 34 then 1 else 0)] (WW s) 0 0
  by_cases e1 : z = 46 ∨ z = 33 ∨ z = 63 ∨ z = 44 ∨ z = 59 ∨ z = 58 ∨ z = 45 ∨ z = 39 ∨ z = 34
  · rw [if_pos e1]
    show V 4 [some (.inl z)] [.inl 1] (WW s) 0 0
    refine rb_if_ne hV (tgt := 58) dX10_isAllowed_4 (by decide) (by unfold ab_r at *; omega) (fun _ => ?_) (fun z => absurd z (by decide))
    refine rb_iconst hV dX10_isAllowed_58 ?_
    refine rb_goto hV (tgt := 63) dX10_isAllowed_59 (by decide) ?_
    refine rb_ret hV (r := some (.inl 1)) dX10_isAllowed_63 rfl ⟨(Nat.le_of_ble_eq_true rfl), (Nat.le_of_ble_eq_true rfl)⟩ (by first | exact Or.inl rfl | exact Or.inr rfl | omega) ?_
    exact ⟨congrArg (fun z : Int => some (Sum.inl z)) (if_pos (by omega)).symm, rfl⟩
  · rw [if_neg e1]
    show V 4 [some (.inl z)] [.inl 0] (WW s) 0 0
    refine rb_if_ne hV (tgt := 58) dX10_isAllowed_4 (by decide) (by unfold ab_r at *; omega) (fun z => absurd z (by decide)) (fun _ => ?_)
    refine rb_iload_n hV dX10_isAllowed_7 rfl rfl ?_
    refine rb_bipush hV dX10_isAllowed_8 (by decide) ?_
    refine rb_icmp_eq hV (tgt := 58) dX10_isAllowed_10 (by decide) ⟨(by unfold ab_r at *; omega), (by unfold ab_r at *; omega)⟩ (fun c10 => ?_) (fun c10 => ?_)
    · refine rb_iconst hV dX10_isAllowed_58 ?_
      refine rb_goto hV (tgt := 63) dX10_isAllowed_59 (by decide) ?_
      refine rb_ret hV (r := some (.inl 1)) dX10_isAllowed_63 rfl ⟨(Nat.le_of_ble_eq_true rfl), (Nat.le_of_ble_eq_true rfl)⟩ (by first | exact Or.inl rfl | exact Or.inr rfl | omega) ?_
      exact ⟨congrArg (fun z : Int => some (Sum.inl z)) (if_pos (by omega)).symm, rfl⟩
    · refine rb_iload_n hV dX10_isAllowed_13 rfl rfl ?_
      refine rb_bipush hV dX10_isAllowed_14 (by decide) ?_
      refine rb_icmp_eq hV (tgt := 58) dX10_isAllowed_16 (by decide) ⟨(by unfold ab_r at *; omega), (by unfold ab_r at *; omega)⟩ (fun c16 => ?_) (fun c16 => ?_)
      · refine rb_iconst hV dX10_isAllowed_58 ?_
        refine rb_goto hV (tgt := 63) dX10_isAllowed_59 (by decide) ?_
        refine rb_ret hV (r := some (.inl 1)) dX10_isAllowed_63 rfl ⟨(Nat.le_of_ble_eq_true rfl), (Nat.le_of_ble_eq_true rfl)⟩ (by first | exact Or.inl rfl | exact Or.inr rfl | omega) ?_
        exact ⟨congrArg (fun z : Int => some (Sum.inl z)) (if_pos (by omega)).symm, rfl⟩
      · refine rb_iload_n hV dX10_isAllowed_19 rfl rfl ?_
        refine rb_bipush hV dX10_isAllowed_20 (by decide) ?_
        refine rb_icmp_eq hV (tgt := 58) dX10_isAllowed_22 (by decide) ⟨(by unfold ab_r at *; omega), (by unfold ab_r at *; omega)⟩ (fun c22 => ?_) (fun c22 => ?_)
        · refine rb_iconst hV dX10_isAllowed_58 ?_
          refine rb_goto hV (tgt := 63) dX10_isAllowed_59 (by decide) ?_
          refine rb_ret hV (r := some (.inl 1)) dX10_isAllowed_63 rfl ⟨(Nat.le_of_ble_eq_true rfl), (Nat.le_of_ble_eq_true rfl)⟩ (by first | exact Or.inl rfl | exact Or.inr rfl | omega) ?_
          exact ⟨congrArg (fun z : Int => some (Sum.inl z)) (if_pos (by omega)).symm, rfl⟩
        · refine rb_iload_n hV dX10_isAllowed_25 rfl rfl ?_
          refine rb_bipush hV dX10_isAllowed_26 (by decide) ?_
          refine rb_bipush hV dX10_isAllowed_28 (by decide) ?_
          refine rb_callS hV (rest := []) dX10_isAllowed_30 (c_X10_in s z 97 122 (by unfold ab_r at *; omega) (by unfold ab_r at *; omega) (by unfold ab_r at *; omega)) lk_X10_69 rfl rfl ⟨rfl, rfl, (Nat.le_of_ble_eq_true rfl), (Nat.le_of_ble_eq_true rfl), (Nat.le_of_ble_eq_true rfl), (Nat.le_of_ble_eq_true rfl)⟩ (Nat.le_of_ble_eq_true rfl) (fun r9 h9 p9 => ?_)
          obtain ⟨rfl, rfl⟩ := p9
          show V 33 [some (.inl z)] [.inl (if 97 ≤ z ∧ z ≤ 122 then 1 else 0)] (WW s) 0 0
          by_cases e30 : 97 ≤ z ∧ z ≤ 122
          · rw [if_pos e30]
            show V 33 [some (.inl z)] [.inl 1] (WW s) 0 0
            refine rb_if_ne hV (tgt := 58) dX10_isAllowed_33 (by decide) (by unfold ab_r at *; omega) (fun _ => ?_) (fun z => absurd z (by decide))
            refine rb_iconst hV dX10_isAllowed_58 ?_
            refine rb_goto hV (tgt := 63) dX10_isAllowed_59 (by decide) ?_
            refine rb_ret hV (r := some (.inl 1)) dX10_isAllowed_63 rfl ⟨(Nat.le_of_ble_eq_true rfl), (Nat.le_of_ble_eq_true rfl)⟩ (by first | exact Or.inl rfl | exact Or.inr rfl | omega) ?_
            exact ⟨congrArg (fun z : Int => some (Sum.inl z)) (if_pos (by omega)).symm, rfl⟩
          · rw [if_neg e30]
            show V 33 [some (.inl z)] [.inl 0] (WW s) 0 0
            refine rb_if_ne hV (tgt := 58) dX10_isAllowed_33 (by decide) (by unfold ab_r at *; omega) (fun z => absurd z (by decide)) (fun _ => ?_)
            refine rb_iload_n hV dX10_isAllowed_36 rfl rfl ?_
            refine rb_bipush hV dX10_isAllowed_37 (by decide) ?_
            refine rb_bipush hV dX10_isAllowed_39 (by decide) ?_
            refine rb_callS hV (rest := []) dX10_isAllowed_41 (c_X10_in s z 65 90 (by unfold ab_r at *; omega) (by unfold ab_r at *; omega) (by unfold ab_r at *; omega)) lk_X10_69 rfl rfl ⟨rfl, rfl, (Nat.le_of_ble_eq_true rfl), (Nat.le_of_ble_eq_true rfl), (Nat.le_of_ble_eq_true rfl), (Nat.le_of_ble_eq_true rfl)⟩ (Nat.le_of_ble_eq_true rfl) (fun r9 h9 p9 => ?_)
            obtain ⟨rfl, rfl⟩ := p9
            show V 44 [some (.inl z)] [.inl (if 65 ≤ z ∧ z ≤ 90 then 1 else 0)] (WW s) 0 0
            by_cases e41 : 65 ≤ z ∧ z ≤ 90
            · rw [if_pos e41]
              show V 44 [some (.inl z)] [.inl 1] (WW s) 0 0
              refine rb_if_ne hV (tgt := 58) dX10_isAllowed_44 (by decide) (by unfold ab_r at *; omega) (fun _ => ?_) (fun z => absurd z (by decide))
              refine rb_iconst hV dX10_isAllowed_58 ?_
              refine rb_goto hV (tgt := 63) dX10_isAllowed_59 (by decide) ?_
              refine rb_ret hV (r := some (.inl 1)) dX10_isAllowed_63 rfl ⟨(Nat.le_of_ble_eq_true rfl), (Nat.le_of_ble_eq_true rfl)⟩ (by first | exact Or.inl rfl | exact Or.inr rfl | omega) ?_
              exact ⟨congrArg (fun z : Int => some (Sum.inl z)) (if_pos (by omega)).symm, rfl⟩
            · rw [if_neg e41]
              show V 44 [some (.inl z)] [.inl 0] (WW s) 0 0
              refine rb_if_ne hV (tgt := 58) dX10_isAllowed_44 (by decide) (by unfold ab_r at *; omega) (fun z => absurd z (by decide)) (fun _ => ?_)
              refine rb_iload_n hV dX10_isAllowed_47 rfl rfl ?_
              refine rb_bipush hV dX10_isAllowed_48 (by decide) ?_
              refine rb_bipush hV dX10_isAllowed_50 (by decide) ?_
              refine rb_callS hV (rest := []) dX10_isAllowed_52 (c_X10_in s z 48 57 (by unfold ab_r at *; omega) (by unfold ab_r at *; omega) (by unfold ab_r at *; omega)) lk_X10_69 rfl rfl ⟨rfl, rfl, (Nat.le_of_ble_eq_true rfl), (Nat.le_of_ble_eq_true rfl), (Nat.le_of_ble_eq_true rfl), (Nat.le_of_ble_eq_true rfl)⟩ (Nat.le_of_ble_eq_true rfl) (fun r9 h9 p9 => ?_)
              obtain ⟨rfl, rfl⟩ := p9
              show V 55 [some (.inl z)] [.inl (if 48 ≤ z ∧ z ≤ 57 then 1 else 0)] (WW s) 0 0
              by_cases e52 : 48 ≤ z ∧ z ≤ 57
              · rw [if_pos e52]
                show V 55 [some (.inl z)] [.inl 1] (WW s) 0 0
                refine rb_if_eq hV (tgt := 62) dX10_isAllowed_55 (by decide) (by unfold ab_r at *; omega) (fun z => absurd z (by decide)) (fun _ => ?_)
                refine rb_iconst hV dX10_isAllowed_58 ?_
                refine rb_goto hV (tgt := 63) dX10_isAllowed_59 (by decide) ?_
                refine rb_ret hV (r := some (.inl 1)) dX10_isAllowed_63 rfl ⟨(Nat.le_of_ble_eq_true rfl), (Nat.le_of_ble_eq_true rfl)⟩ (by first | exact Or.inl rfl | exact Or.inr rfl | omega) ?_
                exact ⟨congrArg (fun z : Int => some (Sum.inl z)) (if_pos (by omega)).symm, rfl⟩
              · rw [if_neg e52]
                show V 55 [some (.inl z)] [.inl 0] (WW s) 0 0
                refine rb_if_eq hV (tgt := 62) dX10_isAllowed_55 (by decide) (by unfold ab_r at *; omega) (fun _ => ?_) (fun z => absurd z (by decide))
                refine rb_iconst hV dX10_isAllowed_62 ?_
                refine rb_ret hV (r := some (.inl 0)) dX10_isAllowed_63 rfl ⟨(Nat.le_of_ble_eq_true rfl), (Nat.le_of_ble_eq_true rfl)⟩ (by first | exact Or.inl rfl | exact Or.inr rfl | omega) ?_
                exact ⟨congrArg (fun z : Int => some (Sum.inl z)) (if_neg (by omega)).symm, rfl⟩

set_option maxRecDepth 20000 in
theorem c_X10_hangLeft (s : Nat → Int → Int) (hp : PI (vM s)) (a : Int) (ha : 0 ≤ a ∧ a < s 120 0) : ab_Mt yX10_hangLeft cX10_hangLeft 2 (some .int) ({ frames := 0, cells := 0, slots := 0, locals := 0 } : Room) false 0 0 [.inr (some 49), .inl a] (WW s) (fun r h2 => r = some (.inl (hL (vM s) a)) ∧ h2 = WW s) := by
  refine ab_mk RX10 false rfl pn_X10_hangLeft (fun z => by cases z) (Nat.le_of_ble_eq_true rfl) (fun V hV => ?_)
  show V 0 [some (.inr (some 49)), some (.inl a)] [] (WW s) 0 0
  have hn : 0 ≤ s 120 0 ∧ s 120 0 ≤ 60 := hp.1
  have hms : 10 ≤ s 117 0 ∧ s 117 0 ≤ 200 := hp.2.2.1
  refine rb_aload_n hV dX10_hangLeft_0 rfl rfl ?_
  refine rb_get hV (v := .inr (some 54)) dX10_hangLeft_1 ⟨RX10, TX10, 24, rfl, (Nat.le_of_ble_eq_true rfl), lf_X10_32⟩ (gw_49 _) rfl ?_
  refine rb_iload_n hV dX10_hangLeft_4 rfl rfl ?_
  refine rb_iald hV (f := (s 54)) dX10_hangLeft_5 (gw_54 _) (Nat.le_of_ble_eq_true rfl) (by omega) ?_
  refine rb_aload_n hV dX10_hangLeft_6 rfl rfl ?_
  refine rb_get hV (v := .inl (s 118 0)) dX10_hangLeft_7 ⟨RX10, TX10, 24, rfl, (Nat.le_of_ble_eq_true rfl), lf_X10_13⟩ (gw_49 _) rfl ?_
  refine rb_imul hV dX10_hangLeft_10 ?_
  have h5 : 0 ≤ s 54 a * s 118 0 ∧ s 54 a * s 118 0 ≤ 500 := mk5 (hp.2.1 a ha.1 ha.2).2.2.2.1 hp.2.2.2.1
  refine rb_bipush hV dX10_hangLeft_11 (by decide) ?_
  refine rb_idiv hV dX10_hangLeft_13 ⟨(by unfold ab_r at *; omega), (by unfold ab_r at *; omega)⟩ (by omega) ?_
  refine rb_ret hV (r := some (.inl ((((s 54 a) * (s 118 0))).tdiv 100))) dX10_hangLeft_14 rfl ⟨(Nat.le_of_ble_eq_true rfl), (Nat.le_of_ble_eq_true rfl)⟩ trivial ?_
  exact ⟨rfl, rfl⟩

set_option maxRecDepth 20000 in
theorem c_X10_hangRight (s : Nat → Int → Int) (hp : PI (vM s)) (a : Int) (ha : 0 ≤ a ∧ a < s 120 0) : ab_Mt yX10_hangRight cX10_hangRight 2 (some .int) ({ frames := 0, cells := 0, slots := 0, locals := 0 } : Room) false 0 0 [.inr (some 49), .inl a] (WW s) (fun r h2 => r = some (.inl (hR (vM s) a)) ∧ h2 = WW s) := by
  refine ab_mk RX10 false rfl pn_X10_hangRight (fun z => by cases z) (Nat.le_of_ble_eq_true rfl) (fun V hV => ?_)
  show V 0 [some (.inr (some 49)), some (.inl a)] [] (WW s) 0 0
  have hn : 0 ≤ s 120 0 ∧ s 120 0 ≤ 60 := hp.1
  have hms : 10 ≤ s 117 0 ∧ s 117 0 ≤ 200 := hp.2.2.1
  refine rb_aload_n hV dX10_hangRight_0 rfl rfl ?_
  refine rb_get hV (v := .inr (some 55)) dX10_hangRight_1 ⟨RX10, TX10, 24, rfl, (Nat.le_of_ble_eq_true rfl), lf_X10_35⟩ (gw_49 _) rfl ?_
  refine rb_iload_n hV dX10_hangRight_4 rfl rfl ?_
  refine rb_iald hV (f := (s 55)) dX10_hangRight_5 (gw_55 _) (Nat.le_of_ble_eq_true rfl) (by omega) ?_
  refine rb_aload_n hV dX10_hangRight_6 rfl rfl ?_
  refine rb_get hV (v := .inl (s 118 0)) dX10_hangRight_7 ⟨RX10, TX10, 24, rfl, (Nat.le_of_ble_eq_true rfl), lf_X10_13⟩ (gw_49 _) rfl ?_
  refine rb_imul hV dX10_hangRight_10 ?_
  have h5 : 0 ≤ s 55 a * s 118 0 ∧ s 55 a * s 118 0 ≤ 500 := mk5 (hp.2.1 a ha.1 ha.2).2.2.2.2 hp.2.2.2.1
  refine rb_bipush hV dX10_hangRight_11 (by decide) ?_
  refine rb_idiv hV dX10_hangRight_13 ⟨(by unfold ab_r at *; omega), (by unfold ab_r at *; omega)⟩ (by omega) ?_
  refine rb_ret hV (r := some (.inl ((((s 55 a) * (s 118 0))).tdiv 100))) dX10_hangRight_14 rfl ⟨(Nat.le_of_ble_eq_true rfl), (Nat.le_of_ble_eq_true rfl)⟩ trivial ?_
  exact ⟨rfl, rfl⟩

set_option maxRecDepth 20000 in
theorem c_X10_spaces (s : Nat → Int → Int) (hp : PI (vM s)) (a b y : Int) (hab : 0 ≤ a ∧ a ≤ b ∧ b ≤ s 120 0) (hy : 0 ≤ y ∧ y ≤ 2) : ab_Mt yX10_spaces cX10_spaces 6 (some .int) ({ frames := 0, cells := 0, slots := 0, locals := 0 } : Room) false 0 0 [.inr (some 49), .inl a, .inl b, .inl y] (WW s) (fun r h2 => r = some (.inl (Sm (fun v => s 50 (3 * s 53 v + y)) a b)) ∧ h2 = WW s) := by
  refine ab_mk RX10 false rfl pn_X10_spaces (fun z => by cases z) (Nat.le_of_ble_eq_true rfl) (fun V hV => ?_)
  show V 0 [some (.inr (some 49)), some (.inl a), some (.inl b), some (.inl y), none, none] [] (WW s) 0 0
  have hn : 0 ≤ s 120 0 ∧ s 120 0 ≤ 60 := hp.1
  have hms : 10 ≤ s 117 0 ∧ s 117 0 ≤ 200 := hp.2.2.1
  refine rb_iconst hV dX10_spaces_0 ?_
  refine rb_istore hV (L2 := [some (.inr (some 49)), some (.inl a), some (.inl b), some (.inl y), some (.inl 0), none]) dX10_spaces_1 (Nat.le_of_ble_eq_true rfl) rfl ?_
  refine rb_iload_n hV dX10_spaces_3 rfl rfl ?_
  refine rb_istore hV (L2 := [some (.inr (some 49)), some (.inl a), some (.inl b), some (.inl y), some (.inl 0), some (.inl a)]) dX10_spaces_4 (Nat.le_of_ble_eq_true rfl) rfl ?_
  have h6 : ∀ (n6 : Nat) (u : Int) (k : Int), (a ≤ k ∧ k ≤ b) → (u = Sm (fun v => s 50 (3 * s 53 v + y)) a k) → ((b - k).toNat) < n6 → V 6 [some (.inr (some 49)), some (.inl a), some (.inl b), some (.inl y), some (.inl u), some (.inl k)] [] (WW s) 0 0 := by
    intro n6
    induction n6 with
    | zero => intro u k h1 h2 hm; omega
    | succ n6 ih6 =>
      intro u k h1 h2 hm
      refine rb_iload hV dX10_spaces_6 rfl ?_
      refine rb_iload_n hV dX10_spaces_8 rfl rfl ?_
      refine rb_icmp_ge hV (tgt := 39) dX10_spaces_9 (by decide) ⟨(by unfold ab_r at *; omega), (by unfold ab_r at *; omega)⟩ (fun c9 => ?_) (fun c9 => ?_)
      · refine rb_iload hV dX10_spaces_39 rfl ?_
        refine rb_ret hV (r := some (.inl u)) dX10_spaces_41 rfl ⟨(Nat.le_of_ble_eq_true rfl), (Nat.le_of_ble_eq_true rfl)⟩ trivial ?_
        exact ⟨congrArg (fun z : Int => some (Sum.inl z)) (h2.trans (by rw [show k = b by omega])), rfl⟩
      · have hkk : 0 ≤ s 53 k ∧ s 53 k ≤ 2 := (hp.2.1 k (by omega) (show k < s 120 0 by omega)).2.2.1
        refine rb_iload hV dX10_spaces_12 rfl ?_
        refine rb_aload_n hV dX10_spaces_14 rfl rfl ?_
        refine rb_get hV (v := .inr (some 50)) dX10_spaces_15 ⟨RX10, TX10, 24, rfl, (Nat.le_of_ble_eq_true rfl), lf_X10_19⟩ (gw_49 _) rfl ?_
        refine rb_iconst hV dX10_spaces_18 ?_
        refine rb_aload_n hV dX10_spaces_19 rfl rfl ?_
        refine rb_get hV (v := .inr (some 53)) dX10_spaces_20 ⟨RX10, TX10, 24, rfl, (Nat.le_of_ble_eq_true rfl), lf_X10_29⟩ (gw_49 _) rfl ?_
        refine rb_iload hV dX10_spaces_23 rfl ?_
        refine rb_iald hV (f := (s 53)) dX10_spaces_25 (gw_53 _) (Nat.le_of_ble_eq_true rfl) (by omega) ?_
        refine rb_imul hV dX10_spaces_26 ?_
        refine rb_iload_n hV dX10_spaces_27 rfl rfl ?_
        refine rb_iadd hV dX10_spaces_28 ?_
        refine rb_iald hV (f := (s 50)) dX10_spaces_29 (gw_50 _) (Nat.le_of_ble_eq_true rfl) (by omega) ?_
        refine rb_iadd hV dX10_spaces_30 ?_
        refine rb_istore hV (L2 := [some (.inr (some 49)), some (.inl a), some (.inl b), some (.inl y), some (.inl (u + (s 50 ((3 * (s 53 k)) + y)))), some (.inl k)]) dX10_spaces_31 (Nat.le_of_ble_eq_true rfl) rfl ?_
        refine rb_iinc hV (L2 := [some (.inr (some 49)), some (.inl a), some (.inl b), some (.inl y), some (.inl (u + (s 50 ((3 * (s 53 k)) + y)))), some (.inl (k + 1))]) dX10_spaces_33 rfl rfl rfl ?_
        refine rb_goto hV (tgt := 6) dX10_spaces_36 (by decide) ?_
        refine ih6 (u + (s 50 ((3 * (s 53 k)) + y))) (k + 1) ?_ ?_ ?_
        · omega
        · rw [Sm_succ _ h1.1, h2]
        · omega
  refine h6 _ 0 a ?_ ?_ (Nat.lt_succ_self _)
  · omega
  · rw [Sm_self]
