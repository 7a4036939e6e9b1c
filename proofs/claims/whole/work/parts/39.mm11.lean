/-! the reference: what changes -/
def UPDM (s1 : Nat → Int → Int) (v : Int) (r : Option ab_V) (h2 : List ab_E) : Prop := ∃ s2, r = some (.inl v) ∧ h2 = WW s2 ∧ MI s2 ∧ MBEST s2 ∧ KEEP MBk s1 s2
theorem MI_tx {s : Nat → Int → Int} (h : MI s) {f g : Int → Int} (h1 : ∀ v, 0 ≤ f v ∧ f v < 65536) (h2 : 0 ≤ g 0 ∧ g 0 ≤ 120) : MI (ab_s (ab_s s 56 f) 121 g) := ⟨h.1, h.2.1, h.2.2.1, h.2.2.2.1, h.2.2.2.2.1, h2, h1⟩
theorem MI_t0 {s : Nat → Int → Int} (h : MI s) {g : Int → Int} (h2 : 0 ≤ g 0 ∧ g 0 ≤ 120) : MI (ab_s s 121 g) := ⟨h.1, h.2.1, h.2.2.1, h.2.2.2.1, h.2.2.2.2.1, h2, h.2.2.2.2.2.2⟩
def TYM (s : Nat → Int → Int) (z : Int) : Nat → Int → Int := ab_s (ab_s s 56 (ab_u (s 56) (s 121 0) z)) 121 (fun _ => s 121 0 + 1)
theorem ab_u_u (f : Int → Int) (k x y : Int) : ab_u (ab_u f k x) k y = ab_u f k y := by
  funext j
  unfold ab_u
  split <;> rfl

set_option maxRecDepth 20000 in
theorem c_X10_setMeasure (s : Nat → Int → Int) (m : Int) (hm0 : ab_r m) (hx : MI s) : ab_Mt yX10_setMeasure cX10_setMeasure 3 (some .int) ({ frames := 7, cells := 0, slots := 0, locals := 164 } : Room) false 0 0 [.inr (some 49), .inl m] (WW s) (fun r h2 => (¬ (10 ≤ m ∧ m ≤ 200) ∧ RO s (-1002) r h2) ∨ ((10 ≤ m ∧ m ≤ 200) ∧ UPDM (ab_s s 117 (fun _ => m)) (s 117 0) r h2)) := by
  refine ab_mk RX10 false rfl pn_X10_setMeasure (fun z => by cases z) (Nat.le_of_ble_eq_true rfl) (fun V hV => ?_)
  show V 0 [some (.inr (some 49)), some (.inl m), none] [] (WW s) 0 0
  obtain ⟨hp, hbw, hv, hms0, hz0, hx3, hx4⟩ := id hx
  have hn : 0 ≤ s 120 0 ∧ s 120 0 ≤ 60 := hp.1
  have hnl : 0 ≤ s 125 0 ∧ s 125 0 ≤ s 120 0 := hv.1
  have hb := BWq_BS hp hbw
  have hsw := (MST_b hms0).1
  have hln := (MST_b hms0).2
  refine rb_iload_n hV dX10_setMeasure_0 rfl rfl ?_
  refine rb_bipush hV dX10_setMeasure_1 (by decide) ?_
  refine rb_sipush hV dX10_setMeasure_3 (by decide) ?_
  refine rb_callS hV (rest := []) dX10_setMeasure_6 (c_X10_in s m 10 200 (by unfold ab_r at *; omega) (by unfold ab_r at *; omega) (by unfold ab_r at *; omega)) lk_X10_69 rfl rfl ⟨rfl, rfl, (Nat.le_of_ble_eq_true rfl), (Nat.le_of_ble_eq_true rfl), (Nat.le_of_ble_eq_true rfl), (Nat.le_of_ble_eq_true rfl)⟩ (Nat.le_of_ble_eq_true rfl) (fun r9 h9 p9 => ?_)
  obtain ⟨rfl, rfl⟩ := p9
  show V 9 [some (.inr (some 49)), some (.inl m), none] [.inl (if 10 ≤ m ∧ m ≤ 200 then 1 else 0)] (WW s) 0 0
  by_cases e6 : 10 ≤ m ∧ m ≤ 200
  · rw [if_pos e6]
    show V 9 [some (.inr (some 49)), some (.inl m), none] [.inl 1] (WW s) 0 0
    refine rb_if_ne hV (tgt := 16) dX10_setMeasure_9 (by decide) (by unfold ab_r at *; omega) (fun _ => ?_) (fun z => absurd z (by decide))
    refine rb_aload_n hV dX10_setMeasure_16 rfl rfl ?_
    refine rb_get hV (v := .inl (s 117 0)) dX10_setMeasure_17 ⟨RX10, TX10, 24, rfl, (Nat.le_of_ble_eq_true rfl), lf_X10_7⟩ (gw_49 _) rfl ?_
    refine rb_istore_n hV (L2 := [some (.inr (some 49)), some (.inl m), some (.inl (s 117 0))]) dX10_setMeasure_20 rfl (Nat.le_of_ble_eq_true rfl) rfl ?_
    refine rb_aload_n hV dX10_setMeasure_21 rfl rfl ?_
    refine rb_iload_n hV dX10_setMeasure_22 rfl rfl ?_
    have hm9 : 10 ≤ m ∧ m ≤ 200 := by omega
    have hxp : MP (ab_s s 117 (fun _ => m)) := by
      have hq := MI_MP hx
      exact ⟨⟨hq.1.1, hq.1.2.1, hm9, hq.1.2.2.2⟩, hq.2⟩
    refine rb_put hV (C := RX10) (T := TX10) (N := 24) (ci := 9) (j := 0) dX10_setMeasure_23 rfl (Nat.le_of_ble_eq_true rfl) lf_X10_7 rfl (gw_49 _) (Nat.le_of_ble_eq_true rfl) (ft_X10_0 _) (pw_49_0 _ _) ?_
    refine rb_aload_n hV dX10_setMeasure_26 rfl rfl ?_
    refine rb_callV hV (rest := []) dX10_setMeasure_27 (c_X10_layAnew (ab_s s 117 (fun _ => m)) hxp) lk_X10_66 rfl (Or.inl ⟨9, _, TX10, 24, gw_49 _, rfl⟩) rfl ⟨rfl, rfl, (Nat.le_of_ble_eq_true rfl), (Nat.le_of_ble_eq_true rfl), (Nat.le_of_ble_eq_true rfl), (Nat.le_of_ble_eq_true rfl)⟩ (Nat.le_of_ble_eq_true rfl) (fun r9 h9 p9 => ?_)
    obtain ⟨s2, rfl, rfl, hmi, hbest, hkeep⟩ := p9
    show V 30 [some (.inr (some 49)), some (.inl m), some (.inl (s 117 0))] [] (WW s2) 0 0
    refine rb_iload_n hV dX10_setMeasure_30 rfl rfl ?_
    refine rb_ret hV (r := some (.inl (s 117 0))) dX10_setMeasure_31 rfl ⟨(Nat.le_of_ble_eq_true rfl), (Nat.le_of_ble_eq_true rfl)⟩ trivial ?_
    exact Or.inr ⟨hm9, s2, rfl, rfl, hmi, hbest, hkeep⟩
  · rw [if_neg e6]
    show V 9 [some (.inr (some 49)), some (.inl m), none] [.inl 0] (WW s) 0 0
    refine rb_if_ne hV (tgt := 16) dX10_setMeasure_9 (by decide) (by unfold ab_r at *; omega) (fun z => absurd z (by decide)) (fun _ => ?_)
    refine rb_sipush hV dX10_setMeasure_12 (by decide) ?_
    refine rb_ret hV (r := some (.inl (-1002))) dX10_setMeasure_15 rfl ⟨(Nat.le_of_ble_eq_true rfl), (Nat.le_of_ble_eq_true rfl)⟩ trivial ?_
    exact Or.inl ⟨by omega, rfl, rfl⟩

set_option maxRecDepth 20000 in
theorem c_X10_setHang (s : Nat → Int → Int) (m : Int) (hm0 : ab_r m) (hx : MI s) : ab_Mt yX10_setHang cX10_setHang 3 (some .int) ({ frames := 7, cells := 0, slots := 0, locals := 164 } : Room) false 0 0 [.inr (some 49), .inl m] (WW s) (fun r h2 => (¬ (0 ≤ m ∧ m ≤ 100) ∧ RO s (-1002) r h2) ∨ ((0 ≤ m ∧ m ≤ 100) ∧ UPDM (ab_s s 118 (fun _ => m)) (s 118 0) r h2)) := by
  refine ab_mk RX10 false rfl pn_X10_setHang (fun z => by cases z) (Nat.le_of_ble_eq_true rfl) (fun V hV => ?_)
  show V 0 [some (.inr (some 49)), some (.inl m), none] [] (WW s) 0 0
  obtain ⟨hp, hbw, hv, hms0, hz0, hx3, hx4⟩ := id hx
  have hn : 0 ≤ s 120 0 ∧ s 120 0 ≤ 60 := hp.1
  have hnl : 0 ≤ s 125 0 ∧ s 125 0 ≤ s 120 0 := hv.1
  have hb := BWq_BS hp hbw
  have hsw := (MST_b hms0).1
  have hln := (MST_b hms0).2
  refine rb_iload_n hV dX10_setHang_0 rfl rfl ?_
  refine rb_iconst hV dX10_setHang_1 ?_
  refine rb_bipush hV dX10_setHang_2 (by decide) ?_
  refine rb_callS hV (rest := []) dX10_setHang_4 (c_X10_in s m 0 100 (by unfold ab_r at *; omega) (by unfold ab_r at *; omega) (by unfold ab_r at *; omega)) lk_X10_69 rfl rfl ⟨rfl, rfl, (Nat.le_of_ble_eq_true rfl), (Nat.le_of_ble_eq_true rfl), (Nat.le_of_ble_eq_true rfl), (Nat.le_of_ble_eq_true rfl)⟩ (Nat.le_of_ble_eq_true rfl) (fun r9 h9 p9 => ?_)
  obtain ⟨rfl, rfl⟩ := p9
  show V 7 [some (.inr (some 49)), some (.inl m), none] [.inl (if 0 ≤ m ∧ m ≤ 100 then 1 else 0)] (WW s) 0 0
  by_cases e4 : 0 ≤ m ∧ m ≤ 100
  · rw [if_pos e4]
    show V 7 [some (.inr (some 49)), some (.inl m), none] [.inl 1] (WW s) 0 0
    refine rb_if_ne hV (tgt := 14) dX10_setHang_7 (by decide) (by unfold ab_r at *; omega) (fun _ => ?_) (fun z => absurd z (by decide))
    refine rb_aload_n hV dX10_setHang_14 rfl rfl ?_
    refine rb_get hV (v := .inl (s 118 0)) dX10_setHang_15 ⟨RX10, TX10, 24, rfl, (Nat.le_of_ble_eq_true rfl), lf_X10_13⟩ (gw_49 _) rfl ?_
    refine rb_istore_n hV (L2 := [some (.inr (some 49)), some (.inl m), some (.inl (s 118 0))]) dX10_setHang_18 rfl (Nat.le_of_ble_eq_true rfl) rfl ?_
    refine rb_aload_n hV dX10_setHang_19 rfl rfl ?_
    refine rb_iload_n hV dX10_setHang_20 rfl rfl ?_
    have hm9 : 0 ≤ m ∧ m ≤ 100 := by omega
    have hxp : MP (ab_s s 118 (fun _ => m)) := by
      have hq := MI_MP hx
      exact ⟨⟨hq.1.1, hq.1.2.1, hq.1.2.2.1, hm9, hq.1.2.2.2.2⟩, hq.2⟩
    refine rb_put hV (C := RX10) (T := TX10) (N := 24) (ci := 9) (j := 1) dX10_setHang_21 rfl (Nat.le_of_ble_eq_true rfl) lf_X10_13 rfl (gw_49 _) (Nat.le_of_ble_eq_true rfl) (ft_X10_1 _) (pw_49_1 _ _) ?_
    refine rb_aload_n hV dX10_setHang_24 rfl rfl ?_
    refine rb_callV hV (rest := []) dX10_setHang_25 (c_X10_layAnew (ab_s s 118 (fun _ => m)) hxp) lk_X10_66 rfl (Or.inl ⟨9, _, TX10, 24, gw_49 _, rfl⟩) rfl ⟨rfl, rfl, (Nat.le_of_ble_eq_true rfl), (Nat.le_of_ble_eq_true rfl), (Nat.le_of_ble_eq_true rfl), (Nat.le_of_ble_eq_true rfl)⟩ (Nat.le_of_ble_eq_true rfl) (fun r9 h9 p9 => ?_)
    obtain ⟨s2, rfl, rfl, hmi, hbest, hkeep⟩ := p9
    show V 28 [some (.inr (some 49)), some (.inl m), some (.inl (s 118 0))] [] (WW s2) 0 0
    refine rb_iload_n hV dX10_setHang_28 rfl rfl ?_
    refine rb_ret hV (r := some (.inl (s 118 0))) dX10_setHang_29 rfl ⟨(Nat.le_of_ble_eq_true rfl), (Nat.le_of_ble_eq_true rfl)⟩ trivial ?_
    exact Or.inr ⟨hm9, s2, rfl, rfl, hmi, hbest, hkeep⟩
  · rw [if_neg e4]
    show V 7 [some (.inr (some 49)), some (.inl m), none] [.inl 0] (WW s) 0 0
    refine rb_if_ne hV (tgt := 14) dX10_setHang_7 (by decide) (by unfold ab_r at *; omega) (fun z => absurd z (by decide)) (fun _ => ?_)
    refine rb_sipush hV dX10_setHang_10 (by decide) ?_
    refine rb_ret hV (r := some (.inl (-1002))) dX10_setHang_13 rfl ⟨(Nat.le_of_ble_eq_true rfl), (Nat.le_of_ble_eq_true rfl)⟩ trivial ?_
    exact Or.inl ⟨by omega, rfl, rfl⟩

set_option maxRecDepth 20000 in
theorem c_X10_setTolerance (s : Nat → Int → Int) (m : Int) (hm0 : ab_r m) (hx : MI s) : ab_Mt yX10_setTolerance cX10_setTolerance 3 (some .int) ({ frames := 7, cells := 0, slots := 0, locals := 164 } : Room) false 0 0 [.inr (some 49), .inl m] (WW s) (fun r h2 => (¬ (0 ≤ m ∧ m ≤ 20) ∧ RO s (-1002) r h2) ∨ ((0 ≤ m ∧ m ≤ 20) ∧ UPDM (ab_s s 119 (fun _ => m)) (s 119 0) r h2)) := by
  refine ab_mk RX10 false rfl pn_X10_setTolerance (fun z => by cases z) (Nat.le_of_ble_eq_true rfl) (fun V hV => ?_)
  show V 0 [some (.inr (some 49)), some (.inl m), none] [] (WW s) 0 0
  obtain ⟨hp, hbw, hv, hms0, hz0, hx3, hx4⟩ := id hx
  have hn : 0 ≤ s 120 0 ∧ s 120 0 ≤ 60 := hp.1
  have hnl : 0 ≤ s 125 0 ∧ s 125 0 ≤ s 120 0 := hv.1
  have hb := BWq_BS hp hbw
  have hsw := (MST_b hms0).1
  have hln := (MST_b hms0).2
  refine rb_iload_n hV dX10_setTolerance_0 rfl rfl ?_
  refine rb_iconst hV dX10_setTolerance_1 ?_
  refine rb_bipush hV dX10_setTolerance_2 (by decide) ?_
  refine rb_callS hV (rest := []) dX10_setTolerance_4 (c_X10_in s m 0 20 (by unfold ab_r at *; omega) (by unfold ab_r at *; omega) (by unfold ab_r at *; omega)) lk_X10_69 rfl rfl ⟨rfl, rfl, (Nat.le_of_ble_eq_true rfl), (Nat.le_of_ble_eq_true rfl), (Nat.le_of_ble_eq_true rfl), (Nat.le_of_ble_eq_true rfl)⟩ (Nat.le_of_ble_eq_true rfl) (fun r9 h9 p9 => ?_)
  obtain ⟨rfl, rfl⟩ := p9
  show V 7 [some (.inr (some 49)), some (.inl m), none] [.inl (if 0 ≤ m ∧ m ≤ 20 then 1 else 0)] (WW s) 0 0
  by_cases e4 : 0 ≤ m ∧ m ≤ 20
  · rw [if_pos e4]
    show V 7 [some (.inr (some 49)), some (.inl m), none] [.inl 1] (WW s) 0 0
    refine rb_if_ne hV (tgt := 14) dX10_setTolerance_7 (by decide) (by unfold ab_r at *; omega) (fun _ => ?_) (fun z => absurd z (by decide))
    refine rb_aload_n hV dX10_setTolerance_14 rfl rfl ?_
    refine rb_get hV (v := .inl (s 119 0)) dX10_setTolerance_15 ⟨RX10, TX10, 24, rfl, (Nat.le_of_ble_eq_true rfl), lf_X10_16⟩ (gw_49 _) rfl ?_
    refine rb_istore_n hV (L2 := [some (.inr (some 49)), some (.inl m), some (.inl (s 119 0))]) dX10_setTolerance_18 rfl (Nat.le_of_ble_eq_true rfl) rfl ?_
    refine rb_aload_n hV dX10_setTolerance_19 rfl rfl ?_
    refine rb_iload_n hV dX10_setTolerance_20 rfl rfl ?_
    have hm9 : 0 ≤ m ∧ m ≤ 20 := by omega
    have hxp : MP (ab_s s 119 (fun _ => m)) := by
      have hq := MI_MP hx
      exact ⟨⟨hq.1.1, hq.1.2.1, hq.1.2.2.1, hq.1.2.2.2.1, hm9, hq.1.2.2.2.2.2⟩, hq.2⟩
    refine rb_put hV (C := RX10) (T := TX10) (N := 24) (ci := 9) (j := 2) dX10_setTolerance_21 rfl (Nat.le_of_ble_eq_true rfl) lf_X10_16 rfl (gw_49 _) (Nat.le_of_ble_eq_true rfl) (ft_X10_2 _) (pw_49_2 _ _) ?_
    refine rb_aload_n hV dX10_setTolerance_24 rfl rfl ?_
    refine rb_callV hV (rest := []) dX10_setTolerance_25 (c_X10_layAnew (ab_s s 119 (fun _ => m)) hxp) lk_X10_66 rfl (Or.inl ⟨9, _, TX10, 24, gw_49 _, rfl⟩) rfl ⟨rfl, rfl, (Nat.le_of_ble_eq_true rfl), (Nat.le_of_ble_eq_true rfl), (Nat.le_of_ble_eq_true rfl), (Nat.le_of_ble_eq_true rfl)⟩ (Nat.le_of_ble_eq_true rfl) (fun r9 h9 p9 => ?_)
    obtain ⟨s2, rfl, rfl, hmi, hbest, hkeep⟩ := p9
    show V 28 [some (.inr (some 49)), some (.inl m), some (.inl (s 119 0))] [] (WW s2) 0 0
    refine rb_iload_n hV dX10_setTolerance_28 rfl rfl ?_
    refine rb_ret hV (r := some (.inl (s 119 0))) dX10_setTolerance_29 rfl ⟨(Nat.le_of_ble_eq_true rfl), (Nat.le_of_ble_eq_true rfl)⟩ trivial ?_
    exact Or.inr ⟨hm9, s2, rfl, rfl, hmi, hbest, hkeep⟩
  · rw [if_neg e4]
    show V 7 [some (.inr (some 49)), some (.inl m), none] [.inl 0] (WW s) 0 0
    refine rb_if_ne hV (tgt := 14) dX10_setTolerance_7 (by decide) (by unfold ab_r at *; omega) (fun z => absurd z (by decide)) (fun _ => ?_)
    refine rb_sipush hV dX10_setTolerance_10 (by decide) ?_
    refine rb_ret hV (r := some (.inl (-1002))) dX10_setTolerance_13 rfl ⟨(Nat.le_of_ble_eq_true rfl), (Nat.le_of_ble_eq_true rfl)⟩ trivial ?_
    exact Or.inl ⟨by omega, rfl, rfl⟩

set_option maxRecDepth 20000 in
theorem c_X10_setSpace (s : Nat → Int → Int) (k a b e : Int) (hk0 : ab_r k) (ha0 : ab_r a) (hb0 : ab_r b) (he0 : ab_r e) (hx : MI s) : ab_Mt yX10_setSpace cX10_setSpace 6 (some .int) ({ frames := 7, cells := 0, slots := 0, locals := 164 } : Room) false 0 0 [.inr (some 49), .inl k, .inl a, .inl b, .inl e] (WW s) (fun r h2 => (¬ (0 ≤ k ∧ k < 3) ∧ RO s (-1001) r h2) ∨ ((0 ≤ k ∧ k < 3) ∧ ¬ (1 ≤ a ∧ a ≤ b ∧ b ≤ e ∧ e ≤ 40) ∧ RO s (-1002) r h2) ∨ ((0 ≤ k ∧ k < 3) ∧ (1 ≤ a ∧ a ≤ b ∧ b ≤ e ∧ e ≤ 40) ∧ UPDM (ab_s s 50 (ab_u (ab_u (ab_u (s 50) (3 * k) a) (3 * k + 1) b) (3 * k + 2) e)) (s 50 (3 * k + 1)) r h2)) := by
  refine ab_mk RX10 false rfl pn_X10_setSpace (fun z => by cases z) (Nat.le_of_ble_eq_true rfl) (fun V hV => ?_)
  show V 0 [some (.inr (some 49)), some (.inl k), some (.inl a), some (.inl b), some (.inl e), none] [] (WW s) 0 0
  obtain ⟨hp, hbw, hv, hms0, hz0, hx3, hx4⟩ := id hx
  have hn : 0 ≤ s 120 0 ∧ s 120 0 ≤ 60 := hp.1
  have hnl : 0 ≤ s 125 0 ∧ s 125 0 ≤ s 120 0 := hv.1
  have hb := BWq_BS hp hbw
  have hsw := (MST_b hms0).1
  have hln := (MST_b hms0).2
  refine rb_iload_n hV dX10_setSpace_0 rfl rfl ?_
  refine rb_iconst hV dX10_setSpace_1 ?_
  refine rb_iconst hV dX10_setSpace_2 ?_
  refine rb_callS hV (rest := []) dX10_setSpace_3 (c_X10_in s k 0 2 (by unfold ab_r at *; omega) (by unfold ab_r at *; omega) (by unfold ab_r at *; omega)) lk_X10_69 rfl rfl ⟨rfl, rfl, (Nat.le_of_ble_eq_true rfl), (Nat.le_of_ble_eq_true rfl), (Nat.le_of_ble_eq_true rfl), (Nat.le_of_ble_eq_true rfl)⟩ (Nat.le_of_ble_eq_true rfl) (fun r9 h9 p9 => ?_)
  obtain ⟨rfl, rfl⟩ := p9
  show V 6 [some (.inr (some 49)), some (.inl k), some (.inl a), some (.inl b), some (.inl e), none] [.inl (if 0 ≤ k ∧ k ≤ 2 then 1 else 0)] (WW s) 0 0
  by_cases e3 : 0 ≤ k ∧ k ≤ 2
  · rw [if_pos e3]
    show V 6 [some (.inr (some 49)), some (.inl k), some (.inl a), some (.inl b), some (.inl e), none] [.inl 1] (WW s) 0 0
    refine rb_if_ne hV (tgt := 13) dX10_setSpace_6 (by decide) (by unfold ab_r at *; omega) (fun _ => ?_) (fun z => absurd z (by decide))
    refine rb_iload_n hV dX10_setSpace_13 rfl rfl ?_
    refine rb_iconst hV dX10_setSpace_14 ?_
    refine rb_bipush hV dX10_setSpace_15 (by decide) ?_
    refine rb_callS hV (rest := []) dX10_setSpace_17 (c_X10_in s a 1 40 (by unfold ab_r at *; omega) (by unfold ab_r at *; omega) (by unfold ab_r at *; omega)) lk_X10_69 rfl rfl ⟨rfl, rfl, (Nat.le_of_ble_eq_true rfl), (Nat.le_of_ble_eq_true rfl), (Nat.le_of_ble_eq_true rfl), (Nat.le_of_ble_eq_true rfl)⟩ (Nat.le_of_ble_eq_true rfl) (fun r9 h9 p9 => ?_)
    obtain ⟨rfl, rfl⟩ := p9
    show V 20 [some (.inr (some 49)), some (.inl k), some (.inl a), some (.inl b), some (.inl e), none] [.inl (if 1 ≤ a ∧ a ≤ 40 then 1 else 0)] (WW s) 0 0
    by_cases e17 : 1 ≤ a ∧ a ≤ 40
    · rw [if_pos e17]
      show V 20 [some (.inr (some 49)), some (.inl k), some (.inl a), some (.inl b), some (.inl e), none] [.inl 1] (WW s) 0 0
      refine rb_if_eq hV (tgt := 44) dX10_setSpace_20 (by decide) (by unfold ab_r at *; omega) (fun z => absurd z (by decide)) (fun _ => ?_)
      refine rb_iload_n hV dX10_setSpace_23 rfl rfl ?_
      refine rb_iload_n hV dX10_setSpace_24 rfl rfl ?_
      refine rb_bipush hV dX10_setSpace_25 (by decide) ?_
      refine rb_callS hV (rest := []) dX10_setSpace_27 (c_X10_in s b a 40 (by unfold ab_r at *; omega) (by unfold ab_r at *; omega) (by unfold ab_r at *; omega)) lk_X10_69 rfl rfl ⟨rfl, rfl, (Nat.le_of_ble_eq_true rfl), (Nat.le_of_ble_eq_true rfl), (Nat.le_of_ble_eq_true rfl), (Nat.le_of_ble_eq_true rfl)⟩ (Nat.le_of_ble_eq_true rfl) (fun r9 h9 p9 => ?_)
      obtain ⟨rfl, rfl⟩ := p9
      show V 30 [some (.inr (some 49)), some (.inl k), some (.inl a), some (.inl b), some (.inl e), none] [.inl (if a ≤ b ∧ b ≤ 40 then 1 else 0)] (WW s) 0 0
      by_cases e27 : a ≤ b ∧ b ≤ 40
      · rw [if_pos e27]
        show V 30 [some (.inr (some 49)), some (.inl k), some (.inl a), some (.inl b), some (.inl e), none] [.inl 1] (WW s) 0 0
        refine rb_if_eq hV (tgt := 44) dX10_setSpace_30 (by decide) (by unfold ab_r at *; omega) (fun z => absurd z (by decide)) (fun _ => ?_)
        refine rb_iload hV dX10_setSpace_33 rfl ?_
        refine rb_iload_n hV dX10_setSpace_35 rfl rfl ?_
        refine rb_bipush hV dX10_setSpace_36 (by decide) ?_
        refine rb_callS hV (rest := []) dX10_setSpace_38 (c_X10_in s e b 40 (by unfold ab_r at *; omega) (by unfold ab_r at *; omega) (by unfold ab_r at *; omega)) lk_X10_69 rfl rfl ⟨rfl, rfl, (Nat.le_of_ble_eq_true rfl), (Nat.le_of_ble_eq_true rfl), (Nat.le_of_ble_eq_true rfl), (Nat.le_of_ble_eq_true rfl)⟩ (Nat.le_of_ble_eq_true rfl) (fun r9 h9 p9 => ?_)
        obtain ⟨rfl, rfl⟩ := p9
        show V 41 [some (.inr (some 49)), some (.inl k), some (.inl a), some (.inl b), some (.inl e), none] [.inl (if b ≤ e ∧ e ≤ 40 then 1 else 0)] (WW s) 0 0
        by_cases e38 : b ≤ e ∧ e ≤ 40
        · rw [if_pos e38]
          show V 41 [some (.inr (some 49)), some (.inl k), some (.inl a), some (.inl b), some (.inl e), none] [.inl 1] (WW s) 0 0
          refine rb_if_ne hV (tgt := 48) dX10_setSpace_41 (by decide) (by unfold ab_r at *; omega) (fun _ => ?_) (fun z => absurd z (by decide))
          have hm9 : 1 ≤ a ∧ a ≤ b ∧ b ≤ e ∧ e ≤ 40 := by omega
          have hxp : MP (ab_s s 50 (ab_u (ab_u (ab_u (s 50) (3 * k) a) (3 * k + 1) b) (3 * k + 2) e)) := by
            have hq := MI_MP hx
            refine ⟨⟨hq.1.1, hq.1.2.1, hq.1.2.2.1, hq.1.2.2.2.1, hq.1.2.2.2.2.1, fun j q1 q2 => ?_⟩, hq.2⟩
            have hj := hq.1.2.2.2.2.2 j q1 q2
            show 1 ≤ ab_u (ab_u (ab_u (s 50) (3 * k) a) (3 * k + 1) b) (3 * k + 2) e (3 * j) ∧ ab_u (ab_u (ab_u (s 50) (3 * k) a) (3 * k + 1) b) (3 * k + 2) e (3 * j) ≤ ab_u (ab_u (ab_u (s 50) (3 * k) a) (3 * k + 1) b) (3 * k + 2) e (3 * j + 1) ∧ ab_u (ab_u (ab_u (s 50) (3 * k) a) (3 * k + 1) b) (3 * k + 2) e (3 * j + 1) ≤ ab_u (ab_u (ab_u (s 50) (3 * k) a) (3 * k + 1) b) (3 * k + 2) e (3 * j + 2) ∧ ab_u (ab_u (ab_u (s 50) (3 * k) a) (3 * k + 1) b) (3 * k + 2) e (3 * j + 2) ≤ 40
            by_cases hjk : j = k
            · rw [hjk, ab_u_eq, ab_u_ne (by omega), ab_u_ne (by omega), ab_u_eq, ab_u_ne (by omega), ab_u_eq]
              exact hm9
            · rw [ab_u_ne (by omega), ab_u_ne (by omega), ab_u_ne (by omega), ab_u_ne (by omega), ab_u_ne (by omega), ab_u_ne (by omega), ab_u_ne (by omega), ab_u_ne (by omega), ab_u_ne (by omega)]
              exact hj
          refine rb_aload_n hV dX10_setSpace_48 rfl rfl ?_
          refine rb_get hV (v := .inr (some 50)) dX10_setSpace_49 ⟨RX10, TX10, 24, rfl, (Nat.le_of_ble_eq_true rfl), lf_X10_19⟩ (gw_49 _) rfl ?_
          refine rb_iconst hV dX10_setSpace_52 ?_
          refine rb_iload_n hV dX10_setSpace_53 rfl rfl ?_
          refine rb_imul hV dX10_setSpace_54 ?_
          refine rb_iconst hV dX10_setSpace_55 ?_
          refine rb_iadd hV dX10_setSpace_56 ?_
          refine rb_iald hV (f := (s 50)) dX10_setSpace_57 (gw_50 _) (Nat.le_of_ble_eq_true rfl) (by omega) ?_
          refine rb_istore hV (L2 := [some (.inr (some 49)), some (.inl k), some (.inl a), some (.inl b), some (.inl e), some (.inl (s 50 ((3 * k) + 1)))]) dX10_setSpace_58 (Nat.le_of_ble_eq_true rfl) rfl ?_
          refine rb_aload_n hV dX10_setSpace_60 rfl rfl ?_
          refine rb_get hV (v := .inr (some 50)) dX10_setSpace_61 ⟨RX10, TX10, 24, rfl, (Nat.le_of_ble_eq_true rfl), lf_X10_19⟩ (gw_49 _) rfl ?_
          refine rb_iconst hV dX10_setSpace_64 ?_
          refine rb_iload_n hV dX10_setSpace_65 rfl rfl ?_
          refine rb_imul hV dX10_setSpace_66 ?_
          refine rb_iload_n hV dX10_setSpace_67 rfl rfl ?_
          refine rb_iast hV (f := (s 50)) dX10_setSpace_68 (gw_50 _) (Nat.le_of_ble_eq_true rfl) (by omega) rfl (pw_50 _ _) ?_
          refine rb_aload_n hV dX10_setSpace_69 rfl rfl ?_
          refine rb_get hV (v := .inr (some 50)) dX10_setSpace_70 ⟨RX10, TX10, 24, rfl, (Nat.le_of_ble_eq_true rfl), lf_X10_19⟩ (gw_49 _) rfl ?_
          refine rb_iconst hV dX10_setSpace_73 ?_
          refine rb_iload_n hV dX10_setSpace_74 rfl rfl ?_
          refine rb_imul hV dX10_setSpace_75 ?_
          refine rb_iconst hV dX10_setSpace_76 ?_
          refine rb_iadd hV dX10_setSpace_77 ?_
          refine rb_iload_n hV dX10_setSpace_78 rfl rfl ?_
          refine rb_iast hV (f := (ab_u (s 50) (3 * k) a)) dX10_setSpace_79 (gw_50 _) (Nat.le_of_ble_eq_true rfl) (by omega) rfl ((pw_50 _ _).trans (congrArg WW (ab_s_same _ 50 _ _))) ?_
          refine rb_aload_n hV dX10_setSpace_80 rfl rfl ?_
          refine rb_get hV (v := .inr (some 50)) dX10_setSpace_81 ⟨RX10, TX10, 24, rfl, (Nat.le_of_ble_eq_true rfl), lf_X10_19⟩ (gw_49 _) rfl ?_
          refine rb_iconst hV dX10_setSpace_84 ?_
          refine rb_iload_n hV dX10_setSpace_85 rfl rfl ?_
          refine rb_imul hV dX10_setSpace_86 ?_
          refine rb_iconst hV dX10_setSpace_87 ?_
          refine rb_iadd hV dX10_setSpace_88 ?_
          refine rb_iload hV dX10_setSpace_89 rfl ?_
          refine rb_iast hV (f := (ab_u (ab_u (s 50) (3 * k) a) ((3 * k) + 1) b)) dX10_setSpace_91 (gw_50 _) (Nat.le_of_ble_eq_true rfl) (by omega) rfl ((pw_50 _ _).trans (congrArg WW (ab_s_same _ 50 _ _))) ?_
          refine rb_aload_n hV dX10_setSpace_92 rfl rfl ?_
          refine rb_callV hV (rest := []) dX10_setSpace_93 (c_X10_layAnew (ab_s s 50 (ab_u (ab_u (ab_u (s 50) (3 * k) a) ((3 * k) + 1) b) ((3 * k) + 2) e)) hxp) lk_X10_66 rfl (Or.inl ⟨9, _, TX10, 24, gw_49 _, rfl⟩) rfl ⟨rfl, rfl, (Nat.le_of_ble_eq_true rfl), (Nat.le_of_ble_eq_true rfl), (Nat.le_of_ble_eq_true rfl), (Nat.le_of_ble_eq_true rfl)⟩ (Nat.le_of_ble_eq_true rfl) (fun r9 h9 p9 => ?_)
          obtain ⟨s2, rfl, rfl, hmi, hbest, hkeep⟩ := p9
          show V 96 [some (.inr (some 49)), some (.inl k), some (.inl a), some (.inl b), some (.inl e), some (.inl (s 50 ((3 * k) + 1)))] [] (WW s2) 0 0
          refine rb_iload hV dX10_setSpace_96 rfl ?_
          refine rb_ret hV (r := some (.inl (s 50 ((3 * k) + 1)))) dX10_setSpace_98 rfl ⟨(Nat.le_of_ble_eq_true rfl), (Nat.le_of_ble_eq_true rfl)⟩ trivial ?_
          exact Or.inr (Or.inr ⟨by omega, hm9, s2, rfl, rfl, hmi, hbest, hkeep⟩)
        · rw [if_neg e38]
          show V 41 [some (.inr (some 49)), some (.inl k), some (.inl a), some (.inl b), some (.inl e), none] [.inl 0] (WW s) 0 0
          refine rb_if_ne hV (tgt := 48) dX10_setSpace_41 (by decide) (by unfold ab_r at *; omega) (fun z => absurd z (by decide)) (fun _ => ?_)
          refine rb_sipush hV dX10_setSpace_44 (by decide) ?_
          refine rb_ret hV (r := some (.inl (-1002))) dX10_setSpace_47 rfl ⟨(Nat.le_of_ble_eq_true rfl), (Nat.le_of_ble_eq_true rfl)⟩ trivial ?_
          exact Or.inr (Or.inl ⟨by omega, by omega, rfl, rfl⟩)
      · rw [if_neg e27]
        show V 30 [some (.inr (some 49)), some (.inl k), some (.inl a), some (.inl b), some (.inl e), none] [.inl 0] (WW s) 0 0
        refine rb_if_eq hV (tgt := 44) dX10_setSpace_30 (by decide) (by unfold ab_r at *; omega) (fun _ => ?_) (fun z => absurd z (by decide))
        refine rb_sipush hV dX10_setSpace_44 (by decide) ?_
        refine rb_ret hV (r := some (.inl (-1002))) dX10_setSpace_47 rfl ⟨(Nat.le_of_ble_eq_true rfl), (Nat.le_of_ble_eq_true rfl)⟩ trivial ?_
        exact Or.inr (Or.inl ⟨by omega, by omega, rfl, rfl⟩)
    · rw [if_neg e17]
      show V 20 [some (.inr (some 49)), some (.inl k), some (.inl a), some (.inl b), some (.inl e), none] [.inl 0] (WW s) 0 0
      refine rb_if_eq hV (tgt := 44) dX10_setSpace_20 (by decide) (by unfold ab_r at *; omega) (fun _ => ?_) (fun z => absurd z (by decide))
      refine rb_sipush hV dX10_setSpace_44 (by decide) ?_
      refine rb_ret hV (r := some (.inl (-1002))) dX10_setSpace_47 rfl ⟨(Nat.le_of_ble_eq_true rfl), (Nat.le_of_ble_eq_true rfl)⟩ trivial ?_
      exact Or.inr (Or.inl ⟨by omega, by omega, rfl, rfl⟩)
  · rw [if_neg e3]
    show V 6 [some (.inr (some 49)), some (.inl k), some (.inl a), some (.inl b), some (.inl e), none] [.inl 0] (WW s) 0 0
    refine rb_if_ne hV (tgt := 13) dX10_setSpace_6 (by decide) (by unfold ab_r at *; omega) (fun z => absurd z (by decide)) (fun _ => ?_)
    refine rb_sipush hV dX10_setSpace_9 (by decide) ?_
    refine rb_ret hV (r := some (.inl (-1001))) dX10_setSpace_12 rfl ⟨(Nat.le_of_ble_eq_true rfl), (Nat.le_of_ble_eq_true rfl)⟩ trivial ?_
    exact Or.inl ⟨by omega, rfl, rfl⟩

set_option maxRecDepth 20000 in
theorem c_X10_type (s : Nat → Int → Int) (z : Int) (hzz : 0 ≤ z ∧ z < 65536) (hx : MI s) : ab_Mt yX10_type cX10_type 2 (some .int) ({ frames := 0, cells := 0, slots := 0, locals := 0 } : Room) false 0 0 [.inr (some 49), .inl z] (WW s) (fun r h2 => (¬ s 121 0 < 120 ∧ RO s (-1003) r h2) ∨ (s 121 0 < 120 ∧ r = some (.inl (s 121 0 + 1)) ∧ h2 = WW (TYM s z) ∧ MI (TYM s z))) := by
  refine ab_mk RX10 false rfl pn_X10_type (fun z => by cases z) (Nat.le_of_ble_eq_true rfl) (fun V hV => ?_)
  show V 0 [some (.inr (some 49)), some (.inl z)] [] (WW s) 0 0
  obtain ⟨hp, hbw, hv, hms0, hz0, hx3, hx4⟩ := id hx
  have hn : 0 ≤ s 120 0 ∧ s 120 0 ≤ 60 := hp.1
  have hnl : 0 ≤ s 125 0 ∧ s 125 0 ≤ s 120 0 := hv.1
  have hb := BWq_BS hp hbw
  have hsw := (MST_b hms0).1
  have hln := (MST_b hms0).2
  refine rb_aload_n hV dX10_type_0 rfl rfl ?_
  refine rb_get hV (v := .inl (s 121 0)) dX10_type_1 ⟨RX10, TX10, 24, rfl, (Nat.le_of_ble_eq_true rfl), lf_X10_83⟩ (gw_49 _) rfl ?_
  refine rb_bipush hV dX10_type_4 (by decide) ?_
  refine rb_icmp_ne hV (tgt := 13) dX10_type_6 (by decide) ⟨(by unfold ab_r at *; omega), (by unfold ab_r at *; omega)⟩ (fun c6 => ?_) (fun c6 => ?_)
  · refine rb_aload_n hV dX10_type_13 rfl rfl ?_
    refine rb_get hV (v := .inr (some 56)) dX10_type_14 ⟨RX10, TX10, 24, rfl, (Nat.le_of_ble_eq_true rfl), lf_X10_38⟩ (gw_49 _) rfl ?_
    refine rb_aload_n hV dX10_type_17 rfl rfl ?_
    refine rb_get hV (v := .inl (s 121 0)) dX10_type_18 ⟨RX10, TX10, 24, rfl, (Nat.le_of_ble_eq_true rfl), lf_X10_83⟩ (gw_49 _) rfl ?_
    refine rb_iload_n hV dX10_type_21 rfl rfl ?_
    refine rb_cast hV (f := (s 56)) dX10_type_22 (gw_56 _) (Nat.le_of_ble_eq_true rfl) (by omega) (by omega) rfl (pw_56 _ _) ?_
    refine rb_aload_n hV dX10_type_23 rfl rfl ?_
    refine rb_dup hV dX10_type_24 ?_
    refine rb_get hV (v := .inl (s 121 0)) dX10_type_25 ⟨RX10, TX10, 24, rfl, (Nat.le_of_ble_eq_true rfl), lf_X10_83⟩ (gw_49 _) rfl ?_
    refine rb_iconst hV dX10_type_28 ?_
    refine rb_iadd hV dX10_type_29 ?_
    refine rb_put hV (C := RX10) (T := TX10) (N := 24) (ci := 9) (j := 10) dX10_type_30 rfl (Nat.le_of_ble_eq_true rfl) lf_X10_83 rfl (gw_49 _) (Nat.le_of_ble_eq_true rfl) (ft_X10_10 _) (pw_49_10 _ _) ?_
    refine rb_aload_n hV dX10_type_33 rfl rfl ?_
    refine rb_get hV (v := .inl ((s 121 0) + 1)) dX10_type_34 ⟨RX10, TX10, 24, rfl, (Nat.le_of_ble_eq_true rfl), lf_X10_83⟩ (gw_49 _) rfl ?_
    refine rb_ret hV (r := some (.inl ((s 121 0) + 1))) dX10_type_37 rfl ⟨(Nat.le_of_ble_eq_true rfl), (Nat.le_of_ble_eq_true rfl)⟩ trivial ?_
    exact Or.inr ⟨by omega, rfl, rfl, MI_tx hx (ab_u_r hx4 hzz) (by show 0 ≤ s 121 0 + 1 ∧ s 121 0 + 1 ≤ 120; omega)⟩
  · refine rb_sipush hV dX10_type_9 (by decide) ?_
    refine rb_ret hV (r := some (.inl (-1003))) dX10_type_12 rfl ⟨(Nat.le_of_ble_eq_true rfl), (Nat.le_of_ble_eq_true rfl)⟩ trivial ?_
    exact Or.inl ⟨by omega, rfl, rfl⟩

set_option maxRecDepth 20000 in
theorem c_X10_clearText (s : Nat → Int → Int) (hx : MI s) : ab_Mt yX10_clearText cX10_clearText 2 (some .int) ({ frames := 0, cells := 0, slots := 0, locals := 0 } : Room) false 0 0 [.inr (some 49)] (WW s) (fun r h2 => r = some (.inl (s 121 0)) ∧ h2 = WW (ab_s s 121 (fun _ => 0)) ∧ MI (ab_s s 121 (fun _ => 0))) := by
  refine ab_mk RX10 false rfl pn_X10_clearText (fun z => by cases z) (Nat.le_of_ble_eq_true rfl) (fun V hV => ?_)
  show V 0 [some (.inr (some 49)), none] [] (WW s) 0 0
  obtain ⟨hp, hbw, hv, hms0, hz0, hx3, hx4⟩ := id hx
  have hn : 0 ≤ s 120 0 ∧ s 120 0 ≤ 60 := hp.1
  have hnl : 0 ≤ s 125 0 ∧ s 125 0 ≤ s 120 0 := hv.1
  have hb := BWq_BS hp hbw
  have hsw := (MST_b hms0).1
  have hln := (MST_b hms0).2
  refine rb_aload_n hV dX10_clearText_0 rfl rfl ?_
  refine rb_get hV (v := .inl (s 121 0)) dX10_clearText_1 ⟨RX10, TX10, 24, rfl, (Nat.le_of_ble_eq_true rfl), lf_X10_83⟩ (gw_49 _) rfl ?_
  refine rb_istore_n hV (L2 := [some (.inr (some 49)), some (.inl (s 121 0))]) dX10_clearText_4 rfl (Nat.le_of_ble_eq_true rfl) rfl ?_
  refine rb_aload_n hV dX10_clearText_5 rfl rfl ?_
  refine rb_iconst hV dX10_clearText_6 ?_
  refine rb_put hV (C := RX10) (T := TX10) (N := 24) (ci := 9) (j := 10) dX10_clearText_7 rfl (Nat.le_of_ble_eq_true rfl) lf_X10_83 rfl (gw_49 _) (Nat.le_of_ble_eq_true rfl) (ft_X10_10 _) (pw_49_10 _ _) ?_
  refine rb_iload_n hV dX10_clearText_10 rfl rfl ?_
  refine rb_ret hV (r := some (.inl (s 121 0))) dX10_clearText_11 rfl ⟨(Nat.le_of_ble_eq_true rfl), (Nat.le_of_ble_eq_true rfl)⟩ trivial ?_
  exact ⟨rfl, rfl, MI_t0 hx (by decide)⟩

def TKc (d : Nat → Int → Int) (t : Int → Int) (k W : Int) (wd sz kd lm rm : Int → Int) : Prop := W = tk d t k.toNat 0 0 ∧ wd = tk d t k.toNat 1 ∧ sz = tk d t k.toNat 2 ∧ kd = tk d t k.toNat 3 ∧ lm = tk d t k.toNat 4 ∧ rm = tk d t k.toNat 5
theorem TK_b {d : Nat → Int → Int} {t : Int → Int} {k W : Int} {wd sz kd lm rm : Int → Int} (h0 : 0 ≤ k) (h : TKc d t k W wd sz kd lm rm) (ht : t k = 32) : TKc d t (k + 1) W wd sz kd lm rm ∧ tk d t (k + 1).toNat 20 0 = 0 := by
  obtain ⟨rfl, rfl, rfl, rfl, rfl, rfl⟩ := h
  unfold TKc
  rw [tk_S d t h0, tkS_b ht]
  exact ⟨⟨rfl, rfl, rfl, rfl, rfl, rfl⟩, rfl⟩
theorem tk_wd {d : Nat → Int → Int} {t : Int → Int} {a : Int} (h0 : 0 ≤ a) (hz : tk d t a.toNat 20 0 = 0) : ∀ m : Nat, (∀ j, a ≤ j → j ≤ a + m → ¬ t j = 32) →
    (tk d t (a + m + 1).toNat 0 0 = tk d t a.toNat 0 0 + 1 ∧ tk d t (a + m + 1).toNat 1 = ab_u (tk d t a.toNat 1) (tk d t a.toNat 0 0) (Sm (fun q => sgW (t q)) a (a + m + 1)) ∧ tk d t (a + m + 1).toNat 2 = ab_u (tk d t a.toNat 2) (tk d t a.toNat 0 0) (a + m + 1 - a) ∧ tk d t (a + m + 1).toNat 3 = ab_u (tk d t a.toNat 3) (tk d t a.toNat 0 0) (sgK (t (a + m + 1 - 1))) ∧ tk d t (a + m + 1).toNat 4 = ab_u (tk d t a.toNat 4) (tk d t a.toNat 0 0) (sgL (t a)) ∧ tk d t (a + m + 1).toNat 5 = ab_u (tk d t a.toNat 5) (tk d t a.toNat 0 0) (sgR (t (a + m + 1 - 1)))) ∧ tk d t (a + m + 1).toNat 20 0 = 1
  | 0, hn => by
    have h1 := hn a (Int.le_refl a) (by omega)
    rw [show a + ((0 : Nat) : Int) + 1 = a + 1 by omega, tk_S d t h0, tkS_o h1 hz, show a + 1 - 1 = a by omega, show a + 1 - a = 1 by omega, Sm_succ _ (Int.le_refl a), Sm_self]
    generalize tk d t a.toNat = q
    refine ⟨⟨rfl, ?_, ?_, ?_, rfl, ?_⟩, rfl⟩
    · show ab_u (ab_u (q 1) (q 0 0) 0) (q 0 0 + 1 - 1) (ab_u (q 1) (q 0 0) 0 (q 0 0 + 1 - 1) + sgW (t a)) = _
      rw [show q 0 0 + 1 - 1 = q 0 0 by omega, ab_u_u, ab_u_eq]
    · show ab_u (ab_u (q 2) (q 0 0) 0) (q 0 0 + 1 - 1) (ab_u (q 2) (q 0 0) 0 (q 0 0 + 1 - 1) + 1) = _
      rw [show q 0 0 + 1 - 1 = q 0 0 by omega, ab_u_u, ab_u_eq]
      rfl
    · show ab_u (q 3) (q 0 0 + 1 - 1) (sgK (t a)) = _
      rw [show q 0 0 + 1 - 1 = q 0 0 by omega]
    · show ab_u (q 5) (q 0 0 + 1 - 1) (sgR (t a)) = _
      rw [show q 0 0 + 1 - 1 = q 0 0 by omega]
  | m + 1, hn => by
    obtain ⟨⟨i1, i2, i3, i4, i5, i6⟩, i7⟩ := tk_wd h0 hz m (fun j q1 q2 => hn j q1 (by omega))
    have h1 := hn (a + m + 1) (by omega) (by omega)
    rw [show a + ((m + 1 : Nat) : Int) + 1 = a + m + 1 + 1 by omega, tk_S d t (k := a + m + 1) (by omega), tkS_l h1 (by omega), show a + (m : Int) + 1 + 1 - 1 = a + m + 1 by omega, Sm_succ _ (show a ≤ a + (m : Int) + 1 by omega)]
    generalize tk d t (a + m + 1).toNat = p at i1 i2 i3 i4 i5 i6 i7 ⊢
    generalize tk d t a.toNat = q at i1 i2 i3 i4 i5 i6 ⊢
    have e : p 0 0 - 1 = q 0 0 := by omega
    refine ⟨⟨i1, ?_, ?_, ?_, i5, ?_⟩, rfl⟩
    · show ab_u (p 1) (p 0 0 - 1) (p 1 (p 0 0 - 1) + sgW (t (a + m + 1))) = _
      rw [e, i2, ab_u_u, ab_u_eq]
    · show ab_u (p 2) (p 0 0 - 1) (p 2 (p 0 0 - 1) + 1) = _
      rw [e, i3, ab_u_u, ab_u_eq, show a + (m : Int) + 1 - a + 1 = a + m + 1 + 1 - a by omega]
    · show ab_u (p 3) (p 0 0 - 1) (sgK (t (a + m + 1))) = _
      rw [e, i4, ab_u_u]
    · show ab_u (p 5) (p 0 0 - 1) (sgR (t (a + m + 1))) = _
      rw [e, i6, ab_u_u]
theorem TK_w {d : Nat → Int → Int} {t : Int → Int} {a b W : Int} {wd sz kd lm rm : Int → Int} (h0 : 0 ≤ a) (hab : a < b) (h : TKc d t a W wd sz kd lm rm) (hz : tk d t a.toNat 20 0 = 0) (hn : ∀ j, a ≤ j → j < b → ¬ t j = 32) :
    TKc d t b (W + 1) (ab_u wd W (Sm (fun q => sgW (t q)) a b)) (ab_u sz W (b - a)) (ab_u kd W (sgK (t (b - 1)))) (ab_u lm W (sgL (t a))) (ab_u rm W (sgR (t (b - 1)))) := by
  obtain ⟨rfl, rfl, rfl, rfl, rfl, rfl⟩ := h
  have := (tk_wd h0 hz (b - a - 1).toNat (fun j q1 q2 => hn j q1 (by omega))).1
  rw [show a + ((b - a - 1).toNat : Int) + 1 = b by omega] at this
  obtain ⟨i1, i2, i3, i4, i5, i6⟩ := this
  exact ⟨i1.symm, i2.symm, i3.symm, i4.symm, i5.symm, i6.symm⟩

set_option maxRecDepth 20000 in
theorem c_X10_addWord (s : Nat → Int → Int) (a b : Int) (hab : 0 ≤ a ∧ a < b ∧ b ≤ 120) (hW : 0 ≤ s 120 0 ∧ s 120 0 < 60) (ht : ∀ v, 0 ≤ s 56 v ∧ s 56 v < 65536) (hok : ∀ v, a ≤ v → v < b → ¬ sgW (s 56 v) = 0) : ab_Mt yX10_addWord cX10_addWord 6 none ({ frames := 2, cells := 0, slots := 0, locals := 42 } : Room) false 0 0 [.inr (some 49), .inl a, .inl b] (WW s) (fun r h2 => r = none ∧ h2 = WW (ab_s (ab_s (ab_s (ab_s (ab_s (ab_s s 51 (ab_u (s 51) (s 120 0) (Sm (fun q => sgW (s 56 q)) a b))) 52 (ab_u (s 52) (s 120 0) (b - a))) 53 (ab_u (s 53) (s 120 0) (sgK (s 56 (b - 1))))) 54 (ab_u (s 54) (s 120 0) (sgL (s 56 a)))) 55 (ab_u (s 55) (s 120 0) (sgR (s 56 (b - 1))))) 120 (fun _ => (s 120 0) + 1))) := by
  refine ab_mk RX10 false rfl pn_X10_addWord (fun z => by cases z) (Nat.le_of_ble_eq_true rfl) (fun V hV => ?_)
  show V 0 [some (.inr (some 49)), some (.inl a), some (.inl b), none, none, none] [] (WW s) 0 0
  refine rb_iconst hV dX10_addWord_0 ?_
  refine rb_istore_n hV (L2 := [some (.inr (some 49)), some (.inl a), some (.inl b), some (.inl 0), none, none]) dX10_addWord_1 rfl (Nat.le_of_ble_eq_true rfl) rfl ?_
  refine rb_iload_n hV dX10_addWord_2 rfl rfl ?_
  refine rb_istore hV (L2 := [some (.inr (some 49)), some (.inl a), some (.inl b), some (.inl 0), some (.inl a), none]) dX10_addWord_3 (Nat.le_of_ble_eq_true rfl) rfl ?_
  have h5 : ∀ (n5 : Nat) (u : Int) (k : Int), (a ≤ k ∧ k ≤ b) → (u = Sm (fun q => sgW (s 56 q)) a k) → ((b - k).toNat) < n5 → V 5 [some (.inr (some 49)), some (.inl a), some (.inl b), some (.inl u), some (.inl k), none] [] (WW s) 0 0 := by
    intro n5
    induction n5 with
    | zero => intro u k h1 h2 hm; omega
    | succ n5 ih5 =>
      intro u k h1 h2 hm
      refine rb_iload hV dX10_addWord_5 rfl ?_
      refine rb_iload_n hV dX10_addWord_7 rfl rfl ?_
      refine rb_icmp_ge hV (tgt := 30) dX10_addWord_8 (by decide) ⟨(by unfold ab_r at *; omega), (by unfold ab_r at *; omega)⟩ (fun c8 => ?_) (fun c8 => ?_)
      · have hta := ht a
        have htb := ht (b - 1)
        refine rb_aload_n hV dX10_addWord_30 rfl rfl ?_
        refine rb_get hV (v := .inr (some 56)) dX10_addWord_31 ⟨RX10, TX10, 24, rfl, (Nat.le_of_ble_eq_true rfl), lf_X10_38⟩ (gw_49 _) rfl ?_
        refine rb_iload_n hV dX10_addWord_34 rfl rfl ?_
        refine rb_cald hV (f := (s 56)) dX10_addWord_35 (gw_56 _) (Nat.le_of_ble_eq_true rfl) (by omega) ?_
        refine rb_istore hV (L2 := [some (.inr (some 49)), some (.inl a), some (.inl b), some (.inl u), some (.inl (s 56 a)), none]) dX10_addWord_36 (Nat.le_of_ble_eq_true rfl) rfl ?_
        refine rb_aload_n hV dX10_addWord_38 rfl rfl ?_
        refine rb_get hV (v := .inr (some 56)) dX10_addWord_39 ⟨RX10, TX10, 24, rfl, (Nat.le_of_ble_eq_true rfl), lf_X10_38⟩ (gw_49 _) rfl ?_
        refine rb_iload_n hV dX10_addWord_42 rfl rfl ?_
        refine rb_iconst hV dX10_addWord_43 ?_
        refine rb_isub hV dX10_addWord_44 ?_
        refine rb_cald hV (f := (s 56)) dX10_addWord_45 (gw_56 _) (Nat.le_of_ble_eq_true rfl) (by omega) ?_
        refine rb_istore hV (L2 := [some (.inr (some 49)), some (.inl a), some (.inl b), some (.inl u), some (.inl (s 56 a)), some (.inl (s 56 (b - 1)))]) dX10_addWord_46 (Nat.le_of_ble_eq_true rfl) rfl ?_
        refine rb_aload_n hV dX10_addWord_48 rfl rfl ?_
        refine rb_get hV (v := .inr (some 51)) dX10_addWord_49 ⟨RX10, TX10, 24, rfl, (Nat.le_of_ble_eq_true rfl), lf_X10_23⟩ (gw_49 _) rfl ?_
        refine rb_aload_n hV dX10_addWord_52 rfl rfl ?_
        refine rb_get hV (v := .inl (s 120 0)) dX10_addWord_53 ⟨RX10, TX10, 24, rfl, (Nat.le_of_ble_eq_true rfl), lf_X10_90⟩ (gw_49 _) rfl ?_
        refine rb_iload_n hV dX10_addWord_56 rfl rfl ?_
        refine rb_iast hV (f := (s 51)) dX10_addWord_57 (gw_51 _) (Nat.le_of_ble_eq_true rfl) (by omega) rfl (pw_51 _ _) ?_
        refine rb_aload_n hV dX10_addWord_58 rfl rfl ?_
        refine rb_get hV (v := .inr (some 52)) dX10_addWord_59 ⟨RX10, TX10, 24, rfl, (Nat.le_of_ble_eq_true rfl), lf_X10_26⟩ (gw_49 _) rfl ?_
        refine rb_aload_n hV dX10_addWord_62 rfl rfl ?_
        refine rb_get hV (v := .inl (s 120 0)) dX10_addWord_63 ⟨RX10, TX10, 24, rfl, (Nat.le_of_ble_eq_true rfl), lf_X10_90⟩ (gw_49 _) rfl ?_
        refine rb_iload_n hV dX10_addWord_66 rfl rfl ?_
        refine rb_iload_n hV dX10_addWord_67 rfl rfl ?_
        refine rb_isub hV dX10_addWord_68 ?_
        refine rb_iast hV (f := (s 52)) dX10_addWord_69 (gw_52 _) (Nat.le_of_ble_eq_true rfl) (by omega) rfl (pw_52 _ _) ?_
        refine rb_aload_n hV dX10_addWord_70 rfl rfl ?_
        refine rb_get hV (v := .inr (some 53)) dX10_addWord_71 ⟨RX10, TX10, 24, rfl, (Nat.le_of_ble_eq_true rfl), lf_X10_29⟩ (gw_49 _) rfl ?_
        refine rb_aload_n hV dX10_addWord_74 rfl rfl ?_
        refine rb_get hV (v := .inl (s 120 0)) dX10_addWord_75 ⟨RX10, TX10, 24, rfl, (Nat.le_of_ble_eq_true rfl), lf_X10_90⟩ (gw_49 _) rfl ?_
        refine rb_iload hV dX10_addWord_78 rfl ?_
        refine rb_callS hV (rest := [.inl (s 120 0), .inr (some 53)]) dX10_addWord_80 (c_X10_isSentence (ab_s (ab_s s 51 (ab_u (s 51) (s 120 0) u)) 52 (ab_u (s 52) (s 120 0) (b - a))) (s 56 (b - 1)) (ht (b - 1))) lk_X10_73 rfl rfl ⟨rfl, rfl, (Nat.le_of_ble_eq_true rfl), (Nat.le_of_ble_eq_true rfl), (Nat.le_of_ble_eq_true rfl), (Nat.le_of_ble_eq_true rfl)⟩ (Nat.le_of_ble_eq_true rfl) (fun r9 h9 p9 => ?_)
        obtain ⟨rfl, rfl⟩ := p9
        show V 83 [some (.inr (some 49)), some (.inl a), some (.inl b), some (.inl u), some (.inl (s 56 a)), some (.inl (s 56 (b - 1)))] [.inl (if (s 56 (b - 1)) = 46 ∨ (s 56 (b - 1)) = 33 ∨ (s 56 (b - 1)) = 63 then 1 else 0), .inl (s 120 0), .inr (some 53)] (WW (ab_s (ab_s s 51 (ab_u (s 51) (s 120 0) u)) 52 (ab_u (s 52) (s 120 0) (b - a)))) 0 0
        by_cases e80 : (s 56 (b - 1)) = 46 ∨ (s 56 (b - 1)) = 33 ∨ (s 56 (b - 1)) = 63
        · rw [if_pos e80]
          show V 83 [some (.inr (some 49)), some (.inl a), some (.inl b), some (.inl u), some (.inl (s 56 a)), some (.inl (s 56 (b - 1)))] [.inl 1, .inl (s 120 0), .inr (some 53)] (WW (ab_s (ab_s s 51 (ab_u (s 51) (s 120 0) u)) 52 (ab_u (s 52) (s 120 0) (b - a)))) 0 0
          refine rb_if_eq hV (tgt := 90) dX10_addWord_83 (by decide) (by unfold ab_r at *; omega) (fun z => absurd z (by decide)) (fun _ => ?_)
          refine rb_iconst hV dX10_addWord_86 ?_
          refine rb_goto hV (tgt := 103) dX10_addWord_87 (by decide) ?_
          refine rb_iast hV (f := (s 53)) dX10_addWord_103 (gw_53 _) (Nat.le_of_ble_eq_true rfl) (by omega) rfl (pw_53 _ _) ?_
          refine rb_aload_n hV dX10_addWord_104 rfl rfl ?_
          refine rb_get hV (v := .inr (some 54)) dX10_addWord_105 ⟨RX10, TX10, 24, rfl, (Nat.le_of_ble_eq_true rfl), lf_X10_32⟩ (gw_49 _) rfl ?_
          refine rb_aload_n hV dX10_addWord_108 rfl rfl ?_
          refine rb_get hV (v := .inl (s 120 0)) dX10_addWord_109 ⟨RX10, TX10, 24, rfl, (Nat.le_of_ble_eq_true rfl), lf_X10_90⟩ (gw_49 _) rfl ?_
          refine rb_iload hV dX10_addWord_112 rfl ?_
          refine rb_bipush hV dX10_addWord_114 (by decide) ?_
          refine rb_icmp_eq hV (tgt := 133) dX10_addWord_116 (by decide) ⟨(by unfold ab_r at *; omega), (by unfold ab_r at *; omega)⟩ (fun c116 => ?_) (fun c116 => ?_)
          · refine rb_iload hV dX10_addWord_133 rfl ?_
            refine rb_callS hV (rest := [.inl (s 120 0), .inr (some 54)]) dX10_addWord_135 (c_X10_widthOf (ab_s (ab_s (ab_s s 51 (ab_u (s 51) (s 120 0) u)) 52 (ab_u (s 52) (s 120 0) (b - a))) 53 (ab_u (s 53) (s 120 0) 2)) (s 56 a) (ht a)) lk_X10_86 rfl rfl ⟨rfl, rfl, (Nat.le_of_ble_eq_true rfl), (Nat.le_of_ble_eq_true rfl), (Nat.le_of_ble_eq_true rfl), (Nat.le_of_ble_eq_true rfl)⟩ (Nat.le_of_ble_eq_true rfl) (fun r9 h9 p9 => ?_)
            obtain ⟨rfl, rfl⟩ := p9
            show V 138 [some (.inr (some 49)), some (.inl a), some (.inl b), some (.inl u), some (.inl (s 56 a)), some (.inl (s 56 (b - 1)))] [.inl (sgM (s 56 a)), .inl (s 120 0), .inr (some 54)] (WW (ab_s (ab_s (ab_s s 51 (ab_u (s 51) (s 120 0) u)) 52 (ab_u (s 52) (s 120 0) (b - a))) 53 (ab_u (s 53) (s 120 0) 2))) 0 0
            refine rb_goto hV (tgt := 142) dX10_addWord_138 (by decide) ?_
            refine rb_iast hV (f := (s 54)) dX10_addWord_142 (gw_54 _) (Nat.le_of_ble_eq_true rfl) (by omega) rfl (pw_54 _ _) ?_
            refine rb_aload_n hV dX10_addWord_143 rfl rfl ?_
            refine rb_get hV (v := .inr (some 55)) dX10_addWord_144 ⟨RX10, TX10, 24, rfl, (Nat.le_of_ble_eq_true rfl), lf_X10_35⟩ (gw_49 _) rfl ?_
            refine rb_aload_n hV dX10_addWord_147 rfl rfl ?_
            refine rb_get hV (v := .inl (s 120 0)) dX10_addWord_148 ⟨RX10, TX10, 24, rfl, (Nat.le_of_ble_eq_true rfl), lf_X10_90⟩ (gw_49 _) rfl ?_
            refine rb_iload hV dX10_addWord_151 rfl ?_
            refine rb_callS hV (rest := [.inl (s 120 0), .inr (some 55)]) dX10_addWord_153 (c_X10_isMark (ab_s (ab_s (ab_s (ab_s s 51 (ab_u (s 51) (s 120 0) u)) 52 (ab_u (s 52) (s 120 0) (b - a))) 53 (ab_u (s 53) (s 120 0) 2)) 54 (ab_u (s 54) (s 120 0) (sgM (s 56 a)))) (s 56 (b - 1)) (ht (b - 1))) lk_X10_80 rfl rfl ⟨rfl, rfl, (Nat.le_of_ble_eq_true rfl), (Nat.le_of_ble_eq_true rfl), (Nat.le_of_ble_eq_true rfl), (Nat.le_of_ble_eq_true rfl)⟩ (Nat.le_of_ble_eq_true rfl) (fun r9 h9 p9 => ?_)
            obtain ⟨rfl, rfl⟩ := p9
            show V 156 [some (.inr (some 49)), some (.inl a), some (.inl b), some (.inl u), some (.inl (s 56 a)), some (.inl (s 56 (b - 1)))] [.inl (if (s 56 (b - 1)) = 46 ∨ (s 56 (b - 1)) = 33 ∨ (s 56 (b - 1)) = 63 ∨ (s 56 (b - 1)) = 44 ∨ (s 56 (b - 1)) = 59 ∨ (s 56 (b - 1)) = 58 ∨ (s 56 (b - 1)) = 45 ∨ (s 56 (b - 1)) = 39 ∨ (s 56 (b - 1)) = 34 then 1 else 0), .inl (s 120 0), .inr (some 55)] (WW (ab_s (ab_s (ab_s (ab_s s 51 (ab_u (s 51) (s 120 0) u)) 52 (ab_u (s 52) (s 120 0) (b - a))) 53 (ab_u (s 53) (s 120 0) 2)) 54 (ab_u (s 54) (s 120 0) (sgM (s 56 a))))) 0 0
            by_cases e153 : (s 56 (b - 1)) = 46 ∨ (s 56 (b - 1)) = 33 ∨ (s 56 (b - 1)) = 63 ∨ (s 56 (b - 1)) = 44 ∨ (s 56 (b - 1)) = 59 ∨ (s 56 (b - 1)) = 58 ∨ (s 56 (b - 1)) = 45 ∨ (s 56 (b - 1)) = 39 ∨ (s 56 (b - 1)) = 34
            · rw [if_pos e153]
              show V 156 [some (.inr (some 49)), some (.inl a), some (.inl b), some (.inl u), some (.inl (s 56 a)), some (.inl (s 56 (b - 1)))] [.inl 1, .inl (s 120 0), .inr (some 55)] (WW (ab_s (ab_s (ab_s (ab_s s 51 (ab_u (s 51) (s 120 0) u)) 52 (ab_u (s 52) (s 120 0) (b - a))) 53 (ab_u (s 53) (s 120 0) 2)) 54 (ab_u (s 54) (s 120 0) (sgM (s 56 a))))) 0 0
              refine rb_if_eq hV (tgt := 167) dX10_addWord_156 (by decide) (by unfold ab_r at *; omega) (fun z => absurd z (by decide)) (fun _ => ?_)
              refine rb_iload hV dX10_addWord_159 rfl ?_
              refine rb_callS hV (rest := [.inl (s 120 0), .inr (some 55)]) dX10_addWord_161 (c_X10_widthOf (ab_s (ab_s (ab_s (ab_s s 51 (ab_u (s 51) (s 120 0) u)) 52 (ab_u (s 52) (s 120 0) (b - a))) 53 (ab_u (s 53) (s 120 0) 2)) 54 (ab_u (s 54) (s 120 0) (sgM (s 56 a)))) (s 56 (b - 1)) (ht (b - 1))) lk_X10_86 rfl rfl ⟨rfl, rfl, (Nat.le_of_ble_eq_true rfl), (Nat.le_of_ble_eq_true rfl), (Nat.le_of_ble_eq_true rfl), (Nat.le_of_ble_eq_true rfl)⟩ (Nat.le_of_ble_eq_true rfl) (fun r9 h9 p9 => ?_)
              obtain ⟨rfl, rfl⟩ := p9
              show V 164 [some (.inr (some 49)), some (.inl a), some (.inl b), some (.inl u), some (.inl (s 56 a)), some (.inl (s 56 (b - 1)))] [.inl (sgM (s 56 (b - 1))), .inl (s 120 0), .inr (some 55)] (WW (ab_s (ab_s (ab_s (ab_s s 51 (ab_u (s 51) (s 120 0) u)) 52 (ab_u (s 52) (s 120 0) (b - a))) 53 (ab_u (s 53) (s 120 0) 2)) 54 (ab_u (s 54) (s 120 0) (sgM (s 56 a))))) 0 0
              refine rb_goto hV (tgt := 168) dX10_addWord_164 (by decide) ?_
              refine rb_iast hV (f := (s 55)) dX10_addWord_168 (gw_55 _) (Nat.le_of_ble_eq_true rfl) (by omega) rfl (pw_55 _ _) ?_
              refine rb_aload_n hV dX10_addWord_169 rfl rfl ?_
              refine rb_dup hV dX10_addWord_170 ?_
              refine rb_get hV (v := .inl (s 120 0)) dX10_addWord_171 ⟨RX10, TX10, 24, rfl, (Nat.le_of_ble_eq_true rfl), lf_X10_90⟩ (gw_49 _) rfl ?_
              refine rb_iconst hV dX10_addWord_174 ?_
              refine rb_iadd hV dX10_addWord_175 ?_
              refine rb_put hV (C := RX10) (T := TX10) (N := 24) (ci := 9) (j := 4) dX10_addWord_176 rfl (Nat.le_of_ble_eq_true rfl) lf_X10_90 rfl (gw_49 _) (Nat.le_of_ble_eq_true rfl) (ft_X10_4 _) (pw_49_4 _ _) ?_
              refine rb_ret hV (r := none) dX10_addWord_179 rfl ⟨(Nat.le_of_ble_eq_true rfl), (Nat.le_of_ble_eq_true rfl)⟩ trivial ?_
              have hu : u = Sm (fun q => sgW (s 56 q)) a b := by rw [h2, show k = b by omega]
              have hg : sgK (s 56 (b - 1)) = 2 := if_pos e80
              have hl : sgL (s 56 a) = sgM (s 56 a) := (if_pos (by omega)).trans (sgM_eq (hok a (Int.le_refl a) hab.2.1)).symm
              have hr : sgR (s 56 (b - 1)) = sgM (s 56 (b - 1)) := (if_pos (by omega)).trans (sgM_eq (hok (b - 1) (by omega) (by omega))).symm
              rw [hg, hl, hr, ← hu]
              exact ⟨rfl, rfl⟩
            · rw [if_neg e153]
              show V 156 [some (.inr (some 49)), some (.inl a), some (.inl b), some (.inl u), some (.inl (s 56 a)), some (.inl (s 56 (b - 1)))] [.inl 0, .inl (s 120 0), .inr (some 55)] (WW (ab_s (ab_s (ab_s (ab_s s 51 (ab_u (s 51) (s 120 0) u)) 52 (ab_u (s 52) (s 120 0) (b - a))) 53 (ab_u (s 53) (s 120 0) 2)) 54 (ab_u (s 54) (s 120 0) (sgM (s 56 a))))) 0 0
              refine rb_if_eq hV (tgt := 167) dX10_addWord_156 (by decide) (by unfold ab_r at *; omega) (fun _ => ?_) (fun z => absurd z (by decide))
              refine rb_iconst hV dX10_addWord_167 ?_
              refine rb_iast hV (f := (s 55)) dX10_addWord_168 (gw_55 _) (Nat.le_of_ble_eq_true rfl) (by omega) rfl (pw_55 _ _) ?_
              refine rb_aload_n hV dX10_addWord_169 rfl rfl ?_
              refine rb_dup hV dX10_addWord_170 ?_
              refine rb_get hV (v := .inl (s 120 0)) dX10_addWord_171 ⟨RX10, TX10, 24, rfl, (Nat.le_of_ble_eq_true rfl), lf_X10_90⟩ (gw_49 _) rfl ?_
              refine rb_iconst hV dX10_addWord_174 ?_
              refine rb_iadd hV dX10_addWord_175 ?_
              refine rb_put hV (C := RX10) (T := TX10) (N := 24) (ci := 9) (j := 4) dX10_addWord_176 rfl (Nat.le_of_ble_eq_true rfl) lf_X10_90 rfl (gw_49 _) (Nat.le_of_ble_eq_true rfl) (ft_X10_4 _) (pw_49_4 _ _) ?_
              refine rb_ret hV (r := none) dX10_addWord_179 rfl ⟨(Nat.le_of_ble_eq_true rfl), (Nat.le_of_ble_eq_true rfl)⟩ trivial ?_
              have hu : u = Sm (fun q => sgW (s 56 q)) a b := by rw [h2, show k = b by omega]
              have hg : sgK (s 56 (b - 1)) = 2 := if_pos e80
              have hl : sgL (s 56 a) = sgM (s 56 a) := (if_pos (by omega)).trans (sgM_eq (hok a (Int.le_refl a) hab.2.1)).symm
              have hr : sgR (s 56 (b - 1)) = 0 := if_neg (by omega)
              rw [hg, hl, hr, ← hu]
              exact ⟨rfl, rfl⟩
          · refine rb_iload hV dX10_addWord_119 rfl ?_
            refine rb_bipush hV dX10_addWord_121 (by decide) ?_
            refine rb_icmp_eq hV (tgt := 133) dX10_addWord_123 (by decide) ⟨(by unfold ab_r at *; omega), (by unfold ab_r at *; omega)⟩ (fun c123 => ?_) (fun c123 => ?_)
            · refine rb_iload hV dX10_addWord_133 rfl ?_
              refine rb_callS hV (rest := [.inl (s 120 0), .inr (some 54)]) dX10_addWord_135 (c_X10_widthOf (ab_s (ab_s (ab_s s 51 (ab_u (s 51) (s 120 0) u)) 52 (ab_u (s 52) (s 120 0) (b - a))) 53 (ab_u (s 53) (s 120 0) 2)) (s 56 a) (ht a)) lk_X10_86 rfl rfl ⟨rfl, rfl, (Nat.le_of_ble_eq_true rfl), (Nat.le_of_ble_eq_true rfl), (Nat.le_of_ble_eq_true rfl), (Nat.le_of_ble_eq_true rfl)⟩ (Nat.le_of_ble_eq_true rfl) (fun r9 h9 p9 => ?_)
              obtain ⟨rfl, rfl⟩ := p9
              show V 138 [some (.inr (some 49)), some (.inl a), some (.inl b), some (.inl u), some (.inl (s 56 a)), some (.inl (s 56 (b - 1)))] [.inl (sgM (s 56 a)), .inl (s 120 0), .inr (some 54)] (WW (ab_s (ab_s (ab_s s 51 (ab_u (s 51) (s 120 0) u)) 52 (ab_u (s 52) (s 120 0) (b - a))) 53 (ab_u (s 53) (s 120 0) 2))) 0 0
              refine rb_goto hV (tgt := 142) dX10_addWord_138 (by decide) ?_
              refine rb_iast hV (f := (s 54)) dX10_addWord_142 (gw_54 _) (Nat.le_of_ble_eq_true rfl) (by omega) rfl (pw_54 _ _) ?_
              refine rb_aload_n hV dX10_addWord_143 rfl rfl ?_
              refine rb_get hV (v := .inr (some 55)) dX10_addWord_144 ⟨RX10, TX10, 24, rfl, (Nat.le_of_ble_eq_true rfl), lf_X10_35⟩ (gw_49 _) rfl ?_
              refine rb_aload_n hV dX10_addWord_147 rfl rfl ?_
              refine rb_get hV (v := .inl (s 120 0)) dX10_addWord_148 ⟨RX10, TX10, 24, rfl, (Nat.le_of_ble_eq_true rfl), lf_X10_90⟩ (gw_49 _) rfl ?_
              refine rb_iload hV dX10_addWord_151 rfl ?_
              refine rb_callS hV (rest := [.inl (s 120 0), .inr (some 55)]) dX10_addWord_153 (c_X10_isMark (ab_s (ab_s (ab_s (ab_s s 51 (ab_u (s 51) (s 120 0) u)) 52 (ab_u (s 52) (s 120 0) (b - a))) 53 (ab_u (s 53) (s 120 0) 2)) 54 (ab_u (s 54) (s 120 0) (sgM (s 56 a)))) (s 56 (b - 1)) (ht (b - 1))) lk_X10_80 rfl rfl ⟨rfl, rfl, (Nat.le_of_ble_eq_true rfl), (Nat.le_of_ble_eq_true rfl), (Nat.le_of_ble_eq_true rfl), (Nat.le_of_ble_eq_true rfl)⟩ (Nat.le_of_ble_eq_true rfl) (fun r9 h9 p9 => ?_)
              obtain ⟨rfl, rfl⟩ := p9
              show V 156 [some (.inr (some 49)), some (.inl a), some (.inl b), some (.inl u), some (.inl (s 56 a)), some (.inl (s 56 (b - 1)))] [.inl (if (s 56 (b - 1)) = 46 ∨ (s 56 (b - 1)) = 33 ∨ (s 56 (b - 1)) = 63 ∨ (s 56 (b - 1)) = 44 ∨ (s 56 (b - 1)) = 59 ∨ (s 56 (b - 1)) = 58 ∨ (s 56 (b - 1)) = 45 ∨ (s 56 (b - 1)) = 39 ∨ (s 56 (b - 1)) = 34 then 1 else 0), .inl (s 120 0), .inr (some 55)] (WW (ab_s (ab_s (ab_s (ab_s s 51 (ab_u (s 51) (s 120 0) u)) 52 (ab_u (s 52) (s 120 0) (b - a))) 53 (ab_u (s 53) (s 120 0) 2)) 54 (ab_u (s 54) (s 120 0) (sgM (s 56 a))))) 0 0
              by_cases e153 : (s 56 (b - 1)) = 46 ∨ (s 56 (b - 1)) = 33 ∨ (s 56 (b - 1)) = 63 ∨ (s 56 (b - 1)) = 44 ∨ (s 56 (b - 1)) = 59 ∨ (s 56 (b - 1)) = 58 ∨ (s 56 (b - 1)) = 45 ∨ (s 56 (b - 1)) = 39 ∨ (s 56 (b - 1)) = 34
              · rw [if_pos e153]
                show V 156 [some (.inr (some 49)), some (.inl a), some (.inl b), some (.inl u), some (.inl (s 56 a)), some (.inl (s 56 (b - 1)))] [.inl 1, .inl (s 120 0), .inr (some 55)] (WW (ab_s (ab_s (ab_s (ab_s s 51 (ab_u (s 51) (s 120 0) u)) 52 (ab_u (s 52) (s 120 0) (b - a))) 53 (ab_u (s 53) (s 120 0) 2)) 54 (ab_u (s 54) (s 120 0) (sgM (s 56 a))))) 0 0
                refine rb_if_eq hV (tgt := 167) dX10_addWord_156 (by decide) (by unfold ab_r at *; omega) (fun z => absurd z (by decide)) (fun _ => ?_)
                refine rb_iload hV dX10_addWord_159 rfl ?_
                refine rb_callS hV (rest := [.inl (s 120 0), .inr (some 55)]) dX10_addWord_161 (c_X10_widthOf (ab_s (ab_s (ab_s (ab_s s 51 (ab_u (s 51) (s 120 0) u)) 52 (ab_u (s 52) (s 120 0) (b - a))) 53 (ab_u (s 53) (s 120 0) 2)) 54 (ab_u (s 54) (s 120 0) (sgM (s 56 a)))) (s 56 (b - 1)) (ht (b - 1))) lk_X10_86 rfl rfl ⟨rfl, rfl, (Nat.le_of_ble_eq_true rfl), (Nat.le_of_ble_eq_true rfl), (Nat.le_of_ble_eq_true rfl), (Nat.le_of_ble_eq_true rfl)⟩ (Nat.le_of_ble_eq_true rfl) (fun r9 h9 p9 => ?_)
                obtain ⟨rfl, rfl⟩ := p9
                show V 164 [some (.inr (some 49)), some (.inl a), some (.inl b), some (.inl u), some (.inl (s 56 a)), some (.inl (s 56 (b - 1)))] [.inl (sgM (s 56 (b - 1))), .inl (s 120 0), .inr (some 55)] (WW (ab_s (ab_s (ab_s (ab_s s 51 (ab_u (s 51) (s 120 0) u)) 52 (ab_u (s 52) (s 120 0) (b - a))) 53 (ab_u (s 53) (s 120 0) 2)) 54 (ab_u (s 54) (s 120 0) (sgM (s 56 a))))) 0 0
                refine rb_goto hV (tgt := 168) dX10_addWord_164 (by decide) ?_
                refine rb_iast hV (f := (s 55)) dX10_addWord_168 (gw_55 _) (Nat.le_of_ble_eq_true rfl) (by omega) rfl (pw_55 _ _) ?_
                refine rb_aload_n hV dX10_addWord_169 rfl rfl ?_
                refine rb_dup hV dX10_addWord_170 ?_
                refine rb_get hV (v := .inl (s 120 0)) dX10_addWord_171 ⟨RX10, TX10, 24, rfl, (Nat.le_of_ble_eq_true rfl), lf_X10_90⟩ (gw_49 _) rfl ?_
                refine rb_iconst hV dX10_addWord_174 ?_
                refine rb_iadd hV dX10_addWord_175 ?_
                refine rb_put hV (C := RX10) (T := TX10) (N := 24) (ci := 9) (j := 4) dX10_addWord_176 rfl (Nat.le_of_ble_eq_true rfl) lf_X10_90 rfl (gw_49 _) (Nat.le_of_ble_eq_true rfl) (ft_X10_4 _) (pw_49_4 _ _) ?_
                refine rb_ret hV (r := none) dX10_addWord_179 rfl ⟨(Nat.le_of_ble_eq_true rfl), (Nat.le_of_ble_eq_true rfl)⟩ trivial ?_
                have hu : u = Sm (fun q => sgW (s 56 q)) a b := by rw [h2, show k = b by omega]
                have hg : sgK (s 56 (b - 1)) = 2 := if_pos e80
                have hl : sgL (s 56 a) = sgM (s 56 a) := (if_pos (by omega)).trans (sgM_eq (hok a (Int.le_refl a) hab.2.1)).symm
                have hr : sgR (s 56 (b - 1)) = sgM (s 56 (b - 1)) := (if_pos (by omega)).trans (sgM_eq (hok (b - 1) (by omega) (by omega))).symm
                rw [hg, hl, hr, ← hu]
                exact ⟨rfl, rfl⟩
              · rw [if_neg e153]
                show V 156 [some (.inr (some 49)), some (.inl a), some (.inl b), some (.inl u), some (.inl (s 56 a)), some (.inl (s 56 (b - 1)))] [.inl 0, .inl (s 120 0), .inr (some 55)] (WW (ab_s (ab_s (ab_s (ab_s s 51 (ab_u (s 51) (s 120 0) u)) 52 (ab_u (s 52) (s 120 0) (b - a))) 53 (ab_u (s 53) (s 120 0) 2)) 54 (ab_u (s 54) (s 120 0) (sgM (s 56 a))))) 0 0
                refine rb_if_eq hV (tgt := 167) dX10_addWord_156 (by decide) (by unfold ab_r at *; omega) (fun _ => ?_) (fun z => absurd z (by decide))
                refine rb_iconst hV dX10_addWord_167 ?_
                refine rb_iast hV (f := (s 55)) dX10_addWord_168 (gw_55 _) (Nat.le_of_ble_eq_true rfl) (by omega) rfl (pw_55 _ _) ?_
                refine rb_aload_n hV dX10_addWord_169 rfl rfl ?_
                refine rb_dup hV dX10_addWord_170 ?_
                refine rb_get hV (v := .inl (s 120 0)) dX10_addWord_171 ⟨RX10, TX10, 24, rfl, (Nat.le_of_ble_eq_true rfl), lf_X10_90⟩ (gw_49 _) rfl ?_
                refine rb_iconst hV dX10_addWord_174 ?_
                refine rb_iadd hV dX10_addWord_175 ?_
                refine rb_put hV (C := RX10) (T := TX10) (N := 24) (ci := 9) (j := 4) dX10_addWord_176 rfl (Nat.le_of_ble_eq_true rfl) lf_X10_90 rfl (gw_49 _) (Nat.le_of_ble_eq_true rfl) (ft_X10_4 _) (pw_49_4 _ _) ?_
                refine rb_ret hV (r := none) dX10_addWord_179 rfl ⟨(Nat.le_of_ble_eq_true rfl), (Nat.le_of_ble_eq_true rfl)⟩ trivial ?_
                have hu : u = Sm (fun q => sgW (s 56 q)) a b := by rw [h2, show k = b by omega]
                have hg : sgK (s 56 (b - 1)) = 2 := if_pos e80
                have hl : sgL (s 56 a) = sgM (s 56 a) := (if_pos (by omega)).trans (sgM_eq (hok a (Int.le_refl a) hab.2.1)).symm
                have hr : sgR (s 56 (b - 1)) = 0 := if_neg (by omega)
                rw [hg, hl, hr, ← hu]
                exact ⟨rfl, rfl⟩
            · refine rb_iload hV dX10_addWord_126 rfl ?_
              refine rb_bipush hV dX10_addWord_128 (by decide) ?_
              refine rb_icmp_ne hV (tgt := 141) dX10_addWord_130 (by decide) ⟨(by unfold ab_r at *; omega), (by unfold ab_r at *; omega)⟩ (fun c130 => ?_) (fun c130 => ?_)
              · refine rb_iconst hV dX10_addWord_141 ?_
                refine rb_iast hV (f := (s 54)) dX10_addWord_142 (gw_54 _) (Nat.le_of_ble_eq_true rfl) (by omega) rfl (pw_54 _ _) ?_
                refine rb_aload_n hV dX10_addWord_143 rfl rfl ?_
                refine rb_get hV (v := .inr (some 55)) dX10_addWord_144 ⟨RX10, TX10, 24, rfl, (Nat.le_of_ble_eq_true rfl), lf_X10_35⟩ (gw_49 _) rfl ?_
                refine rb_aload_n hV dX10_addWord_147 rfl rfl ?_
                refine rb_get hV (v := .inl (s 120 0)) dX10_addWord_148 ⟨RX10, TX10, 24, rfl, (Nat.le_of_ble_eq_true rfl), lf_X10_90⟩ (gw_49 _) rfl ?_
                refine rb_iload hV dX10_addWord_151 rfl ?_
                refine rb_callS hV (rest := [.inl (s 120 0), .inr (some 55)]) dX10_addWord_153 (c_X10_isMark (ab_s (ab_s (ab_s (ab_s s 51 (ab_u (s 51) (s 120 0) u)) 52 (ab_u (s 52) (s 120 0) (b - a))) 53 (ab_u (s 53) (s 120 0) 2)) 54 (ab_u (s 54) (s 120 0) 0)) (s 56 (b - 1)) (ht (b - 1))) lk_X10_80 rfl rfl ⟨rfl, rfl, (Nat.le_of_ble_eq_true rfl), (Nat.le_of_ble_eq_true rfl), (Nat.le_of_ble_eq_true rfl), (Nat.le_of_ble_eq_true rfl)⟩ (Nat.le_of_ble_eq_true rfl) (fun r9 h9 p9 => ?_)
                obtain ⟨rfl, rfl⟩ := p9
                show V 156 [some (.inr (some 49)), some (.inl a), some (.inl b), some (.inl u), some (.inl (s 56 a)), some (.inl (s 56 (b - 1)))] [.inl (if (s 56 (b - 1)) = 46 ∨ (s 56 (b - 1)) = 33 ∨ (s 56 (b - 1)) = 63 ∨ (s 56 (b - 1)) = 44 ∨ (s 56 (b - 1)) = 59 ∨ (s 56 (b - 1)) = 58 ∨ (s 56 (b - 1)) = 45 ∨ (s 56 (b - 1)) = 39 ∨ (s 56 (b - 1)) = 34 then 1 else 0), .inl (s 120 0), .inr (some 55)] (WW (ab_s (ab_s (ab_s (ab_s s 51 (ab_u (s 51) (s 120 0) u)) 52 (ab_u (s 52) (s 120 0) (b - a))) 53 (ab_u (s 53) (s 120 0) 2)) 54 (ab_u (s 54) (s 120 0) 0))) 0 0
                by_cases e153 : (s 56 (b - 1)) = 46 ∨ (s 56 (b - 1)) = 33 ∨ (s 56 (b - 1)) = 63 ∨ (s 56 (b - 1)) = 44 ∨ (s 56 (b - 1)) = 59 ∨ (s 56 (b - 1)) = 58 ∨ (s 56 (b - 1)) = 45 ∨ (s 56 (b - 1)) = 39 ∨ (s 56 (b - 1)) = 34
                · rw [if_pos e153]
                  show V 156 [some (.inr (some 49)), some (.inl a), some (.inl b), some (.inl u), some (.inl (s 56 a)), some (.inl (s 56 (b - 1)))] [.inl 1, .inl (s 120 0), .inr (some 55)] (WW (ab_s (ab_s (ab_s (ab_s s 51 (ab_u (s 51) (s 120 0) u)) 52 (ab_u (s 52) (s 120 0) (b - a))) 53 (ab_u (s 53) (s 120 0) 2)) 54 (ab_u (s 54) (s 120 0) 0))) 0 0
                  refine rb_if_eq hV (tgt := 167) dX10_addWord_156 (by decide) (by unfold ab_r at *; omega) (fun z => absurd z (by decide)) (fun _ => ?_)
                  refine rb_iload hV dX10_addWord_159 rfl ?_
                  refine rb_callS hV (rest := [.inl (s 120 0), .inr (some 55)]) dX10_addWord_161 (c_X10_widthOf (ab_s (ab_s (ab_s (ab_s s 51 (ab_u (s 51) (s 120 0) u)) 52 (ab_u (s 52) (s 120 0) (b - a))) 53 (ab_u (s 53) (s 120 0) 2)) 54 (ab_u (s 54) (s 120 0) 0)) (s 56 (b - 1)) (ht (b - 1))) lk_X10_86 rfl rfl ⟨rfl, rfl, (Nat.le_of_ble_eq_true rfl), (Nat.le_of_ble_eq_true rfl), (Nat.le_of_ble_eq_true rfl), (Nat.le_of_ble_eq_true rfl)⟩ (Nat.le_of_ble_eq_true rfl) (fun r9 h9 p9 => ?_)
                  obtain ⟨rfl, rfl⟩ := p9
                  show V 164 [some (.inr (some 49)), some (.inl a), some (.inl b), some (.inl u), some (.inl (s 56 a)), some (.inl (s 56 (b - 1)))] [.inl (sgM (s 56 (b - 1))), .inl (s 120 0), .inr (some 55)] (WW (ab_s (ab_s (ab_s (ab_s s 51 (ab_u (s 51) (s 120 0) u)) 52 (ab_u (s 52) (s 120 0) (b - a))) 53 (ab_u (s 53) (s 120 0) 2)) 54 (ab_u (s 54) (s 120 0) 0))) 0 0
                  refine rb_goto hV (tgt := 168) dX10_addWord_164 (by decide) ?_
                  refine rb_iast hV (f := (s 55)) dX10_addWord_168 (gw_55 _) (Nat.le_of_ble_eq_true rfl) (by omega) rfl (pw_55 _ _) ?_
                  refine rb_aload_n hV dX10_addWord_169 rfl rfl ?_
                  refine rb_dup hV dX10_addWord_170 ?_
                  refine rb_get hV (v := .inl (s 120 0)) dX10_addWord_171 ⟨RX10, TX10, 24, rfl, (Nat.le_of_ble_eq_true rfl), lf_X10_90⟩ (gw_49 _) rfl ?_
                  refine rb_iconst hV dX10_addWord_174 ?_
                  refine rb_iadd hV dX10_addWord_175 ?_
                  refine rb_put hV (C := RX10) (T := TX10) (N := 24) (ci := 9) (j := 4) dX10_addWord_176 rfl (Nat.le_of_ble_eq_true rfl) lf_X10_90 rfl (gw_49 _) (Nat.le_of_ble_eq_true rfl) (ft_X10_4 _) (pw_49_4 _ _) ?_
                  refine rb_ret hV (r := none) dX10_addWord_179 rfl ⟨(Nat.le_of_ble_eq_true rfl), (Nat.le_of_ble_eq_true rfl)⟩ trivial ?_
                  have hu : u = Sm (fun q => sgW (s 56 q)) a b := by rw [h2, show k = b by omega]
                  have hg : sgK (s 56 (b - 1)) = 2 := if_pos e80
                  have hl : sgL (s 56 a) = 0 := if_neg (by omega)
                  have hr : sgR (s 56 (b - 1)) = sgM (s 56 (b - 1)) := (if_pos (by omega)).trans (sgM_eq (hok (b - 1) (by omega) (by omega))).symm
                  rw [hg, hl, hr, ← hu]
                  exact ⟨rfl, rfl⟩
                · rw [if_neg e153]
                  show V 156 [some (.inr (some 49)), some (.inl a), some (.inl b), some (.inl u), some (.inl (s 56 a)), some (.inl (s 56 (b - 1)))] [.inl 0, .inl (s 120 0), .inr (some 55)] (WW (ab_s (ab_s (ab_s (ab_s s 51 (ab_u (s 51) (s 120 0) u)) 52 (ab_u (s 52) (s 120 0) (b - a))) 53 (ab_u (s 53) (s 120 0) 2)) 54 (ab_u (s 54) (s 120 0) 0))) 0 0
                  refine rb_if_eq hV (tgt := 167) dX10_addWord_156 (by decide) (by unfold ab_r at *; omega) (fun _ => ?_) (fun z => absurd z (by decide))
                  refine rb_iconst hV dX10_addWord_167 ?_
                  refine rb_iast hV (f := (s 55)) dX10_addWord_168 (gw_55 _) (Nat.le_of_ble_eq_true rfl) (by omega) rfl (pw_55 _ _) ?_
                  refine rb_aload_n hV dX10_addWord_169 rfl rfl ?_
                  refine rb_dup hV dX10_addWord_170 ?_
                  refine rb_get hV (v := .inl (s 120 0)) dX10_addWord_171 ⟨RX10, TX10, 24, rfl, (Nat.le_of_ble_eq_true rfl), lf_X10_90⟩ (gw_49 _) rfl ?_
                  refine rb_iconst hV dX10_addWord_174 ?_
                  refine rb_iadd hV dX10_addWord_175 ?_
                  refine rb_put hV (C := RX10) (T := TX10) (N := 24) (ci := 9) (j := 4) dX10_addWord_176 rfl (Nat.le_of_ble_eq_true rfl) lf_X10_90 rfl (gw_49 _) (Nat.le_of_ble_eq_true rfl) (ft_X10_4 _) (pw_49_4 _ _) ?_
                  refine rb_ret hV (r := none) dX10_addWord_179 rfl ⟨(Nat.le_of_ble_eq_true rfl), (Nat.le_of_ble_eq_true rfl)⟩ trivial ?_
                  have hu : u = Sm (fun q => sgW (s 56 q)) a b := by rw [h2, show k = b by omega]
                  have hg : sgK (s 56 (b - 1)) = 2 := if_pos e80
                  have hl : sgL (s 56 a) = 0 := if_neg (by omega)
                  have hr : sgR (s 56 (b - 1)) = 0 := if_neg (by omega)
                  rw [hg, hl, hr, ← hu]
                  exact ⟨rfl, rfl⟩
              · refine rb_iload hV dX10_addWord_133 rfl ?_
                refine rb_callS hV (rest := [.inl (s 120 0), .inr (some 54)]) dX10_addWord_135 (c_X10_widthOf (ab_s (ab_s (ab_s s 51 (ab_u (s 51) (s 120 0) u)) 52 (ab_u (s 52) (s 120 0) (b - a))) 53 (ab_u (s 53) (s 120 0) 2)) (s 56 a) (ht a)) lk_X10_86 rfl rfl ⟨rfl, rfl, (Nat.le_of_ble_eq_true rfl), (Nat.le_of_ble_eq_true rfl), (Nat.le_of_ble_eq_true rfl), (Nat.le_of_ble_eq_true rfl)⟩ (Nat.le_of_ble_eq_true rfl) (fun r9 h9 p9 => ?_)
                obtain ⟨rfl, rfl⟩ := p9
                show V 138 [some (.inr (some 49)), some (.inl a), some (.inl b), some (.inl u), some (.inl (s 56 a)), some (.inl (s 56 (b - 1)))] [.inl (sgM (s 56 a)), .inl (s 120 0), .inr (some 54)] (WW (ab_s (ab_s (ab_s s 51 (ab_u (s 51) (s 120 0) u)) 52 (ab_u (s 52) (s 120 0) (b - a))) 53 (ab_u (s 53) (s 120 0) 2))) 0 0
                refine rb_goto hV (tgt := 142) dX10_addWord_138 (by decide) ?_
                refine rb_iast hV (f := (s 54)) dX10_addWord_142 (gw_54 _) (Nat.le_of_ble_eq_true rfl) (by omega) rfl (pw_54 _ _) ?_
                refine rb_aload_n hV dX10_addWord_143 rfl rfl ?_
                refine rb_get hV (v := .inr (some 55)) dX10_addWord_144 ⟨RX10, TX10, 24, rfl, (Nat.le_of_ble_eq_true rfl), lf_X10_35⟩ (gw_49 _) rfl ?_
                refine rb_aload_n hV dX10_addWord_147 rfl rfl ?_
                refine rb_get hV (v := .inl (s 120 0)) dX10_addWord_148 ⟨RX10, TX10, 24, rfl, (Nat.le_of_ble_eq_true rfl), lf_X10_90⟩ (gw_49 _) rfl ?_
                refine rb_iload hV dX10_addWord_151 rfl ?_
                refine rb_callS hV (rest := [.inl (s 120 0), .inr (some 55)]) dX10_addWord_153 (c_X10_isMark (ab_s (ab_s (ab_s (ab_s s 51 (ab_u (s 51) (s 120 0) u)) 52 (ab_u (s 52) (s 120 0) (b - a))) 53 (ab_u (s 53) (s 120 0) 2)) 54 (ab_u (s 54) (s 120 0) (sgM (s 56 a)))) (s 56 (b - 1)) (ht (b - 1))) lk_X10_80 rfl rfl ⟨rfl, rfl, (Nat.le_of_ble_eq_true rfl), (Nat.le_of_ble_eq_true rfl), (Nat.le_of_ble_eq_true rfl), (Nat.le_of_ble_eq_true rfl)⟩ (Nat.le_of_ble_eq_true rfl) (fun r9 h9 p9 => ?_)
                obtain ⟨rfl, rfl⟩ := p9
                show V 156 [some (.inr (some 49)), some (.inl a), some (.inl b), some (.inl u), some (.inl (s 56 a)), some (.inl (s 56 (b - 1)))] [.inl (if (s 56 (b - 1)) = 46 ∨ (s 56 (b - 1)) = 33 ∨ (s 56 (b - 1)) = 63 ∨ (s 56 (b - 1)) = 44 ∨ (s 56 (b - 1)) = 59 ∨ (s 56 (b - 1)) = 58 ∨ (s 56 (b - 1)) = 45 ∨ (s 56 (b - 1)) = 39 ∨ (s 56 (b - 1)) = 34 then 1 else 0), .inl (s 120 0), .inr (some 55)] (WW (ab_s (ab_s (ab_s (ab_s s 51 (ab_u (s 51) (s 120 0) u)) 52 (ab_u (s 52) (s 120 0) (b - a))) 53 (ab_u (s 53) (s 120 0) 2)) 54 (ab_u (s 54) (s 120 0) (sgM (s 56 a))))) 0 0
                by_cases e153 : (s 56 (b - 1)) = 46 ∨ (s 56 (b - 1)) = 33 ∨ (s 56 (b - 1)) = 63 ∨ (s 56 (b - 1)) = 44 ∨ (s 56 (b - 1)) = 59 ∨ (s 56 (b - 1)) = 58 ∨ (s 56 (b - 1)) = 45 ∨ (s 56 (b - 1)) = 39 ∨ (s 56 (b - 1)) = 34
                · rw [if_pos e153]
                  show V 156 [some (.inr (some 49)), some (.inl a), some (.inl b), some (.inl u), some (.inl (s 56 a)), some (.inl (s 56 (b - 1)))] [.inl 1, .inl (s 120 0), .inr (some 55)] (WW (ab_s (ab_s (ab_s (ab_s s 51 (ab_u (s 51) (s 120 0) u)) 52 (ab_u (s 52) (s 120 0) (b - a))) 53 (ab_u (s 53) (s 120 0) 2)) 54 (ab_u (s 54) (s 120 0) (sgM (s 56 a))))) 0 0
                  refine rb_if_eq hV (tgt := 167) dX10_addWord_156 (by decide) (by unfold ab_r at *; omega) (fun z => absurd z (by decide)) (fun _ => ?_)
                  refine rb_iload hV dX10_addWord_159 rfl ?_
                  refine rb_callS hV (rest := [.inl (s 120 0), .inr (some 55)]) dX10_addWord_161 (c_X10_widthOf (ab_s (ab_s (ab_s (ab_s s 51 (ab_u (s 51) (s 120 0) u)) 52 (ab_u (s 52) (s 120 0) (b - a))) 53 (ab_u (s 53) (s 120 0) 2)) 54 (ab_u (s 54) (s 120 0) (sgM (s 56 a)))) (s 56 (b - 1)) (ht (b - 1))) lk_X10_86 rfl rfl ⟨rfl, rfl, (Nat.le_of_ble_eq_true rfl), (Nat.le_of_ble_eq_true rfl), (Nat.le_of_ble_eq_true rfl), (Nat.le_of_ble_eq_true rfl)⟩ (Nat.le_of_ble_eq_true rfl) (fun r9 h9 p9 => ?_)
                  obtain ⟨rfl, rfl⟩ := p9
                  show V 164 [some (.inr (some 49)), some (.inl a), some (.inl b), some (.inl u), some (.inl (s 56 a)), some (.inl (s 56 (b - 1)))] [.inl (sgM (s 56 (b - 1))), .inl (s 120 0), .inr (some 55)] (WW (ab_s (ab_s (ab_s (ab_s s 51 (ab_u (s 51) (s 120 0) u)) 52 (ab_u (s 52) (s 120 0) (b - a))) 53 (ab_u (s 53) (s 120 0) 2)) 54 (ab_u (s 54) (s 120 0) (sgM (s 56 a))))) 0 0
                  refine rb_goto hV (tgt := 168) dX10_addWord_164 (by decide) ?_
                  refine rb_iast hV (f := (s 55)) dX10_addWord_168 (gw_55 _) (Nat.le_of_ble_eq_true rfl) (by omega) rfl (pw_55 _ _) ?_
                  refine rb_aload_n hV dX10_addWord_169 rfl rfl ?_
                  refine rb_dup hV dX10_addWord_170 ?_
                  refine rb_get hV (v := .inl (s 120 0)) dX10_addWord_171 ⟨RX10, TX10, 24, rfl, (Nat.le_of_ble_eq_true rfl), lf_X10_90⟩ (gw_49 _) rfl ?_
                  refine rb_iconst hV dX10_addWord_174 ?_
                  refine rb_iadd hV dX10_addWord_175 ?_
                  refine rb_put hV (C := RX10) (T := TX10) (N := 24) (ci := 9) (j := 4) dX10_addWord_176 rfl (Nat.le_of_ble_eq_true rfl) lf_X10_90 rfl (gw_49 _) (Nat.le_of_ble_eq_true rfl) (ft_X10_4 _) (pw_49_4 _ _) ?_
                  refine rb_ret hV (r := none) dX10_addWord_179 rfl ⟨(Nat.le_of_ble_eq_true rfl), (Nat.le_of_ble_eq_true rfl)⟩ trivial ?_
                  have hu : u = Sm (fun q => sgW (s 56 q)) a b := by rw [h2, show k = b by omega]
                  have hg : sgK (s 56 (b - 1)) = 2 := if_pos e80
                  have hl : sgL (s 56 a) = sgM (s 56 a) := (if_pos (by omega)).trans (sgM_eq (hok a (Int.le_refl a) hab.2.1)).symm
                  have hr : sgR (s 56 (b - 1)) = sgM (s 56 (b - 1)) := (if_pos (by omega)).trans (sgM_eq (hok (b - 1) (by omega) (by omega))).symm
                  rw [hg, hl, hr, ← hu]
                  exact ⟨rfl, rfl⟩
                · rw [if_neg e153]
                  show V 156 [some (.inr (some 49)), some (.inl a), some (.inl b), some (.inl u), some (.inl (s 56 a)), some (.inl (s 56 (b - 1)))] [.inl 0, .inl (s 120 0), .inr (some 55)] (WW (ab_s (ab_s (ab_s (ab_s s 51 (ab_u (s 51) (s 120 0) u)) 52 (ab_u (s 52) (s 120 0) (b - a))) 53 (ab_u (s 53) (s 120 0) 2)) 54 (ab_u (s 54) (s 120 0) (sgM (s 56 a))))) 0 0
                  refine rb_if_eq hV (tgt := 167) dX10_addWord_156 (by decide) (by unfold ab_r at *; omega) (fun _ => ?_) (fun z => absurd z (by decide))
                  refine rb_iconst hV dX10_addWord_167 ?_
                  refine rb_iast hV (f := (s 55)) dX10_addWord_168 (gw_55 _) (Nat.le_of_ble_eq_true rfl) (by omega) rfl (pw_55 _ _) ?_
                  refine rb_aload_n hV dX10_addWord_169 rfl rfl ?_
                  refine rb_dup hV dX10_addWord_170 ?_
                  refine rb_get hV (v := .inl (s 120 0)) dX10_addWord_171 ⟨RX10, TX10, 24, rfl, (Nat.le_of_ble_eq_true rfl), lf_X10_90⟩ (gw_49 _) rfl ?_
                  refine rb_iconst hV dX10_addWord_174 ?_
                  refine rb_iadd hV dX10_addWord_175 ?_
                  refine rb_put hV (C := RX10) (T := TX10) (N := 24) (ci := 9) (j := 4) dX10_addWord_176 rfl (Nat.le_of_ble_eq_true rfl) lf_X10_90 rfl (gw_49 _) (Nat.le_of_ble_eq_true rfl) (ft_X10_4 _) (pw_49_4 _ _) ?_
                  refine rb_ret hV (r := none) dX10_addWord_179 rfl ⟨(Nat.le_of_ble_eq_true rfl), (Nat.le_of_ble_eq_true rfl)⟩ trivial ?_
                  have hu : u = Sm (fun q => sgW (s 56 q)) a b := by rw [h2, show k = b by omega]
                  have hg : sgK (s 56 (b - 1)) = 2 := if_pos e80
                  have hl : sgL (s 56 a) = sgM (s 56 a) := (if_pos (by omega)).trans (sgM_eq (hok a (Int.le_refl a) hab.2.1)).symm
                  have hr : sgR (s 56 (b - 1)) = 0 := if_neg (by omega)
                  rw [hg, hl, hr, ← hu]
                  exact ⟨rfl, rfl⟩
        · rw [if_neg e80]
          show V 83 [some (.inr (some 49)), some (.inl a), some (.inl b), some (.inl u), some (.inl (s 56 a)), some (.inl (s 56 (b - 1)))] [.inl 0, .inl (s 120 0), .inr (some 53)] (WW (ab_s (ab_s s 51 (ab_u (s 51) (s 120 0) u)) 52 (ab_u (s 52) (s 120 0) (b - a)))) 0 0
          refine rb_if_eq hV (tgt := 90) dX10_addWord_83 (by decide) (by unfold ab_r at *; omega) (fun _ => ?_) (fun z => absurd z (by decide))
          refine rb_iload hV dX10_addWord_90 rfl ?_
          refine rb_callS hV (rest := [.inl (s 120 0), .inr (some 53)]) dX10_addWord_92 (c_X10_isClause (ab_s (ab_s s 51 (ab_u (s 51) (s 120 0) u)) 52 (ab_u (s 52) (s 120 0) (b - a))) (s 56 (b - 1)) (ht (b - 1))) lk_X10_77 rfl rfl ⟨rfl, rfl, (Nat.le_of_ble_eq_true rfl), (Nat.le_of_ble_eq_true rfl), (Nat.le_of_ble_eq_true rfl), (Nat.le_of_ble_eq_true rfl)⟩ (Nat.le_of_ble_eq_true rfl) (fun r9 h9 p9 => ?_)
          obtain ⟨rfl, rfl⟩ := p9
          show V 95 [some (.inr (some 49)), some (.inl a), some (.inl b), some (.inl u), some (.inl (s 56 a)), some (.inl (s 56 (b - 1)))] [.inl (if (s 56 (b - 1)) = 44 ∨ (s 56 (b - 1)) = 59 ∨ (s 56 (b - 1)) = 58 then 1 else 0), .inl (s 120 0), .inr (some 53)] (WW (ab_s (ab_s s 51 (ab_u (s 51) (s 120 0) u)) 52 (ab_u (s 52) (s 120 0) (b - a)))) 0 0
          by_cases e92 : (s 56 (b - 1)) = 44 ∨ (s 56 (b - 1)) = 59 ∨ (s 56 (b - 1)) = 58
          · rw [if_pos e92]
            show V 95 [some (.inr (some 49)), some (.inl a), some (.inl b), some (.inl u), some (.inl (s 56 a)), some (.inl (s 56 (b - 1)))] [.inl 1, .inl (s 120 0), .inr (some 53)] (WW (ab_s (ab_s s 51 (ab_u (s 51) (s 120 0) u)) 52 (ab_u (s 52) (s 120 0) (b - a)))) 0 0
            refine rb_if_eq hV (tgt := 102) dX10_addWord_95 (by decide) (by unfold ab_r at *; omega) (fun z => absurd z (by decide)) (fun _ => ?_)
            refine rb_iconst hV dX10_addWord_98 ?_
            refine rb_goto hV (tgt := 103) dX10_addWord_99 (by decide) ?_
            refine rb_iast hV (f := (s 53)) dX10_addWord_103 (gw_53 _) (Nat.le_of_ble_eq_true rfl) (by omega) rfl (pw_53 _ _) ?_
            refine rb_aload_n hV dX10_addWord_104 rfl rfl ?_
            refine rb_get hV (v := .inr (some 54)) dX10_addWord_105 ⟨RX10, TX10, 24, rfl, (Nat.le_of_ble_eq_true rfl), lf_X10_32⟩ (gw_49 _) rfl ?_
            refine rb_aload_n hV dX10_addWord_108 rfl rfl ?_
            refine rb_get hV (v := .inl (s 120 0)) dX10_addWord_109 ⟨RX10, TX10, 24, rfl, (Nat.le_of_ble_eq_true rfl), lf_X10_90⟩ (gw_49 _) rfl ?_
            refine rb_iload hV dX10_addWord_112 rfl ?_
            refine rb_bipush hV dX10_addWord_114 (by decide) ?_
            refine rb_icmp_eq hV (tgt := 133) dX10_addWord_116 (by decide) ⟨(by unfold ab_r at *; omega), (by unfold ab_r at *; omega)⟩ (fun c116 => ?_) (fun c116 => ?_)
            · refine rb_iload hV dX10_addWord_133 rfl ?_
              refine rb_callS hV (rest := [.inl (s 120 0), .inr (some 54)]) dX10_addWord_135 (c_X10_widthOf (ab_s (ab_s (ab_s s 51 (ab_u (s 51) (s 120 0) u)) 52 (ab_u (s 52) (s 120 0) (b - a))) 53 (ab_u (s 53) (s 120 0) 1)) (s 56 a) (ht a)) lk_X10_86 rfl rfl ⟨rfl, rfl, (Nat.le_of_ble_eq_true rfl), (Nat.le_of_ble_eq_true rfl), (Nat.le_of_ble_eq_true rfl), (Nat.le_of_ble_eq_true rfl)⟩ (Nat.le_of_ble_eq_true rfl) (fun r9 h9 p9 => ?_)
              obtain ⟨rfl, rfl⟩ := p9
              show V 138 [some (.inr (some 49)), some (.inl a), some (.inl b), some (.inl u), some (.inl (s 56 a)), some (.inl (s 56 (b - 1)))] [.inl (sgM (s 56 a)), .inl (s 120 0), .inr (some 54)] (WW (ab_s (ab_s (ab_s s 51 (ab_u (s 51) (s 120 0) u)) 52 (ab_u (s 52) (s 120 0) (b - a))) 53 (ab_u (s 53) (s 120 0) 1))) 0 0
              refine rb_goto hV (tgt := 142) dX10_addWord_138 (by decide) ?_
              refine rb_iast hV (f := (s 54)) dX10_addWord_142 (gw_54 _) (Nat.le_of_ble_eq_true rfl) (by omega) rfl (pw_54 _ _) ?_
              refine rb_aload_n hV dX10_addWord_143 rfl rfl ?_
              refine rb_get hV (v := .inr (some 55)) dX10_addWord_144 ⟨RX10, TX10, 24, rfl, (Nat.le_of_ble_eq_true rfl), lf_X10_35⟩ (gw_49 _) rfl ?_
              refine rb_aload_n hV dX10_addWord_147 rfl rfl ?_
              refine rb_get hV (v := .inl (s 120 0)) dX10_addWord_148 ⟨RX10, TX10, 24, rfl, (Nat.le_of_ble_eq_true rfl), lf_X10_90⟩ (gw_49 _) rfl ?_
              refine rb_iload hV dX10_addWord_151 rfl ?_
              refine rb_callS hV (rest := [.inl (s 120 0), .inr (some 55)]) dX10_addWord_153 (c_X10_isMark (ab_s (ab_s (ab_s (ab_s s 51 (ab_u (s 51) (s 120 0) u)) 52 (ab_u (s 52) (s 120 0) (b - a))) 53 (ab_u (s 53) (s 120 0) 1)) 54 (ab_u (s 54) (s 120 0) (sgM (s 56 a)))) (s 56 (b - 1)) (ht (b - 1))) lk_X10_80 rfl rfl ⟨rfl, rfl, (Nat.le_of_ble_eq_true rfl), (Nat.le_of_ble_eq_true rfl), (Nat.le_of_ble_eq_true rfl), (Nat.le_of_ble_eq_true rfl)⟩ (Nat.le_of_ble_eq_true rfl) (fun r9 h9 p9 => ?_)
              obtain ⟨rfl, rfl⟩ := p9
              show V 156 [some (.inr (some 49)), some (.inl a), some (.inl b), some (.inl u), some (.inl (s 56 a)), some (.inl (s 56 (b - 1)))] [.inl (if (s 56 (b - 1)) = 46 ∨ (s 56 (b - 1)) = 33 ∨ (s 56 (b - 1)) = 63 ∨ (s 56 (b - 1)) = 44 ∨ (s 56 (b - 1)) = 59 ∨ (s 56 (b - 1)) = 58 ∨ (s 56 (b - 1)) = 45 ∨ (s 56 (b - 1)) = 39 ∨ (s 56 (b - 1)) = 34 then 1 else 0), .inl (s 120 0), .inr (some 55)] (WW (ab_s (ab_s (ab_s (ab_s s 51 (ab_u (s 51) (s 120 0) u)) 52 (ab_u (s 52) (s 120 0) (b - a))) 53 (ab_u (s 53) (s 120 0) 1)) 54 (ab_u (s 54) (s 120 0) (sgM (s 56 a))))) 0 0
              by_cases e153 : (s 56 (b - 1)) = 46 ∨ (s 56 (b - 1)) = 33 ∨ (s 56 (b - 1)) = 63 ∨ (s 56 (b - 1)) = 44 ∨ (s 56 (b - 1)) = 59 ∨ (s 56 (b - 1)) = 58 ∨ (s 56 (b - 1)) = 45 ∨ (s 56 (b - 1)) = 39 ∨ (s 56 (b - 1)) = 34
              · rw [if_pos e153]
                show V 156 [some (.inr (some 49)), some (.inl a), some (.inl b), some (.inl u), some (.inl (s 56 a)), some (.inl (s 56 (b - 1)))] [.inl 1, .inl (s 120 0), .inr (some 55)] (WW (ab_s (ab_s (ab_s (ab_s s 51 (ab_u (s 51) (s 120 0) u)) 52 (ab_u (s 52) (s 120 0) (b - a))) 53 (ab_u (s 53) (s 120 0) 1)) 54 (ab_u (s 54) (s 120 0) (sgM (s 56 a))))) 0 0
                refine rb_if_eq hV (tgt := 167) dX10_addWord_156 (by decide) (by unfold ab_r at *; omega) (fun z => absurd z (by decide)) (fun _ => ?_)
                refine rb_iload hV dX10_addWord_159 rfl ?_
                refine rb_callS hV (rest := [.inl (s 120 0), .inr (some 55)]) dX10_addWord_161 (c_X10_widthOf (ab_s (ab_s (ab_s (ab_s s 51 (ab_u (s 51) (s 120 0) u)) 52 (ab_u (s 52) (s 120 0) (b - a))) 53 (ab_u (s 53) (s 120 0) 1)) 54 (ab_u (s 54) (s 120 0) (sgM (s 56 a)))) (s 56 (b - 1)) (ht (b - 1))) lk_X10_86 rfl rfl ⟨rfl, rfl, (Nat.le_of_ble_eq_true rfl), (Nat.le_of_ble_eq_true rfl), (Nat.le_of_ble_eq_true rfl), (Nat.le_of_ble_eq_true rfl)⟩ (Nat.le_of_ble_eq_true rfl) (fun r9 h9 p9 => ?_)
                obtain ⟨rfl, rfl⟩ := p9
                show V 164 [some (.inr (some 49)), some (.inl a), some (.inl b), some (.inl u), some (.inl (s 56 a)), some (.inl (s 56 (b - 1)))] [.inl (sgM (s 56 (b - 1))), .inl (s 120 0), .inr (some 55)] (WW (ab_s (ab_s (ab_s (ab_s s 51 (ab_u (s 51) (s 120 0) u)) 52 (ab_u (s 52) (s 120 0) (b - a))) 53 (ab_u (s 53) (s 120 0) 1)) 54 (ab_u (s 54) (s 120 0) (sgM (s 56 a))))) 0 0
                refine rb_goto hV (tgt := 168) dX10_addWord_164 (by decide) ?_
                refine rb_iast hV (f := (s 55)) dX10_addWord_168 (gw_55 _) (Nat.le_of_ble_eq_true rfl) (by omega) rfl (pw_55 _ _) ?_
                refine rb_aload_n hV dX10_addWord_169 rfl rfl ?_
                refine rb_dup hV dX10_addWord_170 ?_
                refine rb_get hV (v := .inl (s 120 0)) dX10_addWord_171 ⟨RX10, TX10, 24, rfl, (Nat.le_of_ble_eq_true rfl), lf_X10_90⟩ (gw_49 _) rfl ?_
                refine rb_iconst hV dX10_addWord_174 ?_
                refine rb_iadd hV dX10_addWord_175 ?_
                refine rb_put hV (C := RX10) (T := TX10) (N := 24) (ci := 9) (j := 4) dX10_addWord_176 rfl (Nat.le_of_ble_eq_true rfl) lf_X10_90 rfl (gw_49 _) (Nat.le_of_ble_eq_true rfl) (ft_X10_4 _) (pw_49_4 _ _) ?_
                refine rb_ret hV (r := none) dX10_addWord_179 rfl ⟨(Nat.le_of_ble_eq_true rfl), (Nat.le_of_ble_eq_true rfl)⟩ trivial ?_
                have hu : u = Sm (fun q => sgW (s 56 q)) a b := by rw [h2, show k = b by omega]
                have hg : sgK (s 56 (b - 1)) = 1 := (if_neg e80).trans (if_pos e92)
                have hl : sgL (s 56 a) = sgM (s 56 a) := (if_pos (by omega)).trans (sgM_eq (hok a (Int.le_refl a) hab.2.1)).symm
                have hr : sgR (s 56 (b - 1)) = sgM (s 56 (b - 1)) := (if_pos (by omega)).trans (sgM_eq (hok (b - 1) (by omega) (by omega))).symm
                rw [hg, hl, hr, ← hu]
                exact ⟨rfl, rfl⟩
              · rw [if_neg e153]
                show V 156 [some (.inr (some 49)), some (.inl a), some (.inl b), some (.inl u), some (.inl (s 56 a)), some (.inl (s 56 (b - 1)))] [.inl 0, .inl (s 120 0), .inr (some 55)] (WW (ab_s (ab_s (ab_s (ab_s s 51 (ab_u (s 51) (s 120 0) u)) 52 (ab_u (s 52) (s 120 0) (b - a))) 53 (ab_u (s 53) (s 120 0) 1)) 54 (ab_u (s 54) (s 120 0) (sgM (s 56 a))))) 0 0
                refine rb_if_eq hV (tgt := 167) dX10_addWord_156 (by decide) (by unfold ab_r at *; omega) (fun _ => ?_) (fun z => absurd z (by decide))
                refine rb_iconst hV dX10_addWord_167 ?_
                refine rb_iast hV (f := (s 55)) dX10_addWord_168 (gw_55 _) (Nat.le_of_ble_eq_true rfl) (by omega) rfl (pw_55 _ _) ?_
                refine rb_aload_n hV dX10_addWord_169 rfl rfl ?_
                refine rb_dup hV dX10_addWord_170 ?_
                refine rb_get hV (v := .inl (s 120 0)) dX10_addWord_171 ⟨RX10, TX10, 24, rfl, (Nat.le_of_ble_eq_true rfl), lf_X10_90⟩ (gw_49 _) rfl ?_
                refine rb_iconst hV dX10_addWord_174 ?_
                refine rb_iadd hV dX10_addWord_175 ?_
                refine rb_put hV (C := RX10) (T := TX10) (N := 24) (ci := 9) (j := 4) dX10_addWord_176 rfl (Nat.le_of_ble_eq_true rfl) lf_X10_90 rfl (gw_49 _) (Nat.le_of_ble_eq_true rfl) (ft_X10_4 _) (pw_49_4 _ _) ?_
                refine rb_ret hV (r := none) dX10_addWord_179 rfl ⟨(Nat.le_of_ble_eq_true rfl), (Nat.le_of_ble_eq_true rfl)⟩ trivial ?_
                have hu : u = Sm (fun q => sgW (s 56 q)) a b := by rw [h2, show k = b by omega]
                have hg : sgK (s 56 (b - 1)) = 1 := (if_neg e80).trans (if_pos e92)
                have hl : sgL (s 56 a) = sgM (s 56 a) := (if_pos (by omega)).trans (sgM_eq (hok a (Int.le_refl a) hab.2.1)).symm
                have hr : sgR (s 56 (b - 1)) = 0 := if_neg (by omega)
                rw [hg, hl, hr, ← hu]
                exact ⟨rfl, rfl⟩
            · refine rb_iload hV dX10_addWord_119 rfl ?_
              refine rb_bipush hV dX10_addWord_121 (by decide) ?_
              refine rb_icmp_eq hV (tgt := 133) dX10_addWord_123 (by decide) ⟨(by unfold ab_r at *; omega), (by unfold ab_r at *; omega)⟩ (fun c123 => ?_) (fun c123 => ?_)
              · refine rb_iload hV dX10_addWord_133 rfl ?_
                refine rb_callS hV (rest := [.inl (s 120 0), .inr (some 54)]) dX10_addWord_135 (c_X10_widthOf (ab_s (ab_s (ab_s s 51 (ab_u (s 51) (s 120 0) u)) 52 (ab_u (s 52) (s 120 0) (b - a))) 53 (ab_u (s 53) (s 120 0) 1)) (s 56 a) (ht a)) lk_X10_86 rfl rfl ⟨rfl, rfl, (Nat.le_of_ble_eq_true rfl), (Nat.le_of_ble_eq_true rfl), (Nat.le_of_ble_eq_true rfl), (Nat.le_of_ble_eq_true rfl)⟩ (Nat.le_of_ble_eq_true rfl) (fun r9 h9 p9 => ?_)
                obtain ⟨rfl, rfl⟩ := p9
                show V 138 [some (.inr (some 49)), some (.inl a), some (.inl b), some (.inl u), some (.inl (s 56 a)), some (.inl (s 56 (b - 1)))] [.inl (sgM (s 56 a)), .inl (s 120 0), .inr (some 54)] (WW (ab_s (ab_s (ab_s s 51 (ab_u (s 51) (s 120 0) u)) 52 (ab_u (s 52) (s 120 0) (b - a))) 53 (ab_u (s 53) (s 120 0) 1))) 0 0
                refine rb_goto hV (tgt := 142) dX10_addWord_138 (by decide) ?_
                refine rb_iast hV (f := (s 54)) dX10_addWord_142 (gw_54 _) (Nat.le_of_ble_eq_true rfl) (by omega) rfl (pw_54 _ _) ?_
                refine rb_aload_n hV dX10_addWord_143 rfl rfl ?_
                refine rb_get hV (v := .inr (some 55)) dX10_addWord_144 ⟨RX10, TX10, 24, rfl, (Nat.le_of_ble_eq_true rfl), lf_X10_35⟩ (gw_49 _) rfl ?_
                refine rb_aload_n hV dX10_addWord_147 rfl rfl ?_
                refine rb_get hV (v := .inl (s 120 0)) dX10_addWord_148 ⟨RX10, TX10, 24, rfl, (Nat.le_of_ble_eq_true rfl), lf_X10_90⟩ (gw_49 _) rfl ?_
                refine rb_iload hV dX10_addWord_151 rfl ?_
                refine rb_callS hV (rest := [.inl (s 120 0), .inr (some 55)]) dX10_addWord_153 (c_X10_isMark (ab_s (ab_s (ab_s (ab_s s 51 (ab_u (s 51) (s 120 0) u)) 52 (ab_u (s 52) (s 120 0) (b - a))) 53 (ab_u (s 53) (s 120 0) 1)) 54 (ab_u (s 54) (s 120 0) (sgM (s 56 a)))) (s 56 (b - 1)) (ht (b - 1))) lk_X10_80 rfl rfl ⟨rfl, rfl, (Nat.le_of_ble_eq_true rfl), (Nat.le_of_ble_eq_true rfl), (Nat.le_of_ble_eq_true rfl), (Nat.le_of_ble_eq_true rfl)⟩ (Nat.le_of_ble_eq_true rfl) (fun r9 h9 p9 => ?_)
                obtain ⟨rfl, rfl⟩ := p9
                show V 156 [some (.inr (some 49)), some (.inl a), some (.inl b), some (.inl u), some (.inl (s 56 a)), some (.inl (s 56 (b - 1)))] [.inl (if (s 56 (b - 1)) = 46 ∨ (s 56 (b - 1)) = 33 ∨ (s 56 (b - 1)) = 63 ∨ (s 56 (b - 1)) = 44 ∨ (s 56 (b - 1)) = 59 ∨ (s 56 (b - 1)) = 58 ∨ (s 56 (b - 1)) = 45 ∨ (s 56 (b - 1)) = 39 ∨ (s 56 (b - 1)) = 34 then 1 else 0), .inl (s 120 0), .inr (some 55)] (WW (ab_s (ab_s (ab_s (ab_s s 51 (ab_u (s 51) (s 120 0) u)) 52 (ab_u (s 52) (s 120 0) (b - a))) 53 (ab_u (s 53) (s 120 0) 1)) 54 (ab_u (s 54) (s 120 0) (sgM (s 56 a))))) 0 0
                by_cases e153 : (s 56 (b - 1)) = 46 ∨ (s 56 (b - 1)) = 33 ∨ (s 56 (b - 1)) = 63 ∨ (s 56 (b - 1)) = 44 ∨ (s 56 (b - 1)) = 59 ∨ (s 56 (b - 1)) = 58 ∨ (s 56 (b - 1)) = 45 ∨ (s 56 (b - 1)) = 39 ∨ (s 56 (b - 1)) = 34
                · rw [if_pos e153]
                  show V 156 [some (.inr (some 49)), some (.inl a), some (.inl b), some (.inl u), some (.inl (s 56 a)), some (.inl (s 56 (b - 1)))] [.inl 1, .inl (s 120 0), .inr (some 55)] (WW (ab_s (ab_s (ab_s (ab_s s 51 (ab_u (s 51) (s 120 0) u)) 52 (ab_u (s 52) (s 120 0) (b - a))) 53 (ab_u (s 53) (s 120 0) 1)) 54 (ab_u (s 54) (s 120 0) (sgM (s 56 a))))) 0 0
                  refine rb_if_eq hV (tgt := 167) dX10_addWord_156 (by decide) (by unfold ab_r at *; omega) (fun z => absurd z (by decide)) (fun _ => ?_)
                  refine rb_iload hV dX10_addWord_159 rfl ?_
                  refine rb_callS hV (rest := [.inl (s 120 0), .inr (some 55)]) dX10_addWord_161 (c_X10_widthOf (ab_s (ab_s (ab_s (ab_s s 51 (ab_u (s 51) (s 120 0) u)) 52 (ab_u (s 52) (s 120 0) (b - a))) 53 (ab_u (s 53) (s 120 0) 1)) 54 (ab_u (s 54) (s 120 0) (sgM (s 56 a)))) (s 56 (b - 1)) (ht (b - 1))) lk_X10_86 rfl rfl ⟨rfl, rfl, (Nat.le_of_ble_eq_true rfl), (Nat.le_of_ble_eq_true rfl), (Nat.le_of_ble_eq_true rfl), (Nat.le_of_ble_eq_true rfl)⟩ (Nat.le_of_ble_eq_true rfl) (fun r9 h9 p9 => ?_)
                  obtain ⟨rfl, rfl⟩ := p9
                  show V 164 [some (.inr (some 49)), some (.inl a), some (.inl b), some (.inl u), some (.inl (s 56 a)), some (.inl (s 56 (b - 1)))] [.inl (sgM (s 56 (b - 1))), .inl (s 120 0), .inr (some 55)] (WW (ab_s (ab_s (ab_s (ab_s s 51 (ab_u (s 51) (s 120 0) u)) 52 (ab_u (s 52) (s 120 0) (b - a))) 53 (ab_u (s 53) (s 120 0) 1)) 54 (ab_u (s 54) (s 120 0) (sgM (s 56 a))))) 0 0
                  refine rb_goto hV (tgt := 168) dX10_addWord_164 (by decide) ?_
                  refine rb_iast hV (f := (s 55)) dX10_addWord_168 (gw_55 _) (Nat.le_of_ble_eq_true rfl) (by omega) rfl (pw_55 _ _) ?_
                  refine rb_aload_n hV dX10_addWord_169 rfl rfl ?_
                  refine rb_dup hV dX10_addWord_170 ?_
                  refine rb_get hV (v := .inl (s 120 0)) dX10_addWord_171 ⟨RX10, TX10, 24, rfl, (Nat.le_of_ble_eq_true rfl), lf_X10_90⟩ (gw_49 _) rfl ?_
                  refine rb_iconst hV dX10_addWord_174 ?_
                  refine rb_iadd hV dX10_addWord_175 ?_
                  refine rb_put hV (C := RX10) (T := TX10) (N := 24) (ci := 9) (j := 4) dX10_addWord_176 rfl (Nat.le_of_ble_eq_true rfl) lf_X10_90 rfl (gw_49 _) (Nat.le_of_ble_eq_true rfl) (ft_X10_4 _) (pw_49_4 _ _) ?_
                  refine rb_ret hV (r := none) dX10_addWord_179 rfl ⟨(Nat.le_of_ble_eq_true rfl), (Nat.le_of_ble_eq_true rfl)⟩ trivial ?_
                  have hu : u = Sm (fun q => sgW (s 56 q)) a b := by rw [h2, show k = b by omega]
                  have hg : sgK (s 56 (b - 1)) = 1 := (if_neg e80).trans (if_pos e92)
                  have hl : sgL (s 56 a) = sgM (s 56 a) := (if_pos (by omega)).trans (sgM_eq (hok a (Int.le_refl a) hab.2.1)).symm
                  have hr : sgR (s 56 (b - 1)) = sgM (s 56 (b - 1)) := (if_pos (by omega)).trans (sgM_eq (hok (b - 1) (by omega) (by omega))).symm
                  rw [hg, hl, hr, ← hu]
                  exact ⟨rfl, rfl⟩
                · rw [if_neg e153]
                  show V 156 [some (.inr (some 49)), some (.inl a), some (.inl b), some (.inl u), some (.inl (s 56 a)), some (.inl (s 56 (b - 1)))] [.inl 0, .inl (s 120 0), .inr (some 55)] (WW (ab_s (ab_s (ab_s (ab_s s 51 (ab_u (s 51) (s 120 0) u)) 52 (ab_u (s 52) (s 120 0) (b - a))) 53 (ab_u (s 53) (s 120 0) 1)) 54 (ab_u (s 54) (s 120 0) (sgM (s 56 a))))) 0 0
                  refine rb_if_eq hV (tgt := 167) dX10_addWord_156 (by decide) (by unfold ab_r at *; omega) (fun _ => ?_) (fun z => absurd z (by decide))
                  refine rb_iconst hV dX10_addWord_167 ?_
                  refine rb_iast hV (f := (s 55)) dX10_addWord_168 (gw_55 _) (Nat.le_of_ble_eq_true rfl) (by omega) rfl (pw_55 _ _) ?_
                  refine rb_aload_n hV dX10_addWord_169 rfl rfl ?_
                  refine rb_dup hV dX10_addWord_170 ?_
                  refine rb_get hV (v := .inl (s 120 0)) dX10_addWord_171 ⟨RX10, TX10, 24, rfl, (Nat.le_of_ble_eq_true rfl), lf_X10_90⟩ (gw_49 _) rfl ?_
                  refine rb_iconst hV dX10_addWord_174 ?_
                  refine rb_iadd hV dX10_addWord_175 ?_
                  refine rb_put hV (C := RX10) (T := TX10) (N := 24) (ci := 9) (j := 4) dX10_addWord_176 rfl (Nat.le_of_ble_eq_true rfl) lf_X10_90 rfl (gw_49 _) (Nat.le_of_ble_eq_true rfl) (ft_X10_4 _) (pw_49_4 _ _) ?_
                  refine rb_ret hV (r := none) dX10_addWord_179 rfl ⟨(Nat.le_of_ble_eq_true rfl), (Nat.le_of_ble_eq_true rfl)⟩ trivial ?_
                  have hu : u = Sm (fun q => sgW (s 56 q)) a b := by rw [h2, show k = b by omega]
                  have hg : sgK (s 56 (b - 1)) = 1 := (if_neg e80).trans (if_pos e92)
                  have hl : sgL (s 56 a) = sgM (s 56 a) := (if_pos (by omega)).trans (sgM_eq (hok a (Int.le_refl a) hab.2.1)).symm
                  have hr : sgR (s 56 (b - 1)) = 0 := if_neg (by omega)
                  rw [hg, hl, hr, ← hu]
                  exact ⟨rfl, rfl⟩
              · refine rb_iload hV dX10_addWord_126 rfl ?_
                refine rb_bipush hV dX10_addWord_128 (by decide) ?_
                refine rb_icmp_ne hV (tgt := 141) dX10_addWord_130 (by decide) ⟨(by unfold ab_r at *; omega), (by unfold ab_r at *; omega)⟩ (fun c130 => ?_) (fun c130 => ?_)
                · refine rb_iconst hV dX10_addWord_141 ?_
                  refine rb_iast hV (f := (s 54)) dX10_addWord_142 (gw_54 _) (Nat.le_of_ble_eq_true rfl) (by omega) rfl (pw_54 _ _) ?_
                  refine rb_aload_n hV dX10_addWord_143 rfl rfl ?_
                  refine rb_get hV (v := .inr (some 55)) dX10_addWord_144 ⟨RX10, TX10, 24, rfl, (Nat.le_of_ble_eq_true rfl), lf_X10_35⟩ (gw_49 _) rfl ?_
                  refine rb_aload_n hV dX10_addWord_147 rfl rfl ?_
                  refine rb_get hV (v := .inl (s 120 0)) dX10_addWord_148 ⟨RX10, TX10, 24, rfl, (Nat.le_of_ble_eq_true rfl), lf_X10_90⟩ (gw_49 _) rfl ?_
                  refine rb_iload hV dX10_addWord_151 rfl ?_
                  refine rb_callS hV (rest := [.inl (s 120 0), .inr (some 55)]) dX10_addWord_153 (c_X10_isMark (ab_s (ab_s (ab_s (ab_s s 51 (ab_u (s 51) (s 120 0) u)) 52 (ab_u (s 52) (s 120 0) (b - a))) 53 (ab_u (s 53) (s 120 0) 1)) 54 (ab_u (s 54) (s 120 0) 0)) (s 56 (b - 1)) (ht (b - 1))) lk_X10_80 rfl rfl ⟨rfl, rfl, (Nat.le_of_ble_eq_true rfl), (Nat.le_of_ble_eq_true rfl), (Nat.le_of_ble_eq_true rfl), (Nat.le_of_ble_eq_true rfl)⟩ (Nat.le_of_ble_eq_true rfl) (fun r9 h9 p9 => ?_)
                  obtain ⟨rfl, rfl⟩ := p9
                  show V 156 [some (.inr (some 49)), some (.inl a), some (.inl b), some (.inl u), some (.inl (s 56 a)), some (.inl (s 56 (b - 1)))] [.inl (if (s 56 (b - 1)) = 46 ∨ (s 56 (b - 1)) = 33 ∨ (s 56 (b - 1)) = 63 ∨ (s 56 (b - 1)) = 44 ∨ (s 56 (b - 1)) = 59 ∨ (s 56 (b - 1)) = 58 ∨ (s 56 (b - 1)) = 45 ∨ (s 56 (b - 1)) = 39 ∨ (s 56 (b - 1)) = 34 then 1 else 0), .inl (s 120 0), .inr (some 55)] (WW (ab_s (ab_s (ab_s (ab_s s 51 (ab_u (s 51) (s 120 0) u)) 52 (ab_u (s 52) (s 120 0) (b - a))) 53 (ab_u (s 53) (s 120 0) 1)) 54 (ab_u (s 54) (s 120 0) 0))) 0 0
                  by_cases e153 : (s 56 (b - 1)) = 46 ∨ (s 56 (b - 1)) = 33 ∨ (s 56 (b - 1)) = 63 ∨ (s 56 (b - 1)) = 44 ∨ (s 56 (b - 1)) = 59 ∨ (s 56 (b - 1)) = 58 ∨ (s 56 (b - 1)) = 45 ∨ (s 56 (b - 1)) = 39 ∨ (s 56 (b - 1)) = 34
                  · rw [if_pos e153]
                    show V 156 [some (.inr (some 49)), some (.inl a), some (.inl b), some (.inl u), some (.inl (s 56 a)), some (.inl (s 56 (b - 1)))] [.inl 1, .inl (s 120 0), .inr (some 55)] (WW (ab_s (ab_s (ab_s (ab_s s 51 (ab_u (s 51) (s 120 0) u)) 52 (ab_u (s 52) (s 120 0) (b - a))) 53 (ab_u (s 53) (s 120 0) 1)) 54 (ab_u (s 54) (s 120 0) 0))) 0 0
                    refine rb_if_eq hV (tgt := 167) dX10_addWord_156 (by decide) (by unfold ab_r at *; omega) (fun z => absurd z (by decide)) (fun _ => ?_)
                    refine rb_iload hV dX10_addWord_159 rfl ?_
                    refine rb_callS hV (rest := [.inl (s 120 0), .inr (some 55)]) dX10_addWord_161 (c_X10_widthOf (ab_s (ab_s (ab_s (ab_s s 51 (ab_u (s 51) (s 120 0) u)) 52 (ab_u (s 52) (s 120 0) (b - a))) 53 (ab_u (s 53) (s 120 0) 1)) 54 (ab_u (s 54) (s 120 0) 0)) (s 56 (b - 1)) (ht (b - 1))) lk_X10_86 rfl rfl ⟨rfl, rfl, (Nat.le_of_ble_eq_true rfl), (Nat.le_of_ble_eq_true rfl), (Nat.le_of_ble_eq_true rfl), (Nat.le_of_ble_eq_true rfl)⟩ (Nat.le_of_ble_eq_true rfl) (fun r9 h9 p9 => ?_)
                    obtain ⟨rfl, rfl⟩ := p9
                    show V 164 [some (.inr (some 49)), some (.inl a), some (.inl b), some (.inl u), some (.inl (s 56 a)), some (.inl (s 56 (b - 1)))] [.inl (sgM (s 56 (b - 1))), .inl (s 120 0), .inr (some 55)] (WW (ab_s (ab_s (ab_s (ab_s s 51 (ab_u (s 51) (s 120 0) u)) 52 (ab_u (s 52) (s 120 0) (b - a))) 53 (ab_u (s 53) (s 120 0) 1)) 54 (ab_u (s 54) (s 120 0) 0))) 0 0
                    refine rb_goto hV (tgt := 168) dX10_addWord_164 (by decide) ?_
                    refine rb_iast hV (f := (s 55)) dX10_addWord_168 (gw_55 _) (Nat.le_of_ble_eq_true rfl) (by omega) rfl (pw_55 _ _) ?_
                    refine rb_aload_n hV dX10_addWord_169 rfl rfl ?_
                    refine rb_dup hV dX10_addWord_170 ?_
                    refine rb_get hV (v := .inl (s 120 0)) dX10_addWord_171 ⟨RX10, TX10, 24, rfl, (Nat.le_of_ble_eq_true rfl), lf_X10_90⟩ (gw_49 _) rfl ?_
                    refine rb_iconst hV dX10_addWord_174 ?_
                    refine rb_iadd hV dX10_addWord_175 ?_
                    refine rb_put hV (C := RX10) (T := TX10) (N := 24) (ci := 9) (j := 4) dX10_addWord_176 rfl (Nat.le_of_ble_eq_true rfl) lf_X10_90 rfl (gw_49 _) (Nat.le_of_ble_eq_true rfl) (ft_X10_4 _) (pw_49_4 _ _) ?_
                    refine rb_ret hV (r := none) dX10_addWord_179 rfl ⟨(Nat.le_of_ble_eq_true rfl), (Nat.le_of_ble_eq_true rfl)⟩ trivial ?_
                    have hu : u = Sm (fun q => sgW (s 56 q)) a b := by rw [h2, show k = b by omega]
                    have hg : sgK (s 56 (b - 1)) = 1 := (if_neg e80).trans (if_pos e92)
                    have hl : sgL (s 56 a) = 0 := if_neg (by omega)
                    have hr : sgR (s 56 (b - 1)) = sgM (s 56 (b - 1)) := (if_pos (by omega)).trans (sgM_eq (hok (b - 1) (by omega) (by omega))).symm
                    rw [hg, hl, hr, ← hu]
                    exact ⟨rfl, rfl⟩
                  · rw [if_neg e153]
                    show V 156 [some (.inr (some 49)), some (.inl a), some (.inl b), some (.inl u), some (.inl (s 56 a)), some (.inl (s 56 (b - 1)))] [.inl 0, .inl (s 120 0), .inr (some 55)] (WW (ab_s (ab_s (ab_s (ab_s s 51 (ab_u (s 51) (s 120 0) u)) 52 (ab_u (s 52) (s 120 0) (b - a))) 53 (ab_u (s 53) (s 120 0) 1)) 54 (ab_u (s 54) (s 120 0) 0))) 0 0
                    refine rb_if_eq hV (tgt := 167) dX10_addWord_156 (by decide) (by unfold ab_r at *; omega) (fun _ => ?_) (fun z => absurd z (by decide))
                    refine rb_iconst hV dX10_addWord_167 ?_
                    refine rb_iast hV (f := (s 55)) dX10_addWord_168 (gw_55 _) (Nat.le_of_ble_eq_true rfl) (by omega) rfl (pw_55 _ _) ?_
                    refine rb_aload_n hV dX10_addWord_169 rfl rfl ?_
                    refine rb_dup hV dX10_addWord_170 ?_
                    refine rb_get hV (v := .inl (s 120 0)) dX10_addWord_171 ⟨RX10, TX10, 24, rfl, (Nat.le_of_ble_eq_true rfl), lf_X10_90⟩ (gw_49 _) rfl ?_
                    refine rb_iconst hV dX10_addWord_174 ?_
                    refine rb_iadd hV dX10_addWord_175 ?_
                    refine rb_put hV (C := RX10) (T := TX10) (N := 24) (ci := 9) (j := 4) dX10_addWord_176 rfl (Nat.le_of_ble_eq_true rfl) lf_X10_90 rfl (gw_49 _) (Nat.le_of_ble_eq_true rfl) (ft_X10_4 _) (pw_49_4 _ _) ?_
                    refine rb_ret hV (r := none) dX10_addWord_179 rfl ⟨(Nat.le_of_ble_eq_true rfl), (Nat.le_of_ble_eq_true rfl)⟩ trivial ?_
                    have hu : u = Sm (fun q => sgW (s 56 q)) a b := by rw [h2, show k = b by omega]
                    have hg : sgK (s 56 (b - 1)) = 1 := (if_neg e80).trans (if_pos e92)
                    have hl : sgL (s 56 a) = 0 := if_neg (by omega)
                    have hr : sgR (s 56 (b - 1)) = 0 := if_neg (by omega)
                    rw [hg, hl, hr, ← hu]
                    exact ⟨rfl, rfl⟩
                · refine rb_iload hV dX10_addWord_133 rfl ?_
                  refine rb_callS hV (rest := [.inl (s 120 0), .inr (some 54)]) dX10_addWord_135 (c_X10_widthOf (ab_s (ab_s (ab_s s 51 (ab_u (s 51) (s 120 0) u)) 52 (ab_u (s 52) (s 120 0) (b - a))) 53 (ab_u (s 53) (s 120 0) 1)) (s 56 a) (ht a)) lk_X10_86 rfl rfl ⟨rfl, rfl, (Nat.le_of_ble_eq_true rfl), (Nat.le_of_ble_eq_true rfl), (Nat.le_of_ble_eq_true rfl), (Nat.le_of_ble_eq_true rfl)⟩ (Nat.le_of_ble_eq_true rfl) (fun r9 h9 p9 => ?_)
                  obtain ⟨rfl, rfl⟩ := p9
                  show V 138 [some (.inr (some 49)), some (.inl a), some (.inl b), some (.inl u), some (.inl (s 56 a)), some (.inl (s 56 (b - 1)))] [.inl (sgM (s 56 a)), .inl (s 120 0), .inr (some 54)] (WW (ab_s (ab_s (ab_s s 51 (ab_u (s 51) (s 120 0) u)) 52 (ab_u (s 52) (s 120 0) (b - a))) 53 (ab_u (s 53) (s 120 0) 1))) 0 0
                  refine rb_goto hV (tgt := 142) dX10_addWord_138 (by decide) ?_
                  refine rb_iast hV (f := (s 54)) dX10_addWord_142 (gw_54 _) (Nat.le_of_ble_eq_true rfl) (by omega) rfl (pw_54 _ _) ?_
                  refine rb_aload_n hV dX10_addWord_143 rfl rfl ?_
                  refine rb_get hV (v := .inr (some 55)) dX10_addWord_144 ⟨RX10, TX10, 24, rfl, (Nat.le_of_ble_eq_true rfl), lf_X10_35⟩ (gw_49 _) rfl ?_
                  refine rb_aload_n hV dX10_addWord_147 rfl rfl ?_
                  refine rb_get hV (v := .inl (s 120 0)) dX10_addWord_148 ⟨RX10, TX10, 24, rfl, (Nat.le_of_ble_eq_true rfl), lf_X10_90⟩ (gw_49 _) rfl ?_
                  refine rb_iload hV dX10_addWord_151 rfl ?_
                  refine rb_callS hV (rest := [.inl (s 120 0), .inr (some 55)]) dX10_addWord_153 (c_X10_isMark (ab_s (ab_s (ab_s (ab_s s 51 (ab_u (s 51) (s 120 0) u)) 52 (ab_u (s 52) (s 120 0) (b - a))) 53 (ab_u (s 53) (s 120 0) 1)) 54 (ab_u (s 54) (s 120 0) (sgM (s 56 a)))) (s 56 (b - 1)) (ht (b - 1))) lk_X10_80 rfl rfl ⟨rfl, rfl, (Nat.le_of_ble_eq_true rfl), (Nat.le_of_ble_eq_true rfl), (Nat.le_of_ble_eq_true rfl), (Nat.le_of_ble_eq_true rfl)⟩ (Nat.le_of_ble_eq_true rfl) (fun r9 h9 p9 => ?_)
                  obtain ⟨rfl, rfl⟩ := p9
                  show V 156 [some (.inr (some 49)), some (.inl a), some (.inl b), some (.inl u), some (.inl (s 56 a)), some (.inl (s 56 (b - 1)))] [.inl (if (s 56 (b - 1)) = 46 ∨ (s 56 (b - 1)) = 33 ∨ (s 56 (b - 1)) = 63 ∨ (s 56 (b - 1)) = 44 ∨ (s 56 (b - 1)) = 59 ∨ (s 56 (b - 1)) = 58 ∨ (s 56 (b - 1)) = 45 ∨ (s 56 (b - 1)) = 39 ∨ (s 56 (b - 1)) = 34 then 1 else 0), .inl (s 120 0), .inr (some 55)] (WW (ab_s (ab_s (ab_s (ab_s s 51 (ab_u (s 51) (s 120 0) u)) 52 (ab_u (s 52) (s 120 0) (b - a))) 53 (ab_u (s 53) (s 120 0) 1)) 54 (ab_u (s 54) (s 120 0) (sgM (s 56 a))))) 0 0
                  by_cases e153 : (s 56 (b - 1)) = 46 ∨ (s 56 (b - 1)) = 33 ∨ (s 56 (b - 1)) = 63 ∨ (s 56 (b - 1)) = 44 ∨ (s 56 (b - 1)) = 59 ∨ (s 56 (b - 1)) = 58 ∨ (s 56 (b - 1)) = 45 ∨ (s 56 (b - 1)) = 39 ∨ (s 56 (b - 1)) = 34
                  · rw [if_pos e153]
                    show V 156 [some (.inr (some 49)), some (.inl a), some (.inl b), some (.inl u), some (.inl (s 56 a)), some (.inl (s 56 (b - 1)))] [.inl 1, .inl (s 120 0), .inr (some 55)] (WW (ab_s (ab_s (ab_s (ab_s s 51 (ab_u (s 51) (s 120 0) u)) 52 (ab_u (s 52) (s 120 0) (b - a))) 53 (ab_u (s 53) (s 120 0) 1)) 54 (ab_u (s 54) (s 120 0) (sgM (s 56 a))))) 0 0
                    refine rb_if_eq hV (tgt := 167) dX10_addWord_156 (by decide) (by unfold ab_r at *; omega) (fun z => absurd z (by decide)) (fun _ => ?_)
                    refine rb_iload hV dX10_addWord_159 rfl ?_
                    refine rb_callS hV (rest := [.inl (s 120 0), .inr (some 55)]) dX10_addWord_161 (c_X10_widthOf (ab_s (ab_s (ab_s (ab_s s 51 (ab_u (s 51) (s 120 0) u)) 52 (ab_u (s 52) (s 120 0) (b - a))) 53 (ab_u (s 53) (s 120 0) 1)) 54 (ab_u (s 54) (s 120 0) (sgM (s 56 a)))) (s 56 (b - 1)) (ht (b - 1))) lk_X10_86 rfl rfl ⟨rfl, rfl, (Nat.le_of_ble_eq_true rfl), (Nat.le_of_ble_eq_true rfl), (Nat.le_of_ble_eq_true rfl), (Nat.le_of_ble_eq_true rfl)⟩ (Nat.le_of_ble_eq_true rfl) (fun r9 h9 p9 => ?_)
                    obtain ⟨rfl, rfl⟩ := p9
                    show V 164 [some (.inr (some 49)), some (.inl a), some (.inl b), some (.inl u), some (.inl (s 56 a)), some (.inl (s 56 (b - 1)))] [.inl (sgM (s 56 (b - 1))), .inl (s 120 0), .inr (some 55)] (WW (ab_s (ab_s (ab_s (ab_s s 51 (ab_u (s 51) (s 120 0) u)) 52 (ab_u (s 52) (s 120 0) (b - a))) 53 (ab_u (s 53) (s 120 0) 1)) 54 (ab_u (s 54) (s 120 0) (sgM (s 56 a))))) 0 0
                    refine rb_goto hV (tgt := 168) dX10_addWord_164 (by decide) ?_
                    refine rb_iast hV (f := (s 55)) dX10_addWord_168 (gw_55 _) (Nat.le_of_ble_eq_true rfl) (by omega) rfl (pw_55 _ _) ?_
                    refine rb_aload_n hV dX10_addWord_169 rfl rfl ?_
                    refine rb_dup hV dX10_addWord_170 ?_
                    refine rb_get hV (v := .inl (s 120 0)) dX10_addWord_171 ⟨RX10, TX10, 24, rfl, (Nat.le_of_ble_eq_true rfl), lf_X10_90⟩ (gw_49 _) rfl ?_
                    refine rb_iconst hV dX10_addWord_174 ?_
                    refine rb_iadd hV dX10_addWord_175 ?_
                    refine rb_put hV (C := RX10) (T := TX10) (N := 24) (ci := 9) (j := 4) dX10_addWord_176 rfl (Nat.le_of_ble_eq_true rfl) lf_X10_90 rfl (gw_49 _) (Nat.le_of_ble_eq_true rfl) (ft_X10_4 _) (pw_49_4 _ _) ?_
                    refine rb_ret hV (r := none) dX10_addWord_179 rfl ⟨(Nat.le_of_ble_eq_true rfl), (Nat.le_of_ble_eq_true rfl)⟩ trivial ?_
                    have hu : u = Sm (fun q => sgW (s 56 q)) a b := by rw [h2, show k = b by omega]
                    have hg : sgK (s 56 (b - 1)) = 1 := (if_neg e80).trans (if_pos e92)
                    have hl : sgL (s 56 a) = sgM (s 56 a) := (if_pos (by omega)).trans (sgM_eq (hok a (Int.le_refl a) hab.2.1)).symm
                    have hr : sgR (s 56 (b - 1)) = sgM (s 56 (b - 1)) := (if_pos (by omega)).trans (sgM_eq (hok (b - 1) (by omega) (by omega))).symm
                    rw [hg, hl, hr, ← hu]
                    exact ⟨rfl, rfl⟩
                  · rw [if_neg e153]
                    show V 156 [some (.inr (some 49)), some (.inl a), some (.inl b), some (.inl u), some (.inl (s 56 a)), some (.inl (s 56 (b - 1)))] [.inl 0, .inl (s 120 0), .inr (some 55)] (WW (ab_s (ab_s (ab_s (ab_s s 51 (ab_u (s 51) (s 120 0) u)) 52 (ab_u (s 52) (s 120 0) (b - a))) 53 (ab_u (s 53) (s 120 0) 1)) 54 (ab_u (s 54) (s 120 0) (sgM (s 56 a))))) 0 0
                    refine rb_if_eq hV (tgt := 167) dX10_addWord_156 (by decide) (by unfold ab_r at *; omega) (fun _ => ?_) (fun z => absurd z (by decide))
                    refine rb_iconst hV dX10_addWord_167 ?_
                    refine rb_iast hV (f := (s 55)) dX10_addWord_168 (gw_55 _) (Nat.le_of_ble_eq_true rfl) (by omega) rfl (pw_55 _ _) ?_
                    refine rb_aload_n hV dX10_addWord_169 rfl rfl ?_
                    refine rb_dup hV dX10_addWord_170 ?_
                    refine rb_get hV (v := .inl (s 120 0)) dX10_addWord_171 ⟨RX10, TX10, 24, rfl, (Nat.le_of_ble_eq_true rfl), lf_X10_90⟩ (gw_49 _) rfl ?_
                    refine rb_iconst hV dX10_addWord_174 ?_
                    refine rb_iadd hV dX10_addWord_175 ?_
                    refine rb_put hV (C := RX10) (T := TX10) (N := 24) (ci := 9) (j := 4) dX10_addWord_176 rfl (Nat.le_of_ble_eq_true rfl) lf_X10_90 rfl (gw_49 _) (Nat.le_of_ble_eq_true rfl) (ft_X10_4 _) (pw_49_4 _ _) ?_
                    refine rb_ret hV (r := none) dX10_addWord_179 rfl ⟨(Nat.le_of_ble_eq_true rfl), (Nat.le_of_ble_eq_true rfl)⟩ trivial ?_
                    have hu : u = Sm (fun q => sgW (s 56 q)) a b := by rw [h2, show k = b by omega]
                    have hg : sgK (s 56 (b - 1)) = 1 := (if_neg e80).trans (if_pos e92)
                    have hl : sgL (s 56 a) = sgM (s 56 a) := (if_pos (by omega)).trans (sgM_eq (hok a (Int.le_refl a) hab.2.1)).symm
                    have hr : sgR (s 56 (b - 1)) = 0 := if_neg (by omega)
                    rw [hg, hl, hr, ← hu]
                    exact ⟨rfl, rfl⟩
          · rw [if_neg e92]
            show V 95 [some (.inr (some 49)), some (.inl a), some (.inl b), some (.inl u), some (.inl (s 56 a)), some (.inl (s 56 (b - 1)))] [.inl 0, .inl (s 120 0), .inr (some 53)] (WW (ab_s (ab_s s 51 (ab_u (s 51) (s 120 0) u)) 52 (ab_u (s 52) (s 120 0) (b - a)))) 0 0
            refine rb_if_eq hV (tgt := 102) dX10_addWord_95 (by decide) (by unfold ab_r at *; omega) (fun _ => ?_) (fun z => absurd z (by decide))
            refine rb_iconst hV dX10_addWord_102 ?_
            refine rb_iast hV (f := (s 53)) dX10_addWord_103 (gw_53 _) (Nat.le_of_ble_eq_true rfl) (by omega) rfl (pw_53 _ _) ?_
            refine rb_aload_n hV dX10_addWord_104 rfl rfl ?_
            refine rb_get hV (v := .inr (some 54)) dX10_addWord_105 ⟨RX10, TX10, 24, rfl, (Nat.le_of_ble_eq_true rfl), lf_X10_32⟩ (gw_49 _) rfl ?_
            refine rb_aload_n hV dX10_addWord_108 rfl rfl ?_
            refine rb_get hV (v := .inl (s 120 0)) dX10_addWord_109 ⟨RX10, TX10, 24, rfl, (Nat.le_of_ble_eq_true rfl), lf_X10_90⟩ (gw_49 _) rfl ?_
            refine rb_iload hV dX10_addWord_112 rfl ?_
            refine rb_bipush hV dX10_addWord_114 (by decide) ?_
            refine rb_icmp_eq hV (tgt := 133) dX10_addWord_116 (by decide) ⟨(by unfold ab_r at *; omega), (by unfold ab_r at *; omega)⟩ (fun c116 => ?_) (fun c116 => ?_)
            · refine rb_iload hV dX10_addWord_133 rfl ?_
              refine rb_callS hV (rest := [.inl (s 120 0), .inr (some 54)]) dX10_addWord_135 (c_X10_widthOf (ab_s (ab_s (ab_s s 51 (ab_u (s 51) (s 120 0) u)) 52 (ab_u (s 52) (s 120 0) (b - a))) 53 (ab_u (s 53) (s 120 0) 0)) (s 56 a) (ht a)) lk_X10_86 rfl rfl ⟨rfl, rfl, (Nat.le_of_ble_eq_true rfl), (Nat.le_of_ble_eq_true rfl), (Nat.le_of_ble_eq_true rfl), (Nat.le_of_ble_eq_true rfl)⟩ (Nat.le_of_ble_eq_true rfl) (fun r9 h9 p9 => ?_)
              obtain ⟨rfl, rfl⟩ := p9
              show V 138 [some (.inr (some 49)), some (.inl a), some (.inl b), some (.inl u), some (.inl (s 56 a)), some (.inl (s 56 (b - 1)))] [.inl (sgM (s 56 a)), .inl (s 120 0), .inr (some 54)] (WW (ab_s (ab_s (ab_s s 51 (ab_u (s 51) (s 120 0) u)) 52 (ab_u (s 52) (s 120 0) (b - a))) 53 (ab_u (s 53) (s 120 0) 0))) 0 0
              refine rb_goto hV (tgt := 142) dX10_addWord_138 (by decide) ?_
              refine rb_iast hV (f := (s 54)) dX10_addWord_142 (gw_54 _) (Nat.le_of_ble_eq_true rfl) (by omega) rfl (pw_54 _ _) ?_
              refine rb_aload_n hV dX10_addWord_143 rfl rfl ?_
              refine rb_get hV (v := .inr (some 55)) dX10_addWord_144 ⟨RX10, TX10, 24, rfl, (Nat.le_of_ble_eq_true rfl), lf_X10_35⟩ (gw_49 _) rfl ?_
              refine rb_aload_n hV dX10_addWord_147 rfl rfl ?_
              refine rb_get hV (v := .inl (s 120 0)) dX10_addWord_148 ⟨RX10, TX10, 24, rfl, (Nat.le_of_ble_eq_true rfl), lf_X10_90⟩ (gw_49 _) rfl ?_
              refine rb_iload hV dX10_addWord_151 rfl ?_
              refine rb_callS hV (rest := [.inl (s 120 0), .inr (some 55)]) dX10_addWord_153 (c_X10_isMark (ab_s (ab_s (ab_s (ab_s s 51 (ab_u (s 51) (s 120 0) u)) 52 (ab_u (s 52) (s 120 0) (b - a))) 53 (ab_u (s 53) (s 120 0) 0)) 54 (ab_u (s 54) (s 120 0) (sgM (s 56 a)))) (s 56 (b - 1)) (ht (b - 1))) lk_X10_80 rfl rfl ⟨rfl, rfl, (Nat.le_of_ble_eq_true rfl), (Nat.le_of_ble_eq_true rfl), (Nat.le_of_ble_eq_true rfl), (Nat.le_of_ble_eq_true rfl)⟩ (Nat.le_of_ble_eq_true rfl) (fun r9 h9 p9 => ?_)
              obtain ⟨rfl, rfl⟩ := p9
              show V 156 [some (.inr (some 49)), some (.inl a), some (.inl b), some (.inl u), some (.inl (s 56 a)), some (.inl (s 56 (b - 1)))] [.inl (if (s 56 (b - 1)) = 46 ∨ (s 56 (b - 1)) = 33 ∨ (s 56 (b - 1)) = 63 ∨ (s 56 (b - 1)) = 44 ∨ (s 56 (b - 1)) = 59 ∨ (s 56 (b - 1)) = 58 ∨ (s 56 (b - 1)) = 45 ∨ (s 56 (b - 1)) = 39 ∨ (s 56 (b - 1)) = 34 then 1 else 0), .inl (s 120 0), .inr (some 55)] (WW (ab_s (ab_s (ab_s (ab_s s 51 (ab_u (s 51) (s 120 0) u)) 52 (ab_u (s 52) (s 120 0) (b - a))) 53 (ab_u (s 53) (s 120 0) 0)) 54 (ab_u (s 54) (s 120 0) (sgM (s 56 a))))) 0 0
              by_cases e153 : (s 56 (b - 1)) = 46 ∨ (s 56 (b - 1)) = 33 ∨ (s 56 (b - 1)) = 63 ∨ (s 56 (b - 1)) = 44 ∨ (s 56 (b - 1)) = 59 ∨ (s 56 (b - 1)) = 58 ∨ (s 56 (b - 1)) = 45 ∨ (s 56 (b - 1)) = 39 ∨ (s 56 (b - 1)) = 34
              · rw [if_pos e153]
                show V 156 [some (.inr (some 49)), some (.inl a), some (.inl b), some (.inl u), some (.inl (s 56 a)), some (.inl (s 56 (b - 1)))] [.inl 1, .inl (s 120 0), .inr (some 55)] (WW (ab_s (ab_s (ab_s (ab_s s 51 (ab_u (s 51) (s 120 0) u)) 52 (ab_u (s 52) (s 120 0) (b - a))) 53 (ab_u (s 53) (s 120 0) 0)) 54 (ab_u (s 54) (s 120 0) (sgM (s 56 a))))) 0 0
                refine rb_if_eq hV (tgt := 167) dX10_addWord_156 (by decide) (by unfold ab_r at *; omega) (fun z => absurd z (by decide)) (fun _ => ?_)
                refine rb_iload hV dX10_addWord_159 rfl ?_
                refine rb_callS hV (rest := [.inl (s 120 0), .inr (some 55)]) dX10_addWord_161 (c_X10_widthOf (ab_s (ab_s (ab_s (ab_s s 51 (ab_u (s 51) (s 120 0) u)) 52 (ab_u (s 52) (s 120 0) (b - a))) 53 (ab_u (s 53) (s 120 0) 0)) 54 (ab_u (s 54) (s 120 0) (sgM (s 56 a)))) (s 56 (b - 1)) (ht (b - 1))) lk_X10_86 rfl rfl ⟨rfl, rfl, (Nat.le_of_ble_eq_true rfl), (Nat.le_of_ble_eq_true rfl), (Nat.le_of_ble_eq_true rfl), (Nat.le_of_ble_eq_true rfl)⟩ (Nat.le_of_ble_eq_true rfl) (fun r9 h9 p9 => ?_)
                obtain ⟨rfl, rfl⟩ := p9
                show V 164 [some (.inr (some 49)), some (.inl a), some (.inl b), some (.inl u), some (.inl (s 56 a)), some (.inl (s 56 (b - 1)))] [.inl (sgM (s 56 (b - 1))), .inl (s 120 0), .inr (some 55)] (WW (ab_s (ab_s (ab_s (ab_s s 51 (ab_u (s 51) (s 120 0) u)) 52 (ab_u (s 52) (s 120 0) (b - a))) 53 (ab_u (s 53) (s 120 0) 0)) 54 (ab_u (s 54) (s 120 0) (sgM (s 56 a))))) 0 0
                refine rb_goto hV (tgt := 168) dX10_addWord_164 (by decide) ?_
                refine rb_iast hV (f := (s 55)) dX10_addWord_168 (gw_55 _) (Nat.le_of_ble_eq_true rfl) (by omega) rfl (pw_55 _ _) ?_
                refine rb_aload_n hV dX10_addWord_169 rfl rfl ?_
                refine rb_dup hV dX10_addWord_170 ?_
                refine rb_get hV (v := .inl (s 120 0)) dX10_addWord_171 ⟨RX10, TX10, 24, rfl, (Nat.le_of_ble_eq_true rfl), lf_X10_90⟩ (gw_49 _) rfl ?_
                refine rb_iconst hV dX10_addWord_174 ?_
                refine rb_iadd hV dX10_addWord_175 ?_
                refine rb_put hV (C := RX10) (T := TX10) (N := 24) (ci := 9) (j := 4) dX10_addWord_176 rfl (Nat.le_of_ble_eq_true rfl) lf_X10_90 rfl (gw_49 _) (Nat.le_of_ble_eq_true rfl) (ft_X10_4 _) (pw_49_4 _ _) ?_
                refine rb_ret hV (r := none) dX10_addWord_179 rfl ⟨(Nat.le_of_ble_eq_true rfl), (Nat.le_of_ble_eq_true rfl)⟩ trivial ?_
                have hu : u = Sm (fun q => sgW (s 56 q)) a b := by rw [h2, show k = b by omega]
                have hg : sgK (s 56 (b - 1)) = 0 := (if_neg e80).trans (if_neg e92)
                have hl : sgL (s 56 a) = sgM (s 56 a) := (if_pos (by omega)).trans (sgM_eq (hok a (Int.le_refl a) hab.2.1)).symm
                have hr : sgR (s 56 (b - 1)) = sgM (s 56 (b - 1)) := (if_pos (by omega)).trans (sgM_eq (hok (b - 1) (by omega) (by omega))).symm
                rw [hg, hl, hr, ← hu]
                exact ⟨rfl, rfl⟩
              · rw [if_neg e153]
                show V 156 [some (.inr (some 49)), some (.inl a), some (.inl b), some (.inl u), some (.inl (s 56 a)), some (.inl (s 56 (b - 1)))] [.inl 0, .inl (s 120 0), .inr (some 55)] (WW (ab_s (ab_s (ab_s (ab_s s 51 (ab_u (s 51) (s 120 0) u)) 52 (ab_u (s 52) (s 120 0) (b - a))) 53 (ab_u (s 53) (s 120 0) 0)) 54 (ab_u (s 54) (s 120 0) (sgM (s 56 a))))) 0 0
                refine rb_if_eq hV (tgt := 167) dX10_addWord_156 (by decide) (by unfold ab_r at *; omega) (fun _ => ?_) (fun z => absurd z (by decide))
                refine rb_iconst hV dX10_addWord_167 ?_
                refine rb_iast hV (f := (s 55)) dX10_addWord_168 (gw_55 _) (Nat.le_of_ble_eq_true rfl) (by omega) rfl (pw_55 _ _) ?_
                refine rb_aload_n hV dX10_addWord_169 rfl rfl ?_
                refine rb_dup hV dX10_addWord_170 ?_
                refine rb_get hV (v := .inl (s 120 0)) dX10_addWord_171 ⟨RX10, TX10, 24, rfl, (Nat.le_of_ble_eq_true rfl), lf_X10_90⟩ (gw_49 _) rfl ?_
                refine rb_iconst hV dX10_addWord_174 ?_
                refine rb_iadd hV dX10_addWord_175 ?_
                refine rb_put hV (C := RX10) (T := TX10) (N := 24) (ci := 9) (j := 4) dX10_addWord_176 rfl (Nat.le_of_ble_eq_true rfl) lf_X10_90 rfl (gw_49 _) (Nat.le_of_ble_eq_true rfl) (ft_X10_4 _) (pw_49_4 _ _) ?_
                refine rb_ret hV (r := none) dX10_addWord_179 rfl ⟨(Nat.le_of_ble_eq_true rfl), (Nat.le_of_ble_eq_true rfl)⟩ trivial ?_
                have hu : u = Sm (fun q => sgW (s 56 q)) a b := by rw [h2, show k = b by omega]
                have hg : sgK (s 56 (b - 1)) = 0 := (if_neg e80).trans (if_neg e92)
                have hl : sgL (s 56 a) = sgM (s 56 a) := (if_pos (by omega)).trans (sgM_eq (hok a (Int.le_refl a) hab.2.1)).symm
                have hr : sgR (s 56 (b - 1)) = 0 := if_neg (by omega)
                rw [hg, hl, hr, ← hu]
                exact ⟨rfl, rfl⟩
            · refine rb_iload hV dX10_addWord_119 rfl ?_
              refine rb_bipush hV dX10_addWord_121 (by decide) ?_
              refine rb_icmp_eq hV (tgt := 133) dX10_addWord_123 (by decide) ⟨(by unfold ab_r at *; omega), (by unfold ab_r at *; omega)⟩ (fun c123 => ?_) (fun c123 => ?_)
              · refine rb_iload hV dX10_addWord_133 rfl ?_
                refine rb_callS hV (rest := [.inl (s 120 0), .inr (some 54)]) dX10_addWord_135 (c_X10_widthOf (ab_s (ab_s (ab_s s 51 (ab_u (s 51) (s 120 0) u)) 52 (ab_u (s 52) (s 120 0) (b - a))) 53 (ab_u (s 53) (s 120 0) 0)) (s 56 a) (ht a)) lk_X10_86 rfl rfl ⟨rfl, rfl, (Nat.le_of_ble_eq_true rfl), (Nat.le_of_ble_eq_true rfl), (Nat.le_of_ble_eq_true rfl), (Nat.le_of_ble_eq_true rfl)⟩ (Nat.le_of_ble_eq_true rfl) (fun r9 h9 p9 => ?_)
                obtain ⟨rfl, rfl⟩ := p9
                show V 138 [some (.inr (some 49)), some (.inl a), some (.inl b), some (.inl u), some (.inl (s 56 a)), some (.inl (s 56 (b - 1)))] [.inl (sgM (s 56 a)), .inl (s 120 0), .inr (some 54)] (WW (ab_s (ab_s (ab_s s 51 (ab_u (s 51) (s 120 0) u)) 52 (ab_u (s 52) (s 120 0) (b - a))) 53 (ab_u (s 53) (s 120 0) 0))) 0 0
                refine rb_goto hV (tgt := 142) dX10_addWord_138 (by decide) ?_
                refine rb_iast hV (f := (s 54)) dX10_addWord_142 (gw_54 _) (Nat.le_of_ble_eq_true rfl) (by omega) rfl (pw_54 _ _) ?_
                refine rb_aload_n hV dX10_addWord_143 rfl rfl ?_
                refine rb_get hV (v := .inr (some 55)) dX10_addWord_144 ⟨RX10, TX10, 24, rfl, (Nat.le_of_ble_eq_true rfl), lf_X10_35⟩ (gw_49 _) rfl ?_
                refine rb_aload_n hV dX10_addWord_147 rfl rfl ?_
                refine rb_get hV (v := .inl (s 120 0)) dX10_addWord_148 ⟨RX10, TX10, 24, rfl, (Nat.le_of_ble_eq_true rfl), lf_X10_90⟩ (gw_49 _) rfl ?_
                refine rb_iload hV dX10_addWord_151 rfl ?_
                refine rb_callS hV (rest := [.inl (s 120 0), .inr (some 55)]) dX10_addWord_153 (c_X10_isMark (ab_s (ab_s (ab_s (ab_s s 51 (ab_u (s 51) (s 120 0) u)) 52 (ab_u (s 52) (s 120 0) (b - a))) 53 (ab_u (s 53) (s 120 0) 0)) 54 (ab_u (s 54) (s 120 0) (sgM (s 56 a)))) (s 56 (b - 1)) (ht (b - 1))) lk_X10_80 rfl rfl ⟨rfl, rfl, (Nat.le_of_ble_eq_true rfl), (Nat.le_of_ble_eq_true rfl), (Nat.le_of_ble_eq_true rfl), (Nat.le_of_ble_eq_true rfl)⟩ (Nat.le_of_ble_eq_true rfl) (fun r9 h9 p9 => ?_)
                obtain ⟨rfl, rfl⟩ := p9
                show V 156 [some (.inr (some 49)), some (.inl a), some (.inl b), some (.inl u), some (.inl (s 56 a)), some (.inl (s 56 (b - 1)))] [.inl (if (s 56 (b - 1)) = 46 ∨ (s 56 (b - 1)) = 33 ∨ (s 56 (b - 1)) = 63 ∨ (s 56 (b - 1)) = 44 ∨ (s 56 (b - 1)) = 59 ∨ (s 56 (b - 1)) = 58 ∨ (s 56 (b - 1)) = 45 ∨ (s 56 (b - 1)) = 39 ∨ (s 56 (b - 1)) = 34 then 1 else 0), .inl (s 120 0), .inr (some 55)] (WW (ab_s (ab_s (ab_s (ab_s s 51 (ab_u (s 51) (s 120 0) u)) 52 (ab_u (s 52) (s 120 0) (b - a))) 53 (ab_u (s 53) (s 120 0) 0)) 54 (ab_u (s 54) (s 120 0) (sgM (s 56 a))))) 0 0
                by_cases e153 : (s 56 (b - 1)) = 46 ∨ (s 56 (b - 1)) = 33 ∨ (s 56 (b - 1)) = 63 ∨ (s 56 (b - 1)) = 44 ∨ (s 56 (b - 1)) = 59 ∨ (s 56 (b - 1)) = 58 ∨ (s 56 (b - 1)) = 45 ∨ (s 56 (b - 1)) = 39 ∨ (s 56 (b - 1)) = 34
                · rw [if_pos e153]
                  show V 156 [some (.inr (some 49)), some (.inl a), some (.inl b), some (.inl u), some (.inl (s 56 a)), some (.inl (s 56 (b - 1)))] [.inl 1, .inl (s 120 0), .inr (some 55)] (WW (ab_s (ab_s (ab_s (ab_s s 51 (ab_u (s 51) (s 120 0) u)) 52 (ab_u (s 52) (s 120 0) (b - a))) 53 (ab_u (s 53) (s 120 0) 0)) 54 (ab_u (s 54) (s 120 0) (sgM (s 56 a))))) 0 0
                  refine rb_if_eq hV (tgt := 167) dX10_addWord_156 (by decide) (by unfold ab_r at *; omega) (fun z => absurd z (by decide)) (fun _ => ?_)
                  refine rb_iload hV dX10_addWord_159 rfl ?_
                  refine rb_callS hV (rest := [.inl (s 120 0), .inr (some 55)]) dX10_addWord_161 (c_X10_widthOf (ab_s (ab_s (ab_s (ab_s s 51 (ab_u (s 51) (s 120 0) u)) 52 (ab_u (s 52) (s 120 0) (b - a))) 53 (ab_u (s 53) (s 120 0) 0)) 54 (ab_u (s 54) (s 120 0) (sgM (s 56 a)))) (s 56 (b - 1)) (ht (b - 1))) lk_X10_86 rfl rfl ⟨rfl, rfl, (Nat.le_of_ble_eq_true rfl), (Nat.le_of_ble_eq_true rfl), (Nat.le_of_ble_eq_true rfl), (Nat.le_of_ble_eq_true rfl)⟩ (Nat.le_of_ble_eq_true rfl) (fun r9 h9 p9 => ?_)
                  obtain ⟨rfl, rfl⟩ := p9
                  show V 164 [some (.inr (some 49)), some (.inl a), some (.inl b), some (.inl u), some (.inl (s 56 a)), some (.inl (s 56 (b - 1)))] [.inl (sgM (s 56 (b - 1))), .inl (s 120 0), .inr (some 55)] (WW (ab_s (ab_s (ab_s (ab_s s 51 (ab_u (s 51) (s 120 0) u)) 52 (ab_u (s 52) (s 120 0) (b - a))) 53 (ab_u (s 53) (s 120 0) 0)) 54 (ab_u (s 54) (s 120 0) (sgM (s 56 a))))) 0 0
                  refine rb_goto hV (tgt := 168) dX10_addWord_164 (by decide) ?_
                  refine rb_iast hV (f := (s 55)) dX10_addWord_168 (gw_55 _) (Nat.le_of_ble_eq_true rfl) (by omega) rfl (pw_55 _ _) ?_
                  refine rb_aload_n hV dX10_addWord_169 rfl rfl ?_
                  refine rb_dup hV dX10_addWord_170 ?_
                  refine rb_get hV (v := .inl (s 120 0)) dX10_addWord_171 ⟨RX10, TX10, 24, rfl, (Nat.le_of_ble_eq_true rfl), lf_X10_90⟩ (gw_49 _) rfl ?_
                  refine rb_iconst hV dX10_addWord_174 ?_
                  refine rb_iadd hV dX10_addWord_175 ?_
                  refine rb_put hV (C := RX10) (T := TX10) (N := 24) (ci := 9) (j := 4) dX10_addWord_176 rfl (Nat.le_of_ble_eq_true rfl) lf_X10_90 rfl (gw_49 _) (Nat.le_of_ble_eq_true rfl) (ft_X10_4 _) (pw_49_4 _ _) ?_
                  refine rb_ret hV (r := none) dX10_addWord_179 rfl ⟨(Nat.le_of_ble_eq_true rfl), (Nat.le_of_ble_eq_true rfl)⟩ trivial ?_
                  have hu : u = Sm (fun q => sgW (s 56 q)) a b := by rw [h2, show k = b by omega]
                  have hg : sgK (s 56 (b - 1)) = 0 := (if_neg e80).trans (if_neg e92)
                  have hl : sgL (s 56 a) = sgM (s 56 a) := (if_pos (by omega)).trans (sgM_eq (hok a (Int.le_refl a) hab.2.1)).symm
                  have hr : sgR (s 56 (b - 1)) = sgM (s 56 (b - 1)) := (if_pos (by omega)).trans (sgM_eq (hok (b - 1) (by omega) (by omega))).symm
                  rw [hg, hl, hr, ← hu]
                  exact ⟨rfl, rfl⟩
                · rw [if_neg e153]
                  show V 156 [some (.inr (some 49)), some (.inl a), some (.inl b), some (.inl u), some (.inl (s 56 a)), some (.inl (s 56 (b - 1)))] [.inl 0, .inl (s 120 0), .inr (some 55)] (WW (ab_s (ab_s (ab_s (ab_s s 51 (ab_u (s 51) (s 120 0) u)) 52 (ab_u (s 52) (s 120 0) (b - a))) 53 (ab_u (s 53) (s 120 0) 0)) 54 (ab_u (s 54) (s 120 0) (sgM (s 56 a))))) 0 0
                  refine rb_if_eq hV (tgt := 167) dX10_addWord_156 (by decide) (by unfold ab_r at *; omega) (fun _ => ?_) (fun z => absurd z (by decide))
                  refine rb_iconst hV dX10_addWord_167 ?_
                  refine rb_iast hV (f := (s 55)) dX10_addWord_168 (gw_55 _) (Nat.le_of_ble_eq_true rfl) (by omega) rfl (pw_55 _ _) ?_
                  refine rb_aload_n hV dX10_addWord_169 rfl rfl ?_
                  refine rb_dup hV dX10_addWord_170 ?_
                  refine rb_get hV (v := .inl (s 120 0)) dX10_addWord_171 ⟨RX10, TX10, 24, rfl, (Nat.le_of_ble_eq_true rfl), lf_X10_90⟩ (gw_49 _) rfl ?_
                  refine rb_iconst hV dX10_addWord_174 ?_
                  refine rb_iadd hV dX10_addWord_175 ?_
                  refine rb_put hV (C := RX10) (T := TX10) (N := 24) (ci := 9) (j := 4) dX10_addWord_176 rfl (Nat.le_of_ble_eq_true rfl) lf_X10_90 rfl (gw_49 _) (Nat.le_of_ble_eq_true rfl) (ft_X10_4 _) (pw_49_4 _ _) ?_
                  refine rb_ret hV (r := none) dX10_addWord_179 rfl ⟨(Nat.le_of_ble_eq_true rfl), (Nat.le_of_ble_eq_true rfl)⟩ trivial ?_
                  have hu : u = Sm (fun q => sgW (s 56 q)) a b := by rw [h2, show k = b by omega]
                  have hg : sgK (s 56 (b - 1)) = 0 := (if_neg e80).trans (if_neg e92)
                  have hl : sgL (s 56 a) = sgM (s 56 a) := (if_pos (by omega)).trans (sgM_eq (hok a (Int.le_refl a) hab.2.1)).symm
                  have hr : sgR (s 56 (b - 1)) = 0 := if_neg (by omega)
                  rw [hg, hl, hr, ← hu]
                  exact ⟨rfl, rfl⟩
              · refine rb_iload hV dX10_addWord_126 rfl ?_
                refine rb_bipush hV dX10_addWord_128 (by decide) ?_
                refine rb_icmp_ne hV (tgt := 141) dX10_addWord_130 (by decide) ⟨(by unfold ab_r at *; omega), (by unfold ab_r at *; omega)⟩ (fun c130 => ?_) (fun c130 => ?_)
                · refine rb_iconst hV dX10_addWord_141 ?_
                  refine rb_iast hV (f := (s 54)) dX10_addWord_142 (gw_54 _) (Nat.le_of_ble_eq_true rfl) (by omega) rfl (pw_54 _ _) ?_
                  refine rb_aload_n hV dX10_addWord_143 rfl rfl ?_
                  refine rb_get hV (v := .inr (some 55)) dX10_addWord_144 ⟨RX10, TX10, 24, rfl, (Nat.le_of_ble_eq_true rfl), lf_X10_35⟩ (gw_49 _) rfl ?_
                  refine rb_aload_n hV dX10_addWord_147 rfl rfl ?_
                  refine rb_get hV (v := .inl (s 120 0)) dX10_addWord_148 ⟨RX10, TX10, 24, rfl, (Nat.le_of_ble_eq_true rfl), lf_X10_90⟩ (gw_49 _) rfl ?_
                  refine rb_iload hV dX10_addWord_151 rfl ?_
                  refine rb_callS hV (rest := [.inl (s 120 0), .inr (some 55)]) dX10_addWord_153 (c_X10_isMark (ab_s (ab_s (ab_s (ab_s s 51 (ab_u (s 51) (s 120 0) u)) 52 (ab_u (s 52) (s 120 0) (b - a))) 53 (ab_u (s 53) (s 120 0) 0)) 54 (ab_u (s 54) (s 120 0) 0)) (s 56 (b - 1)) (ht (b - 1))) lk_X10_80 rfl rfl ⟨rfl, rfl, (Nat.le_of_ble_eq_true rfl), (Nat.le_of_ble_eq_true rfl), (Nat.le_of_ble_eq_true rfl), (Nat.le_of_ble_eq_true rfl)⟩ (Nat.le_of_ble_eq_true rfl) (fun r9 h9 p9 => ?_)
                  obtain ⟨rfl, rfl⟩ := p9
                  show V 156 [some (.inr (some 49)), some (.inl a), some (.inl b), some (.inl u), some (.inl (s 56 a)), some (.inl (s 56 (b - 1)))] [.inl (if (s 56 (b - 1)) = 46 ∨ (s 56 (b - 1)) = 33 ∨ (s 56 (b - 1)) = 63 ∨ (s 56 (b - 1)) = 44 ∨ (s 56 (b - 1)) = 59 ∨ (s 56 (b - 1)) = 58 ∨ (s 56 (b - 1)) = 45 ∨ (s 56 (b - 1)) = 39 ∨ (s 56 (b - 1)) = 34 then 1 else 0), .inl (s 120 0), .inr (some 55)] (WW (ab_s (ab_s (ab_s (ab_s s 51 (ab_u (s 51) (s 120 0) u)) 52 (ab_u (s 52) (s 120 0) (b - a))) 53 (ab_u (s 53) (s 120 0) 0)) 54 (ab_u (s 54) (s 120 0) 0))) 0 0
                  by_cases e153 : (s 56 (b - 1)) = 46 ∨ (s 56 (b - 1)) = 33 ∨ (s 56 (b - 1)) = 63 ∨ (s 56 (b - 1)) = 44 ∨ (s 56 (b - 1)) = 59 ∨ (s 56 (b - 1)) = 58 ∨ (s 56 (b - 1)) = 45 ∨ (s 56 (b - 1)) = 39 ∨ (s 56 (b - 1)) = 34
                  · rw [if_pos e153]
                    show V 156 [some (.inr (some 49)), some (.inl a), some (.inl b), some (.inl u), some (.inl (s 56 a)), some (.inl (s 56 (b - 1)))] [.inl 1, .inl (s 120 0), .inr (some 55)] (WW (ab_s (ab_s (ab_s (ab_s s 51 (ab_u (s 51) (s 120 0) u)) 52 (ab_u (s 52) (s 120 0) (b - a))) 53 (ab_u (s 53) (s 120 0) 0)) 54 (ab_u (s 54) (s 120 0) 0))) 0 0
                    refine rb_if_eq hV (tgt := 167) dX10_addWord_156 (by decide) (by unfold ab_r at *; omega) (fun z => absurd z (by decide)) (fun _ => ?_)
                    refine rb_iload hV dX10_addWord_159 rfl ?_
                    refine rb_callS hV (rest := [.inl (s 120 0), .inr (some 55)]) dX10_addWord_161 (c_X10_widthOf (ab_s (ab_s (ab_s (ab_s s 51 (ab_u (s 51) (s 120 0) u)) 52 (ab_u (s 52) (s 120 0) (b - a))) 53 (ab_u (s 53) (s 120 0) 0)) 54 (ab_u (s 54) (s 120 0) 0)) (s 56 (b - 1)) (ht (b - 1))) lk_X10_86 rfl rfl ⟨rfl, rfl, (Nat.le_of_ble_eq_true rfl), (Nat.le_of_ble_eq_true rfl), (Nat.le_of_ble_eq_true rfl), (Nat.le_of_ble_eq_true rfl)⟩ (Nat.le_of_ble_eq_true rfl) (fun r9 h9 p9 => ?_)
                    obtain ⟨rfl, rfl⟩ := p9
                    show V 164 [some (.inr (some 49)), some (.inl a), some (.inl b), some (.inl u), some (.inl (s 56 a)), some (.inl (s 56 (b - 1)))] [.inl (sgM (s 56 (b - 1))), .inl (s 120 0), .inr (some 55)] (WW (ab_s (ab_s (ab_s (ab_s s 51 (ab_u (s 51) (s 120 0) u)) 52 (ab_u (s 52) (s 120 0) (b - a))) 53 (ab_u (s 53) (s 120 0) 0)) 54 (ab_u (s 54) (s 120 0) 0))) 0 0
                    refine rb_goto hV (tgt := 168) dX10_addWord_164 (by decide) ?_
                    refine rb_iast hV (f := (s 55)) dX10_addWord_168 (gw_55 _) (Nat.le_of_ble_eq_true rfl) (by omega) rfl (pw_55 _ _) ?_
                    refine rb_aload_n hV dX10_addWord_169 rfl rfl ?_
                    refine rb_dup hV dX10_addWord_170 ?_
                    refine rb_get hV (v := .inl (s 120 0)) dX10_addWord_171 ⟨RX10, TX10, 24, rfl, (Nat.le_of_ble_eq_true rfl), lf_X10_90⟩ (gw_49 _) rfl ?_
                    refine rb_iconst hV dX10_addWord_174 ?_
                    refine rb_iadd hV dX10_addWord_175 ?_
                    refine rb_put hV (C := RX10) (T := TX10) (N := 24) (ci := 9) (j := 4) dX10_addWord_176 rfl (Nat.le_of_ble_eq_true rfl) lf_X10_90 rfl (gw_49 _) (Nat.le_of_ble_eq_true rfl) (ft_X10_4 _) (pw_49_4 _ _) ?_
                    refine rb_ret hV (r := none) dX10_addWord_179 rfl ⟨(Nat.le_of_ble_eq_true rfl), (Nat.le_of_ble_eq_true rfl)⟩ trivial ?_
                    have hu : u = Sm (fun q => sgW (s 56 q)) a b := by rw [h2, show k = b by omega]
                    have hg : sgK (s 56 (b - 1)) = 0 := (if_neg e80).trans (if_neg e92)
                    have hl : sgL (s 56 a) = 0 := if_neg (by omega)
                    have hr : sgR (s 56 (b - 1)) = sgM (s 56 (b - 1)) := (if_pos (by omega)).trans (sgM_eq (hok (b - 1) (by omega) (by omega))).symm
                    rw [hg, hl, hr, ← hu]
                    exact ⟨rfl, rfl⟩
                  · rw [if_neg e153]
                    show V 156 [some (.inr (some 49)), some (.inl a), some (.inl b), some (.inl u), some (.inl (s 56 a)), some (.inl (s 56 (b - 1)))] [.inl 0, .inl (s 120 0), .inr (some 55)] (WW (ab_s (ab_s (ab_s (ab_s s 51 (ab_u (s 51) (s 120 0) u)) 52 (ab_u (s 52) (s 120 0) (b - a))) 53 (ab_u (s 53) (s 120 0) 0)) 54 (ab_u (s 54) (s 120 0) 0))) 0 0
                    refine rb_if_eq hV (tgt := 167) dX10_addWord_156 (by decide) (by unfold ab_r at *; omega) (fun _ => ?_) (fun z => absurd z (by decide))
                    refine rb_iconst hV dX10_addWord_167 ?_
                    refine rb_iast hV (f := (s 55)) dX10_addWord_168 (gw_55 _) (Nat.le_of_ble_eq_true rfl) (by omega) rfl (pw_55 _ _) ?_
                    refine rb_aload_n hV dX10_addWord_169 rfl rfl ?_
                    refine rb_dup hV dX10_addWord_170 ?_
                    refine rb_get hV (v := .inl (s 120 0)) dX10_addWord_171 ⟨RX10, TX10, 24, rfl, (Nat.le_of_ble_eq_true rfl), lf_X10_90⟩ (gw_49 _) rfl ?_
                    refine rb_iconst hV dX10_addWord_174 ?_
                    refine rb_iadd hV dX10_addWord_175 ?_
                    refine rb_put hV (C := RX10) (T := TX10) (N := 24) (ci := 9) (j := 4) dX10_addWord_176 rfl (Nat.le_of_ble_eq_true rfl) lf_X10_90 rfl (gw_49 _) (Nat.le_of_ble_eq_true rfl) (ft_X10_4 _) (pw_49_4 _ _) ?_
                    refine rb_ret hV (r := none) dX10_addWord_179 rfl ⟨(Nat.le_of_ble_eq_true rfl), (Nat.le_of_ble_eq_true rfl)⟩ trivial ?_
                    have hu : u = Sm (fun q => sgW (s 56 q)) a b := by rw [h2, show k = b by omega]
                    have hg : sgK (s 56 (b - 1)) = 0 := (if_neg e80).trans (if_neg e92)
                    have hl : sgL (s 56 a) = 0 := if_neg (by omega)
                    have hr : sgR (s 56 (b - 1)) = 0 := if_neg (by omega)
                    rw [hg, hl, hr, ← hu]
                    exact ⟨rfl, rfl⟩
                · refine rb_iload hV dX10_addWord_133 rfl ?_
                  refine rb_callS hV (rest := [.inl (s 120 0), .inr (some 54)]) dX10_addWord_135 (c_X10_widthOf (ab_s (ab_s (ab_s s 51 (ab_u (s 51) (s 120 0) u)) 52 (ab_u (s 52) (s 120 0) (b - a))) 53 (ab_u (s 53) (s 120 0) 0)) (s 56 a) (ht a)) lk_X10_86 rfl rfl ⟨rfl, rfl, (Nat.le_of_ble_eq_true rfl), (Nat.le_of_ble_eq_true rfl), (Nat.le_of_ble_eq_true rfl), (Nat.le_of_ble_eq_true rfl)⟩ (Nat.le_of_ble_eq_true rfl) (fun r9 h9 p9 => ?_)
                  obtain ⟨rfl, rfl⟩ := p9
                  show V 138 [some (.inr (some 49)), some (.inl a), some (.inl b), some (.inl u), some (.inl (s 56 a)), some (.inl (s 56 (b - 1)))] [.inl (sgM (s 56 a)), .inl (s 120 0), .inr (some 54)] (WW (ab_s (ab_s (ab_s s 51 (ab_u (s 51) (s 120 0) u)) 52 (ab_u (s 52) (s 120 0) (b - a))) 53 (ab_u (s 53) (s 120 0) 0))) 0 0
                  refine rb_goto hV (tgt := 142) dX10_addWord_138 (by decide) ?_
                  refine rb_iast hV (f := (s 54)) dX10_addWord_142 (gw_54 _) (Nat.le_of_ble_eq_true rfl) (by omega) rfl (pw_54 _ _) ?_
                  refine rb_aload_n hV dX10_addWord_143 rfl rfl ?_
                  refine rb_get hV (v := .inr (some 55)) dX10_addWord_144 ⟨RX10, TX10, 24, rfl, (Nat.le_of_ble_eq_true rfl), lf_X10_35⟩ (gw_49 _) rfl ?_
                  refine rb_aload_n hV dX10_addWord_147 rfl rfl ?_
                  refine rb_get hV (v := .inl (s 120 0)) dX10_addWord_148 ⟨RX10, TX10, 24, rfl, (Nat.le_of_ble_eq_true rfl), lf_X10_90⟩ (gw_49 _) rfl ?_
                  refine rb_iload hV dX10_addWord_151 rfl ?_
                  refine rb_callS hV (rest := [.inl (s 120 0), .inr (some 55)]) dX10_addWord_153 (c_X10_isMark (ab_s (ab_s (ab_s (ab_s s 51 (ab_u (s 51) (s 120 0) u)) 52 (ab_u (s 52) (s 120 0) (b - a))) 53 (ab_u (s 53) (s 120 0) 0)) 54 (ab_u (s 54) (s 120 0) (sgM (s 56 a)))) (s 56 (b - 1)) (ht (b - 1))) lk_X10_80 rfl rfl ⟨rfl, rfl, (Nat.le_of_ble_eq_true rfl), (Nat.le_of_ble_eq_true rfl), (Nat.le_of_ble_eq_true rfl), (Nat.le_of_ble_eq_true rfl)⟩ (Nat.le_of_ble_eq_true rfl) (fun r9 h9 p9 => ?_)
                  obtain ⟨rfl, rfl⟩ := p9
                  show V 156 [some (.inr (some 49)), some (.inl a), some (.inl b), some (.inl u), some (.inl (s 56 a)), some (.inl (s 56 (b - 1)))] [.inl (if (s 56 (b - 1)) = 46 ∨ (s 56 (b - 1)) = 33 ∨ (s 56 (b - 1)) = 63 ∨ (s 56 (b - 1)) = 44 ∨ (s 56 (b - 1)) = 59 ∨ (s 56 (b - 1)) = 58 ∨ (s 56 (b - 1)) = 45 ∨ (s 56 (b - 1)) = 39 ∨ (s 56 (b - 1)) = 34 then 1 else 0), .inl (s 120 0), .inr (some 55)] (WW (ab_s (ab_s (ab_s (ab_s s 51 (ab_u (s 51) (s 120 0) u)) 52 (ab_u (s 52) (s 120 0) (b - a))) 53 (ab_u (s 53) (s 120 0) 0)) 54 (ab_u (s 54) (s 120 0) (sgM (s 56 a))))) 0 0
                  by_cases e153 : (s 56 (b - 1)) = 46 ∨ (s 56 (b - 1)) = 33 ∨ (s 56 (b - 1)) = 63 ∨ (s 56 (b - 1)) = 44 ∨ (s 56 (b - 1)) = 59 ∨ (s 56 (b - 1)) = 58 ∨ (s 56 (b - 1)) = 45 ∨ (s 56 (b - 1)) = 39 ∨ (s 56 (b - 1)) = 34
                  · rw [if_pos e153]
                    show V 156 [some (.inr (some 49)), some (.inl a), some (.inl b), some (.inl u), some (.inl (s 56 a)), some (.inl (s 56 (b - 1)))] [.inl 1, .inl (s 120 0), .inr (some 55)] (WW (ab_s (ab_s (ab_s (ab_s s 51 (ab_u (s 51) (s 120 0) u)) 52 (ab_u (s 52) (s 120 0) (b - a))) 53 (ab_u (s 53) (s 120 0) 0)) 54 (ab_u (s 54) (s 120 0) (sgM (s 56 a))))) 0 0
                    refine rb_if_eq hV (tgt := 167) dX10_addWord_156 (by decide) (by unfold ab_r at *; omega) (fun z => absurd z (by decide)) (fun _ => ?_)
                    refine rb_iload hV dX10_addWord_159 rfl ?_
                    refine rb_callS hV (rest := [.inl (s 120 0), .inr (some 55)]) dX10_addWord_161 (c_X10_widthOf (ab_s (ab_s (ab_s (ab_s s 51 (ab_u (s 51) (s 120 0) u)) 52 (ab_u (s 52) (s 120 0) (b - a))) 53 (ab_u (s 53) (s 120 0) 0)) 54 (ab_u (s 54) (s 120 0) (sgM (s 56 a)))) (s 56 (b - 1)) (ht (b - 1))) lk_X10_86 rfl rfl ⟨rfl, rfl, (Nat.le_of_ble_eq_true rfl), (Nat.le_of_ble_eq_true rfl), (Nat.le_of_ble_eq_true rfl), (Nat.le_of_ble_eq_true rfl)⟩ (Nat.le_of_ble_eq_true rfl) (fun r9 h9 p9 => ?_)
                    obtain ⟨rfl, rfl⟩ := p9
                    show V 164 [some (.inr (some 49)), some (.inl a), some (.inl b), some (.inl u), some (.inl (s 56 a)), some (.inl (s 56 (b - 1)))] [.inl (sgM (s 56 (b - 1))), .inl (s 120 0), .inr (some 55)] (WW (ab_s (ab_s (ab_s (ab_s s 51 (ab_u (s 51) (s 120 0) u)) 52 (ab_u (s 52) (s 120 0) (b - a))) 53 (ab_u (s 53) (s 120 0) 0)) 54 (ab_u (s 54) (s 120 0) (sgM (s 56 a))))) 0 0
                    refine rb_goto hV (tgt := 168) dX10_addWord_164 (by decide) ?_
                    refine rb_iast hV (f := (s 55)) dX10_addWord_168 (gw_55 _) (Nat.le_of_ble_eq_true rfl) (by omega) rfl (pw_55 _ _) ?_
                    refine rb_aload_n hV dX10_addWord_169 rfl rfl ?_
                    refine rb_dup hV dX10_addWord_170 ?_
                    refine rb_get hV (v := .inl (s 120 0)) dX10_addWord_171 ⟨RX10, TX10, 24, rfl, (Nat.le_of_ble_eq_true rfl), lf_X10_90⟩ (gw_49 _) rfl ?_
                    refine rb_iconst hV dX10_addWord_174 ?_
                    refine rb_iadd hV dX10_addWord_175 ?_
                    refine rb_put hV (C := RX10) (T := TX10) (N := 24) (ci := 9) (j := 4) dX10_addWord_176 rfl (Nat.le_of_ble_eq_true rfl) lf_X10_90 rfl (gw_49 _) (Nat.le_of_ble_eq_true rfl) (ft_X10_4 _) (pw_49_4 _ _) ?_
                    refine rb_ret hV (r := none) dX10_addWord_179 rfl ⟨(Nat.le_of_ble_eq_true rfl), (Nat.le_of_ble_eq_true rfl)⟩ trivial ?_
                    have hu : u = Sm (fun q => sgW (s 56 q)) a b := by rw [h2, show k = b by omega]
                    have hg : sgK (s 56 (b - 1)) = 0 := (if_neg e80).trans (if_neg e92)
                    have hl : sgL (s 56 a) = sgM (s 56 a) := (if_pos (by omega)).trans (sgM_eq (hok a (Int.le_refl a) hab.2.1)).symm
                    have hr : sgR (s 56 (b - 1)) = sgM (s 56 (b - 1)) := (if_pos (by omega)).trans (sgM_eq (hok (b - 1) (by omega) (by omega))).symm
                    rw [hg, hl, hr, ← hu]
                    exact ⟨rfl, rfl⟩
                  · rw [if_neg e153]
                    show V 156 [some (.inr (some 49)), some (.inl a), some (.inl b), some (.inl u), some (.inl (s 56 a)), some (.inl (s 56 (b - 1)))] [.inl 0, .inl (s 120 0), .inr (some 55)] (WW (ab_s (ab_s (ab_s (ab_s s 51 (ab_u (s 51) (s 120 0) u)) 52 (ab_u (s 52) (s 120 0) (b - a))) 53 (ab_u (s 53) (s 120 0) 0)) 54 (ab_u (s 54) (s 120 0) (sgM (s 56 a))))) 0 0
                    refine rb_if_eq hV (tgt := 167) dX10_addWord_156 (by decide) (by unfold ab_r at *; omega) (fun _ => ?_) (fun z => absurd z (by decide))
                    refine rb_iconst hV dX10_addWord_167 ?_
                    refine rb_iast hV (f := (s 55)) dX10_addWord_168 (gw_55 _) (Nat.le_of_ble_eq_true rfl) (by omega) rfl (pw_55 _ _) ?_
                    refine rb_aload_n hV dX10_addWord_169 rfl rfl ?_
                    refine rb_dup hV dX10_addWord_170 ?_
                    refine rb_get hV (v := .inl (s 120 0)) dX10_addWord_171 ⟨RX10, TX10, 24, rfl, (Nat.le_of_ble_eq_true rfl), lf_X10_90⟩ (gw_49 _) rfl ?_
                    refine rb_iconst hV dX10_addWord_174 ?_
                    refine rb_iadd hV dX10_addWord_175 ?_
                    refine rb_put hV (C := RX10) (T := TX10) (N := 24) (ci := 9) (j := 4) dX10_addWord_176 rfl (Nat.le_of_ble_eq_true rfl) lf_X10_90 rfl (gw_49 _) (Nat.le_of_ble_eq_true rfl) (ft_X10_4 _) (pw_49_4 _ _) ?_
                    refine rb_ret hV (r := none) dX10_addWord_179 rfl ⟨(Nat.le_of_ble_eq_true rfl), (Nat.le_of_ble_eq_true rfl)⟩ trivial ?_
                    have hu : u = Sm (fun q => sgW (s 56 q)) a b := by rw [h2, show k = b by omega]
                    have hg : sgK (s 56 (b - 1)) = 0 := (if_neg e80).trans (if_neg e92)
                    have hl : sgL (s 56 a) = sgM (s 56 a) := (if_pos (by omega)).trans (sgM_eq (hok a (Int.le_refl a) hab.2.1)).symm
                    have hr : sgR (s 56 (b - 1)) = 0 := if_neg (by omega)
                    rw [hg, hl, hr, ← hu]
                    exact ⟨rfl, rfl⟩
      · refine rb_iload_n hV dX10_addWord_11 rfl rfl ?_
        refine rb_aload_n hV dX10_addWord_12 rfl rfl ?_
        refine rb_get hV (v := .inr (some 56)) dX10_addWord_13 ⟨RX10, TX10, 24, rfl, (Nat.le_of_ble_eq_true rfl), lf_X10_38⟩ (gw_49 _) rfl ?_
        refine rb_iload hV dX10_addWord_16 rfl ?_
        refine rb_cald hV (f := (s 56)) dX10_addWord_18 (gw_56 _) (Nat.le_of_ble_eq_true rfl) (by omega) ?_
        refine rb_callS hV (rest := [.inl u]) dX10_addWord_19 (c_X10_widthOf s (s 56 k) (ht k)) lk_X10_86 rfl rfl ⟨rfl, rfl, (Nat.le_of_ble_eq_true rfl), (Nat.le_of_ble_eq_true rfl), (Nat.le_of_ble_eq_true rfl), (Nat.le_of_ble_eq_true rfl)⟩ (Nat.le_of_ble_eq_true rfl) (fun r9 h9 p9 => ?_)
        obtain ⟨rfl, rfl⟩ := p9
        show V 22 [some (.inr (some 49)), some (.inl a), some (.inl b), some (.inl u), some (.inl k), none] [.inl (sgM (s 56 k)), .inl u] (WW s) 0 0
        refine rb_iadd hV dX10_addWord_22 ?_
        refine rb_istore_n hV (L2 := [some (.inr (some 49)), some (.inl a), some (.inl b), some (.inl (u + (sgM (s 56 k)))), some (.inl k), none]) dX10_addWord_23 rfl (Nat.le_of_ble_eq_true rfl) rfl ?_
        refine rb_iinc hV (L2 := [some (.inr (some 49)), some (.inl a), some (.inl b), some (.inl (u + (sgM (s 56 k)))), some (.inl (k + 1)), none]) dX10_addWord_24 rfl rfl rfl ?_
        refine rb_goto hV (tgt := 5) dX10_addWord_27 (by decide) ?_
        refine ih5 (u + (sgM (s 56 k))) (k + 1) ?_ ?_ ?_
        · omega
        · rw [Sm_succ _ h1.1, h2, sgM_eq (hok k h1.1 (by omega))]
        · omega
  refine h5 _ 0 a ?_ ?_ (Nat.lt_succ_self _)
  · omega
  · rw [Sm_self]

theorem vM_12 {s : Nat → Int → Int} {k : Nat} (h : 12 ≤ k) : vM s k = vM s 12 := by
  unfold vM
  split <;> first | omega | rfl
def TKN (s : Nat → Int → Int) : Nat → Int → Int := (ab_s (ab_s (ab_s (ab_s (ab_s (ab_s s 120 (fun _ => tk (vM s) (s 56) (s 121 0).toNat 0 0)) 51 (tk (vM s) (s 56) (s 121 0).toNat 1)) 52 (tk (vM s) (s 56) (s 121 0).toNat 2)) 53 (tk (vM s) (s 56) (s 121 0).toNat 3)) 54 (tk (vM s) (s 56) (s 121 0).toNat 4)) 55 (tk (vM s) (s 56) (s 121 0).toNat 5))
theorem TKN_vM (s : Nat → Int → Int) : vM (TKN s) = parD (vM s) (s 56) (s 121 0) := by
  funext k
  rcases (show k = 0 ∨ k = 1 ∨ k = 2 ∨ k = 3 ∨ k = 4 ∨ k = 5 ∨ (k = 6 ∨ k = 7 ∨ k = 8 ∨ k = 9 ∨ k = 10 ∨ k = 11) ∨ 12 ≤ k by omega) with rfl | rfl | rfl | rfl | rfl | rfl | h | h
  · funext j
    exact (tk_0 (vM s) (s 56) j (s 121 0).toNat).symm
  · rfl
  · rfl
  · rfl
  · rfl
  · rfl
  · have e := tk_more (vM s) (s 56) (k := k) (by omega) (s 121 0).toNat
    have e2 : parD (vM s) (s 56) (s 121 0) k = tk (vM s) (s 56) (s 121 0).toNat k := ab_s_ne (by omega)
    rw [e2, e]
    rcases h with rfl | rfl | rfl | rfl | rfl | rfl <;> rfl
  · rw [vM_12 h]
    by_cases h20 : k = 20
    · subst h20
      rfl
    · have e := tk_more (vM s) (s 56) (k := k) (by omega) (s 121 0).toNat
      have e2 : parD (vM s) (s 56) (s 121 0) k = tk (vM s) (s 56) (s 121 0).toNat k := ab_s_ne h20
      rw [e2, e, vM_12 h]
      rfl
theorem MP_tk {s : Nat → Int → Int} (h : MP s) : MP (TKN s) := by
  refine ⟨?_, h.2⟩
  rw [TKN_vM]
  exact parD_PI h.1 _ h.2.2.2.1

set_option maxRecDepth 20000 in
theorem c_X10_readParagraph (s : Nat → Int → Int) (hx : MI s) : ab_Mt yX10_readParagraph cX10_readParagraph 3 (some .int) ({ frames := 7, cells := 0, slots := 0, locals := 164 } : Room) false 0 0 [.inr (some 49)] (WW s) (fun r h2 => ∃ v, FLT (s 56) (s 121 0) v ∧ ((¬ v = -1 ∧ RO s (-100 - v) r h2) ∨ (v = -1 ∧ UPDM (TKN s) (TKN s 120 0) r h2))) := by
  refine ab_mk RX10 false rfl pn_X10_readParagraph (fun z => by cases z) (Nat.le_of_ble_eq_true rfl) (fun V hV => ?_)
  show V 0 [some (.inr (some 49)), none, none] [] (WW s) 0 0
  obtain ⟨hp, hbw, hv, hms0, hz0, hx3, hx4⟩ := id hx
  have hn : 0 ≤ s 120 0 ∧ s 120 0 ≤ 60 := hp.1
  have hnl : 0 ≤ s 125 0 ∧ s 125 0 ≤ s 120 0 := hv.1
  have hb := BWq_BS hp hbw
  have hsw := (MST_b hms0).1
  have hln := (MST_b hms0).2
  refine rb_iconst hV dX10_readParagraph_0 ?_
  refine rb_istore_n hV (L2 := [some (.inr (some 49)), some (.inl 0), none]) dX10_readParagraph_1 rfl (Nat.le_of_ble_eq_true rfl) rfl ?_
  have h2 : ∀ (n2 : Nat) (k : Int), (0 ≤ k ∧ k ≤ s 121 0) → (∀ q, 0 ≤ q → q < k → okc (s 56 q)) → ((s 121 0 - k).toNat) < n2 → V 2 [some (.inr (some 49)), some (.inl k), none] [] (WW s) 0 0 := by
    intro n2
    induction n2 with
    | zero => intro k h1 h2 hm; omega
    | succ n2 ih2 =>
      intro k h1 h2 hm
      have htk := hx4 k
      refine rb_iload_n hV dX10_readParagraph_2 rfl rfl ?_
      refine rb_aload_n hV dX10_readParagraph_3 rfl rfl ?_
      refine rb_get hV (v := .inl (s 121 0)) dX10_readParagraph_4 ⟨RX10, TX10, 24, rfl, (Nat.le_of_ble_eq_true rfl), lf_X10_83⟩ (gw_49 _) rfl ?_
      refine rb_icmp_ge hV (tgt := 33) dX10_readParagraph_7 (by decide) ⟨(by unfold ab_r at *; omega), (by unfold ab_r at *; omega)⟩ (fun c7 => ?_) (fun c7 => ?_)
      · have hall : ∀ q, 0 ≤ q → q < s 121 0 → okc (s 56 q) := fun q q1 q2 => h2 q q1 (by omega)
        clear h1 h2 hm
        refine rb_aload_n hV dX10_readParagraph_33 rfl rfl ?_
        refine rb_iconst hV dX10_readParagraph_34 ?_
        refine rb_put hV (C := RX10) (T := TX10) (N := 24) (ci := 9) (j := 4) dX10_readParagraph_35 rfl (Nat.le_of_ble_eq_true rfl) lf_X10_90 rfl (gw_49 _) (Nat.le_of_ble_eq_true rfl) (ft_X10_4 _) (pw_49_4 _ _) ?_
        refine rb_iconst hV dX10_readParagraph_38 ?_
        refine rb_istore_n hV (L2 := [some (.inr (some 49)), some (.inl 0), none]) dX10_readParagraph_39 rfl (Nat.le_of_ble_eq_true rfl) rfl ?_
        refine rb_heq (b := (ab_s (ab_s (ab_s (ab_s (ab_s (ab_s s 120 (fun _ => 0)) 51 (s 51)) 52 (s 52)) 53 (s 53)) 54 (s 54)) 55 (s 55))) ((ab_s_id rfl).trans ((ab_s_id rfl).trans ((ab_s_id rfl).trans ((ab_s_id rfl).trans (ab_s_id rfl))))).symm ?_
        have h40 : ∀ (n40 : Nat) (k : Int) (W : Int) (wd : Int → Int) (sz : Int → Int) (kd : Int → Int) (lm : Int → Int) (rm : Int → Int), (0 ≤ k ∧ k ≤ s 121 0 + 1) → ((k ≤ s 121 0 → TKc (vM s) (s 56) k W wd sz kd lm rm ∧ tk (vM s) (s 56) k.toNat 20 0 = 0) ∧ (s 121 0 < k → TKc (vM s) (s 56) (s 121 0) W wd sz kd lm rm)) → ((s 121 0 + 1 - k).toNat) < n40 → V 40 [some (.inr (some 49)), some (.inl k), none] [] (WW (ab_s (ab_s (ab_s (ab_s (ab_s (ab_s s 120 (fun _ => W)) 51 wd) 52 sz) 53 kd) 54 lm) 55 rm)) 0 0 := by
          intro n40
          induction n40 with
          | zero => intro k W wd sz kd lm rm h1 h2 hm; omega
          | succ n40 ih40 =>
            intro k W wd sz kd lm rm h1 h2 hm
            refine rb_iload_n hV dX10_readParagraph_40 rfl rfl ?_
            refine rb_aload_n hV dX10_readParagraph_41 rfl rfl ?_
            refine rb_get hV (v := .inl (s 121 0)) dX10_readParagraph_42 ⟨RX10, TX10, 24, rfl, (Nat.le_of_ble_eq_true rfl), lf_X10_83⟩ (gw_49 _) rfl ?_
            refine rb_icmp_ge hV (tgt := 93) dX10_readParagraph_45 (by decide) ⟨(by unfold ab_r at *; omega), (by unfold ab_r at *; omega)⟩ (fun c45 => ?_) (fun c45 => ?_)
            · obtain ⟨y1, y2, y3, y4, y5, y6⟩ : TKc (vM s) (s 56) (s 121 0) W wd sz kd lm rm := by
                by_cases q : k = s 121 0
                · rw [← q]
                  exact (h2.1 (by omega)).1
                · exact h2.2 (by omega)
              have hxp : MP (ab_s (ab_s (ab_s (ab_s (ab_s (ab_s s 120 (fun _ => W)) 51 wd) 52 sz) 53 kd) 54 lm) 55 rm) := by
                rw [y1, y2, y3, y4, y5, y6]
                exact MP_tk (MI_MP hx)
              refine rb_aload_n hV dX10_readParagraph_93 rfl rfl ?_
              refine rb_callV hV (rest := []) dX10_readParagraph_94 (c_X10_layAnew (ab_s (ab_s (ab_s (ab_s (ab_s (ab_s s 120 (fun _ => W)) 51 wd) 52 sz) 53 kd) 54 lm) 55 rm) hxp) lk_X10_66 rfl (Or.inl ⟨9, _, TX10, 24, gw_49 _, rfl⟩) rfl ⟨rfl, rfl, (Nat.le_of_ble_eq_true rfl), (Nat.le_of_ble_eq_true rfl), (Nat.le_of_ble_eq_true rfl), (Nat.le_of_ble_eq_true rfl)⟩ (Nat.le_of_ble_eq_true rfl) (fun r9 h9 p9 => ?_)
              obtain ⟨s2, rfl, rfl, hmi, hbest, hkeep⟩ := p9
              show V 97 [some (.inr (some 49)), some (.inl k), none] [] (WW s2) 0 0
              refine rb_aload_n hV dX10_readParagraph_97 rfl rfl ?_
              refine rb_get hV (v := .inl (s2 120 0)) dX10_readParagraph_98 ⟨RX10, TX10, 24, rfl, (Nat.le_of_ble_eq_true rfl), lf_X10_90⟩ (gw_49 _) rfl ?_
              refine rb_ret hV (r := some (.inl (s2 120 0))) dX10_readParagraph_101 rfl ⟨(Nat.le_of_ble_eq_true rfl), (Nat.le_of_ble_eq_true rfl)⟩ trivial ?_
              rw [y1, y2, y3, y4, y5, y6] at hkeep
              exact ⟨-1, Or.inl ⟨rfl, hall⟩, Or.inr ⟨rfl, s2, congrArg (fun z : Int => some (Sum.inl z)) (congrArg (fun f : Int → Int => f 0) (hkeep 120 (by decide))), rfl, hmi, hbest, hkeep⟩⟩
            · refine rb_iload_n hV dX10_readParagraph_48 rfl rfl ?_
              refine rb_istore_n hV (L2 := [some (.inr (some 49)), some (.inl k), some (.inl k)]) dX10_readParagraph_49 rfl (Nat.le_of_ble_eq_true rfl) rfl ?_
              have h50 : ∀ (n50 : Nat) (e : Int), (k ≤ e ∧ e ≤ s 121 0) → (∀ j, k ≤ j → j < e → ¬ s 56 j = 32) → ((s 121 0 - e).toNat) < n50 → V 50 [some (.inr (some 49)), some (.inl k), some (.inl e)] [] (WW (ab_s (ab_s (ab_s (ab_s (ab_s (ab_s s 120 (fun _ => W)) 51 wd) 52 sz) 53 kd) 54 lm) 55 rm)) 0 0 := by
                intro n50
                induction n50 with
                | zero => intro e g1 g2 hm; omega
                | succ n50 ih50 =>
                  intro e g1 g2 hm
                  have hte := hx4 e
                  refine rb_iload_n hV dX10_readParagraph_50 rfl rfl ?_
                  refine rb_aload_n hV dX10_readParagraph_51 rfl rfl ?_
                  refine rb_get hV (v := .inl (s 121 0)) dX10_readParagraph_52 ⟨RX10, TX10, 24, rfl, (Nat.le_of_ble_eq_true rfl), lf_X10_83⟩ (gw_49 _) rfl ?_
                  refine rb_icmp_ge hV (tgt := 75) dX10_readParagraph_55 (by decide) ⟨(by unfold ab_r at *; omega), (by unfold ab_r at *; omega)⟩ (fun c55 => ?_) (fun c55 => ?_)
                  · have hend : e < s 121 0 → s 56 e = 32 := fun q => by omega
                    refine rb_iload_n hV dX10_readParagraph_75 rfl rfl ?_
                    refine rb_iload_n hV dX10_readParagraph_76 rfl rfl ?_
                    refine rb_icmp_le hV (tgt := 86) dX10_readParagraph_77 (by decide) ⟨(by unfold ab_r at *; omega), (by unfold ab_r at *; omega)⟩ (fun c77 => ?_) (fun c77 => ?_)
                    · refine rb_iload_n hV dX10_readParagraph_86 rfl rfl ?_
                      refine rb_iconst hV dX10_readParagraph_87 ?_
                      refine rb_iadd hV dX10_readParagraph_88 ?_
                      refine rb_istore_n hV (L2 := [some (.inr (some 49)), some (.inl (e + 1)), some (.inl e)]) dX10_readParagraph_89 rfl (Nat.le_of_ble_eq_true rfl) rfl ?_
                      refine rb_goto hV (tgt := 40) dX10_readParagraph_90 (by decide) ?_
                      refine rb_weak hV (L2 := [some (.inr (some 49)), some (.inl (e + 1)), none]) ⟨rfl, ⟨rfl, trivial⟩⟩ ?_
                      refine ih40 (e + 1) W (wd) (sz) (kd) (lm) (rm) ?_ ?_ ?_
                      · omega
                      · have eq : e = k := by omega
                        subst eq
                        exact ⟨fun q => TK_b (by omega) (h2.1 (by omega)).1 (hend (by omega)), fun q => by rw [show s 121 0 = e by omega]; exact absurd q (by omega)⟩
                      · omega
                    · have hWb : 0 ≤ W ∧ W < 60 := by
                        obtain ⟨a1, a2⟩ := h2.1 (by omega)
                        have q := tk_in (vM s) (s 56) k.toNat
                        have := q.1
                        have := q.2.1
                        have := a1.1
                        omega
                      have hok : ∀ v, k ≤ v → v < e → ¬ sgW (s 56 v) = 0 := fun v q1 q2 => (hall v (by omega) (by omega)).resolve_left (g2 v q1 q2)
                      refine rb_aload_n hV dX10_readParagraph_80 rfl rfl ?_
                      refine rb_iload_n hV dX10_readParagraph_81 rfl rfl ?_
                      refine rb_iload_n hV dX10_readParagraph_82 rfl rfl ?_
                      refine rb_callV hV (rest := []) dX10_readParagraph_83 (c_X10_addWord (ab_s (ab_s (ab_s (ab_s (ab_s (ab_s s 120 (fun _ => W)) 51 wd) 52 sz) 53 kd) 54 lm) 55 rm) k e (by omega) (show 0 ≤ W ∧ W < 60 by omega) hx4 hok) lk_X10_96 rfl (Or.inl ⟨9, _, TX10, 24, gw_49 _, rfl⟩) rfl ⟨rfl, rfl, (Nat.le_of_ble_eq_true rfl), (Nat.le_of_ble_eq_true rfl), (Nat.le_of_ble_eq_true rfl), (Nat.le_of_ble_eq_true rfl)⟩ (Nat.le_of_ble_eq_true rfl) (fun r9 h9 p9 => ?_)
                      obtain ⟨rfl, rfl⟩ := p9
                      refine rb_heq (b := (ab_s (ab_s (ab_s (ab_s (ab_s (ab_s s 120 (fun _ => W + 1)) 51 (ab_u (wd) W (Sm (fun q => sgW (s 56 q)) k e))) 52 (ab_u (sz) W (e - k))) 53 (ab_u (kd) W (sgK (s 56 (e - 1))))) 54 (ab_u (lm) W (sgL (s 56 k)))) 55 (ab_u (rm) W (sgR (s 56 (e - 1)))))) ((congrArg (fun x => ab_s x 120 _) ((congrArg (fun x => ab_s x 55 _) ((congrArg (fun x => ab_s x 54 _) ((congrArg (fun x => ab_s x 53 _) ((congrArg (fun x => ab_s x 52 _) ((ab_s_sw (by decide)).trans (congrArg (fun x => ab_s x 55 _) ((ab_s_sw (by decide)).trans (congrArg (fun x => ab_s x 54 _) ((ab_s_sw (by decide)).trans (congrArg (fun x => ab_s x 53 _) ((ab_s_sw (by decide)).trans (congrArg (fun x => ab_s x 52 _) (ab_s_same _ 51 _ _)))))))))).trans ((ab_s_sw (by decide)).trans (congrArg (fun x => ab_s x 55 _) ((ab_s_sw (by decide)).trans (congrArg (fun x => ab_s x 54 _) ((ab_s_sw (by decide)).trans (congrArg (fun x => ab_s x 53 _) (ab_s_same _ 52 _ _))))))))).trans ((ab_s_sw (by decide)).trans (congrArg (fun x => ab_s x 55 _) ((ab_s_sw (by decide)).trans (congrArg (fun x => ab_s x 54 _) (ab_s_same _ 53 _ _))))))).trans ((ab_s_sw (by decide)).trans (congrArg (fun x => ab_s x 55 _) (ab_s_same _ 54 _ _))))).trans (ab_s_same _ 55 _ _))).trans ((ab_s_sw (by decide)).trans (congrArg (fun x => ab_s x 55 _) ((ab_s_sw (by decide)).trans (congrArg (fun x => ab_s x 54 _) ((ab_s_sw (by decide)).trans (congrArg (fun x => ab_s x 53 _) ((ab_s_sw (by decide)).trans (congrArg (fun x => ab_s x 52 _) ((ab_s_sw (by decide)).trans (congrArg (fun x => ab_s x 51 _) (ab_s_same _ 120 _ _)))))))))))) ?_
                      show V 86 [some (.inr (some 49)), some (.inl k), some (.inl e)] [] (WW (ab_s (ab_s (ab_s (ab_s (ab_s (ab_s s 120 (fun _ => W + 1)) 51 (ab_u (wd) W (Sm (fun q => sgW (s 56 q)) k e))) 52 (ab_u (sz) W (e - k))) 53 (ab_u (kd) W (sgK (s 56 (e - 1))))) 54 (ab_u (lm) W (sgL (s 56 k)))) 55 (ab_u (rm) W (sgR (s 56 (e - 1)))))) 0 0
                      refine rb_iload_n hV dX10_readParagraph_86 rfl rfl ?_
                      refine rb_iconst hV dX10_readParagraph_87 ?_
                      refine rb_iadd hV dX10_readParagraph_88 ?_
                      refine rb_istore_n hV (L2 := [some (.inr (some 49)), some (.inl (e + 1)), some (.inl e)]) dX10_readParagraph_89 rfl (Nat.le_of_ble_eq_true rfl) rfl ?_
                      refine rb_goto hV (tgt := 40) dX10_readParagraph_90 (by decide) ?_
                      refine rb_weak hV (L2 := [some (.inr (some 49)), some (.inl (e + 1)), none]) ⟨rfl, ⟨rfl, trivial⟩⟩ ?_
                      refine ih40 (e + 1) (W + 1) (ab_u (wd) W (Sm (fun q => sgW (s 56 q)) k e)) (ab_u (sz) W (e - k)) (ab_u (kd) W (sgK (s 56 (e - 1)))) (ab_u (lm) W (sgL (s 56 k))) (ab_u (rm) W (sgR (s 56 (e - 1)))) ?_ ?_ ?_
                      · omega
                      · exact ⟨fun q => TK_b (by omega) (TK_w h1.1 (by omega) (h2.1 (by omega)).1 (h2.1 (by omega)).2 g2) (hend (by omega)), fun q => by rw [show s 121 0 = e by omega]; exact (TK_w h1.1 (by omega) (h2.1 (by omega)).1 (h2.1 (by omega)).2 g2)⟩
                      · omega
                  · refine rb_aload_n hV dX10_readParagraph_58 rfl rfl ?_
                    refine rb_get hV (v := .inr (some 56)) dX10_readParagraph_59 ⟨RX10, TX10, 24, rfl, (Nat.le_of_ble_eq_true rfl), lf_X10_38⟩ (gw_49 _) rfl ?_
                    refine rb_iload_n hV dX10_readParagraph_62 rfl rfl ?_
                    refine rb_cald hV (f := (s 56)) dX10_readParagraph_63 (gw_56 _) (Nat.le_of_ble_eq_true rfl) (by omega) ?_
                    refine rb_bipush hV dX10_readParagraph_64 (by decide) ?_
                    refine rb_icmp_eq hV (tgt := 75) dX10_readParagraph_66 (by decide) ⟨(by unfold ab_r at *; omega), (by unfold ab_r at *; omega)⟩ (fun c66 => ?_) (fun c66 => ?_)
                    · have hend : e < s 121 0 → s 56 e = 32 := fun q => by omega
                      refine rb_iload_n hV dX10_readParagraph_75 rfl rfl ?_
                      refine rb_iload_n hV dX10_readParagraph_76 rfl rfl ?_
                      refine rb_icmp_le hV (tgt := 86) dX10_readParagraph_77 (by decide) ⟨(by unfold ab_r at *; omega), (by unfold ab_r at *; omega)⟩ (fun c77 => ?_) (fun c77 => ?_)
                      · refine rb_iload_n hV dX10_readParagraph_86 rfl rfl ?_
                        refine rb_iconst hV dX10_readParagraph_87 ?_
                        refine rb_iadd hV dX10_readParagraph_88 ?_
                        refine rb_istore_n hV (L2 := [some (.inr (some 49)), some (.inl (e + 1)), some (.inl e)]) dX10_readParagraph_89 rfl (Nat.le_of_ble_eq_true rfl) rfl ?_
                        refine rb_goto hV (tgt := 40) dX10_readParagraph_90 (by decide) ?_
                        refine rb_weak hV (L2 := [some (.inr (some 49)), some (.inl (e + 1)), none]) ⟨rfl, ⟨rfl, trivial⟩⟩ ?_
                        refine ih40 (e + 1) W (wd) (sz) (kd) (lm) (rm) ?_ ?_ ?_
                        · omega
                        · have eq : e = k := by omega
                          subst eq
                          exact ⟨fun q => TK_b (by omega) (h2.1 (by omega)).1 (hend (by omega)), fun q => by rw [show s 121 0 = e by omega]; exact absurd q (by omega)⟩
                        · omega
                      · have hWb : 0 ≤ W ∧ W < 60 := by
                          obtain ⟨a1, a2⟩ := h2.1 (by omega)
                          have q := tk_in (vM s) (s 56) k.toNat
                          have := q.1
                          have := q.2.1
                          have := a1.1
                          omega
                        have hok : ∀ v, k ≤ v → v < e → ¬ sgW (s 56 v) = 0 := fun v q1 q2 => (hall v (by omega) (by omega)).resolve_left (g2 v q1 q2)
                        refine rb_aload_n hV dX10_readParagraph_80 rfl rfl ?_
                        refine rb_iload_n hV dX10_readParagraph_81 rfl rfl ?_
                        refine rb_iload_n hV dX10_readParagraph_82 rfl rfl ?_
                        refine rb_callV hV (rest := []) dX10_readParagraph_83 (c_X10_addWord (ab_s (ab_s (ab_s (ab_s (ab_s (ab_s s 120 (fun _ => W)) 51 wd) 52 sz) 53 kd) 54 lm) 55 rm) k e (by omega) (show 0 ≤ W ∧ W < 60 by omega) hx4 hok) lk_X10_96 rfl (Or.inl ⟨9, _, TX10, 24, gw_49 _, rfl⟩) rfl ⟨rfl, rfl, (Nat.le_of_ble_eq_true rfl), (Nat.le_of_ble_eq_true rfl), (Nat.le_of_ble_eq_true rfl), (Nat.le_of_ble_eq_true rfl)⟩ (Nat.le_of_ble_eq_true rfl) (fun r9 h9 p9 => ?_)
                        obtain ⟨rfl, rfl⟩ := p9
                        refine rb_heq (b := (ab_s (ab_s (ab_s (ab_s (ab_s (ab_s s 120 (fun _ => W + 1)) 51 (ab_u (wd) W (Sm (fun q => sgW (s 56 q)) k e))) 52 (ab_u (sz) W (e - k))) 53 (ab_u (kd) W (sgK (s 56 (e - 1))))) 54 (ab_u (lm) W (sgL (s 56 k)))) 55 (ab_u (rm) W (sgR (s 56 (e - 1)))))) ((congrArg (fun x => ab_s x 120 _) ((congrArg (fun x => ab_s x 55 _) ((congrArg (fun x => ab_s x 54 _) ((congrArg (fun x => ab_s x 53 _) ((congrArg (fun x => ab_s x 52 _) ((ab_s_sw (by decide)).trans (congrArg (fun x => ab_s x 55 _) ((ab_s_sw (by decide)).trans (congrArg (fun x => ab_s x 54 _) ((ab_s_sw (by decide)).trans (congrArg (fun x => ab_s x 53 _) ((ab_s_sw (by decide)).trans (congrArg (fun x => ab_s x 52 _) (ab_s_same _ 51 _ _)))))))))).trans ((ab_s_sw (by decide)).trans (congrArg (fun x => ab_s x 55 _) ((ab_s_sw (by decide)).trans (congrArg (fun x => ab_s x 54 _) ((ab_s_sw (by decide)).trans (congrArg (fun x => ab_s x 53 _) (ab_s_same _ 52 _ _))))))))).trans ((ab_s_sw (by decide)).trans (congrArg (fun x => ab_s x 55 _) ((ab_s_sw (by decide)).trans (congrArg (fun x => ab_s x 54 _) (ab_s_same _ 53 _ _))))))).trans ((ab_s_sw (by decide)).trans (congrArg (fun x => ab_s x 55 _) (ab_s_same _ 54 _ _))))).trans (ab_s_same _ 55 _ _))).trans ((ab_s_sw (by decide)).trans (congrArg (fun x => ab_s x 55 _) ((ab_s_sw (by decide)).trans (congrArg (fun x => ab_s x 54 _) ((ab_s_sw (by decide)).trans (congrArg (fun x => ab_s x 53 _) ((ab_s_sw (by decide)).trans (congrArg (fun x => ab_s x 52 _) ((ab_s_sw (by decide)).trans (congrArg (fun x => ab_s x 51 _) (ab_s_same _ 120 _ _)))))))))))) ?_
                        show V 86 [some (.inr (some 49)), some (.inl k), some (.inl e)] [] (WW (ab_s (ab_s (ab_s (ab_s (ab_s (ab_s s 120 (fun _ => W + 1)) 51 (ab_u (wd) W (Sm (fun q => sgW (s 56 q)) k e))) 52 (ab_u (sz) W (e - k))) 53 (ab_u (kd) W (sgK (s 56 (e - 1))))) 54 (ab_u (lm) W (sgL (s 56 k)))) 55 (ab_u (rm) W (sgR (s 56 (e - 1)))))) 0 0
                        refine rb_iload_n hV dX10_readParagraph_86 rfl rfl ?_
                        refine rb_iconst hV dX10_readParagraph_87 ?_
                        refine rb_iadd hV dX10_readParagraph_88 ?_
                        refine rb_istore_n hV (L2 := [some (.inr (some 49)), some (.inl (e + 1)), some (.inl e)]) dX10_readParagraph_89 rfl (Nat.le_of_ble_eq_true rfl) rfl ?_
                        refine rb_goto hV (tgt := 40) dX10_readParagraph_90 (by decide) ?_
                        refine rb_weak hV (L2 := [some (.inr (some 49)), some (.inl (e + 1)), none]) ⟨rfl, ⟨rfl, trivial⟩⟩ ?_
                        refine ih40 (e + 1) (W + 1) (ab_u (wd) W (Sm (fun q => sgW (s 56 q)) k e)) (ab_u (sz) W (e - k)) (ab_u (kd) W (sgK (s 56 (e - 1)))) (ab_u (lm) W (sgL (s 56 k))) (ab_u (rm) W (sgR (s 56 (e - 1)))) ?_ ?_ ?_
                        · omega
                        · exact ⟨fun q => TK_b (by omega) (TK_w h1.1 (by omega) (h2.1 (by omega)).1 (h2.1 (by omega)).2 g2) (hend (by omega)), fun q => by rw [show s 121 0 = e by omega]; exact (TK_w h1.1 (by omega) (h2.1 (by omega)).1 (h2.1 (by omega)).2 g2)⟩
                        · omega
                    · refine rb_iinc hV (L2 := [some (.inr (some 49)), some (.inl k), some (.inl (e + 1))]) dX10_readParagraph_69 rfl rfl rfl ?_
                      refine rb_goto hV (tgt := 50) dX10_readParagraph_72 (by decide) ?_
                      refine ih50 (e + 1) ?_ ?_ ?_
                      · omega
                      · intro j q1 q2
                        by_cases hj : j = e
                        · rw [hj]
                          exact c66
                        · exact g2 j q1 (by omega)
                      · omega
              refine h50 _ k ?_ ?_ (Nat.lt_succ_self _)
              · omega
              · intro j q1 q2; omega
        refine h40 _ 0 0 (s 51) (s 52) (s 53) (s 54) (s 55) ?_ ?_ (Nat.lt_succ_self _)
        · omega
        · exact ⟨fun _ => ⟨⟨rfl, rfl, rfl, rfl, rfl, rfl⟩, rfl⟩, fun q => by omega⟩
      · refine rb_aload_n hV dX10_readParagraph_10 rfl rfl ?_
        refine rb_get hV (v := .inr (some 56)) dX10_readParagraph_11 ⟨RX10, TX10, 24, rfl, (Nat.le_of_ble_eq_true rfl), lf_X10_38⟩ (gw_49 _) rfl ?_
        refine rb_iload_n hV dX10_readParagraph_14 rfl rfl ?_
        refine rb_cald hV (f := (s 56)) dX10_readParagraph_15 (gw_56 _) (Nat.le_of_ble_eq_true rfl) (by omega) ?_
        refine rb_callS hV (rest := []) dX10_readParagraph_16 (c_X10_isAllowed s (s 56 k) (hx4 k)) lk_X10_93 rfl rfl ⟨rfl, rfl, (Nat.le_of_ble_eq_true rfl), (Nat.le_of_ble_eq_true rfl), (Nat.le_of_ble_eq_true rfl), (Nat.le_of_ble_eq_true rfl)⟩ (Nat.le_of_ble_eq_true rfl) (fun r9 h9 p9 => ?_)
        obtain ⟨rfl, rfl⟩ := p9
        show V 19 [some (.inr (some 49)), some (.inl k), none] [.inl (if (((s 56 k) = 46 ∨ (s 56 k) = 33 ∨ (s 56 k) = 63 ∨ (s 56 k) = 44 ∨ (s 56 k) = 59 ∨ (s 56 k) = 58 ∨ (s 56 k) = 45 ∨ (s 56 k) = 39 ∨ (s 56 k) = 34) ∨ (s 56 k) = 40 ∨ (s 56 k) = 41 ∨ (s 56 k) = 32 ∨ (97 ≤ (s 56 k) ∧ (s 56 k) ≤ 122) ∨ (65 ≤ (s 56 k) ∧ (s 56 k) ≤ 90) ∨ (48 ≤ (s 56 k) ∧ (s 56 k) ≤ 57)) then 1 else 0)] (WW s) 0 0
        by_cases e16 : (((s 56 k) = 46 ∨ (s 56 k) = 33 ∨ (s 56 k) = 63 ∨ (s 56 k) = 44 ∨ (s 56 k) = 59 ∨ (s 56 k) = 58 ∨ (s 56 k) = 45 ∨ (s 56 k) = 39 ∨ (s 56 k) = 34) ∨ (s 56 k) = 40 ∨ (s 56 k) = 41 ∨ (s 56 k) = 32 ∨ (97 ≤ (s 56 k) ∧ (s 56 k) ≤ 122) ∨ (65 ≤ (s 56 k) ∧ (s 56 k) ≤ 90) ∨ (48 ≤ (s 56 k) ∧ (s 56 k) ≤ 57))
        · rw [if_pos e16]
          show V 19 [some (.inr (some 49)), some (.inl k), none] [.inl 1] (WW s) 0 0
          refine rb_if_ne hV (tgt := 27) dX10_readParagraph_19 (by decide) (by unfold ab_r at *; omega) (fun _ => ?_) (fun z => absurd z (by decide))
          refine rb_iinc hV (L2 := [some (.inr (some 49)), some (.inl (k + 1)), none]) dX10_readParagraph_27 rfl rfl rfl ?_
          refine rb_goto hV (tgt := 2) dX10_readParagraph_30 (by decide) ?_
          refine ih2 (k + 1) ?_ ?_ ?_
          · omega
          · intro q q1 q2
            by_cases hq : q = k
            · rw [hq]
              exact (okA_okc _).mp e16
            · exact h2 q q1 (by omega)
          · omega
        · rw [if_neg e16]
          show V 19 [some (.inr (some 49)), some (.inl k), none] [.inl 0] (WW s) 0 0
          refine rb_if_ne hV (tgt := 27) dX10_readParagraph_19 (by decide) (by unfold ab_r at *; omega) (fun z => absurd z (by decide)) (fun _ => ?_)
          refine rb_bipush hV dX10_readParagraph_22 (by decide) ?_
          refine rb_iload_n hV dX10_readParagraph_24 rfl rfl ?_
          refine rb_isub hV dX10_readParagraph_25 ?_
          refine rb_ret hV (r := some (.inl ((-100) - k))) dX10_readParagraph_26 rfl ⟨(Nat.le_of_ble_eq_true rfl), (Nat.le_of_ble_eq_true rfl)⟩ trivial ?_
          exact ⟨k, Or.inr ⟨h1.1, by omega, fun q => e16 ((okA_okc _).mpr q), h2⟩, Or.inl ⟨by omega, rfl, rfl⟩⟩
  refine h2 _ 0 ?_ ?_ (Nat.lt_succ_self _)
  · omega
  · intro q q1 q2; omega
