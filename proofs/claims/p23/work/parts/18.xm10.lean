theorem XI_la {s s2 : Nat → Int → Int} {nl dem am str gl : Int} {fw sw lo sl be mid gn abv ln en : Int → Int} (hx : XI s) (hlv : LV (vX s) fw nl) (hst : ST (vX s) fw nl dem am str gl sw lo sl be mid gn abv ln en) (hz : nl = 0 ↔ ¬ (0 < s 103 0 ∧ ¬ s 19 0 = -1))
    (e : s2 = (ab_s (ab_s (ab_s (ab_s (ab_s (ab_s (ab_s (ab_s (ab_s (ab_s (ab_s (ab_s (ab_s (ab_s (ab_s s 107 (fun _ => nl)) 26 fw) 108 (fun _ => dem)) 30 sw) 27 lo) 28 sl) 29 be) 109 (fun _ => am)) 110 (fun _ => str)) 111 (fun _ => gl)) 33 mid) 35 gn) 34 abv) 32 ln) 36 en)) : XI s2 := by
  subst e
  exact ⟨hx.1, hx.2.1, hx.2.2.1, hlv, hst, hz, hx.2.2.2.2.2.2⟩

set_option maxRecDepth 20000 in
theorem c_X9_layBest (s : Nat → Int → Int) (hx : XI s) : ab_Mt yX9_layBest cX9_layBest 1 (some .int) ({ frames := 5, cells := 0, slots := 0, locals := 118 } : Room) false 0 0 [.inr (some 0)] (WW s) (fun r h2 => ∃ s2, h2 = WW s2 ∧ XI s2 ∧ BESTL s2 ∧ KEEP LB s s2 ∧ r = some (.inl (if s2 107 0 = 0 then -1004 else s2 107 0))) := by
  refine ab_mk RX9 false rfl pn_X9_layBest (fun z => by cases z) (Nat.le_of_ble_eq_true rfl) (fun V hV => ?_)
  show V 0 [some (.inr (some 0))] [] (WW s) 0 0
  obtain ⟨hp, hr, hbw, hv, hst, hz, hx1, hx2, hx3, hx4⟩ := id hx
  have hn : 0 ≤ s 103 0 ∧ s 103 0 ≤ 60 := hp.1
  have hnl : 0 ≤ s 107 0 ∧ s 107 0 ≤ s 103 0 := hv.1
  have hb := BWp_BS hp hbw
  refine rb_aload_n hV dX9_layBest_0 rfl rfl ?_
  refine rb_get hV (v := .inr (some 25)) dX9_layBest_1 ⟨RX9, TX9, 8, rfl, (Nat.le_of_ble_eq_true rfl), lf_X9_60⟩ (gw_0 _) rfl ?_
  refine rb_callV hV (rest := []) dX9_layBest_4 (c_X1_becomeBest_la s hp hr hbw hst.2.2.1 (RVX_ln hst.2.2.2)) lk_X9_118 rfl (Or.inl ⟨1, _, TX1, 12, gw_25 _, rfl⟩) rfl ⟨rfl, rfl, (Nat.le_of_ble_eq_true rfl), (Nat.le_of_ble_eq_true rfl), (Nat.le_of_ble_eq_true rfl), (Nat.le_of_ble_eq_true rfl)⟩ (Nat.le_of_ble_eq_true rfl) (fun r9 h9 p9 => ?_)
  obtain ⟨rfl, nl, fw, dem, sw, lo, sl, be, am, str, gl, mid, gn, abv, ln, en, rfl, hlv, hst, hgo, hno⟩ := p9
  show V 7 [some (.inr (some 0))] [] (WW (ab_s (ab_s (ab_s (ab_s (ab_s (ab_s (ab_s (ab_s (ab_s (ab_s (ab_s (ab_s (ab_s (ab_s (ab_s s 107 (fun _ => nl)) 26 fw) 108 (fun _ => dem)) 30 sw) 27 lo) 28 sl) 29 be) 109 (fun _ => am)) 110 (fun _ => str)) 111 (fun _ => gl)) 33 mid) 35 gn) 34 abv) 32 ln) 36 en)) 0 0
  have hnl2 : 0 ≤ nl ∧ nl ≤ s 103 0 := hlv.1
  refine rb_aload_n hV dX9_layBest_7 rfl rfl ?_
  refine rb_get hV (v := .inr (some 25)) dX9_layBest_8 ⟨RX9, TX9, 8, rfl, (Nat.le_of_ble_eq_true rfl), lf_X9_60⟩ (gw_0 _) rfl ?_
  refine rb_get hV (v := .inl nl) dX9_layBest_11 ⟨RX1, TX1, 12, rfl, (Nat.le_of_ble_eq_true rfl), lf_X9_121⟩ (gw_25 _) rfl ?_
  refine rb_if_ne hV (tgt := 23) dX9_layBest_14 (by decide) (by unfold ab_r at *; omega) (fun c14 => ?_) (fun c14 => ?_)
  · refine rb_aload_n hV dX9_layBest_23 rfl rfl ?_
    refine rb_get hV (v := .inr (some 25)) dX9_layBest_24 ⟨RX9, TX9, 8, rfl, (Nat.le_of_ble_eq_true rfl), lf_X9_60⟩ (gw_0 _) rfl ?_
    refine rb_get hV (v := .inl nl) dX9_layBest_27 ⟨RX1, TX1, 12, rfl, (Nat.le_of_ble_eq_true rfl), lf_X9_121⟩ (gw_25 _) rfl ?_
    refine rb_ret hV (r := some (.inl nl)) dX9_layBest_30 rfl ⟨(Nat.le_of_ble_eq_true rfl), (Nat.le_of_ble_eq_true rfl)⟩ trivial ?_
    have e6 : nl = 0 ↔ ¬ (0 < s 103 0 ∧ ¬ s 19 0 = -1) := ⟨fun z q => by
      have e9 := go_pos (fw := s 26) hp hbw q.1 q.2
      have e7 : nl = (go (s 20) (vX s 0 0) (vX s 0 0 - 0).toNat 0 0 (s 26)).1 := congrArg Prod.fst (hgo q)
      omega, hno⟩
    exact ⟨_, rfl, XI_la hx hlv hst e6 rfl, fun q => ⟨_, hgo q⟩, (fun j hj => ((ab_keep hj (by decide)).trans ((ab_keep hj (by decide)).trans ((ab_keep hj (by decide)).trans ((ab_keep hj (by decide)).trans ((ab_keep hj (by decide)).trans ((ab_keep hj (by decide)).trans ((ab_keep hj (by decide)).trans ((ab_keep hj (by decide)).trans ((ab_keep hj (by decide)).trans ((ab_keep hj (by decide)).trans ((ab_keep hj (by decide)).trans ((ab_keep hj (by decide)).trans ((ab_keep hj (by decide)).trans ((ab_keep hj (by decide)).trans ((ab_keep hj (by decide)).trans rfl)))))))))))))))), congrArg (fun z : Int => some (Sum.inl z)) (if_neg (by show ¬ nl = 0; omega)).symm⟩
  · refine rb_sipush hV dX9_layBest_17 (by decide) ?_
    refine rb_goto hV (tgt := 30) dX9_layBest_20 (by decide) ?_
    refine rb_ret hV (r := some (.inl (-1004))) dX9_layBest_30 rfl ⟨(Nat.le_of_ble_eq_true rfl), (Nat.le_of_ble_eq_true rfl)⟩ trivial ?_
    have e6 : nl = 0 ↔ ¬ (0 < s 103 0 ∧ ¬ s 19 0 = -1) := ⟨fun z q => by
      have e9 := go_pos (fw := s 26) hp hbw q.1 q.2
      have e7 : nl = (go (s 20) (vX s 0 0) (vX s 0 0 - 0).toNat 0 0 (s 26)).1 := congrArg Prod.fst (hgo q)
      omega, hno⟩
    exact ⟨_, rfl, XI_la hx hlv hst e6 rfl, fun q => ⟨_, hgo q⟩, (fun j hj => ((ab_keep hj (by decide)).trans ((ab_keep hj (by decide)).trans ((ab_keep hj (by decide)).trans ((ab_keep hj (by decide)).trans ((ab_keep hj (by decide)).trans ((ab_keep hj (by decide)).trans ((ab_keep hj (by decide)).trans ((ab_keep hj (by decide)).trans ((ab_keep hj (by decide)).trans ((ab_keep hj (by decide)).trans ((ab_keep hj (by decide)).trans ((ab_keep hj (by decide)).trans ((ab_keep hj (by decide)).trans ((ab_keep hj (by decide)).trans ((ab_keep hj (by decide)).trans rfl)))))))))))))))), congrArg (fun z : Int => some (Sum.inl z)) (if_pos (by show nl = 0; omega)).symm⟩

set_option maxRecDepth 20000 in
theorem c_X9_takeSecond (s : Nat → Int → Int) (l : Int) (hl00 : ab_r l) (hx : XI s) : ab_Mt yX9_takeSecond cX9_takeSecond 3 (some .int) ({ frames := 5, cells := 0, slots := 0, locals := 124 } : Room) false 0 0 [.inr (some 0), .inl l] (WW s) (fun r h2 => (¬ (0 ≤ l ∧ l < s 107 0) ∧ RO s (-1001) r h2) ∨ ((0 ≤ l ∧ l < s 107 0) ∧ sec (vX s) (s 19) (s 26) l = -1 ∧ RO s (-1004) r h2) ∨ ((0 ≤ l ∧ l < s 107 0) ∧ ¬ sec (vX s) (s 19) (s 26) l = -1 ∧ ∃ s2, r = some (.inl (s2 107 0)) ∧ h2 = WW s2 ∧ XI s2 ∧ KEEP LB s s2 ∧ (s2 107 0, s2 26) = go (s 20) (s 103 0) (s 103 0 - (sec (vX s) (s 19) (s 26) l + 1)).toNat (l + 1) (sec (vX s) (s 19) (s 26) l + 1) (s 26))) := by
  refine ab_mk RX9 false rfl pn_X9_takeSecond (fun z => by cases z) (Nat.le_of_ble_eq_true rfl) (fun V hV => ?_)
  show V 0 [some (.inr (some 0)), some (.inl l), none] [] (WW s) 0 0
  obtain ⟨hp, hr, hbw, hv, hst, hz, hx1, hx2, hx3, hx4⟩ := id hx
  have hn : 0 ≤ s 103 0 ∧ s 103 0 ≤ 60 := hp.1
  have hnl : 0 ≤ s 107 0 ∧ s 107 0 ≤ s 103 0 := hv.1
  have hb := BWp_BS hp hbw
  refine rb_aload_n hV dX9_takeSecond_0 rfl rfl ?_
  refine rb_get hV (v := .inr (some 25)) dX9_takeSecond_1 ⟨RX9, TX9, 8, rfl, (Nat.le_of_ble_eq_true rfl), lf_X9_60⟩ (gw_0 _) rfl ?_
  refine rb_iload_n hV dX9_takeSecond_4 rfl rfl ?_
  refine rb_callV hV (rest := []) dX9_takeSecond_5 (c_X1_hasLine_la s l (by unfold ab_r at *; omega) (show 0 ≤ (s 107 0) ∧ (s 107 0) ≤ 60 by omega)) lk_X9_124 rfl (Or.inl ⟨1, _, TX1, 12, gw_25 _, rfl⟩) rfl ⟨rfl, rfl, (Nat.le_of_ble_eq_true rfl), (Nat.le_of_ble_eq_true rfl), (Nat.le_of_ble_eq_true rfl), (Nat.le_of_ble_eq_true rfl)⟩ (Nat.le_of_ble_eq_true rfl) (fun r9 h9 p9 => ?_)
  obtain ⟨rfl, rfl⟩ := p9
  show V 8 [some (.inr (some 0)), some (.inl l), none] [.inl (if 0 ≤ l ∧ l < (s 107 0) then 1 else 0)] (WW s) 0 0
  by_cases e5 : 0 ≤ l ∧ l < (s 107 0)
  · rw [if_pos e5]
    show V 8 [some (.inr (some 0)), some (.inl l), none] [.inl 1] (WW s) 0 0
    refine rb_if_ne hV (tgt := 15) dX9_takeSecond_8 (by decide) (by unfold ab_r at *; omega) (fun _ => ?_) (fun z => absurd z (by decide))
    have hl0 := hv.2.1 l (by omega) (by omega)
    have hl1 : 0 ≤ s 26 l := hl0.1
    have hl2 : s 26 l < s 26 (l + 1) := hl0.2.1
    have hl3 : s 26 (l + 1) ≤ s 103 0 := hl0.2.2.1
    refine rb_aload_n hV dX9_takeSecond_15 rfl rfl ?_
    refine rb_get hV (v := .inr (some 25)) dX9_takeSecond_16 ⟨RX9, TX9, 8, rfl, (Nat.le_of_ble_eq_true rfl), lf_X9_60⟩ (gw_0 _) rfl ?_
    refine rb_iload_n hV dX9_takeSecond_19 rfl rfl ?_
    refine rb_callV hV (rest := []) dX9_takeSecond_20 (c_X1_secondLast_la s l hp hr hv hb (show 0 ≤ l ∧ l < (s 107 0) by omega)) lk_X9_127 rfl (Or.inl ⟨1, _, TX1, 12, gw_25 _, rfl⟩) rfl ⟨rfl, rfl, (Nat.le_of_ble_eq_true rfl), (Nat.le_of_ble_eq_true rfl), (Nat.le_of_ble_eq_true rfl), (Nat.le_of_ble_eq_true rfl)⟩ (Nat.le_of_ble_eq_true rfl) (fun r9 h9 p9 => ?_)
    obtain ⟨rfl, rfl⟩ := p9
    show V 23 [some (.inr (some 0)), some (.inl l), none] [.inl (sec (vX s) (s 19) (s 26) l)] (WW s) 0 0
    have hsq : sec (vX s) (s 19) (s 26) l = -1 ∨ (s 26 l ≤ sec (vX s) (s 19) (s 26) l ∧ sec (vX s) (s 19) (s 26) l < s 103 0) := by
      by_cases hq : sec (vX s) (s 19) (s 26) l = -1
      · exact Or.inl hq
      · have ho := sec_ok hq
        have e0 : vX s 0 0 = s 103 0 := rfl
        exact Or.inr ⟨ho.1, by omega⟩
    refine rb_istore_n hV (L2 := [some (.inr (some 0)), some (.inl l), some (.inl (sec (vX s) (s 19) (s 26) l))]) dX9_takeSecond_23 rfl (Nat.le_of_ble_eq_true rfl) rfl ?_
    refine rb_iload_n hV dX9_takeSecond_24 rfl rfl ?_
    refine rb_iconst hV dX9_takeSecond_25 ?_
    refine rb_icmp_ne hV (tgt := 33) dX9_takeSecond_26 (by decide) ⟨(by unfold ab_r at *; omega), (by unfold ab_r at *; omega)⟩ (fun c26 => ?_) (fun c26 => ?_)
    · have hs1 : ¬ sec (vX s) (s 19) (s 26) l = -1 := by omega
      have hok := sec_ok hs1
      refine rb_aload_n hV dX9_takeSecond_33 rfl rfl ?_
      refine rb_get hV (v := .inr (some 25)) dX9_takeSecond_34 ⟨RX9, TX9, 8, rfl, (Nat.le_of_ble_eq_true rfl), lf_X9_60⟩ (gw_0 _) rfl ?_
      refine rb_iload_n hV dX9_takeSecond_37 rfl rfl ?_
      refine rb_iload_n hV dX9_takeSecond_38 rfl rfl ?_
      refine rb_callV hV (rest := []) dX9_takeSecond_39 (c_X1_endLineWith_la s l (sec (vX s) (s 19) (s 26) l) hp hr hbw hst.2.2.1 (RVX_ln hst.2.2.2) hv (by omega) ⟨hok.1, (by omega), hok.2.2.1, hok.2.2.2⟩) lk_X9_131 rfl (Or.inl ⟨1, _, TX1, 12, gw_25 _, rfl⟩) rfl ⟨rfl, rfl, (Nat.le_of_ble_eq_true rfl), (Nat.le_of_ble_eq_true rfl), (Nat.le_of_ble_eq_true rfl), (Nat.le_of_ble_eq_true rfl)⟩ (Nat.le_of_ble_eq_true rfl) (fun r9 h9 p9 => ?_)
      obtain ⟨rfl, nl, fw, dem, sw, lo, sl, be, am, str, gl, mid, gn, abv, ln, en, rfl, hlv, hst, hgo⟩ := p9
      show V 42 [some (.inr (some 0)), some (.inl l), some (.inl (sec (vX s) (s 19) (s 26) l))] [] (WW (ab_s (ab_s (ab_s (ab_s (ab_s (ab_s (ab_s (ab_s (ab_s (ab_s (ab_s (ab_s (ab_s (ab_s (ab_s s 107 (fun _ => nl)) 26 fw) 108 (fun _ => dem)) 30 sw) 27 lo) 28 sl) 29 be) 109 (fun _ => am)) 110 (fun _ => str)) 111 (fun _ => gl)) 33 mid) 35 gn) 34 abv) 32 ln) 36 en)) 0 0
      refine rb_aload_n hV dX9_takeSecond_42 rfl rfl ?_
      refine rb_get hV (v := .inr (some 25)) dX9_takeSecond_43 ⟨RX9, TX9, 8, rfl, (Nat.le_of_ble_eq_true rfl), lf_X9_60⟩ (gw_0 _) rfl ?_
      refine rb_get hV (v := .inl nl) dX9_takeSecond_46 ⟨RX1, TX1, 12, rfl, (Nat.le_of_ble_eq_true rfl), lf_X9_121⟩ (gw_25 _) rfl ?_
      refine rb_ret hV (r := some (.inl nl)) dX9_takeSecond_49 rfl ⟨(Nat.le_of_ble_eq_true rfl), (Nat.le_of_ble_eq_true rfl)⟩ trivial ?_
      have e6 : nl = 0 ↔ ¬ (0 < s 103 0 ∧ ¬ s 19 0 = -1) := by
        have e8 := (go_props (BWp_BW hbw) (vX s 0 0 - (sec (vX s) (s 19) (s 26) l + 1)).toNat (l + 1) (sec (vX s) (s 19) (s 26) l + 1) (s 26) (by omega) (by show sec (vX s) (s 19) (s 26) l + 1 ≤ s 103 0; omega) hok.2.2.2 (by omega) (by omega)).1.1
        have e7 : nl = (go (s 20) (vX s 0 0) (vX s 0 0 - (sec (vX s) (s 19) (s 26) l + 1)).toNat (l + 1) (sec (vX s) (s 19) (s 26) l + 1) (s 26)).1 := congrArg Prod.fst hgo
        rw [← hz]
        constructor <;> omega
      exact Or.inr (Or.inr ⟨e5, hs1, _, rfl, rfl, XI_la hx hlv hst e6 rfl, (fun j hj => ((ab_keep hj (by decide)).trans ((ab_keep hj (by decide)).trans ((ab_keep hj (by decide)).trans ((ab_keep hj (by decide)).trans ((ab_keep hj (by decide)).trans ((ab_keep hj (by decide)).trans ((ab_keep hj (by decide)).trans ((ab_keep hj (by decide)).trans ((ab_keep hj (by decide)).trans ((ab_keep hj (by decide)).trans ((ab_keep hj (by decide)).trans ((ab_keep hj (by decide)).trans ((ab_keep hj (by decide)).trans ((ab_keep hj (by decide)).trans ((ab_keep hj (by decide)).trans rfl)))))))))))))))), hgo⟩)
    · refine rb_sipush hV dX9_takeSecond_29 (by decide) ?_
      refine rb_ret hV (r := some (.inl (-1004))) dX9_takeSecond_32 rfl ⟨(Nat.le_of_ble_eq_true rfl), (Nat.le_of_ble_eq_true rfl)⟩ trivial ?_
      exact Or.inr (Or.inl ⟨e5, by omega, rfl, rfl⟩)
  · rw [if_neg e5]
    show V 8 [some (.inr (some 0)), some (.inl l), none] [.inl 0] (WW s) 0 0
    refine rb_if_ne hV (tgt := 15) dX9_takeSecond_8 (by decide) (by unfold ab_r at *; omega) (fun z => absurd z (by decide)) (fun _ => ?_)
    refine rb_sipush hV dX9_takeSecond_11 (by decide) ?_
    refine rb_ret hV (r := some (.inl (-1001))) dX9_takeSecond_14 rfl ⟨(Nat.le_of_ble_eq_true rfl), (Nat.le_of_ble_eq_true rfl)⟩ trivial ?_
    exact Or.inl ⟨e5, rfl, rfl⟩

set_option maxRecDepth 20000 in
theorem c_X8_append (s : Nat → Int → Int) (z : Int) (hz : 0 ≤ z ∧ z < 65536) (hn : 0 ≤ s 104 0 ∧ s 104 0 ≤ 120) : ab_Mt yX8_append cX8_append 2 (some .int) ({ frames := 0, cells := 0, slots := 0, locals := 0 } : Room) false 0 0 [.inr (some 21), .inl z] (WW s) (fun r h2 => (¬ s 104 0 < 120 ∧ RO s (-1003) r h2) ∨ (s 104 0 < 120 ∧ r = some (.inl (s 104 0 + 1)) ∧ h2 = WW (ab_s (ab_s s 22 (ab_u (s 22) (s 104 0) z)) 104 (fun _ => s 104 0 + 1)))) := by
  refine ab_mk RX8 false rfl pn_X8_append (fun z => by cases z) (Nat.le_of_ble_eq_true rfl) (fun V hV => ?_)
  show V 0 [some (.inr (some 21)), some (.inl z)] [] (WW s) 0 0
  refine rb_aload_n hV dX8_append_0 rfl rfl ?_
  refine rb_get hV (v := .inl (s 104 0)) dX8_append_1 ⟨RX8, TX8, 2, rfl, (Nat.le_of_ble_eq_true rfl), lf_X8_15⟩ (gw_21 _) rfl ?_
  refine rb_bipush hV dX8_append_4 (by decide) ?_
  refine rb_icmp_lt hV (tgt := 13) dX8_append_6 (by decide) ⟨(by first | assumption | (unfold ab_r at *; omega)), (by first | assumption | (unfold ab_r at *; omega))⟩ (fun c6 => ?_) (fun c6 => ?_)
  · refine rb_aload_n hV dX8_append_13 rfl rfl ?_
    refine rb_get hV (v := .inr (some 22)) dX8_append_14 ⟨RX8, TX8, 2, rfl, (Nat.le_of_ble_eq_true rfl), lf_X8_9⟩ (gw_21 _) rfl ?_
    refine rb_aload_n hV dX8_append_17 rfl rfl ?_
    refine rb_get hV (v := .inl (s 104 0)) dX8_append_18 ⟨RX8, TX8, 2, rfl, (Nat.le_of_ble_eq_true rfl), lf_X8_15⟩ (gw_21 _) rfl ?_
    refine rb_iload_n hV dX8_append_21 rfl rfl ?_
    refine rb_cast hV (f := (s 22)) dX8_append_22 (gw_22 _) (Nat.le_of_ble_eq_true rfl) (by omega) (by omega) rfl (pw_22 _ _) ?_
    refine rb_aload_n hV dX8_append_23 rfl rfl ?_
    refine rb_dup hV dX8_append_24 ?_
    refine rb_get hV (v := .inl (s 104 0)) dX8_append_25 ⟨RX8, TX8, 2, rfl, (Nat.le_of_ble_eq_true rfl), lf_X8_15⟩ (gw_21 _) rfl ?_
    refine rb_iconst hV dX8_append_28 ?_
    refine rb_iadd hV dX8_append_29 ?_
    refine rb_put hV (C := RX8) (T := TX8) (N := 2) (ci := 7) (j := 1) dX8_append_30 rfl (Nat.le_of_ble_eq_true rfl) lf_X8_15 rfl (gw_21 _) (Nat.le_of_ble_eq_true rfl) (ft_X8_1 _) (pw_21_1 _ _) ?_
    refine rb_aload_n hV dX8_append_33 rfl rfl ?_
    refine rb_get hV (v := .inl ((s 104 0) + 1)) dX8_append_34 ⟨RX8, TX8, 2, rfl, (Nat.le_of_ble_eq_true rfl), lf_X8_15⟩ (gw_21 _) rfl ?_
    refine rb_ret hV (r := some (.inl ((s 104 0) + 1))) dX8_append_37 rfl ⟨(Nat.le_of_ble_eq_true rfl), (Nat.le_of_ble_eq_true rfl)⟩ trivial ?_
    exact Or.inr ⟨by omega, rfl, rfl⟩
  · refine rb_sipush hV dX8_append_9 (by decide) ?_
    refine rb_ret hV (r := some (.inl (-1003))) dX8_append_12 rfl ⟨(Nat.le_of_ble_eq_true rfl), (Nat.le_of_ble_eq_true rfl)⟩ trivial ?_
    exact Or.inl ⟨by omega, rfl, rfl⟩

set_option maxRecDepth 20000 in
theorem c_X8_empty (s : Nat → Int → Int) : ab_Mt yX8_empty cX8_empty 2 (some .int) ({ frames := 0, cells := 0, slots := 0, locals := 0 } : Room) false 0 0 [.inr (some 21)] (WW s) (fun r h2 => r = some (.inl (s 104 0)) ∧ h2 = WW (ab_s s 104 (fun _ => 0))) := by
  refine ab_mk RX8 false rfl pn_X8_empty (fun z => by cases z) (Nat.le_of_ble_eq_true rfl) (fun V hV => ?_)
  show V 0 [some (.inr (some 21)), none] [] (WW s) 0 0
  refine rb_aload_n hV dX8_empty_0 rfl rfl ?_
  refine rb_get hV (v := .inl (s 104 0)) dX8_empty_1 ⟨RX8, TX8, 2, rfl, (Nat.le_of_ble_eq_true rfl), lf_X8_15⟩ (gw_21 _) rfl ?_
  refine rb_istore_n hV (L2 := [some (.inr (some 21)), some (.inl (s 104 0))]) dX8_empty_4 rfl (Nat.le_of_ble_eq_true rfl) rfl ?_
  refine rb_aload_n hV dX8_empty_5 rfl rfl ?_
  refine rb_iconst hV dX8_empty_6 ?_
  refine rb_put hV (C := RX8) (T := TX8) (N := 2) (ci := 7) (j := 1) dX8_empty_7 rfl (Nat.le_of_ble_eq_true rfl) lf_X8_15 rfl (gw_21 _) (Nat.le_of_ble_eq_true rfl) (ft_X8_1 _) (pw_21_1 _ _) ?_
  refine rb_iload_n hV dX8_empty_10 rfl rfl ?_
  refine rb_ret hV (r := some (.inl (s 104 0))) dX8_empty_11 rfl ⟨(Nat.le_of_ble_eq_true rfl), (Nat.le_of_ble_eq_true rfl)⟩ trivial ?_
  exact ⟨rfl, rfl⟩
