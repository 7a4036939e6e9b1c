/-! the reference: strength -/
def BLP (s : Nat → Int → Int) (w : Int) : Prop := ∃ u, u < s 120 0 - 1 ∧ ¬ slM s u = -1 ∧ cnd (s 63) (slM s) (mdM s) (2 * s 119 0) u w
def ENm (s : Nat → Int → Int) (w : Int) : Prop := 3 ≤ s 62 w ∧ ¬ BLP s w
abbrev MSs (s : Nat → Int → Int) (dem am str gl : Int) (gn abv en : Int → Int) : Prop := MSX (vM s) (s 59) (s 125 0) (s 61) (s 63) (s 60) (s 62) dem am str gl gn abv en
def STR (s : Nat → Int → Int) (v : Int) : Prop := ∃ dem am gl gn abv en, MSs s dem am v gl gn abv en
theorem LM_of {s : Nat → Int → Int} {dem am str gl : Int} {gn abv en : Int → Int} (hp : PI (vM s)) (hv : LV (vM s) (s 59) (s 125 0)) (hz : 0 < s 125 0) (h : MSs s dem am str gl gn abv en) : LM s := ⟨hp, hv, hz, h.2.1, h.1.2.2.1, RVX_ln h.1.2.2.2⟩
theorem sl_lt {s : Nat → Int → Int} (hlm : LM s) {w : Int} (h0 : 0 ≤ w) (h1 : w < s 120 0) (h : ¬ slM s w = -1) : w < s 120 0 - 1 := by
  have hf := (LM_f hlm h0 h1).2.2.1
  by_cases q : w < s 59 (s 63 w + 1) - 1
  · omega
  · exact absurd (slM_no q) h
theorem EN_ei {s : Nat → Int → Int} {dem am str gl : Int} {gn abv en : Int → Int} (hlm : LM s) (h : MSs s dem am str gl gn abv en) {w : Int} (h0 : 0 ≤ w) (h1 : w < s 120 0) : (ENm s w → ei (slM s) (s 62) gn w = 1 ∧ es (slM s) (s 62) gn w = s 62 w - 2) ∧ (¬ ENm s w → ei (slM s) (s 62) gn w = 0 ∧ es (slM s) (s 62) gn w = 0) := by
  have hz := hlm.2.2.1
  by_cases hs : slM s w = -1
  · have hl : s 62 w = 0 := h.2.2 (by omega) w h0 h1 hs
    refine ⟨fun q => by have := q.1; omega, fun _ => ⟨if_neg (fun q => q.1 hs), if_neg (fun q => q.1 hs)⟩⟩
  · have hw := sl_lt hlm h0 h1 hs
    have hg : GOp (s 63) (slM s) (mdM s) gn (2 * s 119 0) (s 120 0 - 1) := by
      rcases h.1.2.2.2 with q | q
      · exact absurd q.1 (by omega)
      · exact q.2.2.2.1
    obtain ⟨g1, g2⟩ := hg w h0 hw
    have g3 : gn w = 1 ↔ BLP s w := g2
    refine ⟨fun q => ?_, fun q => ?_⟩
    · have g4 : gn w = 0 := by
        rcases g1 with g | g
        · exact g
        · exact absurd (g3.mp g) q.2
      exact ⟨if_pos ⟨hs, q.1, g4⟩, if_pos ⟨hs, q.1, g4⟩⟩
    · have g4 : ¬ (¬ slM s w = -1 ∧ 3 ≤ s 62 w ∧ gn w = 0) := fun z => q ⟨z.2.1, fun b => by have := g3.mpr b; omega⟩
      exact ⟨if_neg g4, if_neg g4⟩
theorem EN_all {s : Nat → Int → Int} {dem am str gl : Int} {gn abv en : Int → Int} (hlm : LM s) (h : MSs s dem am str gl gn abv en) : Sm (ei (slM s) (s 62) gn) 0 (s 120 0) = am ∧ Sm (es (slM s) (s 62) gn) 0 (s 120 0) = str := by
  have hz := hlm.2.2.1
  have hnl : 0 ≤ s 125 0 ∧ s 125 0 ≤ s 120 0 := hlm.2.1.1
  have hs : slM s (s 120 0 - 1) = -1 := by
    by_cases q : slM s (s 120 0 - 1) = -1
    · exact q
    · have := sl_lt hlm (by omega) (by omega) q
      omega
  have e1 : ei (slM s) (s 62) gn (s 120 0 - 1) = 0 := if_neg (fun q => q.1 hs)
  have e2 : es (slM s) (s 62) gn (s 120 0 - 1) = 0 := if_neg (fun q => q.1 hs)
  have e3 := Sm_succ (ei (slM s) (s 62) gn) (a := 0) (b := s 120 0 - 1) (by omega)
  have e4 := Sm_succ (es (slM s) (s 62) gn) (a := 0) (b := s 120 0 - 1) (by omega)
  rw [show s 120 0 - 1 + 1 = s 120 0 by omega] at e3 e4
  rcases h.1.2.2.2 with q | q
  · exact absurd q.1 (by omega)
  · have a1 : am = Sm (ei (slM s) (s 62) gn) 0 (s 120 0 - 1) := q.2.2.2.2.2.2.2.1
    have a2 : str = Sm (es (slM s) (s 62) gn) 0 (s 120 0 - 1) := q.2.2.2.2.2.2.2.2
    omega
theorem EN_no {s : Nat → Int → Int} {dem am str gl : Int} {gn abv en : Int → Int} (h : MSs s dem am str gl gn abv en) (hz : s 125 0 = 0) : am = 0 ∧ str = 0 ∧ gl = 0 := by
  rcases h.1.2.2.2 with q | q
  · exact ⟨q.2.1, q.2.2.1, q.2.2.2.1⟩
  · exact absurd hz q.1

set_option maxRecDepth 20000 in
theorem c_X10_ends (s : Nat → Int → Int) (w : Int) (hlm : LM s) (hw : 0 ≤ w ∧ w < s 120 0) : ab_Mt yX10_ends cX10_ends 2 (some .boolean) ({ frames := 4, cells := 0, slots := 0, locals := 88 } : Room) false 0 0 [.inr (some 49), .inl w] (WW s) (fun r h2 => ∃ x, r = some (.inl x) ∧ h2 = WW s ∧ ((ENm s w ∧ x = 1) ∨ (¬ ENm s w ∧ x = 0))) := by
  refine ab_mk RX10 false rfl pn_X10_ends (fun z => by cases z) (Nat.le_of_ble_eq_true rfl) (fun V hV => ?_)
  show V 0 [some (.inr (some 49)), some (.inl w)] [] (WW s) 0 0
  have hp : PI (vM s) := hlm.1
  have hv := hlm.2.1
  have hz := hlm.2.2.1
  have hn : 0 ≤ s 120 0 ∧ s 120 0 ≤ 60 := hp.1
  have hnl : 0 ≤ s 125 0 ∧ s 125 0 ≤ s 120 0 := hv.1
  have htol : 0 ≤ s 119 0 ∧ s 119 0 ≤ 20 := hp.2.2.2.2.1
  have hfw := LM_f hlm hw.1 hw.2
  have hlnw := hlm.2.2.2.2.2 w
  refine rb_aload_n hV dX10_ends_0 rfl rfl ?_
  refine rb_get hV (v := .inr (some 62)) dX10_ends_1 ⟨RX10, TX10, 24, rfl, (Nat.le_of_ble_eq_true rfl), lf_X10_57⟩ (gw_49 _) rfl ?_
  refine rb_iload_n hV dX10_ends_4 rfl rfl ?_
  refine rb_iald hV (f := (s 62)) dX10_ends_5 (gw_62 _) (Nat.le_of_ble_eq_true rfl) (by omega) ?_
  refine rb_iconst hV dX10_ends_6 ?_
  refine rb_icmp_lt hV (tgt := 22) dX10_ends_7 (by decide) ⟨(by unfold ab_r at *; omega), (by unfold ab_r at *; omega)⟩ (fun c7 => ?_) (fun c7 => ?_)
  · refine rb_iconst hV dX10_ends_22 ?_
    refine rb_ret hV (r := some (.inl 0)) dX10_ends_23 rfl ⟨(Nat.le_of_ble_eq_true rfl), (Nat.le_of_ble_eq_true rfl)⟩ (by first | exact Or.inl rfl | exact Or.inr rfl | omega) ?_
    exact ⟨_, rfl, rfl, Or.inr ⟨fun q => by have := q.1; omega, rfl⟩⟩
  · refine rb_aload_n hV dX10_ends_10 rfl rfl ?_
    refine rb_iload_n hV dX10_ends_11 rfl rfl ?_
    refine rb_callV hV (rest := []) dX10_ends_12 (c_X10_hasBelow s w hlm (by omega)) lk_X10_230 rfl (Or.inl ⟨9, _, TX10, 24, gw_49 _, rfl⟩) rfl ⟨rfl, rfl, (Nat.le_of_ble_eq_true rfl), (Nat.le_of_ble_eq_true rfl), (Nat.le_of_ble_eq_true rfl), (Nat.le_of_ble_eq_true rfl)⟩ (Nat.le_of_ble_eq_true rfl) (fun r9 h9 p9 => ?_)
    obtain ⟨v9, rfl, rfl, hv9⟩ := p9
    replace hv9 : (BLP s w ∧ v9 = 1) ∨ (¬ BLP s w ∧ v9 = 0) := hv9
    rcases hv9 with ⟨e12, rfl⟩ | ⟨e12, rfl⟩
    · show V 15 [some (.inr (some 49)), some (.inl w)] [.inl 1] (WW s) 0 0
      refine rb_if_ne hV (tgt := 22) dX10_ends_15 (by decide) (by unfold ab_r at *; omega) (fun _ => ?_) (fun z => absurd z (by decide))
      refine rb_iconst hV dX10_ends_22 ?_
      refine rb_ret hV (r := some (.inl 0)) dX10_ends_23 rfl ⟨(Nat.le_of_ble_eq_true rfl), (Nat.le_of_ble_eq_true rfl)⟩ (by first | exact Or.inl rfl | exact Or.inr rfl | omega) ?_
      exact ⟨_, rfl, rfl, Or.inr ⟨fun q => q.2 e12, rfl⟩⟩
    · show V 15 [some (.inr (some 49)), some (.inl w)] [.inl 0] (WW s) 0 0
      refine rb_if_ne hV (tgt := 22) dX10_ends_15 (by decide) (by unfold ab_r at *; omega) (fun z => absurd z (by decide)) (fun _ => ?_)
      refine rb_iconst hV dX10_ends_18 ?_
      refine rb_goto hV (tgt := 23) dX10_ends_19 (by decide) ?_
      refine rb_ret hV (r := some (.inl 1)) dX10_ends_23 rfl ⟨(Nat.le_of_ble_eq_true rfl), (Nat.le_of_ble_eq_true rfl)⟩ (by first | exact Or.inl rfl | exact Or.inr rfl | omega) ?_
      exact ⟨_, rfl, rfl, Or.inl ⟨⟨by omega, e12⟩, rfl⟩⟩

set_option maxRecDepth 20000 in
theorem c_X10_strength (s : Nat → Int → Int) (hx : MI s) : ab_Mt yX10_strength cX10_strength 3 (some .int) ({ frames := 5, cells := 0, slots := 0, locals := 109 } : Room) false 0 0 [.inr (some 49)] (WW s) (fun r h2 => ∃ v, r = some (.inl v) ∧ h2 = WW s ∧ STR s v) := by
  refine ab_mk RX10 false rfl pn_X10_strength (fun z => by cases z) (Nat.le_of_ble_eq_true rfl) (fun V hV => ?_)
  show V 0 [some (.inr (some 49)), none, none] [] (WW s) 0 0
  obtain ⟨hp, hbw, hv, hms0, hz0, hx3, hx4⟩ := id hx
  have hn : 0 ≤ s 120 0 ∧ s 120 0 ≤ 60 := hp.1
  have hnl : 0 ≤ s 125 0 ∧ s 125 0 ≤ s 120 0 := hv.1
  have hb := BWq_BS hp hbw
  have hsw := (MST_b hms0).1
  have hln := (MST_b hms0).2
  obtain ⟨dem, am, str, gl, gn, abv, en, hmx⟩ := hms0
  refine rb_iconst hV dX10_strength_0 ?_
  refine rb_istore_n hV (L2 := [some (.inr (some 49)), some (.inl 0), none]) dX10_strength_1 rfl (Nat.le_of_ble_eq_true rfl) rfl ?_
  refine rb_iconst hV dX10_strength_2 ?_
  refine rb_istore_n hV (L2 := [some (.inr (some 49)), some (.inl 0), some (.inl 0)]) dX10_strength_3 rfl (Nat.le_of_ble_eq_true rfl) rfl ?_
  have h4 : ∀ (n4 : Nat) (u : Int) (w : Int), (0 ≤ w ∧ w ≤ s 120 0) → ((0 < s 125 0 → u = Sm (es (slM s) (s 62) gn) 0 w) ∧ (¬ 0 < s 125 0 → u = 0)) → ((s 120 0 - w).toNat) < n4 → V 4 [some (.inr (some 49)), some (.inl u), some (.inl w)] [] (WW s) 0 0 := by
    intro n4
    induction n4 with
    | zero => intro u w h1 h2 hm; omega
    | succ n4 ih4 =>
      intro u w h1 h2 hm
      refine rb_iload_n hV dX10_strength_4 rfl rfl ?_
      refine rb_aload_n hV dX10_strength_5 rfl rfl ?_
      refine rb_get hV (v := .inl (s 120 0)) dX10_strength_6 ⟨RX10, TX10, 24, rfl, (Nat.le_of_ble_eq_true rfl), lf_X10_90⟩ (gw_49 _) rfl ?_
      refine rb_icmp_ge hV (tgt := 48) dX10_strength_9 (by decide) ⟨(by unfold ab_r at *; omega), (by unfold ab_r at *; omega)⟩ (fun c9 => ?_) (fun c9 => ?_)
      · refine rb_iload_n hV dX10_strength_48 rfl rfl ?_
        refine rb_ret hV (r := some (.inl u)) dX10_strength_49 rfl ⟨(Nat.le_of_ble_eq_true rfl), (Nat.le_of_ble_eq_true rfl)⟩ trivial ?_
        have hu : u = str := by
          by_cases q : 0 < s 125 0
          · have hlm : LM s := LM_of hp hv q hmx
            rw [h2.1 q, show w = s 120 0 by omega]
            exact (EN_all hlm hmx).2
          · rw [h2.2 q]
            exact (EN_no hmx (by omega)).2.1.symm
        exact ⟨u, rfl, rfl, dem, am, gl, gn, abv, en, by rw [hu]; exact hmx⟩
      · refine rb_aload_n hV dX10_strength_12 rfl rfl ?_
        refine rb_get hV (v := .inl (s 125 0)) dX10_strength_13 ⟨RX10, TX10, 24, rfl, (Nat.le_of_ble_eq_true rfl), lf_X10_147⟩ (gw_49 _) rfl ?_
        refine rb_if_le hV (tgt := 48) dX10_strength_16 (by decide) (by unfold ab_r at *; omega) (fun c16 => ?_) (fun c16 => ?_)
        · refine rb_iload_n hV dX10_strength_48 rfl rfl ?_
          refine rb_ret hV (r := some (.inl u)) dX10_strength_49 rfl ⟨(Nat.le_of_ble_eq_true rfl), (Nat.le_of_ble_eq_true rfl)⟩ trivial ?_
          have hu : u = str := by
            by_cases q : 0 < s 125 0
            · have hlm : LM s := LM_of hp hv q hmx
              rw [h2.1 q, show w = s 120 0 by omega]
              exact (EN_all hlm hmx).2
            · rw [h2.2 q]
              exact (EN_no hmx (by omega)).2.1.symm
          exact ⟨u, rfl, rfl, dem, am, gl, gn, abv, en, by rw [hu]; exact hmx⟩
        · have hlm : LM s := LM_of hp hv (by omega) hmx
          have hEN := EN_ei hlm hmx h1.1 (show w < s 120 0 by omega)
          have hlnw := hlm.2.2.2.2.2 w
          refine rb_iload_n hV dX10_strength_19 rfl rfl ?_
          refine rb_aload_n hV dX10_strength_20 rfl rfl ?_
          refine rb_iload_n hV dX10_strength_21 rfl rfl ?_
          refine rb_callV hV (rest := [.inl u]) dX10_strength_22 (c_X10_ends s w hlm (by omega)) lk_X10_233 rfl (Or.inl ⟨9, _, TX10, 24, gw_49 _, rfl⟩) rfl ⟨rfl, rfl, (Nat.le_of_ble_eq_true rfl), (Nat.le_of_ble_eq_true rfl), (Nat.le_of_ble_eq_true rfl), (Nat.le_of_ble_eq_true rfl)⟩ (Nat.le_of_ble_eq_true rfl) (fun r9 h9 p9 => ?_)
          obtain ⟨v9, rfl, rfl, hv9⟩ := p9
          rcases hv9 with ⟨e22, rfl⟩ | ⟨e22, rfl⟩
          · show V 25 [some (.inr (some 49)), some (.inl u), some (.inl w)] [.inl 1, .inl u] (WW s) 0 0
            refine rb_if_eq hV (tgt := 39) dX10_strength_25 (by decide) (by unfold ab_r at *; omega) (fun z => absurd z (by decide)) (fun _ => ?_)
            refine rb_aload_n hV dX10_strength_28 rfl rfl ?_
            refine rb_get hV (v := .inr (some 62)) dX10_strength_29 ⟨RX10, TX10, 24, rfl, (Nat.le_of_ble_eq_true rfl), lf_X10_57⟩ (gw_49 _) rfl ?_
            refine rb_iload_n hV dX10_strength_32 rfl rfl ?_
            refine rb_iald hV (f := (s 62)) dX10_strength_33 (gw_62 _) (Nat.le_of_ble_eq_true rfl) (by omega) ?_
            refine rb_iconst hV dX10_strength_34 ?_
            refine rb_isub hV dX10_strength_35 ?_
            refine rb_goto hV (tgt := 40) dX10_strength_36 (by decide) ?_
            refine rb_iadd hV dX10_strength_40 ?_
            refine rb_istore_n hV (L2 := [some (.inr (some 49)), some (.inl (u + ((s 62 w) - 2))), some (.inl w)]) dX10_strength_41 rfl (Nat.le_of_ble_eq_true rfl) rfl ?_
            refine rb_iinc hV (L2 := [some (.inr (some 49)), some (.inl (u + ((s 62 w) - 2))), some (.inl (w + 1))]) dX10_strength_42 rfl rfl rfl ?_
            refine rb_goto hV (tgt := 4) dX10_strength_45 (by decide) ?_
            refine ih4 (u + ((s 62 w) - 2)) (w + 1) ?_ ?_ ?_
            · omega
            · refine ⟨fun q => ?_, fun q => absurd q (by omega)⟩
              rw [Sm_succ _ h1.1, (hEN.1 e22).2, h2.1 q]
            · omega
          · show V 25 [some (.inr (some 49)), some (.inl u), some (.inl w)] [.inl 0, .inl u] (WW s) 0 0
            refine rb_if_eq hV (tgt := 39) dX10_strength_25 (by decide) (by unfold ab_r at *; omega) (fun _ => ?_) (fun z => absurd z (by decide))
            refine rb_iconst hV dX10_strength_39 ?_
            refine rb_iadd hV dX10_strength_40 ?_
            refine rb_istore_n hV (L2 := [some (.inr (some 49)), some (.inl (u + 0)), some (.inl w)]) dX10_strength_41 rfl (Nat.le_of_ble_eq_true rfl) rfl ?_
            refine rb_iinc hV (L2 := [some (.inr (some 49)), some (.inl (u + 0)), some (.inl (w + 1))]) dX10_strength_42 rfl rfl rfl ?_
            refine rb_goto hV (tgt := 4) dX10_strength_45 (by decide) ?_
            refine ih4 (u + 0) (w + 1) ?_ ?_ ?_
            · omega
            · refine ⟨fun q => ?_, fun q => absurd q (by omega)⟩
              rw [Sm_succ _ h1.1, (hEN.2 e22).2, h2.1 q]
            · omega
  refine h4 _ 0 0 ?_ ?_ (Nat.lt_succ_self _)
  · omega
  · exact ⟨fun _ => (Sm_self _ _).symm, fun _ => rfl⟩

def ENO (s : Nat → Int → Int) (rv x : Int) : Prop := ∃ dem am str gl gn abv en, MSs s dem am str gl gn abv en ∧ (0 ≤ am ∧ am ≤ 60) ∧ ((0 < s 125 0 ∧ (0 ≤ x ∧ x < s 120 0 - 1) ∧ (ei (slM s) (s 62) gn) x = 1 ∧ Sm (ei (slM s) (s 62) gn) 0 x = rv) ∨ (x = am - 1000 ∧ (0 < s 125 0 → ∀ v, 0 ≤ v → v < s 120 0 → (ei (slM s) (s 62) gn) v = 1 → ¬ Sm (ei (slM s) (s 62) gn) 0 v = rv)))
theorem am_b {s : Nat → Int → Int} {dem am str gl : Int} {gn abv en : Int → Int} (h : MSs s dem am str gl gn abv en) (hp : PI (vM s)) (hv : LV (vM s) (s 59) (s 125 0)) : 0 ≤ am ∧ am ≤ 60 := by
  have hnl : 0 ≤ s 125 0 ∧ s 125 0 ≤ s 120 0 := hv.1
  have hn : 0 ≤ s 120 0 ∧ s 120 0 ≤ 60 := hp.1
  by_cases hz : s 125 0 = 0
  · have := (EN_no h hz).1
    omega
  · have hlm : LM s := LM_of hp hv (by omega) h
    have e := (EN_all hlm h).1
    have := Sei_b (slM s) (s 62) gn hn.1
    omega

set_option maxRecDepth 20000 in
theorem c_X10_endOf (s : Nat → Int → Int) (rv : Int) (hrv : ab_r rv) (hx : MI s) : ab_Mt yX10_endOf cX10_endOf 4 (some .int) ({ frames := 5, cells := 0, slots := 0, locals := 109 } : Room) false 0 0 [.inr (some 49), .inl rv] (WW s) (fun r h2 => ∃ x, r = some (.inl x) ∧ h2 = WW s ∧ ENO s rv x) := by
  refine ab_mk RX10 false rfl pn_X10_endOf (fun z => by cases z) (Nat.le_of_ble_eq_true rfl) (fun V hV => ?_)
  show V 0 [some (.inr (some 49)), some (.inl rv), none, none] [] (WW s) 0 0
  obtain ⟨hp, hbw, hv, hms0, hz0, hx3, hx4⟩ := id hx
  have hn : 0 ≤ s 120 0 ∧ s 120 0 ≤ 60 := hp.1
  have hnl : 0 ≤ s 125 0 ∧ s 125 0 ≤ s 120 0 := hv.1
  have hb := BWq_BS hp hbw
  have hsw := (MST_b hms0).1
  have hln := (MST_b hms0).2
  obtain ⟨dem, am, str, gl, gn, abv, en, hmx⟩ := hms0
  refine rb_iconst hV dX10_endOf_0 ?_
  refine rb_istore_n hV (L2 := [some (.inr (some 49)), some (.inl rv), some (.inl 0), none]) dX10_endOf_1 rfl (Nat.le_of_ble_eq_true rfl) rfl ?_
  refine rb_iconst hV dX10_endOf_2 ?_
  refine rb_istore_n hV (L2 := [some (.inr (some 49)), some (.inl rv), some (.inl 0), some (.inl 0)]) dX10_endOf_3 rfl (Nat.le_of_ble_eq_true rfl) rfl ?_
  have h4 : ∀ (n4 : Nat) (k : Int) (w : Int), (0 ≤ w ∧ w ≤ s 120 0) → ((0 < s 125 0 → k = Sm (ei (slM s) (s 62) gn) 0 w ∧ ∀ v, 0 ≤ v → v < w → (ei (slM s) (s 62) gn) v = 1 → ¬ Sm (ei (slM s) (s 62) gn) 0 v = rv) ∧ (¬ 0 < s 125 0 → k = 0)) → ((s 120 0 - w).toNat) < n4 → V 4 [some (.inr (some 49)), some (.inl rv), some (.inl k), some (.inl w)] [] (WW s) 0 0 := by
    intro n4
    induction n4 with
    | zero => intro k w h1 h2 hm; omega
    | succ n4 ih4 =>
      intro k w h1 h2 hm
      refine rb_iload_n hV dX10_endOf_4 rfl rfl ?_
      refine rb_aload_n hV dX10_endOf_5 rfl rfl ?_
      refine rb_get hV (v := .inl (s 120 0)) dX10_endOf_6 ⟨RX10, TX10, 24, rfl, (Nat.le_of_ble_eq_true rfl), lf_X10_90⟩ (gw_49 _) rfl ?_
      refine rb_icmp_ge hV (tgt := 43) dX10_endOf_9 (by decide) ⟨(by unfold ab_r at *; omega), (by unfold ab_r at *; omega)⟩ (fun c9 => ?_) (fun c9 => ?_)
      · refine rb_iload_n hV dX10_endOf_43 rfl rfl ?_
        refine rb_sipush hV dX10_endOf_44 (by decide) ?_
        refine rb_isub hV dX10_endOf_47 ?_
        refine rb_ret hV (r := some (.inl (k - 1000))) dX10_endOf_48 rfl ⟨(Nat.le_of_ble_eq_true rfl), (Nat.le_of_ble_eq_true rfl)⟩ trivial ?_
        have hu : k = am := by
          by_cases q : 0 < s 125 0
          · have hlm : LM s := LM_of hp hv q hmx
            rw [(h2.1 q).1, show w = s 120 0 by omega]
            exact (EN_all hlm hmx).1
          · rw [h2.2 q]
            exact (EN_no hmx (by omega)).1.symm
        exact ⟨_, rfl, rfl, dem, am, str, gl, gn, abv, en, hmx, am_b hmx hp hv, Or.inr ⟨by rw [hu], fun q v a b c => (h2.1 q).2 v a (by omega) c⟩⟩
      · refine rb_aload_n hV dX10_endOf_12 rfl rfl ?_
        refine rb_get hV (v := .inl (s 125 0)) dX10_endOf_13 ⟨RX10, TX10, 24, rfl, (Nat.le_of_ble_eq_true rfl), lf_X10_147⟩ (gw_49 _) rfl ?_
        refine rb_if_le hV (tgt := 43) dX10_endOf_16 (by decide) (by unfold ab_r at *; omega) (fun c16 => ?_) (fun c16 => ?_)
        · refine rb_iload_n hV dX10_endOf_43 rfl rfl ?_
          refine rb_sipush hV dX10_endOf_44 (by decide) ?_
          refine rb_isub hV dX10_endOf_47 ?_
          refine rb_ret hV (r := some (.inl (k - 1000))) dX10_endOf_48 rfl ⟨(Nat.le_of_ble_eq_true rfl), (Nat.le_of_ble_eq_true rfl)⟩ trivial ?_
          have hu : k = am := by
            by_cases q : 0 < s 125 0
            · have hlm : LM s := LM_of hp hv q hmx
              rw [(h2.1 q).1, show w = s 120 0 by omega]
              exact (EN_all hlm hmx).1
            · rw [h2.2 q]
              exact (EN_no hmx (by omega)).1.symm
          exact ⟨_, rfl, rfl, dem, am, str, gl, gn, abv, en, hmx, am_b hmx hp hv, Or.inr ⟨by rw [hu], fun q v a b c => (h2.1 q).2 v a (by omega) c⟩⟩
        · have hlm : LM s := LM_of hp hv (by omega) hmx
          have hEN := EN_ei hlm hmx h1.1 (show w < s 120 0 by omega)
          have hlnw := hlm.2.2.2.2.2 w
          have hkb := Sei_b (slM s) (s 62) gn h1.1
          have hk1 := (h2.1 (by omega)).1
          refine rb_aload_n hV dX10_endOf_19 rfl rfl ?_
          refine rb_iload_n hV dX10_endOf_20 rfl rfl ?_
          refine rb_callV hV (rest := []) dX10_endOf_21 (c_X10_ends s w hlm (by omega)) lk_X10_233 rfl (Or.inl ⟨9, _, TX10, 24, gw_49 _, rfl⟩) rfl ⟨rfl, rfl, (Nat.le_of_ble_eq_true rfl), (Nat.le_of_ble_eq_true rfl), (Nat.le_of_ble_eq_true rfl), (Nat.le_of_ble_eq_true rfl)⟩ (Nat.le_of_ble_eq_true rfl) (fun r9 h9 p9 => ?_)
          obtain ⟨v9, rfl, rfl, hv9⟩ := p9
          rcases hv9 with ⟨e21, rfl⟩ | ⟨e21, rfl⟩
          · show V 24 [some (.inr (some 49)), some (.inl rv), some (.inl k), some (.inl w)] [.inl 1] (WW s) 0 0
            refine rb_if_eq hV (tgt := 37) dX10_endOf_24 (by decide) (by unfold ab_r at *; omega) (fun z => absurd z (by decide)) (fun _ => ?_)
            refine rb_iload_n hV dX10_endOf_27 rfl rfl ?_
            refine rb_iload_n hV dX10_endOf_28 rfl rfl ?_
            refine rb_icmp_ne hV (tgt := 34) dX10_endOf_29 (by decide) ⟨(by unfold ab_r at *; omega), (by unfold ab_r at *; omega)⟩ (fun c29 => ?_) (fun c29 => ?_)
            · refine rb_iinc hV (L2 := [some (.inr (some 49)), some (.inl rv), some (.inl (k + 1)), some (.inl w)]) dX10_endOf_34 rfl rfl rfl ?_
              refine rb_iinc hV (L2 := [some (.inr (some 49)), some (.inl rv), some (.inl (k + 1)), some (.inl (w + 1))]) dX10_endOf_37 rfl rfl rfl ?_
              refine rb_goto hV (tgt := 4) dX10_endOf_40 (by decide) ?_
              refine ih4 (k + 1) (w + 1) ?_ ?_ ?_
              · omega
              · refine ⟨fun q => ⟨?_, fun v q1 q2 q3 => ?_⟩, fun q => absurd q (by omega)⟩
                · rw [Sm_succ _ h1.1, (hEN.1 e21).1, (h2.1 q).1]
                · by_cases e : v = w
                  · rw [e, ← (h2.1 q).1]
                    exact c29
                  · exact (h2.1 q).2 v q1 (by omega) q3
              · omega
            · refine rb_iload_n hV dX10_endOf_32 rfl rfl ?_
              refine rb_ret hV (r := some (.inl w)) dX10_endOf_33 rfl ⟨(Nat.le_of_ble_eq_true rfl), (Nat.le_of_ble_eq_true rfl)⟩ trivial ?_
              have hs := (ei_1 (hEN.1 e21).1).1
              exact ⟨w, rfl, rfl, dem, am, str, gl, gn, abv, en, hmx, am_b hmx hp hv, Or.inl ⟨by omega, ⟨h1.1, sl_lt hlm h1.1 (by omega) hs⟩, (hEN.1 e21).1, by rw [← (h2.1 (by omega)).1]; omega⟩⟩
          · show V 24 [some (.inr (some 49)), some (.inl rv), some (.inl k), some (.inl w)] [.inl 0] (WW s) 0 0
            refine rb_if_eq hV (tgt := 37) dX10_endOf_24 (by decide) (by unfold ab_r at *; omega) (fun _ => ?_) (fun z => absurd z (by decide))
            refine rb_iinc hV (L2 := [some (.inr (some 49)), some (.inl rv), some (.inl k), some (.inl (w + 1))]) dX10_endOf_37 rfl rfl rfl ?_
            refine rb_goto hV (tgt := 4) dX10_endOf_40 (by decide) ?_
            refine ih4 k (w + 1) ?_ ?_ ?_
            · omega
            · refine ⟨fun q => ⟨?_, fun v q1 q2 q3 => ?_⟩, fun q => absurd q (by omega)⟩
              · rw [Sm_succ _ h1.1, (hEN.2 e21).1, (h2.1 q).1, Int.add_zero]
              · by_cases e : v = w
                · rw [e, (hEN.2 e21).1] at q3
                  omega
                · exact (h2.1 q).2 v q1 (by omega) q3
            · omega
  refine h4 _ 0 0 ?_ ?_ (Nat.lt_succ_self _)
  · omega
  · exact ⟨fun _ => ⟨(Sm_self _ _).symm, fun v q1 q2 => by omega⟩, fun _ => rfl⟩
