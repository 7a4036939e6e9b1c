theorem XI_tx {s : Nat → Int → Int} (h : XI s) {f g : Int → Int} (h1 : ∀ v, 0 ≤ f v ∧ f v < 65536) (h2 : 0 ≤ g 0 ∧ g 0 ≤ 120) : XI (ab_s (ab_s s 22 f) 104 g) :=
  ⟨h.1, h.2.1, h.2.2.1, h.2.2.2.1, h.2.2.2.2.1, h.2.2.2.2.2.1, h.2.2.2.2.2.2.1, h.2.2.2.2.2.2.2.1, h2, h1⟩
theorem XI_t0 {s : Nat → Int → Int} (h : XI s) {g : Int → Int} (h2 : 0 ≤ g 0 ∧ g 0 ≤ 120) : XI (ab_s s 104 g) :=
  ⟨h.1, h.2.1, h.2.2.1, h.2.2.2.1, h.2.2.2.2.1, h.2.2.2.2.2.1, h.2.2.2.2.2.2.1, h.2.2.2.2.2.2.2.1, h2, h.2.2.2.2.2.2.2.2.2⟩
theorem XI_od {s : Nat → Int → Int} (h : XI s) {f g e : Int → Int} : XI (ab_s (ab_s (ab_s s 105 f) 106 g) 24 e) :=
  ⟨h.1, h.2.1, h.2.2.1, h.2.2.2.1, h.2.2.2.2.1, h.2.2.2.2.2.1, h.2.2.2.2.2.2.1, h.2.2.2.2.2.2.2.1, h.2.2.2.2.2.2.2.2.1, h.2.2.2.2.2.2.2.2.2⟩
/-- what the text is after a sign -/
def TYP (s : Nat → Int → Int) (z : Int) : Nat → Int → Int := ab_s (ab_s s 22 (ab_u (s 22) (s 104 0) z)) 104 (fun _ => s 104 0 + 1)
theorem ab_u_r {f : Int → Int} {k z lo hi : Int} (h : ∀ v, lo ≤ f v ∧ f v < hi) (hz : lo ≤ z ∧ z < hi) : ∀ v, lo ≤ ab_u f k z v ∧ ab_u f k z v < hi := by
  intro v
  by_cases e : v = k
  · rw [e, ab_u_eq]; exact hz
  · rw [ab_u_ne e]; exact h v
theorem XP_ap {s s2 : Nat → Int → Int} {f g e : Int → Int} (h : XP s) (ha : APM (ab_s (ab_s (ab_s s 105 f) 106 g) 24 e) s2) (ho : OKC (f 0) (g 0) e) : XP s2 := by
  have hp := h.1
  have ha : (f 0 = 0 ∧ s2 = ab_s (ab_s (ab_s (ab_s s 105 f) 106 g) 24 e) 100 (fun _ => e 0)) ∨ (f 0 = 1 ∧ s2 = ab_s (ab_s (ab_s (ab_s s 105 f) 106 g) 24 e) 101 (fun _ => e 0)) ∨ (f 0 = 2 ∧ s2 = ab_s (ab_s (ab_s (ab_s s 105 f) 106 g) 24 e) 102 (fun _ => e 0)) ∨ (f 0 = 3 ∧ s2 = ab_s (ab_s (ab_s (ab_s (ab_s (ab_s s 105 f) 106 g) 24 e) 2 (ab_u (s 2) (g 0) (e 0))) 3 (ab_u (s 3) (g 0) (e 1))) 4 (ab_u (s 4) (g 0) (e 2))) := ha
  unfold OKC at ho
  rcases ha with ⟨q, rfl⟩ | ⟨q, rfl⟩ | ⟨q, rfl⟩ | ⟨q, rfl⟩
  · exact ⟨⟨hp.1, hp.2.1, by show 10 ≤ e 0 ∧ e 0 ≤ 200; omega, hp.2.2.2⟩, h.2⟩
  · exact ⟨⟨hp.1, hp.2.1, hp.2.2.1, by show 0 ≤ e 0 ∧ e 0 ≤ 100; omega, hp.2.2.2.2⟩, h.2⟩
  · exact ⟨⟨hp.1, hp.2.1, hp.2.2.1, hp.2.2.2.1, by show 0 ≤ e 0 ∧ e 0 ≤ 20; omega, hp.2.2.2.2.2⟩, h.2⟩
  · refine ⟨⟨hp.1, hp.2.1, hp.2.2.1, hp.2.2.2.1, hp.2.2.2.2.1, fun j q1 q2 => ?_⟩, h.2⟩
    have hj := hp.2.2.2.2.2 j q1 q2
    show 1 ≤ ab_u (s 2) (g 0) (e 0) j ∧ ab_u (s 2) (g 0) (e 0) j ≤ ab_u (s 3) (g 0) (e 1) j ∧ ab_u (s 3) (g 0) (e 1) j ≤ ab_u (s 4) (g 0) (e 2) j ∧ ab_u (s 4) (g 0) (e 2) j ≤ 40
    by_cases hjk : j = g 0
    · rw [hjk, ab_u_eq, ab_u_eq, ab_u_eq]
      omega
    · rw [ab_u_ne hjk, ab_u_ne hjk, ab_u_ne hjk]
      exact hj
theorem XP_tk {s : Nat → Int → Int} (h : XP s) : XP (TKM s) := by
  refine ⟨?_, h.2⟩
  rw [TKM_vX]
  exact parD_PI h.1 _ h.2.2.2.2.2.2.1

set_option maxRecDepth 20000 in
theorem c_X8_append2 (s : Nat → Int → Int) (z : Int) (hz : 0 ≤ z ∧ z < 65536) (hn : 0 ≤ s 104 0 ∧ s 104 0 ≤ 120) : ab_Mt yX8_append cX8_append 2 (some .int) ({ frames := 0, cells := 0, slots := 0, locals := 0 } : Room) false 0 0 [.inr (some 21), .inl z] (WW s) (fun r h2 => ∃ v s2, r = some (.inl v) ∧ h2 = WW s2 ∧ ((¬ s 104 0 < 120 ∧ v = -1003 ∧ s2 = s) ∨ (s 104 0 < 120 ∧ v = s 104 0 + 1 ∧ s2 = TYP s z))) := by
  refine ab_mk RX8 false rfl pn_X8_append (fun z => by cases z) (Nat.le_of_ble_eq_true rfl) (fun V hV => ?_)
  show V 0 [some (.inr (some 21)), some (.inl z)] [] (WW s) 0 0
  refine rb_aload_n hV dX8_append_0 rfl rfl ?_
  refine rb_get hV (v := .inl (s 104 0)) dX8_append_1 ⟨RX8, TX8, 2, rfl, (Nat.le_of_ble_eq_true rfl), lf_X8_15⟩ (gw_21 _) rfl ?_
  refine rb_bipush hV dX8_append_4 (by decide) ?_
  refine rb_icmp_lt hV (tgt := 13) dX8_append_6 (by decide) ⟨(by first | assumption | (unfold ab_r at *; omega)), (by first | assumption | (unfold ab_r at *; omega))⟩ (fun c6 => ?_) (fun c6 => ?_)
  · refine rb_aload_n hV dX8_append_13 rfl rfl ?_
    refine rb_get hV (v := .inr (some 22)) dX8_append_14 ⟨RX8, TX8, 2, rfl, (Nat.le_of_ble_eq_true rfl), lf_X8_9⟩ (gw_21 _) rfl ?_
    refine rb_aload_n hV dX8_append_17 rfl rfl ?_
    refine rb_get hV (v := .inl (s 104 0)) dX8_append_18 ⟨RX8, TX8, 2, rfl, (Nat.le_of_ble_eq_true rfl), lf_X8_15⟩ (gw_21 _) rfl ?_
    refine rb_iload_n hV dX8_append_21 rfl rfl ?_
    refine rb_cast hV (f := (s 22)) dX8_append_22 (gw_22 _) (Nat.le_of_ble_eq_true rfl) (by omega) (by omega) rfl (pw_22 _ _) ?_
    refine rb_aload_n hV dX8_append_23 rfl rfl ?_
    refine rb_dup hV dX8_append_24 ?_
    refine rb_get hV (v := .inl (s 104 0)) dX8_append_25 ⟨RX8, TX8, 2, rfl, (Nat.le_of_ble_eq_true rfl), lf_X8_15⟩ (gw_21 _) rfl ?_
    refine rb_iconst hV dX8_append_28 ?_
    refine rb_iadd hV dX8_append_29 ?_
    refine rb_put hV (C := RX8) (T := TX8) (N := 2) (ci := 7) (j := 1) dX8_append_30 rfl (Nat.le_of_ble_eq_true rfl) lf_X8_15 rfl (gw_21 _) (Nat.le_of_ble_eq_true rfl) (ft_X8_1 _) (pw_21_1 _ _) ?_
    refine rb_aload_n hV dX8_append_33 rfl rfl ?_
    refine rb_get hV (v := .inl ((s 104 0) + 1)) dX8_append_34 ⟨RX8, TX8, 2, rfl, (Nat.le_of_ble_eq_true rfl), lf_X8_15⟩ (gw_21 _) rfl ?_
    refine rb_ret hV (r := some (.inl ((s 104 0) + 1))) dX8_append_37 rfl ⟨(Nat.le_of_ble_eq_true rfl), (Nat.le_of_ble_eq_true rfl)⟩ trivial ?_
    exact ⟨_, _, rfl, rfl, Or.inr ⟨by omega, rfl, rfl⟩⟩
  · refine rb_sipush hV dX8_append_9 (by decide) ?_
    refine rb_ret hV (r := some (.inl (-1003))) dX8_append_12 rfl ⟨(Nat.le_of_ble_eq_true rfl), (Nat.le_of_ble_eq_true rfl)⟩ trivial ?_
    exact ⟨_, _, rfl, rfl, Or.inl ⟨by omega, rfl, rfl⟩⟩

set_option maxRecDepth 20000 in
theorem c_X9_type (s : Nat → Int → Int) (z : Int) (hzz : 0 ≤ z ∧ z < 65536) (hx : XI s) : ab_Mt yX9_type cX9_type 2 (some .int) ({ frames := 1, cells := 0, slots := 0, locals := 21 } : Room) false 0 0 [.inr (some 0), .inl z] (WW s) (fun r h2 => (¬ s 104 0 < 120 ∧ RO s (-1003) r h2) ∨ (s 104 0 < 120 ∧ r = some (.inl (s 104 0 + 1)) ∧ h2 = WW (TYP s z) ∧ XI (TYP s z))) := by
  refine ab_mk RX9 false rfl pn_X9_type (fun z => by cases z) (Nat.le_of_ble_eq_true rfl) (fun V hV => ?_)
  show V 0 [some (.inr (some 0)), some (.inl z)] [] (WW s) 0 0
  obtain ⟨hp, hr, hbw, hv, hst, hz, hx1, hx2, hx3, hx4⟩ := id hx
  have hn : 0 ≤ s 103 0 ∧ s 103 0 ≤ 60 := hp.1
  have hnl : 0 ≤ s 107 0 ∧ s 107 0 ≤ s 103 0 := hv.1
  have hb := BWp_BS hp hbw
  refine rb_aload_n hV dX9_type_0 rfl rfl ?_
  refine rb_get hV (v := .inr (some 21)) dX9_type_1 ⟨RX9, TX9, 8, rfl, (Nat.le_of_ble_eq_true rfl), lf_X9_26⟩ (gw_0 _) rfl ?_
  refine rb_iload_n hV dX9_type_4 rfl rfl ?_
  refine rb_callV hV (rest := []) dX9_type_5 (c_X8_append2 s z hzz hx3) lk_X9_67 rfl (Or.inl ⟨7, _, TX8, 2, gw_21 _, rfl⟩) rfl ⟨rfl, rfl, (Nat.le_of_ble_eq_true rfl), (Nat.le_of_ble_eq_true rfl), (Nat.le_of_ble_eq_true rfl), (Nat.le_of_ble_eq_true rfl)⟩ (Nat.le_of_ble_eq_true rfl) (fun r9 h9 p9 => ?_)
  obtain ⟨v9, s9, rfl, rfl, hv9⟩ := p9
  show V 8 [some (.inr (some 0)), some (.inl z)] [.inl v9] (WW s9) 0 0
  refine rb_ret hV (r := some (.inl v9)) dX9_type_8 rfl ⟨(Nat.le_of_ble_eq_true rfl), (Nat.le_of_ble_eq_true rfl)⟩ trivial ?_
  rcases hv9 with ⟨g, rfl, rfl⟩ | ⟨g, rfl, rfl⟩
  · exact Or.inl ⟨g, rfl, rfl⟩
  · exact Or.inr ⟨g, rfl, rfl, XI_tx hx (ab_u_r hx4 hzz) (by show 0 ≤ s 104 0 + 1 ∧ s 104 0 + 1 ≤ 120; omega)⟩

set_option maxRecDepth 20000 in
theorem c_X9_clearText (s : Nat → Int → Int) (hx : XI s) : ab_Mt yX9_clearText cX9_clearText 1 (some .int) ({ frames := 1, cells := 0, slots := 0, locals := 21 } : Room) false 0 0 [.inr (some 0)] (WW s) (fun r h2 => r = some (.inl (s 104 0)) ∧ h2 = WW (ab_s s 104 (fun _ => 0)) ∧ XI (ab_s s 104 (fun _ => 0))) := by
  refine ab_mk RX9 false rfl pn_X9_clearText (fun z => by cases z) (Nat.le_of_ble_eq_true rfl) (fun V hV => ?_)
  show V 0 [some (.inr (some 0))] [] (WW s) 0 0
  obtain ⟨hp, hr, hbw, hv, hst, hz, hx1, hx2, hx3, hx4⟩ := id hx
  have hn : 0 ≤ s 103 0 ∧ s 103 0 ≤ 60 := hp.1
  have hnl : 0 ≤ s 107 0 ∧ s 107 0 ≤ s 103 0 := hv.1
  have hb := BWp_BS hp hbw
  refine rb_aload_n hV dX9_clearText_0 rfl rfl ?_
  refine rb_get hV (v := .inr (some 21)) dX9_clearText_1 ⟨RX9, TX9, 8, rfl, (Nat.le_of_ble_eq_true rfl), lf_X9_26⟩ (gw_0 _) rfl ?_
  refine rb_callV hV (rest := []) dX9_clearText_4 (c_X8_empty s) lk_X9_71 rfl (Or.inl ⟨7, _, TX8, 2, gw_21 _, rfl⟩) rfl ⟨rfl, rfl, (Nat.le_of_ble_eq_true rfl), (Nat.le_of_ble_eq_true rfl), (Nat.le_of_ble_eq_true rfl), (Nat.le_of_ble_eq_true rfl)⟩ (Nat.le_of_ble_eq_true rfl) (fun r9 h9 p9 => ?_)
  obtain ⟨rfl, rfl⟩ := p9
  show V 7 [some (.inr (some 0))] [.inl ((s 104 0))] (WW (ab_s s 104 (fun _ => 0))) 0 0
  refine rb_ret hV (r := some (.inl ((s 104 0)))) dX9_clearText_7 rfl ⟨(Nat.le_of_ble_eq_true rfl), (Nat.le_of_ble_eq_true rfl)⟩ trivial ?_
  exact ⟨rfl, rfl, XI_t0 hx (by decide)⟩

set_option maxRecDepth 20000 in
theorem c_X9_readParagraph (s : Nat → Int → Int) (hx : XI s) : ab_Mt yX9_readParagraph cX9_readParagraph 2 (some .int) ({ frames := 9, cells := 0, slots := 0, locals := 200 } : Room) false 0 0 [.inr (some 0)] (WW s) (fun r h2 => ∃ v, FLT (s 22) (s 104 0) v ∧ ((¬ v = -1 ∧ RO s (-100 - v) r h2) ∨ (v = -1 ∧ UPD (TKM s) (TKM s 103 0) r h2))) := by
  refine ab_mk RX9 false rfl pn_X9_readParagraph (fun z => by cases z) (Nat.le_of_ble_eq_true rfl) (fun V hV => ?_)
  show V 0 [some (.inr (some 0)), none] [] (WW s) 0 0
  obtain ⟨hp, hr, hbw, hv, hst, hz, hx1, hx2, hx3, hx4⟩ := id hx
  have hn : 0 ≤ s 103 0 ∧ s 103 0 ≤ 60 := hp.1
  have hnl : 0 ≤ s 107 0 ∧ s 107 0 ≤ s 103 0 := hv.1
  have hb := BWp_BS hp hbw
  refine rb_aload_n hV dX9_readParagraph_0 rfl rfl ?_
  refine rb_get hV (v := .inr (some 21)) dX9_readParagraph_1 ⟨RX9, TX9, 8, rfl, (Nat.le_of_ble_eq_true rfl), lf_X9_26⟩ (gw_0 _) rfl ?_
  refine rb_callV hV (rest := []) dX9_readParagraph_4 (c_X8_paragraphFault s hx3 hx4) lk_X9_75 rfl (Or.inl ⟨7, _, TX8, 2, gw_21 _, rfl⟩) rfl ⟨rfl, rfl, (Nat.le_of_ble_eq_true rfl), (Nat.le_of_ble_eq_true rfl), (Nat.le_of_ble_eq_true rfl), (Nat.le_of_ble_eq_true rfl)⟩ (Nat.le_of_ble_eq_true rfl) (fun r9 h9 p9 => ?_)
  obtain ⟨v9, rfl, rfl, hv9⟩ := p9
  have hvb : -1 ≤ v9 ∧ v9 ≤ 120 := by rcases hv9 with q | q; exact ⟨by omega, by omega⟩; exact ⟨by have := q.1; omega, by have := q.2.1; omega⟩
  show V 7 [some (.inr (some 0)), none] [.inl v9] (WW s) 0 0
  refine rb_istore_n hV (L2 := [some (.inr (some 0)), some (.inl v9)]) dX9_readParagraph_7 rfl (Nat.le_of_ble_eq_true rfl) rfl ?_
  refine rb_iload_n hV dX9_readParagraph_8 rfl rfl ?_
  refine rb_iconst hV dX9_readParagraph_9 ?_
  refine rb_icmp_eq hV (tgt := 18) dX9_readParagraph_10 (by decide) ⟨(by unfold ab_r at *; omega), (by unfold ab_r at *; omega)⟩ (fun c10 => ?_) (fun c10 => ?_)
  · refine rb_aload_n hV dX9_readParagraph_18 rfl rfl ?_
    refine rb_get hV (v := .inr (some 5)) dX9_readParagraph_19 ⟨RX9, TX9, 8, rfl, (Nat.le_of_ble_eq_true rfl), lf_X9_43⟩ (gw_0 _) rfl ?_
    refine rb_aload_n hV dX9_readParagraph_22 rfl rfl ?_
    refine rb_get hV (v := .inr (some 21)) dX9_readParagraph_23 ⟨RX9, TX9, 8, rfl, (Nat.le_of_ble_eq_true rfl), lf_X9_26⟩ (gw_0 _) rfl ?_
    refine rb_callV hV (rest := []) dX9_readParagraph_26 (c_X4_take s hx3 hx4) lk_X9_78 rfl (Or.inl ⟨4, _, TX4, 6, gw_5 _, rfl⟩) rfl ⟨rfl, rfl, (Nat.le_of_ble_eq_true rfl), (Nat.le_of_ble_eq_true rfl), (Nat.le_of_ble_eq_true rfl), (Nat.le_of_ble_eq_true rfl)⟩ (Nat.le_of_ble_eq_true rfl) (fun r9 h9 p9 => ?_)
    obtain ⟨rfl, rfl⟩ := p9
    show V 29 [some (.inr (some 0)), some (.inl v9)] [] (WW (TKM s)) 0 0
    refine rb_aload_n hV dX9_readParagraph_29 rfl rfl ?_
    refine rb_callV hV (rest := []) dX9_readParagraph_30 (c_X9_restoreBest (TKM s) (XP_tk (XI_XP hx))) lk_X9_82 rfl (Or.inl ⟨8, _, TX9, 8, gw_0 _, rfl⟩) rfl ⟨rfl, rfl, (Nat.le_of_ble_eq_true rfl), (Nat.le_of_ble_eq_true rfl), (Nat.le_of_ble_eq_true rfl), (Nat.le_of_ble_eq_true rfl)⟩ (Nat.le_of_ble_eq_true rfl) (fun r9 h9 p9 => ?_)
    obtain ⟨s2, rfl, rfl, hxi, hbest, hkeep⟩ := p9
    show V 33 [some (.inr (some 0)), some (.inl v9)] [.inl (s2 107 0)] (WW s2) 0 0
    refine rb_pop hV dX9_readParagraph_33 ?_
    refine rb_aload_n hV dX9_readParagraph_34 rfl rfl ?_
    refine rb_get hV (v := .inr (some 5)) dX9_readParagraph_35 ⟨RX9, TX9, 8, rfl, (Nat.le_of_ble_eq_true rfl), lf_X9_43⟩ (gw_0 _) rfl ?_
    refine rb_get hV (v := .inl (s2 103 0)) dX9_readParagraph_38 ⟨RX4, TX4, 6, rfl, (Nat.le_of_ble_eq_true rfl), lf_X9_85⟩ (gw_5 _) rfl ?_
    refine rb_ret hV (r := some (.inl (s2 103 0))) dX9_readParagraph_41 rfl ⟨(Nat.le_of_ble_eq_true rfl), (Nat.le_of_ble_eq_true rfl)⟩ trivial ?_
    exact ⟨v9, hv9, Or.inr ⟨c10, s2, congrArg (fun z : Int => some (Sum.inl z)) (congrArg (fun f : Int → Int => f 0) (hkeep 103 (by decide))), rfl, hxi, hbest, hkeep⟩⟩
  · refine rb_bipush hV dX9_readParagraph_13 (by decide) ?_
    refine rb_iload_n hV dX9_readParagraph_15 rfl rfl ?_
    refine rb_isub hV dX9_readParagraph_16 ?_
    refine rb_ret hV (r := some (.inl ((-100) - v9))) dX9_readParagraph_17 rfl ⟨(Nat.le_of_ble_eq_true rfl), (Nat.le_of_ble_eq_true rfl)⟩ trivial ?_
    exact ⟨v9, hv9, Or.inl ⟨c10, rfl, rfl⟩⟩

set_option maxRecDepth 20000 in
theorem c_X9_command (s : Nat → Int → Int) (hx : XI s) : ab_Mt yX9_command cX9_command 2 (some .int) ({ frames := 8, cells := 0, slots := 0, locals := 179 } : Room) false 0 0 [.inr (some 0)] (WW s) (fun r h2 => ∃ v sub2 kd2 nu2, (prs (s 22) (s 104 0) 5 0 0 (s 105 0) (s 106 0) (s 24)).1 = v ∧ ((¬ v = -1 ∧ r = some (.inl (-100 - v)) ∧ h2 = WW (ab_s (ab_s (ab_s s 105 sub2) 106 kd2) 24 nu2) ∧ XI (ab_s (ab_s (ab_s s 105 sub2) 106 kd2) 24 nu2)) ∨ (v = -1 ∧ ((prs (s 22) (s 104 0) 5 0 0 (s 105 0) (s 106 0) (s 24)).2.1 = sub2 0 ∧ (prs (s 22) (s 104 0) 5 0 0 (s 105 0) (s 106 0) (s 24)).2.2.1 = kd2 0 ∧ (prs (s 22) (s 104 0) 5 0 0 (s 105 0) (s 106 0) (s 24)).2.2.2 = nu2 ∧ OKC (sub2 0) (kd2 0) nu2) ∧ ∃ s1 s2, APM (ab_s (ab_s (ab_s s 105 sub2) 106 kd2) 24 nu2) s1 ∧ r = some (.inl (s2 107 0)) ∧ h2 = WW s2 ∧ XI s2 ∧ BESTL s2 ∧ KEEP RB s1 s2))) := by
  refine ab_mk RX9 false rfl pn_X9_command (fun z => by cases z) (Nat.le_of_ble_eq_true rfl) (fun V hV => ?_)
  show V 0 [some (.inr (some 0)), none] [] (WW s) 0 0
  obtain ⟨hp, hr, hbw, hv, hst, hz, hx1, hx2, hx3, hx4⟩ := id hx
  have hn : 0 ≤ s 103 0 ∧ s 103 0 ≤ 60 := hp.1
  have hnl : 0 ≤ s 107 0 ∧ s 107 0 ≤ s 103 0 := hv.1
  have hb := BWp_BS hp hbw
  refine rb_aload_n hV dX9_command_0 rfl rfl ?_
  refine rb_get hV (v := .inr (some 23)) dX9_command_1 ⟨RX9, TX9, 8, rfl, (Nat.le_of_ble_eq_true rfl), lf_X9_35⟩ (gw_0 _) rfl ?_
  refine rb_aload_n hV dX9_command_4 rfl rfl ?_
  refine rb_get hV (v := .inr (some 21)) dX9_command_5 ⟨RX9, TX9, 8, rfl, (Nat.le_of_ble_eq_true rfl), lf_X9_26⟩ (gw_0 _) rfl ?_
  refine rb_callV hV (rest := []) dX9_command_8 (c_X3_parse s hx3 hx4) lk_X9_89 rfl (Or.inl ⟨3, _, TX3, 3, gw_23 _, rfl⟩) rfl ⟨rfl, rfl, (Nat.le_of_ble_eq_true rfl), (Nat.le_of_ble_eq_true rfl), (Nat.le_of_ble_eq_true rfl), (Nat.le_of_ble_eq_true rfl)⟩ (Nat.le_of_ble_eq_true rfl) (fun r9 h9 p9 => ?_)
  obtain ⟨v9, sub9, kd9, nu9, rfl, rfl, hvb, hpr, hok⟩ := p9
  show V 11 [some (.inr (some 0)), none] [.inl v9] (WW (ab_s (ab_s (ab_s s 105 sub9) 106 kd9) 24 nu9)) 0 0
  refine rb_istore_n hV (L2 := [some (.inr (some 0)), some (.inl v9)]) dX9_command_11 rfl (Nat.le_of_ble_eq_true rfl) rfl ?_
  refine rb_iload_n hV dX9_command_12 rfl rfl ?_
  refine rb_iconst hV dX9_command_13 ?_
  refine rb_icmp_eq hV (tgt := 22) dX9_command_14 (by decide) ⟨(by unfold ab_r at *; omega), (by unfold ab_r at *; omega)⟩ (fun c14 => ?_) (fun c14 => ?_)
  · have ho : OKC (sub9 0) (kd9 0) nu9 := (hok c14).2.2.2
    refine rb_aload_n hV dX9_command_22 rfl rfl ?_
    refine rb_get hV (v := .inr (some 23)) dX9_command_23 ⟨RX9, TX9, 8, rfl, (Nat.le_of_ble_eq_true rfl), lf_X9_35⟩ (gw_0 _) rfl ?_
    refine rb_aload_n hV dX9_command_26 rfl rfl ?_
    refine rb_get hV (v := .inr (some 1)) dX9_command_27 ⟨RX9, TX9, 8, rfl, (Nat.le_of_ble_eq_true rfl), lf_X9_39⟩ (gw_0 _) rfl ?_
    refine rb_callV hV (rest := []) dX9_command_30 (c_X3_applyTo (ab_s (ab_s (ab_s s 105 sub9) 106 kd9) 24 nu9) (by show 0 ≤ sub9 0 ∧ sub9 0 ≤ 3; unfold OKC at ho; omega) (fun q => by show 0 ≤ kd9 0 ∧ kd9 0 < 3; have q : sub9 0 = 3 := q; unfold OKC at ho; omega)) lk_X9_93 rfl (Or.inl ⟨3, _, TX3, 3, gw_23 _, rfl⟩) rfl ⟨rfl, rfl, (Nat.le_of_ble_eq_true rfl), (Nat.le_of_ble_eq_true rfl), (Nat.le_of_ble_eq_true rfl), (Nat.le_of_ble_eq_true rfl)⟩ (Nat.le_of_ble_eq_true rfl) (fun r9 h9 p9 => ?_)
    obtain ⟨rfl, s8, rfl, h8⟩ := p9
    have hxp : XP s8 := XP_ap (XI_XP hx) h8 ho
    show V 33 [some (.inr (some 0)), some (.inl v9)] [] (WW s8) 0 0
    refine rb_aload_n hV dX9_command_33 rfl rfl ?_
    refine rb_callV hV (rest := []) dX9_command_34 (c_X9_restoreBest s8 hxp) lk_X9_82 rfl (Or.inl ⟨8, _, TX9, 8, gw_0 _, rfl⟩) rfl ⟨rfl, rfl, (Nat.le_of_ble_eq_true rfl), (Nat.le_of_ble_eq_true rfl), (Nat.le_of_ble_eq_true rfl), (Nat.le_of_ble_eq_true rfl)⟩ (Nat.le_of_ble_eq_true rfl) (fun r9 h9 p9 => ?_)
    obtain ⟨s2, rfl, rfl, hxi, hbest, hkeep⟩ := p9
    show V 37 [some (.inr (some 0)), some (.inl v9)] [.inl (s2 107 0)] (WW s2) 0 0
    refine rb_ret hV (r := some (.inl (s2 107 0))) dX9_command_37 rfl ⟨(Nat.le_of_ble_eq_true rfl), (Nat.le_of_ble_eq_true rfl)⟩ trivial ?_
    exact ⟨v9, sub9, kd9, nu9, hpr, Or.inr ⟨c14, hok c14, s8, s2, h8, rfl, rfl, hxi, hbest, hkeep⟩⟩
  · refine rb_bipush hV dX9_command_17 (by decide) ?_
    refine rb_iload_n hV dX9_command_19 rfl rfl ?_
    refine rb_isub hV dX9_command_20 ?_
    refine rb_ret hV (r := some (.inl ((-100) - v9))) dX9_command_21 rfl ⟨(Nat.le_of_ble_eq_true rfl), (Nat.le_of_ble_eq_true rfl)⟩ trivial ?_
    exact ⟨v9, sub9, kd9, nu9, hpr, Or.inl ⟨c14, rfl, rfl, XI_od hx⟩⟩
