def RB : List Nat := [12, 13, 14, 15, 16, 17, 19, 20, 107, 26, 108, 30, 27, 28, 29, 109, 110, 111, 33, 35, 34, 32, 36]
def LB : List Nat := [107, 26, 108, 30, 27, 28, 29, 109, 110, 111, 33, 35, 34, 32, 36]
/-- what a change of the paragraph or of a setting leaves: s1 is the memory with the change alone, v the answer -/
def UPD (s1 : Nat → Int → Int) (v : Int) (r : Option ab_V) (h2 : List ab_E) : Prop := ∃ s2, r = some (.inl v) ∧ h2 = WW s2 ∧ XI s2 ∧ BESTL s2 ∧ KEEP RB s1 s2
def RO (s : Nat → Int → Int) (v : Int) (r : Option ab_V) (h2 : List ab_E) : Prop := r = some (.inl v) ∧ h2 = WW s
def xcount (s : Nat → Int → Int) (w : Int) : Int :=
  if w = 0 then s 103 0 else if w = 1 then s 107 0 else if w = 2 then s 108 0 else if w = 3 then (if 0 < s 103 0 ∧ ¬ s 19 0 = -1 then s 19 0 else 0) else if w = 4 then s 109 0 else if w = 5 then s 111 0 else if w = 6 then s 110 0 else if w = 7 then s 100 0 else if w = 8 then s 101 0 else if w = 9 then s 102 0 else -1002
def xspw (s : Nat → Int → Int) (k w : Int) : Int := if ¬ (0 ≤ k ∧ k < 3) then -1001 else if w = 0 then s 2 k else if w = 1 then s 3 k else if w = 2 then s 4 k else -1002
def xword (s : Nat → Int → Int) (w k : Int) : Int := if ¬ (0 ≤ w ∧ w < s 103 0) then -1001 else if k = 0 then s 6 w else if k = 1 then s 7 w else if k = 2 then s 8 w else if k = 3 then (if s 107 0 = 0 then -1004 else s 27 w) else -1002
def xline (s : Nat → Int → Int) (l k : Int) : Int := if ¬ (0 ≤ l ∧ l < s 107 0) then -1001 else
  if k = 0 then s 26 l else if k = 1 then s 26 (l + 1) - 1 else if k = 2 then nt (vX s) (s 26 l) (s 26 (l + 1) - 1) else if k = 3 then s 100 0 - nt (vX s) (s 26 l) (s 26 (l + 1) - 1) else if k = 4 then xb (vX s) (s 26 l) (s 26 (l + 1) - 1) else if k = 5 then xd (vX s) (s 26 l) (s 26 (l + 1) - 1)
  else if k = 6 then s 16 (s 26 l) else if k = 7 then s 17 (s 26 (l + 1) - 1) else if k = 8 then s 29 (s 26 (l + 1) - 1) + s 6 (s 26 (l + 1) - 1) - s 29 (s 26 l) - s 16 (s 26 l) - s 17 (s 26 (l + 1) - 1) else -1002
def xspace (s : Nat → Int → Int) (l p k : Int) : Int := if ¬ (0 ≤ l ∧ l < s 107 0) then -1001 else if p < 0 ∨ s 26 (l + 1) - 1 - s 26 l ≤ p then -1001 else
  if k = 0 then s 30 (s 26 l + p) else if k = 1 then s 29 (s 26 l + p) + s 6 (s 26 l + p) else if k = 2 then s 8 (s 26 l + p) else if k = 3 then s 32 (s 26 l + p) else -1002
def xbegin (s : Nat → Int → Int) (w : Int) : Int := if ¬ (0 ≤ w ∧ w < s 103 0) then -1001 else if s 107 0 = 0 then -1004 else s 29 w
def xsecond (s : Nat → Int → Int) (l k : Int) : Int := if ¬ (0 ≤ l ∧ l < s 107 0) then -1001 else if k < 0 ∨ 1 < k then -1002 else if sec (vX s) (s 19) (s 26) l = -1 then -1004 else if k = 0 then sec (vX s) (s 19) (s 26) l else Sm (ldm (vX s) (s 26)) 0 l + cd (vX s) (s 19) (s 26 l) (sec (vX s) (s 19) (s 26) l)
/-- the line of a rank, g the ranks of the nl lines -/
def WRS (g : Int → Int) (nl rank r : Int) : Prop := (rank < 0 ∧ r = -1002) ∨ (0 ≤ rank ∧ ((0 ≤ r ∧ r < nl ∧ g r = rank ∧ ∀ j, 0 ≤ j → j < r → ¬ g j = rank) ∨ (r = -1004 ∧ ∀ j, 0 ≤ j → j < nl → ¬ g j = rank)))
theorem sec_ok {d : Nat → Int → Int} {bs fw : Int → Int} {l : Int} (h : ¬ sec d bs fw l = -1) : fw l ≤ sec d bs fw l ∧ sec d bs fw l < fw l + (d 0 0 - fw l).toNat ∧ ps d (fw l) (sec d bs fw l) = true ∧ 0 ≤ bs (sec d bs fw l + 1) := by
  have hA := am_in (c := sc d bs fw l) (lo := fw l) (d 0 0 - fw l).toNat
  unfold sec at h ⊢
  generalize am (sc d bs fw l) (fw l) (d 0 0 - fw l).toNat = M at hA h ⊢
  rcases hA with ⟨h1, h2, h3⟩ | ⟨h1, h2, h3, h4⟩
  · exact absurd h2 h
  · refine ⟨h2, h3, ?_⟩
    unfold sc at h4
    split at h4
    · omega
    · unfold cd at h4
      split at h4
      · rename_i q
        exact ⟨q.2, q.1⟩
      · omega
theorem wr_b (g : Int → Int) {nl : Int} (h : 0 ≤ nl) (l : Int) : 0 ≤ wr g nl l ∧ wr g nl l ≤ nl := by
  unfold wr
  have := Sm_bound (f := fun i => if g l < g i ∨ (g i = g l ∧ i < l) then (1 : Int) else 0) (lo := 0) (hi := 1) h (fun j _ _ => by split <;> omega)
  omega

set_option maxRecDepth 20000 in
theorem c_X6_putWidths (s : Nat → Int → Int) (k a b e : Int) (hk : 0 ≤ k ∧ k < 3) : ab_Mt yX6_putWidths cX6_putWidths 5 none ({ frames := 1, cells := 0, slots := 0, locals := 20 } : Room) false 0 0 [.inr (some 1), .inl k, .inl a, .inl b, .inl e] (WW s) (fun r h2 => r = none ∧ h2 = WW (ab_s (ab_s (ab_s s 2 (ab_u (s 2) k a)) 3 (ab_u (s 3) k b)) 4 (ab_u (s 4) k e))) := by
  refine ab_mk RX6 false rfl pn_X6_putWidths (fun z => by cases z) (Nat.le_of_ble_eq_true rfl) (fun V hV => ?_)
  show V 0 [some (.inr (some 1)), some (.inl k), some (.inl a), some (.inl b), some (.inl e)] [] (WW s) 0 0
  refine rb_iload_n hV dX6_putWidths_0 rfl rfl ?_
  refine rb_callS hV (rest := []) dX6_putWidths_1 (c_X9_isKind s k (by first | assumption | (unfold ab_r at *; omega))) lk_X6_29 rfl rfl ⟨rfl, rfl, (Nat.le_of_ble_eq_true rfl), (Nat.le_of_ble_eq_true rfl), (Nat.le_of_ble_eq_true rfl), (Nat.le_of_ble_eq_true rfl)⟩ (Nat.le_of_ble_eq_true rfl) (fun r9 h9 p9 => ?_)
  obtain ⟨rfl, rfl⟩ := p9
  show V 4 [some (.inr (some 1)), some (.inl k), some (.inl a), some (.inl b), some (.inl e)] [.inl (if 0 ≤ k ∧ k < 3 then 1 else 0)] (WW s) 0 0
  rw [if_pos (show 0 ≤ k ∧ k < 3 by omega)]
  show V 4 [some (.inr (some 1)), some (.inl k), some (.inl a), some (.inl b), some (.inl e)] [.inl 1] (WW s) 0 0
  refine rb_if_ne hV (tgt := 8) dX6_putWidths_4 (by decide) (by first | assumption | (unfold ab_r at *; omega)) (fun _ => ?_) (fun z => absurd z (by decide))
  refine rb_aload_n hV dX6_putWidths_8 rfl rfl ?_
  refine rb_get hV (v := .inr (some 2)) dX6_putWidths_9 ⟨RX6, TX6, 6, rfl, (Nat.le_of_ble_eq_true rfl), lf_X6_19⟩ (gw_1 _) rfl ?_
  refine rb_iload_n hV dX6_putWidths_12 rfl rfl ?_
  refine rb_iload_n hV dX6_putWidths_13 rfl rfl ?_
  refine rb_iast hV (f := (s 2)) dX6_putWidths_14 (gw_2 _) (Nat.le_of_ble_eq_true rfl) (by omega) rfl (pw_2 _ _) ?_
  refine rb_aload_n hV dX6_putWidths_15 rfl rfl ?_
  refine rb_get hV (v := .inr (some 3)) dX6_putWidths_16 ⟨RX6, TX6, 6, rfl, (Nat.le_of_ble_eq_true rfl), lf_X6_23⟩ (gw_1 _) rfl ?_
  refine rb_iload_n hV dX6_putWidths_19 rfl rfl ?_
  refine rb_iload_n hV dX6_putWidths_20 rfl rfl ?_
  refine rb_iast hV (f := (s 3)) dX6_putWidths_21 (gw_3 _) (Nat.le_of_ble_eq_true rfl) (by omega) rfl (pw_3 _ _) ?_
  refine rb_aload_n hV dX6_putWidths_22 rfl rfl ?_
  refine rb_get hV (v := .inr (some 4)) dX6_putWidths_23 ⟨RX6, TX6, 6, rfl, (Nat.le_of_ble_eq_true rfl), lf_X6_26⟩ (gw_1 _) rfl ?_
  refine rb_iload_n hV dX6_putWidths_26 rfl rfl ?_
  refine rb_iload hV dX6_putWidths_27 rfl ?_
  refine rb_iast hV (f := (s 4)) dX6_putWidths_29 (gw_4 _) (Nat.le_of_ble_eq_true rfl) (by omega) rfl (pw_4 _ _) ?_
  refine rb_ret hV (r := none) dX6_putWidths_30 rfl ⟨(Nat.le_of_ble_eq_true rfl), (Nat.le_of_ble_eq_true rfl)⟩ trivial ?_
  exact ⟨rfl, rfl⟩

set_option maxRecDepth 20000 in
theorem c_X9_setMeasure (s : Nat → Int → Int) (m : Int) (hm0 : ab_r m) (hx : XI s) : ab_Mt yX9_setMeasure cX9_setMeasure 3 (some .int) ({ frames := 6, cells := 0, slots := 0, locals := 140 } : Room) false 0 0 [.inr (some 0), .inl m] (WW s) (fun r h2 => (¬ (10 ≤ m ∧ m ≤ 200) ∧ RO s (-1002) r h2) ∨ ((10 ≤ m ∧ m ≤ 200) ∧ UPD (ab_s s 100 (fun _ => m)) (s 100 0) r h2)) := by
  refine ab_mk RX9 false rfl pn_X9_setMeasure (fun z => by cases z) (Nat.le_of_ble_eq_true rfl) (fun V hV => ?_)
  show V 0 [some (.inr (some 0)), some (.inl m), none] [] (WW s) 0 0
  obtain ⟨hp, hr, hbw, hv, hst, hz, hx1, hx2, hx3, hx4⟩ := id hx
  have hn : 0 ≤ s 103 0 ∧ s 103 0 ≤ 60 := hp.1
  have hnl : 0 ≤ s 107 0 ∧ s 107 0 ≤ s 103 0 := hv.1
  have hb := BWp_BS hp hbw
  refine rb_iload_n hV dX9_setMeasure_0 rfl rfl ?_
  refine rb_bipush hV dX9_setMeasure_1 (by decide) ?_
  refine rb_icmp_lt hV (tgt := 13) dX9_setMeasure_3 (by decide) ⟨(by unfold ab_r at *; omega), (by unfold ab_r at *; omega)⟩ (fun c3 => ?_) (fun c3 => ?_)
  · refine rb_sipush hV dX9_setMeasure_13 (by decide) ?_
    refine rb_ret hV (r := some (.inl (-1002))) dX9_setMeasure_16 rfl ⟨(Nat.le_of_ble_eq_true rfl), (Nat.le_of_ble_eq_true rfl)⟩ trivial ?_
    exact Or.inl ⟨by omega, rfl, rfl⟩
  · refine rb_iload_n hV dX9_setMeasure_6 rfl rfl ?_
    refine rb_sipush hV dX9_setMeasure_7 (by decide) ?_
    refine rb_icmp_le hV (tgt := 17) dX9_setMeasure_10 (by decide) ⟨(by unfold ab_r at *; omega), (by unfold ab_r at *; omega)⟩ (fun c10 => ?_) (fun c10 => ?_)
    · refine rb_aload_n hV dX9_setMeasure_17 rfl rfl ?_
      refine rb_get hV (v := .inr (some 1)) dX9_setMeasure_18 ⟨RX9, TX9, 8, rfl, (Nat.le_of_ble_eq_true rfl), lf_X9_39⟩ (gw_0 _) rfl ?_
      refine rb_get hV (v := .inl (s 100 0)) dX9_setMeasure_21 ⟨RX6, TX6, 6, rfl, (Nat.le_of_ble_eq_true rfl), lf_X9_97⟩ (gw_1 _) rfl ?_
      refine rb_istore_n hV (L2 := [some (.inr (some 0)), some (.inl m), some (.inl (s 100 0))]) dX9_setMeasure_24 rfl (Nat.le_of_ble_eq_true rfl) rfl ?_
      refine rb_aload_n hV dX9_setMeasure_25 rfl rfl ?_
      refine rb_get hV (v := .inr (some 1)) dX9_setMeasure_26 ⟨RX9, TX9, 8, rfl, (Nat.le_of_ble_eq_true rfl), lf_X9_39⟩ (gw_0 _) rfl ?_
      refine rb_iload_n hV dX9_setMeasure_29 rfl rfl ?_
      have hm : 10 ≤ m ∧ m ≤ 200 := by omega
      have hxp : XP (ab_s s 100 (fun _ => m)) := by
        have hq := XI_XP hx
        exact ⟨⟨hp.1, hp.2.1, hm, hp.2.2.2⟩, hq.2⟩
      refine rb_put hV (C := RX6) (T := TX6) (N := 6) (ci := 6) (j := 0) dX9_setMeasure_30 rfl (Nat.le_of_ble_eq_true rfl) lf_X9_97 rfl (gw_1 _) (Nat.le_of_ble_eq_true rfl) (ft_X6_0 _) (pw_1_0 _ _) ?_
      refine rb_aload_n hV dX9_setMeasure_33 rfl rfl ?_
      refine rb_callV hV (rest := []) dX9_setMeasure_34 (c_X9_restoreBest (ab_s s 100 (fun _ => m)) hxp) lk_X9_82 rfl (Or.inl ⟨8, _, TX9, 8, gw_0 _, rfl⟩) rfl ⟨rfl, rfl, (Nat.le_of_ble_eq_true rfl), (Nat.le_of_ble_eq_true rfl), (Nat.le_of_ble_eq_true rfl), (Nat.le_of_ble_eq_true rfl)⟩ (Nat.le_of_ble_eq_true rfl) (fun r9 h9 p9 => ?_)
      obtain ⟨s2, rfl, rfl, hxi, hbest, hkeep⟩ := p9
      show V 37 [some (.inr (some 0)), some (.inl m), some (.inl (s 100 0))] [.inl (s2 107 0)] (WW s2) 0 0
      refine rb_pop hV dX9_setMeasure_37 ?_
      refine rb_iload_n hV dX9_setMeasure_38 rfl rfl ?_
      refine rb_ret hV (r := some (.inl (s 100 0))) dX9_setMeasure_39 rfl ⟨(Nat.le_of_ble_eq_true rfl), (Nat.le_of_ble_eq_true rfl)⟩ trivial ?_
      exact Or.inr ⟨hm, s2, rfl, rfl, hxi, hbest, hkeep⟩
    · refine rb_sipush hV dX9_setMeasure_13 (by decide) ?_
      refine rb_ret hV (r := some (.inl (-1002))) dX9_setMeasure_16 rfl ⟨(Nat.le_of_ble_eq_true rfl), (Nat.le_of_ble_eq_true rfl)⟩ trivial ?_
      exact Or.inl ⟨by omega, rfl, rfl⟩

set_option maxRecDepth 20000 in
theorem c_X9_setHang (s : Nat → Int → Int) (m : Int) (hm0 : ab_r m) (hx : XI s) : ab_Mt yX9_setHang cX9_setHang 3 (some .int) ({ frames := 6, cells := 0, slots := 0, locals := 140 } : Room) false 0 0 [.inr (some 0), .inl m] (WW s) (fun r h2 => (¬ (0 ≤ m ∧ m ≤ 100) ∧ RO s (-1002) r h2) ∨ ((0 ≤ m ∧ m ≤ 100) ∧ UPD (ab_s s 101 (fun _ => m)) (s 101 0) r h2)) := by
  refine ab_mk RX9 false rfl pn_X9_setHang (fun z => by cases z) (Nat.le_of_ble_eq_true rfl) (fun V hV => ?_)
  show V 0 [some (.inr (some 0)), some (.inl m), none] [] (WW s) 0 0
  obtain ⟨hp, hr, hbw, hv, hst, hz, hx1, hx2, hx3, hx4⟩ := id hx
  have hn : 0 ≤ s 103 0 ∧ s 103 0 ≤ 60 := hp.1
  have hnl : 0 ≤ s 107 0 ∧ s 107 0 ≤ s 103 0 := hv.1
  have hb := BWp_BS hp hbw
  refine rb_iload_n hV dX9_setHang_0 rfl rfl ?_
  refine rb_if_lt hV (tgt := 10) dX9_setHang_1 (by decide) (by unfold ab_r at *; omega) (fun c1 => ?_) (fun c1 => ?_)
  · refine rb_sipush hV dX9_setHang_10 (by decide) ?_
    refine rb_ret hV (r := some (.inl (-1002))) dX9_setHang_13 rfl ⟨(Nat.le_of_ble_eq_true rfl), (Nat.le_of_ble_eq_true rfl)⟩ trivial ?_
    exact Or.inl ⟨by omega, rfl, rfl⟩
  · refine rb_iload_n hV dX9_setHang_4 rfl rfl ?_
    refine rb_bipush hV dX9_setHang_5 (by decide) ?_
    refine rb_icmp_le hV (tgt := 14) dX9_setHang_7 (by decide) ⟨(by unfold ab_r at *; omega), (by unfold ab_r at *; omega)⟩ (fun c7 => ?_) (fun c7 => ?_)
    · refine rb_aload_n hV dX9_setHang_14 rfl rfl ?_
      refine rb_get hV (v := .inr (some 1)) dX9_setHang_15 ⟨RX9, TX9, 8, rfl, (Nat.le_of_ble_eq_true rfl), lf_X9_39⟩ (gw_0 _) rfl ?_
      refine rb_get hV (v := .inl (s 101 0)) dX9_setHang_18 ⟨RX6, TX6, 6, rfl, (Nat.le_of_ble_eq_true rfl), lf_X9_100⟩ (gw_1 _) rfl ?_
      refine rb_istore_n hV (L2 := [some (.inr (some 0)), some (.inl m), some (.inl (s 101 0))]) dX9_setHang_21 rfl (Nat.le_of_ble_eq_true rfl) rfl ?_
      refine rb_aload_n hV dX9_setHang_22 rfl rfl ?_
      refine rb_get hV (v := .inr (some 1)) dX9_setHang_23 ⟨RX9, TX9, 8, rfl, (Nat.le_of_ble_eq_true rfl), lf_X9_39⟩ (gw_0 _) rfl ?_
      refine rb_iload_n hV dX9_setHang_26 rfl rfl ?_
      have hm : 0 ≤ m ∧ m ≤ 100 := by omega
      have hxp : XP (ab_s s 101 (fun _ => m)) := by
        have hq := XI_XP hx
        exact ⟨⟨hp.1, hp.2.1, hp.2.2.1, hm, hp.2.2.2.2⟩, hq.2⟩
      refine rb_put hV (C := RX6) (T := TX6) (N := 6) (ci := 6) (j := 1) dX9_setHang_27 rfl (Nat.le_of_ble_eq_true rfl) lf_X9_100 rfl (gw_1 _) (Nat.le_of_ble_eq_true rfl) (ft_X6_1 _) (pw_1_1 _ _) ?_
      refine rb_aload_n hV dX9_setHang_30 rfl rfl ?_
      refine rb_callV hV (rest := []) dX9_setHang_31 (c_X9_restoreBest (ab_s s 101 (fun _ => m)) hxp) lk_X9_82 rfl (Or.inl ⟨8, _, TX9, 8, gw_0 _, rfl⟩) rfl ⟨rfl, rfl, (Nat.le_of_ble_eq_true rfl), (Nat.le_of_ble_eq_true rfl), (Nat.le_of_ble_eq_true rfl), (Nat.le_of_ble_eq_true rfl)⟩ (Nat.le_of_ble_eq_true rfl) (fun r9 h9 p9 => ?_)
      obtain ⟨s2, rfl, rfl, hxi, hbest, hkeep⟩ := p9
      show V 34 [some (.inr (some 0)), some (.inl m), some (.inl (s 101 0))] [.inl (s2 107 0)] (WW s2) 0 0
      refine rb_pop hV dX9_setHang_34 ?_
      refine rb_iload_n hV dX9_setHang_35 rfl rfl ?_
      refine rb_ret hV (r := some (.inl (s 101 0))) dX9_setHang_36 rfl ⟨(Nat.le_of_ble_eq_true rfl), (Nat.le_of_ble_eq_true rfl)⟩ trivial ?_
      exact Or.inr ⟨hm, s2, rfl, rfl, hxi, hbest, hkeep⟩
    · refine rb_sipush hV dX9_setHang_10 (by decide) ?_
      refine rb_ret hV (r := some (.inl (-1002))) dX9_setHang_13 rfl ⟨(Nat.le_of_ble_eq_true rfl), (Nat.le_of_ble_eq_true rfl)⟩ trivial ?_
      exact Or.inl ⟨by omega, rfl, rfl⟩

set_option maxRecDepth 20000 in
theorem c_X9_setTolerance (s : Nat → Int → Int) (m : Int) (hm0 : ab_r m) (hx : XI s) : ab_Mt yX9_setTolerance cX9_setTolerance 3 (some .int) ({ frames := 6, cells := 0, slots := 0, locals := 140 } : Room) false 0 0 [.inr (some 0), .inl m] (WW s) (fun r h2 => (¬ (0 ≤ m ∧ m ≤ 20) ∧ RO s (-1002) r h2) ∨ ((0 ≤ m ∧ m ≤ 20) ∧ UPD (ab_s s 102 (fun _ => m)) (s 102 0) r h2)) := by
  refine ab_mk RX9 false rfl pn_X9_setTolerance (fun z => by cases z) (Nat.le_of_ble_eq_true rfl) (fun V hV => ?_)
  show V 0 [some (.inr (some 0)), some (.inl m), none] [] (WW s) 0 0
  obtain ⟨hp, hr, hbw, hv, hst, hz, hx1, hx2, hx3, hx4⟩ := id hx
  have hn : 0 ≤ s 103 0 ∧ s 103 0 ≤ 60 := hp.1
  have hnl : 0 ≤ s 107 0 ∧ s 107 0 ≤ s 103 0 := hv.1
  have hb := BWp_BS hp hbw
  refine rb_iload_n hV dX9_setTolerance_0 rfl rfl ?_
  refine rb_if_lt hV (tgt := 10) dX9_setTolerance_1 (by decide) (by unfold ab_r at *; omega) (fun c1 => ?_) (fun c1 => ?_)
  · refine rb_sipush hV dX9_setTolerance_10 (by decide) ?_
    refine rb_ret hV (r := some (.inl (-1002))) dX9_setTolerance_13 rfl ⟨(Nat.le_of_ble_eq_true rfl), (Nat.le_of_ble_eq_true rfl)⟩ trivial ?_
    exact Or.inl ⟨by omega, rfl, rfl⟩
  · refine rb_iload_n hV dX9_setTolerance_4 rfl rfl ?_
    refine rb_bipush hV dX9_setTolerance_5 (by decide) ?_
    refine rb_icmp_le hV (tgt := 14) dX9_setTolerance_7 (by decide) ⟨(by unfold ab_r at *; omega), (by unfold ab_r at *; omega)⟩ (fun c7 => ?_) (fun c7 => ?_)
    · refine rb_aload_n hV dX9_setTolerance_14 rfl rfl ?_
      refine rb_get hV (v := .inr (some 1)) dX9_setTolerance_15 ⟨RX9, TX9, 8, rfl, (Nat.le_of_ble_eq_true rfl), lf_X9_39⟩ (gw_0 _) rfl ?_
      refine rb_get hV (v := .inl (s 102 0)) dX9_setTolerance_18 ⟨RX6, TX6, 6, rfl, (Nat.le_of_ble_eq_true rfl), lf_X9_103⟩ (gw_1 _) rfl ?_
      refine rb_istore_n hV (L2 := [some (.inr (some 0)), some (.inl m), some (.inl (s 102 0))]) dX9_setTolerance_21 rfl (Nat.le_of_ble_eq_true rfl) rfl ?_
      refine rb_aload_n hV dX9_setTolerance_22 rfl rfl ?_
      refine rb_get hV (v := .inr (some 1)) dX9_setTolerance_23 ⟨RX9, TX9, 8, rfl, (Nat.le_of_ble_eq_true rfl), lf_X9_39⟩ (gw_0 _) rfl ?_
      refine rb_iload_n hV dX9_setTolerance_26 rfl rfl ?_
      have hm : 0 ≤ m ∧ m ≤ 20 := by omega
      have hxp : XP (ab_s s 102 (fun _ => m)) := by
        have hq := XI_XP hx
        exact ⟨⟨hp.1, hp.2.1, hp.2.2.1, hp.2.2.2.1, hm, hp.2.2.2.2.2⟩, hq.2⟩
      refine rb_put hV (C := RX6) (T := TX6) (N := 6) (ci := 6) (j := 2) dX9_setTolerance_27 rfl (Nat.le_of_ble_eq_true rfl) lf_X9_103 rfl (gw_1 _) (Nat.le_of_ble_eq_true rfl) (ft_X6_2 _) (pw_1_2 _ _) ?_
      refine rb_aload_n hV dX9_setTolerance_30 rfl rfl ?_
      refine rb_callV hV (rest := []) dX9_setTolerance_31 (c_X9_restoreBest (ab_s s 102 (fun _ => m)) hxp) lk_X9_82 rfl (Or.inl ⟨8, _, TX9, 8, gw_0 _, rfl⟩) rfl ⟨rfl, rfl, (Nat.le_of_ble_eq_true rfl), (Nat.le_of_ble_eq_true rfl), (Nat.le_of_ble_eq_true rfl), (Nat.le_of_ble_eq_true rfl)⟩ (Nat.le_of_ble_eq_true rfl) (fun r9 h9 p9 => ?_)
      obtain ⟨s2, rfl, rfl, hxi, hbest, hkeep⟩ := p9
      show V 34 [some (.inr (some 0)), some (.inl m), some (.inl (s 102 0))] [.inl (s2 107 0)] (WW s2) 0 0
      refine rb_pop hV dX9_setTolerance_34 ?_
      refine rb_iload_n hV dX9_setTolerance_35 rfl rfl ?_
      refine rb_ret hV (r := some (.inl (s 102 0))) dX9_setTolerance_36 rfl ⟨(Nat.le_of_ble_eq_true rfl), (Nat.le_of_ble_eq_true rfl)⟩ trivial ?_
      exact Or.inr ⟨hm, s2, rfl, rfl, hxi, hbest, hkeep⟩
    · refine rb_sipush hV dX9_setTolerance_10 (by decide) ?_
      refine rb_ret hV (r := some (.inl (-1002))) dX9_setTolerance_13 rfl ⟨(Nat.le_of_ble_eq_true rfl), (Nat.le_of_ble_eq_true rfl)⟩ trivial ?_
      exact Or.inl ⟨by omega, rfl, rfl⟩

set_option maxRecDepth 20000 in
theorem c_X9_setSpace (s : Nat → Int → Int) (k a b e : Int) (hk0 : ab_r k) (ha0 : ab_r a) (hb0 : ab_r b) (he0 : ab_r e) (hx : XI s) : ab_Mt yX9_setSpace cX9_setSpace 6 (some .int) ({ frames := 6, cells := 0, slots := 0, locals := 140 } : Room) false 0 0 [.inr (some 0), .inl k, .inl a, .inl b, .inl e] (WW s) (fun r h2 => (¬ (0 ≤ k ∧ k < 3) ∧ RO s (-1001) r h2) ∨ ((0 ≤ k ∧ k < 3) ∧ ¬ (1 ≤ a ∧ a ≤ b ∧ b ≤ e ∧ e ≤ 40) ∧ RO s (-1002) r h2) ∨ ((0 ≤ k ∧ k < 3) ∧ (1 ≤ a ∧ a ≤ b ∧ b ≤ e ∧ e ≤ 40) ∧ UPD (ab_s (ab_s (ab_s s 2 (ab_u (s 2) k a)) 3 (ab_u (s 3) k b)) 4 (ab_u (s 4) k e)) (s 3 k) r h2)) := by
  refine ab_mk RX9 false rfl pn_X9_setSpace (fun z => by cases z) (Nat.le_of_ble_eq_true rfl) (fun V hV => ?_)
  show V 0 [some (.inr (some 0)), some (.inl k), some (.inl a), some (.inl b), some (.inl e), none] [] (WW s) 0 0
  obtain ⟨hp, hr, hbw, hv, hst, hz, hx1, hx2, hx3, hx4⟩ := id hx
  have hn : 0 ≤ s 103 0 ∧ s 103 0 ≤ 60 := hp.1
  have hnl : 0 ≤ s 107 0 ∧ s 107 0 ≤ s 103 0 := hv.1
  have hb := BWp_BS hp hbw
  refine rb_iload_n hV dX9_setSpace_0 rfl rfl ?_
  refine rb_callS hV (rest := []) dX9_setSpace_1 (c_X9_isKind s k (by unfold ab_r at *; omega)) lk_X9_106 rfl rfl ⟨rfl, rfl, (Nat.le_of_ble_eq_true rfl), (Nat.le_of_ble_eq_true rfl), (Nat.le_of_ble_eq_true rfl), (Nat.le_of_ble_eq_true rfl)⟩ (Nat.le_of_ble_eq_true rfl) (fun r9 h9 p9 => ?_)
  obtain ⟨rfl, rfl⟩ := p9
  show V 4 [some (.inr (some 0)), some (.inl k), some (.inl a), some (.inl b), some (.inl e), none] [.inl (if 0 ≤ k ∧ k < 3 then 1 else 0)] (WW s) 0 0
  by_cases e1 : 0 ≤ k ∧ k < 3
  · rw [if_pos e1]
    show V 4 [some (.inr (some 0)), some (.inl k), some (.inl a), some (.inl b), some (.inl e), none] [.inl 1] (WW s) 0 0
    refine rb_if_ne hV (tgt := 11) dX9_setSpace_4 (by decide) (by unfold ab_r at *; omega) (fun _ => ?_) (fun z => absurd z (by decide))
    refine rb_iload_n hV dX9_setSpace_11 rfl rfl ?_
    refine rb_iconst hV dX9_setSpace_12 ?_
    refine rb_icmp_lt hV (tgt := 34) dX9_setSpace_13 (by decide) ⟨(by unfold ab_r at *; omega), (by unfold ab_r at *; omega)⟩ (fun c13 => ?_) (fun c13 => ?_)
    · refine rb_sipush hV dX9_setSpace_34 (by decide) ?_
      refine rb_ret hV (r := some (.inl (-1002))) dX9_setSpace_37 rfl ⟨(Nat.le_of_ble_eq_true rfl), (Nat.le_of_ble_eq_true rfl)⟩ trivial ?_
      exact Or.inr (Or.inl ⟨e1, by omega, rfl, rfl⟩)
    · refine rb_iload_n hV dX9_setSpace_16 rfl rfl ?_
      refine rb_iload_n hV dX9_setSpace_17 rfl rfl ?_
      refine rb_icmp_lt hV (tgt := 34) dX9_setSpace_18 (by decide) ⟨(by unfold ab_r at *; omega), (by unfold ab_r at *; omega)⟩ (fun c18 => ?_) (fun c18 => ?_)
      · refine rb_sipush hV dX9_setSpace_34 (by decide) ?_
        refine rb_ret hV (r := some (.inl (-1002))) dX9_setSpace_37 rfl ⟨(Nat.le_of_ble_eq_true rfl), (Nat.le_of_ble_eq_true rfl)⟩ trivial ?_
        exact Or.inr (Or.inl ⟨e1, by omega, rfl, rfl⟩)
      · refine rb_iload hV dX9_setSpace_21 rfl ?_
        refine rb_iload_n hV dX9_setSpace_23 rfl rfl ?_
        refine rb_icmp_lt hV (tgt := 34) dX9_setSpace_24 (by decide) ⟨(by unfold ab_r at *; omega), (by unfold ab_r at *; omega)⟩ (fun c24 => ?_) (fun c24 => ?_)
        · refine rb_sipush hV dX9_setSpace_34 (by decide) ?_
          refine rb_ret hV (r := some (.inl (-1002))) dX9_setSpace_37 rfl ⟨(Nat.le_of_ble_eq_true rfl), (Nat.le_of_ble_eq_true rfl)⟩ trivial ?_
          exact Or.inr (Or.inl ⟨e1, by omega, rfl, rfl⟩)
        · refine rb_iload hV dX9_setSpace_27 rfl ?_
          refine rb_bipush hV dX9_setSpace_29 (by decide) ?_
          refine rb_icmp_le hV (tgt := 38) dX9_setSpace_31 (by decide) ⟨(by unfold ab_r at *; omega), (by unfold ab_r at *; omega)⟩ (fun c31 => ?_) (fun c31 => ?_)
          · have hm : 1 ≤ a ∧ a ≤ b ∧ b ≤ e ∧ e ≤ 40 := by omega
            have hxp : XP (ab_s (ab_s (ab_s s 2 (ab_u (s 2) k a)) 3 (ab_u (s 3) k b)) 4 (ab_u (s 4) k e)) := by
              have hq := XI_XP hx
              refine ⟨⟨hp.1, hp.2.1, hp.2.2.1, hp.2.2.2.1, hp.2.2.2.2.1, fun j q1 q2 => ?_⟩, hq.2⟩
              have hj := hp.2.2.2.2.2 j q1 q2
              show 1 ≤ ab_u (s 2) k a j ∧ ab_u (s 2) k a j ≤ ab_u (s 3) k b j ∧ ab_u (s 3) k b j ≤ ab_u (s 4) k e j ∧ ab_u (s 4) k e j ≤ 40
              by_cases hjk : j = k
              · rw [hjk, ab_u_eq, ab_u_eq, ab_u_eq]
                exact hm
              · rw [ab_u_ne hjk, ab_u_ne hjk, ab_u_ne hjk]
                exact hj
            refine rb_aload_n hV dX9_setSpace_38 rfl rfl ?_
            refine rb_get hV (v := .inr (some 1)) dX9_setSpace_39 ⟨RX9, TX9, 8, rfl, (Nat.le_of_ble_eq_true rfl), lf_X9_39⟩ (gw_0 _) rfl ?_
            refine rb_get hV (v := .inr (some 3)) dX9_setSpace_42 ⟨RX6, TX6, 6, rfl, (Nat.le_of_ble_eq_true rfl), lf_X9_110⟩ (gw_1 _) rfl ?_
            refine rb_iload_n hV dX9_setSpace_45 rfl rfl ?_
            refine rb_iald hV (f := (s 3)) dX9_setSpace_46 (gw_3 _) (Nat.le_of_ble_eq_true rfl) (by omega) ?_
            refine rb_istore hV (L2 := [some (.inr (some 0)), some (.inl k), some (.inl a), some (.inl b), some (.inl e), some (.inl (s 3 k))]) dX9_setSpace_47 (Nat.le_of_ble_eq_true rfl) rfl ?_
            refine rb_aload_n hV dX9_setSpace_49 rfl rfl ?_
            refine rb_get hV (v := .inr (some 1)) dX9_setSpace_50 ⟨RX9, TX9, 8, rfl, (Nat.le_of_ble_eq_true rfl), lf_X9_39⟩ (gw_0 _) rfl ?_
            refine rb_iload_n hV dX9_setSpace_53 rfl rfl ?_
            refine rb_iload_n hV dX9_setSpace_54 rfl rfl ?_
            refine rb_iload_n hV dX9_setSpace_55 rfl rfl ?_
            refine rb_iload hV dX9_setSpace_56 rfl ?_
            refine rb_callV hV (rest := []) dX9_setSpace_58 (c_X6_putWidths s k a b e (by omega)) lk_X9_114 rfl (Or.inl ⟨6, _, TX6, 6, gw_1 _, rfl⟩) rfl ⟨rfl, rfl, (Nat.le_of_ble_eq_true rfl), (Nat.le_of_ble_eq_true rfl), (Nat.le_of_ble_eq_true rfl), (Nat.le_of_ble_eq_true rfl)⟩ (Nat.le_of_ble_eq_true rfl) (fun r9 h9 p9 => ?_)
            obtain ⟨rfl, rfl⟩ := p9
            show V 61 [some (.inr (some 0)), some (.inl k), some (.inl a), some (.inl b), some (.inl e), some (.inl (s 3 k))] [] (WW (ab_s (ab_s (ab_s s 2 (ab_u (s 2) k a)) 3 (ab_u (s 3) k b)) 4 (ab_u (s 4) k e))) 0 0
            refine rb_aload_n hV dX9_setSpace_61 rfl rfl ?_
            refine rb_callV hV (rest := []) dX9_setSpace_62 (c_X9_restoreBest (ab_s (ab_s (ab_s s 2 (ab_u (s 2) k a)) 3 (ab_u (s 3) k b)) 4 (ab_u (s 4) k e)) hxp) lk_X9_82 rfl (Or.inl ⟨8, _, TX9, 8, gw_0 _, rfl⟩) rfl ⟨rfl, rfl, (Nat.le_of_ble_eq_true rfl), (Nat.le_of_ble_eq_true rfl), (Nat.le_of_ble_eq_true rfl), (Nat.le_of_ble_eq_true rfl)⟩ (Nat.le_of_ble_eq_true rfl) (fun r9 h9 p9 => ?_)
            obtain ⟨s2, rfl, rfl, hxi, hbest, hkeep⟩ := p9
            show V 65 [some (.inr (some 0)), some (.inl k), some (.inl a), some (.inl b), some (.inl e), some (.inl (s 3 k))] [.inl (s2 107 0)] (WW s2) 0 0
            refine rb_pop hV dX9_setSpace_65 ?_
            refine rb_iload hV dX9_setSpace_66 rfl ?_
            refine rb_ret hV (r := some (.inl (s 3 k))) dX9_setSpace_68 rfl ⟨(Nat.le_of_ble_eq_true rfl), (Nat.le_of_ble_eq_true rfl)⟩ trivial ?_
            exact Or.inr (Or.inr ⟨e1, hm, s2, rfl, rfl, hxi, hbest, hkeep⟩)
          · refine rb_sipush hV dX9_setSpace_34 (by decide) ?_
            refine rb_ret hV (r := some (.inl (-1002))) dX9_setSpace_37 rfl ⟨(Nat.le_of_ble_eq_true rfl), (Nat.le_of_ble_eq_true rfl)⟩ trivial ?_
            exact Or.inr (Or.inl ⟨e1, by omega, rfl, rfl⟩)
  · rw [if_neg e1]
    show V 4 [some (.inr (some 0)), some (.inl k), some (.inl a), some (.inl b), some (.inl e), none] [.inl 0] (WW s) 0 0
    refine rb_if_ne hV (tgt := 11) dX9_setSpace_4 (by decide) (by unfold ab_r at *; omega) (fun z => absurd z (by decide)) (fun _ => ?_)
    refine rb_sipush hV dX9_setSpace_7 (by decide) ?_
    refine rb_ret hV (r := some (.inl (-1001))) dX9_setSpace_10 rfl ⟨(Nat.le_of_ble_eq_true rfl), (Nat.le_of_ble_eq_true rfl)⟩ trivial ?_
    exact Or.inl ⟨e1, rfl, rfl⟩

set_option maxRecDepth 20000 in
theorem c_X9_count (s : Nat → Int → Int) (w : Int) (hw0 : ab_r w) (hx : XI s) : ab_Mt yX9_count cX9_count 2 (some .int) ({ frames := 1, cells := 0, slots := 0, locals := 20 } : Room) false 0 0 [.inr (some 0), .inl w] (WW s) (RO s (xcount s w)) := by
  refine ab_mk RX9 false rfl pn_X9_count (fun z => by cases z) (Nat.le_of_ble_eq_true rfl) (fun V hV => ?_)
  show V 0 [some (.inr (some 0)), some (.inl w)] [] (WW s) 0 0
  obtain ⟨hp, hr, hbw, hv, hst, hz, hx1, hx2, hx3, hx4⟩ := id hx
  have hn : 0 ≤ s 103 0 ∧ s 103 0 ≤ 60 := hp.1
  have hnl : 0 ≤ s 107 0 ∧ s 107 0 ≤ s 103 0 := hv.1
  have hb := BWp_BS hp hbw
  refine rb_iload_n hV dX9_count_0 rfl rfl ?_
  rcases (show w = 0 ∨ w = 1 ∨ w = 2 ∨ w = 3 ∨ w = 4 ∨ w = 5 ∨ w = 6 ∨ w = 7 ∨ w = 8 ∨ w = 9 ∨ (w < 0 ∨ 9 < w) by omega) with c1 | c1 | c1 | c1 | c1 | c1 | c1 | c1 | c1 | c1 | c1
  · refine rb_tabIn hV (off := 55) (tgt := 56) dX9_count_1 (by unfold ab_r at *; omega) (by omega) (by omega) (by rw [c1]; rfl) (by decide) ?_
    refine rb_aload_n hV dX9_count_56 rfl rfl ?_
    refine rb_get hV (v := .inr (some 5)) dX9_count_57 ⟨RX9, TX9, 8, rfl, (Nat.le_of_ble_eq_true rfl), lf_X9_43⟩ (gw_0 _) rfl ?_
    refine rb_get hV (v := .inl (s 103 0)) dX9_count_60 ⟨RX4, TX4, 6, rfl, (Nat.le_of_ble_eq_true rfl), lf_X9_85⟩ (gw_5 _) rfl ?_
    refine rb_ret hV (r := some (.inl (s 103 0))) dX9_count_63 rfl ⟨(Nat.le_of_ble_eq_true rfl), (Nat.le_of_ble_eq_true rfl)⟩ trivial ?_
    subst c1
    refine ⟨congrArg (fun z : Int => some (Sum.inl z)) ?_, rfl⟩
    unfold xcount
    rfl
  · refine rb_tabIn hV (off := 63) (tgt := 64) dX9_count_1 (by unfold ab_r at *; omega) (by omega) (by omega) (by rw [c1]; rfl) (by decide) ?_
    refine rb_aload_n hV dX9_count_64 rfl rfl ?_
    refine rb_get hV (v := .inr (some 25)) dX9_count_65 ⟨RX9, TX9, 8, rfl, (Nat.le_of_ble_eq_true rfl), lf_X9_60⟩ (gw_0 _) rfl ?_
    refine rb_get hV (v := .inl (s 107 0)) dX9_count_68 ⟨RX1, TX1, 12, rfl, (Nat.le_of_ble_eq_true rfl), lf_X9_121⟩ (gw_25 _) rfl ?_
    refine rb_ret hV (r := some (.inl (s 107 0))) dX9_count_71 rfl ⟨(Nat.le_of_ble_eq_true rfl), (Nat.le_of_ble_eq_true rfl)⟩ trivial ?_
    subst c1
    refine ⟨congrArg (fun z : Int => some (Sum.inl z)) ?_, rfl⟩
    unfold xcount
    rfl
  · refine rb_tabIn hV (off := 71) (tgt := 72) dX9_count_1 (by unfold ab_r at *; omega) (by omega) (by omega) (by rw [c1]; rfl) (by decide) ?_
    refine rb_aload_n hV dX9_count_72 rfl rfl ?_
    refine rb_get hV (v := .inr (some 25)) dX9_count_73 ⟨RX9, TX9, 8, rfl, (Nat.le_of_ble_eq_true rfl), lf_X9_60⟩ (gw_0 _) rfl ?_
    refine rb_get hV (v := .inl (s 108 0)) dX9_count_76 ⟨RX1, TX1, 12, rfl, (Nat.le_of_ble_eq_true rfl), lf_X9_138⟩ (gw_25 _) rfl ?_
    refine rb_ret hV (r := some (.inl (s 108 0))) dX9_count_79 rfl ⟨(Nat.le_of_ble_eq_true rfl), (Nat.le_of_ble_eq_true rfl)⟩ trivial ?_
    subst c1
    refine ⟨congrArg (fun z : Int => some (Sum.inl z)) ?_, rfl⟩
    unfold xcount
    rfl
  · refine rb_tabIn hV (off := 79) (tgt := 80) dX9_count_1 (by unfold ab_r at *; omega) (by omega) (by omega) (by rw [c1]; rfl) (by decide) ?_
    refine rb_aload_n hV dX9_count_80 rfl rfl ?_
    refine rb_get hV (v := .inr (some 18)) dX9_count_81 ⟨RX9, TX9, 8, rfl, (Nat.le_of_ble_eq_true rfl), lf_X9_51⟩ (gw_0 _) rfl ?_
    refine rb_callV hV (rest := []) dX9_count_84 (c_X0_exists s (show 0 ≤ (s 103 0) ∧ (s 103 0) ≤ 60 by omega) (show -1 ≤ s 19 0 ∧ s 19 0 ≤ 732000 from hb 0 (Int.le_refl 0) hp.1.1)) lk_X9_141 rfl (Or.inl ⟨0, _, TX0, 4, gw_18 _, rfl⟩) rfl ⟨rfl, rfl, (Nat.le_of_ble_eq_true rfl), (Nat.le_of_ble_eq_true rfl), (Nat.le_of_ble_eq_true rfl), (Nat.le_of_ble_eq_true rfl)⟩ (Nat.le_of_ble_eq_true rfl) (fun r9 h9 p9 => ?_)
    obtain ⟨rfl, rfl⟩ := p9
    show V 87 [some (.inr (some 0)), some (.inl w)] [.inl (if 0 < (s 103 0) ∧ ¬ (s 19) 0 = -1 then 1 else 0)] (WW s) 0 0
    by_cases e84 : 0 < (s 103 0) ∧ ¬ (s 19) 0 = -1
    · rw [if_pos e84]
      show V 87 [some (.inr (some 0)), some (.inl w)] [.inl 1] (WW s) 0 0
      refine rb_if_eq hV (tgt := 102) dX9_count_87 (by decide) (by unfold ab_r at *; omega) (fun z => absurd z (by decide)) (fun _ => ?_)
      refine rb_aload_n hV dX9_count_90 rfl rfl ?_
      refine rb_get hV (v := .inr (some 18)) dX9_count_91 ⟨RX9, TX9, 8, rfl, (Nat.le_of_ble_eq_true rfl), lf_X9_51⟩ (gw_0 _) rfl ?_
      refine rb_get hV (v := .inr (some 19)) dX9_count_94 ⟨RX0, TX0, 4, rfl, (Nat.le_of_ble_eq_true rfl), lf_X9_145⟩ (gw_18 _) rfl ?_
      refine rb_iconst hV dX9_count_97 ?_
      refine rb_iald hV (f := (s 19)) dX9_count_98 (gw_19 _) (Nat.le_of_ble_eq_true rfl) (by omega) ?_
      refine rb_goto hV (tgt := 103) dX9_count_99 (by decide) ?_
      refine rb_ret hV (r := some (.inl (s 19 0))) dX9_count_103 rfl ⟨(Nat.le_of_ble_eq_true rfl), (Nat.le_of_ble_eq_true rfl)⟩ trivial ?_
      subst c1
      refine ⟨congrArg (fun z : Int => some (Sum.inl z)) ?_, rfl⟩
      unfold xcount
      show _ = if 0 < s 103 0 ∧ ¬ s 19 0 = -1 then s 19 0 else 0
      rw [if_pos e84]
    · rw [if_neg e84]
      show V 87 [some (.inr (some 0)), some (.inl w)] [.inl 0] (WW s) 0 0
      refine rb_if_eq hV (tgt := 102) dX9_count_87 (by decide) (by unfold ab_r at *; omega) (fun _ => ?_) (fun z => absurd z (by decide))
      refine rb_iconst hV dX9_count_102 ?_
      refine rb_ret hV (r := some (.inl 0)) dX9_count_103 rfl ⟨(Nat.le_of_ble_eq_true rfl), (Nat.le_of_ble_eq_true rfl)⟩ trivial ?_
      subst c1
      refine ⟨congrArg (fun z : Int => some (Sum.inl z)) ?_, rfl⟩
      unfold xcount
      show _ = if 0 < s 103 0 ∧ ¬ s 19 0 = -1 then s 19 0 else 0
      rw [if_neg e84]
  · refine rb_tabIn hV (off := 103) (tgt := 104) dX9_count_1 (by unfold ab_r at *; omega) (by omega) (by omega) (by rw [c1]; rfl) (by decide) ?_
    refine rb_aload_n hV dX9_count_104 rfl rfl ?_
    refine rb_get hV (v := .inr (some 25)) dX9_count_105 ⟨RX9, TX9, 8, rfl, (Nat.le_of_ble_eq_true rfl), lf_X9_60⟩ (gw_0 _) rfl ?_
    refine rb_get hV (v := .inr (some 31)) dX9_count_108 ⟨RX1, TX1, 12, rfl, (Nat.le_of_ble_eq_true rfl), lf_X9_148⟩ (gw_25 _) rfl ?_
    refine rb_get hV (v := .inl (s 109 0)) dX9_count_111 ⟨RX5, TX5, 8, rfl, (Nat.le_of_ble_eq_true rfl), lf_X9_152⟩ (gw_31 _) rfl ?_
    refine rb_ret hV (r := some (.inl (s 109 0))) dX9_count_114 rfl ⟨(Nat.le_of_ble_eq_true rfl), (Nat.le_of_ble_eq_true rfl)⟩ trivial ?_
    subst c1
    refine ⟨congrArg (fun z : Int => some (Sum.inl z)) ?_, rfl⟩
    unfold xcount
    rfl
  · refine rb_tabIn hV (off := 114) (tgt := 115) dX9_count_1 (by unfold ab_r at *; omega) (by omega) (by omega) (by rw [c1]; rfl) (by decide) ?_
    refine rb_aload_n hV dX9_count_115 rfl rfl ?_
    refine rb_get hV (v := .inr (some 25)) dX9_count_116 ⟨RX9, TX9, 8, rfl, (Nat.le_of_ble_eq_true rfl), lf_X9_60⟩ (gw_0 _) rfl ?_
    refine rb_get hV (v := .inr (some 31)) dX9_count_119 ⟨RX1, TX1, 12, rfl, (Nat.le_of_ble_eq_true rfl), lf_X9_148⟩ (gw_25 _) rfl ?_
    refine rb_get hV (v := .inl (s 111 0)) dX9_count_122 ⟨RX5, TX5, 8, rfl, (Nat.le_of_ble_eq_true rfl), lf_X9_157⟩ (gw_31 _) rfl ?_
    refine rb_ret hV (r := some (.inl (s 111 0))) dX9_count_125 rfl ⟨(Nat.le_of_ble_eq_true rfl), (Nat.le_of_ble_eq_true rfl)⟩ trivial ?_
    subst c1
    refine ⟨congrArg (fun z : Int => some (Sum.inl z)) ?_, rfl⟩
    unfold xcount
    rfl
  · refine rb_tabIn hV (off := 125) (tgt := 126) dX9_count_1 (by unfold ab_r at *; omega) (by omega) (by omega) (by rw [c1]; rfl) (by decide) ?_
    refine rb_aload_n hV dX9_count_126 rfl rfl ?_
    refine rb_get hV (v := .inr (some 25)) dX9_count_127 ⟨RX9, TX9, 8, rfl, (Nat.le_of_ble_eq_true rfl), lf_X9_60⟩ (gw_0 _) rfl ?_
    refine rb_get hV (v := .inr (some 31)) dX9_count_130 ⟨RX1, TX1, 12, rfl, (Nat.le_of_ble_eq_true rfl), lf_X9_148⟩ (gw_25 _) rfl ?_
    refine rb_get hV (v := .inl (s 110 0)) dX9_count_133 ⟨RX5, TX5, 8, rfl, (Nat.le_of_ble_eq_true rfl), lf_X9_160⟩ (gw_31 _) rfl ?_
    refine rb_ret hV (r := some (.inl (s 110 0))) dX9_count_136 rfl ⟨(Nat.le_of_ble_eq_true rfl), (Nat.le_of_ble_eq_true rfl)⟩ trivial ?_
    subst c1
    refine ⟨congrArg (fun z : Int => some (Sum.inl z)) ?_, rfl⟩
    unfold xcount
    rfl
  · refine rb_tabIn hV (off := 136) (tgt := 137) dX9_count_1 (by unfold ab_r at *; omega) (by omega) (by omega) (by rw [c1]; rfl) (by decide) ?_
    refine rb_aload_n hV dX9_count_137 rfl rfl ?_
    refine rb_get hV (v := .inr (some 1)) dX9_count_138 ⟨RX9, TX9, 8, rfl, (Nat.le_of_ble_eq_true rfl), lf_X9_39⟩ (gw_0 _) rfl ?_
    refine rb_get hV (v := .inl (s 100 0)) dX9_count_141 ⟨RX6, TX6, 6, rfl, (Nat.le_of_ble_eq_true rfl), lf_X9_97⟩ (gw_1 _) rfl ?_
    refine rb_ret hV (r := some (.inl (s 100 0))) dX9_count_144 rfl ⟨(Nat.le_of_ble_eq_true rfl), (Nat.le_of_ble_eq_true rfl)⟩ trivial ?_
    subst c1
    refine ⟨congrArg (fun z : Int => some (Sum.inl z)) ?_, rfl⟩
    unfold xcount
    rfl
  · refine rb_tabIn hV (off := 144) (tgt := 145) dX9_count_1 (by unfold ab_r at *; omega) (by omega) (by omega) (by rw [c1]; rfl) (by decide) ?_
    refine rb_aload_n hV dX9_count_145 rfl rfl ?_
    refine rb_get hV (v := .inr (some 1)) dX9_count_146 ⟨RX9, TX9, 8, rfl, (Nat.le_of_ble_eq_true rfl), lf_X9_39⟩ (gw_0 _) rfl ?_
    refine rb_get hV (v := .inl (s 101 0)) dX9_count_149 ⟨RX6, TX6, 6, rfl, (Nat.le_of_ble_eq_true rfl), lf_X9_100⟩ (gw_1 _) rfl ?_
    refine rb_ret hV (r := some (.inl (s 101 0))) dX9_count_152 rfl ⟨(Nat.le_of_ble_eq_true rfl), (Nat.le_of_ble_eq_true rfl)⟩ trivial ?_
    subst c1
    refine ⟨congrArg (fun z : Int => some (Sum.inl z)) ?_, rfl⟩
    unfold xcount
    rfl
  · refine rb_tabIn hV (off := 152) (tgt := 153) dX9_count_1 (by unfold ab_r at *; omega) (by omega) (by omega) (by rw [c1]; rfl) (by decide) ?_
    refine rb_aload_n hV dX9_count_153 rfl rfl ?_
    refine rb_get hV (v := .inr (some 1)) dX9_count_154 ⟨RX9, TX9, 8, rfl, (Nat.le_of_ble_eq_true rfl), lf_X9_39⟩ (gw_0 _) rfl ?_
    refine rb_get hV (v := .inl (s 102 0)) dX9_count_157 ⟨RX6, TX6, 6, rfl, (Nat.le_of_ble_eq_true rfl), lf_X9_103⟩ (gw_1 _) rfl ?_
    refine rb_ret hV (r := some (.inl (s 102 0))) dX9_count_160 rfl ⟨(Nat.le_of_ble_eq_true rfl), (Nat.le_of_ble_eq_true rfl)⟩ trivial ?_
    subst c1
    refine ⟨congrArg (fun z : Int => some (Sum.inl z)) ?_, rfl⟩
    unfold xcount
    rfl
  · refine rb_tabOut hV (tgt := 161) dX9_count_1 (by unfold ab_r at *; omega) c1 (by decide) ?_
    refine rb_sipush hV dX9_count_161 (by decide) ?_
    refine rb_ret hV (r := some (.inl (-1002))) dX9_count_164 rfl ⟨(Nat.le_of_ble_eq_true rfl), (Nat.le_of_ble_eq_true rfl)⟩ trivial ?_
    refine ⟨congrArg (fun z : Int => some (Sum.inl z)) ?_, rfl⟩
    unfold xcount
    rw [if_neg (by omega), if_neg (by omega), if_neg (by omega), if_neg (by omega), if_neg (by omega), if_neg (by omega), if_neg (by omega), if_neg (by omega), if_neg (by omega), if_neg (by omega)]

set_option maxRecDepth 20000 in
theorem c_X9_spaceWidth (s : Nat → Int → Int) (k w : Int) (hk0 : ab_r k) (hw0 : ab_r w) (hx : XI s) : ab_Mt yX9_spaceWidth cX9_spaceWidth 3 (some .int) ({ frames := 1, cells := 0, slots := 0, locals := 20 } : Room) false 0 0 [.inr (some 0), .inl k, .inl w] (WW s) (RO s (xspw s k w)) := by
  refine ab_mk RX9 false rfl pn_X9_spaceWidth (fun z => by cases z) (Nat.le_of_ble_eq_true rfl) (fun V hV => ?_)
  show V 0 [some (.inr (some 0)), some (.inl k), some (.inl w)] [] (WW s) 0 0
  obtain ⟨hp, hr, hbw, hv, hst, hz, hx1, hx2, hx3, hx4⟩ := id hx
  have hn : 0 ≤ s 103 0 ∧ s 103 0 ≤ 60 := hp.1
  have hnl : 0 ≤ s 107 0 ∧ s 107 0 ≤ s 103 0 := hv.1
  have hb := BWp_BS hp hbw
  refine rb_iload_n hV dX9_spaceWidth_0 rfl rfl ?_
  refine rb_callS hV (rest := []) dX9_spaceWidth_1 (c_X9_isKind s k (by unfold ab_r at *; omega)) lk_X9_106 rfl rfl ⟨rfl, rfl, (Nat.le_of_ble_eq_true rfl), (Nat.le_of_ble_eq_true rfl), (Nat.le_of_ble_eq_true rfl), (Nat.le_of_ble_eq_true rfl)⟩ (Nat.le_of_ble_eq_true rfl) (fun r9 h9 p9 => ?_)
  obtain ⟨rfl, rfl⟩ := p9
  show V 4 [some (.inr (some 0)), some (.inl k), some (.inl w)] [.inl (if 0 ≤ k ∧ k < 3 then 1 else 0)] (WW s) 0 0
  by_cases e1 : 0 ≤ k ∧ k < 3
  · rw [if_pos e1]
    show V 4 [some (.inr (some 0)), some (.inl k), some (.inl w)] [.inl 1] (WW s) 0 0
    refine rb_if_ne hV (tgt := 11) dX9_spaceWidth_4 (by decide) (by unfold ab_r at *; omega) (fun _ => ?_) (fun z => absurd z (by decide))
    refine rb_iload_n hV dX9_spaceWidth_11 rfl rfl ?_
    rcases (show w = 0 ∨ w = 1 ∨ w = 2 ∨ (w < 0 ∨ 2 < w) by omega) with c12 | c12 | c12 | c12
    · refine rb_tabIn hV (off := 28) (tgt := 40) dX9_spaceWidth_12 (by unfold ab_r at *; omega) (by omega) (by omega) (by rw [c12]; rfl) (by decide) ?_
      refine rb_aload_n hV dX9_spaceWidth_40 rfl rfl ?_
      refine rb_get hV (v := .inr (some 1)) dX9_spaceWidth_41 ⟨RX9, TX9, 8, rfl, (Nat.le_of_ble_eq_true rfl), lf_X9_39⟩ (gw_0 _) rfl ?_
      refine rb_get hV (v := .inr (some 2)) dX9_spaceWidth_44 ⟨RX6, TX6, 6, rfl, (Nat.le_of_ble_eq_true rfl), lf_X9_163⟩ (gw_1 _) rfl ?_
      refine rb_iload_n hV dX9_spaceWidth_47 rfl rfl ?_
      refine rb_iald hV (f := (s 2)) dX9_spaceWidth_48 (gw_2 _) (Nat.le_of_ble_eq_true rfl) (by omega) ?_
      refine rb_ret hV (r := some (.inl (s 2 k))) dX9_spaceWidth_49 rfl ⟨(Nat.le_of_ble_eq_true rfl), (Nat.le_of_ble_eq_true rfl)⟩ trivial ?_
      subst c12
      refine ⟨congrArg (fun z : Int => some (Sum.inl z)) ?_, rfl⟩
      unfold xspw
      rw [if_neg (by omega)]
      rfl
    · refine rb_tabIn hV (off := 38) (tgt := 50) dX9_spaceWidth_12 (by unfold ab_r at *; omega) (by omega) (by omega) (by rw [c12]; rfl) (by decide) ?_
      refine rb_aload_n hV dX9_spaceWidth_50 rfl rfl ?_
      refine rb_get hV (v := .inr (some 1)) dX9_spaceWidth_51 ⟨RX9, TX9, 8, rfl, (Nat.le_of_ble_eq_true rfl), lf_X9_39⟩ (gw_0 _) rfl ?_
      refine rb_get hV (v := .inr (some 3)) dX9_spaceWidth_54 ⟨RX6, TX6, 6, rfl, (Nat.le_of_ble_eq_true rfl), lf_X9_110⟩ (gw_1 _) rfl ?_
      refine rb_iload_n hV dX9_spaceWidth_57 rfl rfl ?_
      refine rb_iald hV (f := (s 3)) dX9_spaceWidth_58 (gw_3 _) (Nat.le_of_ble_eq_true rfl) (by omega) ?_
      refine rb_ret hV (r := some (.inl (s 3 k))) dX9_spaceWidth_59 rfl ⟨(Nat.le_of_ble_eq_true rfl), (Nat.le_of_ble_eq_true rfl)⟩ trivial ?_
      subst c12
      refine ⟨congrArg (fun z : Int => some (Sum.inl z)) ?_, rfl⟩
      unfold xspw
      rw [if_neg (by omega)]
      rfl
    · refine rb_tabIn hV (off := 48) (tgt := 60) dX9_spaceWidth_12 (by unfold ab_r at *; omega) (by omega) (by omega) (by rw [c12]; rfl) (by decide) ?_
      refine rb_aload_n hV dX9_spaceWidth_60 rfl rfl ?_
      refine rb_get hV (v := .inr (some 1)) dX9_spaceWidth_61 ⟨RX9, TX9, 8, rfl, (Nat.le_of_ble_eq_true rfl), lf_X9_39⟩ (gw_0 _) rfl ?_
      refine rb_get hV (v := .inr (some 4)) dX9_spaceWidth_64 ⟨RX6, TX6, 6, rfl, (Nat.le_of_ble_eq_true rfl), lf_X9_166⟩ (gw_1 _) rfl ?_
      refine rb_iload_n hV dX9_spaceWidth_67 rfl rfl ?_
      refine rb_iald hV (f := (s 4)) dX9_spaceWidth_68 (gw_4 _) (Nat.le_of_ble_eq_true rfl) (by omega) ?_
      refine rb_ret hV (r := some (.inl (s 4 k))) dX9_spaceWidth_69 rfl ⟨(Nat.le_of_ble_eq_true rfl), (Nat.le_of_ble_eq_true rfl)⟩ trivial ?_
      subst c12
      refine ⟨congrArg (fun z : Int => some (Sum.inl z)) ?_, rfl⟩
      unfold xspw
      rw [if_neg (by omega)]
      rfl
    · refine rb_tabOut hV (tgt := 70) dX9_spaceWidth_12 (by unfold ab_r at *; omega) c12 (by decide) ?_
      refine rb_sipush hV dX9_spaceWidth_70 (by decide) ?_
      refine rb_ret hV (r := some (.inl (-1002))) dX9_spaceWidth_73 rfl ⟨(Nat.le_of_ble_eq_true rfl), (Nat.le_of_ble_eq_true rfl)⟩ trivial ?_
      refine ⟨congrArg (fun z : Int => some (Sum.inl z)) ?_, rfl⟩
      unfold xspw
      rw [if_neg (by omega), if_neg (by omega), if_neg (by omega), if_neg (by omega)]
  · rw [if_neg e1]
    show V 4 [some (.inr (some 0)), some (.inl k), some (.inl w)] [.inl 0] (WW s) 0 0
    refine rb_if_ne hV (tgt := 11) dX9_spaceWidth_4 (by decide) (by unfold ab_r at *; omega) (fun z => absurd z (by decide)) (fun _ => ?_)
    refine rb_sipush hV dX9_spaceWidth_7 (by decide) ?_
    refine rb_ret hV (r := some (.inl (-1001))) dX9_spaceWidth_10 rfl ⟨(Nat.le_of_ble_eq_true rfl), (Nat.le_of_ble_eq_true rfl)⟩ trivial ?_
    exact ⟨congrArg (fun z : Int => some (Sum.inl z)) (if_pos e1).symm, rfl⟩

set_option maxRecDepth 20000 in
theorem c_X9_word (s : Nat → Int → Int) (w k : Int) (hw0 : ab_r w) (hk0 : ab_r k) (hx : XI s) : ab_Mt yX9_word cX9_word 3 (some .int) ({ frames := 1, cells := 0, slots := 0, locals := 21 } : Room) false 0 0 [.inr (some 0), .inl w, .inl k] (WW s) (RO s (xword s w k)) := by
  refine ab_mk RX9 false rfl pn_X9_word (fun z => by cases z) (Nat.le_of_ble_eq_true rfl) (fun V hV => ?_)
  show V 0 [some (.inr (some 0)), some (.inl w), some (.inl k)] [] (WW s) 0 0
  obtain ⟨hp, hr, hbw, hv, hst, hz, hx1, hx2, hx3, hx4⟩ := id hx
  have hn : 0 ≤ s 103 0 ∧ s 103 0 ≤ 60 := hp.1
  have hnl : 0 ≤ s 107 0 ∧ s 107 0 ≤ s 103 0 := hv.1
  have hb := BWp_BS hp hbw
  refine rb_aload_n hV dX9_word_0 rfl rfl ?_
  refine rb_get hV (v := .inr (some 5)) dX9_word_1 ⟨RX9, TX9, 8, rfl, (Nat.le_of_ble_eq_true rfl), lf_X9_43⟩ (gw_0 _) rfl ?_
  refine rb_iload_n hV dX9_word_4 rfl rfl ?_
  refine rb_callV hV (rest := []) dX9_word_5 (c_X4_hasWord s w (by unfold ab_r at *; omega) (show 0 ≤ (s 103 0) ∧ (s 103 0) ≤ 60 by omega)) lk_X9_169 rfl (Or.inl ⟨4, _, TX4, 6, gw_5 _, rfl⟩) rfl ⟨rfl, rfl, (Nat.le_of_ble_eq_true rfl), (Nat.le_of_ble_eq_true rfl), (Nat.le_of_ble_eq_true rfl), (Nat.le_of_ble_eq_true rfl)⟩ (Nat.le_of_ble_eq_true rfl) (fun r9 h9 p9 => ?_)
  obtain ⟨rfl, rfl⟩ := p9
  show V 8 [some (.inr (some 0)), some (.inl w), some (.inl k)] [.inl (if 0 ≤ w ∧ w < (s 103 0) then 1 else 0)] (WW s) 0 0
  by_cases e5 : 0 ≤ w ∧ w < (s 103 0)
  · rw [if_pos e5]
    show V 8 [some (.inr (some 0)), some (.inl w), some (.inl k)] [.inl 1] (WW s) 0 0
    refine rb_if_ne hV (tgt := 15) dX9_word_8 (by decide) (by unfold ab_r at *; omega) (fun _ => ?_) (fun z => absurd z (by decide))
    refine rb_iload_n hV dX9_word_15 rfl rfl ?_
    rcases (show k = 0 ∨ k = 1 ∨ k = 2 ∨ k = 3 ∨ (k < 0 ∨ 3 < k) by omega) with c16 | c16 | c16 | c16 | c16
    · refine rb_tabIn hV (off := 32) (tgt := 48) dX9_word_16 (by unfold ab_r at *; omega) (by omega) (by omega) (by rw [c16]; rfl) (by decide) ?_
      refine rb_aload_n hV dX9_word_48 rfl rfl ?_
      refine rb_get hV (v := .inr (some 5)) dX9_word_49 ⟨RX9, TX9, 8, rfl, (Nat.le_of_ble_eq_true rfl), lf_X9_43⟩ (gw_0 _) rfl ?_
      refine rb_get hV (v := .inr (some 6)) dX9_word_52 ⟨RX4, TX4, 6, rfl, (Nat.le_of_ble_eq_true rfl), lf_X9_172⟩ (gw_5 _) rfl ?_
      refine rb_iload_n hV dX9_word_55 rfl rfl ?_
      refine rb_iald hV (f := (s 6)) dX9_word_56 (gw_6 _) (Nat.le_of_ble_eq_true rfl) (by omega) ?_
      refine rb_ret hV (r := some (.inl (s 6 w))) dX9_word_57 rfl ⟨(Nat.le_of_ble_eq_true rfl), (Nat.le_of_ble_eq_true rfl)⟩ trivial ?_
      subst c16
      refine ⟨congrArg (fun z : Int => some (Sum.inl z)) ?_, rfl⟩
      unfold xword
      rw [if_neg (by omega)]
      rfl
    · refine rb_tabIn hV (off := 42) (tgt := 58) dX9_word_16 (by unfold ab_r at *; omega) (by omega) (by omega) (by rw [c16]; rfl) (by decide) ?_
      refine rb_aload_n hV dX9_word_58 rfl rfl ?_
      refine rb_get hV (v := .inr (some 5)) dX9_word_59 ⟨RX9, TX9, 8, rfl, (Nat.le_of_ble_eq_true rfl), lf_X9_43⟩ (gw_0 _) rfl ?_
      refine rb_get hV (v := .inr (some 7)) dX9_word_62 ⟨RX4, TX4, 6, rfl, (Nat.le_of_ble_eq_true rfl), lf_X9_175⟩ (gw_5 _) rfl ?_
      refine rb_iload_n hV dX9_word_65 rfl rfl ?_
      refine rb_iald hV (f := (s 7)) dX9_word_66 (gw_7 _) (Nat.le_of_ble_eq_true rfl) (by omega) ?_
      refine rb_ret hV (r := some (.inl (s 7 w))) dX9_word_67 rfl ⟨(Nat.le_of_ble_eq_true rfl), (Nat.le_of_ble_eq_true rfl)⟩ trivial ?_
      subst c16
      refine ⟨congrArg (fun z : Int => some (Sum.inl z)) ?_, rfl⟩
      unfold xword
      rw [if_neg (by omega)]
      rfl
    · refine rb_tabIn hV (off := 52) (tgt := 68) dX9_word_16 (by unfold ab_r at *; omega) (by omega) (by omega) (by rw [c16]; rfl) (by decide) ?_
      refine rb_aload_n hV dX9_word_68 rfl rfl ?_
      refine rb_get hV (v := .inr (some 5)) dX9_word_69 ⟨RX9, TX9, 8, rfl, (Nat.le_of_ble_eq_true rfl), lf_X9_43⟩ (gw_0 _) rfl ?_
      refine rb_get hV (v := .inr (some 8)) dX9_word_72 ⟨RX4, TX4, 6, rfl, (Nat.le_of_ble_eq_true rfl), lf_X9_178⟩ (gw_5 _) rfl ?_
      refine rb_iload_n hV dX9_word_75 rfl rfl ?_
      refine rb_iald hV (f := (s 8)) dX9_word_76 (gw_8 _) (Nat.le_of_ble_eq_true rfl) (by omega) ?_
      refine rb_ret hV (r := some (.inl (s 8 w))) dX9_word_77 rfl ⟨(Nat.le_of_ble_eq_true rfl), (Nat.le_of_ble_eq_true rfl)⟩ trivial ?_
      subst c16
      refine ⟨congrArg (fun z : Int => some (Sum.inl z)) ?_, rfl⟩
      unfold xword
      rw [if_neg (by omega)]
      rfl
    · refine rb_tabIn hV (off := 62) (tgt := 78) dX9_word_16 (by unfold ab_r at *; omega) (by omega) (by omega) (by rw [c16]; rfl) (by decide) ?_
      refine rb_aload_n hV dX9_word_78 rfl rfl ?_
      refine rb_get hV (v := .inr (some 25)) dX9_word_79 ⟨RX9, TX9, 8, rfl, (Nat.le_of_ble_eq_true rfl), lf_X9_60⟩ (gw_0 _) rfl ?_
      refine rb_get hV (v := .inl (s 107 0)) dX9_word_82 ⟨RX1, TX1, 12, rfl, (Nat.le_of_ble_eq_true rfl), lf_X9_121⟩ (gw_25 _) rfl ?_
      refine rb_if_ne hV (tgt := 94) dX9_word_85 (by decide) (by unfold ab_r at *; omega) (fun c85 => ?_) (fun c85 => ?_)
      · refine rb_aload_n hV dX9_word_94 rfl rfl ?_
        refine rb_get hV (v := .inr (some 25)) dX9_word_95 ⟨RX9, TX9, 8, rfl, (Nat.le_of_ble_eq_true rfl), lf_X9_60⟩ (gw_0 _) rfl ?_
        refine rb_get hV (v := .inr (some 27)) dX9_word_98 ⟨RX1, TX1, 12, rfl, (Nat.le_of_ble_eq_true rfl), lf_X9_181⟩ (gw_25 _) rfl ?_
        refine rb_iload_n hV dX9_word_101 rfl rfl ?_
        refine rb_iald hV (f := (s 27)) dX9_word_102 (gw_27 _) (Nat.le_of_ble_eq_true rfl) (by omega) ?_
        refine rb_ret hV (r := some (.inl (s 27 w))) dX9_word_103 rfl ⟨(Nat.le_of_ble_eq_true rfl), (Nat.le_of_ble_eq_true rfl)⟩ trivial ?_
        subst c16
        refine ⟨congrArg (fun z : Int => some (Sum.inl z)) ?_, rfl⟩
        unfold xword
        rw [if_neg (by omega)]
        show _ = if s 107 0 = 0 then -1004 else s 27 w
        rw [if_neg (by omega)]
      · refine rb_sipush hV dX9_word_88 (by decide) ?_
        refine rb_goto hV (tgt := 103) dX9_word_91 (by decide) ?_
        refine rb_ret hV (r := some (.inl (-1004))) dX9_word_103 rfl ⟨(Nat.le_of_ble_eq_true rfl), (Nat.le_of_ble_eq_true rfl)⟩ trivial ?_
        subst c16
        refine ⟨congrArg (fun z : Int => some (Sum.inl z)) ?_, rfl⟩
        unfold xword
        rw [if_neg (by omega)]
        show _ = if s 107 0 = 0 then -1004 else s 27 w
        rw [if_pos (by omega)]
    · refine rb_tabOut hV (tgt := 104) dX9_word_16 (by unfold ab_r at *; omega) c16 (by decide) ?_
      refine rb_sipush hV dX9_word_104 (by decide) ?_
      refine rb_ret hV (r := some (.inl (-1002))) dX9_word_107 rfl ⟨(Nat.le_of_ble_eq_true rfl), (Nat.le_of_ble_eq_true rfl)⟩ trivial ?_
      refine ⟨congrArg (fun z : Int => some (Sum.inl z)) ?_, rfl⟩
      unfold xword
      rw [if_neg (by omega), if_neg (by omega), if_neg (by omega), if_neg (by omega), if_neg (by omega)]
  · rw [if_neg e5]
    show V 8 [some (.inr (some 0)), some (.inl w), some (.inl k)] [.inl 0] (WW s) 0 0
    refine rb_if_ne hV (tgt := 15) dX9_word_8 (by decide) (by unfold ab_r at *; omega) (fun z => absurd z (by decide)) (fun _ => ?_)
    refine rb_sipush hV dX9_word_11 (by decide) ?_
    refine rb_ret hV (r := some (.inl (-1001))) dX9_word_14 rfl ⟨(Nat.le_of_ble_eq_true rfl), (Nat.le_of_ble_eq_true rfl)⟩ trivial ?_
    exact ⟨congrArg (fun z : Int => some (Sum.inl z)) (if_pos e5).symm, rfl⟩

set_option maxRecDepth 20000 in
theorem c_X9_line (s : Nat → Int → Int) (l k : Int) (hl00 : ab_r l) (hk0 : ab_r k) (hx : XI s) : ab_Mt yX9_line cX9_line 5 (some .int) ({ frames := 3, cells := 0, slots := 0, locals := 73 } : Room) false 0 0 [.inr (some 0), .inl l, .inl k] (WW s) (RO s (xline s l k)) := by
  refine ab_mk RX9 false rfl pn_X9_line (fun z => by cases z) (Nat.le_of_ble_eq_true rfl) (fun V hV => ?_)
  show V 0 [some (.inr (some 0)), some (.inl l), some (.inl k), none, none] [] (WW s) 0 0
  obtain ⟨hp, hr, hbw, hv, hst, hz, hx1, hx2, hx3, hx4⟩ := id hx
  have hn : 0 ≤ s 103 0 ∧ s 103 0 ≤ 60 := hp.1
  have hnl : 0 ≤ s 107 0 ∧ s 107 0 ≤ s 103 0 := hv.1
  have hb := BWp_BS hp hbw
  refine rb_aload_n hV dX9_line_0 rfl rfl ?_
  refine rb_get hV (v := .inr (some 25)) dX9_line_1 ⟨RX9, TX9, 8, rfl, (Nat.le_of_ble_eq_true rfl), lf_X9_60⟩ (gw_0 _) rfl ?_
  refine rb_iload_n hV dX9_line_4 rfl rfl ?_
  refine rb_callV hV (rest := []) dX9_line_5 (c_X1_hasLine_la s l (by unfold ab_r at *; omega) (show 0 ≤ (s 107 0) ∧ (s 107 0) ≤ 60 by omega)) lk_X9_124 rfl (Or.inl ⟨1, _, TX1, 12, gw_25 _, rfl⟩) rfl ⟨rfl, rfl, (Nat.le_of_ble_eq_true rfl), (Nat.le_of_ble_eq_true rfl), (Nat.le_of_ble_eq_true rfl), (Nat.le_of_ble_eq_true rfl)⟩ (Nat.le_of_ble_eq_true rfl) (fun r9 h9 p9 => ?_)
  obtain ⟨rfl, rfl⟩ := p9
  show V 8 [some (.inr (some 0)), some (.inl l), some (.inl k), none, none] [.inl (if 0 ≤ l ∧ l < (s 107 0) then 1 else 0)] (WW s) 0 0
  by_cases e5 : 0 ≤ l ∧ l < (s 107 0)
  · rw [if_pos e5]
    show V 8 [some (.inr (some 0)), some (.inl l), some (.inl k), none, none] [.inl 1] (WW s) 0 0
    refine rb_if_ne hV (tgt := 15) dX9_line_8 (by decide) (by unfold ab_r at *; omega) (fun _ => ?_) (fun z => absurd z (by decide))
    have hl0 := hv.2.1 l (by omega) (by omega)
    have hl1 : 0 ≤ s 26 l := hl0.1
    have hl2 : s 26 l < s 26 (l + 1) := hl0.2.1
    have hl3 : s 26 (l + 1) ≤ s 103 0 := hl0.2.2.1
    refine rb_aload_n hV dX9_line_15 rfl rfl ?_
    refine rb_get hV (v := .inr (some 25)) dX9_line_16 ⟨RX9, TX9, 8, rfl, (Nat.le_of_ble_eq_true rfl), lf_X9_60⟩ (gw_0 _) rfl ?_
    refine rb_iload_n hV dX9_line_19 rfl rfl ?_
    refine rb_callV hV (rest := []) dX9_line_20 (c_X1_firstWord_la s l (show 0 ≤ (s 107 0) ∧ (s 107 0) ≤ 60 by omega) (show 0 ≤ l ∧ l < (s 107 0) by omega)) lk_X9_184 rfl (Or.inl ⟨1, _, TX1, 12, gw_25 _, rfl⟩) rfl ⟨rfl, rfl, (Nat.le_of_ble_eq_true rfl), (Nat.le_of_ble_eq_true rfl), (Nat.le_of_ble_eq_true rfl), (Nat.le_of_ble_eq_true rfl)⟩ (Nat.le_of_ble_eq_true rfl) (fun r9 h9 p9 => ?_)
    obtain ⟨rfl, rfl⟩ := p9
    show V 23 [some (.inr (some 0)), some (.inl l), some (.inl k), none, none] [.inl (s 26 l)] (WW s) 0 0
    refine rb_istore_n hV (L2 := [some (.inr (some 0)), some (.inl l), some (.inl k), some (.inl (s 26 l)), none]) dX9_line_23 rfl (Nat.le_of_ble_eq_true rfl) rfl ?_
    refine rb_aload_n hV dX9_line_24 rfl rfl ?_
    refine rb_get hV (v := .inr (some 25)) dX9_line_25 ⟨RX9, TX9, 8, rfl, (Nat.le_of_ble_eq_true rfl), lf_X9_60⟩ (gw_0 _) rfl ?_
    refine rb_iload_n hV dX9_line_28 rfl rfl ?_
    refine rb_callV hV (rest := []) dX9_line_29 (c_X1_lastWord_la s l (show 0 ≤ (s 107 0) ∧ (s 107 0) ≤ 60 by omega) (show 0 ≤ l ∧ l < (s 107 0) by omega)) lk_X9_187 rfl (Or.inl ⟨1, _, TX1, 12, gw_25 _, rfl⟩) rfl ⟨rfl, rfl, (Nat.le_of_ble_eq_true rfl), (Nat.le_of_ble_eq_true rfl), (Nat.le_of_ble_eq_true rfl), (Nat.le_of_ble_eq_true rfl)⟩ (Nat.le_of_ble_eq_true rfl) (fun r9 h9 p9 => ?_)
    obtain ⟨rfl, rfl⟩ := p9
    show V 32 [some (.inr (some 0)), some (.inl l), some (.inl k), some (.inl (s 26 l)), none] [.inl ((s 26 (l + 1)) - 1)] (WW s) 0 0
    refine rb_istore hV (L2 := [some (.inr (some 0)), some (.inl l), some (.inl k), some (.inl (s 26 l)), some (.inl ((s 26 (l + 1)) - 1))]) dX9_line_32 (Nat.le_of_ble_eq_true rfl) rfl ?_
    refine rb_iload_n hV dX9_line_34 rfl rfl ?_
    rcases (show k = 0 ∨ k = 1 ∨ k = 2 ∨ k = 3 ∨ k = 4 ∨ k = 5 ∨ k = 6 ∨ k = 7 ∨ k = 8 ∨ (k < 0 ∨ 8 < k) by omega) with c35 | c35 | c35 | c35 | c35 | c35 | c35 | c35 | c35 | c35
    · refine rb_tabIn hV (off := 49) (tgt := 84) dX9_line_35 (by unfold ab_r at *; omega) (by omega) (by omega) (by rw [c35]; rfl) (by decide) ?_
      refine rb_iload_n hV dX9_line_84 rfl rfl ?_
      refine rb_ret hV (r := some (.inl (s 26 l))) dX9_line_85 rfl ⟨(Nat.le_of_ble_eq_true rfl), (Nat.le_of_ble_eq_true rfl)⟩ trivial ?_
      subst c35
      refine ⟨congrArg (fun z : Int => some (Sum.inl z)) ?_, rfl⟩
      unfold xline
      rw [if_neg (by omega)]
      rfl
    · refine rb_tabIn hV (off := 51) (tgt := 86) dX9_line_35 (by unfold ab_r at *; omega) (by omega) (by omega) (by rw [c35]; rfl) (by decide) ?_
      refine rb_iload hV dX9_line_86 rfl ?_
      refine rb_ret hV (r := some (.inl ((s 26 (l + 1)) - 1))) dX9_line_88 rfl ⟨(Nat.le_of_ble_eq_true rfl), (Nat.le_of_ble_eq_true rfl)⟩ trivial ?_
      subst c35
      refine ⟨congrArg (fun z : Int => some (Sum.inl z)) ?_, rfl⟩
      unfold xline
      rw [if_neg (by omega)]
      rfl
    · refine rb_tabIn hV (off := 54) (tgt := 89) dX9_line_35 (by unfold ab_r at *; omega) (by omega) (by omega) (by rw [c35]; rfl) (by decide) ?_
      refine rb_aload_n hV dX9_line_89 rfl rfl ?_
      refine rb_get hV (v := .inr (some 11)) dX9_line_90 ⟨RX9, TX9, 8, rfl, (Nat.le_of_ble_eq_true rfl), lf_X9_47⟩ (gw_0 _) rfl ?_
      refine rb_iload_n hV dX9_line_93 rfl rfl ?_
      refine rb_iload hV dX9_line_94 rfl ?_
      refine rb_callV hV (rest := []) dX9_line_96 (c_X2_naturalWidth s (s 26 l) ((s 26 (l + 1)) - 1) hp hr (show 0 ≤ (s 26 l) ∧ (s 26 l) ≤ ((s 26 (l + 1)) - 1) ∧ ((s 26 (l + 1)) - 1) < (s 103 0) by omega)) lk_X9_190 rfl (Or.inl ⟨2, _, TX2, 8, gw_11 _, rfl⟩) rfl ⟨rfl, rfl, (Nat.le_of_ble_eq_true rfl), (Nat.le_of_ble_eq_true rfl), (Nat.le_of_ble_eq_true rfl), (Nat.le_of_ble_eq_true rfl)⟩ (Nat.le_of_ble_eq_true rfl) (fun r9 h9 p9 => ?_)
      obtain ⟨rfl, rfl⟩ := p9
      show V 99 [some (.inr (some 0)), some (.inl l), some (.inl k), some (.inl (s 26 l)), some (.inl ((s 26 (l + 1)) - 1))] [.inl (nt (vX s) (s 26 l) ((s 26 (l + 1)) - 1))] (WW s) 0 0
      refine rb_ret hV (r := some (.inl (nt (vX s) (s 26 l) ((s 26 (l + 1)) - 1)))) dX9_line_99 rfl ⟨(Nat.le_of_ble_eq_true rfl), (Nat.le_of_ble_eq_true rfl)⟩ trivial ?_
      subst c35
      refine ⟨congrArg (fun z : Int => some (Sum.inl z)) ?_, rfl⟩
      unfold xline
      rw [if_neg (by omega)]
      rfl
    · refine rb_tabIn hV (off := 65) (tgt := 100) dX9_line_35 (by unfold ab_r at *; omega) (by omega) (by omega) (by rw [c35]; rfl) (by decide) ?_
      refine rb_aload_n hV dX9_line_100 rfl rfl ?_
      refine rb_get hV (v := .inr (some 1)) dX9_line_101 ⟨RX9, TX9, 8, rfl, (Nat.le_of_ble_eq_true rfl), lf_X9_39⟩ (gw_0 _) rfl ?_
      refine rb_get hV (v := .inl (s 100 0)) dX9_line_104 ⟨RX6, TX6, 6, rfl, (Nat.le_of_ble_eq_true rfl), lf_X9_97⟩ (gw_1 _) rfl ?_
      refine rb_aload_n hV dX9_line_107 rfl rfl ?_
      refine rb_get hV (v := .inr (some 11)) dX9_line_108 ⟨RX9, TX9, 8, rfl, (Nat.le_of_ble_eq_true rfl), lf_X9_47⟩ (gw_0 _) rfl ?_
      refine rb_iload_n hV dX9_line_111 rfl rfl ?_
      refine rb_iload hV dX9_line_112 rfl ?_
      refine rb_callV hV (rest := [.inl (s 100 0)]) dX9_line_114 (c_X2_naturalWidth s (s 26 l) ((s 26 (l + 1)) - 1) hp hr (show 0 ≤ (s 26 l) ∧ (s 26 l) ≤ ((s 26 (l + 1)) - 1) ∧ ((s 26 (l + 1)) - 1) < (s 103 0) by omega)) lk_X9_190 rfl (Or.inl ⟨2, _, TX2, 8, gw_11 _, rfl⟩) rfl ⟨rfl, rfl, (Nat.le_of_ble_eq_true rfl), (Nat.le_of_ble_eq_true rfl), (Nat.le_of_ble_eq_true rfl), (Nat.le_of_ble_eq_true rfl)⟩ (Nat.le_of_ble_eq_true rfl) (fun r9 h9 p9 => ?_)
      obtain ⟨rfl, rfl⟩ := p9
      show V 117 [some (.inr (some 0)), some (.inl l), some (.inl k), some (.inl (s 26 l)), some (.inl ((s 26 (l + 1)) - 1))] [.inl (nt (vX s) (s 26 l) ((s 26 (l + 1)) - 1)), .inl (s 100 0)] (WW s) 0 0
      refine rb_isub hV dX9_line_117 ?_
      refine rb_ret hV (r := some (.inl ((s 100 0) - (nt (vX s) (s 26 l) ((s 26 (l + 1)) - 1))))) dX9_line_118 rfl ⟨(Nat.le_of_ble_eq_true rfl), (Nat.le_of_ble_eq_true rfl)⟩ trivial ?_
      subst c35
      refine ⟨congrArg (fun z : Int => some (Sum.inl z)) ?_, rfl⟩
      unfold xline
      rw [if_neg (by omega)]
      rfl
    · refine rb_tabIn hV (off := 84) (tgt := 119) dX9_line_35 (by unfold ab_r at *; omega) (by omega) (by omega) (by rw [c35]; rfl) (by decide) ?_
      refine rb_aload_n hV dX9_line_119 rfl rfl ?_
      refine rb_get hV (v := .inr (some 11)) dX9_line_120 ⟨RX9, TX9, 8, rfl, (Nat.le_of_ble_eq_true rfl), lf_X9_47⟩ (gw_0 _) rfl ?_
      refine rb_iload_n hV dX9_line_123 rfl rfl ?_
      refine rb_iload hV dX9_line_124 rfl ?_
      refine rb_callV hV (rest := []) dX9_line_126 (c_X2_badness s (s 26 l) ((s 26 (l + 1)) - 1) hp hr (show 0 ≤ (s 26 l) ∧ (s 26 l) ≤ ((s 26 (l + 1)) - 1) ∧ ((s 26 (l + 1)) - 1) < (s 103 0) by omega)) lk_X9_194 rfl (Or.inl ⟨2, _, TX2, 8, gw_11 _, rfl⟩) rfl ⟨rfl, rfl, (Nat.le_of_ble_eq_true rfl), (Nat.le_of_ble_eq_true rfl), (Nat.le_of_ble_eq_true rfl), (Nat.le_of_ble_eq_true rfl)⟩ (Nat.le_of_ble_eq_true rfl) (fun r9 h9 p9 => ?_)
      obtain ⟨rfl, rfl⟩ := p9
      show V 129 [some (.inr (some 0)), some (.inl l), some (.inl k), some (.inl (s 26 l)), some (.inl ((s 26 (l + 1)) - 1))] [.inl (xb (vX s) (s 26 l) ((s 26 (l + 1)) - 1))] (WW s) 0 0
      refine rb_ret hV (r := some (.inl (xb (vX s) (s 26 l) ((s 26 (l + 1)) - 1)))) dX9_line_129 rfl ⟨(Nat.le_of_ble_eq_true rfl), (Nat.le_of_ble_eq_true rfl)⟩ trivial ?_
      subst c35
      refine ⟨congrArg (fun z : Int => some (Sum.inl z)) ?_, rfl⟩
      unfold xline
      rw [if_neg (by omega)]
      rfl
    · refine rb_tabIn hV (off := 95) (tgt := 130) dX9_line_35 (by unfold ab_r at *; omega) (by omega) (by omega) (by rw [c35]; rfl) (by decide) ?_
      refine rb_aload_n hV dX9_line_130 rfl rfl ?_
      refine rb_get hV (v := .inr (some 11)) dX9_line_131 ⟨RX9, TX9, 8, rfl, (Nat.le_of_ble_eq_true rfl), lf_X9_47⟩ (gw_0 _) rfl ?_
      refine rb_iload_n hV dX9_line_134 rfl rfl ?_
      refine rb_iload hV dX9_line_135 rfl ?_
      refine rb_callV hV (rest := []) dX9_line_137 (c_X2_demerits s (s 26 l) ((s 26 (l + 1)) - 1) hp hr (show 0 ≤ (s 26 l) ∧ (s 26 l) ≤ ((s 26 (l + 1)) - 1) ∧ ((s 26 (l + 1)) - 1) < (s 103 0) by omega)) lk_X9_197 rfl (Or.inl ⟨2, _, TX2, 8, gw_11 _, rfl⟩) rfl ⟨rfl, rfl, (Nat.le_of_ble_eq_true rfl), (Nat.le_of_ble_eq_true rfl), (Nat.le_of_ble_eq_true rfl), (Nat.le_of_ble_eq_true rfl)⟩ (Nat.le_of_ble_eq_true rfl) (fun r9 h9 p9 => ?_)
      obtain ⟨rfl, rfl⟩ := p9
      show V 140 [some (.inr (some 0)), some (.inl l), some (.inl k), some (.inl (s 26 l)), some (.inl ((s 26 (l + 1)) - 1))] [.inl (xd (vX s) (s 26 l) ((s 26 (l + 1)) - 1))] (WW s) 0 0
      refine rb_ret hV (r := some (.inl (xd (vX s) (s 26 l) ((s 26 (l + 1)) - 1)))) dX9_line_140 rfl ⟨(Nat.le_of_ble_eq_true rfl), (Nat.le_of_ble_eq_true rfl)⟩ trivial ?_
      subst c35
      refine ⟨congrArg (fun z : Int => some (Sum.inl z)) ?_, rfl⟩
      unfold xline
      rw [if_neg (by omega)]
      rfl
    · refine rb_tabIn hV (off := 106) (tgt := 141) dX9_line_35 (by unfold ab_r at *; omega) (by omega) (by omega) (by rw [c35]; rfl) (by decide) ?_
      refine rb_aload_n hV dX9_line_141 rfl rfl ?_
      refine rb_get hV (v := .inr (some 11)) dX9_line_142 ⟨RX9, TX9, 8, rfl, (Nat.le_of_ble_eq_true rfl), lf_X9_47⟩ (gw_0 _) rfl ?_
      refine rb_get hV (v := .inr (some 16)) dX9_line_145 ⟨RX2, TX2, 8, rfl, (Nat.le_of_ble_eq_true rfl), lf_X9_199⟩ (gw_11 _) rfl ?_
      refine rb_iload_n hV dX9_line_148 rfl rfl ?_
      refine rb_callS hV (rest := []) dX9_line_149 (c_X9_at s 16 _ (s 16) (s 26 l) (gw_16 _) (Nat.le_of_ble_eq_true rfl) (by omega)) lk_X9_202 rfl rfl ⟨rfl, rfl, (Nat.le_of_ble_eq_true rfl), (Nat.le_of_ble_eq_true rfl), (Nat.le_of_ble_eq_true rfl), (Nat.le_of_ble_eq_true rfl)⟩ (Nat.le_of_ble_eq_true rfl) (fun r9 h9 p9 => ?_)
      obtain ⟨rfl, rfl⟩ := p9
      show V 152 [some (.inr (some 0)), some (.inl l), some (.inl k), some (.inl (s 26 l)), some (.inl ((s 26 (l + 1)) - 1))] [.inl (s 16 (s 26 l))] (WW s) 0 0
      refine rb_ret hV (r := some (.inl (s 16 (s 26 l)))) dX9_line_152 rfl ⟨(Nat.le_of_ble_eq_true rfl), (Nat.le_of_ble_eq_true rfl)⟩ trivial ?_
      subst c35
      refine ⟨congrArg (fun z : Int => some (Sum.inl z)) ?_, rfl⟩
      unfold xline
      rw [if_neg (by omega)]
      rfl
    · refine rb_tabIn hV (off := 118) (tgt := 153) dX9_line_35 (by unfold ab_r at *; omega) (by omega) (by omega) (by rw [c35]; rfl) (by decide) ?_
      refine rb_aload_n hV dX9_line_153 rfl rfl ?_
      refine rb_get hV (v := .inr (some 11)) dX9_line_154 ⟨RX9, TX9, 8, rfl, (Nat.le_of_ble_eq_true rfl), lf_X9_47⟩ (gw_0 _) rfl ?_
      refine rb_get hV (v := .inr (some 17)) dX9_line_157 ⟨RX2, TX2, 8, rfl, (Nat.le_of_ble_eq_true rfl), lf_X9_206⟩ (gw_11 _) rfl ?_
      refine rb_iload hV dX9_line_160 rfl ?_
      refine rb_callS hV (rest := []) dX9_line_162 (c_X9_at s 17 _ (s 17) ((s 26 (l + 1)) - 1) (gw_17 _) (Nat.le_of_ble_eq_true rfl) (by omega)) lk_X9_202 rfl rfl ⟨rfl, rfl, (Nat.le_of_ble_eq_true rfl), (Nat.le_of_ble_eq_true rfl), (Nat.le_of_ble_eq_true rfl), (Nat.le_of_ble_eq_true rfl)⟩ (Nat.le_of_ble_eq_true rfl) (fun r9 h9 p9 => ?_)
      obtain ⟨rfl, rfl⟩ := p9
      show V 165 [some (.inr (some 0)), some (.inl l), some (.inl k), some (.inl (s 26 l)), some (.inl ((s 26 (l + 1)) - 1))] [.inl (s 17 ((s 26 (l + 1)) - 1))] (WW s) 0 0
      refine rb_ret hV (r := some (.inl (s 17 ((s 26 (l + 1)) - 1)))) dX9_line_165 rfl ⟨(Nat.le_of_ble_eq_true rfl), (Nat.le_of_ble_eq_true rfl)⟩ trivial ?_
      subst c35
      refine ⟨congrArg (fun z : Int => some (Sum.inl z)) ?_, rfl⟩
      unfold xline
      rw [if_neg (by omega)]
      rfl
    · refine rb_tabIn hV (off := 131) (tgt := 166) dX9_line_35 (by unfold ab_r at *; omega) (by omega) (by omega) (by rw [c35]; rfl) (by decide) ?_
      refine rb_aload_n hV dX9_line_166 rfl rfl ?_
      refine rb_get hV (v := .inr (some 25)) dX9_line_167 ⟨RX9, TX9, 8, rfl, (Nat.le_of_ble_eq_true rfl), lf_X9_60⟩ (gw_0 _) rfl ?_
      refine rb_iload hV dX9_line_170 rfl ?_
      refine rb_callV hV (rest := []) dX9_line_172 (c_X1_endOf_la s ((s 26 (l + 1)) - 1) (by omega)) lk_X9_209 rfl (Or.inl ⟨1, _, TX1, 12, gw_25 _, rfl⟩) rfl ⟨rfl, rfl, (Nat.le_of_ble_eq_true rfl), (Nat.le_of_ble_eq_true rfl), (Nat.le_of_ble_eq_true rfl), (Nat.le_of_ble_eq_true rfl)⟩ (Nat.le_of_ble_eq_true rfl) (fun r9 h9 p9 => ?_)
      obtain ⟨rfl, rfl⟩ := p9
      show V 175 [some (.inr (some 0)), some (.inl l), some (.inl k), some (.inl (s 26 l)), some (.inl ((s 26 (l + 1)) - 1))] [.inl ((s 29 ((s 26 (l + 1)) - 1)) + (s 6 ((s 26 (l + 1)) - 1)))] (WW s) 0 0
      refine rb_aload_n hV dX9_line_175 rfl rfl ?_
      refine rb_get hV (v := .inr (some 25)) dX9_line_176 ⟨RX9, TX9, 8, rfl, (Nat.le_of_ble_eq_true rfl), lf_X9_60⟩ (gw_0 _) rfl ?_
      refine rb_get hV (v := .inr (some 29)) dX9_line_179 ⟨RX1, TX1, 12, rfl, (Nat.le_of_ble_eq_true rfl), lf_X9_212⟩ (gw_25 _) rfl ?_
      refine rb_iload_n hV dX9_line_182 rfl rfl ?_
      refine rb_callS hV (rest := [.inl ((s 29 ((s 26 (l + 1)) - 1)) + (s 6 ((s 26 (l + 1)) - 1)))]) dX9_line_183 (c_X9_at s 29 _ (s 29) (s 26 l) (gw_29 _) (Nat.le_of_ble_eq_true rfl) (by omega)) lk_X9_202 rfl rfl ⟨rfl, rfl, (Nat.le_of_ble_eq_true rfl), (Nat.le_of_ble_eq_true rfl), (Nat.le_of_ble_eq_true rfl), (Nat.le_of_ble_eq_true rfl)⟩ (Nat.le_of_ble_eq_true rfl) (fun r9 h9 p9 => ?_)
      obtain ⟨rfl, rfl⟩ := p9
      show V 186 [some (.inr (some 0)), some (.inl l), some (.inl k), some (.inl (s 26 l)), some (.inl ((s 26 (l + 1)) - 1))] [.inl (s 29 (s 26 l)), .inl ((s 29 ((s 26 (l + 1)) - 1)) + (s 6 ((s 26 (l + 1)) - 1)))] (WW s) 0 0
      refine rb_isub hV dX9_line_186 ?_
      refine rb_aload_n hV dX9_line_187 rfl rfl ?_
      refine rb_get hV (v := .inr (some 11)) dX9_line_188 ⟨RX9, TX9, 8, rfl, (Nat.le_of_ble_eq_true rfl), lf_X9_47⟩ (gw_0 _) rfl ?_
      refine rb_get hV (v := .inr (some 16)) dX9_line_191 ⟨RX2, TX2, 8, rfl, (Nat.le_of_ble_eq_true rfl), lf_X9_199⟩ (gw_11 _) rfl ?_
      refine rb_iload_n hV dX9_line_194 rfl rfl ?_
      refine rb_callS hV (rest := [.inl (((s 29 ((s 26 (l + 1)) - 1)) + (s 6 ((s 26 (l + 1)) - 1))) - (s 29 (s 26 l)))]) dX9_line_195 (c_X9_at s 16 _ (s 16) (s 26 l) (gw_16 _) (Nat.le_of_ble_eq_true rfl) (by omega)) lk_X9_202 rfl rfl ⟨rfl, rfl, (Nat.le_of_ble_eq_true rfl), (Nat.le_of_ble_eq_true rfl), (Nat.le_of_ble_eq_true rfl), (Nat.le_of_ble_eq_true rfl)⟩ (Nat.le_of_ble_eq_true rfl) (fun r9 h9 p9 => ?_)
      obtain ⟨rfl, rfl⟩ := p9
      show V 198 [some (.inr (some 0)), some (.inl l), some (.inl k), some (.inl (s 26 l)), some (.inl ((s 26 (l + 1)) - 1))] [.inl (s 16 (s 26 l)), .inl (((s 29 ((s 26 (l + 1)) - 1)) + (s 6 ((s 26 (l + 1)) - 1))) - (s 29 (s 26 l)))] (WW s) 0 0
      refine rb_isub hV dX9_line_198 ?_
      refine rb_aload_n hV dX9_line_199 rfl rfl ?_
      refine rb_get hV (v := .inr (some 11)) dX9_line_200 ⟨RX9, TX9, 8, rfl, (Nat.le_of_ble_eq_true rfl), lf_X9_47⟩ (gw_0 _) rfl ?_
      refine rb_get hV (v := .inr (some 17)) dX9_line_203 ⟨RX2, TX2, 8, rfl, (Nat.le_of_ble_eq_true rfl), lf_X9_206⟩ (gw_11 _) rfl ?_
      refine rb_iload hV dX9_line_206 rfl ?_
      refine rb_callS hV (rest := [.inl ((((s 29 ((s 26 (l + 1)) - 1)) + (s 6 ((s 26 (l + 1)) - 1))) - (s 29 (s 26 l))) - (s 16 (s 26 l)))]) dX9_line_208 (c_X9_at s 17 _ (s 17) ((s 26 (l + 1)) - 1) (gw_17 _) (Nat.le_of_ble_eq_true rfl) (by omega)) lk_X9_202 rfl rfl ⟨rfl, rfl, (Nat.le_of_ble_eq_true rfl), (Nat.le_of_ble_eq_true rfl), (Nat.le_of_ble_eq_true rfl), (Nat.le_of_ble_eq_true rfl)⟩ (Nat.le_of_ble_eq_true rfl) (fun r9 h9 p9 => ?_)
      obtain ⟨rfl, rfl⟩ := p9
      show V 211 [some (.inr (some 0)), some (.inl l), some (.inl k), some (.inl (s 26 l)), some (.inl ((s 26 (l + 1)) - 1))] [.inl (s 17 ((s 26 (l + 1)) - 1)), .inl ((((s 29 ((s 26 (l + 1)) - 1)) + (s 6 ((s 26 (l + 1)) - 1))) - (s 29 (s 26 l))) - (s 16 (s 26 l)))] (WW s) 0 0
      refine rb_isub hV dX9_line_211 ?_
      refine rb_ret hV (r := some (.inl (((((s 29 ((s 26 (l + 1)) - 1)) + (s 6 ((s 26 (l + 1)) - 1))) - (s 29 (s 26 l))) - (s 16 (s 26 l))) - (s 17 ((s 26 (l + 1)) - 1))))) dX9_line_212 rfl ⟨(Nat.le_of_ble_eq_true rfl), (Nat.le_of_ble_eq_true rfl)⟩ trivial ?_
      subst c35
      refine ⟨congrArg (fun z : Int => some (Sum.inl z)) ?_, rfl⟩
      unfold xline
      rw [if_neg (by omega)]
      rfl
    · refine rb_tabOut hV (tgt := 213) dX9_line_35 (by unfold ab_r at *; omega) c35 (by decide) ?_
      refine rb_sipush hV dX9_line_213 (by decide) ?_
      refine rb_ret hV (r := some (.inl (-1002))) dX9_line_216 rfl ⟨(Nat.le_of_ble_eq_true rfl), (Nat.le_of_ble_eq_true rfl)⟩ trivial ?_
      refine ⟨congrArg (fun z : Int => some (Sum.inl z)) ?_, rfl⟩
      unfold xline
      rw [if_neg (by omega), if_neg (by omega), if_neg (by omega), if_neg (by omega), if_neg (by omega), if_neg (by omega), if_neg (by omega), if_neg (by omega), if_neg (by omega), if_neg (by omega)]
  · rw [if_neg e5]
    show V 8 [some (.inr (some 0)), some (.inl l), some (.inl k), none, none] [.inl 0] (WW s) 0 0
    refine rb_if_ne hV (tgt := 15) dX9_line_8 (by decide) (by unfold ab_r at *; omega) (fun z => absurd z (by decide)) (fun _ => ?_)
    refine rb_sipush hV dX9_line_11 (by decide) ?_
    refine rb_ret hV (r := some (.inl (-1001))) dX9_line_14 rfl ⟨(Nat.le_of_ble_eq_true rfl), (Nat.le_of_ble_eq_true rfl)⟩ trivial ?_
    exact ⟨congrArg (fun z : Int => some (Sum.inl z)) (if_pos e5).symm, rfl⟩

set_option maxRecDepth 20000 in
theorem c_X9_space (s : Nat → Int → Int) (l p k : Int) (hl00 : ab_r l) (hp0 : ab_r p) (hk0 : ab_r k) (hx : XI s) : ab_Mt yX9_space cX9_space 6 (some .int) ({ frames := 2, cells := 0, slots := 0, locals := 42 } : Room) false 0 0 [.inr (some 0), .inl l, .inl p, .inl k] (WW s) (RO s (xspace s l p k)) := by
  refine ab_mk RX9 false rfl pn_X9_space (fun z => by cases z) (Nat.le_of_ble_eq_true rfl) (fun V hV => ?_)
  show V 0 [some (.inr (some 0)), some (.inl l), some (.inl p), some (.inl k), none, none] [] (WW s) 0 0
  obtain ⟨hp, hr, hbw, hv, hst, hz, hx1, hx2, hx3, hx4⟩ := id hx
  have hn : 0 ≤ s 103 0 ∧ s 103 0 ≤ 60 := hp.1
  have hnl : 0 ≤ s 107 0 ∧ s 107 0 ≤ s 103 0 := hv.1
  have hb := BWp_BS hp hbw
  refine rb_aload_n hV dX9_space_0 rfl rfl ?_
  refine rb_get hV (v := .inr (some 25)) dX9_space_1 ⟨RX9, TX9, 8, rfl, (Nat.le_of_ble_eq_true rfl), lf_X9_60⟩ (gw_0 _) rfl ?_
  refine rb_iload_n hV dX9_space_4 rfl rfl ?_
  refine rb_callV hV (rest := []) dX9_space_5 (c_X1_hasLine_la s l (by unfold ab_r at *; omega) (show 0 ≤ (s 107 0) ∧ (s 107 0) ≤ 60 by omega)) lk_X9_124 rfl (Or.inl ⟨1, _, TX1, 12, gw_25 _, rfl⟩) rfl ⟨rfl, rfl, (Nat.le_of_ble_eq_true rfl), (Nat.le_of_ble_eq_true rfl), (Nat.le_of_ble_eq_true rfl), (Nat.le_of_ble_eq_true rfl)⟩ (Nat.le_of_ble_eq_true rfl) (fun r9 h9 p9 => ?_)
  obtain ⟨rfl, rfl⟩ := p9
  show V 8 [some (.inr (some 0)), some (.inl l), some (.inl p), some (.inl k), none, none] [.inl (if 0 ≤ l ∧ l < (s 107 0) then 1 else 0)] (WW s) 0 0
  by_cases e5 : 0 ≤ l ∧ l < (s 107 0)
  · rw [if_pos e5]
    show V 8 [some (.inr (some 0)), some (.inl l), some (.inl p), some (.inl k), none, none] [.inl 1] (WW s) 0 0
    refine rb_if_ne hV (tgt := 15) dX9_space_8 (by decide) (by unfold ab_r at *; omega) (fun _ => ?_) (fun z => absurd z (by decide))
    have hl0 := hv.2.1 l (by omega) (by omega)
    have hl1 : 0 ≤ s 26 l := hl0.1
    have hl2 : s 26 l < s 26 (l + 1) := hl0.2.1
    have hl3 : s 26 (l + 1) ≤ s 103 0 := hl0.2.2.1
    refine rb_aload_n hV dX9_space_15 rfl rfl ?_
    refine rb_get hV (v := .inr (some 25)) dX9_space_16 ⟨RX9, TX9, 8, rfl, (Nat.le_of_ble_eq_true rfl), lf_X9_60⟩ (gw_0 _) rfl ?_
    refine rb_iload_n hV dX9_space_19 rfl rfl ?_
    refine rb_callV hV (rest := []) dX9_space_20 (c_X1_firstWord_la s l (show 0 ≤ (s 107 0) ∧ (s 107 0) ≤ 60 by omega) (show 0 ≤ l ∧ l < (s 107 0) by omega)) lk_X9_184 rfl (Or.inl ⟨1, _, TX1, 12, gw_25 _, rfl⟩) rfl ⟨rfl, rfl, (Nat.le_of_ble_eq_true rfl), (Nat.le_of_ble_eq_true rfl), (Nat.le_of_ble_eq_true rfl), (Nat.le_of_ble_eq_true rfl)⟩ (Nat.le_of_ble_eq_true rfl) (fun r9 h9 p9 => ?_)
    obtain ⟨rfl, rfl⟩ := p9
    show V 23 [some (.inr (some 0)), some (.inl l), some (.inl p), some (.inl k), none, none] [.inl (s 26 l)] (WW s) 0 0
    refine rb_istore hV (L2 := [some (.inr (some 0)), some (.inl l), some (.inl p), some (.inl k), some (.inl (s 26 l)), none]) dX9_space_23 (Nat.le_of_ble_eq_true rfl) rfl ?_
    refine rb_iload_n hV dX9_space_25 rfl rfl ?_
    refine rb_if_lt hV (tgt := 44) dX9_space_26 (by decide) (by unfold ab_r at *; omega) (fun c26 => ?_) (fun c26 => ?_)
    · refine rb_sipush hV dX9_space_44 (by decide) ?_
      refine rb_ret hV (r := some (.inl (-1001))) dX9_space_47 rfl ⟨(Nat.le_of_ble_eq_true rfl), (Nat.le_of_ble_eq_true rfl)⟩ trivial ?_
      refine ⟨congrArg (fun z : Int => some (Sum.inl z)) ?_, rfl⟩
      unfold xspace
      rw [if_neg (by omega), if_pos (by omega)]
    · refine rb_iload_n hV dX9_space_29 rfl rfl ?_
      refine rb_aload_n hV dX9_space_30 rfl rfl ?_
      refine rb_get hV (v := .inr (some 25)) dX9_space_31 ⟨RX9, TX9, 8, rfl, (Nat.le_of_ble_eq_true rfl), lf_X9_60⟩ (gw_0 _) rfl ?_
      refine rb_iload_n hV dX9_space_34 rfl rfl ?_
      refine rb_callV hV (rest := [.inl p]) dX9_space_35 (c_X1_lastWord_la s l (show 0 ≤ (s 107 0) ∧ (s 107 0) ≤ 60 by omega) (show 0 ≤ l ∧ l < (s 107 0) by omega)) lk_X9_187 rfl (Or.inl ⟨1, _, TX1, 12, gw_25 _, rfl⟩) rfl ⟨rfl, rfl, (Nat.le_of_ble_eq_true rfl), (Nat.le_of_ble_eq_true rfl), (Nat.le_of_ble_eq_true rfl), (Nat.le_of_ble_eq_true rfl)⟩ (Nat.le_of_ble_eq_true rfl) (fun r9 h9 p9 => ?_)
      obtain ⟨rfl, rfl⟩ := p9
      show V 38 [some (.inr (some 0)), some (.inl l), some (.inl p), some (.inl k), some (.inl (s 26 l)), none] [.inl ((s 26 (l + 1)) - 1), .inl p] (WW s) 0 0
      refine rb_iload hV dX9_space_38 rfl ?_
      refine rb_isub hV dX9_space_40 ?_
      refine rb_icmp_lt hV (tgt := 48) dX9_space_41 (by decide) ⟨(by unfold ab_r at *; omega), (by unfold ab_r at *; omega)⟩ (fun c41 => ?_) (fun c41 => ?_)
      · refine rb_iload hV dX9_space_48 rfl ?_
        refine rb_iload_n hV dX9_space_50 rfl rfl ?_
        refine rb_iadd hV dX9_space_51 ?_
        refine rb_istore hV (L2 := [some (.inr (some 0)), some (.inl l), some (.inl p), some (.inl k), some (.inl (s 26 l)), some (.inl ((s 26 l) + p))]) dX9_space_52 (Nat.le_of_ble_eq_true rfl) rfl ?_
        refine rb_iload_n hV dX9_space_54 rfl rfl ?_
        rcases (show k = 0 ∨ k = 1 ∨ k = 2 ∨ k = 3 ∨ (k < 0 ∨ 3 < k) by omega) with c55 | c55 | c55 | c55 | c55
        · refine rb_tabIn hV (off := 29) (tgt := 84) dX9_space_55 (by unfold ab_r at *; omega) (by omega) (by omega) (by rw [c55]; rfl) (by decide) ?_
          refine rb_aload_n hV dX9_space_84 rfl rfl ?_
          refine rb_get hV (v := .inr (some 25)) dX9_space_85 ⟨RX9, TX9, 8, rfl, (Nat.le_of_ble_eq_true rfl), lf_X9_60⟩ (gw_0 _) rfl ?_
          refine rb_get hV (v := .inr (some 30)) dX9_space_88 ⟨RX1, TX1, 12, rfl, (Nat.le_of_ble_eq_true rfl), lf_X9_215⟩ (gw_25 _) rfl ?_
          refine rb_iload hV dX9_space_91 rfl ?_
          refine rb_callS hV (rest := []) dX9_space_93 (c_X9_at s 30 _ (s 30) ((s 26 l) + p) (gw_30 _) (Nat.le_of_ble_eq_true rfl) (by omega)) lk_X9_202 rfl rfl ⟨rfl, rfl, (Nat.le_of_ble_eq_true rfl), (Nat.le_of_ble_eq_true rfl), (Nat.le_of_ble_eq_true rfl), (Nat.le_of_ble_eq_true rfl)⟩ (Nat.le_of_ble_eq_true rfl) (fun r9 h9 p9 => ?_)
          obtain ⟨rfl, rfl⟩ := p9
          show V 96 [some (.inr (some 0)), some (.inl l), some (.inl p), some (.inl k), some (.inl (s 26 l)), some (.inl ((s 26 l) + p))] [.inl (s 30 ((s 26 l) + p))] (WW s) 0 0
          refine rb_ret hV (r := some (.inl (s 30 ((s 26 l) + p)))) dX9_space_96 rfl ⟨(Nat.le_of_ble_eq_true rfl), (Nat.le_of_ble_eq_true rfl)⟩ trivial ?_
          subst c55
          refine ⟨congrArg (fun z : Int => some (Sum.inl z)) ?_, rfl⟩
          unfold xspace
          rw [if_neg (by omega), if_neg (by omega)]
          rfl
        · refine rb_tabIn hV (off := 42) (tgt := 97) dX9_space_55 (by unfold ab_r at *; omega) (by omega) (by omega) (by rw [c55]; rfl) (by decide) ?_
          refine rb_aload_n hV dX9_space_97 rfl rfl ?_
          refine rb_get hV (v := .inr (some 25)) dX9_space_98 ⟨RX9, TX9, 8, rfl, (Nat.le_of_ble_eq_true rfl), lf_X9_60⟩ (gw_0 _) rfl ?_
          refine rb_iload hV dX9_space_101 rfl ?_
          refine rb_callV hV (rest := []) dX9_space_103 (c_X1_endOf_la s ((s 26 l) + p) (by omega)) lk_X9_209 rfl (Or.inl ⟨1, _, TX1, 12, gw_25 _, rfl⟩) rfl ⟨rfl, rfl, (Nat.le_of_ble_eq_true rfl), (Nat.le_of_ble_eq_true rfl), (Nat.le_of_ble_eq_true rfl), (Nat.le_of_ble_eq_true rfl)⟩ (Nat.le_of_ble_eq_true rfl) (fun r9 h9 p9 => ?_)
          obtain ⟨rfl, rfl⟩ := p9
          show V 106 [some (.inr (some 0)), some (.inl l), some (.inl p), some (.inl k), some (.inl (s 26 l)), some (.inl ((s 26 l) + p))] [.inl ((s 29 ((s 26 l) + p)) + (s 6 ((s 26 l) + p)))] (WW s) 0 0
          refine rb_ret hV (r := some (.inl ((s 29 ((s 26 l) + p)) + (s 6 ((s 26 l) + p))))) dX9_space_106 rfl ⟨(Nat.le_of_ble_eq_true rfl), (Nat.le_of_ble_eq_true rfl)⟩ trivial ?_
          subst c55
          refine ⟨congrArg (fun z : Int => some (Sum.inl z)) ?_, rfl⟩
          unfold xspace
          rw [if_neg (by omega), if_neg (by omega)]
          rfl
        · refine rb_tabIn hV (off := 52) (tgt := 107) dX9_space_55 (by unfold ab_r at *; omega) (by omega) (by omega) (by rw [c55]; rfl) (by decide) ?_
          refine rb_aload_n hV dX9_space_107 rfl rfl ?_
          refine rb_get hV (v := .inr (some 5)) dX9_space_108 ⟨RX9, TX9, 8, rfl, (Nat.le_of_ble_eq_true rfl), lf_X9_43⟩ (gw_0 _) rfl ?_
          refine rb_get hV (v := .inr (some 8)) dX9_space_111 ⟨RX4, TX4, 6, rfl, (Nat.le_of_ble_eq_true rfl), lf_X9_178⟩ (gw_5 _) rfl ?_
          refine rb_iload hV dX9_space_114 rfl ?_
          refine rb_callS hV (rest := []) dX9_space_116 (c_X9_at s 8 _ (s 8) ((s 26 l) + p) (gw_8 _) (Nat.le_of_ble_eq_true rfl) (by omega)) lk_X9_202 rfl rfl ⟨rfl, rfl, (Nat.le_of_ble_eq_true rfl), (Nat.le_of_ble_eq_true rfl), (Nat.le_of_ble_eq_true rfl), (Nat.le_of_ble_eq_true rfl)⟩ (Nat.le_of_ble_eq_true rfl) (fun r9 h9 p9 => ?_)
          obtain ⟨rfl, rfl⟩ := p9
          show V 119 [some (.inr (some 0)), some (.inl l), some (.inl p), some (.inl k), some (.inl (s 26 l)), some (.inl ((s 26 l) + p))] [.inl (s 8 ((s 26 l) + p))] (WW s) 0 0
          refine rb_ret hV (r := some (.inl (s 8 ((s 26 l) + p)))) dX9_space_119 rfl ⟨(Nat.le_of_ble_eq_true rfl), (Nat.le_of_ble_eq_true rfl)⟩ trivial ?_
          subst c55
          refine ⟨congrArg (fun z : Int => some (Sum.inl z)) ?_, rfl⟩
          unfold xspace
          rw [if_neg (by omega), if_neg (by omega)]
          rfl
        · refine rb_tabIn hV (off := 65) (tgt := 120) dX9_space_55 (by unfold ab_r at *; omega) (by omega) (by omega) (by rw [c55]; rfl) (by decide) ?_
          refine rb_aload_n hV dX9_space_120 rfl rfl ?_
          refine rb_get hV (v := .inr (some 25)) dX9_space_121 ⟨RX9, TX9, 8, rfl, (Nat.le_of_ble_eq_true rfl), lf_X9_60⟩ (gw_0 _) rfl ?_
          refine rb_get hV (v := .inr (some 31)) dX9_space_124 ⟨RX1, TX1, 12, rfl, (Nat.le_of_ble_eq_true rfl), lf_X9_148⟩ (gw_25 _) rfl ?_
          refine rb_get hV (v := .inr (some 32)) dX9_space_127 ⟨RX5, TX5, 8, rfl, (Nat.le_of_ble_eq_true rfl), lf_X9_218⟩ (gw_31 _) rfl ?_
          refine rb_iload hV dX9_space_130 rfl ?_
          refine rb_callS hV (rest := []) dX9_space_132 (c_X9_at s 32 _ (s 32) ((s 26 l) + p) (gw_32 _) (Nat.le_of_ble_eq_true rfl) (by omega)) lk_X9_202 rfl rfl ⟨rfl, rfl, (Nat.le_of_ble_eq_true rfl), (Nat.le_of_ble_eq_true rfl), (Nat.le_of_ble_eq_true rfl), (Nat.le_of_ble_eq_true rfl)⟩ (Nat.le_of_ble_eq_true rfl) (fun r9 h9 p9 => ?_)
          obtain ⟨rfl, rfl⟩ := p9
          show V 135 [some (.inr (some 0)), some (.inl l), some (.inl p), some (.inl k), some (.inl (s 26 l)), some (.inl ((s 26 l) + p))] [.inl (s 32 ((s 26 l) + p))] (WW s) 0 0
          refine rb_ret hV (r := some (.inl (s 32 ((s 26 l) + p)))) dX9_space_135 rfl ⟨(Nat.le_of_ble_eq_true rfl), (Nat.le_of_ble_eq_true rfl)⟩ trivial ?_
          subst c55
          refine ⟨congrArg (fun z : Int => some (Sum.inl z)) ?_, rfl⟩
          unfold xspace
          rw [if_neg (by omega), if_neg (by omega)]
          rfl
        · refine rb_tabOut hV (tgt := 136) dX9_space_55 (by unfold ab_r at *; omega) c55 (by decide) ?_
          refine rb_sipush hV dX9_space_136 (by decide) ?_
          refine rb_ret hV (r := some (.inl (-1002))) dX9_space_139 rfl ⟨(Nat.le_of_ble_eq_true rfl), (Nat.le_of_ble_eq_true rfl)⟩ trivial ?_
          refine ⟨congrArg (fun z : Int => some (Sum.inl z)) ?_, rfl⟩
          unfold xspace
          rw [if_neg (by omega), if_neg (by omega), if_neg (by omega), if_neg (by omega), if_neg (by omega), if_neg (by omega)]
      · refine rb_sipush hV dX9_space_44 (by decide) ?_
        refine rb_ret hV (r := some (.inl (-1001))) dX9_space_47 rfl ⟨(Nat.le_of_ble_eq_true rfl), (Nat.le_of_ble_eq_true rfl)⟩ trivial ?_
        refine ⟨congrArg (fun z : Int => some (Sum.inl z)) ?_, rfl⟩
        unfold xspace
        rw [if_neg (by omega), if_pos (by omega)]
  · rw [if_neg e5]
    show V 8 [some (.inr (some 0)), some (.inl l), some (.inl p), some (.inl k), none, none] [.inl 0] (WW s) 0 0
    refine rb_if_ne hV (tgt := 15) dX9_space_8 (by decide) (by unfold ab_r at *; omega) (fun z => absurd z (by decide)) (fun _ => ?_)
    refine rb_sipush hV dX9_space_11 (by decide) ?_
    refine rb_ret hV (r := some (.inl (-1001))) dX9_space_14 rfl ⟨(Nat.le_of_ble_eq_true rfl), (Nat.le_of_ble_eq_true rfl)⟩ trivial ?_
    exact ⟨congrArg (fun z : Int => some (Sum.inl z)) (if_pos e5).symm, rfl⟩

set_option maxRecDepth 20000 in
theorem c_X9_begin (s : Nat → Int → Int) (w : Int) (hw0 : ab_r w) (hx : XI s) : ab_Mt yX9_begin cX9_begin 2 (some .int) ({ frames := 1, cells := 0, slots := 0, locals := 21 } : Room) false 0 0 [.inr (some 0), .inl w] (WW s) (RO s (xbegin s w)) := by
  refine ab_mk RX9 false rfl pn_X9_begin (fun z => by cases z) (Nat.le_of_ble_eq_true rfl) (fun V hV => ?_)
  show V 0 [some (.inr (some 0)), some (.inl w)] [] (WW s) 0 0
  obtain ⟨hp, hr, hbw, hv, hst, hz, hx1, hx2, hx3, hx4⟩ := id hx
  have hn : 0 ≤ s 103 0 ∧ s 103 0 ≤ 60 := hp.1
  have hnl : 0 ≤ s 107 0 ∧ s 107 0 ≤ s 103 0 := hv.1
  have hb := BWp_BS hp hbw
  refine rb_aload_n hV dX9_begin_0 rfl rfl ?_
  refine rb_get hV (v := .inr (some 5)) dX9_begin_1 ⟨RX9, TX9, 8, rfl, (Nat.le_of_ble_eq_true rfl), lf_X9_43⟩ (gw_0 _) rfl ?_
  refine rb_iload_n hV dX9_begin_4 rfl rfl ?_
  refine rb_callV hV (rest := []) dX9_begin_5 (c_X4_hasWord s w (by unfold ab_r at *; omega) (show 0 ≤ (s 103 0) ∧ (s 103 0) ≤ 60 by omega)) lk_X9_169 rfl (Or.inl ⟨4, _, TX4, 6, gw_5 _, rfl⟩) rfl ⟨rfl, rfl, (Nat.le_of_ble_eq_true rfl), (Nat.le_of_ble_eq_true rfl), (Nat.le_of_ble_eq_true rfl), (Nat.le_of_ble_eq_true rfl)⟩ (Nat.le_of_ble_eq_true rfl) (fun r9 h9 p9 => ?_)
  obtain ⟨rfl, rfl⟩ := p9
  show V 8 [some (.inr (some 0)), some (.inl w)] [.inl (if 0 ≤ w ∧ w < (s 103 0) then 1 else 0)] (WW s) 0 0
  by_cases e5 : 0 ≤ w ∧ w < (s 103 0)
  · rw [if_pos e5]
    show V 8 [some (.inr (some 0)), some (.inl w)] [.inl 1] (WW s) 0 0
    refine rb_if_ne hV (tgt := 15) dX9_begin_8 (by decide) (by unfold ab_r at *; omega) (fun _ => ?_) (fun z => absurd z (by decide))
    refine rb_aload_n hV dX9_begin_15 rfl rfl ?_
    refine rb_get hV (v := .inr (some 25)) dX9_begin_16 ⟨RX9, TX9, 8, rfl, (Nat.le_of_ble_eq_true rfl), lf_X9_60⟩ (gw_0 _) rfl ?_
    refine rb_get hV (v := .inl (s 107 0)) dX9_begin_19 ⟨RX1, TX1, 12, rfl, (Nat.le_of_ble_eq_true rfl), lf_X9_121⟩ (gw_25 _) rfl ?_
    refine rb_if_ne hV (tgt := 31) dX9_begin_22 (by decide) (by unfold ab_r at *; omega) (fun c22 => ?_) (fun c22 => ?_)
    · refine rb_aload_n hV dX9_begin_31 rfl rfl ?_
      refine rb_get hV (v := .inr (some 25)) dX9_begin_32 ⟨RX9, TX9, 8, rfl, (Nat.le_of_ble_eq_true rfl), lf_X9_60⟩ (gw_0 _) rfl ?_
      refine rb_get hV (v := .inr (some 29)) dX9_begin_35 ⟨RX1, TX1, 12, rfl, (Nat.le_of_ble_eq_true rfl), lf_X9_212⟩ (gw_25 _) rfl ?_
      refine rb_iload_n hV dX9_begin_38 rfl rfl ?_
      refine rb_iald hV (f := (s 29)) dX9_begin_39 (gw_29 _) (Nat.le_of_ble_eq_true rfl) (by omega) ?_
      refine rb_ret hV (r := some (.inl (s 29 w))) dX9_begin_40 rfl ⟨(Nat.le_of_ble_eq_true rfl), (Nat.le_of_ble_eq_true rfl)⟩ trivial ?_
      refine ⟨congrArg (fun z : Int => some (Sum.inl z)) ?_, rfl⟩
      unfold xbegin
      rw [if_neg (by omega), if_neg (by omega)]
    · refine rb_sipush hV dX9_begin_25 (by decide) ?_
      refine rb_goto hV (tgt := 40) dX9_begin_28 (by decide) ?_
      refine rb_ret hV (r := some (.inl (-1004))) dX9_begin_40 rfl ⟨(Nat.le_of_ble_eq_true rfl), (Nat.le_of_ble_eq_true rfl)⟩ trivial ?_
      refine ⟨congrArg (fun z : Int => some (Sum.inl z)) ?_, rfl⟩
      unfold xbegin
      rw [if_neg (by omega), if_pos (by omega)]
  · rw [if_neg e5]
    show V 8 [some (.inr (some 0)), some (.inl w)] [.inl 0] (WW s) 0 0
    refine rb_if_ne hV (tgt := 15) dX9_begin_8 (by decide) (by unfold ab_r at *; omega) (fun z => absurd z (by decide)) (fun _ => ?_)
    refine rb_sipush hV dX9_begin_11 (by decide) ?_
    refine rb_ret hV (r := some (.inl (-1001))) dX9_begin_14 rfl ⟨(Nat.le_of_ble_eq_true rfl), (Nat.le_of_ble_eq_true rfl)⟩ trivial ?_
    exact ⟨congrArg (fun z : Int => some (Sum.inl z)) (if_pos e5).symm, rfl⟩

set_option maxRecDepth 20000 in
theorem c_X9_second (s : Nat → Int → Int) (l k : Int) (hl00 : ab_r l) (hk0 : ab_r k) (hx : XI s) : ab_Mt yX9_second cX9_second 4 (some .int) ({ frames := 5, cells := 0, slots := 0, locals := 124 } : Room) false 0 0 [.inr (some 0), .inl l, .inl k] (WW s) (RO s (xsecond s l k)) := by
  refine ab_mk RX9 false rfl pn_X9_second (fun z => by cases z) (Nat.le_of_ble_eq_true rfl) (fun V hV => ?_)
  show V 0 [some (.inr (some 0)), some (.inl l), some (.inl k), none] [] (WW s) 0 0
  obtain ⟨hp, hr, hbw, hv, hst, hz, hx1, hx2, hx3, hx4⟩ := id hx
  have hn : 0 ≤ s 103 0 ∧ s 103 0 ≤ 60 := hp.1
  have hnl : 0 ≤ s 107 0 ∧ s 107 0 ≤ s 103 0 := hv.1
  have hb := BWp_BS hp hbw
  refine rb_aload_n hV dX9_second_0 rfl rfl ?_
  refine rb_get hV (v := .inr (some 25)) dX9_second_1 ⟨RX9, TX9, 8, rfl, (Nat.le_of_ble_eq_true rfl), lf_X9_60⟩ (gw_0 _) rfl ?_
  refine rb_iload_n hV dX9_second_4 rfl rfl ?_
  refine rb_callV hV (rest := []) dX9_second_5 (c_X1_hasLine_la s l (by unfold ab_r at *; omega) (show 0 ≤ (s 107 0) ∧ (s 107 0) ≤ 60 by omega)) lk_X9_124 rfl (Or.inl ⟨1, _, TX1, 12, gw_25 _, rfl⟩) rfl ⟨rfl, rfl, (Nat.le_of_ble_eq_true rfl), (Nat.le_of_ble_eq_true rfl), (Nat.le_of_ble_eq_true rfl), (Nat.le_of_ble_eq_true rfl)⟩ (Nat.le_of_ble_eq_true rfl) (fun r9 h9 p9 => ?_)
  obtain ⟨rfl, rfl⟩ := p9
  show V 8 [some (.inr (some 0)), some (.inl l), some (.inl k), none] [.inl (if 0 ≤ l ∧ l < (s 107 0) then 1 else 0)] (WW s) 0 0
  by_cases e5 : 0 ≤ l ∧ l < (s 107 0)
  · rw [if_pos e5]
    show V 8 [some (.inr (some 0)), some (.inl l), some (.inl k), none] [.inl 1] (WW s) 0 0
    refine rb_if_ne hV (tgt := 15) dX9_second_8 (by decide) (by unfold ab_r at *; omega) (fun _ => ?_) (fun z => absurd z (by decide))
    refine rb_iload_n hV dX9_second_15 rfl rfl ?_
    refine rb_if_lt hV (tgt := 24) dX9_second_16 (by decide) (by unfold ab_r at *; omega) (fun c16 => ?_) (fun c16 => ?_)
    · refine rb_sipush hV dX9_second_24 (by decide) ?_
      refine rb_ret hV (r := some (.inl (-1002))) dX9_second_27 rfl ⟨(Nat.le_of_ble_eq_true rfl), (Nat.le_of_ble_eq_true rfl)⟩ trivial ?_
      refine ⟨congrArg (fun z : Int => some (Sum.inl z)) ?_, rfl⟩
      unfold xsecond
      rw [if_neg (by omega), if_pos (by omega)]
    · refine rb_iload_n hV dX9_second_19 rfl rfl ?_
      refine rb_iconst hV dX9_second_20 ?_
      refine rb_icmp_le hV (tgt := 28) dX9_second_21 (by decide) ⟨(by unfold ab_r at *; omega), (by unfold ab_r at *; omega)⟩ (fun c21 => ?_) (fun c21 => ?_)
      · have hl0 := hv.2.1 l (by omega) (by omega)
        have hl1 : 0 ≤ s 26 l := hl0.1
        have hl2 : s 26 l < s 26 (l + 1) := hl0.2.1
        have hl3 : s 26 (l + 1) ≤ s 103 0 := hl0.2.2.1
        refine rb_aload_n hV dX9_second_28 rfl rfl ?_
        refine rb_get hV (v := .inr (some 25)) dX9_second_29 ⟨RX9, TX9, 8, rfl, (Nat.le_of_ble_eq_true rfl), lf_X9_60⟩ (gw_0 _) rfl ?_
        refine rb_iload_n hV dX9_second_32 rfl rfl ?_
        refine rb_callV hV (rest := []) dX9_second_33 (c_X1_secondLast_la s l hp hr hv hb (show 0 ≤ l ∧ l < (s 107 0) by omega)) lk_X9_127 rfl (Or.inl ⟨1, _, TX1, 12, gw_25 _, rfl⟩) rfl ⟨rfl, rfl, (Nat.le_of_ble_eq_true rfl), (Nat.le_of_ble_eq_true rfl), (Nat.le_of_ble_eq_true rfl), (Nat.le_of_ble_eq_true rfl)⟩ (Nat.le_of_ble_eq_true rfl) (fun r9 h9 p9 => ?_)
        obtain ⟨rfl, rfl⟩ := p9
        show V 36 [some (.inr (some 0)), some (.inl l), some (.inl k), none] [.inl (sec (vX s) (s 19) (s 26) l)] (WW s) 0 0
        have hsq : sec (vX s) (s 19) (s 26) l = -1 ∨ (s 26 l ≤ sec (vX s) (s 19) (s 26) l ∧ sec (vX s) (s 19) (s 26) l < s 103 0) := by
          by_cases hq : sec (vX s) (s 19) (s 26) l = -1
          · exact Or.inl hq
          · have ho := sec_ok hq
            have e0 : vX s 0 0 = s 103 0 := rfl
            exact Or.inr ⟨ho.1, by omega⟩
        refine rb_istore_n hV (L2 := [some (.inr (some 0)), some (.inl l), some (.inl k), some (.inl (sec (vX s) (s 19) (s 26) l))]) dX9_second_36 rfl (Nat.le_of_ble_eq_true rfl) rfl ?_
        refine rb_iload_n hV dX9_second_37 rfl rfl ?_
        refine rb_iconst hV dX9_second_38 ?_
        refine rb_icmp_ne hV (tgt := 46) dX9_second_39 (by decide) ⟨(by unfold ab_r at *; omega), (by unfold ab_r at *; omega)⟩ (fun c39 => ?_) (fun c39 => ?_)
        · refine rb_iload_n hV dX9_second_46 rfl rfl ?_
          refine rb_if_ne hV (tgt := 52) dX9_second_47 (by decide) (by unfold ab_r at *; omega) (fun c47 => ?_) (fun c47 => ?_)
          · refine rb_aload_n hV dX9_second_52 rfl rfl ?_
            refine rb_get hV (v := .inr (some 25)) dX9_second_53 ⟨RX9, TX9, 8, rfl, (Nat.le_of_ble_eq_true rfl), lf_X9_60⟩ (gw_0 _) rfl ?_
            refine rb_iload_n hV dX9_second_56 rfl rfl ?_
            refine rb_callV hV (rest := []) dX9_second_57 (c_X1_demeritsBefore_la s l hp hr hv (show 0 ≤ l ∧ l ≤ (s 107 0) by omega)) lk_X9_221 rfl (Or.inl ⟨1, _, TX1, 12, gw_25 _, rfl⟩) rfl ⟨rfl, rfl, (Nat.le_of_ble_eq_true rfl), (Nat.le_of_ble_eq_true rfl), (Nat.le_of_ble_eq_true rfl), (Nat.le_of_ble_eq_true rfl)⟩ (Nat.le_of_ble_eq_true rfl) (fun r9 h9 p9 => ?_)
            obtain ⟨rfl, rfl⟩ := p9
            show V 60 [some (.inr (some 0)), some (.inl l), some (.inl k), some (.inl (sec (vX s) (s 19) (s 26) l))] [.inl (Sm (ldm (vX s) (s 26)) 0 l)] (WW s) 0 0
            refine rb_aload_n hV dX9_second_60 rfl rfl ?_
            refine rb_get hV (v := .inr (some 18)) dX9_second_61 ⟨RX9, TX9, 8, rfl, (Nat.le_of_ble_eq_true rfl), lf_X9_51⟩ (gw_0 _) rfl ?_
            refine rb_aload_n hV dX9_second_64 rfl rfl ?_
            refine rb_get hV (v := .inr (some 25)) dX9_second_65 ⟨RX9, TX9, 8, rfl, (Nat.le_of_ble_eq_true rfl), lf_X9_60⟩ (gw_0 _) rfl ?_
            refine rb_iload_n hV dX9_second_68 rfl rfl ?_
            refine rb_callV hV (rest := [.inr (some 18), .inl (Sm (ldm (vX s) (s 26)) 0 l)]) dX9_second_69 (c_X1_firstWord_la s l (show 0 ≤ (s 107 0) ∧ (s 107 0) ≤ 60 by omega) (show 0 ≤ l ∧ l < (s 107 0) by omega)) lk_X9_184 rfl (Or.inl ⟨1, _, TX1, 12, gw_25 _, rfl⟩) rfl ⟨rfl, rfl, (Nat.le_of_ble_eq_true rfl), (Nat.le_of_ble_eq_true rfl), (Nat.le_of_ble_eq_true rfl), (Nat.le_of_ble_eq_true rfl)⟩ (Nat.le_of_ble_eq_true rfl) (fun r9 h9 p9 => ?_)
            obtain ⟨rfl, rfl⟩ := p9
            show V 72 [some (.inr (some 0)), some (.inl l), some (.inl k), some (.inl (sec (vX s) (s 19) (s 26) l))] [.inl (s 26 l), .inr (some 18), .inl (Sm (ldm (vX s) (s 26)) 0 l)] (WW s) 0 0
            refine rb_iload_n hV dX9_second_72 rfl rfl ?_
            refine rb_callV hV (rest := [.inl (Sm (ldm (vX s) (s 26)) 0 l)]) dX9_second_73 (c_X0_sumWith s (s 26 l) (sec (vX s) (s 19) (s 26) l) hp hr (show 0 ≤ (s 26 l) ∧ (s 26 l) ≤ (sec (vX s) (s 19) (s 26) l) ∧ (sec (vX s) (s 19) (s 26) l) < (s 103 0) by omega) (show -1 ≤ s 19 (sec (vX s) (s 19) (s 26) l + 1) ∧ s 19 (sec (vX s) (s 19) (s 26) l + 1) ≤ 732000 from hb _ (by omega) (by show sec (vX s) (s 19) (s 26) l + 1 ≤ s 103 0; omega))) lk_X9_224 rfl (Or.inl ⟨0, _, TX0, 4, gw_18 _, rfl⟩) rfl ⟨rfl, rfl, (Nat.le_of_ble_eq_true rfl), (Nat.le_of_ble_eq_true rfl), (Nat.le_of_ble_eq_true rfl), (Nat.le_of_ble_eq_true rfl)⟩ (Nat.le_of_ble_eq_true rfl) (fun r9 h9 p9 => ?_)
            obtain ⟨rfl, rfl⟩ := p9
            show V 76 [some (.inr (some 0)), some (.inl l), some (.inl k), some (.inl (sec (vX s) (s 19) (s 26) l))] [.inl (cd (vX s) (s 19) (s 26 l) (sec (vX s) (s 19) (s 26) l)), .inl (Sm (ldm (vX s) (s 26)) 0 l)] (WW s) 0 0
            refine rb_iadd hV dX9_second_76 ?_
            refine rb_ret hV (r := some (.inl ((Sm (ldm (vX s) (s 26)) 0 l) + (cd (vX s) (s 19) (s 26 l) (sec (vX s) (s 19) (s 26) l))))) dX9_second_77 rfl ⟨(Nat.le_of_ble_eq_true rfl), (Nat.le_of_ble_eq_true rfl)⟩ trivial ?_
            refine ⟨congrArg (fun z : Int => some (Sum.inl z)) ?_, rfl⟩
            unfold xsecond
            rw [if_neg (by omega), if_neg (by omega), if_neg (by omega), if_neg (by omega)]
          · refine rb_iload_n hV dX9_second_50 rfl rfl ?_
            refine rb_ret hV (r := some (.inl (sec (vX s) (s 19) (s 26) l))) dX9_second_51 rfl ⟨(Nat.le_of_ble_eq_true rfl), (Nat.le_of_ble_eq_true rfl)⟩ trivial ?_
            refine ⟨congrArg (fun z : Int => some (Sum.inl z)) ?_, rfl⟩
            unfold xsecond
            rw [if_neg (by omega), if_neg (by omega), if_neg (by omega), if_pos (by omega)]
        · refine rb_sipush hV dX9_second_42 (by decide) ?_
          refine rb_ret hV (r := some (.inl (-1004))) dX9_second_45 rfl ⟨(Nat.le_of_ble_eq_true rfl), (Nat.le_of_ble_eq_true rfl)⟩ trivial ?_
          refine ⟨congrArg (fun z : Int => some (Sum.inl z)) ?_, rfl⟩
          unfold xsecond
          rw [if_neg (by omega), if_neg (by omega), if_pos (by omega)]
      · refine rb_sipush hV dX9_second_24 (by decide) ?_
        refine rb_ret hV (r := some (.inl (-1002))) dX9_second_27 rfl ⟨(Nat.le_of_ble_eq_true rfl), (Nat.le_of_ble_eq_true rfl)⟩ trivial ?_
        refine ⟨congrArg (fun z : Int => some (Sum.inl z)) ?_, rfl⟩
        unfold xsecond
        rw [if_neg (by omega), if_pos (by omega)]
  · rw [if_neg e5]
    show V 8 [some (.inr (some 0)), some (.inl l), some (.inl k), none] [.inl 0] (WW s) 0 0
    refine rb_if_ne hV (tgt := 15) dX9_second_8 (by decide) (by unfold ab_r at *; omega) (fun z => absurd z (by decide)) (fun _ => ?_)
    refine rb_sipush hV dX9_second_11 (by decide) ?_
    refine rb_ret hV (r := some (.inl (-1001))) dX9_second_14 rfl ⟨(Nat.le_of_ble_eq_true rfl), (Nat.le_of_ble_eq_true rfl)⟩ trivial ?_
    exact ⟨congrArg (fun z : Int => some (Sum.inl z)) (if_pos e5).symm, rfl⟩

set_option maxRecDepth 20000 in
theorem c_X9_worst (s : Nat → Int → Int) (k : Int) (hk0 : ab_r k) (hx : XI s) : ab_Mt yX9_worst cX9_worst 3 (some .int) ({ frames := 3, cells := 0, slots := 0, locals := 74 } : Room) false 0 0 [.inr (some 0), .inl k] (WW s) (fun r h2 => ∃ v, r = some (.inl v) ∧ h2 = WW s ∧ WRS (wr (lbd (vX s) (s 26)) (s 107 0)) (s 107 0) k v) := by
  refine ab_mk RX9 false rfl pn_X9_worst (fun z => by cases z) (Nat.le_of_ble_eq_true rfl) (fun V hV => ?_)
  show V 0 [some (.inr (some 0)), some (.inl k), none] [] (WW s) 0 0
  obtain ⟨hp, hr, hbw, hv, hst, hz, hx1, hx2, hx3, hx4⟩ := id hx
  have hn : 0 ≤ s 103 0 ∧ s 103 0 ≤ 60 := hp.1
  have hnl : 0 ≤ s 107 0 ∧ s 107 0 ≤ s 103 0 := hv.1
  have hb := BWp_BS hp hbw
  refine rb_iload_n hV dX9_worst_0 rfl rfl ?_
  refine rb_if_ge hV (tgt := 8) dX9_worst_1 (by decide) (by unfold ab_r at *; omega) (fun c1 => ?_) (fun c1 => ?_)
  · refine rb_iconst hV dX9_worst_8 ?_
    refine rb_istore_n hV (L2 := [some (.inr (some 0)), some (.inl k), some (.inl 0)]) dX9_worst_9 rfl (Nat.le_of_ble_eq_true rfl) rfl ?_
    have h10 : ∀ (n10 : Nat) (l : Int), (0 ≤ l ∧ l ≤ s 107 0) → (∀ j, 0 ≤ j → j < l → ¬ wr (lbd (vX s) (s 26)) (s 107 0) j = k) → ((s 107 0 - l).toNat) < n10 → V 10 [some (.inr (some 0)), some (.inl k), some (.inl l)] [] (WW s) 0 0 := by
      intro n10
      induction n10 with
      | zero => intro l h1 h2 hm; omega
      | succ n10 ih10 =>
        intro l h1 h2 hm
        refine rb_iload_n hV dX9_worst_10 rfl rfl ?_
        refine rb_aload_n hV dX9_worst_11 rfl rfl ?_
        refine rb_get hV (v := .inr (some 25)) dX9_worst_12 ⟨RX9, TX9, 8, rfl, (Nat.le_of_ble_eq_true rfl), lf_X9_60⟩ (gw_0 _) rfl ?_
        refine rb_get hV (v := .inl (s 107 0)) dX9_worst_15 ⟨RX1, TX1, 12, rfl, (Nat.le_of_ble_eq_true rfl), lf_X9_121⟩ (gw_25 _) rfl ?_
        refine rb_icmp_ge hV (tgt := 41) dX9_worst_18 (by decide) ⟨(by unfold ab_r at *; omega), (by unfold ab_r at *; omega)⟩ (fun c18 => ?_) (fun c18 => ?_)
        · refine rb_sipush hV dX9_worst_41 (by decide) ?_
          refine rb_ret hV (r := some (.inl (-1004))) dX9_worst_44 rfl ⟨(Nat.le_of_ble_eq_true rfl), (Nat.le_of_ble_eq_true rfl)⟩ trivial ?_
          exact ⟨_, rfl, rfl, Or.inr ⟨by omega, Or.inr ⟨rfl, fun j q1 q2 => h2 j q1 (by omega)⟩⟩⟩
        · have hwb := wr_b (lbd (vX s) (s 26)) hnl.1 l
          refine rb_aload_n hV dX9_worst_21 rfl rfl ?_
          refine rb_get hV (v := .inr (some 25)) dX9_worst_22 ⟨RX9, TX9, 8, rfl, (Nat.le_of_ble_eq_true rfl), lf_X9_60⟩ (gw_0 _) rfl ?_
          refine rb_iload_n hV dX9_worst_25 rfl rfl ?_
          refine rb_callV hV (rest := []) dX9_worst_26 (c_X1_linesWorseThan_la s l hp hr hv (show 0 ≤ l ∧ l < (s 107 0) by omega)) lk_X9_227 rfl (Or.inl ⟨1, _, TX1, 12, gw_25 _, rfl⟩) rfl ⟨rfl, rfl, (Nat.le_of_ble_eq_true rfl), (Nat.le_of_ble_eq_true rfl), (Nat.le_of_ble_eq_true rfl), (Nat.le_of_ble_eq_true rfl)⟩ (Nat.le_of_ble_eq_true rfl) (fun r9 h9 p9 => ?_)
          obtain ⟨rfl, rfl⟩ := p9
          show V 29 [some (.inr (some 0)), some (.inl k), some (.inl l)] [.inl (wr (lbd (vX s) (s 26)) (s 107 0) l)] (WW s) 0 0
          refine rb_iload_n hV dX9_worst_29 rfl rfl ?_
          refine rb_icmp_ne hV (tgt := 35) dX9_worst_30 (by decide) ⟨(by unfold ab_r at *; omega), (by unfold ab_r at *; omega)⟩ (fun c30 => ?_) (fun c30 => ?_)
          · refine rb_iinc hV (L2 := [some (.inr (some 0)), some (.inl k), some (.inl (l + 1))]) dX9_worst_35 rfl rfl rfl ?_
            refine rb_goto hV (tgt := 10) dX9_worst_38 (by decide) ?_
            refine ih10 (l + 1) ?_ ?_ ?_
            · omega
            · intro j q1 q2
              by_cases hj : j = l
              · rw [hj]
                exact c30
              · exact h2 j q1 (by omega)
            · omega
          · refine rb_iload_n hV dX9_worst_33 rfl rfl ?_
            refine rb_ret hV (r := some (.inl l)) dX9_worst_34 rfl ⟨(Nat.le_of_ble_eq_true rfl), (Nat.le_of_ble_eq_true rfl)⟩ trivial ?_
            exact ⟨_, rfl, rfl, Or.inr ⟨by omega, Or.inl ⟨h1.1, by omega, c30, h2⟩⟩⟩
    refine h10 _ 0 ?_ ?_ (Nat.lt_succ_self _)
    · omega
    · intro j q1 q2; omega
  · refine rb_sipush hV dX9_worst_4 (by decide) ?_
    refine rb_ret hV (r := some (.inl (-1002))) dX9_worst_7 rfl ⟨(Nat.le_of_ble_eq_true rfl), (Nat.le_of_ble_eq_true rfl)⟩ trivial ?_
    exact ⟨_, rfl, rfl, Or.inl ⟨by omega, rfl⟩⟩
