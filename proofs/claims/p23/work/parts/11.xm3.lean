theorem sec_take {c : Int → Int} {a b f le v : Int} (hA : ((am c a (b - a).toNat).1 = -1 ∧ (am c a (b - a).toNat).2 = -1 ∧ ∀ j, a ≤ j → j < a + (b - a).toNat → c j < 0) ∨ (0 ≤ (am c a (b - a).toNat).1 ∧ a ≤ (am c a (b - a).toNat).2 ∧ (am c a (b - a).toNat).2 < a + (b - a).toNat ∧ c (am c a (b - a).toNat).2 = (am c a (b - a).toNat).1)) (hab : a ≤ b) (h0 : 0 ≤ a) (h2 : f = (am c a (b - a).toNat).2) (h3 : (f = -1 → le = 0) ∧ (¬ f = -1 → le = (am c a (b - a).toNat).1)) (esc : c b = v) (hv : 0 ≤ v) (h : f = -1 ∨ v ≤ le) : b = (am c a (b + 1 - a).toNat).2 ∧ ((b = -1 → v = 0) ∧ (¬ b = -1 → v = (am c a (b + 1 - a).toNat).1)) := by
  rw [am_take hab (by omega) (by omega)]
  exact ⟨rfl, fun z => by omega, fun _ => esc.symm⟩
theorem sec_skip {c : Int → Int} {a b f le v : Int} (hA : ((am c a (b - a).toNat).1 = -1 ∧ (am c a (b - a).toNat).2 = -1 ∧ ∀ j, a ≤ j → j < a + (b - a).toNat → c j < 0) ∨ (0 ≤ (am c a (b - a).toNat).1 ∧ a ≤ (am c a (b - a).toNat).2 ∧ (am c a (b - a).toNat).2 < a + (b - a).toNat ∧ c (am c a (b - a).toNat).2 = (am c a (b - a).toNat).1)) (hab : a ≤ b) (h0 : 0 ≤ a) (h2 : f = (am c a (b - a).toNat).2) (h3 : (f = -1 → le = 0) ∧ (¬ f = -1 → le = (am c a (b - a).toNat).1)) (esc : c b = v) (h : v = -1 ∨ (¬ f = -1 ∧ le < v)) : f = (am c a (b + 1 - a).toNat).2 ∧ ((f = -1 → le = 0) ∧ (¬ f = -1 → le = (am c a (b + 1 - a).toNat).1)) := by
  rw [am_skip hab (by omega)]
  exact ⟨h2, h3⟩

set_option maxRecDepth 20000 in
theorem c_X1_endOf_la (s : Nat → Int → Int) (w : Int) (hw : 0 ≤ w ∧ w < 60) : ab_Mt yX1_endOf cX1_endOf 2 (some .int) ({ frames := 1, cells := 0, slots := 0, locals := 21 } : Room) false 0 0 [.inr (some 25), .inl w] (WW s) (fun r h2 => r = some (.inl (s 29 w + s 6 w)) ∧ h2 = WW s) := by
  refine ab_mk RX1 false rfl pn_X1_endOf (fun z => by cases z) (Nat.le_of_ble_eq_true rfl) (fun V hV => ?_)
  show V 0 [some (.inr (some 25)), some (.inl w)] [] (WW s) 0 0
  refine rb_aload_n hV dX1_endOf_0 rfl rfl ?_
  refine rb_get hV (v := .inr (some 29)) dX1_endOf_1 ⟨RX1, TX1, 12, rfl, (Nat.le_of_ble_eq_true rfl), lf_X1_44⟩ (gw_25 _) rfl ?_
  refine rb_iload_n hV dX1_endOf_4 rfl rfl ?_
  refine rb_callS hV (rest := []) dX1_endOf_5 (c_X9_at s 29 _ (s 29) w (gw_29 _) (Nat.le_of_ble_eq_true rfl) (by omega)) lk_X1_61 rfl rfl ⟨rfl, rfl, (Nat.le_of_ble_eq_true rfl), (Nat.le_of_ble_eq_true rfl), (Nat.le_of_ble_eq_true rfl), (Nat.le_of_ble_eq_true rfl)⟩ (Nat.le_of_ble_eq_true rfl) (fun r9 h9 p9 => ?_)
  obtain ⟨rfl, rfl⟩ := p9
  show V 8 [some (.inr (some 25)), some (.inl w)] [.inl (s 29 w)] (WW s) 0 0
  refine rb_aload_n hV dX1_endOf_8 rfl rfl ?_
  refine rb_get hV (v := .inr (some 5)) dX1_endOf_9 ⟨RX1, TX1, 12, rfl, (Nat.le_of_ble_eq_true rfl), lf_X1_9⟩ (gw_25 _) rfl ?_
  refine rb_get hV (v := .inr (some 6)) dX1_endOf_12 ⟨RX4, TX4, 6, rfl, (Nat.le_of_ble_eq_true rfl), lf_X1_65⟩ (gw_5 _) rfl ?_
  refine rb_iload_n hV dX1_endOf_15 rfl rfl ?_
  refine rb_callS hV (rest := [.inl (s 29 w)]) dX1_endOf_16 (c_X9_at s 6 _ (s 6) w (gw_6 _) (Nat.le_of_ble_eq_true rfl) (by omega)) lk_X1_61 rfl rfl ⟨rfl, rfl, (Nat.le_of_ble_eq_true rfl), (Nat.le_of_ble_eq_true rfl), (Nat.le_of_ble_eq_true rfl), (Nat.le_of_ble_eq_true rfl)⟩ (Nat.le_of_ble_eq_true rfl) (fun r9 h9 p9 => ?_)
  obtain ⟨rfl, rfl⟩ := p9
  show V 19 [some (.inr (some 25)), some (.inl w)] [.inl (s 6 w), .inl (s 29 w)] (WW s) 0 0
  refine rb_iadd hV dX1_endOf_19 ?_
  refine rb_ret hV (r := some (.inl ((s 29 w) + (s 6 w)))) dX1_endOf_20 rfl ⟨(Nat.le_of_ble_eq_true rfl), (Nat.le_of_ble_eq_true rfl)⟩ trivial ?_
  exact ⟨rfl, rfl⟩

set_option maxRecDepth 20000 in
theorem c_X1_endOf_tr (s : Nat → Int → Int) (w : Int) (hw : 0 ≤ w ∧ w < 60) : ab_Mt yX1_endOf cX1_endOf 2 (some .int) ({ frames := 1, cells := 0, slots := 0, locals := 21 } : Room) false 0 0 [.inr (some 37), .inl w] (WW s) (fun r h2 => r = some (.inl (s 41 w + s 6 w)) ∧ h2 = WW s) := by
  refine ab_mk RX1 false rfl pn_X1_endOf (fun z => by cases z) (Nat.le_of_ble_eq_true rfl) (fun V hV => ?_)
  show V 0 [some (.inr (some 37)), some (.inl w)] [] (WW s) 0 0
  refine rb_aload_n hV dX1_endOf_0 rfl rfl ?_
  refine rb_get hV (v := .inr (some 41)) dX1_endOf_1 ⟨RX1, TX1, 12, rfl, (Nat.le_of_ble_eq_true rfl), lf_X1_44⟩ (gw_37 _) rfl ?_
  refine rb_iload_n hV dX1_endOf_4 rfl rfl ?_
  refine rb_callS hV (rest := []) dX1_endOf_5 (c_X9_at s 41 _ (s 41) w (gw_41 _) (Nat.le_of_ble_eq_true rfl) (by omega)) lk_X1_61 rfl rfl ⟨rfl, rfl, (Nat.le_of_ble_eq_true rfl), (Nat.le_of_ble_eq_true rfl), (Nat.le_of_ble_eq_true rfl), (Nat.le_of_ble_eq_true rfl)⟩ (Nat.le_of_ble_eq_true rfl) (fun r9 h9 p9 => ?_)
  obtain ⟨rfl, rfl⟩ := p9
  show V 8 [some (.inr (some 37)), some (.inl w)] [.inl (s 41 w)] (WW s) 0 0
  refine rb_aload_n hV dX1_endOf_8 rfl rfl ?_
  refine rb_get hV (v := .inr (some 5)) dX1_endOf_9 ⟨RX1, TX1, 12, rfl, (Nat.le_of_ble_eq_true rfl), lf_X1_9⟩ (gw_37 _) rfl ?_
  refine rb_get hV (v := .inr (some 6)) dX1_endOf_12 ⟨RX4, TX4, 6, rfl, (Nat.le_of_ble_eq_true rfl), lf_X1_65⟩ (gw_5 _) rfl ?_
  refine rb_iload_n hV dX1_endOf_15 rfl rfl ?_
  refine rb_callS hV (rest := [.inl (s 41 w)]) dX1_endOf_16 (c_X9_at s 6 _ (s 6) w (gw_6 _) (Nat.le_of_ble_eq_true rfl) (by omega)) lk_X1_61 rfl rfl ⟨rfl, rfl, (Nat.le_of_ble_eq_true rfl), (Nat.le_of_ble_eq_true rfl), (Nat.le_of_ble_eq_true rfl), (Nat.le_of_ble_eq_true rfl)⟩ (Nat.le_of_ble_eq_true rfl) (fun r9 h9 p9 => ?_)
  obtain ⟨rfl, rfl⟩ := p9
  show V 19 [some (.inr (some 37)), some (.inl w)] [.inl (s 6 w), .inl (s 41 w)] (WW s) 0 0
  refine rb_iadd hV dX1_endOf_19 ?_
  refine rb_ret hV (r := some (.inl ((s 41 w) + (s 6 w)))) dX1_endOf_20 rfl ⟨(Nat.le_of_ble_eq_true rfl), (Nat.le_of_ble_eq_true rfl)⟩ trivial ?_
  exact ⟨rfl, rfl⟩

set_option maxRecDepth 20000 in
theorem c_X1_demeritsBefore_la (s : Nat → Int → Int) (l : Int) (hp : PI (vX s)) (hr : RU s) (hv : LV (vX s) (s 26) (s 107 0)) (hl : 0 ≤ l ∧ l ≤ s 107 0) : ab_Mt yX1_demeritsBefore cX1_demeritsBefore 4 (some .int) ({ frames := 3, cells := 0, slots := 0, locals := 73 } : Room) false 0 0 [.inr (some 25), .inl l] (WW s) (fun r h2 => r = some (.inl (Sm (ldm (vX s) (s 26)) 0 l)) ∧ h2 = WW s) := by
  refine ab_mk RX1 false rfl pn_X1_demeritsBefore (fun z => by cases z) (Nat.le_of_ble_eq_true rfl) (fun V hV => ?_)
  show V 0 [some (.inr (some 25)), some (.inl l), none, none] [] (WW s) 0 0
  have hn : 0 ≤ s 103 0 ∧ s 103 0 ≤ 60 := hp.1
  have hnl : 0 ≤ s 107 0 ∧ s 107 0 ≤ s 103 0 := hv.1
  refine rb_iconst hV dX1_demeritsBefore_0 ?_
  refine rb_istore_n hV (L2 := [some (.inr (some 25)), some (.inl l), some (.inl 0), none]) dX1_demeritsBefore_1 rfl (Nat.le_of_ble_eq_true rfl) rfl ?_
  refine rb_iconst hV dX1_demeritsBefore_2 ?_
  refine rb_istore_n hV (L2 := [some (.inr (some 25)), some (.inl l), some (.inl 0), some (.inl 0)]) dX1_demeritsBefore_3 rfl (Nat.le_of_ble_eq_true rfl) rfl ?_
  have h4 : ∀ (n4 : Nat) (sum : Int) (i : Int), (0 ≤ i ∧ i ≤ l) → (sum = Sm (ldm (vX s) (s 26)) 0 i) → ((l - i).toNat) < n4 → V 4 [some (.inr (some 25)), some (.inl l), some (.inl sum), some (.inl i)] [] (WW s) 0 0 := by
    intro n4
    induction n4 with
    | zero => intro sum i h1 h2 hm; omega
    | succ n4 ih4 =>
      intro sum i h1 h2 hm
      refine rb_iload_n hV dX1_demeritsBefore_4 rfl rfl ?_
      refine rb_iload_n hV dX1_demeritsBefore_5 rfl rfl ?_
      refine rb_icmp_ge hV (tgt := 43) dX1_demeritsBefore_6 (by decide) ⟨(by first | assumption | (unfold ab_r at *; omega)), (by first | assumption | (unfold ab_r at *; omega))⟩ (fun c6 => ?_) (fun c6 => ?_)
      · refine rb_iload_n hV dX1_demeritsBefore_43 rfl rfl ?_
        refine rb_ret hV (r := some (.inl sum)) dX1_demeritsBefore_44 rfl ⟨(Nat.le_of_ble_eq_true rfl), (Nat.le_of_ble_eq_true rfl)⟩ trivial ?_
        have e : i = l := by omega
        exact ⟨congrArg (fun z : Int => some (Sum.inl z)) (h2.trans (by rw [e])), rfl⟩
      · refine rb_iload_n hV dX1_demeritsBefore_9 rfl rfl ?_
        refine rb_aload_n hV dX1_demeritsBefore_10 rfl rfl ?_
        refine rb_get hV (v := .inl (s 107 0)) dX1_demeritsBefore_11 ⟨RX1, TX1, 12, rfl, (Nat.le_of_ble_eq_true rfl), lf_X1_27⟩ (gw_25 _) rfl ?_
        refine rb_icmp_ge hV (tgt := 43) dX1_demeritsBefore_14 (by decide) ⟨(by first | assumption | (unfold ab_r at *; omega)), (by first | assumption | (unfold ab_r at *; omega))⟩ (fun c14 => absurd c14 (by omega)) (fun c14 => ?_)
        have hli := hv.2.1 i (by omega) (by omega)
        have hli2 : s 26 (i + 1) ≤ s 103 0 := hli.2.2.1
        refine rb_iload_n hV dX1_demeritsBefore_17 rfl rfl ?_
        refine rb_aload_n hV dX1_demeritsBefore_18 rfl rfl ?_
        refine rb_get hV (v := .inr (some 11)) dX1_demeritsBefore_19 ⟨RX1, TX1, 12, rfl, (Nat.le_of_ble_eq_true rfl), lf_X1_19⟩ (gw_25 _) rfl ?_
        refine rb_aload_n hV dX1_demeritsBefore_22 rfl rfl ?_
        refine rb_iload_n hV dX1_demeritsBefore_23 rfl rfl ?_
        refine rb_callV hV (rest := [.inr (some 11), .inl sum]) dX1_demeritsBefore_24 (c_X1_firstWord_la s i (show 0 ≤ (s 107 0) ∧ (s 107 0) ≤ 60 by omega) (show 0 ≤ i ∧ i < (s 107 0) by omega)) lk_X1_70 rfl (Or.inl ⟨1, _, TX1, 12, gw_25 _, rfl⟩) rfl ⟨rfl, rfl, (Nat.le_of_ble_eq_true rfl), (Nat.le_of_ble_eq_true rfl), (Nat.le_of_ble_eq_true rfl), (Nat.le_of_ble_eq_true rfl)⟩ (Nat.le_of_ble_eq_true rfl) (fun r9 h9 p9 => ?_)
        obtain ⟨rfl, rfl⟩ := p9
        show V 27 [some (.inr (some 25)), some (.inl l), some (.inl sum), some (.inl i)] [.inl (s 26 i), .inr (some 11), .inl sum] (WW s) 0 0
        refine rb_aload_n hV dX1_demeritsBefore_27 rfl rfl ?_
        refine rb_iload_n hV dX1_demeritsBefore_28 rfl rfl ?_
        refine rb_callV hV (rest := [.inl (s 26 i), .inr (some 11), .inl sum]) dX1_demeritsBefore_29 (c_X1_lastWord_la s i (show 0 ≤ (s 107 0) ∧ (s 107 0) ≤ 60 by omega) (show 0 ≤ i ∧ i < (s 107 0) by omega)) lk_X1_74 rfl (Or.inl ⟨1, _, TX1, 12, gw_25 _, rfl⟩) rfl ⟨rfl, rfl, (Nat.le_of_ble_eq_true rfl), (Nat.le_of_ble_eq_true rfl), (Nat.le_of_ble_eq_true rfl), (Nat.le_of_ble_eq_true rfl)⟩ (Nat.le_of_ble_eq_true rfl) (fun r9 h9 p9 => ?_)
        obtain ⟨rfl, rfl⟩ := p9
        show V 32 [some (.inr (some 25)), some (.inl l), some (.inl sum), some (.inl i)] [.inl ((s 26 (i + 1)) - 1), .inl (s 26 i), .inr (some 11), .inl sum] (WW s) 0 0
        refine rb_callV hV (rest := [.inl sum]) dX1_demeritsBefore_32 (c_X2_demerits s (s 26 i) ((s 26 (i + 1)) - 1) hp hr (show 0 ≤ (s 26 i) ∧ (s 26 i) ≤ ((s 26 (i + 1)) - 1) ∧ ((s 26 (i + 1)) - 1) < (s 103 0) by omega)) lk_X1_77 rfl (Or.inl ⟨2, _, TX2, 8, gw_11 _, rfl⟩) rfl ⟨rfl, rfl, (Nat.le_of_ble_eq_true rfl), (Nat.le_of_ble_eq_true rfl), (Nat.le_of_ble_eq_true rfl), (Nat.le_of_ble_eq_true rfl)⟩ (Nat.le_of_ble_eq_true rfl) (fun r9 h9 p9 => ?_)
        obtain ⟨rfl, rfl⟩ := p9
        show V 35 [some (.inr (some 25)), some (.inl l), some (.inl sum), some (.inl i)] [.inl (xd (vX s) (s 26 i) ((s 26 (i + 1)) - 1)), .inl sum] (WW s) 0 0
        refine rb_iadd hV dX1_demeritsBefore_35 ?_
        refine rb_istore_n hV (L2 := [some (.inr (some 25)), some (.inl l), some (.inl (sum + (xd (vX s) (s 26 i) ((s 26 (i + 1)) - 1)))), some (.inl i)]) dX1_demeritsBefore_36 rfl (Nat.le_of_ble_eq_true rfl) rfl ?_
        refine rb_iinc hV (L2 := [some (.inr (some 25)), some (.inl l), some (.inl (sum + (xd (vX s) (s 26 i) ((s 26 (i + 1)) - 1)))), some (.inl (i + 1))]) dX1_demeritsBefore_37 rfl rfl rfl ?_
        refine rb_goto hV (tgt := 4) dX1_demeritsBefore_40 (by decide) ?_
        refine ih4 (sum + (xd (vX s) (s 26 i) ((s 26 (i + 1)) - 1))) (i + 1) ?_ ?_ ?_
        · omega
        · rw [h2, Sm_succ _ h1.1, ps_xd hli.2.2.2]; rfl
        · omega
  refine h4 _ 0 0 ?_ ?_ (Nat.lt_succ_self _)
  · omega
  · rw [Sm_self]

set_option maxRecDepth 20000 in
theorem c_X1_linesWorseThan_la (s : Nat → Int → Int) (l : Int) (hp : PI (vX s)) (hr : RU s) (hv : LV (vX s) (s 26) (s 107 0)) (hl : 0 ≤ l ∧ l < s 107 0) : ab_Mt yX1_linesWorseThan cX1_linesWorseThan 6 (some .int) ({ frames := 2, cells := 0, slots := 0, locals := 49 } : Room) false 0 0 [.inr (some 25), .inl l] (WW s) (fun r h2 => r = some (.inl (wr (lbd (vX s) (s 26)) (s 107 0) l)) ∧ h2 = WW s) := by
  refine ab_mk RX1 false rfl pn_X1_linesWorseThan (fun z => by cases z) (Nat.le_of_ble_eq_true rfl) (fun V hV => ?_)
  show V 0 [some (.inr (some 25)), some (.inl l), none, none, none, none] [] (WW s) 0 0
  have hn : 0 ≤ s 103 0 ∧ s 103 0 ≤ 60 := hp.1
  have hnl : 0 ≤ s 107 0 ∧ s 107 0 ≤ s 103 0 := hv.1
  have hl0 := hv.2.1 l (by omega) (by omega)
  have hl02 : s 26 (l + 1) ≤ s 103 0 := hl0.2.2.1
  have eli0 : xb (vX s) (s 26 l) (s 26 (l + 1) - 1) = lbd (vX s) (s 26) l := ps_xb hl0.2.2.2
  have hlb0 := lbd_b hp hv (i := l) (by omega) (by omega)
  refine rb_aload_n hV dX1_linesWorseThan_0 rfl rfl ?_
  refine rb_get hV (v := .inr (some 11)) dX1_linesWorseThan_1 ⟨RX1, TX1, 12, rfl, (Nat.le_of_ble_eq_true rfl), lf_X1_19⟩ (gw_25 _) rfl ?_
  refine rb_aload_n hV dX1_linesWorseThan_4 rfl rfl ?_
  refine rb_iload_n hV dX1_linesWorseThan_5 rfl rfl ?_
  refine rb_callV hV (rest := [.inr (some 11)]) dX1_linesWorseThan_6 (c_X1_firstWord_la s l (show 0 ≤ (s 107 0) ∧ (s 107 0) ≤ 60 by omega) (show 0 ≤ l ∧ l < (s 107 0) by omega)) lk_X1_70 rfl (Or.inl ⟨1, _, TX1, 12, gw_25 _, rfl⟩) rfl ⟨rfl, rfl, (Nat.le_of_ble_eq_true rfl), (Nat.le_of_ble_eq_true rfl), (Nat.le_of_ble_eq_true rfl), (Nat.le_of_ble_eq_true rfl)⟩ (Nat.le_of_ble_eq_true rfl) (fun r9 h9 p9 => ?_)
  obtain ⟨rfl, rfl⟩ := p9
  show V 9 [some (.inr (some 25)), some (.inl l), none, none, none, none] [.inl (s 26 l), .inr (some 11)] (WW s) 0 0
  refine rb_aload_n hV dX1_linesWorseThan_9 rfl rfl ?_
  refine rb_iload_n hV dX1_linesWorseThan_10 rfl rfl ?_
  refine rb_callV hV (rest := [.inl (s 26 l), .inr (some 11)]) dX1_linesWorseThan_11 (c_X1_lastWord_la s l (show 0 ≤ (s 107 0) ∧ (s 107 0) ≤ 60 by omega) (show 0 ≤ l ∧ l < (s 107 0) by omega)) lk_X1_74 rfl (Or.inl ⟨1, _, TX1, 12, gw_25 _, rfl⟩) rfl ⟨rfl, rfl, (Nat.le_of_ble_eq_true rfl), (Nat.le_of_ble_eq_true rfl), (Nat.le_of_ble_eq_true rfl), (Nat.le_of_ble_eq_true rfl)⟩ (Nat.le_of_ble_eq_true rfl) (fun r9 h9 p9 => ?_)
  obtain ⟨rfl, rfl⟩ := p9
  show V 14 [some (.inr (some 25)), some (.inl l), none, none, none, none] [.inl ((s 26 (l + 1)) - 1), .inl (s 26 l), .inr (some 11)] (WW s) 0 0
  refine rb_callV hV (rest := []) dX1_linesWorseThan_14 (c_X2_badness s (s 26 l) ((s 26 (l + 1)) - 1) hp hr (show 0 ≤ (s 26 l) ∧ (s 26 l) ≤ ((s 26 (l + 1)) - 1) ∧ ((s 26 (l + 1)) - 1) < (s 103 0) by omega)) lk_X1_82 rfl (Or.inl ⟨2, _, TX2, 8, gw_11 _, rfl⟩) rfl ⟨rfl, rfl, (Nat.le_of_ble_eq_true rfl), (Nat.le_of_ble_eq_true rfl), (Nat.le_of_ble_eq_true rfl), (Nat.le_of_ble_eq_true rfl)⟩ (Nat.le_of_ble_eq_true rfl) (fun r9 h9 p9 => ?_)
  obtain ⟨rfl, rfl⟩ := p9
  show V 17 [some (.inr (some 25)), some (.inl l), none, none, none, none] [.inl (xb (vX s) (s 26 l) ((s 26 (l + 1)) - 1))] (WW s) 0 0
  refine rb_istore_n hV (L2 := [some (.inr (some 25)), some (.inl l), some (.inl (xb (vX s) (s 26 l) ((s 26 (l + 1)) - 1))), none, none, none]) dX1_linesWorseThan_17 rfl (Nat.le_of_ble_eq_true rfl) rfl ?_
  refine rb_iconst hV dX1_linesWorseThan_18 ?_
  refine rb_istore_n hV (L2 := [some (.inr (some 25)), some (.inl l), some (.inl (xb (vX s) (s 26 l) ((s 26 (l + 1)) - 1))), some (.inl 0), none, none]) dX1_linesWorseThan_19 rfl (Nat.le_of_ble_eq_true rfl) rfl ?_
  refine rb_iconst hV dX1_linesWorseThan_20 ?_
  refine rb_istore hV (L2 := [some (.inr (some 25)), some (.inl l), some (.inl (xb (vX s) (s 26 l) ((s 26 (l + 1)) - 1))), some (.inl 0), some (.inl 0), none]) dX1_linesWorseThan_21 (Nat.le_of_ble_eq_true rfl) rfl ?_
  have h23 : ∀ (n23 : Nat) (n : Int) (i : Int), (0 ≤ i ∧ i ≤ s 107 0) → (n = wr (lbd (vX s) (s 26)) i l) → ((s 107 0 - i).toNat) < n23 → V 23 [some (.inr (some 25)), some (.inl l), some (.inl (xb (vX s) (s 26 l) ((s 26 (l + 1)) - 1))), some (.inl n), some (.inl i), none] [] (WW s) 0 0 := by
    intro n23
    induction n23 with
    | zero => intro n i h1 h2 hm; omega
    | succ n23 ih23 =>
      intro n i h1 h2 hm
      refine rb_iload hV dX1_linesWorseThan_23 rfl ?_
      refine rb_aload_n hV dX1_linesWorseThan_25 rfl rfl ?_
      refine rb_get hV (v := .inl (s 107 0)) dX1_linesWorseThan_26 ⟨RX1, TX1, 12, rfl, (Nat.le_of_ble_eq_true rfl), lf_X1_27⟩ (gw_25 _) rfl ?_
      refine rb_icmp_ge hV (tgt := 80) dX1_linesWorseThan_29 (by decide) ⟨(by first | assumption | (unfold ab_r at *; omega)), (by first | assumption | (unfold ab_r at *; omega))⟩ (fun c29 => ?_) (fun c29 => ?_)
      · refine rb_iload_n hV dX1_linesWorseThan_80 rfl rfl ?_
        refine rb_ret hV (r := some (.inl n)) dX1_linesWorseThan_81 rfl ⟨(Nat.le_of_ble_eq_true rfl), (Nat.le_of_ble_eq_true rfl)⟩ trivial ?_
        have e : i = s 107 0 := by omega
        exact ⟨congrArg (fun z : Int => some (Sum.inl z)) (h2.trans (by rw [e])), rfl⟩
      · have hli := hv.2.1 i (by omega) (by omega)
        have hli2 : s 26 (i + 1) ≤ s 103 0 := hli.2.2.1
        have eli : xb (vX s) (s 26 i) (s 26 (i + 1) - 1) = lbd (vX s) (s 26) i := ps_xb hli.2.2.2
        have hlb := lbd_b hp hv (i := i) (by omega) (by omega)
        refine rb_aload_n hV dX1_linesWorseThan_32 rfl rfl ?_
        refine rb_get hV (v := .inr (some 11)) dX1_linesWorseThan_33 ⟨RX1, TX1, 12, rfl, (Nat.le_of_ble_eq_true rfl), lf_X1_19⟩ (gw_25 _) rfl ?_
        refine rb_aload_n hV dX1_linesWorseThan_36 rfl rfl ?_
        refine rb_iload hV dX1_linesWorseThan_37 rfl ?_
        refine rb_callV hV (rest := [.inr (some 11)]) dX1_linesWorseThan_39 (c_X1_firstWord_la s i (show 0 ≤ (s 107 0) ∧ (s 107 0) ≤ 60 by omega) (show 0 ≤ i ∧ i < (s 107 0) by omega)) lk_X1_70 rfl (Or.inl ⟨1, _, TX1, 12, gw_25 _, rfl⟩) rfl ⟨rfl, rfl, (Nat.le_of_ble_eq_true rfl), (Nat.le_of_ble_eq_true rfl), (Nat.le_of_ble_eq_true rfl), (Nat.le_of_ble_eq_true rfl)⟩ (Nat.le_of_ble_eq_true rfl) (fun r9 h9 p9 => ?_)
        obtain ⟨rfl, rfl⟩ := p9
        show V 42 [some (.inr (some 25)), some (.inl l), some (.inl (xb (vX s) (s 26 l) ((s 26 (l + 1)) - 1))), some (.inl n), some (.inl i), none] [.inl (s 26 i), .inr (some 11)] (WW s) 0 0
        refine rb_aload_n hV dX1_linesWorseThan_42 rfl rfl ?_
        refine rb_iload hV dX1_linesWorseThan_43 rfl ?_
        refine rb_callV hV (rest := [.inl (s 26 i), .inr (some 11)]) dX1_linesWorseThan_45 (c_X1_lastWord_la s i (show 0 ≤ (s 107 0) ∧ (s 107 0) ≤ 60 by omega) (show 0 ≤ i ∧ i < (s 107 0) by omega)) lk_X1_74 rfl (Or.inl ⟨1, _, TX1, 12, gw_25 _, rfl⟩) rfl ⟨rfl, rfl, (Nat.le_of_ble_eq_true rfl), (Nat.le_of_ble_eq_true rfl), (Nat.le_of_ble_eq_true rfl), (Nat.le_of_ble_eq_true rfl)⟩ (Nat.le_of_ble_eq_true rfl) (fun r9 h9 p9 => ?_)
        obtain ⟨rfl, rfl⟩ := p9
        show V 48 [some (.inr (some 25)), some (.inl l), some (.inl (xb (vX s) (s 26 l) ((s 26 (l + 1)) - 1))), some (.inl n), some (.inl i), none] [.inl ((s 26 (i + 1)) - 1), .inl (s 26 i), .inr (some 11)] (WW s) 0 0
        refine rb_callV hV (rest := []) dX1_linesWorseThan_48 (c_X2_badness s (s 26 i) ((s 26 (i + 1)) - 1) hp hr (show 0 ≤ (s 26 i) ∧ (s 26 i) ≤ ((s 26 (i + 1)) - 1) ∧ ((s 26 (i + 1)) - 1) < (s 103 0) by omega)) lk_X1_82 rfl (Or.inl ⟨2, _, TX2, 8, gw_11 _, rfl⟩) rfl ⟨rfl, rfl, (Nat.le_of_ble_eq_true rfl), (Nat.le_of_ble_eq_true rfl), (Nat.le_of_ble_eq_true rfl), (Nat.le_of_ble_eq_true rfl)⟩ (Nat.le_of_ble_eq_true rfl) (fun r9 h9 p9 => ?_)
        obtain ⟨rfl, rfl⟩ := p9
        show V 51 [some (.inr (some 25)), some (.inl l), some (.inl (xb (vX s) (s 26 l) ((s 26 (l + 1)) - 1))), some (.inl n), some (.inl i), none] [.inl (xb (vX s) (s 26 i) ((s 26 (i + 1)) - 1))] (WW s) 0 0
        refine rb_istore hV (L2 := [some (.inr (some 25)), some (.inl l), some (.inl (xb (vX s) (s 26 l) ((s 26 (l + 1)) - 1))), some (.inl n), some (.inl i), some (.inl (xb (vX s) (s 26 i) ((s 26 (i + 1)) - 1)))]) dX1_linesWorseThan_51 (Nat.le_of_ble_eq_true rfl) rfl ?_
        refine rb_iload hV dX1_linesWorseThan_53 rfl ?_
        refine rb_iload_n hV dX1_linesWorseThan_55 rfl rfl ?_
        refine rb_icmp_gt hV (tgt := 71) dX1_linesWorseThan_56 (by decide) ⟨(by first | assumption | (unfold ab_r at *; omega)), (by first | assumption | (unfold ab_r at *; omega))⟩ (fun c56 => ?_) (fun c56 => ?_)
        · refine rb_iinc hV (L2 := [some (.inr (some 25)), some (.inl l), some (.inl (xb (vX s) (s 26 l) ((s 26 (l + 1)) - 1))), some (.inl (n + 1)), some (.inl i), some (.inl (xb (vX s) (s 26 i) ((s 26 (i + 1)) - 1)))]) dX1_linesWorseThan_71 rfl rfl rfl ?_
          refine rb_iinc hV (L2 := [some (.inr (some 25)), some (.inl l), some (.inl (xb (vX s) (s 26 l) ((s 26 (l + 1)) - 1))), some (.inl (n + 1)), some (.inl (i + 1)), some (.inl (xb (vX s) (s 26 i) ((s 26 (i + 1)) - 1)))]) dX1_linesWorseThan_74 rfl rfl rfl ?_
          refine rb_goto hV (tgt := 23) dX1_linesWorseThan_77 (by decide) ?_
          refine rb_weak hV (L2 := [some (.inr (some 25)), some (.inl l), some (.inl (xb (vX s) (s 26 l) ((s 26 (l + 1)) - 1))), some (.inl (n + 1)), some (.inl (i + 1)), none]) ⟨rfl, ⟨rfl, ⟨rfl, ⟨rfl, ⟨rfl, trivial⟩⟩⟩⟩⟩ ?_
          refine ih23 (n + 1) (i + 1) ?_ ?_ ?_
          · omega
          · rw [h2]; unfold wr; rw [Sm_succ _ h1.1, if_pos (by rw [eli, eli0] at *; omega)]
          · omega
        · refine rb_iload hV dX1_linesWorseThan_59 rfl ?_
          refine rb_iload_n hV dX1_linesWorseThan_61 rfl rfl ?_
          refine rb_icmp_ne hV (tgt := 74) dX1_linesWorseThan_62 (by decide) ⟨(by first | assumption | (unfold ab_r at *; omega)), (by first | assumption | (unfold ab_r at *; omega))⟩ (fun c62 => ?_) (fun c62 => ?_)
          · refine rb_iinc hV (L2 := [some (.inr (some 25)), some (.inl l), some (.inl (xb (vX s) (s 26 l) ((s 26 (l + 1)) - 1))), some (.inl n), some (.inl (i + 1)), some (.inl (xb (vX s) (s 26 i) ((s 26 (i + 1)) - 1)))]) dX1_linesWorseThan_74 rfl rfl rfl ?_
            refine rb_goto hV (tgt := 23) dX1_linesWorseThan_77 (by decide) ?_
            refine rb_weak hV (L2 := [some (.inr (some 25)), some (.inl l), some (.inl (xb (vX s) (s 26 l) ((s 26 (l + 1)) - 1))), some (.inl n), some (.inl (i + 1)), none]) ⟨rfl, ⟨rfl, ⟨rfl, ⟨rfl, ⟨rfl, trivial⟩⟩⟩⟩⟩ ?_
            refine ih23 n (i + 1) ?_ ?_ ?_
            · omega
            · rw [h2]; unfold wr; rw [Sm_succ _ h1.1, if_neg (by rw [eli, eli0] at *; omega)]; omega
            · omega
          · refine rb_iload hV dX1_linesWorseThan_65 rfl ?_
            refine rb_iload_n hV dX1_linesWorseThan_67 rfl rfl ?_
            refine rb_icmp_ge hV (tgt := 74) dX1_linesWorseThan_68 (by decide) ⟨(by first | assumption | (unfold ab_r at *; omega)), (by first | assumption | (unfold ab_r at *; omega))⟩ (fun c68 => ?_) (fun c68 => ?_)
            · refine rb_iinc hV (L2 := [some (.inr (some 25)), some (.inl l), some (.inl (xb (vX s) (s 26 l) ((s 26 (l + 1)) - 1))), some (.inl n), some (.inl (i + 1)), some (.inl (xb (vX s) (s 26 i) ((s 26 (i + 1)) - 1)))]) dX1_linesWorseThan_74 rfl rfl rfl ?_
              refine rb_goto hV (tgt := 23) dX1_linesWorseThan_77 (by decide) ?_
              refine rb_weak hV (L2 := [some (.inr (some 25)), some (.inl l), some (.inl (xb (vX s) (s 26 l) ((s 26 (l + 1)) - 1))), some (.inl n), some (.inl (i + 1)), none]) ⟨rfl, ⟨rfl, ⟨rfl, ⟨rfl, ⟨rfl, trivial⟩⟩⟩⟩⟩ ?_
              refine ih23 n (i + 1) ?_ ?_ ?_
              · omega
              · rw [h2]; unfold wr; rw [Sm_succ _ h1.1, if_neg (by rw [eli, eli0] at *; omega)]; omega
              · omega
            · refine rb_iinc hV (L2 := [some (.inr (some 25)), some (.inl l), some (.inl (xb (vX s) (s 26 l) ((s 26 (l + 1)) - 1))), some (.inl (n + 1)), some (.inl i), some (.inl (xb (vX s) (s 26 i) ((s 26 (i + 1)) - 1)))]) dX1_linesWorseThan_71 rfl rfl rfl ?_
              refine rb_iinc hV (L2 := [some (.inr (some 25)), some (.inl l), some (.inl (xb (vX s) (s 26 l) ((s 26 (l + 1)) - 1))), some (.inl (n + 1)), some (.inl (i + 1)), some (.inl (xb (vX s) (s 26 i) ((s 26 (i + 1)) - 1)))]) dX1_linesWorseThan_74 rfl rfl rfl ?_
              refine rb_goto hV (tgt := 23) dX1_linesWorseThan_77 (by decide) ?_
              refine rb_weak hV (L2 := [some (.inr (some 25)), some (.inl l), some (.inl (xb (vX s) (s 26 l) ((s 26 (l + 1)) - 1))), some (.inl (n + 1)), some (.inl (i + 1)), none]) ⟨rfl, ⟨rfl, ⟨rfl, ⟨rfl, ⟨rfl, trivial⟩⟩⟩⟩⟩ ?_
              refine ih23 (n + 1) (i + 1) ?_ ?_ ?_
              · omega
              · rw [h2]; unfold wr; rw [Sm_succ _ h1.1, if_pos (by rw [eli, eli0] at *; omega)]
              · omega
  refine h23 _ 0 0 ?_ ?_ (Nat.lt_succ_self _)
  · omega
  · unfold wr; rw [Sm_self]

set_option maxRecDepth 20000 in
theorem c_X1_secondLast_la (s : Nat → Int → Int) (l : Int) (hp : PI (vX s)) (hr : RU s) (hv : LV (vX s) (s 26) (s 107 0)) (hb : BS (vX s) (s 19)) (hl : 0 ≤ l ∧ l < s 107 0) : ab_Mt yX1_secondLast cX1_secondLast 8 (some .int) ({ frames := 4, cells := 0, slots := 0, locals := 97 } : Room) false 0 0 [.inr (some 25), .inl l] (WW s) (fun r h2 => r = some (.inl (sec (vX s) (s 19) (s 26) l)) ∧ h2 = WW s) := by
  refine ab_mk RX1 false rfl pn_X1_secondLast (fun z => by cases z) (Nat.le_of_ble_eq_true rfl) (fun V hV => ?_)
  show V 0 [some (.inr (some 25)), some (.inl l), none, none, none, none, none, none] [] (WW s) 0 0
  have hn : 0 ≤ s 103 0 ∧ s 103 0 ≤ 60 := hp.1
  have hnl : 0 ≤ s 107 0 ∧ s 107 0 ≤ s 103 0 := hv.1
  have hl0 := hv.2.1 l (by omega) (by omega)
  have hl02 : s 26 (l + 1) ≤ s 103 0 := hl0.2.2.1
  have hl03 := hl0.2.1
  refine rb_aload_n hV dX1_secondLast_0 rfl rfl ?_
  refine rb_iload_n hV dX1_secondLast_1 rfl rfl ?_
  refine rb_callV hV (rest := []) dX1_secondLast_2 (c_X1_hasLine_la s l (by first | assumption | (unfold ab_r at *; omega)) (show 0 ≤ (s 107 0) ∧ (s 107 0) ≤ 60 by omega)) lk_X1_57 rfl (Or.inl ⟨1, _, TX1, 12, gw_25 _, rfl⟩) rfl ⟨rfl, rfl, (Nat.le_of_ble_eq_true rfl), (Nat.le_of_ble_eq_true rfl), (Nat.le_of_ble_eq_true rfl), (Nat.le_of_ble_eq_true rfl)⟩ (Nat.le_of_ble_eq_true rfl) (fun r9 h9 p9 => ?_)
  obtain ⟨rfl, rfl⟩ := p9
  show V 5 [some (.inr (some 25)), some (.inl l), none, none, none, none, none, none] [.inl (if 0 ≤ l ∧ l < (s 107 0) then 1 else 0)] (WW s) 0 0
  rw [if_pos (show 0 ≤ l ∧ l < (s 107 0) by omega)]
  show V 5 [some (.inr (some 25)), some (.inl l), none, none, none, none, none, none] [.inl 1] (WW s) 0 0
  refine rb_if_ne hV (tgt := 10) dX1_secondLast_5 (by decide) (by first | assumption | (unfold ab_r at *; omega)) (fun _ => ?_) (fun z => absurd z (by decide))
  refine rb_aload_n hV dX1_secondLast_10 rfl rfl ?_
  refine rb_iload_n hV dX1_secondLast_11 rfl rfl ?_
  refine rb_callV hV (rest := []) dX1_secondLast_12 (c_X1_firstWord_la s l (show 0 ≤ (s 107 0) ∧ (s 107 0) ≤ 60 by omega) (show 0 ≤ l ∧ l < (s 107 0) by omega)) lk_X1_70 rfl (Or.inl ⟨1, _, TX1, 12, gw_25 _, rfl⟩) rfl ⟨rfl, rfl, (Nat.le_of_ble_eq_true rfl), (Nat.le_of_ble_eq_true rfl), (Nat.le_of_ble_eq_true rfl), (Nat.le_of_ble_eq_true rfl)⟩ (Nat.le_of_ble_eq_true rfl) (fun r9 h9 p9 => ?_)
  obtain ⟨rfl, rfl⟩ := p9
  show V 15 [some (.inr (some 25)), some (.inl l), none, none, none, none, none, none] [.inl (s 26 l)] (WW s) 0 0
  refine rb_istore_n hV (L2 := [some (.inr (some 25)), some (.inl l), some (.inl (s 26 l)), none, none, none, none, none]) dX1_secondLast_15 rfl (Nat.le_of_ble_eq_true rfl) rfl ?_
  refine rb_aload_n hV dX1_secondLast_16 rfl rfl ?_
  refine rb_iload_n hV dX1_secondLast_17 rfl rfl ?_
  refine rb_callV hV (rest := []) dX1_secondLast_18 (c_X1_lastWord_la s l (show 0 ≤ (s 107 0) ∧ (s 107 0) ≤ 60 by omega) (show 0 ≤ l ∧ l < (s 107 0) by omega)) lk_X1_74 rfl (Or.inl ⟨1, _, TX1, 12, gw_25 _, rfl⟩) rfl ⟨rfl, rfl, (Nat.le_of_ble_eq_true rfl), (Nat.le_of_ble_eq_true rfl), (Nat.le_of_ble_eq_true rfl), (Nat.le_of_ble_eq_true rfl)⟩ (Nat.le_of_ble_eq_true rfl) (fun r9 h9 p9 => ?_)
  obtain ⟨rfl, rfl⟩ := p9
  show V 21 [some (.inr (some 25)), some (.inl l), some (.inl (s 26 l)), none, none, none, none, none] [.inl ((s 26 (l + 1)) - 1)] (WW s) 0 0
  refine rb_istore_n hV (L2 := [some (.inr (some 25)), some (.inl l), some (.inl (s 26 l)), some (.inl ((s 26 (l + 1)) - 1)), none, none, none, none]) dX1_secondLast_21 rfl (Nat.le_of_ble_eq_true rfl) rfl ?_
  refine rb_iconst hV dX1_secondLast_22 ?_
  refine rb_istore hV (L2 := [some (.inr (some 25)), some (.inl l), some (.inl (s 26 l)), some (.inl ((s 26 (l + 1)) - 1)), some (.inl (-1)), none, none, none]) dX1_secondLast_23 (Nat.le_of_ble_eq_true rfl) rfl ?_
  refine rb_iconst hV dX1_secondLast_25 ?_
  refine rb_istore hV (L2 := [some (.inr (some 25)), some (.inl l), some (.inl (s 26 l)), some (.inl ((s 26 (l + 1)) - 1)), some (.inl (-1)), some (.inl 0), none, none]) dX1_secondLast_26 (Nat.le_of_ble_eq_true rfl) rfl ?_
  refine rb_iload_n hV dX1_secondLast_28 rfl rfl ?_
  refine rb_istore hV (L2 := [some (.inr (some 25)), some (.inl l), some (.inl (s 26 l)), some (.inl ((s 26 (l + 1)) - 1)), some (.inl (-1)), some (.inl 0), some (.inl (s 26 l)), none]) dX1_secondLast_29 (Nat.le_of_ble_eq_true rfl) rfl ?_
  have h31 : ∀ (n31 : Nat) (f : Int) (le : Int) (b : Int), (s 26 l ≤ b ∧ b ≤ s 103 0) → (f = (am (sc (vX s) (s 19) (s 26) l) (s 26 l) (b - s 26 l).toNat).2) → ((f = -1 → le = 0) ∧ (¬ f = -1 → le = (am (sc (vX s) (s 19) (s 26) l) (s 26 l) (b - s 26 l).toNat).1)) → ((s 103 0 - b).toNat) < n31 → V 31 [some (.inr (some 25)), some (.inl l), some (.inl (s 26 l)), some (.inl ((s 26 (l + 1)) - 1)), some (.inl f), some (.inl le), some (.inl b), none] [] (WW s) 0 0 := by
    intro n31
    induction n31 with
    | zero => intro f le b h1 h2 h3 hm; omega
    | succ n31 ih31 =>
      intro f le b h1 h2 h3 hm
      refine rb_iload hV dX1_secondLast_31 rfl ?_
      refine rb_aload_n hV dX1_secondLast_33 rfl rfl ?_
      refine rb_get hV (v := .inr (some 5)) dX1_secondLast_34 ⟨RX1, TX1, 12, rfl, (Nat.le_of_ble_eq_true rfl), lf_X1_9⟩ (gw_25 _) rfl ?_
      refine rb_get hV (v := .inl (s 103 0)) dX1_secondLast_37 ⟨RX4, TX4, 6, rfl, (Nat.le_of_ble_eq_true rfl), lf_X1_85⟩ (gw_5 _) rfl ?_
      refine rb_icmp_ge hV (tgt := 98) dX1_secondLast_40 (by decide) ⟨(by first | assumption | (unfold ab_r at *; omega)), (by first | assumption | (unfold ab_r at *; omega))⟩ (fun c40 => ?_) (fun c40 => ?_)
      · refine rb_iload hV dX1_secondLast_98 rfl ?_
        refine rb_ret hV (r := some (.inl f)) dX1_secondLast_100 rfl ⟨(Nat.le_of_ble_eq_true rfl), (Nat.le_of_ble_eq_true rfl)⟩ trivial ?_
        have e : b = s 103 0 := by omega
        exact ⟨congrArg (fun z : Int => some (Sum.inl z)) (h2.trans (by rw [e]; rfl)), rfl⟩
      · have hA := am_in (c := sc (vX s) (s 19) (s 26) l) (lo := s 26 l) (b - s 26 l).toNat
        have hAb := am_bnd (c := sc (vX s) (s 19) (s 26) l) (lo := s 26 l) (M := 744200) (by omega) (b - s 26 l).toNat (fun j q1 q2 => (sc_bnd hp hb hl0.1 q1 (by show j < s 103 0; omega)).2)
        have hf0 : 0 ≤ s 26 l := hl0.1
        have hbb : -1 ≤ s 19 (b + 1) ∧ s 19 (b + 1) ≤ 732000 := hb (b + 1) (by omega) (by show b + 1 ≤ s 103 0; omega)
        have hcb := cd_bnd (bs := s 19) hp (show 0 ≤ s 26 l from hl0.1) h1.1 (show b < s 103 0 by omega) hbb.2 (by omega)
        refine rb_iload hV dX1_secondLast_43 rfl ?_
        refine rb_iload_n hV dX1_secondLast_45 rfl rfl ?_
        refine rb_icmp_ne hV (tgt := 53) dX1_secondLast_46 (by decide) ⟨(by first | assumption | (unfold ab_r at *; omega)), (by first | assumption | (unfold ab_r at *; omega))⟩ (fun c46 => ?_) (fun c46 => ?_)
        · have esc : sc (vX s) (s 19) (s 26) l b = cd (vX s) (s 19) (s 26 l) b := if_neg (by omega)
          refine rb_aload_n hV dX1_secondLast_53 rfl rfl ?_
          refine rb_get hV (v := .inr (some 18)) dX1_secondLast_54 ⟨RX1, TX1, 12, rfl, (Nat.le_of_ble_eq_true rfl), lf_X1_23⟩ (gw_25 _) rfl ?_
          refine rb_iload_n hV dX1_secondLast_57 rfl rfl ?_
          refine rb_iload hV dX1_secondLast_58 rfl ?_
          refine rb_callV hV (rest := []) dX1_secondLast_60 (c_X0_sumWith s (s 26 l) b hp hr (show 0 ≤ (s 26 l) ∧ (s 26 l) ≤ b ∧ b < (s 103 0) by omega) (show -1 ≤ (s 19) (b + 1) ∧ (s 19) (b + 1) ≤ 732000 by omega)) lk_X1_88 rfl (Or.inl ⟨0, _, TX0, 4, gw_18 _, rfl⟩) rfl ⟨rfl, rfl, (Nat.le_of_ble_eq_true rfl), (Nat.le_of_ble_eq_true rfl), (Nat.le_of_ble_eq_true rfl), (Nat.le_of_ble_eq_true rfl)⟩ (Nat.le_of_ble_eq_true rfl) (fun r9 h9 p9 => ?_)
          obtain ⟨rfl, rfl⟩ := p9
          show V 63 [some (.inr (some 25)), some (.inl l), some (.inl (s 26 l)), some (.inl ((s 26 (l + 1)) - 1)), some (.inl f), some (.inl le), some (.inl b), none] [.inl (cd (vX s) (s 19) (s 26 l) b)] (WW s) 0 0
          refine rb_istore hV (L2 := [some (.inr (some 25)), some (.inl l), some (.inl (s 26 l)), some (.inl ((s 26 (l + 1)) - 1)), some (.inl f), some (.inl le), some (.inl b), some (.inl (cd (vX s) (s 19) (s 26 l) b))]) dX1_secondLast_63 (Nat.le_of_ble_eq_true rfl) rfl ?_
          refine rb_iload hV dX1_secondLast_65 rfl ?_
          refine rb_iconst hV dX1_secondLast_67 ?_
          refine rb_icmp_eq hV (tgt := 92) dX1_secondLast_68 (by decide) ⟨(by first | assumption | (unfold ab_r at *; omega)), (by first | assumption | (unfold ab_r at *; omega))⟩ (fun c68 => ?_) (fun c68 => ?_)
          · refine rb_iinc hV (L2 := [some (.inr (some 25)), some (.inl l), some (.inl (s 26 l)), some (.inl ((s 26 (l + 1)) - 1)), some (.inl f), some (.inl le), some (.inl (b + 1)), some (.inl (cd (vX s) (s 19) (s 26 l) b))]) dX1_secondLast_92 rfl rfl rfl ?_
            refine rb_goto hV (tgt := 31) dX1_secondLast_95 (by decide) ?_
            refine rb_weak hV (L2 := [some (.inr (some 25)), some (.inl l), some (.inl (s 26 l)), some (.inl ((s 26 (l + 1)) - 1)), some (.inl f), some (.inl le), some (.inl (b + 1)), none]) ⟨rfl, ⟨rfl, ⟨rfl, ⟨rfl, ⟨rfl, ⟨rfl, ⟨rfl, trivial⟩⟩⟩⟩⟩⟩⟩ ?_
            refine ih31 f le (b + 1) ?_ ?_ ?_ ?_
            · omega
            · exact (sec_skip hA h1.1 hf0 h2 h3 esc (by omega)).1
            · exact (sec_skip hA h1.1 hf0 h2 h3 esc (by omega)).2
            · omega
          · refine rb_iload hV dX1_secondLast_71 rfl ?_
            refine rb_iconst hV dX1_secondLast_73 ?_
            refine rb_icmp_eq hV (tgt := 84) dX1_secondLast_74 (by decide) ⟨(by first | assumption | (unfold ab_r at *; omega)), (by first | assumption | (unfold ab_r at *; omega))⟩ (fun c74 => ?_) (fun c74 => ?_)
            · refine rb_iload hV dX1_secondLast_84 rfl ?_
              refine rb_istore hV (L2 := [some (.inr (some 25)), some (.inl l), some (.inl (s 26 l)), some (.inl ((s 26 (l + 1)) - 1)), some (.inl b), some (.inl le), some (.inl b), some (.inl (cd (vX s) (s 19) (s 26 l) b))]) dX1_secondLast_86 (Nat.le_of_ble_eq_true rfl) rfl ?_
              refine rb_iload hV dX1_secondLast_88 rfl ?_
              refine rb_istore hV (L2 := [some (.inr (some 25)), some (.inl l), some (.inl (s 26 l)), some (.inl ((s 26 (l + 1)) - 1)), some (.inl b), some (.inl (cd (vX s) (s 19) (s 26 l) b)), some (.inl b), some (.inl (cd (vX s) (s 19) (s 26 l) b))]) dX1_secondLast_90 (Nat.le_of_ble_eq_true rfl) rfl ?_
              refine rb_iinc hV (L2 := [some (.inr (some 25)), some (.inl l), some (.inl (s 26 l)), some (.inl ((s 26 (l + 1)) - 1)), some (.inl b), some (.inl (cd (vX s) (s 19) (s 26 l) b)), some (.inl (b + 1)), some (.inl (cd (vX s) (s 19) (s 26 l) b))]) dX1_secondLast_92 rfl rfl rfl ?_
              refine rb_goto hV (tgt := 31) dX1_secondLast_95 (by decide) ?_
              refine rb_weak hV (L2 := [some (.inr (some 25)), some (.inl l), some (.inl (s 26 l)), some (.inl ((s 26 (l + 1)) - 1)), some (.inl b), some (.inl (cd (vX s) (s 19) (s 26 l) b)), some (.inl (b + 1)), none]) ⟨rfl, ⟨rfl, ⟨rfl, ⟨rfl, ⟨rfl, ⟨rfl, ⟨rfl, trivial⟩⟩⟩⟩⟩⟩⟩ ?_
              refine ih31 b (cd (vX s) (s 19) (s 26 l) b) (b + 1) ?_ ?_ ?_ ?_
              · omega
              · exact (sec_take hA h1.1 hf0 h2 h3 esc (by omega) (by omega)).1
              · exact (sec_take hA h1.1 hf0 h2 h3 esc (by omega) (by omega)).2
              · omega
            · refine rb_iload hV dX1_secondLast_77 rfl ?_
              refine rb_iload hV dX1_secondLast_79 rfl ?_
              refine rb_icmp_gt hV (tgt := 92) dX1_secondLast_81 (by decide) ⟨(by first | assumption | (unfold ab_r at *; omega)), (by first | assumption | (unfold ab_r at *; omega))⟩ (fun c81 => ?_) (fun c81 => ?_)
              · refine rb_iinc hV (L2 := [some (.inr (some 25)), some (.inl l), some (.inl (s 26 l)), some (.inl ((s 26 (l + 1)) - 1)), some (.inl f), some (.inl le), some (.inl (b + 1)), some (.inl (cd (vX s) (s 19) (s 26 l) b))]) dX1_secondLast_92 rfl rfl rfl ?_
                refine rb_goto hV (tgt := 31) dX1_secondLast_95 (by decide) ?_
                refine rb_weak hV (L2 := [some (.inr (some 25)), some (.inl l), some (.inl (s 26 l)), some (.inl ((s 26 (l + 1)) - 1)), some (.inl f), some (.inl le), some (.inl (b + 1)), none]) ⟨rfl, ⟨rfl, ⟨rfl, ⟨rfl, ⟨rfl, ⟨rfl, ⟨rfl, trivial⟩⟩⟩⟩⟩⟩⟩ ?_
                refine ih31 f le (b + 1) ?_ ?_ ?_ ?_
                · omega
                · exact (sec_skip hA h1.1 hf0 h2 h3 esc (by omega)).1
                · exact (sec_skip hA h1.1 hf0 h2 h3 esc (by omega)).2
                · omega
              · refine rb_iload hV dX1_secondLast_84 rfl ?_
                refine rb_istore hV (L2 := [some (.inr (some 25)), some (.inl l), some (.inl (s 26 l)), some (.inl ((s 26 (l + 1)) - 1)), some (.inl b), some (.inl le), some (.inl b), some (.inl (cd (vX s) (s 19) (s 26 l) b))]) dX1_secondLast_86 (Nat.le_of_ble_eq_true rfl) rfl ?_
                refine rb_iload hV dX1_secondLast_88 rfl ?_
                refine rb_istore hV (L2 := [some (.inr (some 25)), some (.inl l), some (.inl (s 26 l)), some (.inl ((s 26 (l + 1)) - 1)), some (.inl b), some (.inl (cd (vX s) (s 19) (s 26 l) b)), some (.inl b), some (.inl (cd (vX s) (s 19) (s 26 l) b))]) dX1_secondLast_90 (Nat.le_of_ble_eq_true rfl) rfl ?_
                refine rb_iinc hV (L2 := [some (.inr (some 25)), some (.inl l), some (.inl (s 26 l)), some (.inl ((s 26 (l + 1)) - 1)), some (.inl b), some (.inl (cd (vX s) (s 19) (s 26 l) b)), some (.inl (b + 1)), some (.inl (cd (vX s) (s 19) (s 26 l) b))]) dX1_secondLast_92 rfl rfl rfl ?_
                refine rb_goto hV (tgt := 31) dX1_secondLast_95 (by decide) ?_
                refine rb_weak hV (L2 := [some (.inr (some 25)), some (.inl l), some (.inl (s 26 l)), some (.inl ((s 26 (l + 1)) - 1)), some (.inl b), some (.inl (cd (vX s) (s 19) (s 26 l) b)), some (.inl (b + 1)), none]) ⟨rfl, ⟨rfl, ⟨rfl, ⟨rfl, ⟨rfl, ⟨rfl, ⟨rfl, trivial⟩⟩⟩⟩⟩⟩⟩ ?_
                refine ih31 b (cd (vX s) (s 19) (s 26 l) b) (b + 1) ?_ ?_ ?_ ?_
                · omega
                · exact (sec_take hA h1.1 hf0 h2 h3 esc (by omega) (by omega)).1
                · exact (sec_take hA h1.1 hf0 h2 h3 esc (by omega) (by omega)).2
                · omega
        · have esc : sc (vX s) (s 19) (s 26) l b = -1 := if_pos (by omega)
          refine rb_iconst hV dX1_secondLast_49 ?_
          refine rb_goto hV (tgt := 63) dX1_secondLast_50 (by decide) ?_
          refine rb_istore hV (L2 := [some (.inr (some 25)), some (.inl l), some (.inl (s 26 l)), some (.inl ((s 26 (l + 1)) - 1)), some (.inl f), some (.inl le), some (.inl b), some (.inl (-1))]) dX1_secondLast_63 (Nat.le_of_ble_eq_true rfl) rfl ?_
          refine rb_iload hV dX1_secondLast_65 rfl ?_
          refine rb_iconst hV dX1_secondLast_67 ?_
          refine rb_icmp_eq hV (tgt := 92) dX1_secondLast_68 (by decide) ⟨(by first | assumption | (unfold ab_r at *; omega)), (by first | assumption | (unfold ab_r at *; omega))⟩ (fun _ => ?_) (fun z => absurd z (by decide))
          refine rb_iinc hV (L2 := [some (.inr (some 25)), some (.inl l), some (.inl (s 26 l)), some (.inl ((s 26 (l + 1)) - 1)), some (.inl f), some (.inl le), some (.inl (b + 1)), some (.inl (-1))]) dX1_secondLast_92 rfl rfl rfl ?_
          refine rb_goto hV (tgt := 31) dX1_secondLast_95 (by decide) ?_
          refine rb_weak hV (L2 := [some (.inr (some 25)), some (.inl l), some (.inl (s 26 l)), some (.inl ((s 26 (l + 1)) - 1)), some (.inl f), some (.inl le), some (.inl (b + 1)), none]) ⟨rfl, ⟨rfl, ⟨rfl, ⟨rfl, ⟨rfl, ⟨rfl, ⟨rfl, trivial⟩⟩⟩⟩⟩⟩⟩ ?_
          refine ih31 f le (b + 1) ?_ ?_ ?_ ?_
          · omega
          · exact (sec_skip hA h1.1 hf0 h2 h3 esc (by omega)).1
          · exact (sec_skip hA h1.1 hf0 h2 h3 esc (by omega)).2
          · omega
  refine h31 _ (-1) 0 (s 26 l) ?_ ?_ ?_ (Nat.lt_succ_self _)
  · omega
  · rw [am_0]
  · rw [am_0]; exact ⟨fun _ => rfl, fun z => absurd rfl z⟩

set_option maxRecDepth 20000 in
theorem c_X1_demeritsBefore_tr (s : Nat → Int → Int) (l : Int) (hp : PI (vX s)) (hr : RU s) (hv : LV (vX s) (s 38) (s 112 0)) (hl : 0 ≤ l ∧ l ≤ s 112 0) : ab_Mt yX1_demeritsBefore cX1_demeritsBefore 4 (some .int) ({ frames := 3, cells := 0, slots := 0, locals := 73 } : Room) false 0 0 [.inr (some 37), .inl l] (WW s) (fun r h2 => r = some (.inl (Sm (ldm (vX s) (s 38)) 0 l)) ∧ h2 = WW s) := by
  refine ab_mk RX1 false rfl pn_X1_demeritsBefore (fun z => by cases z) (Nat.le_of_ble_eq_true rfl) (fun V hV => ?_)
  show V 0 [some (.inr (some 37)), some (.inl l), none, none] [] (WW s) 0 0
  have hn : 0 ≤ s 103 0 ∧ s 103 0 ≤ 60 := hp.1
  have hnl : 0 ≤ s 112 0 ∧ s 112 0 ≤ s 103 0 := hv.1
  refine rb_iconst hV dX1_demeritsBefore_0 ?_
  refine rb_istore_n hV (L2 := [some (.inr (some 37)), some (.inl l), some (.inl 0), none]) dX1_demeritsBefore_1 rfl (Nat.le_of_ble_eq_true rfl) rfl ?_
  refine rb_iconst hV dX1_demeritsBefore_2 ?_
  refine rb_istore_n hV (L2 := [some (.inr (some 37)), some (.inl l), some (.inl 0), some (.inl 0)]) dX1_demeritsBefore_3 rfl (Nat.le_of_ble_eq_true rfl) rfl ?_
  have h4 : ∀ (n4 : Nat) (sum : Int) (i : Int), (0 ≤ i ∧ i ≤ l) → (sum = Sm (ldm (vX s) (s 38)) 0 i) → ((l - i).toNat) < n4 → V 4 [some (.inr (some 37)), some (.inl l), some (.inl sum), some (.inl i)] [] (WW s) 0 0 := by
    intro n4
    induction n4 with
    | zero => intro sum i h1 h2 hm; omega
    | succ n4 ih4 =>
      intro sum i h1 h2 hm
      refine rb_iload_n hV dX1_demeritsBefore_4 rfl rfl ?_
      refine rb_iload_n hV dX1_demeritsBefore_5 rfl rfl ?_
      refine rb_icmp_ge hV (tgt := 43) dX1_demeritsBefore_6 (by decide) ⟨(by first | assumption | (unfold ab_r at *; omega)), (by first | assumption | (unfold ab_r at *; omega))⟩ (fun c6 => ?_) (fun c6 => ?_)
      · refine rb_iload_n hV dX1_demeritsBefore_43 rfl rfl ?_
        refine rb_ret hV (r := some (.inl sum)) dX1_demeritsBefore_44 rfl ⟨(Nat.le_of_ble_eq_true rfl), (Nat.le_of_ble_eq_true rfl)⟩ trivial ?_
        have e : i = l := by omega
        exact ⟨congrArg (fun z : Int => some (Sum.inl z)) (h2.trans (by rw [e])), rfl⟩
      · refine rb_iload_n hV dX1_demeritsBefore_9 rfl rfl ?_
        refine rb_aload_n hV dX1_demeritsBefore_10 rfl rfl ?_
        refine rb_get hV (v := .inl (s 112 0)) dX1_demeritsBefore_11 ⟨RX1, TX1, 12, rfl, (Nat.le_of_ble_eq_true rfl), lf_X1_27⟩ (gw_37 _) rfl ?_
        refine rb_icmp_ge hV (tgt := 43) dX1_demeritsBefore_14 (by decide) ⟨(by first | assumption | (unfold ab_r at *; omega)), (by first | assumption | (unfold ab_r at *; omega))⟩ (fun c14 => absurd c14 (by omega)) (fun c14 => ?_)
        have hli := hv.2.1 i (by omega) (by omega)
        have hli2 : s 38 (i + 1) ≤ s 103 0 := hli.2.2.1
        refine rb_iload_n hV dX1_demeritsBefore_17 rfl rfl ?_
        refine rb_aload_n hV dX1_demeritsBefore_18 rfl rfl ?_
        refine rb_get hV (v := .inr (some 11)) dX1_demeritsBefore_19 ⟨RX1, TX1, 12, rfl, (Nat.le_of_ble_eq_true rfl), lf_X1_19⟩ (gw_37 _) rfl ?_
        refine rb_aload_n hV dX1_demeritsBefore_22 rfl rfl ?_
        refine rb_iload_n hV dX1_demeritsBefore_23 rfl rfl ?_
        refine rb_callV hV (rest := [.inr (some 11), .inl sum]) dX1_demeritsBefore_24 (c_X1_firstWord_tr s i (show 0 ≤ (s 112 0) ∧ (s 112 0) ≤ 60 by omega) (show 0 ≤ i ∧ i < (s 112 0) by omega)) lk_X1_70 rfl (Or.inl ⟨1, _, TX1, 12, gw_37 _, rfl⟩) rfl ⟨rfl, rfl, (Nat.le_of_ble_eq_true rfl), (Nat.le_of_ble_eq_true rfl), (Nat.le_of_ble_eq_true rfl), (Nat.le_of_ble_eq_true rfl)⟩ (Nat.le_of_ble_eq_true rfl) (fun r9 h9 p9 => ?_)
        obtain ⟨rfl, rfl⟩ := p9
        show V 27 [some (.inr (some 37)), some (.inl l), some (.inl sum), some (.inl i)] [.inl (s 38 i), .inr (some 11), .inl sum] (WW s) 0 0
        refine rb_aload_n hV dX1_demeritsBefore_27 rfl rfl ?_
        refine rb_iload_n hV dX1_demeritsBefore_28 rfl rfl ?_
        refine rb_callV hV (rest := [.inl (s 38 i), .inr (some 11), .inl sum]) dX1_demeritsBefore_29 (c_X1_lastWord_tr s i (show 0 ≤ (s 112 0) ∧ (s 112 0) ≤ 60 by omega) (show 0 ≤ i ∧ i < (s 112 0) by omega)) lk_X1_74 rfl (Or.inl ⟨1, _, TX1, 12, gw_37 _, rfl⟩) rfl ⟨rfl, rfl, (Nat.le_of_ble_eq_true rfl), (Nat.le_of_ble_eq_true rfl), (Nat.le_of_ble_eq_true rfl), (Nat.le_of_ble_eq_true rfl)⟩ (Nat.le_of_ble_eq_true rfl) (fun r9 h9 p9 => ?_)
        obtain ⟨rfl, rfl⟩ := p9
        show V 32 [some (.inr (some 37)), some (.inl l), some (.inl sum), some (.inl i)] [.inl ((s 38 (i + 1)) - 1), .inl (s 38 i), .inr (some 11), .inl sum] (WW s) 0 0
        refine rb_callV hV (rest := [.inl sum]) dX1_demeritsBefore_32 (c_X2_demerits s (s 38 i) ((s 38 (i + 1)) - 1) hp hr (show 0 ≤ (s 38 i) ∧ (s 38 i) ≤ ((s 38 (i + 1)) - 1) ∧ ((s 38 (i + 1)) - 1) < (s 103 0) by omega)) lk_X1_77 rfl (Or.inl ⟨2, _, TX2, 8, gw_11 _, rfl⟩) rfl ⟨rfl, rfl, (Nat.le_of_ble_eq_true rfl), (Nat.le_of_ble_eq_true rfl), (Nat.le_of_ble_eq_true rfl), (Nat.le_of_ble_eq_true rfl)⟩ (Nat.le_of_ble_eq_true rfl) (fun r9 h9 p9 => ?_)
        obtain ⟨rfl, rfl⟩ := p9
        show V 35 [some (.inr (some 37)), some (.inl l), some (.inl sum), some (.inl i)] [.inl (xd (vX s) (s 38 i) ((s 38 (i + 1)) - 1)), .inl sum] (WW s) 0 0
        refine rb_iadd hV dX1_demeritsBefore_35 ?_
        refine rb_istore_n hV (L2 := [some (.inr (some 37)), some (.inl l), some (.inl (sum + (xd (vX s) (s 38 i) ((s 38 (i + 1)) - 1)))), some (.inl i)]) dX1_demeritsBefore_36 rfl (Nat.le_of_ble_eq_true rfl) rfl ?_
        refine rb_iinc hV (L2 := [some (.inr (some 37)), some (.inl l), some (.inl (sum + (xd (vX s) (s 38 i) ((s 38 (i + 1)) - 1)))), some (.inl (i + 1))]) dX1_demeritsBefore_37 rfl rfl rfl ?_
        refine rb_goto hV (tgt := 4) dX1_demeritsBefore_40 (by decide) ?_
        refine ih4 (sum + (xd (vX s) (s 38 i) ((s 38 (i + 1)) - 1))) (i + 1) ?_ ?_ ?_
        · omega
        · rw [h2, Sm_succ _ h1.1, ps_xd hli.2.2.2]; rfl
        · omega
  refine h4 _ 0 0 ?_ ?_ (Nat.lt_succ_self _)
  · omega
  · rw [Sm_self]

set_option maxRecDepth 20000 in
theorem c_X1_linesWorseThan_tr (s : Nat → Int → Int) (l : Int) (hp : PI (vX s)) (hr : RU s) (hv : LV (vX s) (s 38) (s 112 0)) (hl : 0 ≤ l ∧ l < s 112 0) : ab_Mt yX1_linesWorseThan cX1_linesWorseThan 6 (some .int) ({ frames := 2, cells := 0, slots := 0, locals := 49 } : Room) false 0 0 [.inr (some 37), .inl l] (WW s) (fun r h2 => r = some (.inl (wr (lbd (vX s) (s 38)) (s 112 0) l)) ∧ h2 = WW s) := by
  refine ab_mk RX1 false rfl pn_X1_linesWorseThan (fun z => by cases z) (Nat.le_of_ble_eq_true rfl) (fun V hV => ?_)
  show V 0 [some (.inr (some 37)), some (.inl l), none, none, none, none] [] (WW s) 0 0
  have hn : 0 ≤ s 103 0 ∧ s 103 0 ≤ 60 := hp.1
  have hnl : 0 ≤ s 112 0 ∧ s 112 0 ≤ s 103 0 := hv.1
  have hl0 := hv.2.1 l (by omega) (by omega)
  have hl02 : s 38 (l + 1) ≤ s 103 0 := hl0.2.2.1
  have eli0 : xb (vX s) (s 38 l) (s 38 (l + 1) - 1) = lbd (vX s) (s 38) l := ps_xb hl0.2.2.2
  have hlb0 := lbd_b hp hv (i := l) (by omega) (by omega)
  refine rb_aload_n hV dX1_linesWorseThan_0 rfl rfl ?_
  refine rb_get hV (v := .inr (some 11)) dX1_linesWorseThan_1 ⟨RX1, TX1, 12, rfl, (Nat.le_of_ble_eq_true rfl), lf_X1_19⟩ (gw_37 _) rfl ?_
  refine rb_aload_n hV dX1_linesWorseThan_4 rfl rfl ?_
  refine rb_iload_n hV dX1_linesWorseThan_5 rfl rfl ?_
  refine rb_callV hV (rest := [.inr (some 11)]) dX1_linesWorseThan_6 (c_X1_firstWord_tr s l (show 0 ≤ (s 112 0) ∧ (s 112 0) ≤ 60 by omega) (show 0 ≤ l ∧ l < (s 112 0) by omega)) lk_X1_70 rfl (Or.inl ⟨1, _, TX1, 12, gw_37 _, rfl⟩) rfl ⟨rfl, rfl, (Nat.le_of_ble_eq_true rfl), (Nat.le_of_ble_eq_true rfl), (Nat.le_of_ble_eq_true rfl), (Nat.le_of_ble_eq_true rfl)⟩ (Nat.le_of_ble_eq_true rfl) (fun r9 h9 p9 => ?_)
  obtain ⟨rfl, rfl⟩ := p9
  show V 9 [some (.inr (some 37)), some (.inl l), none, none, none, none] [.inl (s 38 l), .inr (some 11)] (WW s) 0 0
  refine rb_aload_n hV dX1_linesWorseThan_9 rfl rfl ?_
  refine rb_iload_n hV dX1_linesWorseThan_10 rfl rfl ?_
  refine rb_callV hV (rest := [.inl (s 38 l), .inr (some 11)]) dX1_linesWorseThan_11 (c_X1_lastWord_tr s l (show 0 ≤ (s 112 0) ∧ (s 112 0) ≤ 60 by omega) (show 0 ≤ l ∧ l < (s 112 0) by omega)) lk_X1_74 rfl (Or.inl ⟨1, _, TX1, 12, gw_37 _, rfl⟩) rfl ⟨rfl, rfl, (Nat.le_of_ble_eq_true rfl), (Nat.le_of_ble_eq_true rfl), (Nat.le_of_ble_eq_true rfl), (Nat.le_of_ble_eq_true rfl)⟩ (Nat.le_of_ble_eq_true rfl) (fun r9 h9 p9 => ?_)
  obtain ⟨rfl, rfl⟩ := p9
  show V 14 [some (.inr (some 37)), some (.inl l), none, none, none, none] [.inl ((s 38 (l + 1)) - 1), .inl (s 38 l), .inr (some 11)] (WW s) 0 0
  refine rb_callV hV (rest := []) dX1_linesWorseThan_14 (c_X2_badness s (s 38 l) ((s 38 (l + 1)) - 1) hp hr (show 0 ≤ (s 38 l) ∧ (s 38 l) ≤ ((s 38 (l + 1)) - 1) ∧ ((s 38 (l + 1)) - 1) < (s 103 0) by omega)) lk_X1_82 rfl (Or.inl ⟨2, _, TX2, 8, gw_11 _, rfl⟩) rfl ⟨rfl, rfl, (Nat.le_of_ble_eq_true rfl), (Nat.le_of_ble_eq_true rfl), (Nat.le_of_ble_eq_true rfl), (Nat.le_of_ble_eq_true rfl)⟩ (Nat.le_of_ble_eq_true rfl) (fun r9 h9 p9 => ?_)
  obtain ⟨rfl, rfl⟩ := p9
  show V 17 [some (.inr (some 37)), some (.inl l), none, none, none, none] [.inl (xb (vX s) (s 38 l) ((s 38 (l + 1)) - 1))] (WW s) 0 0
  refine rb_istore_n hV (L2 := [some (.inr (some 37)), some (.inl l), some (.inl (xb (vX s) (s 38 l) ((s 38 (l + 1)) - 1))), none, none, none]) dX1_linesWorseThan_17 rfl (Nat.le_of_ble_eq_true rfl) rfl ?_
  refine rb_iconst hV dX1_linesWorseThan_18 ?_
  refine rb_istore_n hV (L2 := [some (.inr (some 37)), some (.inl l), some (.inl (xb (vX s) (s 38 l) ((s 38 (l + 1)) - 1))), some (.inl 0), none, none]) dX1_linesWorseThan_19 rfl (Nat.le_of_ble_eq_true rfl) rfl ?_
  refine rb_iconst hV dX1_linesWorseThan_20 ?_
  refine rb_istore hV (L2 := [some (.inr (some 37)), some (.inl l), some (.inl (xb (vX s) (s 38 l) ((s 38 (l + 1)) - 1))), some (.inl 0), some (.inl 0), none]) dX1_linesWorseThan_21 (Nat.le_of_ble_eq_true rfl) rfl ?_
  have h23 : ∀ (n23 : Nat) (n : Int) (i : Int), (0 ≤ i ∧ i ≤ s 112 0) → (n = wr (lbd (vX s) (s 38)) i l) → ((s 112 0 - i).toNat) < n23 → V 23 [some (.inr (some 37)), some (.inl l), some (.inl (xb (vX s) (s 38 l) ((s 38 (l + 1)) - 1))), some (.inl n), some (.inl i), none] [] (WW s) 0 0 := by
    intro n23
    induction n23 with
    | zero => intro n i h1 h2 hm; omega
    | succ n23 ih23 =>
      intro n i h1 h2 hm
      refine rb_iload hV dX1_linesWorseThan_23 rfl ?_
      refine rb_aload_n hV dX1_linesWorseThan_25 rfl rfl ?_
      refine rb_get hV (v := .inl (s 112 0)) dX1_linesWorseThan_26 ⟨RX1, TX1, 12, rfl, (Nat.le_of_ble_eq_true rfl), lf_X1_27⟩ (gw_37 _) rfl ?_
      refine rb_icmp_ge hV (tgt := 80) dX1_linesWorseThan_29 (by decide) ⟨(by first | assumption | (unfold ab_r at *; omega)), (by first | assumption | (unfold ab_r at *; omega))⟩ (fun c29 => ?_) (fun c29 => ?_)
      · refine rb_iload_n hV dX1_linesWorseThan_80 rfl rfl ?_
        refine rb_ret hV (r := some (.inl n)) dX1_linesWorseThan_81 rfl ⟨(Nat.le_of_ble_eq_true rfl), (Nat.le_of_ble_eq_true rfl)⟩ trivial ?_
        have e : i = s 112 0 := by omega
        exact ⟨congrArg (fun z : Int => some (Sum.inl z)) (h2.trans (by rw [e])), rfl⟩
      · have hli := hv.2.1 i (by omega) (by omega)
        have hli2 : s 38 (i + 1) ≤ s 103 0 := hli.2.2.1
        have eli : xb (vX s) (s 38 i) (s 38 (i + 1) - 1) = lbd (vX s) (s 38) i := ps_xb hli.2.2.2
        have hlb := lbd_b hp hv (i := i) (by omega) (by omega)
        refine rb_aload_n hV dX1_linesWorseThan_32 rfl rfl ?_
        refine rb_get hV (v := .inr (some 11)) dX1_linesWorseThan_33 ⟨RX1, TX1, 12, rfl, (Nat.le_of_ble_eq_true rfl), lf_X1_19⟩ (gw_37 _) rfl ?_
        refine rb_aload_n hV dX1_linesWorseThan_36 rfl rfl ?_
        refine rb_iload hV dX1_linesWorseThan_37 rfl ?_
        refine rb_callV hV (rest := [.inr (some 11)]) dX1_linesWorseThan_39 (c_X1_firstWord_tr s i (show 0 ≤ (s 112 0) ∧ (s 112 0) ≤ 60 by omega) (show 0 ≤ i ∧ i < (s 112 0) by omega)) lk_X1_70 rfl (Or.inl ⟨1, _, TX1, 12, gw_37 _, rfl⟩) rfl ⟨rfl, rfl, (Nat.le_of_ble_eq_true rfl), (Nat.le_of_ble_eq_true rfl), (Nat.le_of_ble_eq_true rfl), (Nat.le_of_ble_eq_true rfl)⟩ (Nat.le_of_ble_eq_true rfl) (fun r9 h9 p9 => ?_)
        obtain ⟨rfl, rfl⟩ := p9
        show V 42 [some (.inr (some 37)), some (.inl l), some (.inl (xb (vX s) (s 38 l) ((s 38 (l + 1)) - 1))), some (.inl n), some (.inl i), none] [.inl (s 38 i), .inr (some 11)] (WW s) 0 0
        refine rb_aload_n hV dX1_linesWorseThan_42 rfl rfl ?_
        refine rb_iload hV dX1_linesWorseThan_43 rfl ?_
        refine rb_callV hV (rest := [.inl (s 38 i), .inr (some 11)]) dX1_linesWorseThan_45 (c_X1_lastWord_tr s i (show 0 ≤ (s 112 0) ∧ (s 112 0) ≤ 60 by omega) (show 0 ≤ i ∧ i < (s 112 0) by omega)) lk_X1_74 rfl (Or.inl ⟨1, _, TX1, 12, gw_37 _, rfl⟩) rfl ⟨rfl, rfl, (Nat.le_of_ble_eq_true rfl), (Nat.le_of_ble_eq_true rfl), (Nat.le_of_ble_eq_true rfl), (Nat.le_of_ble_eq_true rfl)⟩ (Nat.le_of_ble_eq_true rfl) (fun r9 h9 p9 => ?_)
        obtain ⟨rfl, rfl⟩ := p9
        show V 48 [some (.inr (some 37)), some (.inl l), some (.inl (xb (vX s) (s 38 l) ((s 38 (l + 1)) - 1))), some (.inl n), some (.inl i), none] [.inl ((s 38 (i + 1)) - 1), .inl (s 38 i), .inr (some 11)] (WW s) 0 0
        refine rb_callV hV (rest := []) dX1_linesWorseThan_48 (c_X2_badness s (s 38 i) ((s 38 (i + 1)) - 1) hp hr (show 0 ≤ (s 38 i) ∧ (s 38 i) ≤ ((s 38 (i + 1)) - 1) ∧ ((s 38 (i + 1)) - 1) < (s 103 0) by omega)) lk_X1_82 rfl (Or.inl ⟨2, _, TX2, 8, gw_11 _, rfl⟩) rfl ⟨rfl, rfl, (Nat.le_of_ble_eq_true rfl), (Nat.le_of_ble_eq_true rfl), (Nat.le_of_ble_eq_true rfl), (Nat.le_of_ble_eq_true rfl)⟩ (Nat.le_of_ble_eq_true rfl) (fun r9 h9 p9 => ?_)
        obtain ⟨rfl, rfl⟩ := p9
        show V 51 [some (.inr (some 37)), some (.inl l), some (.inl (xb (vX s) (s 38 l) ((s 38 (l + 1)) - 1))), some (.inl n), some (.inl i), none] [.inl (xb (vX s) (s 38 i) ((s 38 (i + 1)) - 1))] (WW s) 0 0
        refine rb_istore hV (L2 := [some (.inr (some 37)), some (.inl l), some (.inl (xb (vX s) (s 38 l) ((s 38 (l + 1)) - 1))), some (.inl n), some (.inl i), some (.inl (xb (vX s) (s 38 i) ((s 38 (i + 1)) - 1)))]) dX1_linesWorseThan_51 (Nat.le_of_ble_eq_true rfl) rfl ?_
        refine rb_iload hV dX1_linesWorseThan_53 rfl ?_
        refine rb_iload_n hV dX1_linesWorseThan_55 rfl rfl ?_
        refine rb_icmp_gt hV (tgt := 71) dX1_linesWorseThan_56 (by decide) ⟨(by first | assumption | (unfold ab_r at *; omega)), (by first | assumption | (unfold ab_r at *; omega))⟩ (fun c56 => ?_) (fun c56 => ?_)
        · refine rb_iinc hV (L2 := [some (.inr (some 37)), some (.inl l), some (.inl (xb (vX s) (s 38 l) ((s 38 (l + 1)) - 1))), some (.inl (n + 1)), some (.inl i), some (.inl (xb (vX s) (s 38 i) ((s 38 (i + 1)) - 1)))]) dX1_linesWorseThan_71 rfl rfl rfl ?_
          refine rb_iinc hV (L2 := [some (.inr (some 37)), some (.inl l), some (.inl (xb (vX s) (s 38 l) ((s 38 (l + 1)) - 1))), some (.inl (n + 1)), some (.inl (i + 1)), some (.inl (xb (vX s) (s 38 i) ((s 38 (i + 1)) - 1)))]) dX1_linesWorseThan_74 rfl rfl rfl ?_
          refine rb_goto hV (tgt := 23) dX1_linesWorseThan_77 (by decide) ?_
          refine rb_weak hV (L2 := [some (.inr (some 37)), some (.inl l), some (.inl (xb (vX s) (s 38 l) ((s 38 (l + 1)) - 1))), some (.inl (n + 1)), some (.inl (i + 1)), none]) ⟨rfl, ⟨rfl, ⟨rfl, ⟨rfl, ⟨rfl, trivial⟩⟩⟩⟩⟩ ?_
          refine ih23 (n + 1) (i + 1) ?_ ?_ ?_
          · omega
          · rw [h2]; unfold wr; rw [Sm_succ _ h1.1, if_pos (by rw [eli, eli0] at *; omega)]
          · omega
        · refine rb_iload hV dX1_linesWorseThan_59 rfl ?_
          refine rb_iload_n hV dX1_linesWorseThan_61 rfl rfl ?_
          refine rb_icmp_ne hV (tgt := 74) dX1_linesWorseThan_62 (by decide) ⟨(by first | assumption | (unfold ab_r at *; omega)), (by first | assumption | (unfold ab_r at *; omega))⟩ (fun c62 => ?_) (fun c62 => ?_)
          · refine rb_iinc hV (L2 := [some (.inr (some 37)), some (.inl l), some (.inl (xb (vX s) (s 38 l) ((s 38 (l + 1)) - 1))), some (.inl n), some (.inl (i + 1)), some (.inl (xb (vX s) (s 38 i) ((s 38 (i + 1)) - 1)))]) dX1_linesWorseThan_74 rfl rfl rfl ?_
            refine rb_goto hV (tgt := 23) dX1_linesWorseThan_77 (by decide) ?_
            refine rb_weak hV (L2 := [some (.inr (some 37)), some (.inl l), some (.inl (xb (vX s) (s 38 l) ((s 38 (l + 1)) - 1))), some (.inl n), some (.inl (i + 1)), none]) ⟨rfl, ⟨rfl, ⟨rfl, ⟨rfl, ⟨rfl, trivial⟩⟩⟩⟩⟩ ?_
            refine ih23 n (i + 1) ?_ ?_ ?_
            · omega
            · rw [h2]; unfold wr; rw [Sm_succ _ h1.1, if_neg (by rw [eli, eli0] at *; omega)]; omega
            · omega
          · refine rb_iload hV dX1_linesWorseThan_65 rfl ?_
            refine rb_iload_n hV dX1_linesWorseThan_67 rfl rfl ?_
            refine rb_icmp_ge hV (tgt := 74) dX1_linesWorseThan_68 (by decide) ⟨(by first | assumption | (unfold ab_r at *; omega)), (by first | assumption | (unfold ab_r at *; omega))⟩ (fun c68 => ?_) (fun c68 => ?_)
            · refine rb_iinc hV (L2 := [some (.inr (some 37)), some (.inl l), some (.inl (xb (vX s) (s 38 l) ((s 38 (l + 1)) - 1))), some (.inl n), some (.inl (i + 1)), some (.inl (xb (vX s) (s 38 i) ((s 38 (i + 1)) - 1)))]) dX1_linesWorseThan_74 rfl rfl rfl ?_
              refine rb_goto hV (tgt := 23) dX1_linesWorseThan_77 (by decide) ?_
              refine rb_weak hV (L2 := [some (.inr (some 37)), some (.inl l), some (.inl (xb (vX s) (s 38 l) ((s 38 (l + 1)) - 1))), some (.inl n), some (.inl (i + 1)), none]) ⟨rfl, ⟨rfl, ⟨rfl, ⟨rfl, ⟨rfl, trivial⟩⟩⟩⟩⟩ ?_
              refine ih23 n (i + 1) ?_ ?_ ?_
              · omega
              · rw [h2]; unfold wr; rw [Sm_succ _ h1.1, if_neg (by rw [eli, eli0] at *; omega)]; omega
              · omega
            · refine rb_iinc hV (L2 := [some (.inr (some 37)), some (.inl l), some (.inl (xb (vX s) (s 38 l) ((s 38 (l + 1)) - 1))), some (.inl (n + 1)), some (.inl i), some (.inl (xb (vX s) (s 38 i) ((s 38 (i + 1)) - 1)))]) dX1_linesWorseThan_71 rfl rfl rfl ?_
              refine rb_iinc hV (L2 := [some (.inr (some 37)), some (.inl l), some (.inl (xb (vX s) (s 38 l) ((s 38 (l + 1)) - 1))), some (.inl (n + 1)), some (.inl (i + 1)), some (.inl (xb (vX s) (s 38 i) ((s 38 (i + 1)) - 1)))]) dX1_linesWorseThan_74 rfl rfl rfl ?_
              refine rb_goto hV (tgt := 23) dX1_linesWorseThan_77 (by decide) ?_
              refine rb_weak hV (L2 := [some (.inr (some 37)), some (.inl l), some (.inl (xb (vX s) (s 38 l) ((s 38 (l + 1)) - 1))), some (.inl (n + 1)), some (.inl (i + 1)), none]) ⟨rfl, ⟨rfl, ⟨rfl, ⟨rfl, ⟨rfl, trivial⟩⟩⟩⟩⟩ ?_
              refine ih23 (n + 1) (i + 1) ?_ ?_ ?_
              · omega
              · rw [h2]; unfold wr; rw [Sm_succ _ h1.1, if_pos (by rw [eli, eli0] at *; omega)]
              · omega
  refine h23 _ 0 0 ?_ ?_ (Nat.lt_succ_self _)
  · omega
  · unfold wr; rw [Sm_self]

set_option maxRecDepth 20000 in
theorem c_X1_secondLast_tr (s : Nat → Int → Int) (l : Int) (hp : PI (vX s)) (hr : RU s) (hv : LV (vX s) (s 38) (s 112 0)) (hb : BS (vX s) (s 19)) (hl : 0 ≤ l ∧ l < s 112 0) : ab_Mt yX1_secondLast cX1_secondLast 8 (some .int) ({ frames := 4, cells := 0, slots := 0, locals := 97 } : Room) false 0 0 [.inr (some 37), .inl l] (WW s) (fun r h2 => r = some (.inl (sec (vX s) (s 19) (s 38) l)) ∧ h2 = WW s) := by
  refine ab_mk RX1 false rfl pn_X1_secondLast (fun z => by cases z) (Nat.le_of_ble_eq_true rfl) (fun V hV => ?_)
  show V 0 [some (.inr (some 37)), some (.inl l), none, none, none, none, none, none] [] (WW s) 0 0
  have hn : 0 ≤ s 103 0 ∧ s 103 0 ≤ 60 := hp.1
  have hnl : 0 ≤ s 112 0 ∧ s 112 0 ≤ s 103 0 := hv.1
  have hl0 := hv.2.1 l (by omega) (by omega)
  have hl02 : s 38 (l + 1) ≤ s 103 0 := hl0.2.2.1
  have hl03 := hl0.2.1
  refine rb_aload_n hV dX1_secondLast_0 rfl rfl ?_
  refine rb_iload_n hV dX1_secondLast_1 rfl rfl ?_
  refine rb_callV hV (rest := []) dX1_secondLast_2 (c_X1_hasLine_tr s l (by first | assumption | (unfold ab_r at *; omega)) (show 0 ≤ (s 112 0) ∧ (s 112 0) ≤ 60 by omega)) lk_X1_57 rfl (Or.inl ⟨1, _, TX1, 12, gw_37 _, rfl⟩) rfl ⟨rfl, rfl, (Nat.le_of_ble_eq_true rfl), (Nat.le_of_ble_eq_true rfl), (Nat.le_of_ble_eq_true rfl), (Nat.le_of_ble_eq_true rfl)⟩ (Nat.le_of_ble_eq_true rfl) (fun r9 h9 p9 => ?_)
  obtain ⟨rfl, rfl⟩ := p9
  show V 5 [some (.inr (some 37)), some (.inl l), none, none, none, none, none, none] [.inl (if 0 ≤ l ∧ l < (s 112 0) then 1 else 0)] (WW s) 0 0
  rw [if_pos (show 0 ≤ l ∧ l < (s 112 0) by omega)]
  show V 5 [some (.inr (some 37)), some (.inl l), none, none, none, none, none, none] [.inl 1] (WW s) 0 0
  refine rb_if_ne hV (tgt := 10) dX1_secondLast_5 (by decide) (by first | assumption | (unfold ab_r at *; omega)) (fun _ => ?_) (fun z => absurd z (by decide))
  refine rb_aload_n hV dX1_secondLast_10 rfl rfl ?_
  refine rb_iload_n hV dX1_secondLast_11 rfl rfl ?_
  refine rb_callV hV (rest := []) dX1_secondLast_12 (c_X1_firstWord_tr s l (show 0 ≤ (s 112 0) ∧ (s 112 0) ≤ 60 by omega) (show 0 ≤ l ∧ l < (s 112 0) by omega)) lk_X1_70 rfl (Or.inl ⟨1, _, TX1, 12, gw_37 _, rfl⟩) rfl ⟨rfl, rfl, (Nat.le_of_ble_eq_true rfl), (Nat.le_of_ble_eq_true rfl), (Nat.le_of_ble_eq_true rfl), (Nat.le_of_ble_eq_true rfl)⟩ (Nat.le_of_ble_eq_true rfl) (fun r9 h9 p9 => ?_)
  obtain ⟨rfl, rfl⟩ := p9
  show V 15 [some (.inr (some 37)), some (.inl l), none, none, none, none, none, none] [.inl (s 38 l)] (WW s) 0 0
  refine rb_istore_n hV (L2 := [some (.inr (some 37)), some (.inl l), some (.inl (s 38 l)), none, none, none, none, none]) dX1_secondLast_15 rfl (Nat.le_of_ble_eq_true rfl) rfl ?_
  refine rb_aload_n hV dX1_secondLast_16 rfl rfl ?_
  refine rb_iload_n hV dX1_secondLast_17 rfl rfl ?_
  refine rb_callV hV (rest := []) dX1_secondLast_18 (c_X1_lastWord_tr s l (show 0 ≤ (s 112 0) ∧ (s 112 0) ≤ 60 by omega) (show 0 ≤ l ∧ l < (s 112 0) by omega)) lk_X1_74 rfl (Or.inl ⟨1, _, TX1, 12, gw_37 _, rfl⟩) rfl ⟨rfl, rfl, (Nat.le_of_ble_eq_true rfl), (Nat.le_of_ble_eq_true rfl), (Nat.le_of_ble_eq_true rfl), (Nat.le_of_ble_eq_true rfl)⟩ (Nat.le_of_ble_eq_true rfl) (fun r9 h9 p9 => ?_)
  obtain ⟨rfl, rfl⟩ := p9
  show V 21 [some (.inr (some 37)), some (.inl l), some (.inl (s 38 l)), none, none, none, none, none] [.inl ((s 38 (l + 1)) - 1)] (WW s) 0 0
  refine rb_istore_n hV (L2 := [some (.inr (some 37)), some (.inl l), some (.inl (s 38 l)), some (.inl ((s 38 (l + 1)) - 1)), none, none, none, none]) dX1_secondLast_21 rfl (Nat.le_of_ble_eq_true rfl) rfl ?_
  refine rb_iconst hV dX1_secondLast_22 ?_
  refine rb_istore hV (L2 := [some (.inr (some 37)), some (.inl l), some (.inl (s 38 l)), some (.inl ((s 38 (l + 1)) - 1)), some (.inl (-1)), none, none, none]) dX1_secondLast_23 (Nat.le_of_ble_eq_true rfl) rfl ?_
  refine rb_iconst hV dX1_secondLast_25 ?_
  refine rb_istore hV (L2 := [some (.inr (some 37)), some (.inl l), some (.inl (s 38 l)), some (.inl ((s 38 (l + 1)) - 1)), some (.inl (-1)), some (.inl 0), none, none]) dX1_secondLast_26 (Nat.le_of_ble_eq_true rfl) rfl ?_
  refine rb_iload_n hV dX1_secondLast_28 rfl rfl ?_
  refine rb_istore hV (L2 := [some (.inr (some 37)), some (.inl l), some (.inl (s 38 l)), some (.inl ((s 38 (l + 1)) - 1)), some (.inl (-1)), some (.inl 0), some (.inl (s 38 l)), none]) dX1_secondLast_29 (Nat.le_of_ble_eq_true rfl) rfl ?_
  have h31 : ∀ (n31 : Nat) (f : Int) (le : Int) (b : Int), (s 38 l ≤ b ∧ b ≤ s 103 0) → (f = (am (sc (vX s) (s 19) (s 38) l) (s 38 l) (b - s 38 l).toNat).2) → ((f = -1 → le = 0) ∧ (¬ f = -1 → le = (am (sc (vX s) (s 19) (s 38) l) (s 38 l) (b - s 38 l).toNat).1)) → ((s 103 0 - b).toNat) < n31 → V 31 [some (.inr (some 37)), some (.inl l), some (.inl (s 38 l)), some (.inl ((s 38 (l + 1)) - 1)), some (.inl f), some (.inl le), some (.inl b), none] [] (WW s) 0 0 := by
    intro n31
    induction n31 with
    | zero => intro f le b h1 h2 h3 hm; omega
    | succ n31 ih31 =>
      intro f le b h1 h2 h3 hm
      refine rb_iload hV dX1_secondLast_31 rfl ?_
      refine rb_aload_n hV dX1_secondLast_33 rfl rfl ?_
      refine rb_get hV (v := .inr (some 5)) dX1_secondLast_34 ⟨RX1, TX1, 12, rfl, (Nat.le_of_ble_eq_true rfl), lf_X1_9⟩ (gw_37 _) rfl ?_
      refine rb_get hV (v := .inl (s 103 0)) dX1_secondLast_37 ⟨RX4, TX4, 6, rfl, (Nat.le_of_ble_eq_true rfl), lf_X1_85⟩ (gw_5 _) rfl ?_
      refine rb_icmp_ge hV (tgt := 98) dX1_secondLast_40 (by decide) ⟨(by first | assumption | (unfold ab_r at *; omega)), (by first | assumption | (unfold ab_r at *; omega))⟩ (fun c40 => ?_) (fun c40 => ?_)
      · refine rb_iload hV dX1_secondLast_98 rfl ?_
        refine rb_ret hV (r := some (.inl f)) dX1_secondLast_100 rfl ⟨(Nat.le_of_ble_eq_true rfl), (Nat.le_of_ble_eq_true rfl)⟩ trivial ?_
        have e : b = s 103 0 := by omega
        exact ⟨congrArg (fun z : Int => some (Sum.inl z)) (h2.trans (by rw [e]; rfl)), rfl⟩
      · have hA := am_in (c := sc (vX s) (s 19) (s 38) l) (lo := s 38 l) (b - s 38 l).toNat
        have hAb := am_bnd (c := sc (vX s) (s 19) (s 38) l) (lo := s 38 l) (M := 744200) (by omega) (b - s 38 l).toNat (fun j q1 q2 => (sc_bnd hp hb hl0.1 q1 (by show j < s 103 0; omega)).2)
        have hf0 : 0 ≤ s 38 l := hl0.1
        have hbb : -1 ≤ s 19 (b + 1) ∧ s 19 (b + 1) ≤ 732000 := hb (b + 1) (by omega) (by show b + 1 ≤ s 103 0; omega)
        have hcb := cd_bnd (bs := s 19) hp (show 0 ≤ s 38 l from hl0.1) h1.1 (show b < s 103 0 by omega) hbb.2 (by omega)
        refine rb_iload hV dX1_secondLast_43 rfl ?_
        refine rb_iload_n hV dX1_secondLast_45 rfl rfl ?_
        refine rb_icmp_ne hV (tgt := 53) dX1_secondLast_46 (by decide) ⟨(by first | assumption | (unfold ab_r at *; omega)), (by first | assumption | (unfold ab_r at *; omega))⟩ (fun c46 => ?_) (fun c46 => ?_)
        · have esc : sc (vX s) (s 19) (s 38) l b = cd (vX s) (s 19) (s 38 l) b := if_neg (by omega)
          refine rb_aload_n hV dX1_secondLast_53 rfl rfl ?_
          refine rb_get hV (v := .inr (some 18)) dX1_secondLast_54 ⟨RX1, TX1, 12, rfl, (Nat.le_of_ble_eq_true rfl), lf_X1_23⟩ (gw_37 _) rfl ?_
          refine rb_iload_n hV dX1_secondLast_57 rfl rfl ?_
          refine rb_iload hV dX1_secondLast_58 rfl ?_
          refine rb_callV hV (rest := []) dX1_secondLast_60 (c_X0_sumWith s (s 38 l) b hp hr (show 0 ≤ (s 38 l) ∧ (s 38 l) ≤ b ∧ b < (s 103 0) by omega) (show -1 ≤ (s 19) (b + 1) ∧ (s 19) (b + 1) ≤ 732000 by omega)) lk_X1_88 rfl (Or.inl ⟨0, _, TX0, 4, gw_18 _, rfl⟩) rfl ⟨rfl, rfl, (Nat.le_of_ble_eq_true rfl), (Nat.le_of_ble_eq_true rfl), (Nat.le_of_ble_eq_true rfl), (Nat.le_of_ble_eq_true rfl)⟩ (Nat.le_of_ble_eq_true rfl) (fun r9 h9 p9 => ?_)
          obtain ⟨rfl, rfl⟩ := p9
          show V 63 [some (.inr (some 37)), some (.inl l), some (.inl (s 38 l)), some (.inl ((s 38 (l + 1)) - 1)), some (.inl f), some (.inl le), some (.inl b), none] [.inl (cd (vX s) (s 19) (s 38 l) b)] (WW s) 0 0
          refine rb_istore hV (L2 := [some (.inr (some 37)), some (.inl l), some (.inl (s 38 l)), some (.inl ((s 38 (l + 1)) - 1)), some (.inl f), some (.inl le), some (.inl b), some (.inl (cd (vX s) (s 19) (s 38 l) b))]) dX1_secondLast_63 (Nat.le_of_ble_eq_true rfl) rfl ?_
          refine rb_iload hV dX1_secondLast_65 rfl ?_
          refine rb_iconst hV dX1_secondLast_67 ?_
          refine rb_icmp_eq hV (tgt := 92) dX1_secondLast_68 (by decide) ⟨(by first | assumption | (unfold ab_r at *; omega)), (by first | assumption | (unfold ab_r at *; omega))⟩ (fun c68 => ?_) (fun c68 => ?_)
          · refine rb_iinc hV (L2 := [some (.inr (some 37)), some (.inl l), some (.inl (s 38 l)), some (.inl ((s 38 (l + 1)) - 1)), some (.inl f), some (.inl le), some (.inl (b + 1)), some (.inl (cd (vX s) (s 19) (s 38 l) b))]) dX1_secondLast_92 rfl rfl rfl ?_
            refine rb_goto hV (tgt := 31) dX1_secondLast_95 (by decide) ?_
            refine rb_weak hV (L2 := [some (.inr (some 37)), some (.inl l), some (.inl (s 38 l)), some (.inl ((s 38 (l + 1)) - 1)), some (.inl f), some (.inl le), some (.inl (b + 1)), none]) ⟨rfl, ⟨rfl, ⟨rfl, ⟨rfl, ⟨rfl, ⟨rfl, ⟨rfl, trivial⟩⟩⟩⟩⟩⟩⟩ ?_
            refine ih31 f le (b + 1) ?_ ?_ ?_ ?_
            · omega
            · exact (sec_skip hA h1.1 hf0 h2 h3 esc (by omega)).1
            · exact (sec_skip hA h1.1 hf0 h2 h3 esc (by omega)).2
            · omega
          · refine rb_iload hV dX1_secondLast_71 rfl ?_
            refine rb_iconst hV dX1_secondLast_73 ?_
            refine rb_icmp_eq hV (tgt := 84) dX1_secondLast_74 (by decide) ⟨(by first | assumption | (unfold ab_r at *; omega)), (by first | assumption | (unfold ab_r at *; omega))⟩ (fun c74 => ?_) (fun c74 => ?_)
            · refine rb_iload hV dX1_secondLast_84 rfl ?_
              refine rb_istore hV (L2 := [some (.inr (some 37)), some (.inl l), some (.inl (s 38 l)), some (.inl ((s 38 (l + 1)) - 1)), some (.inl b), some (.inl le), some (.inl b), some (.inl (cd (vX s) (s 19) (s 38 l) b))]) dX1_secondLast_86 (Nat.le_of_ble_eq_true rfl) rfl ?_
              refine rb_iload hV dX1_secondLast_88 rfl ?_
              refine rb_istore hV (L2 := [some (.inr (some 37)), some (.inl l), some (.inl (s 38 l)), some (.inl ((s 38 (l + 1)) - 1)), some (.inl b), some (.inl (cd (vX s) (s 19) (s 38 l) b)), some (.inl b), some (.inl (cd (vX s) (s 19) (s 38 l) b))]) dX1_secondLast_90 (Nat.le_of_ble_eq_true rfl) rfl ?_
              refine rb_iinc hV (L2 := [some (.inr (some 37)), some (.inl l), some (.inl (s 38 l)), some (.inl ((s 38 (l + 1)) - 1)), some (.inl b), some (.inl (cd (vX s) (s 19) (s 38 l) b)), some (.inl (b + 1)), some (.inl (cd (vX s) (s 19) (s 38 l) b))]) dX1_secondLast_92 rfl rfl rfl ?_
              refine rb_goto hV (tgt := 31) dX1_secondLast_95 (by decide) ?_
              refine rb_weak hV (L2 := [some (.inr (some 37)), some (.inl l), some (.inl (s 38 l)), some (.inl ((s 38 (l + 1)) - 1)), some (.inl b), some (.inl (cd (vX s) (s 19) (s 38 l) b)), some (.inl (b + 1)), none]) ⟨rfl, ⟨rfl, ⟨rfl, ⟨rfl, ⟨rfl, ⟨rfl, ⟨rfl, trivial⟩⟩⟩⟩⟩⟩⟩ ?_
              refine ih31 b (cd (vX s) (s 19) (s 38 l) b) (b + 1) ?_ ?_ ?_ ?_
              · omega
              · exact (sec_take hA h1.1 hf0 h2 h3 esc (by omega) (by omega)).1
              · exact (sec_take hA h1.1 hf0 h2 h3 esc (by omega) (by omega)).2
              · omega
            · refine rb_iload hV dX1_secondLast_77 rfl ?_
              refine rb_iload hV dX1_secondLast_79 rfl ?_
              refine rb_icmp_gt hV (tgt := 92) dX1_secondLast_81 (by decide) ⟨(by first | assumption | (unfold ab_r at *; omega)), (by first | assumption | (unfold ab_r at *; omega))⟩ (fun c81 => ?_) (fun c81 => ?_)
              · refine rb_iinc hV (L2 := [some (.inr (some 37)), some (.inl l), some (.inl (s 38 l)), some (.inl ((s 38 (l + 1)) - 1)), some (.inl f), some (.inl le), some (.inl (b + 1)), some (.inl (cd (vX s) (s 19) (s 38 l) b))]) dX1_secondLast_92 rfl rfl rfl ?_
                refine rb_goto hV (tgt := 31) dX1_secondLast_95 (by decide) ?_
                refine rb_weak hV (L2 := [some (.inr (some 37)), some (.inl l), some (.inl (s 38 l)), some (.inl ((s 38 (l + 1)) - 1)), some (.inl f), some (.inl le), some (.inl (b + 1)), none]) ⟨rfl, ⟨rfl, ⟨rfl, ⟨rfl, ⟨rfl, ⟨rfl, ⟨rfl, trivial⟩⟩⟩⟩⟩⟩⟩ ?_
                refine ih31 f le (b + 1) ?_ ?_ ?_ ?_
                · omega
                · exact (sec_skip hA h1.1 hf0 h2 h3 esc (by omega)).1
                · exact (sec_skip hA h1.1 hf0 h2 h3 esc (by omega)).2
                · omega
              · refine rb_iload hV dX1_secondLast_84 rfl ?_
                refine rb_istore hV (L2 := [some (.inr (some 37)), some (.inl l), some (.inl (s 38 l)), some (.inl ((s 38 (l + 1)) - 1)), some (.inl b), some (.inl le), some (.inl b), some (.inl (cd (vX s) (s 19) (s 38 l) b))]) dX1_secondLast_86 (Nat.le_of_ble_eq_true rfl) rfl ?_
                refine rb_iload hV dX1_secondLast_88 rfl ?_
                refine rb_istore hV (L2 := [some (.inr (some 37)), some (.inl l), some (.inl (s 38 l)), some (.inl ((s 38 (l + 1)) - 1)), some (.inl b), some (.inl (cd (vX s) (s 19) (s 38 l) b)), some (.inl b), some (.inl (cd (vX s) (s 19) (s 38 l) b))]) dX1_secondLast_90 (Nat.le_of_ble_eq_true rfl) rfl ?_
                refine rb_iinc hV (L2 := [some (.inr (some 37)), some (.inl l), some (.inl (s 38 l)), some (.inl ((s 38 (l + 1)) - 1)), some (.inl b), some (.inl (cd (vX s) (s 19) (s 38 l) b)), some (.inl (b + 1)), some (.inl (cd (vX s) (s 19) (s 38 l) b))]) dX1_secondLast_92 rfl rfl rfl ?_
                refine rb_goto hV (tgt := 31) dX1_secondLast_95 (by decide) ?_
                refine rb_weak hV (L2 := [some (.inr (some 37)), some (.inl l), some (.inl (s 38 l)), some (.inl ((s 38 (l + 1)) - 1)), some (.inl b), some (.inl (cd (vX s) (s 19) (s 38 l) b)), some (.inl (b + 1)), none]) ⟨rfl, ⟨rfl, ⟨rfl, ⟨rfl, ⟨rfl, ⟨rfl, ⟨rfl, trivial⟩⟩⟩⟩⟩⟩⟩ ?_
                refine ih31 b (cd (vX s) (s 19) (s 38 l) b) (b + 1) ?_ ?_ ?_ ?_
                · omega
                · exact (sec_take hA h1.1 hf0 h2 h3 esc (by omega) (by omega)).1
                · exact (sec_take hA h1.1 hf0 h2 h3 esc (by omega) (by omega)).2
                · omega
        · have esc : sc (vX s) (s 19) (s 38) l b = -1 := if_pos (by omega)
          refine rb_iconst hV dX1_secondLast_49 ?_
          refine rb_goto hV (tgt := 63) dX1_secondLast_50 (by decide) ?_
          refine rb_istore hV (L2 := [some (.inr (some 37)), some (.inl l), some (.inl (s 38 l)), some (.inl ((s 38 (l + 1)) - 1)), some (.inl f), some (.inl le), some (.inl b), some (.inl (-1))]) dX1_secondLast_63 (Nat.le_of_ble_eq_true rfl) rfl ?_
          refine rb_iload hV dX1_secondLast_65 rfl ?_
          refine rb_iconst hV dX1_secondLast_67 ?_
          refine rb_icmp_eq hV (tgt := 92) dX1_secondLast_68 (by decide) ⟨(by first | assumption | (unfold ab_r at *; omega)), (by first | assumption | (unfold ab_r at *; omega))⟩ (fun _ => ?_) (fun z => absurd z (by decide))
          refine rb_iinc hV (L2 := [some (.inr (some 37)), some (.inl l), some (.inl (s 38 l)), some (.inl ((s 38 (l + 1)) - 1)), some (.inl f), some (.inl le), some (.inl (b + 1)), some (.inl (-1))]) dX1_secondLast_92 rfl rfl rfl ?_
          refine rb_goto hV (tgt := 31) dX1_secondLast_95 (by decide) ?_
          refine rb_weak hV (L2 := [some (.inr (some 37)), some (.inl l), some (.inl (s 38 l)), some (.inl ((s 38 (l + 1)) - 1)), some (.inl f), some (.inl le), some (.inl (b + 1)), none]) ⟨rfl, ⟨rfl, ⟨rfl, ⟨rfl, ⟨rfl, ⟨rfl, ⟨rfl, trivial⟩⟩⟩⟩⟩⟩⟩ ?_
          refine ih31 f le (b + 1) ?_ ?_ ?_ ?_
          · omega
          · exact (sec_skip hA h1.1 hf0 h2 h3 esc (by omega)).1
          · exact (sec_skip hA h1.1 hf0 h2 h3 esc (by omega)).2
          · omega
  refine h31 _ (-1) 0 (s 38 l) ?_ ?_ ?_ (Nat.lt_succ_self _)
  · omega
  · rw [am_0]
  · rw [am_0]; exact ⟨fun _ => rfl, fun z => absurd rfl z⟩
