theorem M_sp (s : Nat → Int → Int) (a b : Int) : Sm (fun v => s 50 (3 * s 53 v + 0)) a b - Sm (fun v => s 50 (3 * s 53 v + 1)) a b = - sh (vM s) a b ∧ Sm (fun v => s 50 (3 * s 53 v + 2)) a b - Sm (fun v => s 50 (3 * s 53 v + 1)) a b = st (vM s) a b := by
  have e : Sm (fun v => s 50 (3 * s 53 v + 0)) a b = Sm (fun v => s 50 (3 * s 53 v)) a b := Sm_congr fun j _ _ => by rw [Int.add_zero]
  have e2 : sh (vM s) a b = Sm (fun v => s 50 (3 * s 53 v + 1)) a b - Sm (fun v => s 50 (3 * s 53 v)) a b := Sm_sub (fun v => s 50 (3 * s 53 v + 1)) (fun v => s 50 (3 * s 53 v)) a b
  have e3 : st (vM s) a b = Sm (fun v => s 50 (3 * s 53 v + 2)) a b - Sm (fun v => s 50 (3 * s 53 v + 1)) a b := Sm_sub (fun v => s 50 (3 * s 53 v + 2)) (fun v => s 50 (3 * s 53 v + 1)) a b
  rw [e, e2, e3]
  omega

set_option maxRecDepth 20000 in
theorem c_X10_natural (s : Nat → Int → Int) (hp : PI (vM s)) (a b : Int) (h0 : 0 ≤ a) (hab : a ≤ b) (hbn : b < s 120 0) : ab_Mt yX10_natural cX10_natural 5 (some .int) ({ frames := 1, cells := 0, slots := 0, locals := 25 } : Room) false 0 0 [.inr (some 49), .inl a, .inl b] (WW s) (fun r h2 => r = some (.inl (nt (vM s) a b)) ∧ h2 = WW s) := by
  refine ab_mk RX10 false rfl pn_X10_natural (fun z => by cases z) (Nat.le_of_ble_eq_true rfl) (fun V hV => ?_)
  show V 0 [some (.inr (some 49)), some (.inl a), some (.inl b), none, none] [] (WW s) 0 0
  have hn : 0 ≤ s 120 0 ∧ s 120 0 ≤ 60 := hp.1
  have hms : 10 ≤ s 117 0 ∧ s 117 0 ≤ 200 := hp.2.2.1
  refine rb_aload_n hV dX10_natural_0 rfl rfl ?_
  refine rb_iload_n hV dX10_natural_1 rfl rfl ?_
  refine rb_iload_n hV dX10_natural_2 rfl rfl ?_
  refine rb_iconst hV dX10_natural_3 ?_
  refine rb_callV hV (rest := []) dX10_natural_4 (c_X10_spaces s hp a b 1 (by omega) (by decide)) lk_X10_150 rfl (Or.inl ⟨9, _, TX10, 24, gw_49 _, rfl⟩) rfl ⟨rfl, rfl, (Nat.le_of_ble_eq_true rfl), (Nat.le_of_ble_eq_true rfl), (Nat.le_of_ble_eq_true rfl), (Nat.le_of_ble_eq_true rfl)⟩ (Nat.le_of_ble_eq_true rfl) (fun r9 h9 p9 => ?_)
  obtain ⟨rfl, rfl⟩ := p9
  show V 7 [some (.inr (some 49)), some (.inl a), some (.inl b), none, none] [.inl (Sm (fun v => s 50 (3 * s 53 v + 1)) a b)] (WW s) 0 0
  refine rb_aload_n hV dX10_natural_7 rfl rfl ?_
  refine rb_iload_n hV dX10_natural_8 rfl rfl ?_
  refine rb_callV hV (rest := [.inl (Sm (fun v => s 50 (3 * s 53 v + 1)) a b)]) dX10_natural_9 (c_X10_hangLeft s hp a (by omega)) lk_X10_154 rfl (Or.inl ⟨9, _, TX10, 24, gw_49 _, rfl⟩) rfl ⟨rfl, rfl, (Nat.le_of_ble_eq_true rfl), (Nat.le_of_ble_eq_true rfl), (Nat.le_of_ble_eq_true rfl), (Nat.le_of_ble_eq_true rfl)⟩ (Nat.le_of_ble_eq_true rfl) (fun r9 h9 p9 => ?_)
  obtain ⟨rfl, rfl⟩ := p9
  show V 12 [some (.inr (some 49)), some (.inl a), some (.inl b), none, none] [.inl (hL (vM s) a), .inl (Sm (fun v => s 50 (3 * s 53 v + 1)) a b)] (WW s) 0 0
  refine rb_isub hV dX10_natural_12 ?_
  refine rb_aload_n hV dX10_natural_13 rfl rfl ?_
  refine rb_iload_n hV dX10_natural_14 rfl rfl ?_
  refine rb_callV hV (rest := [.inl ((Sm (fun v => s 50 (3 * s 53 v + 1)) a b) - (hL (vM s) a))]) dX10_natural_15 (c_X10_hangRight s hp b (by omega)) lk_X10_157 rfl (Or.inl ⟨9, _, TX10, 24, gw_49 _, rfl⟩) rfl ⟨rfl, rfl, (Nat.le_of_ble_eq_true rfl), (Nat.le_of_ble_eq_true rfl), (Nat.le_of_ble_eq_true rfl), (Nat.le_of_ble_eq_true rfl)⟩ (Nat.le_of_ble_eq_true rfl) (fun r9 h9 p9 => ?_)
  obtain ⟨rfl, rfl⟩ := p9
  show V 18 [some (.inr (some 49)), some (.inl a), some (.inl b), none, none] [.inl (hR (vM s) b), .inl ((Sm (fun v => s 50 (3 * s 53 v + 1)) a b) - (hL (vM s) a))] (WW s) 0 0
  refine rb_isub hV dX10_natural_18 ?_
  refine rb_istore_n hV (L2 := [some (.inr (some 49)), some (.inl a), some (.inl b), some (.inl (((Sm (fun v => s 50 (3 * s 53 v + 1)) a b) - (hL (vM s) a)) - (hR (vM s) b))), none]) dX10_natural_19 rfl (Nat.le_of_ble_eq_true rfl) rfl ?_
  refine rb_iload_n hV dX10_natural_20 rfl rfl ?_
  refine rb_istore hV (L2 := [some (.inr (some 49)), some (.inl a), some (.inl b), some (.inl (((Sm (fun v => s 50 (3 * s 53 v + 1)) a b) - (hL (vM s) a)) - (hR (vM s) b))), some (.inl a)]) dX10_natural_21 (Nat.le_of_ble_eq_true rfl) rfl ?_
  have h23 : ∀ (n23 : Nat) (u : Int) (k : Int), (a ≤ k ∧ k ≤ b + 1) → (u = (Sm (fun v => s 50 (3 * s 53 v + 1)) a b) - hL (vM s) a - hR (vM s) b + Sm (s 51) a k) → ((b + 1 - k).toNat) < n23 → V 23 [some (.inr (some 49)), some (.inl a), some (.inl b), some (.inl u), some (.inl k)] [] (WW s) 0 0 := by
    intro n23
    induction n23 with
    | zero => intro u k h1 h2 hm; omega
    | succ n23 ih23 =>
      intro u k h1 h2 hm
      refine rb_iload hV dX10_natural_23 rfl ?_
      refine rb_iload_n hV dX10_natural_25 rfl rfl ?_
      refine rb_icmp_gt hV (tgt := 45) dX10_natural_26 (by decide) ⟨(by unfold ab_r at *; omega), (by unfold ab_r at *; omega)⟩ (fun c26 => ?_) (fun c26 => ?_)
      · refine rb_iload_n hV dX10_natural_45 rfl rfl ?_
        refine rb_ret hV (r := some (.inl u)) dX10_natural_46 rfl ⟨(Nat.le_of_ble_eq_true rfl), (Nat.le_of_ble_eq_true rfl)⟩ trivial ?_
        refine ⟨congrArg (fun z : Int => some (Sum.inl z)) ?_, rfl⟩
        have e : nt (vM s) a b = Sm (s 51) a (b + 1) + (Sm (fun v => s 50 (3 * s 53 v + 1)) a b) - hL (vM s) a - hR (vM s) b := rfl
        rw [h2, e, show k = b + 1 by omega]
        omega
      · refine rb_iload_n hV dX10_natural_29 rfl rfl ?_
        refine rb_aload_n hV dX10_natural_30 rfl rfl ?_
        refine rb_get hV (v := .inr (some 51)) dX10_natural_31 ⟨RX10, TX10, 24, rfl, (Nat.le_of_ble_eq_true rfl), lf_X10_23⟩ (gw_49 _) rfl ?_
        refine rb_iload hV dX10_natural_34 rfl ?_
        refine rb_iald hV (f := (s 51)) dX10_natural_36 (gw_51 _) (Nat.le_of_ble_eq_true rfl) (by omega) ?_
        refine rb_iadd hV dX10_natural_37 ?_
        refine rb_istore_n hV (L2 := [some (.inr (some 49)), some (.inl a), some (.inl b), some (.inl (u + (s 51 k))), some (.inl k)]) dX10_natural_38 rfl (Nat.le_of_ble_eq_true rfl) rfl ?_
        refine rb_iinc hV (L2 := [some (.inr (some 49)), some (.inl a), some (.inl b), some (.inl (u + (s 51 k))), some (.inl (k + 1))]) dX10_natural_39 rfl rfl rfl ?_
        refine rb_goto hV (tgt := 23) dX10_natural_42 (by decide) ?_
        refine ih23 (u + (s 51 k)) (k + 1) ?_ ?_ ?_
        · omega
        · rw [Sm_succ _ h1.1, h2]
          omega
        · omega
  refine h23 _ (((Sm (fun v => s 50 (3 * s 53 v + 1)) a b) - (hL (vM s) a)) - (hR (vM s) b)) a ?_ ?_ (Nat.lt_succ_self _)
  · omega
  · rw [Sm_self, Int.add_zero]

set_option maxRecDepth 20000 in
theorem c_X10_difference (s : Nat → Int → Int) (hp : PI (vM s)) (a b : Int) (h0 : 0 ≤ a) (hab : a ≤ b) (hbn : b < s 120 0) : ab_Mt yX10_difference cX10_difference 3 (some .int) ({ frames := 2, cells := 0, slots := 0, locals := 49 } : Room) false 0 0 [.inr (some 49), .inl a, .inl b] (WW s) (fun r h2 => r = some (.inl (df (vM s) a b)) ∧ h2 = WW s) := by
  refine ab_mk RX10 false rfl pn_X10_difference (fun z => by cases z) (Nat.le_of_ble_eq_true rfl) (fun V hV => ?_)
  show V 0 [some (.inr (some 49)), some (.inl a), some (.inl b)] [] (WW s) 0 0
  have hn : 0 ≤ s 120 0 ∧ s 120 0 ≤ 60 := hp.1
  have hms : 10 ≤ s 117 0 ∧ s 117 0 ≤ 200 := hp.2.2.1
  refine rb_aload_n hV dX10_difference_0 rfl rfl ?_
  refine rb_get hV (v := .inl (s 117 0)) dX10_difference_1 ⟨RX10, TX10, 24, rfl, (Nat.le_of_ble_eq_true rfl), lf_X10_7⟩ (gw_49 _) rfl ?_
  refine rb_aload_n hV dX10_difference_4 rfl rfl ?_
  refine rb_iload_n hV dX10_difference_5 rfl rfl ?_
  refine rb_iload_n hV dX10_difference_6 rfl rfl ?_
  refine rb_callV hV (rest := [.inl (s 117 0)]) dX10_difference_7 (c_X10_natural s hp a b (by omega) (by omega) (by omega)) lk_X10_160 rfl (Or.inl ⟨9, _, TX10, 24, gw_49 _, rfl⟩) rfl ⟨rfl, rfl, (Nat.le_of_ble_eq_true rfl), (Nat.le_of_ble_eq_true rfl), (Nat.le_of_ble_eq_true rfl), (Nat.le_of_ble_eq_true rfl)⟩ (Nat.le_of_ble_eq_true rfl) (fun r9 h9 p9 => ?_)
  obtain ⟨rfl, rfl⟩ := p9
  show V 10 [some (.inr (some 49)), some (.inl a), some (.inl b)] [.inl (nt (vM s) a b), .inl (s 117 0)] (WW s) 0 0
  refine rb_isub hV dX10_difference_10 ?_
  refine rb_ret hV (r := some (.inl ((s 117 0) - (nt (vM s) a b)))) dX10_difference_11 rfl ⟨(Nat.le_of_ble_eq_true rfl), (Nat.le_of_ble_eq_true rfl)⟩ trivial ?_
  exact ⟨rfl, rfl⟩

set_option maxRecDepth 20000 in
theorem c_X10_isLast (s : Nat → Int → Int) (hp : PI (vM s)) (b : Int) (hb0 : ab_r b) : ab_Mt yX10_isLast cX10_isLast 2 (some .boolean) ({ frames := 0, cells := 0, slots := 0, locals := 0 } : Room) false 0 0 [.inr (some 49), .inl b] (WW s) (fun r h2 => r = some (.inl (if b = s 120 0 - 1 then 1 else 0)) ∧ h2 = WW s) := by
  refine ab_mk RX10 false rfl pn_X10_isLast (fun z => by cases z) (Nat.le_of_ble_eq_true rfl) (fun V hV => ?_)
  show V 0 [some (.inr (some 49)), some (.inl b)] [] (WW s) 0 0
  have hn : 0 ≤ s 120 0 ∧ s 120 0 ≤ 60 := hp.1
  have hms : 10 ≤ s 117 0 ∧ s 117 0 ≤ 200 := hp.2.2.1
  refine rb_iload_n hV dX10_isLast_0 rfl rfl ?_
  refine rb_aload_n hV dX10_isLast_1 rfl rfl ?_
  refine rb_get hV (v := .inl (s 120 0)) dX10_isLast_2 ⟨RX10, TX10, 24, rfl, (Nat.le_of_ble_eq_true rfl), lf_X10_90⟩ (gw_49 _) rfl ?_
  refine rb_iconst hV dX10_isLast_5 ?_
  refine rb_isub hV dX10_isLast_6 ?_
  refine rb_icmp_ne hV (tgt := 14) dX10_isLast_7 (by decide) ⟨(by unfold ab_r at *; omega), (by unfold ab_r at *; omega)⟩ (fun c7 => ?_) (fun c7 => ?_)
  · refine rb_iconst hV dX10_isLast_14 ?_
    refine rb_ret hV (r := some (.inl 0)) dX10_isLast_15 rfl ⟨(Nat.le_of_ble_eq_true rfl), (Nat.le_of_ble_eq_true rfl)⟩ (by first | exact Or.inl rfl | exact Or.inr rfl | omega) ?_
    exact ⟨congrArg (fun z : Int => some (Sum.inl z)) (if_neg (by omega)).symm, rfl⟩
  · refine rb_iconst hV dX10_isLast_10 ?_
    refine rb_goto hV (tgt := 15) dX10_isLast_11 (by decide) ?_
    refine rb_ret hV (r := some (.inl 1)) dX10_isLast_15 rfl ⟨(Nat.le_of_ble_eq_true rfl), (Nat.le_of_ble_eq_true rfl)⟩ (by first | exact Or.inl rfl | exact Or.inr rfl | omega) ?_
    exact ⟨congrArg (fun z : Int => some (Sum.inl z)) (if_pos (by omega)).symm, rfl⟩

set_option maxRecDepth 20000 in
theorem c_X10_isPossible (s : Nat → Int → Int) (hp : PI (vM s)) (a b : Int) (h0 : 0 ≤ a) (hab : a ≤ b) (hbn : b < s 120 0) : ab_Mt yX10_isPossible cX10_isPossible 5 (some .boolean) ({ frames := 3, cells := 0, slots := 0, locals := 71 } : Room) false 0 0 [.inr (some 49), .inl a, .inl b] (WW s) (fun r h2 => r = some (.inl (if ps (vM s) a b = true then 1 else 0)) ∧ h2 = WW s) := by
  refine ab_mk RX10 false rfl pn_X10_isPossible (fun z => by cases z) (Nat.le_of_ble_eq_true rfl) (fun V hV => ?_)
  show V 0 [some (.inr (some 49)), some (.inl a), some (.inl b), none, none] [] (WW s) 0 0
  have hn : 0 ≤ s 120 0 ∧ s 120 0 ≤ 60 := hp.1
  have hms : 10 ≤ s 117 0 ∧ s 117 0 ≤ 200 := hp.2.2.1
  have e0 : vM s 0 0 = s 120 0 := rfl
  have hdb := df_b hp h0 hab hbn
  have hsb := st_b hp (a := a) (b := b) h0 hab (by omega)
  have hhb := sh_b hp (a := a) (b := b) h0 hab (by omega)
  have hsp := M_sp s a b
  refine rb_aload_n hV dX10_isPossible_0 rfl rfl ?_
  refine rb_iload_n hV dX10_isPossible_1 rfl rfl ?_
  refine rb_iload_n hV dX10_isPossible_2 rfl rfl ?_
  refine rb_callV hV (rest := []) dX10_isPossible_3 (c_X10_difference s hp a b (by omega) (by omega) (by omega)) lk_X10_163 rfl (Or.inl ⟨9, _, TX10, 24, gw_49 _, rfl⟩) rfl ⟨rfl, rfl, (Nat.le_of_ble_eq_true rfl), (Nat.le_of_ble_eq_true rfl), (Nat.le_of_ble_eq_true rfl), (Nat.le_of_ble_eq_true rfl)⟩ (Nat.le_of_ble_eq_true rfl) (fun r9 h9 p9 => ?_)
  obtain ⟨rfl, rfl⟩ := p9
  show V 6 [some (.inr (some 49)), some (.inl a), some (.inl b), none, none] [.inl (df (vM s) a b)] (WW s) 0 0
  refine rb_istore_n hV (L2 := [some (.inr (some 49)), some (.inl a), some (.inl b), some (.inl (df (vM s) a b)), none]) dX10_isPossible_6 rfl (Nat.le_of_ble_eq_true rfl) rfl ?_
  refine rb_aload_n hV dX10_isPossible_7 rfl rfl ?_
  refine rb_iload_n hV dX10_isPossible_8 rfl rfl ?_
  refine rb_iload_n hV dX10_isPossible_9 rfl rfl ?_
  refine rb_iconst hV dX10_isPossible_10 ?_
  refine rb_callV hV (rest := []) dX10_isPossible_11 (c_X10_spaces s hp a b 1 (by omega) (by decide)) lk_X10_150 rfl (Or.inl ⟨9, _, TX10, 24, gw_49 _, rfl⟩) rfl ⟨rfl, rfl, (Nat.le_of_ble_eq_true rfl), (Nat.le_of_ble_eq_true rfl), (Nat.le_of_ble_eq_true rfl), (Nat.le_of_ble_eq_true rfl)⟩ (Nat.le_of_ble_eq_true rfl) (fun r9 h9 p9 => ?_)
  obtain ⟨rfl, rfl⟩ := p9
  show V 14 [some (.inr (some 49)), some (.inl a), some (.inl b), some (.inl (df (vM s) a b)), none] [.inl (Sm (fun v => s 50 (3 * s 53 v + 1)) a b)] (WW s) 0 0
  refine rb_istore hV (L2 := [some (.inr (some 49)), some (.inl a), some (.inl b), some (.inl (df (vM s) a b)), some (.inl (Sm (fun v => s 50 (3 * s 53 v + 1)) a b))]) dX10_isPossible_14 (Nat.le_of_ble_eq_true rfl) rfl ?_
  refine rb_iload_n hV dX10_isPossible_16 rfl rfl ?_
  refine rb_aload_n hV dX10_isPossible_17 rfl rfl ?_
  refine rb_iload_n hV dX10_isPossible_18 rfl rfl ?_
  refine rb_iload_n hV dX10_isPossible_19 rfl rfl ?_
  refine rb_iconst hV dX10_isPossible_20 ?_
  refine rb_callV hV (rest := [.inl (df (vM s) a b)]) dX10_isPossible_21 (c_X10_spaces s hp a b 0 (by omega) (by decide)) lk_X10_150 rfl (Or.inl ⟨9, _, TX10, 24, gw_49 _, rfl⟩) rfl ⟨rfl, rfl, (Nat.le_of_ble_eq_true rfl), (Nat.le_of_ble_eq_true rfl), (Nat.le_of_ble_eq_true rfl), (Nat.le_of_ble_eq_true rfl)⟩ (Nat.le_of_ble_eq_true rfl) (fun r9 h9 p9 => ?_)
  obtain ⟨rfl, rfl⟩ := p9
  show V 24 [some (.inr (some 49)), some (.inl a), some (.inl b), some (.inl (df (vM s) a b)), some (.inl (Sm (fun v => s 50 (3 * s 53 v + 1)) a b))] [.inl (Sm (fun v => s 50 (3 * s 53 v + 0)) a b), .inl (df (vM s) a b)] (WW s) 0 0
  refine rb_iload hV dX10_isPossible_24 rfl ?_
  refine rb_isub hV dX10_isPossible_26 ?_
  refine rb_icmp_lt hV (tgt := 56) dX10_isPossible_27 (by decide) ⟨(by unfold ab_r at *; omega), (by unfold ab_r at *; omega)⟩ (fun c27 => ?_) (fun c27 => ?_)
  · refine rb_iconst hV dX10_isPossible_56 ?_
    refine rb_ret hV (r := some (.inl 0)) dX10_isPossible_57 rfl ⟨(Nat.le_of_ble_eq_true rfl), (Nat.le_of_ble_eq_true rfl)⟩ (by first | exact Or.inl rfl | exact Or.inr rfl | omega) ?_
    exact ⟨congrArg (fun z : Int => some (Sum.inl z)) (if_neg (fun q => by have := ps_iff.mp q; omega)).symm, rfl⟩
  · refine rb_aload_n hV dX10_isPossible_30 rfl rfl ?_
    refine rb_iload_n hV dX10_isPossible_31 rfl rfl ?_
    refine rb_callV hV (rest := []) dX10_isPossible_32 (c_X10_isLast s hp b (by unfold ab_r; omega)) lk_X10_166 rfl (Or.inl ⟨9, _, TX10, 24, gw_49 _, rfl⟩) rfl ⟨rfl, rfl, (Nat.le_of_ble_eq_true rfl), (Nat.le_of_ble_eq_true rfl), (Nat.le_of_ble_eq_true rfl), (Nat.le_of_ble_eq_true rfl)⟩ (Nat.le_of_ble_eq_true rfl) (fun r9 h9 p9 => ?_)
    obtain ⟨rfl, rfl⟩ := p9
    show V 35 [some (.inr (some 49)), some (.inl a), some (.inl b), some (.inl (df (vM s) a b)), some (.inl (Sm (fun v => s 50 (3 * s 53 v + 1)) a b))] [.inl (if b = (s 120 0) - 1 then 1 else 0)] (WW s) 0 0
    by_cases e32 : b = (s 120 0) - 1
    · rw [if_pos e32]
      show V 35 [some (.inr (some 49)), some (.inl a), some (.inl b), some (.inl (df (vM s) a b)), some (.inl (Sm (fun v => s 50 (3 * s 53 v + 1)) a b))] [.inl 1] (WW s) 0 0
      refine rb_if_ne hV (tgt := 52) dX10_isPossible_35 (by decide) (by unfold ab_r at *; omega) (fun _ => ?_) (fun z => absurd z (by decide))
      refine rb_iconst hV dX10_isPossible_52 ?_
      refine rb_goto hV (tgt := 57) dX10_isPossible_53 (by decide) ?_
      refine rb_ret hV (r := some (.inl 1)) dX10_isPossible_57 rfl ⟨(Nat.le_of_ble_eq_true rfl), (Nat.le_of_ble_eq_true rfl)⟩ (by first | exact Or.inl rfl | exact Or.inr rfl | omega) ?_
      exact ⟨congrArg (fun z : Int => some (Sum.inl z)) (if_pos (ps_iff.mpr ⟨by omega, by omega⟩)).symm, rfl⟩
    · rw [if_neg e32]
      show V 35 [some (.inr (some 49)), some (.inl a), some (.inl b), some (.inl (df (vM s) a b)), some (.inl (Sm (fun v => s 50 (3 * s 53 v + 1)) a b))] [.inl 0] (WW s) 0 0
      refine rb_if_ne hV (tgt := 52) dX10_isPossible_35 (by decide) (by unfold ab_r at *; omega) (fun z => absurd z (by decide)) (fun _ => ?_)
      refine rb_iload_n hV dX10_isPossible_38 rfl rfl ?_
      refine rb_aload_n hV dX10_isPossible_39 rfl rfl ?_
      refine rb_iload_n hV dX10_isPossible_40 rfl rfl ?_
      refine rb_iload_n hV dX10_isPossible_41 rfl rfl ?_
      refine rb_iconst hV dX10_isPossible_42 ?_
      refine rb_callV hV (rest := [.inl (df (vM s) a b)]) dX10_isPossible_43 (c_X10_spaces s hp a b 2 (by omega) (by decide)) lk_X10_150 rfl (Or.inl ⟨9, _, TX10, 24, gw_49 _, rfl⟩) rfl ⟨rfl, rfl, (Nat.le_of_ble_eq_true rfl), (Nat.le_of_ble_eq_true rfl), (Nat.le_of_ble_eq_true rfl), (Nat.le_of_ble_eq_true rfl)⟩ (Nat.le_of_ble_eq_true rfl) (fun r9 h9 p9 => ?_)
      obtain ⟨rfl, rfl⟩ := p9
      show V 46 [some (.inr (some 49)), some (.inl a), some (.inl b), some (.inl (df (vM s) a b)), some (.inl (Sm (fun v => s 50 (3 * s 53 v + 1)) a b))] [.inl (Sm (fun v => s 50 (3 * s 53 v + 2)) a b), .inl (df (vM s) a b)] (WW s) 0 0
      refine rb_iload hV dX10_isPossible_46 rfl ?_
      refine rb_isub hV dX10_isPossible_48 ?_
      refine rb_icmp_gt hV (tgt := 56) dX10_isPossible_49 (by decide) ⟨(by unfold ab_r at *; omega), (by unfold ab_r at *; omega)⟩ (fun c49 => ?_) (fun c49 => ?_)
      · refine rb_iconst hV dX10_isPossible_56 ?_
        refine rb_ret hV (r := some (.inl 0)) dX10_isPossible_57 rfl ⟨(Nat.le_of_ble_eq_true rfl), (Nat.le_of_ble_eq_true rfl)⟩ (by first | exact Or.inl rfl | exact Or.inr rfl | omega) ?_
        exact ⟨congrArg (fun z : Int => some (Sum.inl z)) (if_neg (fun q => by have := ps_iff.mp q; omega)).symm, rfl⟩
      · refine rb_iconst hV dX10_isPossible_52 ?_
        refine rb_goto hV (tgt := 57) dX10_isPossible_53 (by decide) ?_
        refine rb_ret hV (r := some (.inl 1)) dX10_isPossible_57 rfl ⟨(Nat.le_of_ble_eq_true rfl), (Nat.le_of_ble_eq_true rfl)⟩ (by first | exact Or.inl rfl | exact Or.inr rfl | omega) ?_
        exact ⟨congrArg (fun z : Int => some (Sum.inl z)) (if_pos (ps_iff.mpr ⟨by omega, by omega⟩)).symm, rfl⟩

set_option maxRecDepth 20000 in
theorem c_X10_badness (s : Nat → Int → Int) (hp : PI (vM s)) (a b : Int) (h0 : 0 ≤ a) (hab : a ≤ b) (hbn : b < s 120 0) (hps : ps (vM s) a b = true) : ab_Mt yX10_badness cX10_badness 5 (some .int) ({ frames := 3, cells := 0, slots := 0, locals := 71 } : Room) false 0 0 [.inr (some 49), .inl a, .inl b] (WW s) (fun r h2 => r = some (.inl (bd (vM s) a b)) ∧ h2 = WW s) := by
  refine ab_mk RX10 false rfl pn_X10_badness (fun z => by cases z) (Nat.le_of_ble_eq_true rfl) (fun V hV => ?_)
  show V 0 [some (.inr (some 49)), some (.inl a), some (.inl b), none, none] [] (WW s) 0 0
  have hn : 0 ≤ s 120 0 ∧ s 120 0 ≤ 60 := hp.1
  have hms : 10 ≤ s 117 0 ∧ s 117 0 ≤ 200 := hp.2.2.1
  have e0 : vM s 0 0 = s 120 0 := rfl
  have hdb := df_b hp h0 hab hbn
  have hsb := st_b hp (a := a) (b := b) h0 hab (by omega)
  have hhb := sh_b hp (a := a) (b := b) h0 hab (by omega)
  have hsp := M_sp s a b
  refine rb_aload_n hV dX10_badness_0 rfl rfl ?_
  refine rb_iload_n hV dX10_badness_1 rfl rfl ?_
  refine rb_iload_n hV dX10_badness_2 rfl rfl ?_
  refine rb_callV hV (rest := []) dX10_badness_3 (c_X10_difference s hp a b (by omega) (by omega) (by omega)) lk_X10_163 rfl (Or.inl ⟨9, _, TX10, 24, gw_49 _, rfl⟩) rfl ⟨rfl, rfl, (Nat.le_of_ble_eq_true rfl), (Nat.le_of_ble_eq_true rfl), (Nat.le_of_ble_eq_true rfl), (Nat.le_of_ble_eq_true rfl)⟩ (Nat.le_of_ble_eq_true rfl) (fun r9 h9 p9 => ?_)
  obtain ⟨rfl, rfl⟩ := p9
  show V 6 [some (.inr (some 49)), some (.inl a), some (.inl b), none, none] [.inl (df (vM s) a b)] (WW s) 0 0
  refine rb_istore_n hV (L2 := [some (.inr (some 49)), some (.inl a), some (.inl b), some (.inl (df (vM s) a b)), none]) dX10_badness_6 rfl (Nat.le_of_ble_eq_true rfl) rfl ?_
  refine rb_iload_n hV dX10_badness_7 rfl rfl ?_
  refine rb_if_eq hV (tgt := 23) dX10_badness_8 (by decide) (by unfold ab_r at *; omega) (fun c8 => ?_) (fun c8 => ?_)
  · refine rb_iconst hV dX10_badness_23 ?_
    refine rb_ret hV (r := some (.inl 0)) dX10_badness_24 rfl ⟨(Nat.le_of_ble_eq_true rfl), (Nat.le_of_ble_eq_true rfl)⟩ trivial ?_
    exact ⟨congrArg (fun z : Int => some (Sum.inl z)) (show bd (vM s) a b = 0 from if_pos (by omega)).symm, rfl⟩
  · refine rb_iload_n hV dX10_badness_11 rfl rfl ?_
    refine rb_if_le hV (tgt := 25) dX10_badness_12 (by decide) (by unfold ab_r at *; omega) (fun c12 => ?_) (fun c12 => ?_)
    · have hnz : ¬ (df (vM s) a b = 0 ∨ (0 < df (vM s) a b ∧ b = vM s 0 0 - 1)) := by omega
      have hrm := rmm_b hp h0 hab hbn hps hnz
      have hq := sq_r hrm.2.2.1 hrm.2.2.2 (by omega) hrm.2.1
      have hq1 : 1 * 1 ≤ rmm (vM s) a b * rmm (vM s) a b := Int.mul_le_mul hrm.1 hrm.1 (by omega) (by omega)
      have hA : 0 < df (vM s) a b → ((Sm (fun v => s 50 (3 * s 53 v + 2)) a b) - (Sm (fun v => s 50 (3 * s 53 v + 1)) a b)) * ((Sm (fun v => s 50 (3 * s 53 v + 2)) a b) - (Sm (fun v => s 50 (3 * s 53 v + 1)) a b)) = rmm (vM s) a b * rmm (vM s) a b := fun q => by
        have e : rmm (vM s) a b = st (vM s) a b := if_pos q
        rw [hsp.2, e]
      have hB : ¬ 0 < df (vM s) a b → ((Sm (fun v => s 50 (3 * s 53 v + 0)) a b) - (Sm (fun v => s 50 (3 * s 53 v + 1)) a b)) * ((Sm (fun v => s 50 (3 * s 53 v + 0)) a b) - (Sm (fun v => s 50 (3 * s 53 v + 1)) a b)) = rmm (vM s) a b * rmm (vM s) a b := fun q => by
        have e : rmm (vM s) a b = sh (vM s) a b := if_neg q
        rw [hsp.1, e, Int.neg_mul_neg]
      refine rb_aload_n hV dX10_badness_25 rfl rfl ?_
      refine rb_iload_n hV dX10_badness_26 rfl rfl ?_
      refine rb_iload_n hV dX10_badness_27 rfl rfl ?_
      refine rb_iload_n hV dX10_badness_28 rfl rfl ?_
      refine rb_if_le hV (tgt := 36) dX10_badness_29 (by decide) (by unfold ab_r at *; omega) (fun c29 => ?_) (fun c29 => ?_)
      · refine rb_iconst hV dX10_badness_36 ?_
        refine rb_callV hV (rest := []) dX10_badness_37 (c_X10_spaces s hp a b 0 (by omega) (by decide)) lk_X10_150 rfl (Or.inl ⟨9, _, TX10, 24, gw_49 _, rfl⟩) rfl ⟨rfl, rfl, (Nat.le_of_ble_eq_true rfl), (Nat.le_of_ble_eq_true rfl), (Nat.le_of_ble_eq_true rfl), (Nat.le_of_ble_eq_true rfl)⟩ (Nat.le_of_ble_eq_true rfl) (fun r9 h9 p9 => ?_)
        obtain ⟨rfl, rfl⟩ := p9
        show V 40 [some (.inr (some 49)), some (.inl a), some (.inl b), some (.inl (df (vM s) a b)), none] [.inl (Sm (fun v => s 50 (3 * s 53 v + 0)) a b)] (WW s) 0 0
        refine rb_aload_n hV dX10_badness_40 rfl rfl ?_
        refine rb_iload_n hV dX10_badness_41 rfl rfl ?_
        refine rb_iload_n hV dX10_badness_42 rfl rfl ?_
        refine rb_iconst hV dX10_badness_43 ?_
        refine rb_callV hV (rest := [.inl (Sm (fun v => s 50 (3 * s 53 v + 0)) a b)]) dX10_badness_44 (c_X10_spaces s hp a b 1 (by omega) (by decide)) lk_X10_150 rfl (Or.inl ⟨9, _, TX10, 24, gw_49 _, rfl⟩) rfl ⟨rfl, rfl, (Nat.le_of_ble_eq_true rfl), (Nat.le_of_ble_eq_true rfl), (Nat.le_of_ble_eq_true rfl), (Nat.le_of_ble_eq_true rfl)⟩ (Nat.le_of_ble_eq_true rfl) (fun r9 h9 p9 => ?_)
        obtain ⟨rfl, rfl⟩ := p9
        show V 47 [some (.inr (some 49)), some (.inl a), some (.inl b), some (.inl (df (vM s) a b)), none] [.inl (Sm (fun v => s 50 (3 * s 53 v + 1)) a b), .inl (Sm (fun v => s 50 (3 * s 53 v + 0)) a b)] (WW s) 0 0
        refine rb_isub hV dX10_badness_47 ?_
        refine rb_istore hV (L2 := [some (.inr (some 49)), some (.inl a), some (.inl b), some (.inl (df (vM s) a b)), some (.inl ((Sm (fun v => s 50 (3 * s 53 v + 0)) a b) - (Sm (fun v => s 50 (3 * s 53 v + 1)) a b)))]) dX10_badness_48 (Nat.le_of_ble_eq_true rfl) rfl ?_
        refine rb_bipush hV dX10_badness_50 (by decide) ?_
        refine rb_iload_n hV dX10_badness_52 rfl rfl ?_
        refine rb_imul hV dX10_badness_53 ?_
        refine rb_iload_n hV dX10_badness_54 rfl rfl ?_
        refine rb_imul hV dX10_badness_55 ?_
        refine rb_iload hV dX10_badness_56 rfl ?_
        refine rb_iload hV dX10_badness_58 rfl ?_
        refine rb_imul hV dX10_badness_60 ?_
        refine rb_idiv hV dX10_badness_61 ⟨(by unfold ab_r; omega), (by first | (rw [hA (by omega)]; unfold ab_r; omega) | (rw [hB (by omega)]; unfold ab_r; omega))⟩ (by first | (rw [hA (by omega)]; omega) | (rw [hB (by omega)]; omega)) ?_
        refine rb_ret hV (r := some (.inl ((((100 * (df (vM s) a b)) * (df (vM s) a b))).tdiv (((Sm (fun v => s 50 (3 * s 53 v + 0)) a b) - (Sm (fun v => s 50 (3 * s 53 v + 1)) a b)) * ((Sm (fun v => s 50 (3 * s 53 v + 0)) a b) - (Sm (fun v => s 50 (3 * s 53 v + 1)) a b)))))) dX10_badness_62 rfl ⟨(Nat.le_of_ble_eq_true rfl), (Nat.le_of_ble_eq_true rfl)⟩ trivial ?_
        refine ⟨congrArg (fun z : Int => some (Sum.inl z)) ?_, rfl⟩
        rw [hB (by omega)]
        exact (show bd (vM s) a b = _ from if_neg hnz).symm
      · refine rb_iconst hV dX10_badness_32 ?_
        refine rb_goto hV (tgt := 37) dX10_badness_33 (by decide) ?_
        refine rb_callV hV (rest := []) dX10_badness_37 (c_X10_spaces s hp a b 2 (by omega) (by decide)) lk_X10_150 rfl (Or.inl ⟨9, _, TX10, 24, gw_49 _, rfl⟩) rfl ⟨rfl, rfl, (Nat.le_of_ble_eq_true rfl), (Nat.le_of_ble_eq_true rfl), (Nat.le_of_ble_eq_true rfl), (Nat.le_of_ble_eq_true rfl)⟩ (Nat.le_of_ble_eq_true rfl) (fun r9 h9 p9 => ?_)
        obtain ⟨rfl, rfl⟩ := p9
        show V 40 [some (.inr (some 49)), some (.inl a), some (.inl b), some (.inl (df (vM s) a b)), none] [.inl (Sm (fun v => s 50 (3 * s 53 v + 2)) a b)] (WW s) 0 0
        refine rb_aload_n hV dX10_badness_40 rfl rfl ?_
        refine rb_iload_n hV dX10_badness_41 rfl rfl ?_
        refine rb_iload_n hV dX10_badness_42 rfl rfl ?_
        refine rb_iconst hV dX10_badness_43 ?_
        refine rb_callV hV (rest := [.inl (Sm (fun v => s 50 (3 * s 53 v + 2)) a b)]) dX10_badness_44 (c_X10_spaces s hp a b 1 (by omega) (by decide)) lk_X10_150 rfl (Or.inl ⟨9, _, TX10, 24, gw_49 _, rfl⟩) rfl ⟨rfl, rfl, (Nat.le_of_ble_eq_true rfl), (Nat.le_of_ble_eq_true rfl), (Nat.le_of_ble_eq_true rfl), (Nat.le_of_ble_eq_true rfl)⟩ (Nat.le_of_ble_eq_true rfl) (fun r9 h9 p9 => ?_)
        obtain ⟨rfl, rfl⟩ := p9
        show V 47 [some (.inr (some 49)), some (.inl a), some (.inl b), some (.inl (df (vM s) a b)), none] [.inl (Sm (fun v => s 50 (3 * s 53 v + 1)) a b), .inl (Sm (fun v => s 50 (3 * s 53 v + 2)) a b)] (WW s) 0 0
        refine rb_isub hV dX10_badness_47 ?_
        refine rb_istore hV (L2 := [some (.inr (some 49)), some (.inl a), some (.inl b), some (.inl (df (vM s) a b)), some (.inl ((Sm (fun v => s 50 (3 * s 53 v + 2)) a b) - (Sm (fun v => s 50 (3 * s 53 v + 1)) a b)))]) dX10_badness_48 (Nat.le_of_ble_eq_true rfl) rfl ?_
        refine rb_bipush hV dX10_badness_50 (by decide) ?_
        refine rb_iload_n hV dX10_badness_52 rfl rfl ?_
        refine rb_imul hV dX10_badness_53 ?_
        refine rb_iload_n hV dX10_badness_54 rfl rfl ?_
        refine rb_imul hV dX10_badness_55 ?_
        refine rb_iload hV dX10_badness_56 rfl ?_
        refine rb_iload hV dX10_badness_58 rfl ?_
        refine rb_imul hV dX10_badness_60 ?_
        refine rb_idiv hV dX10_badness_61 ⟨(by unfold ab_r; omega), (by first | (rw [hA (by omega)]; unfold ab_r; omega) | (rw [hB (by omega)]; unfold ab_r; omega))⟩ (by first | (rw [hA (by omega)]; omega) | (rw [hB (by omega)]; omega)) ?_
        refine rb_ret hV (r := some (.inl ((((100 * (df (vM s) a b)) * (df (vM s) a b))).tdiv (((Sm (fun v => s 50 (3 * s 53 v + 2)) a b) - (Sm (fun v => s 50 (3 * s 53 v + 1)) a b)) * ((Sm (fun v => s 50 (3 * s 53 v + 2)) a b) - (Sm (fun v => s 50 (3 * s 53 v + 1)) a b)))))) dX10_badness_62 rfl ⟨(Nat.le_of_ble_eq_true rfl), (Nat.le_of_ble_eq_true rfl)⟩ trivial ?_
        refine ⟨congrArg (fun z : Int => some (Sum.inl z)) ?_, rfl⟩
        rw [hA (by omega)]
        exact (show bd (vM s) a b = _ from if_neg hnz).symm
    · refine rb_aload_n hV dX10_badness_15 rfl rfl ?_
      refine rb_iload_n hV dX10_badness_16 rfl rfl ?_
      refine rb_callV hV (rest := []) dX10_badness_17 (c_X10_isLast s hp b (by unfold ab_r; omega)) lk_X10_166 rfl (Or.inl ⟨9, _, TX10, 24, gw_49 _, rfl⟩) rfl ⟨rfl, rfl, (Nat.le_of_ble_eq_true rfl), (Nat.le_of_ble_eq_true rfl), (Nat.le_of_ble_eq_true rfl), (Nat.le_of_ble_eq_true rfl)⟩ (Nat.le_of_ble_eq_true rfl) (fun r9 h9 p9 => ?_)
      obtain ⟨rfl, rfl⟩ := p9
      show V 20 [some (.inr (some 49)), some (.inl a), some (.inl b), some (.inl (df (vM s) a b)), none] [.inl (if b = (s 120 0) - 1 then 1 else 0)] (WW s) 0 0
      by_cases e17 : b = (s 120 0) - 1
      · rw [if_pos e17]
        show V 20 [some (.inr (some 49)), some (.inl a), some (.inl b), some (.inl (df (vM s) a b)), none] [.inl 1] (WW s) 0 0
        refine rb_if_eq hV (tgt := 25) dX10_badness_20 (by decide) (by unfold ab_r at *; omega) (fun z => absurd z (by decide)) (fun _ => ?_)
        refine rb_iconst hV dX10_badness_23 ?_
        refine rb_ret hV (r := some (.inl 0)) dX10_badness_24 rfl ⟨(Nat.le_of_ble_eq_true rfl), (Nat.le_of_ble_eq_true rfl)⟩ trivial ?_
        exact ⟨congrArg (fun z : Int => some (Sum.inl z)) (show bd (vM s) a b = 0 from if_pos (by omega)).symm, rfl⟩
      · rw [if_neg e17]
        show V 20 [some (.inr (some 49)), some (.inl a), some (.inl b), some (.inl (df (vM s) a b)), none] [.inl 0] (WW s) 0 0
        refine rb_if_eq hV (tgt := 25) dX10_badness_20 (by decide) (by unfold ab_r at *; omega) (fun _ => ?_) (fun z => absurd z (by decide))
        have hnz : ¬ (df (vM s) a b = 0 ∨ (0 < df (vM s) a b ∧ b = vM s 0 0 - 1)) := by omega
        have hrm := rmm_b hp h0 hab hbn hps hnz
        have hq := sq_r hrm.2.2.1 hrm.2.2.2 (by omega) hrm.2.1
        have hq1 : 1 * 1 ≤ rmm (vM s) a b * rmm (vM s) a b := Int.mul_le_mul hrm.1 hrm.1 (by omega) (by omega)
        have hA : 0 < df (vM s) a b → ((Sm (fun v => s 50 (3 * s 53 v + 2)) a b) - (Sm (fun v => s 50 (3 * s 53 v + 1)) a b)) * ((Sm (fun v => s 50 (3 * s 53 v + 2)) a b) - (Sm (fun v => s 50 (3 * s 53 v + 1)) a b)) = rmm (vM s) a b * rmm (vM s) a b := fun q => by
          have e : rmm (vM s) a b = st (vM s) a b := if_pos q
          rw [hsp.2, e]
        have hB : ¬ 0 < df (vM s) a b → ((Sm (fun v => s 50 (3 * s 53 v + 0)) a b) - (Sm (fun v => s 50 (3 * s 53 v + 1)) a b)) * ((Sm (fun v => s 50 (3 * s 53 v + 0)) a b) - (Sm (fun v => s 50 (3 * s 53 v + 1)) a b)) = rmm (vM s) a b * rmm (vM s) a b := fun q => by
          have e : rmm (vM s) a b = sh (vM s) a b := if_neg q
          rw [hsp.1, e, Int.neg_mul_neg]
        refine rb_aload_n hV dX10_badness_25 rfl rfl ?_
        refine rb_iload_n hV dX10_badness_26 rfl rfl ?_
        refine rb_iload_n hV dX10_badness_27 rfl rfl ?_
        refine rb_iload_n hV dX10_badness_28 rfl rfl ?_
        refine rb_if_le hV (tgt := 36) dX10_badness_29 (by decide) (by unfold ab_r at *; omega) (fun c29 => ?_) (fun c29 => ?_)
        · refine rb_iconst hV dX10_badness_36 ?_
          refine rb_callV hV (rest := []) dX10_badness_37 (c_X10_spaces s hp a b 0 (by omega) (by decide)) lk_X10_150 rfl (Or.inl ⟨9, _, TX10, 24, gw_49 _, rfl⟩) rfl ⟨rfl, rfl, (Nat.le_of_ble_eq_true rfl), (Nat.le_of_ble_eq_true rfl), (Nat.le_of_ble_eq_true rfl), (Nat.le_of_ble_eq_true rfl)⟩ (Nat.le_of_ble_eq_true rfl) (fun r9 h9 p9 => ?_)
          obtain ⟨rfl, rfl⟩ := p9
          show V 40 [some (.inr (some 49)), some (.inl a), some (.inl b), some (.inl (df (vM s) a b)), none] [.inl (Sm (fun v => s 50 (3 * s 53 v + 0)) a b)] (WW s) 0 0
          refine rb_aload_n hV dX10_badness_40 rfl rfl ?_
          refine rb_iload_n hV dX10_badness_41 rfl rfl ?_
          refine rb_iload_n hV dX10_badness_42 rfl rfl ?_
          refine rb_iconst hV dX10_badness_43 ?_
          refine rb_callV hV (rest := [.inl (Sm (fun v => s 50 (3 * s 53 v + 0)) a b)]) dX10_badness_44 (c_X10_spaces s hp a b 1 (by omega) (by decide)) lk_X10_150 rfl (Or.inl ⟨9, _, TX10, 24, gw_49 _, rfl⟩) rfl ⟨rfl, rfl, (Nat.le_of_ble_eq_true rfl), (Nat.le_of_ble_eq_true rfl), (Nat.le_of_ble_eq_true rfl), (Nat.le_of_ble_eq_true rfl)⟩ (Nat.le_of_ble_eq_true rfl) (fun r9 h9 p9 => ?_)
          obtain ⟨rfl, rfl⟩ := p9
          show V 47 [some (.inr (some 49)), some (.inl a), some (.inl b), some (.inl (df (vM s) a b)), none] [.inl (Sm (fun v => s 50 (3 * s 53 v + 1)) a b), .inl (Sm (fun v => s 50 (3 * s 53 v + 0)) a b)] (WW s) 0 0
          refine rb_isub hV dX10_badness_47 ?_
          refine rb_istore hV (L2 := [some (.inr (some 49)), some (.inl a), some (.inl b), some (.inl (df (vM s) a b)), some (.inl ((Sm (fun v => s 50 (3 * s 53 v + 0)) a b) - (Sm (fun v => s 50 (3 * s 53 v + 1)) a b)))]) dX10_badness_48 (Nat.le_of_ble_eq_true rfl) rfl ?_
          refine rb_bipush hV dX10_badness_50 (by decide) ?_
          refine rb_iload_n hV dX10_badness_52 rfl rfl ?_
          refine rb_imul hV dX10_badness_53 ?_
          refine rb_iload_n hV dX10_badness_54 rfl rfl ?_
          refine rb_imul hV dX10_badness_55 ?_
          refine rb_iload hV dX10_badness_56 rfl ?_
          refine rb_iload hV dX10_badness_58 rfl ?_
          refine rb_imul hV dX10_badness_60 ?_
          refine rb_idiv hV dX10_badness_61 ⟨(by unfold ab_r; omega), (by first | (rw [hA (by omega)]; unfold ab_r; omega) | (rw [hB (by omega)]; unfold ab_r; omega))⟩ (by first | (rw [hA (by omega)]; omega) | (rw [hB (by omega)]; omega)) ?_
          refine rb_ret hV (r := some (.inl ((((100 * (df (vM s) a b)) * (df (vM s) a b))).tdiv (((Sm (fun v => s 50 (3 * s 53 v + 0)) a b) - (Sm (fun v => s 50 (3 * s 53 v + 1)) a b)) * ((Sm (fun v => s 50 (3 * s 53 v + 0)) a b) - (Sm (fun v => s 50 (3 * s 53 v + 1)) a b)))))) dX10_badness_62 rfl ⟨(Nat.le_of_ble_eq_true rfl), (Nat.le_of_ble_eq_true rfl)⟩ trivial ?_
          refine ⟨congrArg (fun z : Int => some (Sum.inl z)) ?_, rfl⟩
          rw [hB (by omega)]
          exact (show bd (vM s) a b = _ from if_neg hnz).symm
        · refine rb_iconst hV dX10_badness_32 ?_
          refine rb_goto hV (tgt := 37) dX10_badness_33 (by decide) ?_
          refine rb_callV hV (rest := []) dX10_badness_37 (c_X10_spaces s hp a b 2 (by omega) (by decide)) lk_X10_150 rfl (Or.inl ⟨9, _, TX10, 24, gw_49 _, rfl⟩) rfl ⟨rfl, rfl, (Nat.le_of_ble_eq_true rfl), (Nat.le_of_ble_eq_true rfl), (Nat.le_of_ble_eq_true rfl), (Nat.le_of_ble_eq_true rfl)⟩ (Nat.le_of_ble_eq_true rfl) (fun r9 h9 p9 => ?_)
          obtain ⟨rfl, rfl⟩ := p9
          show V 40 [some (.inr (some 49)), some (.inl a), some (.inl b), some (.inl (df (vM s) a b)), none] [.inl (Sm (fun v => s 50 (3 * s 53 v + 2)) a b)] (WW s) 0 0
          refine rb_aload_n hV dX10_badness_40 rfl rfl ?_
          refine rb_iload_n hV dX10_badness_41 rfl rfl ?_
          refine rb_iload_n hV dX10_badness_42 rfl rfl ?_
          refine rb_iconst hV dX10_badness_43 ?_
          refine rb_callV hV (rest := [.inl (Sm (fun v => s 50 (3 * s 53 v + 2)) a b)]) dX10_badness_44 (c_X10_spaces s hp a b 1 (by omega) (by decide)) lk_X10_150 rfl (Or.inl ⟨9, _, TX10, 24, gw_49 _, rfl⟩) rfl ⟨rfl, rfl, (Nat.le_of_ble_eq_true rfl), (Nat.le_of_ble_eq_true rfl), (Nat.le_of_ble_eq_true rfl), (Nat.le_of_ble_eq_true rfl)⟩ (Nat.le_of_ble_eq_true rfl) (fun r9 h9 p9 => ?_)
          obtain ⟨rfl, rfl⟩ := p9
          show V 47 [some (.inr (some 49)), some (.inl a), some (.inl b), some (.inl (df (vM s) a b)), none] [.inl (Sm (fun v => s 50 (3 * s 53 v + 1)) a b), .inl (Sm (fun v => s 50 (3 * s 53 v + 2)) a b)] (WW s) 0 0
          refine rb_isub hV dX10_badness_47 ?_
          refine rb_istore hV (L2 := [some (.inr (some 49)), some (.inl a), some (.inl b), some (.inl (df (vM s) a b)), some (.inl ((Sm (fun v => s 50 (3 * s 53 v + 2)) a b) - (Sm (fun v => s 50 (3 * s 53 v + 1)) a b)))]) dX10_badness_48 (Nat.le_of_ble_eq_true rfl) rfl ?_
          refine rb_bipush hV dX10_badness_50 (by decide) ?_
          refine rb_iload_n hV dX10_badness_52 rfl rfl ?_
          refine rb_imul hV dX10_badness_53 ?_
          refine rb_iload_n hV dX10_badness_54 rfl rfl ?_
          refine rb_imul hV dX10_badness_55 ?_
          refine rb_iload hV dX10_badness_56 rfl ?_
          refine rb_iload hV dX10_badness_58 rfl ?_
          refine rb_imul hV dX10_badness_60 ?_
          refine rb_idiv hV dX10_badness_61 ⟨(by unfold ab_r; omega), (by first | (rw [hA (by omega)]; unfold ab_r; omega) | (rw [hB (by omega)]; unfold ab_r; omega))⟩ (by first | (rw [hA (by omega)]; omega) | (rw [hB (by omega)]; omega)) ?_
          refine rb_ret hV (r := some (.inl ((((100 * (df (vM s) a b)) * (df (vM s) a b))).tdiv (((Sm (fun v => s 50 (3 * s 53 v + 2)) a b) - (Sm (fun v => s 50 (3 * s 53 v + 1)) a b)) * ((Sm (fun v => s 50 (3 * s 53 v + 2)) a b) - (Sm (fun v => s 50 (3 * s 53 v + 1)) a b)))))) dX10_badness_62 rfl ⟨(Nat.le_of_ble_eq_true rfl), (Nat.le_of_ble_eq_true rfl)⟩ trivial ?_
          refine ⟨congrArg (fun z : Int => some (Sum.inl z)) ?_, rfl⟩
          rw [hA (by omega)]
          exact (show bd (vM s) a b = _ from if_neg hnz).symm

set_option maxRecDepth 20000 in
theorem c_X10_demerits (s : Nat → Int → Int) (hp : PI (vM s)) (a b : Int) (h0 : 0 ≤ a) (hab : a ≤ b) (hbn : b < s 120 0) (hps : ps (vM s) a b = true) : ab_Mt yX10_demerits cX10_demerits 4 (some .int) ({ frames := 4, cells := 0, slots := 0, locals := 95 } : Room) false 0 0 [.inr (some 49), .inl a, .inl b] (WW s) (fun r h2 => r = some (.inl (dm (vM s) a b)) ∧ h2 = WW s) := by
  refine ab_mk RX10 false rfl pn_X10_demerits (fun z => by cases z) (Nat.le_of_ble_eq_true rfl) (fun V hV => ?_)
  show V 0 [some (.inr (some 49)), some (.inl a), some (.inl b), none] [] (WW s) 0 0
  have hn : 0 ≤ s 120 0 ∧ s 120 0 ≤ 60 := hp.1
  have hms : 10 ≤ s 117 0 ∧ s 117 0 ≤ 200 := hp.2.2.1
  have e0 : vM s 0 0 = s 120 0 := rfl
  have hdb := df_b hp h0 hab hbn
  have hsb := st_b hp (a := a) (b := b) h0 hab (by omega)
  have hhb := sh_b hp (a := a) (b := b) h0 hab (by omega)
  have hsp := M_sp s a b
  refine rb_bipush hV dX10_demerits_0 (by decide) ?_
  refine rb_aload_n hV dX10_demerits_2 rfl rfl ?_
  refine rb_iload_n hV dX10_demerits_3 rfl rfl ?_
  refine rb_iload_n hV dX10_demerits_4 rfl rfl ?_
  refine rb_callV hV (rest := [.inl 10]) dX10_demerits_5 (c_X10_badness s hp a b (by omega) (by omega) (by omega) hps) lk_X10_169 rfl (Or.inl ⟨9, _, TX10, 24, gw_49 _, rfl⟩) rfl ⟨rfl, rfl, (Nat.le_of_ble_eq_true rfl), (Nat.le_of_ble_eq_true rfl), (Nat.le_of_ble_eq_true rfl), (Nat.le_of_ble_eq_true rfl)⟩ (Nat.le_of_ble_eq_true rfl) (fun r9 h9 p9 => ?_)
  obtain ⟨rfl, rfl⟩ := p9
  show V 8 [some (.inr (some 49)), some (.inl a), some (.inl b), none] [.inl (bd (vM s) a b), .inl 10] (WW s) 0 0
  refine rb_iadd hV dX10_demerits_8 ?_
  refine rb_istore_n hV (L2 := [some (.inr (some 49)), some (.inl a), some (.inl b), some (.inl (10 + (bd (vM s) a b)))]) dX10_demerits_9 rfl (Nat.le_of_ble_eq_true rfl) rfl ?_
  refine rb_iload_n hV dX10_demerits_10 rfl rfl ?_
  refine rb_iload_n hV dX10_demerits_11 rfl rfl ?_
  refine rb_imul hV dX10_demerits_12 ?_
  refine rb_aload_n hV dX10_demerits_13 rfl rfl ?_
  refine rb_iload_n hV dX10_demerits_14 rfl rfl ?_
  refine rb_callV hV (rest := [.inl ((10 + (bd (vM s) a b)) * (10 + (bd (vM s) a b)))]) dX10_demerits_15 (c_X10_isLast s hp b (by unfold ab_r; omega)) lk_X10_166 rfl (Or.inl ⟨9, _, TX10, 24, gw_49 _, rfl⟩) rfl ⟨rfl, rfl, (Nat.le_of_ble_eq_true rfl), (Nat.le_of_ble_eq_true rfl), (Nat.le_of_ble_eq_true rfl), (Nat.le_of_ble_eq_true rfl)⟩ (Nat.le_of_ble_eq_true rfl) (fun r9 h9 p9 => ?_)
  obtain ⟨rfl, rfl⟩ := p9
  show V 18 [some (.inr (some 49)), some (.inl a), some (.inl b), some (.inl (10 + (bd (vM s) a b)))] [.inl (if b = (s 120 0) - 1 then 1 else 0), .inl ((10 + (bd (vM s) a b)) * (10 + (bd (vM s) a b)))] (WW s) 0 0
  by_cases e15 : b = (s 120 0) - 1
  · rw [if_pos e15]
    show V 18 [some (.inr (some 49)), some (.inl a), some (.inl b), some (.inl (10 + (bd (vM s) a b)))] [.inl 1, .inl ((10 + (bd (vM s) a b)) * (10 + (bd (vM s) a b)))] (WW s) 0 0
    refine rb_if_ne hV (tgt := 36) dX10_demerits_18 (by decide) (by unfold ab_r at *; omega) (fun _ => ?_) (fun z => absurd z (by decide))
    refine rb_iconst hV dX10_demerits_36 ?_
    refine rb_iadd hV dX10_demerits_37 ?_
    refine rb_ret hV (r := some (.inl (((10 + (bd (vM s) a b)) * (10 + (bd (vM s) a b))) + 0))) dX10_demerits_38 rfl ⟨(Nat.le_of_ble_eq_true rfl), (Nat.le_of_ble_eq_true rfl)⟩ trivial ?_
    exact ⟨congrArg (fun z : Int => some (Sum.inl z)) (show dm (vM s) a b = _ from congrArg (fun z : Int => (10 + bd (vM s) a b) * (10 + bd (vM s) a b) + z) (if_neg (fun q => by have q1 := q.1; have q2 : s 52 b ≤ 2 := q.2; omega))).symm, rfl⟩
  · rw [if_neg e15]
    show V 18 [some (.inr (some 49)), some (.inl a), some (.inl b), some (.inl (10 + (bd (vM s) a b)))] [.inl 0, .inl ((10 + (bd (vM s) a b)) * (10 + (bd (vM s) a b)))] (WW s) 0 0
    refine rb_if_ne hV (tgt := 36) dX10_demerits_18 (by decide) (by unfold ab_r at *; omega) (fun z => absurd z (by decide)) (fun _ => ?_)
    refine rb_aload_n hV dX10_demerits_21 rfl rfl ?_
    refine rb_get hV (v := .inr (some 52)) dX10_demerits_22 ⟨RX10, TX10, 24, rfl, (Nat.le_of_ble_eq_true rfl), lf_X10_26⟩ (gw_49 _) rfl ?_
    have hsz : 1 ≤ s 52 b ∧ s 52 b ≤ 120 := (hp.2.1 b (by omega) (show b < s 120 0 by omega)).2.1
    refine rb_iload_n hV dX10_demerits_25 rfl rfl ?_
    refine rb_iald hV (f := (s 52)) dX10_demerits_26 (gw_52 _) (Nat.le_of_ble_eq_true rfl) (by omega) ?_
    refine rb_iconst hV dX10_demerits_27 ?_
    refine rb_icmp_gt hV (tgt := 36) dX10_demerits_28 (by decide) ⟨(by unfold ab_r at *; omega), (by unfold ab_r at *; omega)⟩ (fun c28 => ?_) (fun c28 => ?_)
    · refine rb_iconst hV dX10_demerits_36 ?_
      refine rb_iadd hV dX10_demerits_37 ?_
      refine rb_ret hV (r := some (.inl (((10 + (bd (vM s) a b)) * (10 + (bd (vM s) a b))) + 0))) dX10_demerits_38 rfl ⟨(Nat.le_of_ble_eq_true rfl), (Nat.le_of_ble_eq_true rfl)⟩ trivial ?_
      exact ⟨congrArg (fun z : Int => some (Sum.inl z)) (show dm (vM s) a b = _ from congrArg (fun z : Int => (10 + bd (vM s) a b) * (10 + bd (vM s) a b) + z) (if_neg (fun q => by have q1 := q.1; have q2 : s 52 b ≤ 2 := q.2; omega))).symm, rfl⟩
    · refine rb_bipush hV dX10_demerits_31 (by decide) ?_
      refine rb_goto hV (tgt := 37) dX10_demerits_33 (by decide) ?_
      refine rb_iadd hV dX10_demerits_37 ?_
      refine rb_ret hV (r := some (.inl (((10 + (bd (vM s) a b)) * (10 + (bd (vM s) a b))) + 100))) dX10_demerits_38 rfl ⟨(Nat.le_of_ble_eq_true rfl), (Nat.le_of_ble_eq_true rfl)⟩ trivial ?_
      exact ⟨congrArg (fun z : Int => some (Sum.inl z)) (show dm (vM s) a b = _ from congrArg (fun z : Int => (10 + bd (vM s) a b) * (10 + bd (vM s) a b) + z) (if_pos ⟨by omega, by show s 52 b ≤ 2; omega⟩)).symm, rfl⟩
