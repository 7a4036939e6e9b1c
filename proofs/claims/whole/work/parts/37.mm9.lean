/-! the reference: rivers broken up -/
def STRd (d : Nat → Int → Int) (fw : Int → Int) (nl v : Int) : Prop := ∃ (fw2 sw lo bg ln : Int → Int) (dem am gl : Int) (gn abv en : Int → Int), (∀ j, 0 ≤ j → j ≤ nl → fw2 j = fw j) ∧ MSX d fw2 nl sw lo bg ln dem am v gl gn abv en
def BRK (d : Nat → Int → Int) (bs be fw : Int → Int) (nl x : Int) : Prop := ∃ fo st S0, BRP d bs be fw nl fo st ∧ STRd d fw nl S0 ∧ ((0 ≤ fo ∧ st < S0 ∧ x = fo) ∨ (¬ (0 ≤ fo ∧ st < S0) ∧ x = -1))
theorem BRP_fo {d : Nat → Int → Int} {bs be fw : Int → Int} {l fo st : Int} (h : BRP d bs be fw l fo st) : fo = -1 ∨ (0 ≤ fo ∧ fo < l ∧ ¬ sec d bs fw fo = -1) := by
  obtain ⟨g, h1, h2⟩ := h
  rcases h2 with ⟨x1, x2⟩ | ⟨x1, x2, x3, x4, x7⟩
  · exact Or.inl x1
  · exact Or.inr ⟨x1, x2, x3⟩
theorem BRK_x {d : Nat → Int → Int} {bs be fw : Int → Int} {nl x : Int} (h : BRK d bs be fw nl x) : x = -1 ∨ (0 ≤ x ∧ x < nl ∧ ¬ sec d bs fw x = -1) := by
  obtain ⟨fo, st, S0, h1, h2, h3⟩ := h
  rcases h3 with ⟨a, b, c⟩ | ⟨a, b⟩
  · have q := (BRP_fo h1).resolve_left (by omega)
    rw [c]
    exact Or.inr q
  · exact Or.inl b
theorem WSM_b {d : Nat → Int → Int} {bs be fw : Int → Int} {l a : Int} (hp : PI d) (h : WSM d bs be fw l a) : 0 ≤ a ∧ a ≤ 3480 := by
  obtain ⟨nl2, f2, ft, sw, lo, bg, ln, dem, am, gl, gn, abv, en, h1, h2, h3, h4⟩ := h
  exact (ST_b hp h3 h4.1).2
theorem STR_b {s : Nat → Int → Int} {v : Int} (h : STR s v) (hx : MI s) : 0 ≤ v ∧ v ≤ 3480 := by
  obtain ⟨dem, am, gl, gn, abv, en, h4⟩ := h
  exact (ST_b hx.1 hx.2.2.1 h4.1).2
theorem SDm_b {d : Nat → Int → Int} {bs fw : Int → Int} {nl l : Int} (hp : PI d) (hv : LV d fw nl) (hb : BS d bs) (h0 : 0 ≤ l) (h1 : l < nl) (hs : ¬ sec d bs fw l = -1) : 0 ≤ SDm d bs fw l ∧ SDm d bs fw l ≤ 2000000 := by
  have a := Sldm_b hp hv (i := l) h0 (by omega)
  have o := sec_ok hs
  have q := hv.2.1 l h0 h1
  have b := dm_b hp (a := fw l) (b := sec d bs fw l) q.1 o.1 (by omega) o.2.2.1
  have c := hb (sec d bs fw l + 1) (by omega) (by omega)
  have c2 := o.2.2.2
  unfold SDm
  omega
def BRMN (d : Nat → Int → Int) (bs be : Int → Int) : Nat → (Int → Int) → Int → (Int → Int) → Int → Prop
  | 0, fw, nl, fw2, nl2 => nl2 = nl ∧ ∀ j, 0 ≤ j → j ≤ nl → fw2 j = fw j
  | k + 1, fw, nl, fw2, nl2 => ∃ (fw1 : Int → Int) (nl1 x : Int) (fb ft f3 : Int → Int), BRMN d bs be k fw nl fw1 nl1 ∧ ¬ x = -1 ∧ (∀ j, 0 ≤ j → j ≤ nl1 → fw1 j = fb j) ∧ BRK d bs be fb nl1 x ∧ (∀ j, 0 ≤ j → j ≤ nl1 → ft j = fw1 j) ∧ (nl2, f3) = go be (d 0 0) (d 0 0 - (sec d bs fb x + 1)).toNat (x + 1) (sec d bs fb x + 1) ft ∧ LV d f3 nl2 ∧ ∀ j, 0 ≤ j → j ≤ nl2 → fw2 j = f3 j

set_option maxRecDepth 20000 in
theorem c_X10_breaker (s : Nat → Int → Int) (hx : MI s) : ab_Mt yX10_breaker cX10_breaker 6 (some .int) ({ frames := 8, cells := 0, slots := 0, locals := 189 } : Room) false 0 0 [.inr (some 49)] (WW s) (fun r h2 => ∃ x m, r = some (.inl x) ∧ h2 = WW m ∧ MI m ∧ KEEP SWB s m ∧ m 125 0 = s 125 0 ∧ (∀ j, 0 ≤ j → j ≤ s 125 0 → m 59 j = s 59 j) ∧ BRK (vM s) (s 57) (s 58) (s 59) (s 125 0) x) := by
  refine ab_mk RX10 false rfl pn_X10_breaker (fun z => by cases z) (Nat.le_of_ble_eq_true rfl) (fun V hV => ?_)
  show V 0 [some (.inr (some 49)), none, none, none, none, none] [] (WW s) 0 0
  obtain ⟨hp, hbw, hv, hms0, hz0, hx3, hx4⟩ := id hx
  have hn : 0 ≤ s 120 0 ∧ s 120 0 ≤ 60 := hp.1
  have hnl : 0 ≤ s 125 0 ∧ s 125 0 ≤ s 120 0 := hv.1
  have hb := BWq_BS hp hbw
  have hsw := (MST_b hms0).1
  have hln := (MST_b hms0).2
  have hps := hp
  have hvs0 := hv
  have hbs0 := hb
  obtain ⟨S0, hS0⟩ : ∃ S0, STRd (vM s) (s 59) (s 125 0) S0 := by
    obtain ⟨dem, am, str, gl, gn, abv, en, h⟩ := hms0
    exact ⟨str, _, _, _, _, _, dem, am, gl, gn, abv, en, fun _ _ _ => rfl, h⟩
  have hns := hn
  have hnls := hnl
  clear hp hbw hv hms0 hz0 hx3 hx4 hb hsw hln hn hnl
  refine rb_iconst hV dX10_breaker_0 ?_
  refine rb_istore_n hV (L2 := [some (.inr (some 49)), some (.inl (-1)), none, none, none, none]) dX10_breaker_1 rfl (Nat.le_of_ble_eq_true rfl) rfl ?_
  refine rb_iconst hV dX10_breaker_2 ?_
  refine rb_istore_n hV (L2 := [some (.inr (some 49)), some (.inl (-1)), some (.inl 0), none, none, none]) dX10_breaker_3 rfl (Nat.le_of_ble_eq_true rfl) rfl ?_
  refine rb_iconst hV dX10_breaker_4 ?_
  refine rb_istore_n hV (L2 := [some (.inr (some 49)), some (.inl (-1)), some (.inl 0), some (.inl 0), none, none]) dX10_breaker_5 rfl (Nat.le_of_ble_eq_true rfl) rfl ?_
  have h6 : ∀ (n6 : Nat) (m : Nat → Int → Int) (fo : Int) (st : Int) (l : Int), (MI m) → (KEEP SWB s m) → (m 125 0 = s 125 0 ∧ ∀ j, 0 ≤ j → j ≤ s 125 0 → m 59 j = s 59 j) → (0 ≤ l ∧ l ≤ s 125 0) → ((0 ≤ st ∧ st ≤ 3480) ∧ (fo = -1 ∨ (0 ≤ fo ∧ fo < l ∧ ¬ sec (vM s) (s 57) (s 59) fo = -1))) → (BRP (vM s) (s 57) (s 58) (s 59) l fo st) → ((60 - l).toNat) < n6 → V 6 [some (.inr (some 49)), some (.inl fo), some (.inl st), some (.inl l), none, none] [] (WW m) 0 0 := by
    intro n6
    induction n6 with
    | zero => intro m fo st l hx hk hq h1 h4 h2 hm; omega
    | succ n6 ih6 =>
      intro m fo st l hx hk hq h1 h4 h2 hm
      obtain ⟨hp, hbw, hv, hms0, hz0, hx3, hx4⟩ := id hx
      have hn : 0 ≤ m 120 0 ∧ m 120 0 ≤ 60 := hp.1
      have hnl : 0 ≤ m 125 0 ∧ m 125 0 ≤ m 120 0 := hv.1
      have hb := BWq_BS hp hbw
      have hsw := (MST_b hms0).1
      have hln := (MST_b hms0).2
      have hvm : vM m = vM s := KEEP_vM hk (by decide)
      have h57 : m 57 = s 57 := hk 57 (by decide)
      have h58 : m 58 = s 58 := hk 58 (by decide)
      have hq1 := hq.1
      refine rb_iload_n hV dX10_breaker_6 rfl rfl ?_
      refine rb_aload_n hV dX10_breaker_7 rfl rfl ?_
      refine rb_get hV (v := .inl (m 125 0)) dX10_breaker_8 ⟨RX10, TX10, 24, rfl, (Nat.le_of_ble_eq_true rfl), lf_X10_147⟩ (gw_49 _) rfl ?_
      refine rb_icmp_ge hV (tgt := 94) dX10_breaker_11 (by decide) ⟨(by unfold ab_r at *; omega), (by unfold ab_r at *; omega)⟩ (fun c11 => ?_) (fun c11 => ?_)
      · refine rb_iload_n hV dX10_breaker_94 rfl rfl ?_
        refine rb_if_lt hV (tgt := 110) dX10_breaker_95 (by decide) (by unfold ab_r at *; omega) (fun c95 => ?_) (fun c95 => ?_)
        · refine rb_iconst hV dX10_breaker_110 ?_
          refine rb_ret hV (r := some (.inl (-1))) dX10_breaker_111 rfl ⟨(Nat.le_of_ble_eq_true rfl), (Nat.le_of_ble_eq_true rfl)⟩ trivial ?_
          have e : l = s 125 0 := by omega
          rw [e] at h2
          exact ⟨_, m, rfl, rfl, hx, hk, hq.1, hq.2, fo, st, S0, h2, hS0, Or.inr ⟨by omega, rfl⟩⟩
        · refine rb_iload_n hV dX10_breaker_98 rfl rfl ?_
          refine rb_aload_n hV dX10_breaker_99 rfl rfl ?_
          refine rb_callV hV (rest := [.inl st]) dX10_breaker_100 (c_X10_strength m hx) lk_X10_236 rfl (Or.inl ⟨9, _, TX10, 24, gw_49 _, rfl⟩) rfl ⟨rfl, rfl, (Nat.le_of_ble_eq_true rfl), (Nat.le_of_ble_eq_true rfl), (Nat.le_of_ble_eq_true rfl), (Nat.le_of_ble_eq_true rfl)⟩ (Nat.le_of_ble_eq_true rfl) (fun r9 h9 p9 => ?_)
          obtain ⟨v9, rfl, rfl, hst9⟩ := p9
          have hsb9 := STR_b hst9 hx
          show V 103 [some (.inr (some 49)), some (.inl fo), some (.inl st), some (.inl l), none, none] [.inl v9, .inl st] (WW m) 0 0
          refine rb_icmp_ge hV (tgt := 110) dX10_breaker_103 (by decide) ⟨(by unfold ab_r at *; omega), (by unfold ab_r at *; omega)⟩ (fun c103 => ?_) (fun c103 => ?_)
          · refine rb_iconst hV dX10_breaker_110 ?_
            refine rb_ret hV (r := some (.inl (-1))) dX10_breaker_111 rfl ⟨(Nat.le_of_ble_eq_true rfl), (Nat.le_of_ble_eq_true rfl)⟩ trivial ?_
            have e : l = s 125 0 := by omega
            rw [e] at h2
            have hS : STRd (vM s) (s 59) (s 125 0) v9 := by
              obtain ⟨dem, am, gl, gn, abv, en, h⟩ := hst9
              replace h : MSX (vM m) (m 59) (m 125 0) (m 61) (m 63) (m 60) (m 62) dem am v9 gl gn abv en := h
              rw [hvm, hq.1] at h
              exact ⟨_, _, _, _, _, dem, am, gl, gn, abv, en, hq.2, h⟩
            exact ⟨_, m, rfl, rfl, hx, hk, hq.1, hq.2, fo, st, v9, h2, hS, Or.inr ⟨by omega, rfl⟩⟩
          · refine rb_iload_n hV dX10_breaker_106 rfl rfl ?_
            refine rb_goto hV (tgt := 111) dX10_breaker_107 (by decide) ?_
            refine rb_ret hV (r := some (.inl fo)) dX10_breaker_111 rfl ⟨(Nat.le_of_ble_eq_true rfl), (Nat.le_of_ble_eq_true rfl)⟩ trivial ?_
            have e : l = s 125 0 := by omega
            rw [e] at h2
            have hS : STRd (vM s) (s 59) (s 125 0) v9 := by
              obtain ⟨dem, am, gl, gn, abv, en, h⟩ := hst9
              replace h : MSX (vM m) (m 59) (m 125 0) (m 61) (m 63) (m 60) (m 62) dem am v9 gl gn abv en := h
              rw [hvm, hq.1] at h
              exact ⟨_, _, _, _, _, dem, am, gl, gn, abv, en, hq.2, h⟩
            exact ⟨_, m, rfl, rfl, hx, hk, hq.1, hq.2, fo, st, v9, h2, hS, Or.inl ⟨by omega, by omega, rfl⟩⟩
      · have hsc : sec (vM m) (m 57) (m 59) l = sec (vM s) (s 57) (s 59) l := by
          rw [hvm, h57]
          exact sec_congr (hq.2 l h1.1 (by omega)) (hq.2 (l + 1) (by omega) (by omega))
        have hsq : sec (vM s) (s 57) (s 59) l = -1 ∨ (0 ≤ sec (vM s) (s 57) (s 59) l ∧ sec (vM s) (s 57) (s 59) l < 60) := by
          by_cases hqq : sec (vM s) (s 57) (s 59) l = -1
          · exact Or.inl hqq
          · have ho := sec_ok hqq
            have hl0 := (hvs0.2.1 l h1.1 (by omega))
            have e0 : vM s 0 0 = s 120 0 := rfl
            have e1 := hl0.1
            have e2 := hl0.2.1
            have e3 := hl0.2.2.1
            exact Or.inr ⟨by omega, by omega⟩
        refine rb_aload_n hV dX10_breaker_14 rfl rfl ?_
        refine rb_iload_n hV dX10_breaker_15 rfl rfl ?_
        refine rb_callV hV (rest := []) dX10_breaker_16 (c_X10_secondOf m l hp hv hb (show 0 ≤ l ∧ l < (m 125 0) by omega)) lk_X10_195 rfl (Or.inl ⟨9, _, TX10, 24, gw_49 _, rfl⟩) rfl ⟨rfl, rfl, (Nat.le_of_ble_eq_true rfl), (Nat.le_of_ble_eq_true rfl), (Nat.le_of_ble_eq_true rfl), (Nat.le_of_ble_eq_true rfl)⟩ (Nat.le_of_ble_eq_true rfl) (fun r9 h9 p9 => ?_)
        obtain ⟨rfl, rfl⟩ := p9
        rw [hsc]
        show V 19 [some (.inr (some 49)), some (.inl fo), some (.inl st), some (.inl l), none, none] [.inl (sec (vM s) (s 57) (s 59) l)] (WW m) 0 0
        refine rb_if_lt hV (tgt := 88) dX10_breaker_19 (by decide) (by unfold ab_r at *; omega) (fun c19 => ?_) (fun c19 => ?_)
        · refine rb_iinc hV (L2 := [some (.inr (some 49)), some (.inl fo), some (.inl st), some (.inl (l + 1)), none, none]) dX10_breaker_88 rfl rfl rfl ?_
          refine rb_goto hV (tgt := 6) dX10_breaker_91 (by decide) ?_
          refine ih6 m fo st (l + 1) ?_ ?_ ?_ ?_ ?_ ?_ ?_
          · exact hx
          · exact hk
          · exact hq
          · omega
          · exact ⟨h4.1, h4.2.imp id (fun q => ⟨q.1, by omega, q.2.2⟩)⟩
          · exact BRP_skip h2 (by omega)
          · omega
        · refine rb_aload_n hV dX10_breaker_22 rfl rfl ?_
          refine rb_iload_n hV dX10_breaker_23 rfl rfl ?_
          refine rb_callV hV (rest := []) dX10_breaker_24 (c_X10_strengthWith m l hx (by omega) (by rw [hsc]; omega)) lk_X10_239 rfl (Or.inl ⟨9, _, TX10, 24, gw_49 _, rfl⟩) rfl ⟨rfl, rfl, (Nat.le_of_ble_eq_true rfl), (Nat.le_of_ble_eq_true rfl), (Nat.le_of_ble_eq_true rfl), (Nat.le_of_ble_eq_true rfl)⟩ (Nat.le_of_ble_eq_true rfl) (fun r9 h9 p9 => ?_)
          obtain ⟨a9, m9, rfl, rfl, hx9, hk9, hq9, hf9, hw9⟩ := p9
          replace hk9 := KEEP_trans hk hk9
          have hvm9 : vM m9 = vM s := KEEP_vM hk9 (by decide)
          have h579 : m9 57 = s 57 := hk9 57 (by decide)
          have hq9 : m9 125 0 = s 125 0 ∧ ∀ j, 0 ≤ j → j ≤ s 125 0 → m9 59 j = s 59 j := ⟨hq9.trans hq.1, fun j a b => (hf9 j a (by omega)).trans (hq.2 j a b)⟩
          have hw : WSM (vM s) (s 57) (s 58) (s 59) l a9 := by
            rw [hvm, h57, h58] at hw9
            exact WSM_congr h1.1 (fun j a b => hq.2 j a (by omega)) hw9
          have hab := WSM_b hps hw
          have hsl : ¬ sec (vM s) (s 57) (s 59) l = -1 := by omega
          show V 27 [some (.inr (some 49)), some (.inl fo), some (.inl st), some (.inl l), none, none] [.inl a9] (WW m9) 0 0
          refine rb_istore hV (L2 := [some (.inr (some 49)), some (.inl fo), some (.inl st), some (.inl l), some (.inl a9), none]) dX10_breaker_27 (Nat.le_of_ble_eq_true rfl) rfl ?_
          refine rb_iload_n hV dX10_breaker_29 rfl rfl ?_
          refine rb_if_lt hV (tgt := 58) dX10_breaker_30 (by decide) (by unfold ab_r at *; omega) (fun c30 => ?_) (fun c30 => ?_)
          · refine rb_iconst hV dX10_breaker_58 ?_
            refine rb_goto hV (tgt := 63) dX10_breaker_59 (by decide) ?_
            refine rb_istore hV (L2 := [some (.inr (some 49)), some (.inl fo), some (.inl st), some (.inl l), some (.inl a9), some (.inl 1)]) dX10_breaker_63 (Nat.le_of_ble_eq_true rfl) rfl ?_
            refine rb_iload hV dX10_breaker_65 rfl ?_
            refine rb_if_eq hV (tgt := 74) dX10_breaker_67 (by decide) (by unfold ab_r at *; omega) (fun z => absurd z (by decide)) (fun _ => ?_)
            refine rb_iload_n hV dX10_breaker_70 rfl rfl ?_
            refine rb_goto hV (tgt := 75) dX10_breaker_71 (by decide) ?_
            refine rb_istore_n hV (L2 := [some (.inr (some 49)), some (.inl l), some (.inl st), some (.inl l), some (.inl a9), some (.inl 1)]) dX10_breaker_75 rfl (Nat.le_of_ble_eq_true rfl) rfl ?_
            refine rb_iload hV dX10_breaker_76 rfl ?_
            refine rb_if_eq hV (tgt := 86) dX10_breaker_78 (by decide) (by unfold ab_r at *; omega) (fun z => absurd z (by decide)) (fun _ => ?_)
            refine rb_iload hV dX10_breaker_81 rfl ?_
            refine rb_goto hV (tgt := 87) dX10_breaker_83 (by decide) ?_
            refine rb_istore_n hV (L2 := [some (.inr (some 49)), some (.inl l), some (.inl a9), some (.inl l), some (.inl a9), some (.inl 1)]) dX10_breaker_87 rfl (Nat.le_of_ble_eq_true rfl) rfl ?_
            refine rb_iinc hV (L2 := [some (.inr (some 49)), some (.inl l), some (.inl a9), some (.inl (l + 1)), some (.inl a9), some (.inl 1)]) dX10_breaker_88 rfl rfl rfl ?_
            refine rb_goto hV (tgt := 6) dX10_breaker_91 (by decide) ?_
            refine rb_weak hV (L2 := [some (.inr (some 49)), some (.inl l), some (.inl a9), some (.inl (l + 1)), none, none]) ⟨rfl, ⟨rfl, ⟨rfl, ⟨rfl, trivial⟩⟩⟩⟩ ?_
            refine ih6 m9 l a9 (l + 1) ?_ ?_ ?_ ?_ ?_ ?_ ?_
            · exact hx9
            · exact hk9
            · exact hq9
            · omega
            · exact ⟨by omega, Or.inr ⟨by omega, by omega, hsl⟩⟩
            · exact BRP_new h1.1 hsl h2 hw (by omega)
            · omega
          · refine rb_iload hV dX10_breaker_33 rfl ?_
            refine rb_iload_n hV dX10_breaker_35 rfl rfl ?_
            refine rb_icmp_lt hV (tgt := 58) dX10_breaker_36 (by decide) ⟨(by unfold ab_r at *; omega), (by unfold ab_r at *; omega)⟩ (fun c36 => ?_) (fun c36 => ?_)
            · refine rb_iconst hV dX10_breaker_58 ?_
              refine rb_goto hV (tgt := 63) dX10_breaker_59 (by decide) ?_
              refine rb_istore hV (L2 := [some (.inr (some 49)), some (.inl fo), some (.inl st), some (.inl l), some (.inl a9), some (.inl 1)]) dX10_breaker_63 (Nat.le_of_ble_eq_true rfl) rfl ?_
              refine rb_iload hV dX10_breaker_65 rfl ?_
              refine rb_if_eq hV (tgt := 74) dX10_breaker_67 (by decide) (by unfold ab_r at *; omega) (fun z => absurd z (by decide)) (fun _ => ?_)
              refine rb_iload_n hV dX10_breaker_70 rfl rfl ?_
              refine rb_goto hV (tgt := 75) dX10_breaker_71 (by decide) ?_
              refine rb_istore_n hV (L2 := [some (.inr (some 49)), some (.inl l), some (.inl st), some (.inl l), some (.inl a9), some (.inl 1)]) dX10_breaker_75 rfl (Nat.le_of_ble_eq_true rfl) rfl ?_
              refine rb_iload hV dX10_breaker_76 rfl ?_
              refine rb_if_eq hV (tgt := 86) dX10_breaker_78 (by decide) (by unfold ab_r at *; omega) (fun z => absurd z (by decide)) (fun _ => ?_)
              refine rb_iload hV dX10_breaker_81 rfl ?_
              refine rb_goto hV (tgt := 87) dX10_breaker_83 (by decide) ?_
              refine rb_istore_n hV (L2 := [some (.inr (some 49)), some (.inl l), some (.inl a9), some (.inl l), some (.inl a9), some (.inl 1)]) dX10_breaker_87 rfl (Nat.le_of_ble_eq_true rfl) rfl ?_
              refine rb_iinc hV (L2 := [some (.inr (some 49)), some (.inl l), some (.inl a9), some (.inl (l + 1)), some (.inl a9), some (.inl 1)]) dX10_breaker_88 rfl rfl rfl ?_
              refine rb_goto hV (tgt := 6) dX10_breaker_91 (by decide) ?_
              refine rb_weak hV (L2 := [some (.inr (some 49)), some (.inl l), some (.inl a9), some (.inl (l + 1)), none, none]) ⟨rfl, ⟨rfl, ⟨rfl, ⟨rfl, trivial⟩⟩⟩⟩ ?_
              refine ih6 m9 l a9 (l + 1) ?_ ?_ ?_ ?_ ?_ ?_ ?_
              · exact hx9
              · exact hk9
              · exact hq9
              · omega
              · exact ⟨by omega, Or.inr ⟨by omega, by omega, hsl⟩⟩
              · exact BRP_new h1.1 hsl h2 hw (by omega)
              · omega
            · refine rb_iload hV dX10_breaker_39 rfl ?_
              refine rb_iload_n hV dX10_breaker_41 rfl rfl ?_
              refine rb_icmp_ne hV (tgt := 62) dX10_breaker_42 (by decide) ⟨(by unfold ab_r at *; omega), (by unfold ab_r at *; omega)⟩ (fun c42 => ?_) (fun c42 => ?_)
              · refine rb_iconst hV dX10_breaker_62 ?_
                refine rb_istore hV (L2 := [some (.inr (some 49)), some (.inl fo), some (.inl st), some (.inl l), some (.inl a9), some (.inl 0)]) dX10_breaker_63 (Nat.le_of_ble_eq_true rfl) rfl ?_
                refine rb_iload hV dX10_breaker_65 rfl ?_
                refine rb_if_eq hV (tgt := 74) dX10_breaker_67 (by decide) (by unfold ab_r at *; omega) (fun _ => ?_) (fun z => absurd z (by decide))
                refine rb_iload_n hV dX10_breaker_74 rfl rfl ?_
                refine rb_istore_n hV (L2 := [some (.inr (some 49)), some (.inl fo), some (.inl st), some (.inl l), some (.inl a9), some (.inl 0)]) dX10_breaker_75 rfl (Nat.le_of_ble_eq_true rfl) rfl ?_
                refine rb_iload hV dX10_breaker_76 rfl ?_
                refine rb_if_eq hV (tgt := 86) dX10_breaker_78 (by decide) (by unfold ab_r at *; omega) (fun _ => ?_) (fun z => absurd z (by decide))
                refine rb_iload_n hV dX10_breaker_86 rfl rfl ?_
                refine rb_istore_n hV (L2 := [some (.inr (some 49)), some (.inl fo), some (.inl st), some (.inl l), some (.inl a9), some (.inl 0)]) dX10_breaker_87 rfl (Nat.le_of_ble_eq_true rfl) rfl ?_
                refine rb_iinc hV (L2 := [some (.inr (some 49)), some (.inl fo), some (.inl st), some (.inl (l + 1)), some (.inl a9), some (.inl 0)]) dX10_breaker_88 rfl rfl rfl ?_
                refine rb_goto hV (tgt := 6) dX10_breaker_91 (by decide) ?_
                refine rb_weak hV (L2 := [some (.inr (some 49)), some (.inl fo), some (.inl st), some (.inl (l + 1)), none, none]) ⟨rfl, ⟨rfl, ⟨rfl, ⟨rfl, trivial⟩⟩⟩⟩ ?_
                refine ih6 m9 fo st (l + 1) ?_ ?_ ?_ ?_ ?_ ?_ ?_
                · exact hx9
                · exact hk9
                · exact hq9
                · omega
                · exact ⟨h4.1, h4.2.imp id (fun q => ⟨q.1, by omega, q.2.2⟩)⟩
                · exact BRP_old h2 hw (by omega) (by omega)
                · omega
              · have hfo := h4.2.resolve_left (by omega)
                have hsd1 := SDm_b hps hvs0 hbs0 h1.1 (by omega) hsl
                have hsd2 := SDm_b hps hvs0 hbs0 hfo.1 (by omega) hfo.2.2
                refine rb_aload_n hV dX10_breaker_45 rfl rfl ?_
                refine rb_iload_n hV dX10_breaker_46 rfl rfl ?_
                refine rb_callV hV (rest := []) dX10_breaker_47 (c_X10_secondDemerits m9 l hx9.1 hx9.2.2.1 (BWq_BS hx9.1 hx9.2.1) (by omega) (by rw [hvm9, h579, sec_congr (hq9.2 l (by omega) (by omega)) (hq9.2 (l + 1) (by omega) (by omega))]; exact hsl)) lk_X10_242 rfl (Or.inl ⟨9, _, TX10, 24, gw_49 _, rfl⟩) rfl ⟨rfl, rfl, (Nat.le_of_ble_eq_true rfl), (Nat.le_of_ble_eq_true rfl), (Nat.le_of_ble_eq_true rfl), (Nat.le_of_ble_eq_true rfl)⟩ (Nat.le_of_ble_eq_true rfl) (fun r9 h9 p9 => ?_)
                obtain ⟨rfl, rfl⟩ := p9
                rw [show SDm (vM m9) (m9 57) (m9 59) l = SDm (vM s) (s 57) (s 59) l by rw [hvm9, h579]; exact SDm_congr (fun j a b => hq9.2 j a (by omega)) (by omega)]
                show V 50 [some (.inr (some 49)), some (.inl fo), some (.inl st), some (.inl l), some (.inl a9), none] [.inl (SDm (vM s) (s 57) (s 59) l)] (WW m9) 0 0
                refine rb_aload_n hV dX10_breaker_50 rfl rfl ?_
                refine rb_iload_n hV dX10_breaker_51 rfl rfl ?_
                refine rb_callV hV (rest := [.inl (SDm (vM s) (s 57) (s 59) l)]) dX10_breaker_52 (c_X10_secondDemerits m9 fo hx9.1 hx9.2.2.1 (BWq_BS hx9.1 hx9.2.1) (by omega) (by rw [hvm9, h579, sec_congr (hq9.2 fo (by omega) (by omega)) (hq9.2 (fo + 1) (by omega) (by omega))]; exact hfo.2.2)) lk_X10_242 rfl (Or.inl ⟨9, _, TX10, 24, gw_49 _, rfl⟩) rfl ⟨rfl, rfl, (Nat.le_of_ble_eq_true rfl), (Nat.le_of_ble_eq_true rfl), (Nat.le_of_ble_eq_true rfl), (Nat.le_of_ble_eq_true rfl)⟩ (Nat.le_of_ble_eq_true rfl) (fun r9 h9 p9 => ?_)
                obtain ⟨rfl, rfl⟩ := p9
                rw [show SDm (vM m9) (m9 57) (m9 59) fo = SDm (vM s) (s 57) (s 59) fo by rw [hvm9, h579]; exact SDm_congr (fun j a b => hq9.2 j a (by omega)) (by omega)]
                show V 55 [some (.inr (some 49)), some (.inl fo), some (.inl st), some (.inl l), some (.inl a9), none] [.inl (SDm (vM s) (s 57) (s 59) fo), .inl (SDm (vM s) (s 57) (s 59) l)] (WW m9) 0 0
                refine rb_icmp_ge hV (tgt := 62) dX10_breaker_55 (by decide) ⟨(by unfold ab_r at *; omega), (by unfold ab_r at *; omega)⟩ (fun c55 => ?_) (fun c55 => ?_)
                · refine rb_iconst hV dX10_breaker_62 ?_
                  refine rb_istore hV (L2 := [some (.inr (some 49)), some (.inl fo), some (.inl st), some (.inl l), some (.inl a9), some (.inl 0)]) dX10_breaker_63 (Nat.le_of_ble_eq_true rfl) rfl ?_
                  refine rb_iload hV dX10_breaker_65 rfl ?_
                  refine rb_if_eq hV (tgt := 74) dX10_breaker_67 (by decide) (by unfold ab_r at *; omega) (fun _ => ?_) (fun z => absurd z (by decide))
                  refine rb_iload_n hV dX10_breaker_74 rfl rfl ?_
                  refine rb_istore_n hV (L2 := [some (.inr (some 49)), some (.inl fo), some (.inl st), some (.inl l), some (.inl a9), some (.inl 0)]) dX10_breaker_75 rfl (Nat.le_of_ble_eq_true rfl) rfl ?_
                  refine rb_iload hV dX10_breaker_76 rfl ?_
                  refine rb_if_eq hV (tgt := 86) dX10_breaker_78 (by decide) (by unfold ab_r at *; omega) (fun _ => ?_) (fun z => absurd z (by decide))
                  refine rb_iload_n hV dX10_breaker_86 rfl rfl ?_
                  refine rb_istore_n hV (L2 := [some (.inr (some 49)), some (.inl fo), some (.inl st), some (.inl l), some (.inl a9), some (.inl 0)]) dX10_breaker_87 rfl (Nat.le_of_ble_eq_true rfl) rfl ?_
                  refine rb_iinc hV (L2 := [some (.inr (some 49)), some (.inl fo), some (.inl st), some (.inl (l + 1)), some (.inl a9), some (.inl 0)]) dX10_breaker_88 rfl rfl rfl ?_
                  refine rb_goto hV (tgt := 6) dX10_breaker_91 (by decide) ?_
                  refine rb_weak hV (L2 := [some (.inr (some 49)), some (.inl fo), some (.inl st), some (.inl (l + 1)), none, none]) ⟨rfl, ⟨rfl, ⟨rfl, ⟨rfl, trivial⟩⟩⟩⟩ ?_
                  refine ih6 m9 fo st (l + 1) ?_ ?_ ?_ ?_ ?_ ?_ ?_
                  · exact hx9
                  · exact hk9
                  · exact hq9
                  · omega
                  · exact ⟨h4.1, h4.2.imp id (fun q => ⟨q.1, by omega, q.2.2⟩)⟩
                  · exact BRP_old h2 hw (by omega) (by omega)
                  · omega
                · refine rb_iconst hV dX10_breaker_58 ?_
                  refine rb_goto hV (tgt := 63) dX10_breaker_59 (by decide) ?_
                  refine rb_istore hV (L2 := [some (.inr (some 49)), some (.inl fo), some (.inl st), some (.inl l), some (.inl a9), some (.inl 1)]) dX10_breaker_63 (Nat.le_of_ble_eq_true rfl) rfl ?_
                  refine rb_iload hV dX10_breaker_65 rfl ?_
                  refine rb_if_eq hV (tgt := 74) dX10_breaker_67 (by decide) (by unfold ab_r at *; omega) (fun z => absurd z (by decide)) (fun _ => ?_)
                  refine rb_iload_n hV dX10_breaker_70 rfl rfl ?_
                  refine rb_goto hV (tgt := 75) dX10_breaker_71 (by decide) ?_
                  refine rb_istore_n hV (L2 := [some (.inr (some 49)), some (.inl l), some (.inl st), some (.inl l), some (.inl a9), some (.inl 1)]) dX10_breaker_75 rfl (Nat.le_of_ble_eq_true rfl) rfl ?_
                  refine rb_iload hV dX10_breaker_76 rfl ?_
                  refine rb_if_eq hV (tgt := 86) dX10_breaker_78 (by decide) (by unfold ab_r at *; omega) (fun z => absurd z (by decide)) (fun _ => ?_)
                  refine rb_iload hV dX10_breaker_81 rfl ?_
                  refine rb_goto hV (tgt := 87) dX10_breaker_83 (by decide) ?_
                  refine rb_istore_n hV (L2 := [some (.inr (some 49)), some (.inl l), some (.inl a9), some (.inl l), some (.inl a9), some (.inl 1)]) dX10_breaker_87 rfl (Nat.le_of_ble_eq_true rfl) rfl ?_
                  refine rb_iinc hV (L2 := [some (.inr (some 49)), some (.inl l), some (.inl a9), some (.inl (l + 1)), some (.inl a9), some (.inl 1)]) dX10_breaker_88 rfl rfl rfl ?_
                  refine rb_goto hV (tgt := 6) dX10_breaker_91 (by decide) ?_
                  refine rb_weak hV (L2 := [some (.inr (some 49)), some (.inl l), some (.inl a9), some (.inl (l + 1)), none, none]) ⟨rfl, ⟨rfl, ⟨rfl, ⟨rfl, trivial⟩⟩⟩⟩ ?_
                  refine ih6 m9 l a9 (l + 1) ?_ ?_ ?_ ?_ ?_ ?_ ?_
                  · exact hx9
                  · exact hk9
                  · exact hq9
                  · omega
                  · exact ⟨by omega, Or.inr ⟨by omega, by omega, hsl⟩⟩
                  · exact BRP_new h1.1 hsl h2 hw (by omega)
                  · omega
  refine h6 _ s (-1) 0 0 ?_ ?_ ?_ ?_ ?_ ?_ (Nat.lt_succ_self _)
  · exact hx
  · exact fun k _ => rfl
  · exact ⟨rfl, fun j _ _ => rfl⟩
  · omega
  · exact ⟨by decide, Or.inl rfl⟩
  · exact BRP_0 _ _ _ _ _

set_option maxRecDepth 20000 in
theorem c_X10_breakRivers (s : Nat → Int → Int) (hx : MI s) : ab_Mt yX10_breakRivers cX10_breakRivers 3 (some .int) ({ frames := 9, cells := 0, slots := 0, locals := 214 } : Room) false 0 0 [.inr (some 49)] (WW s) (fun r h2 => ∃ n m, r = some (.inl n) ∧ h2 = WW m ∧ MI m ∧ KEEP SWB s m ∧ (0 ≤ n ∧ n ≤ 10) ∧ BRMN (vM s) (s 57) (s 58) n.toNat (s 59) (s 125 0) (m 59) (m 125 0) ∧ (n = 10 ∨ ∃ fb, (∀ j, 0 ≤ j → j ≤ m 125 0 → m 59 j = fb j) ∧ BRK (vM s) (s 57) (s 58) fb (m 125 0) (-1))) := by
  refine ab_mk RX10 false rfl pn_X10_breakRivers (fun z => by cases z) (Nat.le_of_ble_eq_true rfl) (fun V hV => ?_)
  show V 0 [some (.inr (some 49)), none, none] [] (WW s) 0 0
  refine rb_iconst hV dX10_breakRivers_0 ?_
  refine rb_istore_n hV (L2 := [some (.inr (some 49)), some (.inl 0), none]) dX10_breakRivers_1 rfl (Nat.le_of_ble_eq_true rfl) rfl ?_
  refine rb_aload_n hV dX10_breakRivers_2 rfl rfl ?_
  refine rb_callV hV (rest := []) dX10_breakRivers_3 (c_X10_breaker s hx) lk_X10_245 rfl (Or.inl ⟨9, _, TX10, 24, gw_49 _, rfl⟩) rfl ⟨rfl, rfl, (Nat.le_of_ble_eq_true rfl), (Nat.le_of_ble_eq_true rfl), (Nat.le_of_ble_eq_true rfl), (Nat.le_of_ble_eq_true rfl)⟩ (Nat.le_of_ble_eq_true rfl) (fun r9 h9 p9 => ?_)
  obtain ⟨x9, m9, rfl, rfl, hx9, hk9, hq9, hf9, hb9⟩ := p9
  have hxb := BRK_x hb9
  have hnl9 := hx9.2.2.1.1
  have hn9 := hx9.1.1
  have hvx : vM m9 0 0 = m9 120 0 := rfl
  show V 6 [some (.inr (some 49)), some (.inl 0), none] [.inl x9] (WW m9) 0 0
  refine rb_istore_n hV (L2 := [some (.inr (some 49)), some (.inl 0), some (.inl x9)]) dX10_breakRivers_6 rfl (Nat.le_of_ble_eq_true rfl) rfl ?_
  have h7 : ∀ (n7 : Nat) (m : Nat → Int → Int) (n : Int) (x : Int), (MI m) → (KEEP SWB s m) → (0 ≤ n ∧ n ≤ 10) → (BRMN (vM s) (s 57) (s 58) n.toNat (s 59) (s 125 0) (m 59) (m 125 0)) → ((n < 10 → ∃ fb, (∀ j, 0 ≤ j → j ≤ m 125 0 → m 59 j = fb j) ∧ BRK (vM s) (s 57) (s 58) fb (m 125 0) x) ∧ (n = 10 → x = -1)) → ((10 - n).toNat) < n7 → V 7 [some (.inr (some 49)), some (.inl n), some (.inl x)] [] (WW m) 0 0 := by
    intro n7
    induction n7 with
    | zero => intro m n x hx hk h1 h2 h3 hm; omega
    | succ n7 ih7 =>
      intro m n x hx hk h1 h2 h3 hm
      have hxb : x = -1 ∨ (0 ≤ x ∧ x < m 125 0) := by
        by_cases q : n < 10
        · obtain ⟨fb, a, b⟩ := h3.1 q
          exact (BRK_x b).imp id (fun z => ⟨z.1, z.2.1⟩)
        · exact Or.inl (h3.2 (by omega))
      have hnlm := hx.2.2.1.1
      have hnm := hx.1.1
      have hvx2 : vM m 0 0 = m 120 0 := rfl
      refine rb_iload_n hV dX10_breakRivers_7 rfl rfl ?_
      refine rb_if_lt hV (tgt := 43) dX10_breakRivers_8 (by decide) (by unfold ab_r at *; omega) (fun c8 => ?_) (fun c8 => ?_)
      · refine rb_iload_n hV dX10_breakRivers_43 rfl rfl ?_
        refine rb_ret hV (r := some (.inl n)) dX10_breakRivers_44 rfl ⟨(Nat.le_of_ble_eq_true rfl), (Nat.le_of_ble_eq_true rfl)⟩ trivial ?_
        refine ⟨n, m, rfl, rfl, hx, hk, h1, h2, ?_⟩
        by_cases q : n = 10
        · exact Or.inl q
        · obtain ⟨fb, a, b⟩ := h3.1 (by omega)
          exact Or.inr ⟨fb, a, by rw [← show x = -1 by omega]; exact b⟩
      · refine rb_iload_n hV dX10_breakRivers_11 rfl rfl ?_
        refine rb_bipush hV dX10_breakRivers_12 (by decide) ?_
        refine rb_icmp_ge hV (tgt := 43) dX10_breakRivers_14 (by decide) ⟨(by unfold ab_r at *; omega), (by unfold ab_r at *; omega)⟩ (fun c14 => ?_) (fun c14 => ?_)
        · refine rb_iload_n hV dX10_breakRivers_43 rfl rfl ?_
          refine rb_ret hV (r := some (.inl n)) dX10_breakRivers_44 rfl ⟨(Nat.le_of_ble_eq_true rfl), (Nat.le_of_ble_eq_true rfl)⟩ trivial ?_
          refine ⟨n, m, rfl, rfl, hx, hk, h1, h2, ?_⟩
          by_cases q : n = 10
          · exact Or.inl q
          · obtain ⟨fb, a, b⟩ := h3.1 (by omega)
            exact Or.inr ⟨fb, a, by rw [← show x = -1 by omega]; exact b⟩
        · obtain ⟨fb, hfb, hbk⟩ := h3.1 (by omega)
          have hxr := (BRK_x hbk).resolve_left (by omega)
          have hvm : vM m = vM s := KEEP_vM hk (by decide)
          have h57 : m 57 = s 57 := hk 57 (by decide)
          have h58 : m 58 = s 58 := hk 58 (by decide)
          have hsc : sec (vM m) (m 57) (m 59) x = sec (vM s) (s 57) fb x := by
            rw [hvm, h57]
            exact sec_congr (hfb x hxr.1 (by omega)) (hfb (x + 1) (by omega) (by omega))
          refine rb_aload_n hV dX10_breakRivers_17 rfl rfl ?_
          refine rb_iload_n hV dX10_breakRivers_18 rfl rfl ?_
          refine rb_callV hV (rest := []) dX10_breakRivers_19 (c_X10_takesSecond m x hx (by omega) (by rw [hsc]; exact hxr.2.2)) lk_X10_204 rfl (Or.inl ⟨9, _, TX10, 24, gw_49 _, rfl⟩) rfl ⟨rfl, rfl, (Nat.le_of_ble_eq_true rfl), (Nat.le_of_ble_eq_true rfl), (Nat.le_of_ble_eq_true rfl), (Nat.le_of_ble_eq_true rfl)⟩ (Nat.le_of_ble_eq_true rfl) (fun r9 h9 p9 => ?_)
          obtain ⟨s2, rfl, rfl, hmi, hkeep, hgo⟩ := p9
          rw [hsc, h58, show m 120 0 = s 120 0 from congrArg (fun f : Int → Int => f 0) (hk 120 (by decide))] at hgo
          have hk2 : KEEP SWB s s2 := KEEP_trans hk (fun k hk0 => hkeep k (fun q => hk0 ((by decide : ∀ k, k ∈ LBM → k ∈ SWB) k q)))
          have hv2 : vM s2 = vM s := KEEP_vM hk2 (by decide)
          have hL2 : LV (vM s) (s2 59) (s2 125 0) := by
            rw [← hv2]
            exact hmi.2.2.1
          show V 22 [some (.inr (some 49)), some (.inl n), some (.inl x)] [] (WW s2) 0 0
          refine rb_iinc hV (L2 := [some (.inr (some 49)), some (.inl (n + 1)), some (.inl x)]) dX10_breakRivers_22 rfl rfl rfl ?_
          refine rb_iload_n hV dX10_breakRivers_25 rfl rfl ?_
          refine rb_bipush hV dX10_breakRivers_26 (by decide) ?_
          refine rb_icmp_ge hV (tgt := 38) dX10_breakRivers_28 (by decide) ⟨(by unfold ab_r at *; omega), (by unfold ab_r at *; omega)⟩ (fun c28 => ?_) (fun c28 => ?_)
          · refine rb_iconst hV dX10_breakRivers_38 ?_
            refine rb_istore_n hV (L2 := [some (.inr (some 49)), some (.inl (n + 1)), some (.inl (-1))]) dX10_breakRivers_39 rfl (Nat.le_of_ble_eq_true rfl) rfl ?_
            refine rb_goto hV (tgt := 7) dX10_breakRivers_40 (by decide) ?_
            refine ih7 s2 (n + 1) (-1) ?_ ?_ ?_ ?_ ?_ ?_
            · exact hmi
            · exact hk2
            · omega
            · rw [show (n + 1).toNat = n.toNat + 1 by omega]
              exact ⟨m 59, m 125 0, x, fb, m 59, s2 59, h2, by omega, hfb, hbk, fun _ _ _ => rfl, hgo, hL2, fun _ _ _ => rfl⟩
            · exact ⟨fun q => by omega, fun _ => rfl⟩
            · omega
          · refine rb_aload_n hV dX10_breakRivers_31 rfl rfl ?_
            refine rb_callV hV (rest := []) dX10_breakRivers_32 (c_X10_breaker s2 hmi) lk_X10_245 rfl (Or.inl ⟨9, _, TX10, 24, gw_49 _, rfl⟩) rfl ⟨rfl, rfl, (Nat.le_of_ble_eq_true rfl), (Nat.le_of_ble_eq_true rfl), (Nat.le_of_ble_eq_true rfl), (Nat.le_of_ble_eq_true rfl)⟩ (Nat.le_of_ble_eq_true rfl) (fun r9 h9 p9 => ?_)
            obtain ⟨x9, m9, rfl, rfl, hx9, hk9, hq9, hf9, hb9⟩ := p9
            have hxb := BRK_x hb9
            have hnl9 := hx9.2.2.1.1
            have hn9 := hx9.1.1
            have hvx : vM m9 0 0 = m9 120 0 := rfl
            show V 35 [some (.inr (some 49)), some (.inl (n + 1)), some (.inl x)] [.inl x9] (WW m9) 0 0
            refine rb_goto hV (tgt := 39) dX10_breakRivers_35 (by decide) ?_
            refine rb_istore_n hV (L2 := [some (.inr (some 49)), some (.inl (n + 1)), some (.inl x9)]) dX10_breakRivers_39 rfl (Nat.le_of_ble_eq_true rfl) rfl ?_
            refine rb_goto hV (tgt := 7) dX10_breakRivers_40 (by decide) ?_
            refine ih7 m9 (n + 1) x9 ?_ ?_ ?_ ?_ ?_ ?_
            · exact hx9
            · exact KEEP_trans hk2 hk9
            · omega
            · rw [show (n + 1).toNat = n.toNat + 1 by omega]
              exact ⟨m 59, m 125 0, x, fb, m 59, s2 59, h2, by omega, hfb, hbk, fun _ _ _ => rfl, hq9.symm ▸ hgo, hq9.symm ▸ hL2, fun j a b => hf9 j a (by omega)⟩
            · refine ⟨fun _ => ⟨s2 59, fun j a b => hf9 j a (by omega), ?_⟩, fun q => by omega⟩
              rw [hv2, show s2 57 = s 57 from hk2 57 (by decide), show s2 58 = s 58 from hk2 58 (by decide)] at hb9
              rw [hq9]
              exact hb9
            · omega
  refine h7 _ m9 0 x9 ?_ ?_ ?_ ?_ ?_ (Nat.lt_succ_self _)
  · exact hx9
  · exact hk9
  · omega
  · exact ⟨hq9, hf9⟩
  · exact ⟨fun _ => ⟨s 59, fun j a b => hf9 j a (by omega), by rw [hq9]; exact hb9⟩, fun q => by omega⟩
