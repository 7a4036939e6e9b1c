theorem ab_keep {s : Nat → Int → Int} {k j : Nat} {f : Int → Int} {L : List Nat} (hj : j ∉ L) (hm : k ∈ L) : ab_s s k f j = s j := ab_s_ne (fun e => hj (e ▸ hm))
def KEEP (L : List Nat) (s s2 : Nat → Int → Int) : Prop := ∀ k, k ∉ L → s2 k = s k
theorem BWp_ok {d : Nat → Int → Int} {bs be : Int → Int} (h : BWp d bs be (-1)) {j : Int} (h0 : 0 ≤ j) (h1 : j ≤ d 0 0) (hn : ¬ bs j = -1) : 0 ≤ bs j := by
  have := h.2.2 j (by omega) h1
  omega
theorem LV_0 {d : Nat → Int → Int} (fw : Int → Int) (hp : PI d) : LV d fw 0 := ⟨⟨Int.le_refl 0, hp.1.1⟩, fun i q1 q2 => by omega, fun q => by omega⟩
theorem LV_best {d : Nat → Int → Int} {bs be fw : Int → Int} (hp : PI d) (h : BWp d bs be (-1)) (hn : 0 < d 0 0) (hb : ¬ bs 0 = -1) : LV d (go be (d 0 0) (d 0 0 - 0).toNat 0 0 fw).2 (go be (d 0 0) (d 0 0 - 0).toNat 0 0 fw).1 :=
  go_LV (BWp_BW h) (Int.le_refl 0) hp.1.1 (BWp_ok h (Int.le_refl 0) hp.1.1 hb) (Int.le_refl 0) (Int.le_refl 0) (Or.inr ⟨rfl, hn⟩) (fun i q1 q2 => by omega) (fun q => by omega)
theorem go_pos {d : Nat → Int → Int} {bs be fw : Int → Int} (hp : PI d) (h : BWp d bs be (-1)) (hn : 0 < d 0 0) (hb : ¬ bs 0 = -1) : 0 < (go be (d 0 0) (d 0 0 - 0).toNat 0 0 fw).1 :=
  (go_props (BWp_BW h) (d 0 0 - 0).toNat 0 0 fw (Int.le_refl 0) hp.1.1 (BWp_ok h (Int.le_refl 0) hp.1.1 hb) (by omega) (Int.le_refl 0)).1.2.2 hn
/-- a layout whose line l ends with q, and goes on in the best way -/
theorem LV_end {d : Nat → Int → Int} {bs be fw fw0 : Int → Int} {nl l q : Int} (h : BWp d bs be (-1)) (hv : LV d fw nl) (h0 : 0 ≤ l) (h1 : l < nl) (hq : fw l ≤ q ∧ q < d 0 0 ∧ ps d (fw l) q = true ∧ 0 ≤ bs (q + 1)) (hf : ∀ j, 0 ≤ j → j ≤ l → fw0 j = fw j) : LV d (go be (d 0 0) (d 0 0 - (q + 1)).toNat (l + 1) (q + 1) fw0).2 (go be (d 0 0) (d 0 0 - (q + 1)).toNat (l + 1) (q + 1) fw0).1 := by
  have hz := hv.2.2 (by omega)
  have m := fw_le hv (i := 0) (j := l) (Int.le_refl 0) h0 (by omega)
  refine go_LV (BWp_BW h) (by omega) (by omega) hq.2.2.2 (by omega) (by omega) (Or.inl (by omega)) (fun i q1 q2 => ?_) (fun _ => by rw [hf 0 (Int.le_refl 0) h0]; exact hz.1)
  have a := hv.2.1 i q1 (by omega)
  rw [hf i q1 (by omega)]
  by_cases e : i + 1 = l + 1
  · rw [if_pos e, show i = l by omega, show q + 1 - 1 = q by omega]
    have a2 := hv.2.1 l h0 h1
    exact ⟨a2.1, by omega, by omega, hq.2.2.1⟩
  · rw [if_neg e, hf (i + 1) (by omega) (by omega)]
    exact a

set_option maxRecDepth 20000 in
theorem c_X1_becomeBest_la (s : Nat → Int → Int) (hp : PI (vX s)) (hr : RU s) (hbw : BWp (vX s) (s 19) (s 20) (-1)) (hsw : ∀ v, -1000 ≤ s 30 v ∧ s 30 v ≤ 1000) (hln : ∀ v, 0 ≤ s 32 v ∧ s 32 v ≤ 60) : ab_Mt yX1_becomeBest cX1_becomeBest 1 none ({ frames := 4, cells := 0, slots := 0, locals := 98 } : Room) false 0 0 [.inr (some 25)] (WW s) (fun r h2 => r = none ∧ ∃ nl fw dem sw lo sl be am str gl mid gn abv ln en, h2 = WW (ab_s (ab_s (ab_s (ab_s (ab_s (ab_s (ab_s (ab_s (ab_s (ab_s (ab_s (ab_s (ab_s (ab_s (ab_s s 107 (fun _ => nl)) 26 fw) 108 (fun _ => dem)) 30 sw) 27 lo) 28 sl) 29 be) 109 (fun _ => am)) 110 (fun _ => str)) 111 (fun _ => gl)) 33 mid) 35 gn) 34 abv) 32 ln) 36 en) ∧ LV (vX s) fw nl ∧ ST (vX s) fw nl dem am str gl sw lo sl be mid gn abv ln en ∧ ((0 < s 103 0 ∧ ¬ s 19 0 = -1) → (nl, fw) = go (s 20) (s 103 0) (s 103 0 - 0).toNat 0 0 (s 26)) ∧ (¬ (0 < s 103 0 ∧ ¬ s 19 0 = -1) → nl = 0)) := by
  refine ab_mk RX1 false rfl pn_X1_becomeBest (fun z => by cases z) (Nat.le_of_ble_eq_true rfl) (fun V hV => ?_)
  show V 0 [some (.inr (some 25))] [] (WW s) 0 0
  have hn : 0 ≤ s 103 0 ∧ s 103 0 ≤ 60 := hp.1
  have hb0 := BWp_BS hp hbw 0 (Int.le_refl 0) hp.1.1
  refine rb_heq (b := (ab_s (ab_s s 107 (s 107)) 26 (s 26))) ((ab_s_id rfl).trans (ab_s_id rfl)).symm ?_
  refine rb_aload_n hV dX1_becomeBest_0 rfl rfl ?_
  refine rb_iconst hV dX1_becomeBest_1 ?_
  refine rb_put hV (C := RX1) (T := TX1) (N := 12) (ci := 1) (j := 4) dX1_becomeBest_2 rfl (Nat.le_of_ble_eq_true rfl) lf_X1_27 rfl (gw_25 _) (Nat.le_of_ble_eq_true rfl) (ft_X1_4 _) ((pw_25_4 _ _).trans (congrArg WW ((ab_s_sw (by decide)).trans (congrArg (fun x => ab_s x 26 _) (ab_s_same _ 107 _ _))))) ?_
  refine rb_aload_n hV dX1_becomeBest_5 rfl rfl ?_
  refine rb_get hV (v := .inr (some 18)) dX1_becomeBest_6 ⟨RX1, TX1, 12, rfl, (Nat.le_of_ble_eq_true rfl), lf_X1_23⟩ (gw_25 _) rfl ?_
  refine rb_callV hV (rest := []) dX1_becomeBest_9 (c_X0_exists (ab_s (ab_s s 107 (fun _ => 0)) 26 (s 26)) (show 0 ≤ (s 103 0) ∧ (s 103 0) ≤ 60 by omega) (show -1 ≤ s 19 0 ∧ s 19 0 ≤ 732000 from hb0)) lk_X1_93 rfl (Or.inl ⟨0, _, TX0, 4, gw_18 _, rfl⟩) rfl ⟨rfl, rfl, (Nat.le_of_ble_eq_true rfl), (Nat.le_of_ble_eq_true rfl), (Nat.le_of_ble_eq_true rfl), (Nat.le_of_ble_eq_true rfl)⟩ (Nat.le_of_ble_eq_true rfl) (fun r9 h9 p9 => ?_)
  obtain ⟨rfl, rfl⟩ := p9
  show V 12 [some (.inr (some 25))] [.inl (if 0 < (s 103 0) ∧ ¬ (s 19) 0 = -1 then 1 else 0)] (WW (ab_s (ab_s s 107 (fun _ => 0)) 26 (s 26))) 0 0
  by_cases e9 : 0 < (s 103 0) ∧ ¬ (s 19) 0 = -1
  · rw [if_pos e9]
    show V 12 [some (.inr (some 25))] [.inl 1] (WW (ab_s (ab_s s 107 (fun _ => 0)) 26 (s 26))) 0 0
    refine rb_if_eq hV (tgt := 20) dX1_becomeBest_12 (by decide) (by first | assumption | (unfold ab_r at *; omega)) (fun z => absurd z (by decide)) (fun _ => ?_)
    have hb1 : 0 ≤ s 19 0 := by have := e9.2; omega
    refine rb_aload_n hV dX1_becomeBest_15 rfl rfl ?_
    refine rb_iconst hV dX1_becomeBest_16 ?_
    refine rb_callV hV (rest := []) dX1_becomeBest_17 (c_X1_goOnFrom_la (ab_s (ab_s s 107 (fun _ => 0)) 26 (s 26)) 0 hp (BWp_BW hbw) ⟨Int.le_refl 0, hn.1, hb1⟩ ⟨Int.le_refl 0, Int.le_refl 0⟩) lk_X1_97 rfl (Or.inl ⟨1, _, TX1, 12, gw_25 _, rfl⟩) rfl ⟨rfl, rfl, (Nat.le_of_ble_eq_true rfl), (Nat.le_of_ble_eq_true rfl), (Nat.le_of_ble_eq_true rfl), (Nat.le_of_ble_eq_true rfl)⟩ (Nat.le_of_ble_eq_true rfl) (fun r9 h9 p9 => ?_)
    obtain ⟨rfl, rfl⟩ := p9
    refine rb_heq (b := (ab_s (ab_s s 107 (fun _ => (go (s 20) (s 103 0) ((s 103 0) - 0).toNat 0 0 (s 26)).1)) 26 (go (s 20) (s 103 0) ((s 103 0) - 0).toNat 0 0 (s 26)).2)) ((congrArg (fun x => ab_s x 26 _) ((ab_s_sw (by decide)).trans (congrArg (fun x => ab_s x 26 _) (ab_s_same _ 107 _ _)))).trans (ab_s_same _ 26 _ _)) ?_
    show V 20 [some (.inr (some 25))] [] (WW (ab_s (ab_s s 107 (fun _ => (go (s 20) (s 103 0) ((s 103 0) - 0).toNat 0 0 (s 26)).1)) 26 (go (s 20) (s 103 0) ((s 103 0) - 0).toNat 0 0 (s 26)).2)) 0 0
    refine rb_aload_n hV dX1_becomeBest_20 rfl rfl ?_
    refine rb_callV hV (rest := []) dX1_becomeBest_21 (c_X1_settle_la (ab_s (ab_s s 107 (fun _ => (go (s 20) (s 103 0) ((s 103 0) - 0).toNat 0 0 (s 26)).1)) 26 (go (s 20) (s 103 0) ((s 103 0) - 0).toNat 0 0 (s 26)).2) hp hr (LV_best hp hbw e9.1 e9.2) hsw hln) lk_X1_101 rfl (Or.inl ⟨1, _, TX1, 12, gw_25 _, rfl⟩) rfl ⟨rfl, rfl, (Nat.le_of_ble_eq_true rfl), (Nat.le_of_ble_eq_true rfl), (Nat.le_of_ble_eq_true rfl), (Nat.le_of_ble_eq_true rfl)⟩ (Nat.le_of_ble_eq_true rfl) (fun r9 h9 p9 => ?_)
    obtain ⟨rfl, dem, sw, lo, sl, be, am, str, gl, mid, gn, abv, ln, en, rfl, hst⟩ := p9
    show V 24 [some (.inr (some 25))] [] (WW (ab_s (ab_s (ab_s (ab_s (ab_s (ab_s (ab_s (ab_s (ab_s (ab_s (ab_s (ab_s (ab_s (ab_s (ab_s s 107 (fun _ => (go (s 20) (s 103 0) ((s 103 0) - 0).toNat 0 0 (s 26)).1)) 26 (go (s 20) (s 103 0) ((s 103 0) - 0).toNat 0 0 (s 26)).2) 108 (fun _ => dem)) 30 sw) 27 lo) 28 sl) 29 be) 109 (fun _ => am)) 110 (fun _ => str)) 111 (fun _ => gl)) 33 mid) 35 gn) 34 abv) 32 ln) 36 en)) 0 0
    refine rb_ret hV (r := none) dX1_becomeBest_24 rfl ⟨(Nat.le_of_ble_eq_true rfl), (Nat.le_of_ble_eq_true rfl)⟩ trivial ?_
    exact ⟨rfl, _, _, _, _, _, _, _, _, _, _, _, _, _, _, _, rfl, LV_best hp hbw e9.1 e9.2, hst, fun _ => rfl, fun z => absurd e9 z⟩
  · rw [if_neg e9]
    show V 12 [some (.inr (some 25))] [.inl 0] (WW (ab_s (ab_s s 107 (fun _ => 0)) 26 (s 26))) 0 0
    refine rb_if_eq hV (tgt := 20) dX1_becomeBest_12 (by decide) (by first | assumption | (unfold ab_r at *; omega)) (fun _ => ?_) (fun z => absurd z (by decide))
    refine rb_aload_n hV dX1_becomeBest_20 rfl rfl ?_
    refine rb_callV hV (rest := []) dX1_becomeBest_21 (c_X1_settle_la (ab_s (ab_s s 107 (fun _ => 0)) 26 (s 26)) hp hr (LV_0 _ hp) hsw hln) lk_X1_101 rfl (Or.inl ⟨1, _, TX1, 12, gw_25 _, rfl⟩) rfl ⟨rfl, rfl, (Nat.le_of_ble_eq_true rfl), (Nat.le_of_ble_eq_true rfl), (Nat.le_of_ble_eq_true rfl), (Nat.le_of_ble_eq_true rfl)⟩ (Nat.le_of_ble_eq_true rfl) (fun r9 h9 p9 => ?_)
    obtain ⟨rfl, dem, sw, lo, sl, be, am, str, gl, mid, gn, abv, ln, en, rfl, hst⟩ := p9
    show V 24 [some (.inr (some 25))] [] (WW (ab_s (ab_s (ab_s (ab_s (ab_s (ab_s (ab_s (ab_s (ab_s (ab_s (ab_s (ab_s (ab_s (ab_s (ab_s s 107 (fun _ => 0)) 26 (s 26)) 108 (fun _ => dem)) 30 sw) 27 lo) 28 sl) 29 be) 109 (fun _ => am)) 110 (fun _ => str)) 111 (fun _ => gl)) 33 mid) 35 gn) 34 abv) 32 ln) 36 en)) 0 0
    refine rb_ret hV (r := none) dX1_becomeBest_24 rfl ⟨(Nat.le_of_ble_eq_true rfl), (Nat.le_of_ble_eq_true rfl)⟩ trivial ?_
    exact ⟨rfl, _, _, _, _, _, _, _, _, _, _, _, _, _, _, _, rfl, LV_0 _ hp, hst, fun z => absurd z e9, fun _ => rfl⟩

set_option maxRecDepth 20000 in
theorem c_X1_endLineWith_la (s : Nat → Int → Int) (l q : Int) (hp : PI (vX s)) (hr : RU s) (hbw : BWp (vX s) (s 19) (s 20) (-1)) (hsw : ∀ v, -1000 ≤ s 30 v ∧ s 30 v ≤ 1000) (hln : ∀ v, 0 ≤ s 32 v ∧ s 32 v ≤ 60) (hv : LV (vX s) (s 26) (s 107 0)) (hl : 0 ≤ l ∧ l < s 107 0) (hq : s 26 l ≤ q ∧ q < s 103 0 ∧ ps (vX s) (s 26 l) q = true ∧ 0 ≤ s 19 (q + 1)) : ab_Mt yX1_endLineWith cX1_endLineWith 3 none ({ frames := 4, cells := 0, slots := 0, locals := 98 } : Room) false 0 0 [.inr (some 25), .inl l, .inl q] (WW s) (fun r h2 => r = none ∧ ∃ nl fw dem sw lo sl be am str gl mid gn abv ln en, h2 = WW (ab_s (ab_s (ab_s (ab_s (ab_s (ab_s (ab_s (ab_s (ab_s (ab_s (ab_s (ab_s (ab_s (ab_s (ab_s s 107 (fun _ => nl)) 26 fw) 108 (fun _ => dem)) 30 sw) 27 lo) 28 sl) 29 be) 109 (fun _ => am)) 110 (fun _ => str)) 111 (fun _ => gl)) 33 mid) 35 gn) 34 abv) 32 ln) 36 en) ∧ LV (vX s) fw nl ∧ ST (vX s) fw nl dem am str gl sw lo sl be mid gn abv ln en ∧ (nl, fw) = go (s 20) (s 103 0) (s 103 0 - (q + 1)).toNat (l + 1) (q + 1) (s 26)) := by
  refine ab_mk RX1 false rfl pn_X1_endLineWith (fun z => by cases z) (Nat.le_of_ble_eq_true rfl) (fun V hV => ?_)
  show V 0 [some (.inr (some 25)), some (.inl l), some (.inl q)] [] (WW s) 0 0
  have hn : 0 ≤ s 103 0 ∧ s 103 0 ≤ 60 := hp.1
  have hnl : 0 ≤ s 107 0 ∧ s 107 0 ≤ s 103 0 := hv.1
  have hz0 : s 26 0 = 0 := (hv.2.2 (by omega)).1
  have hm0 : s 26 0 + (l - 0) ≤ s 26 l := fw_le hv (Int.le_refl 0) hl.1 (by omega)
  have hq1 := hq.1
  have hq2 := hq.2.1
  refine rb_heq (b := (ab_s (ab_s s 107 (s 107)) 26 (s 26))) ((ab_s_id rfl).trans (ab_s_id rfl)).symm ?_
  refine rb_aload_n hV dX1_endLineWith_0 rfl rfl ?_
  refine rb_iload_n hV dX1_endLineWith_1 rfl rfl ?_
  refine rb_callV hV (rest := []) dX1_endLineWith_2 (c_X1_hasLine_la (ab_s (ab_s s 107 (s 107)) 26 (s 26)) l (by first | assumption | (unfold ab_r at *; omega)) (show 0 ≤ ((s 107) 0) ∧ ((s 107) 0) ≤ 60 by omega)) lk_X1_57 rfl (Or.inl ⟨1, _, TX1, 12, gw_25 _, rfl⟩) rfl ⟨rfl, rfl, (Nat.le_of_ble_eq_true rfl), (Nat.le_of_ble_eq_true rfl), (Nat.le_of_ble_eq_true rfl), (Nat.le_of_ble_eq_true rfl)⟩ (Nat.le_of_ble_eq_true rfl) (fun r9 h9 p9 => ?_)
  obtain ⟨rfl, rfl⟩ := p9
  show V 5 [some (.inr (some 25)), some (.inl l), some (.inl q)] [.inl (if 0 ≤ l ∧ l < ((s 107) 0) then 1 else 0)] (WW (ab_s (ab_s s 107 (s 107)) 26 (s 26))) 0 0
  rw [if_pos (show 0 ≤ l ∧ l < ((s 107) 0) by omega)]
  show V 5 [some (.inr (some 25)), some (.inl l), some (.inl q)] [.inl 1] (WW (ab_s (ab_s s 107 (s 107)) 26 (s 26))) 0 0
  refine rb_if_eq hV (tgt := 19) dX1_endLineWith_5 (by decide) (by first | assumption | (unfold ab_r at *; omega)) (fun z => absurd z (by decide)) (fun _ => ?_)
  refine rb_aload_n hV dX1_endLineWith_8 rfl rfl ?_
  refine rb_get hV (v := .inr (some 5)) dX1_endLineWith_9 ⟨RX1, TX1, 12, rfl, (Nat.le_of_ble_eq_true rfl), lf_X1_9⟩ (gw_25 _) rfl ?_
  refine rb_iload_n hV dX1_endLineWith_12 rfl rfl ?_
  refine rb_callV hV (rest := []) dX1_endLineWith_13 (c_X4_hasWord (ab_s (ab_s s 107 (s 107)) 26 (s 26)) q (by first | assumption | (unfold ab_r at *; omega)) (show 0 ≤ (s 103 0) ∧ (s 103 0) ≤ 60 by omega)) lk_X1_104 rfl (Or.inl ⟨4, _, TX4, 6, gw_5 _, rfl⟩) rfl ⟨rfl, rfl, (Nat.le_of_ble_eq_true rfl), (Nat.le_of_ble_eq_true rfl), (Nat.le_of_ble_eq_true rfl), (Nat.le_of_ble_eq_true rfl)⟩ (Nat.le_of_ble_eq_true rfl) (fun r9 h9 p9 => ?_)
  obtain ⟨rfl, rfl⟩ := p9
  show V 16 [some (.inr (some 25)), some (.inl l), some (.inl q)] [.inl (if 0 ≤ q ∧ q < (s 103 0) then 1 else 0)] (WW (ab_s (ab_s s 107 (s 107)) 26 (s 26))) 0 0
  rw [if_pos (show 0 ≤ q ∧ q < (s 103 0) by omega)]
  show V 16 [some (.inr (some 25)), some (.inl l), some (.inl q)] [.inl 1] (WW (ab_s (ab_s s 107 (s 107)) 26 (s 26))) 0 0
  refine rb_if_ne hV (tgt := 20) dX1_endLineWith_16 (by decide) (by first | assumption | (unfold ab_r at *; omega)) (fun _ => ?_) (fun z => absurd z (by decide))
  refine rb_aload_n hV dX1_endLineWith_20 rfl rfl ?_
  refine rb_iload_n hV dX1_endLineWith_21 rfl rfl ?_
  refine rb_iconst hV dX1_endLineWith_22 ?_
  refine rb_iadd hV dX1_endLineWith_23 ?_
  refine rb_put hV (C := RX1) (T := TX1) (N := 12) (ci := 1) (j := 4) dX1_endLineWith_24 rfl (Nat.le_of_ble_eq_true rfl) lf_X1_27 rfl (gw_25 _) (Nat.le_of_ble_eq_true rfl) (ft_X1_4 _) ((pw_25_4 _ _).trans (congrArg WW ((ab_s_sw (by decide)).trans (congrArg (fun x => ab_s x 26 _) (ab_s_same _ 107 _ _))))) ?_
  refine rb_aload_n hV dX1_endLineWith_27 rfl rfl ?_
  refine rb_iload_n hV dX1_endLineWith_28 rfl rfl ?_
  refine rb_iconst hV dX1_endLineWith_29 ?_
  refine rb_iadd hV dX1_endLineWith_30 ?_
  refine rb_callV hV (rest := []) dX1_endLineWith_31 (c_X1_goOnFrom_la (ab_s (ab_s s 107 (fun _ => (l + 1))) 26 (s 26)) (q + 1) hp (BWp_BW hbw) (show 0 ≤ q + 1 ∧ q + 1 ≤ s 103 0 ∧ 0 ≤ s 19 (q + 1) from ⟨by omega, by omega, hq.2.2.2⟩) (show 0 ≤ l + 1 ∧ l + 1 ≤ q + 1 by omega)) lk_X1_97 rfl (Or.inl ⟨1, _, TX1, 12, gw_25 _, rfl⟩) rfl ⟨rfl, rfl, (Nat.le_of_ble_eq_true rfl), (Nat.le_of_ble_eq_true rfl), (Nat.le_of_ble_eq_true rfl), (Nat.le_of_ble_eq_true rfl)⟩ (Nat.le_of_ble_eq_true rfl) (fun r9 h9 p9 => ?_)
  obtain ⟨rfl, rfl⟩ := p9
  refine rb_heq (b := (ab_s (ab_s s 107 (fun _ => (go (s 20) (s 103 0) ((s 103 0) - (q + 1)).toNat (l + 1) (q + 1) (s 26)).1)) 26 (go (s 20) (s 103 0) ((s 103 0) - (q + 1)).toNat (l + 1) (q + 1) (s 26)).2)) ((congrArg (fun x => ab_s x 26 _) ((ab_s_sw (by decide)).trans (congrArg (fun x => ab_s x 26 _) (ab_s_same _ 107 _ _)))).trans (ab_s_same _ 26 _ _)) ?_
  show V 34 [some (.inr (some 25)), some (.inl l), some (.inl q)] [] (WW (ab_s (ab_s s 107 (fun _ => (go (s 20) (s 103 0) ((s 103 0) - (q + 1)).toNat (l + 1) (q + 1) (s 26)).1)) 26 (go (s 20) (s 103 0) ((s 103 0) - (q + 1)).toNat (l + 1) (q + 1) (s 26)).2)) 0 0
  refine rb_aload_n hV dX1_endLineWith_34 rfl rfl ?_
  refine rb_callV hV (rest := []) dX1_endLineWith_35 (c_X1_settle_la (ab_s (ab_s s 107 (fun _ => (go (s 20) (s 103 0) ((s 103 0) - (q + 1)).toNat (l + 1) (q + 1) (s 26)).1)) 26 (go (s 20) (s 103 0) ((s 103 0) - (q + 1)).toNat (l + 1) (q + 1) (s 26)).2) hp hr (LV_end hbw hv hl.1 hl.2 hq (fun _ _ _ => rfl)) hsw hln) lk_X1_101 rfl (Or.inl ⟨1, _, TX1, 12, gw_25 _, rfl⟩) rfl ⟨rfl, rfl, (Nat.le_of_ble_eq_true rfl), (Nat.le_of_ble_eq_true rfl), (Nat.le_of_ble_eq_true rfl), (Nat.le_of_ble_eq_true rfl)⟩ (Nat.le_of_ble_eq_true rfl) (fun r9 h9 p9 => ?_)
  obtain ⟨rfl, dem, sw, lo, sl, be, am, str, gl, mid, gn, abv, ln, en, rfl, hst⟩ := p9
  show V 38 [some (.inr (some 25)), some (.inl l), some (.inl q)] [] (WW (ab_s (ab_s (ab_s (ab_s (ab_s (ab_s (ab_s (ab_s (ab_s (ab_s (ab_s (ab_s (ab_s (ab_s (ab_s s 107 (fun _ => (go (s 20) (s 103 0) ((s 103 0) - (q + 1)).toNat (l + 1) (q + 1) (s 26)).1)) 26 (go (s 20) (s 103 0) ((s 103 0) - (q + 1)).toNat (l + 1) (q + 1) (s 26)).2) 108 (fun _ => dem)) 30 sw) 27 lo) 28 sl) 29 be) 109 (fun _ => am)) 110 (fun _ => str)) 111 (fun _ => gl)) 33 mid) 35 gn) 34 abv) 32 ln) 36 en)) 0 0
  refine rb_ret hV (r := none) dX1_endLineWith_38 rfl ⟨(Nat.le_of_ble_eq_true rfl), (Nat.le_of_ble_eq_true rfl)⟩ trivial ?_
  exact ⟨rfl, _, _, _, _, _, _, _, _, _, _, _, _, _, _, _, rfl, LV_end hbw hv hl.1 hl.2 hq (fun _ _ _ => rfl), hst, rfl⟩

set_option maxRecDepth 20000 in
theorem c_X1_becomeBest_tr (s : Nat → Int → Int) (hp : PI (vX s)) (hr : RU s) (hbw : BWp (vX s) (s 19) (s 20) (-1)) (hsw : ∀ v, -1000 ≤ s 42 v ∧ s 42 v ≤ 1000) (hln : ∀ v, 0 ≤ s 44 v ∧ s 44 v ≤ 60) : ab_Mt yX1_becomeBest cX1_becomeBest 1 none ({ frames := 4, cells := 0, slots := 0, locals := 98 } : Room) false 0 0 [.inr (some 37)] (WW s) (fun r h2 => r = none ∧ ∃ nl fw dem sw lo sl be am str gl mid gn abv ln en, h2 = WW (ab_s (ab_s (ab_s (ab_s (ab_s (ab_s (ab_s (ab_s (ab_s (ab_s (ab_s (ab_s (ab_s (ab_s (ab_s s 112 (fun _ => nl)) 38 fw) 113 (fun _ => dem)) 42 sw) 39 lo) 40 sl) 41 be) 114 (fun _ => am)) 115 (fun _ => str)) 116 (fun _ => gl)) 45 mid) 47 gn) 46 abv) 44 ln) 48 en) ∧ LV (vX s) fw nl ∧ ST (vX s) fw nl dem am str gl sw lo sl be mid gn abv ln en ∧ ((0 < s 103 0 ∧ ¬ s 19 0 = -1) → (nl, fw) = go (s 20) (s 103 0) (s 103 0 - 0).toNat 0 0 (s 38)) ∧ (¬ (0 < s 103 0 ∧ ¬ s 19 0 = -1) → nl = 0)) := by
  refine ab_mk RX1 false rfl pn_X1_becomeBest (fun z => by cases z) (Nat.le_of_ble_eq_true rfl) (fun V hV => ?_)
  show V 0 [some (.inr (some 37))] [] (WW s) 0 0
  have hn : 0 ≤ s 103 0 ∧ s 103 0 ≤ 60 := hp.1
  have hb0 := BWp_BS hp hbw 0 (Int.le_refl 0) hp.1.1
  refine rb_heq (b := (ab_s (ab_s s 112 (s 112)) 38 (s 38))) ((ab_s_id rfl).trans (ab_s_id rfl)).symm ?_
  refine rb_aload_n hV dX1_becomeBest_0 rfl rfl ?_
  refine rb_iconst hV dX1_becomeBest_1 ?_
  refine rb_put hV (C := RX1) (T := TX1) (N := 12) (ci := 1) (j := 4) dX1_becomeBest_2 rfl (Nat.le_of_ble_eq_true rfl) lf_X1_27 rfl (gw_37 _) (Nat.le_of_ble_eq_true rfl) (ft_X1_4 _) ((pw_37_4 _ _).trans (congrArg WW ((ab_s_sw (by decide)).trans (congrArg (fun x => ab_s x 38 _) (ab_s_same _ 112 _ _))))) ?_
  refine rb_aload_n hV dX1_becomeBest_5 rfl rfl ?_
  refine rb_get hV (v := .inr (some 18)) dX1_becomeBest_6 ⟨RX1, TX1, 12, rfl, (Nat.le_of_ble_eq_true rfl), lf_X1_23⟩ (gw_37 _) rfl ?_
  refine rb_callV hV (rest := []) dX1_becomeBest_9 (c_X0_exists (ab_s (ab_s s 112 (fun _ => 0)) 38 (s 38)) (show 0 ≤ (s 103 0) ∧ (s 103 0) ≤ 60 by omega) (show -1 ≤ s 19 0 ∧ s 19 0 ≤ 732000 from hb0)) lk_X1_93 rfl (Or.inl ⟨0, _, TX0, 4, gw_18 _, rfl⟩) rfl ⟨rfl, rfl, (Nat.le_of_ble_eq_true rfl), (Nat.le_of_ble_eq_true rfl), (Nat.le_of_ble_eq_true rfl), (Nat.le_of_ble_eq_true rfl)⟩ (Nat.le_of_ble_eq_true rfl) (fun r9 h9 p9 => ?_)
  obtain ⟨rfl, rfl⟩ := p9
  show V 12 [some (.inr (some 37))] [.inl (if 0 < (s 103 0) ∧ ¬ (s 19) 0 = -1 then 1 else 0)] (WW (ab_s (ab_s s 112 (fun _ => 0)) 38 (s 38))) 0 0
  by_cases e9 : 0 < (s 103 0) ∧ ¬ (s 19) 0 = -1
  · rw [if_pos e9]
    show V 12 [some (.inr (some 37))] [.inl 1] (WW (ab_s (ab_s s 112 (fun _ => 0)) 38 (s 38))) 0 0
    refine rb_if_eq hV (tgt := 20) dX1_becomeBest_12 (by decide) (by first | assumption | (unfold ab_r at *; omega)) (fun z => absurd z (by decide)) (fun _ => ?_)
    have hb1 : 0 ≤ s 19 0 := by have := e9.2; omega
    refine rb_aload_n hV dX1_becomeBest_15 rfl rfl ?_
    refine rb_iconst hV dX1_becomeBest_16 ?_
    refine rb_callV hV (rest := []) dX1_becomeBest_17 (c_X1_goOnFrom_tr (ab_s (ab_s s 112 (fun _ => 0)) 38 (s 38)) 0 hp (BWp_BW hbw) ⟨Int.le_refl 0, hn.1, hb1⟩ ⟨Int.le_refl 0, Int.le_refl 0⟩) lk_X1_97 rfl (Or.inl ⟨1, _, TX1, 12, gw_37 _, rfl⟩) rfl ⟨rfl, rfl, (Nat.le_of_ble_eq_true rfl), (Nat.le_of_ble_eq_true rfl), (Nat.le_of_ble_eq_true rfl), (Nat.le_of_ble_eq_true rfl)⟩ (Nat.le_of_ble_eq_true rfl) (fun r9 h9 p9 => ?_)
    obtain ⟨rfl, rfl⟩ := p9
    refine rb_heq (b := (ab_s (ab_s s 112 (fun _ => (go (s 20) (s 103 0) ((s 103 0) - 0).toNat 0 0 (s 38)).1)) 38 (go (s 20) (s 103 0) ((s 103 0) - 0).toNat 0 0 (s 38)).2)) ((congrArg (fun x => ab_s x 38 _) ((ab_s_sw (by decide)).trans (congrArg (fun x => ab_s x 38 _) (ab_s_same _ 112 _ _)))).trans (ab_s_same _ 38 _ _)) ?_
    show V 20 [some (.inr (some 37))] [] (WW (ab_s (ab_s s 112 (fun _ => (go (s 20) (s 103 0) ((s 103 0) - 0).toNat 0 0 (s 38)).1)) 38 (go (s 20) (s 103 0) ((s 103 0) - 0).toNat 0 0 (s 38)).2)) 0 0
    refine rb_aload_n hV dX1_becomeBest_20 rfl rfl ?_
    refine rb_callV hV (rest := []) dX1_becomeBest_21 (c_X1_settle_tr (ab_s (ab_s s 112 (fun _ => (go (s 20) (s 103 0) ((s 103 0) - 0).toNat 0 0 (s 38)).1)) 38 (go (s 20) (s 103 0) ((s 103 0) - 0).toNat 0 0 (s 38)).2) hp hr (LV_best hp hbw e9.1 e9.2) hsw hln) lk_X1_101 rfl (Or.inl ⟨1, _, TX1, 12, gw_37 _, rfl⟩) rfl ⟨rfl, rfl, (Nat.le_of_ble_eq_true rfl), (Nat.le_of_ble_eq_true rfl), (Nat.le_of_ble_eq_true rfl), (Nat.le_of_ble_eq_true rfl)⟩ (Nat.le_of_ble_eq_true rfl) (fun r9 h9 p9 => ?_)
    obtain ⟨rfl, dem, sw, lo, sl, be, am, str, gl, mid, gn, abv, ln, en, rfl, hst⟩ := p9
    show V 24 [some (.inr (some 37))] [] (WW (ab_s (ab_s (ab_s (ab_s (ab_s (ab_s (ab_s (ab_s (ab_s (ab_s (ab_s (ab_s (ab_s (ab_s (ab_s s 112 (fun _ => (go (s 20) (s 103 0) ((s 103 0) - 0).toNat 0 0 (s 38)).1)) 38 (go (s 20) (s 103 0) ((s 103 0) - 0).toNat 0 0 (s 38)).2) 113 (fun _ => dem)) 42 sw) 39 lo) 40 sl) 41 be) 114 (fun _ => am)) 115 (fun _ => str)) 116 (fun _ => gl)) 45 mid) 47 gn) 46 abv) 44 ln) 48 en)) 0 0
    refine rb_ret hV (r := none) dX1_becomeBest_24 rfl ⟨(Nat.le_of_ble_eq_true rfl), (Nat.le_of_ble_eq_true rfl)⟩ trivial ?_
    exact ⟨rfl, _, _, _, _, _, _, _, _, _, _, _, _, _, _, _, rfl, LV_best hp hbw e9.1 e9.2, hst, fun _ => rfl, fun z => absurd e9 z⟩
  · rw [if_neg e9]
    show V 12 [some (.inr (some 37))] [.inl 0] (WW (ab_s (ab_s s 112 (fun _ => 0)) 38 (s 38))) 0 0
    refine rb_if_eq hV (tgt := 20) dX1_becomeBest_12 (by decide) (by first | assumption | (unfold ab_r at *; omega)) (fun _ => ?_) (fun z => absurd z (by decide))
    refine rb_aload_n hV dX1_becomeBest_20 rfl rfl ?_
    refine rb_callV hV (rest := []) dX1_becomeBest_21 (c_X1_settle_tr (ab_s (ab_s s 112 (fun _ => 0)) 38 (s 38)) hp hr (LV_0 _ hp) hsw hln) lk_X1_101 rfl (Or.inl ⟨1, _, TX1, 12, gw_37 _, rfl⟩) rfl ⟨rfl, rfl, (Nat.le_of_ble_eq_true rfl), (Nat.le_of_ble_eq_true rfl), (Nat.le_of_ble_eq_true rfl), (Nat.le_of_ble_eq_true rfl)⟩ (Nat.le_of_ble_eq_true rfl) (fun r9 h9 p9 => ?_)
    obtain ⟨rfl, dem, sw, lo, sl, be, am, str, gl, mid, gn, abv, ln, en, rfl, hst⟩ := p9
    show V 24 [some (.inr (some 37))] [] (WW (ab_s (ab_s (ab_s (ab_s (ab_s (ab_s (ab_s (ab_s (ab_s (ab_s (ab_s (ab_s (ab_s (ab_s (ab_s s 112 (fun _ => 0)) 38 (s 38)) 113 (fun _ => dem)) 42 sw) 39 lo) 40 sl) 41 be) 114 (fun _ => am)) 115 (fun _ => str)) 116 (fun _ => gl)) 45 mid) 47 gn) 46 abv) 44 ln) 48 en)) 0 0
    refine rb_ret hV (r := none) dX1_becomeBest_24 rfl ⟨(Nat.le_of_ble_eq_true rfl), (Nat.le_of_ble_eq_true rfl)⟩ trivial ?_
    exact ⟨rfl, _, _, _, _, _, _, _, _, _, _, _, _, _, _, _, rfl, LV_0 _ hp, hst, fun z => absurd z e9, fun _ => rfl⟩

set_option maxRecDepth 20000 in
theorem c_X1_endLineWith_tr (s : Nat → Int → Int) (l q : Int) (hp : PI (vX s)) (hr : RU s) (hbw : BWp (vX s) (s 19) (s 20) (-1)) (hsw : ∀ v, -1000 ≤ s 42 v ∧ s 42 v ≤ 1000) (hln : ∀ v, 0 ≤ s 44 v ∧ s 44 v ≤ 60) (hv : LV (vX s) (s 38) (s 112 0)) (hl : 0 ≤ l ∧ l < s 112 0) (hq : s 38 l ≤ q ∧ q < s 103 0 ∧ ps (vX s) (s 38 l) q = true ∧ 0 ≤ s 19 (q + 1)) : ab_Mt yX1_endLineWith cX1_endLineWith 3 none ({ frames := 4, cells := 0, slots := 0, locals := 98 } : Room) false 0 0 [.inr (some 37), .inl l, .inl q] (WW s) (fun r h2 => r = none ∧ ∃ nl fw dem sw lo sl be am str gl mid gn abv ln en, h2 = WW (ab_s (ab_s (ab_s (ab_s (ab_s (ab_s (ab_s (ab_s (ab_s (ab_s (ab_s (ab_s (ab_s (ab_s (ab_s s 112 (fun _ => nl)) 38 fw) 113 (fun _ => dem)) 42 sw) 39 lo) 40 sl) 41 be) 114 (fun _ => am)) 115 (fun _ => str)) 116 (fun _ => gl)) 45 mid) 47 gn) 46 abv) 44 ln) 48 en) ∧ LV (vX s) fw nl ∧ ST (vX s) fw nl dem am str gl sw lo sl be mid gn abv ln en ∧ (nl, fw) = go (s 20) (s 103 0) (s 103 0 - (q + 1)).toNat (l + 1) (q + 1) (s 38)) := by
  refine ab_mk RX1 false rfl pn_X1_endLineWith (fun z => by cases z) (Nat.le_of_ble_eq_true rfl) (fun V hV => ?_)
  show V 0 [some (.inr (some 37)), some (.inl l), some (.inl q)] [] (WW s) 0 0
  have hn : 0 ≤ s 103 0 ∧ s 103 0 ≤ 60 := hp.1
  have hnl : 0 ≤ s 112 0 ∧ s 112 0 ≤ s 103 0 := hv.1
  have hz0 : s 38 0 = 0 := (hv.2.2 (by omega)).1
  have hm0 : s 38 0 + (l - 0) ≤ s 38 l := fw_le hv (Int.le_refl 0) hl.1 (by omega)
  have hq1 := hq.1
  have hq2 := hq.2.1
  refine rb_heq (b := (ab_s (ab_s s 112 (s 112)) 38 (s 38))) ((ab_s_id rfl).trans (ab_s_id rfl)).symm ?_
  refine rb_aload_n hV dX1_endLineWith_0 rfl rfl ?_
  refine rb_iload_n hV dX1_endLineWith_1 rfl rfl ?_
  refine rb_callV hV (rest := []) dX1_endLineWith_2 (c_X1_hasLine_tr (ab_s (ab_s s 112 (s 112)) 38 (s 38)) l (by first | assumption | (unfold ab_r at *; omega)) (show 0 ≤ ((s 112) 0) ∧ ((s 112) 0) ≤ 60 by omega)) lk_X1_57 rfl (Or.inl ⟨1, _, TX1, 12, gw_37 _, rfl⟩) rfl ⟨rfl, rfl, (Nat.le_of_ble_eq_true rfl), (Nat.le_of_ble_eq_true rfl), (Nat.le_of_ble_eq_true rfl), (Nat.le_of_ble_eq_true rfl)⟩ (Nat.le_of_ble_eq_true rfl) (fun r9 h9 p9 => ?_)
  obtain ⟨rfl, rfl⟩ := p9
  show V 5 [some (.inr (some 37)), some (.inl l), some (.inl q)] [.inl (if 0 ≤ l ∧ l < ((s 112) 0) then 1 else 0)] (WW (ab_s (ab_s s 112 (s 112)) 38 (s 38))) 0 0
  rw [if_pos (show 0 ≤ l ∧ l < ((s 112) 0) by omega)]
  show V 5 [some (.inr (some 37)), some (.inl l), some (.inl q)] [.inl 1] (WW (ab_s (ab_s s 112 (s 112)) 38 (s 38))) 0 0
  refine rb_if_eq hV (tgt := 19) dX1_endLineWith_5 (by decide) (by first | assumption | (unfold ab_r at *; omega)) (fun z => absurd z (by decide)) (fun _ => ?_)
  refine rb_aload_n hV dX1_endLineWith_8 rfl rfl ?_
  refine rb_get hV (v := .inr (some 5)) dX1_endLineWith_9 ⟨RX1, TX1, 12, rfl, (Nat.le_of_ble_eq_true rfl), lf_X1_9⟩ (gw_37 _) rfl ?_
  refine rb_iload_n hV dX1_endLineWith_12 rfl rfl ?_
  refine rb_callV hV (rest := []) dX1_endLineWith_13 (c_X4_hasWord (ab_s (ab_s s 112 (s 112)) 38 (s 38)) q (by first | assumption | (unfold ab_r at *; omega)) (show 0 ≤ (s 103 0) ∧ (s 103 0) ≤ 60 by omega)) lk_X1_104 rfl (Or.inl ⟨4, _, TX4, 6, gw_5 _, rfl⟩) rfl ⟨rfl, rfl, (Nat.le_of_ble_eq_true rfl), (Nat.le_of_ble_eq_true rfl), (Nat.le_of_ble_eq_true rfl), (Nat.le_of_ble_eq_true rfl)⟩ (Nat.le_of_ble_eq_true rfl) (fun r9 h9 p9 => ?_)
  obtain ⟨rfl, rfl⟩ := p9
  show V 16 [some (.inr (some 37)), some (.inl l), some (.inl q)] [.inl (if 0 ≤ q ∧ q < (s 103 0) then 1 else 0)] (WW (ab_s (ab_s s 112 (s 112)) 38 (s 38))) 0 0
  rw [if_pos (show 0 ≤ q ∧ q < (s 103 0) by omega)]
  show V 16 [some (.inr (some 37)), some (.inl l), some (.inl q)] [.inl 1] (WW (ab_s (ab_s s 112 (s 112)) 38 (s 38))) 0 0
  refine rb_if_ne hV (tgt := 20) dX1_endLineWith_16 (by decide) (by first | assumption | (unfold ab_r at *; omega)) (fun _ => ?_) (fun z => absurd z (by decide))
  refine rb_aload_n hV dX1_endLineWith_20 rfl rfl ?_
  refine rb_iload_n hV dX1_endLineWith_21 rfl rfl ?_
  refine rb_iconst hV dX1_endLineWith_22 ?_
  refine rb_iadd hV dX1_endLineWith_23 ?_
  refine rb_put hV (C := RX1) (T := TX1) (N := 12) (ci := 1) (j := 4) dX1_endLineWith_24 rfl (Nat.le_of_ble_eq_true rfl) lf_X1_27 rfl (gw_37 _) (Nat.le_of_ble_eq_true rfl) (ft_X1_4 _) ((pw_37_4 _ _).trans (congrArg WW ((ab_s_sw (by decide)).trans (congrArg (fun x => ab_s x 38 _) (ab_s_same _ 112 _ _))))) ?_
  refine rb_aload_n hV dX1_endLineWith_27 rfl rfl ?_
  refine rb_iload_n hV dX1_endLineWith_28 rfl rfl ?_
  refine rb_iconst hV dX1_endLineWith_29 ?_
  refine rb_iadd hV dX1_endLineWith_30 ?_
  refine rb_callV hV (rest := []) dX1_endLineWith_31 (c_X1_goOnFrom_tr (ab_s (ab_s s 112 (fun _ => (l + 1))) 38 (s 38)) (q + 1) hp (BWp_BW hbw) (show 0 ≤ q + 1 ∧ q + 1 ≤ s 103 0 ∧ 0 ≤ s 19 (q + 1) from ⟨by omega, by omega, hq.2.2.2⟩) (show 0 ≤ l + 1 ∧ l + 1 ≤ q + 1 by omega)) lk_X1_97 rfl (Or.inl ⟨1, _, TX1, 12, gw_37 _, rfl⟩) rfl ⟨rfl, rfl, (Nat.le_of_ble_eq_true rfl), (Nat.le_of_ble_eq_true rfl), (Nat.le_of_ble_eq_true rfl), (Nat.le_of_ble_eq_true rfl)⟩ (Nat.le_of_ble_eq_true rfl) (fun r9 h9 p9 => ?_)
  obtain ⟨rfl, rfl⟩ := p9
  refine rb_heq (b := (ab_s (ab_s s 112 (fun _ => (go (s 20) (s 103 0) ((s 103 0) - (q + 1)).toNat (l + 1) (q + 1) (s 38)).1)) 38 (go (s 20) (s 103 0) ((s 103 0) - (q + 1)).toNat (l + 1) (q + 1) (s 38)).2)) ((congrArg (fun x => ab_s x 38 _) ((ab_s_sw (by decide)).trans (congrArg (fun x => ab_s x 38 _) (ab_s_same _ 112 _ _)))).trans (ab_s_same _ 38 _ _)) ?_
  show V 34 [some (.inr (some 37)), some (.inl l), some (.inl q)] [] (WW (ab_s (ab_s s 112 (fun _ => (go (s 20) (s 103 0) ((s 103 0) - (q + 1)).toNat (l + 1) (q + 1) (s 38)).1)) 38 (go (s 20) (s 103 0) ((s 103 0) - (q + 1)).toNat (l + 1) (q + 1) (s 38)).2)) 0 0
  refine rb_aload_n hV dX1_endLineWith_34 rfl rfl ?_
  refine rb_callV hV (rest := []) dX1_endLineWith_35 (c_X1_settle_tr (ab_s (ab_s s 112 (fun _ => (go (s 20) (s 103 0) ((s 103 0) - (q + 1)).toNat (l + 1) (q + 1) (s 38)).1)) 38 (go (s 20) (s 103 0) ((s 103 0) - (q + 1)).toNat (l + 1) (q + 1) (s 38)).2) hp hr (LV_end hbw hv hl.1 hl.2 hq (fun _ _ _ => rfl)) hsw hln) lk_X1_101 rfl (Or.inl ⟨1, _, TX1, 12, gw_37 _, rfl⟩) rfl ⟨rfl, rfl, (Nat.le_of_ble_eq_true rfl), (Nat.le_of_ble_eq_true rfl), (Nat.le_of_ble_eq_true rfl), (Nat.le_of_ble_eq_true rfl)⟩ (Nat.le_of_ble_eq_true rfl) (fun r9 h9 p9 => ?_)
  obtain ⟨rfl, dem, sw, lo, sl, be, am, str, gl, mid, gn, abv, ln, en, rfl, hst⟩ := p9
  show V 38 [some (.inr (some 37)), some (.inl l), some (.inl q)] [] (WW (ab_s (ab_s (ab_s (ab_s (ab_s (ab_s (ab_s (ab_s (ab_s (ab_s (ab_s (ab_s (ab_s (ab_s (ab_s s 112 (fun _ => (go (s 20) (s 103 0) ((s 103 0) - (q + 1)).toNat (l + 1) (q + 1) (s 38)).1)) 38 (go (s 20) (s 103 0) ((s 103 0) - (q + 1)).toNat (l + 1) (q + 1) (s 38)).2) 113 (fun _ => dem)) 42 sw) 39 lo) 40 sl) 41 be) 114 (fun _ => am)) 115 (fun _ => str)) 116 (fun _ => gl)) 45 mid) 47 gn) 46 abv) 44 ln) 48 en)) 0 0
  refine rb_ret hV (r := none) dX1_endLineWith_38 rfl ⟨(Nat.le_of_ble_eq_true rfl), (Nat.le_of_ble_eq_true rfl)⟩ trivial ?_
  exact ⟨rfl, _, _, _, _, _, _, _, _, _, _, _, _, _, _, _, rfl, LV_end hbw hv hl.1 hl.2 hq (fun _ _ _ => rfl), hst, rfl⟩

set_option maxRecDepth 20000 in
theorem c_X1_copyBreaks (s : Nat → Int → Int) : ab_Mt yX1_copyBreaks cX1_copyBreaks 3 none ({ frames := 0, cells := 0, slots := 0, locals := 0 } : Room) false 0 0 [.inr (some 37), .inr (some 25)] (WW s) (fun r h2 => r = none ∧ ∃ f, h2 = WW (ab_s (ab_s s 112 (fun _ => s 107 0)) 38 f) ∧ ∀ j, 0 ≤ j → j ≤ 60 → f j = s 26 j) := by
  refine ab_mk RX1 false rfl pn_X1_copyBreaks (fun z => by cases z) (Nat.le_of_ble_eq_true rfl) (fun V hV => ?_)
  show V 0 [some (.inr (some 37)), some (.inr (some 25)), none] [] (WW s) 0 0
  refine rb_aload_n hV dX1_copyBreaks_0 rfl rfl ?_
  refine rb_aload_n hV dX1_copyBreaks_1 rfl rfl ?_
  refine rb_get hV (v := .inl (s 107 0)) dX1_copyBreaks_2 ⟨RX1, TX1, 12, rfl, (Nat.le_of_ble_eq_true rfl), lf_X1_27⟩ (gw_25 _) rfl ?_
  refine rb_put hV (C := RX1) (T := TX1) (N := 12) (ci := 1) (j := 4) dX1_copyBreaks_5 rfl (Nat.le_of_ble_eq_true rfl) lf_X1_27 rfl (gw_37 _) (Nat.le_of_ble_eq_true rfl) (ft_X1_4 _) (pw_37_4 _ _) ?_
  refine rb_iconst hV dX1_copyBreaks_8 ?_
  refine rb_istore_n hV (L2 := [some (.inr (some 37)), some (.inr (some 25)), some (.inl 0)]) dX1_copyBreaks_9 rfl (Nat.le_of_ble_eq_true rfl) rfl ?_
  refine rb_heq (b := (ab_s (ab_s s 112 (fun _ => (s 107 0))) 38 (s 38))) (ab_s_id rfl).symm ?_
  have h10 : ∀ (n10 : Nat) (i : Int) (f : Int → Int), (0 ≤ i ∧ i ≤ 61) → (∀ j, 0 ≤ j → j < i → f j = s 26 j) → ((61 - i).toNat) < n10 → V 10 [some (.inr (some 37)), some (.inr (some 25)), some (.inl i)] [] (WW (ab_s (ab_s s 112 (fun _ => (s 107 0))) 38 f)) 0 0 := by
    intro n10
    induction n10 with
    | zero => intro i f h1 h2 hm; omega
    | succ n10 ih10 =>
      intro i f h1 h2 hm
      refine rb_iload_n hV dX1_copyBreaks_10 rfl rfl ?_
      refine rb_bipush hV dX1_copyBreaks_11 (by decide) ?_
      refine rb_icmp_gt hV (tgt := 34) dX1_copyBreaks_13 (by decide) ⟨(by first | assumption | (unfold ab_r at *; omega)), (by first | assumption | (unfold ab_r at *; omega))⟩ (fun c13 => ?_) (fun c13 => ?_)
      · refine rb_ret hV (r := none) dX1_copyBreaks_34 rfl ⟨(Nat.le_of_ble_eq_true rfl), (Nat.le_of_ble_eq_true rfl)⟩ trivial ?_
        exact ⟨rfl, f, rfl, fun j q1 q2 => h2 j q1 (by omega)⟩
      · refine rb_aload_n hV dX1_copyBreaks_16 rfl rfl ?_
        refine rb_get hV (v := .inr (some 38)) dX1_copyBreaks_17 ⟨RX1, TX1, 12, rfl, (Nat.le_of_ble_eq_true rfl), lf_X1_34⟩ (gw_37 _) rfl ?_
        refine rb_iload_n hV dX1_copyBreaks_20 rfl rfl ?_
        refine rb_aload_n hV dX1_copyBreaks_21 rfl rfl ?_
        refine rb_get hV (v := .inr (some 26)) dX1_copyBreaks_22 ⟨RX1, TX1, 12, rfl, (Nat.le_of_ble_eq_true rfl), lf_X1_34⟩ (gw_25 _) rfl ?_
        refine rb_iload_n hV dX1_copyBreaks_25 rfl rfl ?_
        refine rb_iald hV (f := (s 26)) dX1_copyBreaks_26 (gw_26 _) (Nat.le_of_ble_eq_true rfl) (by omega) ?_
        refine rb_iast hV (f := (f)) dX1_copyBreaks_27 (gw_38 _) (Nat.le_of_ble_eq_true rfl) (by omega) rfl ((pw_38 _ _).trans (congrArg WW (ab_s_same _ 38 _ _))) ?_
        refine rb_iinc hV (L2 := [some (.inr (some 37)), some (.inr (some 25)), some (.inl (i + 1))]) dX1_copyBreaks_28 rfl rfl rfl ?_
        refine rb_goto hV (tgt := 10) dX1_copyBreaks_31 (by decide) ?_
        refine ih10 (i + 1) (ab_u (f) i (s 26 i)) ?_ ?_ ?_
        · omega
        · intro j q1 q2
          by_cases hj : j = i
          · rw [hj, ab_u_eq]
          · rw [ab_u_ne hj]
            exact h2 j q1 (by omega)
        · omega
  refine h10 _ 0 (s 38) ?_ ?_ (Nat.lt_succ_self _)
  · omega
  · intro j q1 q2; omega

def XI (s : Nat → Int → Int) : Prop := PI (vX s) ∧ RU s ∧ BWp (vX s) (s 19) (s 20) (-1) ∧ LV (vX s) (s 26) (s 107 0) ∧
  ST (vX s) (s 26) (s 107 0) (s 108 0) (s 109 0) (s 110 0) (s 111 0) (s 30) (s 27) (s 28) (s 29) (s 33) (s 35) (s 34) (s 32) (s 36) ∧ (s 107 0 = 0 ↔ ¬ (0 < s 103 0 ∧ ¬ s 19 0 = -1)) ∧
  (∀ v, -1000 ≤ s 42 v ∧ s 42 v ≤ 1000) ∧ (∀ v, 0 ≤ s 44 v ∧ s 44 v ≤ 60) ∧ (0 ≤ s 104 0 ∧ s 104 0 ≤ 120) ∧ ∀ v, 0 ≤ s 22 v ∧ s 22 v < 65536
/-- what a change of the paragraph or a setting leaves sound -/
def XP (s : Nat → Int → Int) : Prop := PI (vX s) ∧ (s 12 0 = 0 ∧ s 13 0 = 0 ∧ s 14 0 = 0 ∧ s 15 0 = 0) ∧ (∀ v, -1000 ≤ s 30 v ∧ s 30 v ≤ 1000) ∧ (∀ v, 0 ≤ s 32 v ∧ s 32 v ≤ 60) ∧
  (∀ v, -1000 ≤ s 42 v ∧ s 42 v ≤ 1000) ∧ (∀ v, 0 ≤ s 44 v ∧ s 44 v ≤ 60) ∧ (0 ≤ s 104 0 ∧ s 104 0 ≤ 120) ∧ ∀ v, 0 ≤ s 22 v ∧ s 22 v < 65536
theorem RVX_ln {n nl t : Int} {wd lo sl be sw : Int → Int} {am str gl : Int} {mid gn abv ln en : Int → Int} (h : RVX n nl t wd lo sl be sw am str gl mid gn abv ln en) : ∀ v, 0 ≤ ln v ∧ ln v ≤ 60 := by
  rcases h with h | h
  · exact h.2.2.2.2
  · exact h.2.2.2.2.2.1
theorem XI_XP {s : Nat → Int → Int} (h : XI s) : XP s := by
  obtain ⟨h1, h2, h3, h4, h5, h6, h7, h8, h9, h10⟩ := h
  have z := h2.1 0 (Int.le_refl 0) h1.1.1
  rw [Sm_self, Sm_self, Sm_self, Sm_self] at z
  exact ⟨h1, z, h5.2.2.1, RVX_ln h5.2.2.2, h7, h8, h9, h10⟩
def BESTL (s : Nat → Int → Int) : Prop := (0 < s 103 0 ∧ ¬ s 19 0 = -1) → ∃ f0, (s 107 0, s 26) = go (s 20) (s 103 0) (s 103 0 - 0).toNat 0 0 f0

set_option maxRecDepth 20000 in
theorem c_X9_restoreBest (s : Nat → Int → Int) (hx : XP s) : ab_Mt yX9_restoreBest cX9_restoreBest 1 (some .int) ({ frames := 5, cells := 0, slots := 0, locals := 120 } : Room) false 0 0 [.inr (some 0)] (WW s) (fun r h2 => ∃ s2, r = some (.inl (s2 107 0)) ∧ h2 = WW s2 ∧ XI s2 ∧ BESTL s2 ∧ KEEP [12, 13, 14, 15, 16, 17, 19, 20, 107, 26, 108, 30, 27, 28, 29, 109, 110, 111, 33, 35, 34, 32, 36] s s2) := by
  refine ab_mk RX9 false rfl pn_X9_restoreBest (fun z => by cases z) (Nat.le_of_ble_eq_true rfl) (fun V hV => ?_)
  show V 0 [some (.inr (some 0))] [] (WW s) 0 0
  have hp := hx.1
  refine rb_aload_n hV dX9_restoreBest_0 rfl rfl ?_
  refine rb_get hV (v := .inr (some 11)) dX9_restoreBest_1 ⟨RX9, TX9, 8, rfl, (Nat.le_of_ble_eq_true rfl), lf_X9_47⟩ (gw_0 _) rfl ?_
  refine rb_callV hV (rest := []) dX9_restoreBest_4 (c_X2_prepare s hp hx.2.1) lk_X9_233 rfl (Or.inl ⟨2, _, TX2, 8, gw_11 _, rfl⟩) rfl ⟨rfl, rfl, (Nat.le_of_ble_eq_true rfl), (Nat.le_of_ble_eq_true rfl), (Nat.le_of_ble_eq_true rfl), (Nat.le_of_ble_eq_true rfl)⟩ (Nat.le_of_ble_eq_true rfl) (fun r9 h9 p9 => ?_)
  obtain ⟨rfl, f12, f13, f14, f15, f16, f17, rfl, hru⟩ := p9
  show V 7 [some (.inr (some 0))] [] (WW (ab_s (ab_s (ab_s (ab_s (ab_s (ab_s s 12 f12) 13 f13) 14 f14) 15 f15) 16 f16) 17 f17)) 0 0
  refine rb_aload_n hV dX9_restoreBest_7 rfl rfl ?_
  refine rb_get hV (v := .inr (some 18)) dX9_restoreBest_8 ⟨RX9, TX9, 8, rfl, (Nat.le_of_ble_eq_true rfl), lf_X9_51⟩ (gw_0 _) rfl ?_
  refine rb_callV hV (rest := []) dX9_restoreBest_11 (c_X0_find (ab_s (ab_s (ab_s (ab_s (ab_s (ab_s s 12 f12) 13 f13) 14 f14) 15 f15) 16 f16) 17 f17) hp hru) lk_X9_236 rfl (Or.inl ⟨0, _, TX0, 4, gw_18 _, rfl⟩) rfl ⟨rfl, rfl, (Nat.le_of_ble_eq_true rfl), (Nat.le_of_ble_eq_true rfl), (Nat.le_of_ble_eq_true rfl), (Nat.le_of_ble_eq_true rfl)⟩ (Nat.le_of_ble_eq_true rfl) (fun r9 h9 p9 => ?_)
  obtain ⟨rfl, bs, bes, rfl, hbw⟩ := p9
  show V 14 [some (.inr (some 0))] [] (WW (ab_s (ab_s (ab_s (ab_s (ab_s (ab_s (ab_s (ab_s s 12 f12) 13 f13) 14 f14) 15 f15) 16 f16) 17 f17) 19 bs) 20 bes)) 0 0
  refine rb_aload_n hV dX9_restoreBest_14 rfl rfl ?_
  refine rb_get hV (v := .inr (some 25)) dX9_restoreBest_15 ⟨RX9, TX9, 8, rfl, (Nat.le_of_ble_eq_true rfl), lf_X9_60⟩ (gw_0 _) rfl ?_
  refine rb_callV hV (rest := []) dX9_restoreBest_18 (c_X1_becomeBest_la (ab_s (ab_s (ab_s (ab_s (ab_s (ab_s (ab_s (ab_s s 12 f12) 13 f13) 14 f14) 15 f15) 16 f16) 17 f17) 19 bs) 20 bes) hp hru hbw hx.2.2.1 hx.2.2.2.1) lk_X9_118 rfl (Or.inl ⟨1, _, TX1, 12, gw_25 _, rfl⟩) rfl ⟨rfl, rfl, (Nat.le_of_ble_eq_true rfl), (Nat.le_of_ble_eq_true rfl), (Nat.le_of_ble_eq_true rfl), (Nat.le_of_ble_eq_true rfl)⟩ (Nat.le_of_ble_eq_true rfl) (fun r9 h9 p9 => ?_)
  obtain ⟨rfl, nl, fw, dem, sw, lo, sl, be, am, str, gl, mid, gn, abv, ln, en, rfl, hlv, hst, hgo, hno⟩ := p9
  show V 21 [some (.inr (some 0))] [] (WW (ab_s (ab_s (ab_s (ab_s (ab_s (ab_s (ab_s (ab_s (ab_s (ab_s (ab_s (ab_s (ab_s (ab_s (ab_s (ab_s (ab_s (ab_s (ab_s (ab_s (ab_s (ab_s (ab_s s 12 f12) 13 f13) 14 f14) 15 f15) 16 f16) 17 f17) 19 bs) 20 bes) 107 (fun _ => nl)) 26 fw) 108 (fun _ => dem)) 30 sw) 27 lo) 28 sl) 29 be) 109 (fun _ => am)) 110 (fun _ => str)) 111 (fun _ => gl)) 33 mid) 35 gn) 34 abv) 32 ln) 36 en)) 0 0
  refine rb_aload_n hV dX9_restoreBest_21 rfl rfl ?_
  refine rb_get hV (v := .inr (some 25)) dX9_restoreBest_22 ⟨RX9, TX9, 8, rfl, (Nat.le_of_ble_eq_true rfl), lf_X9_60⟩ (gw_0 _) rfl ?_
  refine rb_get hV (v := .inl nl) dX9_restoreBest_25 ⟨RX1, TX1, 12, rfl, (Nat.le_of_ble_eq_true rfl), lf_X9_121⟩ (gw_25 _) rfl ?_
  refine rb_ret hV (r := some (.inl nl)) dX9_restoreBest_28 rfl ⟨(Nat.le_of_ble_eq_true rfl), (Nat.le_of_ble_eq_true rfl)⟩ trivial ?_
  refine ⟨_, rfl, rfl, ⟨hp, hru, hbw, hlv, hst, ⟨fun z q => ?_, hno⟩, hx.2.2.2.2⟩, fun q => ⟨_, hgo q⟩, (fun j hj => ((ab_keep hj (by decide)).trans ((ab_keep hj (by decide)).trans ((ab_keep hj (by decide)).trans ((ab_keep hj (by decide)).trans ((ab_keep hj (by decide)).trans ((ab_keep hj (by decide)).trans ((ab_keep hj (by decide)).trans ((ab_keep hj (by decide)).trans ((ab_keep hj (by decide)).trans ((ab_keep hj (by decide)).trans ((ab_keep hj (by decide)).trans ((ab_keep hj (by decide)).trans ((ab_keep hj (by decide)).trans ((ab_keep hj (by decide)).trans ((ab_keep hj (by decide)).trans ((ab_keep hj (by decide)).trans ((ab_keep hj (by decide)).trans ((ab_keep hj (by decide)).trans ((ab_keep hj (by decide)).trans ((ab_keep hj (by decide)).trans ((ab_keep hj (by decide)).trans ((ab_keep hj (by decide)).trans ((ab_keep hj (by decide)).trans rfl))))))))))))))))))))))))⟩
  have e9 := go_pos (fw := s 26) hp hbw q.1 q.2
  have e7 : nl = (go bes (vX s 0 0) (vX s 0 0 - 0).toNat 0 0 (s 26)).1 := congrArg Prod.fst (hgo q)
  have e6 : nl = 0 := z
  omega
