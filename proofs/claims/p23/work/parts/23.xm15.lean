/-! a command -/
/-- what is known before piece k -/
def IV3 (k sub kd : Int) (nu : Int → Int) : Prop := (k < 1 ∨ (0 ≤ sub ∧ sub ≤ 3)) ∧ (k < 2 ∨ ¬ sub = 3 ∨ (0 ≤ kd ∧ kd ≤ 2)) ∧ (k < 3 ∨ ¬ sub = 3 ∨ (1 ≤ nu 0 ∧ nu 0 ≤ 40)) ∧ (k < 4 ∨ ¬ sub = 3 ∨ (nu 0 ≤ nu 1 ∧ nu 1 ≤ 40))
theorem IV3_lo {k sub kd : Int} {nu : Int → Int} (h : IV3 k sub kd nu) (h4 : k ≤ 4) (h2 : 2 ≤ k) (h3 : sub = 3) : 0 ≤ tLo sub nu (k - 2) ∧ tLo sub nu (k - 2) ≤ 999 := by
  obtain ⟨i1, i2, i3, i4⟩ := h
  unfold tLo
  rw [if_pos h3]
  rcases (show k = 2 ∨ k = 3 ∨ k = 4 by omega) with e | e | e
  · rw [e, if_pos (by decide)]
    decide
  · rw [e, if_neg (by decide), show (3 : Int) - 2 - 1 = 0 by decide]
    omega
  · rw [e, if_neg (by decide), show (4 : Int) - 2 - 1 = 1 by decide]
    omega
theorem IV3_st {t : Int → Int} {n k a b sub kd : Int} {nu : Int → Int} (h : IV3 k sub kd nu) (h0 : 0 ≤ k) (h4 : k ≤ 4) (g : gd t n k a b sub nu) : IV3 (k + 1) (uS k sub (sbj t n a b)) (uK k sub kd (kdn t n a b)) (uN k sub nu (num t a b)) := by
  obtain ⟨i1, i2, i3, i4⟩ := h
  have s1 := sbj_b t n a b
  have s2 := kdn_b t n a b
  rcases g with ⟨g1, g2⟩ | ⟨g1, g2, g3⟩ | ⟨g1, g2, g3, g4⟩ | ⟨g1, g2, g3, g4⟩
  · have e : uS k sub (sbj t n a b) = sbj t n a b := if_pos g1
    rw [e]
    refine ⟨Or.inr (by omega), Or.inl (by omega), Or.inl (by omega), Or.inl (by omega)⟩
  · have e : uS k sub (sbj t n a b) = sub := if_neg (by omega)
    have e2 : uK k sub kd (kdn t n a b) = kdn t n a b := if_pos ⟨g1, g2⟩
    rw [e, e2]
    refine ⟨Or.inr (by omega), Or.inr (Or.inr (by omega)), Or.inl (by omega), Or.inl (by omega)⟩
  · have e : uS k sub (sbj t n a b) = sub := if_neg (by omega)
    have e2 : uK k sub kd (kdn t n a b) = kd := if_neg (by omega)
    have e3 : uN k sub nu (num t a b) = ab_u nu (k - 2) (num t a b) := if_pos ⟨g1, g2⟩
    have e4 : tHi sub = 40 := by rw [g2]; rfl
    rw [e, e2, e3]
    unfold tLo at g3
    rw [if_pos g2] at g3
    rcases (show k = 2 ∨ k = 3 ∨ k = 4 by omega) with q | q | q
    · subst q
      rw [if_pos (by decide)] at g3
      refine ⟨Or.inr (by omega), Or.inr (Or.inr (by omega)), Or.inr (Or.inr ?_), Or.inl (by omega)⟩
      show 1 ≤ ab_u nu 0 (num t a b) 0 ∧ ab_u nu 0 (num t a b) 0 ≤ 40
      rw [ab_u_eq]
      omega
    · subst q
      rw [if_neg (by decide), show (3 : Int) - 2 - 1 = 0 by decide] at g3
      refine ⟨Or.inr (by omega), Or.inr (Or.inr (by omega)), Or.inr (Or.inr ?_), Or.inr (Or.inr ?_)⟩
      · show 1 ≤ ab_u nu 1 (num t a b) 0 ∧ ab_u nu 1 (num t a b) 0 ≤ 40
        rw [ab_u_ne (by decide)]
        omega
      · show ab_u nu 1 (num t a b) 0 ≤ ab_u nu 1 (num t a b) 1 ∧ ab_u nu 1 (num t a b) 1 ≤ 40
        rw [ab_u_ne (by decide), ab_u_eq]
        omega
    · subst q
      refine ⟨Or.inr (by omega), Or.inr (Or.inr (by omega)), Or.inr (Or.inr ?_), Or.inr (Or.inr ?_)⟩
      · show 1 ≤ ab_u nu 2 (num t a b) 0 ∧ ab_u nu 2 (num t a b) 0 ≤ 40
        rw [ab_u_ne (by decide)]
        omega
      · show ab_u nu 2 (num t a b) 0 ≤ ab_u nu 2 (num t a b) 1 ∧ ab_u nu 2 (num t a b) 1 ≤ 40
        rw [ab_u_ne (by decide), ab_u_ne (by decide)]
        omega
  · have e : uS k sub (sbj t n a b) = sub := if_neg (by omega)
    rw [e]
    exact ⟨Or.inr (by omega), Or.inr (Or.inl g2), Or.inr (Or.inl g2), Or.inr (Or.inl g2)⟩
theorem IV3_ok {t : Int → Int} {n k a b sub kd : Int} {nu : Int → Int} (h : IV3 k sub kd nu) (h0 : 0 ≤ k) (h4 : k ≤ 4) (g : gd t n k a b sub nu) (hw : ¬ k + 1 < wp (uS k sub (sbj t n a b))) : OKC (uS k sub (sbj t n a b)) (uK k sub kd (kdn t n a b)) (uN k sub nu (num t a b)) := by
  obtain ⟨i1, i2, i3, i4⟩ := h
  have w := wp_b (uS k sub (sbj t n a b))
  rcases g with ⟨g1, g2⟩ | ⟨g1, g2, g3⟩ | ⟨g1, g2, g3, g4⟩ | ⟨g1, g2, g3, g4⟩
  · omega
  · have e : uS k sub (sbj t n a b) = sub := if_neg (by omega)
    omega
  · have e : uS k sub (sbj t n a b) = sub := if_neg (by omega)
    have e2 : uK k sub kd (kdn t n a b) = kd := if_neg (by omega)
    have e3 : uN k sub nu (num t a b) = ab_u nu (k - 2) (num t a b) := if_pos ⟨g1, g2⟩
    have e4 : tHi sub = 40 := by rw [g2]; rfl
    have e5 : k = 4 := by omega
    subst e5
    rw [e, e2, e3]
    unfold tLo at g3
    rw [if_pos g2, if_neg (by decide), show (4 : Int) - 2 - 1 = 1 by decide] at g3
    refine Or.inr (Or.inr (Or.inr ⟨g2, by omega, ?_⟩))
    show 1 ≤ ab_u nu 2 (num t a b) 0 ∧ ab_u nu 2 (num t a b) 0 ≤ ab_u nu 2 (num t a b) 1 ∧ ab_u nu 2 (num t a b) 1 ≤ ab_u nu 2 (num t a b) 2 ∧ ab_u nu 2 (num t a b) 2 ≤ 40
    rw [ab_u_ne (by decide), ab_u_ne (by decide), ab_u_eq]
    omega
  · have e : uS k sub (sbj t n a b) = sub := if_neg (by omega)
    have e3 : uN k sub nu (num t a b) = ab_u nu 0 (num t a b) := (if_neg (by omega)).trans (if_pos ⟨g1, g2⟩)
    rw [e, e3]
    unfold tLo at g3
    unfold tHi at g4
    rw [if_neg g2] at g3
    unfold OKC
    rw [ab_u_eq]
    rcases (show sub = 0 ∨ sub = 1 ∨ sub = 2 by omega) with q | q | q
    · subst q
      rw [if_pos rfl] at g3 g4
      exact Or.inl ⟨rfl, g3, g4⟩
    · subst q
      rw [if_neg (by decide)] at g3
      rw [if_neg (by decide), if_pos rfl] at g4
      exact Or.inr (Or.inl ⟨rfl, g3, g4⟩)
    · subst q
      rw [if_neg (by decide)] at g3
      rw [if_neg (by decide), if_neg (by decide), if_pos rfl] at g4
      exact Or.inr (Or.inr (Or.inl ⟨rfl, g3, g4⟩))

set_option maxRecDepth 20000 in
theorem c_X3_parse (s : Nat → Int → Int) (hn : 0 ≤ s 104 0 ∧ s 104 0 ≤ 120) (ht : ∀ v, 0 ≤ s 22 v ∧ s 22 v < 65536) : ab_Mt yX3_parse cX3_parse 5 (some .int) ({ frames := 7, cells := 0, slots := 0, locals := 155 } : Room) false 0 0 [.inr (some 23), .inr (some 21)] (WW s) (fun r h2 => ∃ v sub2 kd2 nu2, r = some (.inl v) ∧ h2 = WW (ab_s (ab_s (ab_s s 105 sub2) 106 kd2) 24 nu2) ∧ (-1 ≤ v ∧ v ≤ 120) ∧ (prs (s 22) (s 104 0) 5 0 0 (s 105 0) (s 106 0) (s 24)).1 = v ∧ (v = -1 → (prs (s 22) (s 104 0) 5 0 0 (s 105 0) (s 106 0) (s 24)).2.1 = sub2 0 ∧ (prs (s 22) (s 104 0) 5 0 0 (s 105 0) (s 106 0) (s 24)).2.2.1 = kd2 0 ∧ (prs (s 22) (s 104 0) 5 0 0 (s 105 0) (s 106 0) (s 24)).2.2.2 = nu2 ∧ OKC (sub2 0) (kd2 0) nu2)) := by
  refine ab_mk RX3 false rfl pn_X3_parse (fun z => by cases z) (Nat.le_of_ble_eq_true rfl) (fun V hV => ?_)
  show V 0 [some (.inr (some 23)), some (.inr (some 21)), none, none, none] [] (WW s) 0 0
  refine rb_iconst hV dX3_parse_0 ?_
  refine rb_istore_n hV (L2 := [some (.inr (some 23)), some (.inr (some 21)), some (.inl 0), none, none]) dX3_parse_1 rfl (Nat.le_of_ble_eq_true rfl) rfl ?_
  refine rb_iconst hV dX3_parse_2 ?_
  refine rb_istore_n hV (L2 := [some (.inr (some 23)), some (.inr (some 21)), some (.inl 0), some (.inl 0), none]) dX3_parse_3 rfl (Nat.le_of_ble_eq_true rfl) rfl ?_
  refine rb_heq (b := (ab_s (ab_s (ab_s s 105 (s 105)) 106 (s 106)) 24 (s 24))) ((ab_s_id rfl).trans ((ab_s_id rfl).trans (ab_s_id rfl))).symm ?_
  have h4 : ∀ (n4 : Nat) (p : Int) (k : Int) (sub : Int → Int) (kd : Int → Int) (nu : Int → Int), ((0 ≤ k ∧ k ≤ 5) ∧ 0 ≤ p ∧ p ≤ s 104 0) → (prs (s 22) (s 104 0) 5 0 0 (s 105 0) (s 106 0) (s 24) = prs (s 22) (s 104 0) (5 - k).toNat k p (sub 0) (kd 0) nu) → (IV3 k (sub 0) (kd 0) nu) → ((5 - k).toNat) < n4 → V 4 [some (.inr (some 23)), some (.inr (some 21)), some (.inl p), some (.inl k), none] [] (WW (ab_s (ab_s (ab_s s 105 sub) 106 kd) 24 nu)) 0 0 := by
    intro n4
    induction n4 with
    | zero => intro p k sub kd nu h1 h2 h3 hm; omega
    | succ n4 ih4 =>
      intro p k sub kd nu h1 h2 h3 hm
      refine rb_iload_n hV dX3_parse_4 rfl rfl ?_
      refine rb_iconst hV dX3_parse_5 ?_
      refine rb_icmp_ge hV (tgt := 69) dX3_parse_6 (by decide) ⟨(by unfold ab_r at *; omega), (by unfold ab_r at *; omega)⟩ (fun c6 => ?_) (fun c6 => ?_)
      · refine rb_iload_n hV dX3_parse_69 rfl rfl ?_
        refine rb_ret hV (r := some (.inl p)) dX3_parse_70 rfl ⟨(Nat.le_of_ble_eq_true rfl), (Nat.le_of_ble_eq_true rfl)⟩ trivial ?_
        refine ⟨_, _, _, _, rfl, rfl, by omega, ?_, fun q => absurd q (by omega)⟩
        rw [h2, show (5 - k).toNat = 0 by omega]
        rfl
      · refine rb_aload_n hV dX3_parse_9 rfl rfl ?_
        refine rb_iload_n hV dX3_parse_10 rfl rfl ?_
        refine rb_callV hV (rest := []) dX3_parse_11 (c_X8_endOfPiece (ab_s (ab_s (ab_s s 105 sub) 106 kd) 24 nu) p (by show 0 ≤ p ∧ p ≤ (s 104 0); omega) hn ht) lk_X3_22 rfl (Or.inl ⟨7, _, TX8, 2, gw_21 _, rfl⟩) rfl ⟨rfl, rfl, (Nat.le_of_ble_eq_true rfl), (Nat.le_of_ble_eq_true rfl), (Nat.le_of_ble_eq_true rfl), (Nat.le_of_ble_eq_true rfl)⟩ (Nat.le_of_ble_eq_true rfl) (fun r9 h9 p9 => ?_)
        obtain ⟨rfl, rfl⟩ := p9
        show V 14 [some (.inr (some 23)), some (.inr (some 21)), some (.inl p), some (.inl k), none] [.inl (eo (s 22) p (((s 104 0)) - p).toNat)] (WW (ab_s (ab_s (ab_s s 105 sub) 106 kd) 24 nu)) 0 0
        refine rb_istore hV (L2 := [some (.inr (some 23)), some (.inr (some 21)), some (.inl p), some (.inl k), some (.inl (eo (s 22) p (((s 104 0)) - p).toNat))]) dX3_parse_14 (Nat.le_of_ble_eq_true rfl) rfl ?_
        have heo := eo_b (s 22) (s 104 0 - p).toNat p
        refine rb_aload_n hV dX3_parse_16 rfl rfl ?_
        refine rb_aload_n hV dX3_parse_17 rfl rfl ?_
        refine rb_iload_n hV dX3_parse_18 rfl rfl ?_
        refine rb_iload_n hV dX3_parse_19 rfl rfl ?_
        refine rb_iload hV dX3_parse_20 rfl ?_
        refine rb_callV hV (rest := []) dX3_parse_22 (c_X3_takePiece (ab_s (ab_s (ab_s s 105 sub) 106 kd) 24 nu) k (by omega) p (eo (s 22) p (((s 104 0)) - p).toNat) (by omega) (by show 0 ≤ (eo (s 22) p (((s 104 0)) - p).toNat) ∧ (eo (s 22) p (((s 104 0)) - p).toNat) ≤ (s 104 0); omega) hn ht (fun q => by show 0 ≤ ((sub 0)) ∧ ((sub 0)) ≤ 3; have := h3.1; omega) (IV3_lo h3 (by omega))) lk_X3_28 rfl (Or.inl ⟨3, _, TX3, 3, gw_23 _, rfl⟩) rfl ⟨rfl, rfl, (Nat.le_of_ble_eq_true rfl), (Nat.le_of_ble_eq_true rfl), (Nat.le_of_ble_eq_true rfl), (Nat.le_of_ble_eq_true rfl)⟩ (Nat.le_of_ble_eq_true rfl) (fun r9 h9 p9 => ?_)
        obtain ⟨v9, sub9, kd9, nu9, rfl, rfl, hv9⟩ := p9
        replace hv9 : ((gd (s 22) ((s 104 0)) k p (eo (s 22) p (((s 104 0)) - p).toNat) ((sub 0)) (nu) ∧ sub9 0 = uS k ((sub 0)) (sbj (s 22) ((s 104 0)) p (eo (s 22) p (((s 104 0)) - p).toNat)) ∧ kd9 0 = uK k ((sub 0)) ((kd 0)) (kdn (s 22) ((s 104 0)) p (eo (s 22) p (((s 104 0)) - p).toNat)) ∧ nu9 = uN k ((sub 0)) (nu) (num (s 22) p (eo (s 22) p (((s 104 0)) - p).toNat))) ∧ v9 = 1) ∨ (¬ gd (s 22) ((s 104 0)) k p (eo (s 22) p (((s 104 0)) - p).toNat) ((sub 0)) (nu) ∧ v9 = 0) := hv9
        refine rb_heq (b := (ab_s (ab_s (ab_s s 105 sub9) 106 kd9) 24 nu9)) ((congrArg (fun x => ab_s x 24 _) ((congrArg (fun x => ab_s x 106 _) ((ab_s_sw (by decide)).trans (congrArg (fun x => ab_s x 24 _) ((ab_s_sw (by decide)).trans (congrArg (fun x => ab_s x 106 _) (ab_s_same _ 105 _ _)))))).trans ((ab_s_sw (by decide)).trans (congrArg (fun x => ab_s x 24 _) (ab_s_same _ 106 _ _))))).trans (ab_s_same _ 24 _ _)) ?_
        rcases hv9 with ⟨e22, rfl⟩ | ⟨e22, rfl⟩
        · show V 25 [some (.inr (some 23)), some (.inr (some 21)), some (.inl p), some (.inl k), some (.inl (eo (s 22) p (((s 104 0)) - p).toNat))] [.inl 1] (WW (ab_s (ab_s (ab_s s 105 sub9) 106 kd9) 24 nu9)) 0 0
          refine rb_if_ne hV (tgt := 30) dX3_parse_25 (by decide) (by unfold ab_r at *; omega) (fun _ => ?_) (fun z => absurd z (by decide))
          refine rb_iload hV dX3_parse_30 rfl ?_
          refine rb_aload_n hV dX3_parse_32 rfl rfl ?_
          refine rb_get hV (v := .inl (s 104 0)) dX3_parse_33 ⟨RX8, TX8, 2, rfl, (Nat.le_of_ble_eq_true rfl), lf_X3_32⟩ (gw_21 _) rfl ?_
          refine rb_icmp_lt hV (tgt := 58) dX3_parse_36 (by decide) ⟨(by unfold ab_r at *; omega), (by unfold ab_r at *; omega)⟩ (fun c36 => ?_) (fun c36 => ?_)
          · refine rb_iload hV dX3_parse_58 rfl ?_
            refine rb_iconst hV dX3_parse_60 ?_
            refine rb_iadd hV dX3_parse_61 ?_
            refine rb_istore_n hV (L2 := [some (.inr (some 23)), some (.inr (some 21)), some (.inl ((eo (s 22) p (((s 104 0)) - p).toNat) + 1)), some (.inl k), some (.inl (eo (s 22) p (((s 104 0)) - p).toNat))]) dX3_parse_62 rfl (Nat.le_of_ble_eq_true rfl) rfl ?_
            refine rb_iinc hV (L2 := [some (.inr (some 23)), some (.inr (some 21)), some (.inl ((eo (s 22) p (((s 104 0)) - p).toNat) + 1)), some (.inl (k + 1)), some (.inl (eo (s 22) p (((s 104 0)) - p).toNat))]) dX3_parse_63 rfl rfl rfl ?_
            refine rb_goto hV (tgt := 4) dX3_parse_66 (by decide) ?_
            refine rb_weak hV (L2 := [some (.inr (some 23)), some (.inr (some 21)), some (.inl ((eo (s 22) p (((s 104 0)) - p).toNat) + 1)), some (.inl (k + 1)), none]) ⟨rfl, ⟨rfl, ⟨rfl, ⟨rfl, trivial⟩⟩⟩⟩ ?_
            refine ih4 ((eo (s 22) p (((s 104 0)) - p).toNat) + 1) (k + 1) (sub9) (kd9) (nu9) ?_ ?_ ?_ ?_
            · omega
            · rw [e22.2.1, e22.2.2.1, e22.2.2.2, ← prs_go e22.1 (by omega), show (5 - (k + 1)).toNat + 1 = (5 - k).toNat by omega]
              exact h2
            · rw [e22.2.1, e22.2.2.1, e22.2.2.2]
              exact IV3_st h3 h1.1.1 (by omega) e22.1
            · omega
          · refine rb_iload_n hV dX3_parse_39 rfl rfl ?_
            refine rb_iconst hV dX3_parse_40 ?_
            refine rb_iadd hV dX3_parse_41 ?_
            refine rb_aload_n hV dX3_parse_42 rfl rfl ?_
            have hiv : IV3 (k + 1) (sub9 0) (kd9 0) nu9 := by
              rw [e22.2.1, e22.2.2.1, e22.2.2.2]
              exact IV3_st h3 h1.1.1 (by omega) e22.1
            have hsb : 0 ≤ sub9 0 ∧ sub9 0 ≤ 3 := by have := hiv.1; omega
            have hwp := wp_b (sub9 0)
            refine rb_callV hV (rest := [.inl (k + 1)]) dX3_parse_43 (c_X3_wantedPieces (ab_s (ab_s (ab_s s 105 sub9) 106 kd9) 24 nu9) (by show 0 ≤ (sub9 0) ∧ (sub9 0) ≤ 3; omega)) lk_X3_35 rfl (Or.inl ⟨3, _, TX3, 3, gw_23 _, rfl⟩) rfl ⟨rfl, rfl, (Nat.le_of_ble_eq_true rfl), (Nat.le_of_ble_eq_true rfl), (Nat.le_of_ble_eq_true rfl), (Nat.le_of_ble_eq_true rfl)⟩ (Nat.le_of_ble_eq_true rfl) (fun r9 h9 p9 => ?_)
            obtain ⟨rfl, rfl⟩ := p9
            show V 46 [some (.inr (some 23)), some (.inr (some 21)), some (.inl p), some (.inl k), some (.inl (eo (s 22) p (((s 104 0)) - p).toNat))] [.inl (wp ((sub9 0))), .inl (k + 1)] (WW (ab_s (ab_s (ab_s s 105 sub9) 106 kd9) 24 nu9)) 0 0
            refine rb_icmp_ge hV (tgt := 56) dX3_parse_46 (by decide) ⟨(by unfold ab_r at *; omega), (by unfold ab_r at *; omega)⟩ (fun c46 => ?_) (fun c46 => ?_)
            · refine rb_iconst hV dX3_parse_56 ?_
              refine rb_ret hV (r := some (.inl (-1))) dX3_parse_57 rfl ⟨(Nat.le_of_ble_eq_true rfl), (Nat.le_of_ble_eq_true rfl)⟩ trivial ?_
              have hf : (5 - k).toNat = (4 - k).toNat + 1 := by omega
              rw [hf] at h2
              rw [prs_end e22.1 (by omega)] at h2
              have hw : ¬ k + 1 < wp (uS k (sub 0) (sbj (s 22) (s 104 0) p (eo (s 22) p ((s 104 0) - p).toNat))) := by rw [← e22.2.1]; omega
              rw [if_neg hw] at h2
              refine ⟨_, _, _, _, rfl, rfl, by omega, by rw [h2], fun _ => ?_⟩
              rw [h2, e22.2.1, e22.2.2.1, e22.2.2.2]
              exact ⟨rfl, rfl, rfl, IV3_ok h3 h1.1.1 (by omega) e22.1 hw⟩
            · refine rb_aload_n hV dX3_parse_49 rfl rfl ?_
              refine rb_get hV (v := .inl (s 104 0)) dX3_parse_50 ⟨RX8, TX8, 2, rfl, (Nat.le_of_ble_eq_true rfl), lf_X3_32⟩ (gw_21 _) rfl ?_
              refine rb_goto hV (tgt := 57) dX3_parse_53 (by decide) ?_
              refine rb_ret hV (r := some (.inl (s 104 0))) dX3_parse_57 rfl ⟨(Nat.le_of_ble_eq_true rfl), (Nat.le_of_ble_eq_true rfl)⟩ trivial ?_
              have hf : (5 - k).toNat = (4 - k).toNat + 1 := by omega
              rw [hf] at h2
              rw [prs_end e22.1 (by omega)] at h2
              have hw : k + 1 < wp (uS k (sub 0) (sbj (s 22) (s 104 0) p (eo (s 22) p ((s 104 0) - p).toNat))) := by rw [← e22.2.1]; omega
              rw [if_pos hw] at h2
              exact ⟨_, _, _, _, rfl, rfl, by omega, by rw [h2], fun q => absurd q (by omega)⟩
        · show V 25 [some (.inr (some 23)), some (.inr (some 21)), some (.inl p), some (.inl k), some (.inl (eo (s 22) p (((s 104 0)) - p).toNat))] [.inl 0] (WW (ab_s (ab_s (ab_s s 105 sub9) 106 kd9) 24 nu9)) 0 0
          refine rb_if_ne hV (tgt := 30) dX3_parse_25 (by decide) (by unfold ab_r at *; omega) (fun z => absurd z (by decide)) (fun _ => ?_)
          refine rb_iload_n hV dX3_parse_28 rfl rfl ?_
          refine rb_ret hV (r := some (.inl p)) dX3_parse_29 rfl ⟨(Nat.le_of_ble_eq_true rfl), (Nat.le_of_ble_eq_true rfl)⟩ trivial ?_
          have hf : (5 - k).toNat = (4 - k).toNat + 1 := by omega
          rw [hf] at h2
          refine ⟨_, _, _, _, rfl, rfl, by omega, ?_, fun q => absurd q (by omega)⟩
          rw [h2, prs_bad e22]
  refine h4 _ 0 0 (s 105) (s 106) (s 24) ?_ ?_ ?_ (Nat.lt_succ_self _)
  · omega
  · rfl
  · exact ⟨Or.inl (by decide), Or.inl (by decide), Or.inl (by decide), Or.inl (by decide)⟩

def APM (s s2 : Nat → Int → Int) : Prop := (s 105 0 = 0 ∧ s2 = ab_s s 100 (fun _ => s 24 0)) ∨ (s 105 0 = 1 ∧ s2 = ab_s s 101 (fun _ => s 24 0)) ∨ (s 105 0 = 2 ∧ s2 = ab_s s 102 (fun _ => s 24 0)) ∨ (s 105 0 = 3 ∧ s2 = ab_s (ab_s (ab_s s 2 (ab_u (s 2) (s 106 0) (s 24 0))) 3 (ab_u (s 3) (s 106 0) (s 24 1))) 4 (ab_u (s 4) (s 106 0) (s 24 2)))

set_option maxRecDepth 20000 in
theorem c_X3_applyTo (s : Nat → Int → Int) (hsb : 0 ≤ s 105 0 ∧ s 105 0 ≤ 3) (hkd : s 105 0 = 3 → 0 ≤ s 106 0 ∧ s 106 0 < 3) : ab_Mt yX3_applyTo cX3_applyTo 2 none ({ frames := 2, cells := 0, slots := 0, locals := 44 } : Room) false 0 0 [.inr (some 23), .inr (some 1)] (WW s) (fun r h2 => r = none ∧ ∃ s2, h2 = WW s2 ∧ APM s s2) := by
  refine ab_mk RX3 false rfl pn_X3_applyTo (fun z => by cases z) (Nat.le_of_ble_eq_true rfl) (fun V hV => ?_)
  show V 0 [some (.inr (some 23)), some (.inr (some 1))] [] (WW s) 0 0
  refine rb_aload_n hV dX3_applyTo_0 rfl rfl ?_
  refine rb_get hV (v := .inl (s 105 0)) dX3_applyTo_1 ⟨RX3, TX3, 3, rfl, (Nat.le_of_ble_eq_true rfl), lf_X3_15⟩ (gw_23 _) rfl ?_
  rcases (show (s 105 0) = 0 ∨ (s 105 0) = 1 ∨ (s 105 0) = 2 ∨ (s 105 0) = 3 ∨ ((s 105 0) < 0 ∨ 3 < (s 105 0)) by omega) with c4 | c4 | c4 | c4 | c4
  · refine rb_tabIn hV (off := 32) (tgt := 36) dX3_applyTo_4 (by unfold ab_r at *; omega) (by omega) (by omega) (by rw [c4]; rfl) (by decide) ?_
    refine rb_aload_n hV dX3_applyTo_36 rfl rfl ?_
    refine rb_aload_n hV dX3_applyTo_37 rfl rfl ?_
    refine rb_get hV (v := .inr (some 24)) dX3_applyTo_38 ⟨RX3, TX3, 3, rfl, (Nat.le_of_ble_eq_true rfl), lf_X3_11⟩ (gw_23 _) rfl ?_
    refine rb_iconst hV dX3_applyTo_41 ?_
    refine rb_iald hV (f := (s 24)) dX3_applyTo_42 (gw_24 _) (Nat.le_of_ble_eq_true rfl) (by omega) ?_
    refine rb_put hV (C := RX6) (T := TX6) (N := 6) (ci := 6) (j := 0) dX3_applyTo_43 rfl (Nat.le_of_ble_eq_true rfl) lf_X3_39 rfl (gw_1 _) (Nat.le_of_ble_eq_true rfl) (ft_X6_0 _) (pw_1_0 _ _) ?_
    refine rb_goto hV (tgt := 104) dX3_applyTo_46 (by decide) ?_
    refine rb_ret hV (r := none) dX3_applyTo_104 rfl ⟨(Nat.le_of_ble_eq_true rfl), (Nat.le_of_ble_eq_true rfl)⟩ trivial ?_
    exact ⟨rfl, _, rfl, Or.inl ⟨c4, rfl⟩⟩
  · refine rb_tabIn hV (off := 45) (tgt := 49) dX3_applyTo_4 (by unfold ab_r at *; omega) (by omega) (by omega) (by rw [c4]; rfl) (by decide) ?_
    refine rb_aload_n hV dX3_applyTo_49 rfl rfl ?_
    refine rb_aload_n hV dX3_applyTo_50 rfl rfl ?_
    refine rb_get hV (v := .inr (some 24)) dX3_applyTo_51 ⟨RX3, TX3, 3, rfl, (Nat.le_of_ble_eq_true rfl), lf_X3_11⟩ (gw_23 _) rfl ?_
    refine rb_iconst hV dX3_applyTo_54 ?_
    refine rb_iald hV (f := (s 24)) dX3_applyTo_55 (gw_24 _) (Nat.le_of_ble_eq_true rfl) (by omega) ?_
    refine rb_put hV (C := RX6) (T := TX6) (N := 6) (ci := 6) (j := 1) dX3_applyTo_56 rfl (Nat.le_of_ble_eq_true rfl) lf_X3_44 rfl (gw_1 _) (Nat.le_of_ble_eq_true rfl) (ft_X6_1 _) (pw_1_1 _ _) ?_
    refine rb_goto hV (tgt := 104) dX3_applyTo_59 (by decide) ?_
    refine rb_ret hV (r := none) dX3_applyTo_104 rfl ⟨(Nat.le_of_ble_eq_true rfl), (Nat.le_of_ble_eq_true rfl)⟩ trivial ?_
    exact ⟨rfl, _, rfl, Or.inr (Or.inl ⟨c4, rfl⟩)⟩
  · refine rb_tabIn hV (off := 58) (tgt := 62) dX3_applyTo_4 (by unfold ab_r at *; omega) (by omega) (by omega) (by rw [c4]; rfl) (by decide) ?_
    refine rb_aload_n hV dX3_applyTo_62 rfl rfl ?_
    refine rb_aload_n hV dX3_applyTo_63 rfl rfl ?_
    refine rb_get hV (v := .inr (some 24)) dX3_applyTo_64 ⟨RX3, TX3, 3, rfl, (Nat.le_of_ble_eq_true rfl), lf_X3_11⟩ (gw_23 _) rfl ?_
    refine rb_iconst hV dX3_applyTo_67 ?_
    refine rb_iald hV (f := (s 24)) dX3_applyTo_68 (gw_24 _) (Nat.le_of_ble_eq_true rfl) (by omega) ?_
    refine rb_put hV (C := RX6) (T := TX6) (N := 6) (ci := 6) (j := 2) dX3_applyTo_69 rfl (Nat.le_of_ble_eq_true rfl) lf_X3_47 rfl (gw_1 _) (Nat.le_of_ble_eq_true rfl) (ft_X6_2 _) (pw_1_2 _ _) ?_
    refine rb_goto hV (tgt := 104) dX3_applyTo_72 (by decide) ?_
    refine rb_ret hV (r := none) dX3_applyTo_104 rfl ⟨(Nat.le_of_ble_eq_true rfl), (Nat.le_of_ble_eq_true rfl)⟩ trivial ?_
    exact ⟨rfl, _, rfl, Or.inr (Or.inr (Or.inl ⟨c4, rfl⟩))⟩
  · refine rb_tabIn hV (off := 71) (tgt := 75) dX3_applyTo_4 (by unfold ab_r at *; omega) (by omega) (by omega) (by rw [c4]; rfl) (by decide) ?_
    refine rb_aload_n hV dX3_applyTo_75 rfl rfl ?_
    refine rb_aload_n hV dX3_applyTo_76 rfl rfl ?_
    refine rb_get hV (v := .inl (s 106 0)) dX3_applyTo_77 ⟨RX3, TX3, 3, rfl, (Nat.le_of_ble_eq_true rfl), lf_X3_19⟩ (gw_23 _) rfl ?_
    refine rb_aload_n hV dX3_applyTo_80 rfl rfl ?_
    refine rb_get hV (v := .inr (some 24)) dX3_applyTo_81 ⟨RX3, TX3, 3, rfl, (Nat.le_of_ble_eq_true rfl), lf_X3_11⟩ (gw_23 _) rfl ?_
    refine rb_iconst hV dX3_applyTo_84 ?_
    refine rb_iald hV (f := (s 24)) dX3_applyTo_85 (gw_24 _) (Nat.le_of_ble_eq_true rfl) (by omega) ?_
    refine rb_aload_n hV dX3_applyTo_86 rfl rfl ?_
    refine rb_get hV (v := .inr (some 24)) dX3_applyTo_87 ⟨RX3, TX3, 3, rfl, (Nat.le_of_ble_eq_true rfl), lf_X3_11⟩ (gw_23 _) rfl ?_
    refine rb_iconst hV dX3_applyTo_90 ?_
    refine rb_iald hV (f := (s 24)) dX3_applyTo_91 (gw_24 _) (Nat.le_of_ble_eq_true rfl) (by omega) ?_
    refine rb_aload_n hV dX3_applyTo_92 rfl rfl ?_
    refine rb_get hV (v := .inr (some 24)) dX3_applyTo_93 ⟨RX3, TX3, 3, rfl, (Nat.le_of_ble_eq_true rfl), lf_X3_11⟩ (gw_23 _) rfl ?_
    refine rb_iconst hV dX3_applyTo_96 ?_
    refine rb_iald hV (f := (s 24)) dX3_applyTo_97 (gw_24 _) (Nat.le_of_ble_eq_true rfl) (by omega) ?_
    refine rb_callV hV (rest := []) dX3_applyTo_98 (c_X6_putWidths s (s 106 0) (s 24 0) (s 24 1) (s 24 2) (by omega)) lk_X3_50 rfl (Or.inl ⟨6, _, TX6, 6, gw_1 _, rfl⟩) rfl ⟨rfl, rfl, (Nat.le_of_ble_eq_true rfl), (Nat.le_of_ble_eq_true rfl), (Nat.le_of_ble_eq_true rfl), (Nat.le_of_ble_eq_true rfl)⟩ (Nat.le_of_ble_eq_true rfl) (fun r9 h9 p9 => ?_)
    obtain ⟨rfl, rfl⟩ := p9
    show V 101 [some (.inr (some 23)), some (.inr (some 1))] [] (WW (ab_s (ab_s (ab_s s 2 (ab_u (s 2) (s 106 0) (s 24 0))) 3 (ab_u (s 3) (s 106 0) (s 24 1))) 4 (ab_u (s 4) (s 106 0) (s 24 2)))) 0 0
    refine rb_goto hV (tgt := 104) dX3_applyTo_101 (by decide) ?_
    refine rb_ret hV (r := none) dX3_applyTo_104 rfl ⟨(Nat.le_of_ble_eq_true rfl), (Nat.le_of_ble_eq_true rfl)⟩ trivial ?_
    exact ⟨rfl, _, rfl, Or.inr (Or.inr (Or.inr (⟨c4, rfl⟩)))⟩
  · refine rb_tabOut hV (tgt := 104) dX3_applyTo_4 (by unfold ab_r at *; omega) c4 (by decide) ?_
    refine rb_ret hV (r := none) dX3_applyTo_104 rfl ⟨(Nat.le_of_ble_eq_true rfl), (Nat.le_of_ble_eq_true rfl)⟩ trivial ?_
    exact absurd hsb (by omega)
