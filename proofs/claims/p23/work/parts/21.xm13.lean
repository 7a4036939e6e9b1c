/-! taking a paragraph -/
def tkB (q : Nat → Int → Int) : Nat → Int → Int := ab_s q 20 (fun _ => 0)
def tkO (z : Int) (q : Nat → Int → Int) : Nat → Int → Int := ab_s (ab_s (ab_s (ab_s q 1 (ab_u (q 1) (q 0 0) 0)) 2 (ab_u (q 2) (q 0 0) 0)) 4 (ab_u (q 4) (q 0 0) (sgL z))) 0 (fun _ => q 0 0 + 1)
def tkL (z : Int) (q : Nat → Int → Int) : Nat → Int → Int := ab_s (ab_s (ab_s (ab_s (ab_s q 1 (ab_u (q 1) (q 0 0 - 1) (q 1 (q 0 0 - 1) + sgW z))) 2 (ab_u (q 2) (q 0 0 - 1) (q 2 (q 0 0 - 1) + 1))) 3 (ab_u (q 3) (q 0 0 - 1) (sgK z))) 5 (ab_u (q 5) (q 0 0 - 1) (sgR z))) 20 (fun _ => 1)
def tkS (z : Int) (q : Nat → Int → Int) : Nat → Int → Int := if z = 32 then tkB q else if q 20 0 = 0 then tkL z (tkO z q) else tkL z q
/-- the words of the first n characters of t; d what was there before -/
def tk (d : Nat → Int → Int) (t : Int → Int) : Nat → Nat → Int → Int
  | 0 => ab_s (ab_s d 0 (fun _ => 0)) 20 (fun _ => 0)
  | n + 1 => tkS (t n) (tk d t n)
theorem tk_S (d : Nat → Int → Int) (t : Int → Int) {k : Int} (h : 0 ≤ k) : tk d t (k + 1).toNat = tkS (t k) (tk d t k.toNat) := by
  rw [show (k + 1).toNat = k.toNat + 1 by omega]
  show tkS (t (k.toNat : Int)) _ = _
  rw [show ((k.toNat : Nat) : Int) = k by omega]
theorem tkS_b {z : Int} {q : Nat → Int → Int} (h : z = 32) : tkS z q = tkB q := if_pos h
theorem tkS_o {z : Int} {q : Nat → Int → Int} (h : ¬ z = 32) (g : q 20 0 = 0) : tkS z q = tkL z (tkO z q) := (if_neg h).trans (if_pos g)
theorem tkS_l {z : Int} {q : Nat → Int → Int} (h : ¬ z = 32) (g : ¬ q 20 0 = 0) : tkS z q = tkL z q := (if_neg h).trans (if_neg g)
def tkW (n : Int) (q : Nat → Int → Int) : Prop := ∀ w, 0 ≤ w → w < q 0 0 → (0 ≤ q 1 w ∧ q 1 w ≤ 5 * q 2 w) ∧ (1 ≤ q 2 w ∧ q 2 w ≤ n) ∧ (0 ≤ q 3 w ∧ q 3 w ≤ 2) ∧ (0 ≤ q 4 w ∧ q 4 w ≤ 5) ∧ (0 ≤ q 5 w ∧ q 5 w ≤ 5)
theorem tk_in (d : Nat → Int → Int) (t : Int → Int) : ∀ n : Nat, 0 ≤ tk d t n 0 0 ∧ 2 * tk d t n 0 0 ≤ n + tk d t n 20 0 ∧ (tk d t n 20 0 = 0 ∨ (tk d t n 20 0 = 1 ∧ 1 ≤ tk d t n 0 0)) ∧ tkW n (tk d t n)
  | 0 => ⟨by show (0 : Int) ≤ 0; omega, by show 2 * (0 : Int) ≤ 0 + 0; omega, Or.inl rfl, fun w h1 h2 => by have h3 : w < 0 := h2; omega⟩
  | n + 1 => by
    have ih := tk_in d t n
    show 0 ≤ tkS (t n) (tk d t n) 0 0 ∧ 2 * tkS (t n) (tk d t n) 0 0 ≤ ((n + 1 : Nat) : Int) + tkS (t n) (tk d t n) 20 0 ∧ (tkS (t n) (tk d t n) 20 0 = 0 ∨ (tkS (t n) (tk d t n) 20 0 = 1 ∧ 1 ≤ tkS (t n) (tk d t n) 0 0)) ∧ tkW ((n + 1 : Nat) : Int) (tkS (t n) (tk d t n))
    generalize tk d t n = q at ih ⊢
    generalize t n = z
    obtain ⟨h1, h2, h3, h4⟩ := ih
    have w1 := sgW_b z
    have w2 := sgK_b z
    have w3 := sgL_b z
    have w4 := sgR_b z
    by_cases hz : z = 32
    · rw [tkS_b hz]
      refine ⟨h1, ?_, Or.inl rfl, fun w a b => ?_⟩
      · show 2 * q 0 0 ≤ ((n + 1 : Nat) : Int) + 0
        omega
      · have := h4 w a b
        show (0 ≤ q 1 w ∧ q 1 w ≤ 5 * q 2 w) ∧ (1 ≤ q 2 w ∧ q 2 w ≤ ((n + 1 : Nat) : Int)) ∧ (0 ≤ q 3 w ∧ q 3 w ≤ 2) ∧ (0 ≤ q 4 w ∧ q 4 w ≤ 5) ∧ (0 ≤ q 5 w ∧ q 5 w ≤ 5)
        omega
    · by_cases hq : q 20 0 = 0
      · rw [tkS_o hz hq]
        refine ⟨?_, ?_, Or.inr ⟨rfl, ?_⟩, fun w a b => ?_⟩
        · show 0 ≤ q 0 0 + 1
          omega
        · show 2 * (q 0 0 + 1) ≤ ((n + 1 : Nat) : Int) + 1
          omega
        · show 1 ≤ q 0 0 + 1
          omega
        · have b : w < q 0 0 + 1 := b
          show (0 ≤ ab_u (ab_u (q 1) (q 0 0) 0) (q 0 0 + 1 - 1) (ab_u (q 1) (q 0 0) 0 (q 0 0 + 1 - 1) + sgW z) w ∧ ab_u (ab_u (q 1) (q 0 0) 0) (q 0 0 + 1 - 1) (ab_u (q 1) (q 0 0) 0 (q 0 0 + 1 - 1) + sgW z) w ≤ 5 * ab_u (ab_u (q 2) (q 0 0) 0) (q 0 0 + 1 - 1) (ab_u (q 2) (q 0 0) 0 (q 0 0 + 1 - 1) + 1) w) ∧ (1 ≤ ab_u (ab_u (q 2) (q 0 0) 0) (q 0 0 + 1 - 1) (ab_u (q 2) (q 0 0) 0 (q 0 0 + 1 - 1) + 1) w ∧ ab_u (ab_u (q 2) (q 0 0) 0) (q 0 0 + 1 - 1) (ab_u (q 2) (q 0 0) 0 (q 0 0 + 1 - 1) + 1) w ≤ ((n + 1 : Nat) : Int)) ∧ (0 ≤ ab_u (q 3) (q 0 0 + 1 - 1) (sgK z) w ∧ ab_u (q 3) (q 0 0 + 1 - 1) (sgK z) w ≤ 2) ∧ (0 ≤ ab_u (q 4) (q 0 0) (sgL z) w ∧ ab_u (q 4) (q 0 0) (sgL z) w ≤ 5) ∧ (0 ≤ ab_u (q 5) (q 0 0 + 1 - 1) (sgR z) w ∧ ab_u (q 5) (q 0 0 + 1 - 1) (sgR z) w ≤ 5)
          rw [show q 0 0 + 1 - 1 = q 0 0 by omega]
          by_cases e : w = q 0 0
          · rw [e]
            simp only [ab_u_eq]
            omega
          · simp only [ab_u_ne e]
            have := h4 w a (by omega)
            omega
      · rw [tkS_l hz hq]
        refine ⟨h1, ?_, Or.inr ⟨rfl, ?_⟩, fun w a b => ?_⟩
        · show 2 * q 0 0 ≤ ((n + 1 : Nat) : Int) + 1
          omega
        · show 1 ≤ q 0 0
          omega
        · have b : w < q 0 0 := b
          show (0 ≤ ab_u (q 1) (q 0 0 - 1) (q 1 (q 0 0 - 1) + sgW z) w ∧ ab_u (q 1) (q 0 0 - 1) (q 1 (q 0 0 - 1) + sgW z) w ≤ 5 * ab_u (q 2) (q 0 0 - 1) (q 2 (q 0 0 - 1) + 1) w) ∧ (1 ≤ ab_u (q 2) (q 0 0 - 1) (q 2 (q 0 0 - 1) + 1) w ∧ ab_u (q 2) (q 0 0 - 1) (q 2 (q 0 0 - 1) + 1) w ≤ ((n + 1 : Nat) : Int)) ∧ (0 ≤ ab_u (q 3) (q 0 0 - 1) (sgK z) w ∧ ab_u (q 3) (q 0 0 - 1) (sgK z) w ≤ 2) ∧ (0 ≤ q 4 w ∧ q 4 w ≤ 5) ∧ (0 ≤ ab_u (q 5) (q 0 0 - 1) (sgR z) w ∧ ab_u (q 5) (q 0 0 - 1) (sgR z) w ≤ 5)
          have := h4 w a b
          by_cases e : w = q 0 0 - 1
          · rw [e]
            rw [e] at this
            simp only [ab_u_eq]
            omega
          · simp only [ab_u_ne e]
            omega
/-- the paragraph with new words -/
def parD (d : Nat → Int → Int) (t : Int → Int) (n : Int) : Nat → Int → Int := ab_s (tk d t n.toNat) 20 (d 20)
theorem tk_more (d : Nat → Int → Int) (t : Int → Int) {k : Nat} (hk : 6 ≤ k ∧ ¬ k = 20) : ∀ n : Nat, tk d t n k = d k
  | 0 => by
    show ab_s (ab_s d 0 (fun _ => 0)) 20 (fun _ => 0) k = d k
    rw [ab_s_ne (by omega), ab_s_ne (by omega)]
  | n + 1 => by
    have ih := tk_more d t hk n
    show tkS (t n) (tk d t n) k = d k
    rw [← ih]
    unfold tkS tkB tkL tkO
    split
    · rw [ab_s_ne (by omega)]
    · split
      · rw [ab_s_ne (by omega), ab_s_ne (by omega), ab_s_ne (by omega), ab_s_ne (by omega), ab_s_ne (by omega), ab_s_ne (by omega), ab_s_ne (by omega), ab_s_ne (by omega), ab_s_ne (by omega)]
      · rw [ab_s_ne (by omega), ab_s_ne (by omega), ab_s_ne (by omega), ab_s_ne (by omega), ab_s_ne (by omega)]
theorem tk_0 (d : Nat → Int → Int) (t : Int → Int) (j : Int) : ∀ n : Nat, tk d t n 0 j = tk d t n 0 0
  | 0 => rfl
  | n + 1 => by
    have ih := tk_0 d t j n
    show tkS (t n) (tk d t n) 0 j = tkS (t n) (tk d t n) 0 0
    unfold tkS
    split
    · exact ih
    · split
      · rfl
      · exact ih
theorem vX_12 {s : Nat → Int → Int} {k : Nat} (h : 12 ≤ k) : vX s k = s 4 := by
  unfold vX
  split <;> first | omega | rfl
theorem parD_PI {d : Nat → Int → Int} (h : PI d) (t : Int → Int) {n : Int} (hn : 0 ≤ n ∧ n ≤ 120) : PI (parD d t n) := by
  have q := tk_in d t n.toNat
  have e6 : parD d t n 6 = d 6 := tk_more d t (by decide) _
  have e7 : parD d t n 7 = d 7 := tk_more d t (by decide) _
  have e8 : parD d t n 8 = d 8 := tk_more d t (by decide) _
  have e9 : parD d t n 9 = d 9 := tk_more d t (by decide) _
  have e10 : parD d t n 10 = d 10 := tk_more d t (by decide) _
  have e11 : parD d t n 11 = d 11 := tk_more d t (by decide) _
  refine ⟨⟨q.1, ?_⟩, fun w a b => ?_, ?_⟩
  · show tk d t n.toNat 0 0 ≤ 60
    omega
  · have b : w < tk d t n.toNat 0 0 := b
    have := q.2.2.2 w a b
    show (0 ≤ tk d t n.toNat 1 w ∧ tk d t n.toNat 1 w ≤ 600) ∧ (1 ≤ tk d t n.toNat 2 w ∧ tk d t n.toNat 2 w ≤ 120) ∧ (0 ≤ tk d t n.toNat 3 w ∧ tk d t n.toNat 3 w ≤ 2) ∧ (0 ≤ tk d t n.toNat 4 w ∧ tk d t n.toNat 4 w ≤ 5) ∧ (0 ≤ tk d t n.toNat 5 w ∧ tk d t n.toNat 5 w ≤ 5)
    omega
  · rw [e6, e7, e8, e9, e10, e11]
    exact h.2.2

set_option maxRecDepth 20000 in
theorem c_X4_openWord (s : Nat → Int → Int) (z : Int) (hz : 0 ≤ z ∧ z < 65536) (hw : 0 ≤ s 103 0 ∧ s 103 0 < 60) : ab_Mt yX4_openWord cX4_openWord 2 none ({ frames := 7, cells := 0, slots := 0, locals := 152 } : Room) false 0 0 [.inr (some 5), .inl z] (WW s) (fun r h2 => r = none ∧ h2 = WW (ab_s (ab_s (ab_s (ab_s s 6 (ab_u (s 6) (s 103 0) 0)) 7 (ab_u (s 7) (s 103 0) 0)) 9 (ab_u (s 9) (s 103 0) (sgL z))) 103 (fun _ => s 103 0 + 1))) := by
  refine ab_mk RX4 false rfl pn_X4_openWord (fun z => by cases z) (Nat.le_of_ble_eq_true rfl) (fun V hV => ?_)
  show V 0 [some (.inr (some 5)), some (.inl z)] [] (WW s) 0 0
  refine rb_aload_n hV dX4_openWord_0 rfl rfl ?_
  refine rb_get hV (v := .inl (s 103 0)) dX4_openWord_1 ⟨RX4, TX4, 6, rfl, (Nat.le_of_ble_eq_true rfl), lf_X4_9⟩ (gw_5 _) rfl ?_
  refine rb_bipush hV dX4_openWord_4 (by decide) ?_
  refine rb_icmp_lt hV (tgt := 10) dX4_openWord_6 (by decide) ⟨(by unfold ab_r at *; omega), (by unfold ab_r at *; omega)⟩ (fun c6 => ?_) (fun c6 => absurd c6 (by omega))
  refine rb_aload_n hV dX4_openWord_10 rfl rfl ?_
  refine rb_get hV (v := .inr (some 6)) dX4_openWord_11 ⟨RX4, TX4, 6, rfl, (Nat.le_of_ble_eq_true rfl), lf_X4_15⟩ (gw_5 _) rfl ?_
  refine rb_aload_n hV dX4_openWord_14 rfl rfl ?_
  refine rb_get hV (v := .inl (s 103 0)) dX4_openWord_15 ⟨RX4, TX4, 6, rfl, (Nat.le_of_ble_eq_true rfl), lf_X4_9⟩ (gw_5 _) rfl ?_
  refine rb_iconst hV dX4_openWord_18 ?_
  refine rb_iast hV (f := (s 6)) dX4_openWord_19 (gw_6 _) (Nat.le_of_ble_eq_true rfl) (by omega) rfl (pw_6 _ _) ?_
  refine rb_aload_n hV dX4_openWord_20 rfl rfl ?_
  refine rb_get hV (v := .inr (some 7)) dX4_openWord_21 ⟨RX4, TX4, 6, rfl, (Nat.le_of_ble_eq_true rfl), lf_X4_19⟩ (gw_5 _) rfl ?_
  refine rb_aload_n hV dX4_openWord_24 rfl rfl ?_
  refine rb_get hV (v := .inl (s 103 0)) dX4_openWord_25 ⟨RX4, TX4, 6, rfl, (Nat.le_of_ble_eq_true rfl), lf_X4_9⟩ (gw_5 _) rfl ?_
  refine rb_iconst hV dX4_openWord_28 ?_
  refine rb_iast hV (f := (s 7)) dX4_openWord_29 (gw_7 _) (Nat.le_of_ble_eq_true rfl) (by omega) rfl (pw_7 _ _) ?_
  refine rb_aload_n hV dX4_openWord_30 rfl rfl ?_
  refine rb_get hV (v := .inr (some 9)) dX4_openWord_31 ⟨RX4, TX4, 6, rfl, (Nat.le_of_ble_eq_true rfl), lf_X4_25⟩ (gw_5 _) rfl ?_
  refine rb_aload_n hV dX4_openWord_34 rfl rfl ?_
  refine rb_get hV (v := .inl (s 103 0)) dX4_openWord_35 ⟨RX4, TX4, 6, rfl, (Nat.le_of_ble_eq_true rfl), lf_X4_9⟩ (gw_5 _) rfl ?_
  refine rb_iload_n hV dX4_openWord_38 rfl rfl ?_
  refine rb_callS hV (rest := [.inl (s 103 0), .inr (some 9)]) dX4_openWord_39 (c_X7_hangsLeft (ab_s (ab_s s 6 (ab_u (s 6) (s 103 0) 0)) 7 (ab_u (s 7) (s 103 0) 0)) z hz) lk_X4_47 rfl rfl ⟨rfl, rfl, (Nat.le_of_ble_eq_true rfl), (Nat.le_of_ble_eq_true rfl), (Nat.le_of_ble_eq_true rfl), (Nat.le_of_ble_eq_true rfl)⟩ (Nat.le_of_ble_eq_true rfl) (fun r9 h9 p9 => ?_)
  obtain ⟨rfl, rfl⟩ := p9
  show V 42 [some (.inr (some 5)), some (.inl z)] [.inl (if z = 39 ∨ z = 34 ∨ z = 40 then 1 else 0), .inl (s 103 0), .inr (some 9)] (WW (ab_s (ab_s s 6 (ab_u (s 6) (s 103 0) 0)) 7 (ab_u (s 7) (s 103 0) 0))) 0 0
  by_cases e39 : z = 39 ∨ z = 34 ∨ z = 40
  · rw [if_pos e39]
    show V 42 [some (.inr (some 5)), some (.inl z)] [.inl 1, .inl (s 103 0), .inr (some 9)] (WW (ab_s (ab_s s 6 (ab_u (s 6) (s 103 0) 0)) 7 (ab_u (s 7) (s 103 0) 0))) 0 0
    refine rb_if_eq hV (tgt := 52) dX4_openWord_42 (by decide) (by unfold ab_r at *; omega) (fun z => absurd z (by decide)) (fun _ => ?_)
    refine rb_iload_n hV dX4_openWord_45 rfl rfl ?_
    refine rb_callS hV (rest := [.inl (s 103 0), .inr (some 9)]) dX4_openWord_46 (c_X7_widthOf (ab_s (ab_s s 6 (ab_u (s 6) (s 103 0) 0)) 7 (ab_u (s 7) (s 103 0) 0)) z hz) lk_X4_53 rfl rfl ⟨rfl, rfl, (Nat.le_of_ble_eq_true rfl), (Nat.le_of_ble_eq_true rfl), (Nat.le_of_ble_eq_true rfl), (Nat.le_of_ble_eq_true rfl)⟩ (Nat.le_of_ble_eq_true rfl) (fun r9 h9 p9 => ?_)
    obtain ⟨rfl, rfl⟩ := p9
    show V 49 [some (.inr (some 5)), some (.inl z)] [.inl (sgW z), .inl (s 103 0), .inr (some 9)] (WW (ab_s (ab_s s 6 (ab_u (s 6) (s 103 0) 0)) 7 (ab_u (s 7) (s 103 0) 0))) 0 0
    refine rb_goto hV (tgt := 53) dX4_openWord_49 (by decide) ?_
    refine rb_iast hV (f := (s 9)) dX4_openWord_53 (gw_9 _) (Nat.le_of_ble_eq_true rfl) (by omega) rfl (pw_9 _ _) ?_
    refine rb_aload_n hV dX4_openWord_54 rfl rfl ?_
    refine rb_dup hV dX4_openWord_55 ?_
    refine rb_get hV (v := .inl (s 103 0)) dX4_openWord_56 ⟨RX4, TX4, 6, rfl, (Nat.le_of_ble_eq_true rfl), lf_X4_9⟩ (gw_5 _) rfl ?_
    refine rb_iconst hV dX4_openWord_59 ?_
    refine rb_iadd hV dX4_openWord_60 ?_
    refine rb_put hV (C := RX4) (T := TX4) (N := 6) (ci := 4) (j := 0) dX4_openWord_61 rfl (Nat.le_of_ble_eq_true rfl) lf_X4_9 rfl (gw_5 _) (Nat.le_of_ble_eq_true rfl) (ft_X4_0 _) (pw_5_0 _ _) ?_
    refine rb_ret hV (r := none) dX4_openWord_64 rfl ⟨(Nat.le_of_ble_eq_true rfl), (Nat.le_of_ble_eq_true rfl)⟩ trivial ?_
    have hg : sgL z = sgW z := if_pos e39
    rw [hg]
    exact ⟨rfl, rfl⟩
  · rw [if_neg e39]
    show V 42 [some (.inr (some 5)), some (.inl z)] [.inl 0, .inl (s 103 0), .inr (some 9)] (WW (ab_s (ab_s s 6 (ab_u (s 6) (s 103 0) 0)) 7 (ab_u (s 7) (s 103 0) 0))) 0 0
    refine rb_if_eq hV (tgt := 52) dX4_openWord_42 (by decide) (by unfold ab_r at *; omega) (fun _ => ?_) (fun z => absurd z (by decide))
    refine rb_iconst hV dX4_openWord_52 ?_
    refine rb_iast hV (f := (s 9)) dX4_openWord_53 (gw_9 _) (Nat.le_of_ble_eq_true rfl) (by omega) rfl (pw_9 _ _) ?_
    refine rb_aload_n hV dX4_openWord_54 rfl rfl ?_
    refine rb_dup hV dX4_openWord_55 ?_
    refine rb_get hV (v := .inl (s 103 0)) dX4_openWord_56 ⟨RX4, TX4, 6, rfl, (Nat.le_of_ble_eq_true rfl), lf_X4_9⟩ (gw_5 _) rfl ?_
    refine rb_iconst hV dX4_openWord_59 ?_
    refine rb_iadd hV dX4_openWord_60 ?_
    refine rb_put hV (C := RX4) (T := TX4) (N := 6) (ci := 4) (j := 0) dX4_openWord_61 rfl (Nat.le_of_ble_eq_true rfl) lf_X4_9 rfl (gw_5 _) (Nat.le_of_ble_eq_true rfl) (ft_X4_0 _) (pw_5_0 _ _) ?_
    refine rb_ret hV (r := none) dX4_openWord_64 rfl ⟨(Nat.le_of_ble_eq_true rfl), (Nat.le_of_ble_eq_true rfl)⟩ trivial ?_
    have hg : sgL z = 0 := if_neg e39
    rw [hg]
    exact ⟨rfl, rfl⟩

set_option maxRecDepth 20000 in
theorem c_X4_lengthenWord (s : Nat → Int → Int) (z : Int) (hz : 0 ≤ z ∧ z < 65536) (hw : 1 ≤ s 103 0 ∧ s 103 0 ≤ 60) : ab_Mt yX4_lengthenWord cX4_lengthenWord 4 none ({ frames := 7, cells := 0, slots := 0, locals := 152 } : Room) false 0 0 [.inr (some 5), .inl z] (WW s) (fun r h2 => r = none ∧ h2 = WW (ab_s (ab_s (ab_s (ab_s s 6 (ab_u (s 6) (s 103 0 - 1) (s 6 (s 103 0 - 1) + sgW z))) 7 (ab_u (s 7) (s 103 0 - 1) (s 7 (s 103 0 - 1) + 1))) 8 (ab_u (s 8) (s 103 0 - 1) (sgK z))) 10 (ab_u (s 10) (s 103 0 - 1) (sgR z)))) := by
  refine ab_mk RX4 false rfl pn_X4_lengthenWord (fun z => by cases z) (Nat.le_of_ble_eq_true rfl) (fun V hV => ?_)
  show V 0 [some (.inr (some 5)), some (.inl z), none, none] [] (WW s) 0 0
  refine rb_aload_n hV dX4_lengthenWord_0 rfl rfl ?_
  refine rb_get hV (v := .inl (s 103 0)) dX4_lengthenWord_1 ⟨RX4, TX4, 6, rfl, (Nat.le_of_ble_eq_true rfl), lf_X4_9⟩ (gw_5 _) rfl ?_
  refine rb_iconst hV dX4_lengthenWord_4 ?_
  refine rb_isub hV dX4_lengthenWord_5 ?_
  refine rb_istore_n hV (L2 := [some (.inr (some 5)), some (.inl z), some (.inl ((s 103 0) - 1)), none]) dX4_lengthenWord_6 rfl (Nat.le_of_ble_eq_true rfl) rfl ?_
  refine rb_iload_n hV dX4_lengthenWord_7 rfl rfl ?_
  refine rb_if_ge hV (tgt := 12) dX4_lengthenWord_8 (by decide) (by unfold ab_r at *; omega) (fun c8 => ?_) (fun c8 => absurd c8 (by omega))
  refine rb_iload_n hV dX4_lengthenWord_12 rfl rfl ?_
  refine rb_callS hV (rest := []) dX4_lengthenWord_13 (c_X7_widthOf s z hz) lk_X4_53 rfl rfl ⟨rfl, rfl, (Nat.le_of_ble_eq_true rfl), (Nat.le_of_ble_eq_true rfl), (Nat.le_of_ble_eq_true rfl), (Nat.le_of_ble_eq_true rfl)⟩ (Nat.le_of_ble_eq_true rfl) (fun r9 h9 p9 => ?_)
  obtain ⟨rfl, rfl⟩ := p9
  show V 16 [some (.inr (some 5)), some (.inl z), some (.inl ((s 103 0) - 1)), none] [.inl (sgW z)] (WW s) 0 0
  refine rb_istore_n hV (L2 := [some (.inr (some 5)), some (.inl z), some (.inl ((s 103 0) - 1)), some (.inl (sgW z))]) dX4_lengthenWord_16 rfl (Nat.le_of_ble_eq_true rfl) rfl ?_
  refine rb_aload_n hV dX4_lengthenWord_17 rfl rfl ?_
  refine rb_get hV (v := .inr (some 6)) dX4_lengthenWord_18 ⟨RX4, TX4, 6, rfl, (Nat.le_of_ble_eq_true rfl), lf_X4_15⟩ (gw_5 _) rfl ?_
  refine rb_iload_n hV dX4_lengthenWord_21 rfl rfl ?_
  refine rb_dup2 hV dX4_lengthenWord_22 ?_
  refine rb_iald hV (f := (s 6)) dX4_lengthenWord_23 (gw_6 _) (Nat.le_of_ble_eq_true rfl) (by omega) ?_
  refine rb_iload_n hV dX4_lengthenWord_24 rfl rfl ?_
  refine rb_iadd hV dX4_lengthenWord_25 ?_
  refine rb_iast hV (f := (s 6)) dX4_lengthenWord_26 (gw_6 _) (Nat.le_of_ble_eq_true rfl) (by omega) rfl (pw_6 _ _) ?_
  refine rb_aload_n hV dX4_lengthenWord_27 rfl rfl ?_
  refine rb_get hV (v := .inr (some 7)) dX4_lengthenWord_28 ⟨RX4, TX4, 6, rfl, (Nat.le_of_ble_eq_true rfl), lf_X4_19⟩ (gw_5 _) rfl ?_
  refine rb_iload_n hV dX4_lengthenWord_31 rfl rfl ?_
  refine rb_dup2 hV dX4_lengthenWord_32 ?_
  refine rb_iald hV (f := (s 7)) dX4_lengthenWord_33 (gw_7 _) (Nat.le_of_ble_eq_true rfl) (by omega) ?_
  refine rb_iconst hV dX4_lengthenWord_34 ?_
  refine rb_iadd hV dX4_lengthenWord_35 ?_
  refine rb_iast hV (f := (s 7)) dX4_lengthenWord_36 (gw_7 _) (Nat.le_of_ble_eq_true rfl) (by omega) rfl (pw_7 _ _) ?_
  refine rb_aload_n hV dX4_lengthenWord_37 rfl rfl ?_
  refine rb_get hV (v := .inr (some 8)) dX4_lengthenWord_38 ⟨RX4, TX4, 6, rfl, (Nat.le_of_ble_eq_true rfl), lf_X4_22⟩ (gw_5 _) rfl ?_
  refine rb_iload_n hV dX4_lengthenWord_41 rfl rfl ?_
  refine rb_iload_n hV dX4_lengthenWord_42 rfl rfl ?_
  refine rb_callS hV (rest := [.inl ((s 103 0) - 1), .inr (some 8)]) dX4_lengthenWord_43 (c_X7_kindBehind (ab_s (ab_s s 6 (ab_u (s 6) ((s 103 0) - 1) ((s 6 ((s 103 0) - 1)) + (sgW z)))) 7 (ab_u (s 7) ((s 103 0) - 1) ((s 7 ((s 103 0) - 1)) + 1))) z hz) lk_X4_57 rfl rfl ⟨rfl, rfl, (Nat.le_of_ble_eq_true rfl), (Nat.le_of_ble_eq_true rfl), (Nat.le_of_ble_eq_true rfl), (Nat.le_of_ble_eq_true rfl)⟩ (Nat.le_of_ble_eq_true rfl) (fun r9 h9 p9 => ?_)
  obtain ⟨rfl, rfl⟩ := p9
  show V 46 [some (.inr (some 5)), some (.inl z), some (.inl ((s 103 0) - 1)), some (.inl (sgW z))] [.inl (sgK z), .inl ((s 103 0) - 1), .inr (some 8)] (WW (ab_s (ab_s s 6 (ab_u (s 6) ((s 103 0) - 1) ((s 6 ((s 103 0) - 1)) + (sgW z)))) 7 (ab_u (s 7) ((s 103 0) - 1) ((s 7 ((s 103 0) - 1)) + 1)))) 0 0
  refine rb_iast hV (f := (s 8)) dX4_lengthenWord_46 (gw_8 _) (Nat.le_of_ble_eq_true rfl) (by omega) rfl (pw_8 _ _) ?_
  refine rb_aload_n hV dX4_lengthenWord_47 rfl rfl ?_
  refine rb_get hV (v := .inr (some 10)) dX4_lengthenWord_48 ⟨RX4, TX4, 6, rfl, (Nat.le_of_ble_eq_true rfl), lf_X4_28⟩ (gw_5 _) rfl ?_
  refine rb_iload_n hV dX4_lengthenWord_51 rfl rfl ?_
  refine rb_iload_n hV dX4_lengthenWord_52 rfl rfl ?_
  refine rb_callS hV (rest := [.inl ((s 103 0) - 1), .inr (some 10)]) dX4_lengthenWord_53 (c_X7_hangsRight (ab_s (ab_s (ab_s s 6 (ab_u (s 6) ((s 103 0) - 1) ((s 6 ((s 103 0) - 1)) + (sgW z)))) 7 (ab_u (s 7) ((s 103 0) - 1) ((s 7 ((s 103 0) - 1)) + 1))) 8 (ab_u (s 8) ((s 103 0) - 1) (sgK z))) z hz) lk_X4_60 rfl rfl ⟨rfl, rfl, (Nat.le_of_ble_eq_true rfl), (Nat.le_of_ble_eq_true rfl), (Nat.le_of_ble_eq_true rfl), (Nat.le_of_ble_eq_true rfl)⟩ (Nat.le_of_ble_eq_true rfl) (fun r9 h9 p9 => ?_)
  obtain ⟨rfl, rfl⟩ := p9
  show V 56 [some (.inr (some 5)), some (.inl z), some (.inl ((s 103 0) - 1)), some (.inl (sgW z))] [.inl (if z = 46 ∨ z = 44 ∨ z = 59 ∨ z = 58 ∨ z = 33 ∨ z = 63 ∨ z = 45 ∨ z = 39 ∨ z = 34 then 1 else 0), .inl ((s 103 0) - 1), .inr (some 10)] (WW (ab_s (ab_s (ab_s s 6 (ab_u (s 6) ((s 103 0) - 1) ((s 6 ((s 103 0) - 1)) + (sgW z)))) 7 (ab_u (s 7) ((s 103 0) - 1) ((s 7 ((s 103 0) - 1)) + 1))) 8 (ab_u (s 8) ((s 103 0) - 1) (sgK z)))) 0 0
  by_cases e53 : z = 46 ∨ z = 44 ∨ z = 59 ∨ z = 58 ∨ z = 33 ∨ z = 63 ∨ z = 45 ∨ z = 39 ∨ z = 34
  · rw [if_pos e53]
    show V 56 [some (.inr (some 5)), some (.inl z), some (.inl ((s 103 0) - 1)), some (.inl (sgW z))] [.inl 1, .inl ((s 103 0) - 1), .inr (some 10)] (WW (ab_s (ab_s (ab_s s 6 (ab_u (s 6) ((s 103 0) - 1) ((s 6 ((s 103 0) - 1)) + (sgW z)))) 7 (ab_u (s 7) ((s 103 0) - 1) ((s 7 ((s 103 0) - 1)) + 1))) 8 (ab_u (s 8) ((s 103 0) - 1) (sgK z)))) 0 0
    refine rb_if_eq hV (tgt := 63) dX4_lengthenWord_56 (by decide) (by unfold ab_r at *; omega) (fun z => absurd z (by decide)) (fun _ => ?_)
    refine rb_iload_n hV dX4_lengthenWord_59 rfl rfl ?_
    refine rb_goto hV (tgt := 64) dX4_lengthenWord_60 (by decide) ?_
    refine rb_iast hV (f := (s 10)) dX4_lengthenWord_64 (gw_10 _) (Nat.le_of_ble_eq_true rfl) (by omega) rfl (pw_10 _ _) ?_
    refine rb_ret hV (r := none) dX4_lengthenWord_65 rfl ⟨(Nat.le_of_ble_eq_true rfl), (Nat.le_of_ble_eq_true rfl)⟩ trivial ?_
    have hg : sgR z = sgW z := if_pos e53
    rw [hg]
    exact ⟨rfl, rfl⟩
  · rw [if_neg e53]
    show V 56 [some (.inr (some 5)), some (.inl z), some (.inl ((s 103 0) - 1)), some (.inl (sgW z))] [.inl 0, .inl ((s 103 0) - 1), .inr (some 10)] (WW (ab_s (ab_s (ab_s s 6 (ab_u (s 6) ((s 103 0) - 1) ((s 6 ((s 103 0) - 1)) + (sgW z)))) 7 (ab_u (s 7) ((s 103 0) - 1) ((s 7 ((s 103 0) - 1)) + 1))) 8 (ab_u (s 8) ((s 103 0) - 1) (sgK z)))) 0 0
    refine rb_if_eq hV (tgt := 63) dX4_lengthenWord_56 (by decide) (by unfold ab_r at *; omega) (fun _ => ?_) (fun z => absurd z (by decide))
    refine rb_iconst hV dX4_lengthenWord_63 ?_
    refine rb_iast hV (f := (s 10)) dX4_lengthenWord_64 (gw_10 _) (Nat.le_of_ble_eq_true rfl) (by omega) rfl (pw_10 _ _) ?_
    refine rb_ret hV (r := none) dX4_lengthenWord_65 rfl ⟨(Nat.le_of_ble_eq_true rfl), (Nat.le_of_ble_eq_true rfl)⟩ trivial ?_
    have hg : sgR z = 0 := if_neg e53
    rw [hg]
    exact ⟨rfl, rfl⟩

set_option maxRecDepth 20000 in
theorem c_X4_take (s : Nat → Int → Int) (hn : 0 ≤ s 104 0 ∧ s 104 0 ≤ 120) (ht : ∀ v, 0 ≤ s 22 v ∧ s 22 v < 65536) : ab_Mt yX4_take cX4_take 6 none ({ frames := 8, cells := 0, slots := 0, locals := 175 } : Room) false 0 0 [.inr (some 5), .inr (some 21)] (WW s) (fun r h2 => r = none ∧ h2 = WW (ab_s (ab_s (ab_s (ab_s (ab_s (ab_s s 103 (fun _ => tk (vX s) (s 22) (s 104 0).toNat 0 0)) 6 (tk (vX s) (s 22) (s 104 0).toNat 1)) 7 (tk (vX s) (s 22) (s 104 0).toNat 2)) 8 (tk (vX s) (s 22) (s 104 0).toNat 3)) 9 (tk (vX s) (s 22) (s 104 0).toNat 4)) 10 (tk (vX s) (s 22) (s 104 0).toNat 5))) := by
  refine ab_mk RX4 false rfl pn_X4_take (fun z => by cases z) (Nat.le_of_ble_eq_true rfl) (fun V hV => ?_)
  show V 0 [some (.inr (some 5)), some (.inr (some 21)), none, none, none, none] [] (WW s) 0 0
  refine rb_aload_n hV dX4_take_0 rfl rfl ?_
  refine rb_iconst hV dX4_take_1 ?_
  refine rb_put hV (C := RX4) (T := TX4) (N := 6) (ci := 4) (j := 0) dX4_take_2 rfl (Nat.le_of_ble_eq_true rfl) lf_X4_9 rfl (gw_5 _) (Nat.le_of_ble_eq_true rfl) (ft_X4_0 _) (pw_5_0 _ _) ?_
  refine rb_iconst hV dX4_take_5 ?_
  refine rb_istore_n hV (L2 := [some (.inr (some 5)), some (.inr (some 21)), some (.inl 0), none, none, none]) dX4_take_6 rfl (Nat.le_of_ble_eq_true rfl) rfl ?_
  refine rb_iconst hV dX4_take_7 ?_
  refine rb_istore_n hV (L2 := [some (.inr (some 5)), some (.inr (some 21)), some (.inl 0), some (.inl 0), none, none]) dX4_take_8 rfl (Nat.le_of_ble_eq_true rfl) rfl ?_
  refine rb_heq (b := (ab_s (ab_s (ab_s (ab_s (ab_s (ab_s s 103 (fun _ => 0)) 6 (s 6)) 7 (s 7)) 8 (s 8)) 9 (s 9)) 10 (s 10))) ((ab_s_id rfl).trans ((ab_s_id rfl).trans ((ab_s_id rfl).trans ((ab_s_id rfl).trans (ab_s_id rfl))))).symm ?_
  have h9 : ∀ (n9 : Nat) (u : Int) (k : Int) (W : Int) (wd : Int → Int) (sz : Int → Int) (kd : Int → Int) (lm : Int → Int) (rm : Int → Int), (0 ≤ k ∧ k ≤ s 104 0) → (u = tk (vX s) (s 22) k.toNat 20 0 ∧ W = tk (vX s) (s 22) k.toNat 0 0 ∧ wd = tk (vX s) (s 22) k.toNat 1 ∧ sz = tk (vX s) (s 22) k.toNat 2 ∧ kd = tk (vX s) (s 22) k.toNat 3 ∧ lm = tk (vX s) (s 22) k.toNat 4 ∧ rm = tk (vX s) (s 22) k.toNat 5) → ((s 104 0 - k).toNat) < n9 → V 9 [some (.inr (some 5)), some (.inr (some 21)), some (.inl u), some (.inl k), none, none] [] (WW (ab_s (ab_s (ab_s (ab_s (ab_s (ab_s s 103 (fun _ => W)) 6 wd) 7 sz) 8 kd) 9 lm) 10 rm)) 0 0 := by
    intro n9
    induction n9 with
    | zero => intro u k W wd sz kd lm rm h1 h2 hm; omega
    | succ n9 ih9 =>
      intro u k W wd sz kd lm rm h1 h2 hm
      have htk := ht k
      have hb : (0 ≤ W ∧ 2 * W ≤ k + u) ∧ (u = 0 ∨ (u = 1 ∧ 1 ≤ W)) := by
        obtain ⟨rfl, rfl, _⟩ := h2
        have q := tk_in (vX s) (s 22) k.toNat
        exact ⟨⟨q.1, by have := q.2.1; omega⟩, q.2.2.1⟩
      refine rb_iload_n hV dX4_take_9 rfl rfl ?_
      refine rb_aload_n hV dX4_take_10 rfl rfl ?_
      refine rb_get hV (v := .inl (s 104 0)) dX4_take_11 ⟨RX8, TX8, 2, rfl, (Nat.le_of_ble_eq_true rfl), lf_X4_31⟩ (gw_21 _) rfl ?_
      refine rb_icmp_ge hV (tgt := 82) dX4_take_14 (by decide) ⟨(by unfold ab_r at *; omega), (by unfold ab_r at *; omega)⟩ (fun c14 => ?_) (fun c14 => ?_)
      · refine rb_ret hV (r := none) dX4_take_82 rfl ⟨(Nat.le_of_ble_eq_true rfl), (Nat.le_of_ble_eq_true rfl)⟩ trivial ?_
        obtain ⟨_, rfl, rfl, rfl, rfl, rfl, rfl⟩ := h2
        rw [show s 104 0 = k by omega]
        exact ⟨rfl, rfl⟩
      · refine rb_aload_n hV dX4_take_17 rfl rfl ?_
        refine rb_get hV (v := .inr (some 22)) dX4_take_18 ⟨RX8, TX8, 2, rfl, (Nat.le_of_ble_eq_true rfl), lf_X4_36⟩ (gw_21 _) rfl ?_
        refine rb_iload_n hV dX4_take_21 rfl rfl ?_
        refine rb_cald hV (f := (s 22)) dX4_take_22 (gw_22 _) (Nat.le_of_ble_eq_true rfl) (by omega) ?_
        refine rb_istore hV (L2 := [some (.inr (some 5)), some (.inr (some 21)), some (.inl u), some (.inl k), some (.inl (s 22 k)), none]) dX4_take_23 (Nat.le_of_ble_eq_true rfl) rfl ?_
        refine rb_iload hV dX4_take_25 rfl ?_
        refine rb_bipush hV dX4_take_27 (by decide) ?_
        refine rb_icmp_ne hV (tgt := 36) dX4_take_29 (by decide) ⟨(by unfold ab_r at *; omega), (by unfold ab_r at *; omega)⟩ (fun c29 => ?_) (fun c29 => ?_)
        · refine rb_iconst hV dX4_take_36 ?_
          refine rb_istore hV (L2 := [some (.inr (some 5)), some (.inr (some 21)), some (.inl u), some (.inl k), some (.inl (s 22 k)), some (.inl 0)]) dX4_take_37 (Nat.le_of_ble_eq_true rfl) rfl ?_
          refine rb_iload hV dX4_take_39 rfl ?_
          refine rb_if_ne hV (tgt := 54) dX4_take_41 (by decide) (by unfold ab_r at *; omega) (fun z => absurd z (by decide)) (fun _ => ?_)
          refine rb_iload_n hV dX4_take_44 rfl rfl ?_
          refine rb_if_ne hV (tgt := 54) dX4_take_45 (by decide) (by unfold ab_r at *; omega) (fun c45 => ?_) (fun c45 => ?_)
          · refine rb_iload hV dX4_take_54 rfl ?_
            refine rb_if_ne hV (tgt := 65) dX4_take_56 (by decide) (by unfold ab_r at *; omega) (fun z => absurd z (by decide)) (fun _ => ?_)
            refine rb_aload_n hV dX4_take_59 rfl rfl ?_
            refine rb_iload hV dX4_take_60 rfl ?_
            refine rb_callV hV (rest := []) dX4_take_62 (c_X4_lengthenWord (ab_s (ab_s (ab_s (ab_s (ab_s (ab_s s 103 (fun _ => W)) 6 wd) 7 sz) 8 kd) 9 lm) 10 rm) (s 22 k) htk (by show 1 ≤ W ∧ W ≤ 60; omega)) lk_X4_44 rfl (Or.inl ⟨4, _, TX4, 6, gw_5 _, rfl⟩) rfl ⟨rfl, rfl, (Nat.le_of_ble_eq_true rfl), (Nat.le_of_ble_eq_true rfl), (Nat.le_of_ble_eq_true rfl), (Nat.le_of_ble_eq_true rfl)⟩ (Nat.le_of_ble_eq_true rfl) (fun r9 h9 p9 => ?_)
            obtain ⟨rfl, rfl⟩ := p9
            refine rb_heq (b := (ab_s (ab_s (ab_s (ab_s (ab_s (ab_s s 103 (fun _ => W)) 6 (ab_u (wd) (W - 1) ((wd) (W - 1) + sgW (s 22 k)))) 7 (ab_u (sz) (W - 1) ((sz) (W - 1) + 1))) 8 (ab_u (kd) (W - 1) (sgK (s 22 k)))) 9 lm) 10 (ab_u (rm) (W - 1) (sgR (s 22 k))))) ((congrArg (fun x => ab_s x 10 _) ((congrArg (fun x => ab_s x 8 _) ((congrArg (fun x => ab_s x 7 _) ((ab_s_sw (by decide)).trans (congrArg (fun x => ab_s x 10 _) ((ab_s_sw (by decide)).trans (congrArg (fun x => ab_s x 9 _) ((ab_s_sw (by decide)).trans (congrArg (fun x => ab_s x 8 _) ((ab_s_sw (by decide)).trans (congrArg (fun x => ab_s x 7 _) (ab_s_same _ 6 _ _)))))))))).trans ((ab_s_sw (by decide)).trans (congrArg (fun x => ab_s x 10 _) ((ab_s_sw (by decide)).trans (congrArg (fun x => ab_s x 9 _) ((ab_s_sw (by decide)).trans (congrArg (fun x => ab_s x 8 _) (ab_s_same _ 7 _ _))))))))).trans ((ab_s_sw (by decide)).trans (congrArg (fun x => ab_s x 10 _) ((ab_s_sw (by decide)).trans (congrArg (fun x => ab_s x 9 _) (ab_s_same _ 8 _ _))))))).trans (ab_s_same _ 10 _ _)) ?_
            show V 65 [some (.inr (some 5)), some (.inr (some 21)), some (.inl u), some (.inl k), some (.inl (s 22 k)), some (.inl 0)] [] (WW (ab_s (ab_s (ab_s (ab_s (ab_s (ab_s s 103 (fun _ => W)) 6 (ab_u (wd) (W - 1) ((wd) (W - 1) + sgW (s 22 k)))) 7 (ab_u (sz) (W - 1) ((sz) (W - 1) + 1))) 8 (ab_u (kd) (W - 1) (sgK (s 22 k)))) 9 lm) 10 (ab_u (rm) (W - 1) (sgR (s 22 k))))) 0 0
            refine rb_iload hV dX4_take_65 rfl ?_
            refine rb_if_ne hV (tgt := 74) dX4_take_67 (by decide) (by unfold ab_r at *; omega) (fun z => absurd z (by decide)) (fun _ => ?_)
            refine rb_iconst hV dX4_take_70 ?_
            refine rb_goto hV (tgt := 75) dX4_take_71 (by decide) ?_
            refine rb_istore_n hV (L2 := [some (.inr (some 5)), some (.inr (some 21)), some (.inl 1), some (.inl k), some (.inl (s 22 k)), some (.inl 0)]) dX4_take_75 rfl (Nat.le_of_ble_eq_true rfl) rfl ?_
            refine rb_iinc hV (L2 := [some (.inr (some 5)), some (.inr (some 21)), some (.inl 1), some (.inl (k + 1)), some (.inl (s 22 k)), some (.inl 0)]) dX4_take_76 rfl rfl rfl ?_
            refine rb_goto hV (tgt := 9) dX4_take_79 (by decide) ?_
            refine rb_weak hV (L2 := [some (.inr (some 5)), some (.inr (some 21)), some (.inl 1), some (.inl (k + 1)), none, none]) ⟨rfl, ⟨rfl, ⟨rfl, ⟨rfl, trivial⟩⟩⟩⟩ ?_
            refine ih9 1 (k + 1) W (ab_u (wd) (W - 1) ((wd) (W - 1) + sgW (s 22 k))) (ab_u (sz) (W - 1) ((sz) (W - 1) + 1)) (ab_u (kd) (W - 1) (sgK (s 22 k))) (lm) (ab_u (rm) (W - 1) (sgR (s 22 k))) ?_ ?_ ?_
            · omega
            · obtain ⟨rfl, rfl, rfl, rfl, rfl, rfl, rfl⟩ := h2
              rw [tk_S (vX s) (s 22) h1.1, tkS_l c29 c45]
              exact ⟨rfl, rfl, rfl, rfl, rfl, rfl, rfl⟩
            · omega
          · refine rb_aload_n hV dX4_take_48 rfl rfl ?_
            refine rb_iload hV dX4_take_49 rfl ?_
            refine rb_callV hV (rest := []) dX4_take_51 (c_X4_openWord (ab_s (ab_s (ab_s (ab_s (ab_s (ab_s s 103 (fun _ => W)) 6 wd) 7 sz) 8 kd) 9 lm) 10 rm) (s 22 k) htk (by show 0 ≤ W ∧ W < 60; omega)) lk_X4_40 rfl (Or.inl ⟨4, _, TX4, 6, gw_5 _, rfl⟩) rfl ⟨rfl, rfl, (Nat.le_of_ble_eq_true rfl), (Nat.le_of_ble_eq_true rfl), (Nat.le_of_ble_eq_true rfl), (Nat.le_of_ble_eq_true rfl)⟩ (Nat.le_of_ble_eq_true rfl) (fun r9 h9 p9 => ?_)
            obtain ⟨rfl, rfl⟩ := p9
            refine rb_heq (b := (ab_s (ab_s (ab_s (ab_s (ab_s (ab_s s 103 (fun _ => W + 1)) 6 (ab_u (wd) W 0)) 7 (ab_u (sz) W 0)) 8 kd) 9 (ab_u (lm) W (sgL (s 22 k)))) 10 rm)) ((congrArg (fun x => ab_s x 103 _) ((congrArg (fun x => ab_s x 9 _) ((congrArg (fun x => ab_s x 7 _) ((ab_s_sw (by decide)).trans (congrArg (fun x => ab_s x 10 _) ((ab_s_sw (by decide)).trans (congrArg (fun x => ab_s x 9 _) ((ab_s_sw (by decide)).trans (congrArg (fun x => ab_s x 8 _) ((ab_s_sw (by decide)).trans (congrArg (fun x => ab_s x 7 _) (ab_s_same _ 6 _ _)))))))))).trans ((ab_s_sw (by decide)).trans (congrArg (fun x => ab_s x 10 _) ((ab_s_sw (by decide)).trans (congrArg (fun x => ab_s x 9 _) ((ab_s_sw (by decide)).trans (congrArg (fun x => ab_s x 8 _) (ab_s_same _ 7 _ _))))))))).trans ((ab_s_sw (by decide)).trans (congrArg (fun x => ab_s x 10 _) (ab_s_same _ 9 _ _))))).trans ((ab_s_sw (by decide)).trans (congrArg (fun x => ab_s x 10 _) ((ab_s_sw (by decide)).trans (congrArg (fun x => ab_s x 9 _) ((ab_s_sw (by decide)).trans (congrArg (fun x => ab_s x 8 _) ((ab_s_sw (by decide)).trans (congrArg (fun x => ab_s x 7 _) ((ab_s_sw (by decide)).trans (congrArg (fun x => ab_s x 6 _) (ab_s_same _ 103 _ _)))))))))))) ?_
            show V 54 [some (.inr (some 5)), some (.inr (some 21)), some (.inl u), some (.inl k), some (.inl (s 22 k)), some (.inl 0)] [] (WW (ab_s (ab_s (ab_s (ab_s (ab_s (ab_s s 103 (fun _ => W + 1)) 6 (ab_u (wd) W 0)) 7 (ab_u (sz) W 0)) 8 kd) 9 (ab_u (lm) W (sgL (s 22 k)))) 10 rm)) 0 0
            refine rb_iload hV dX4_take_54 rfl ?_
            refine rb_if_ne hV (tgt := 65) dX4_take_56 (by decide) (by unfold ab_r at *; omega) (fun z => absurd z (by decide)) (fun _ => ?_)
            refine rb_aload_n hV dX4_take_59 rfl rfl ?_
            refine rb_iload hV dX4_take_60 rfl ?_
            refine rb_callV hV (rest := []) dX4_take_62 (c_X4_lengthenWord (ab_s (ab_s (ab_s (ab_s (ab_s (ab_s s 103 (fun _ => W + 1)) 6 (ab_u (wd) W 0)) 7 (ab_u (sz) W 0)) 8 kd) 9 (ab_u (lm) W (sgL (s 22 k)))) 10 rm) (s 22 k) htk (by show 1 ≤ W + 1 ∧ W + 1 ≤ 60; omega)) lk_X4_44 rfl (Or.inl ⟨4, _, TX4, 6, gw_5 _, rfl⟩) rfl ⟨rfl, rfl, (Nat.le_of_ble_eq_true rfl), (Nat.le_of_ble_eq_true rfl), (Nat.le_of_ble_eq_true rfl), (Nat.le_of_ble_eq_true rfl)⟩ (Nat.le_of_ble_eq_true rfl) (fun r9 h9 p9 => ?_)
            obtain ⟨rfl, rfl⟩ := p9
            refine rb_heq (b := (ab_s (ab_s (ab_s (ab_s (ab_s (ab_s s 103 (fun _ => W + 1)) 6 (ab_u (ab_u (wd) W 0) (W + 1 - 1) ((ab_u (wd) W 0) (W + 1 - 1) + sgW (s 22 k)))) 7 (ab_u (ab_u (sz) W 0) (W + 1 - 1) ((ab_u (sz) W 0) (W + 1 - 1) + 1))) 8 (ab_u (kd) (W + 1 - 1) (sgK (s 22 k)))) 9 (ab_u (lm) W (sgL (s 22 k)))) 10 (ab_u (rm) (W + 1 - 1) (sgR (s 22 k))))) ((congrArg (fun x => ab_s x 10 _) ((congrArg (fun x => ab_s x 8 _) ((congrArg (fun x => ab_s x 7 _) ((ab_s_sw (by decide)).trans (congrArg (fun x => ab_s x 10 _) ((ab_s_sw (by decide)).trans (congrArg (fun x => ab_s x 9 _) ((ab_s_sw (by decide)).trans (congrArg (fun x => ab_s x 8 _) ((ab_s_sw (by decide)).trans (congrArg (fun x => ab_s x 7 _) (ab_s_same _ 6 _ _)))))))))).trans ((ab_s_sw (by decide)).trans (congrArg (fun x => ab_s x 10 _) ((ab_s_sw (by decide)).trans (congrArg (fun x => ab_s x 9 _) ((ab_s_sw (by decide)).trans (congrArg (fun x => ab_s x 8 _) (ab_s_same _ 7 _ _))))))))).trans ((ab_s_sw (by decide)).trans (congrArg (fun x => ab_s x 10 _) ((ab_s_sw (by decide)).trans (congrArg (fun x => ab_s x 9 _) (ab_s_same _ 8 _ _))))))).trans (ab_s_same _ 10 _ _)) ?_
            show V 65 [some (.inr (some 5)), some (.inr (some 21)), some (.inl u), some (.inl k), some (.inl (s 22 k)), some (.inl 0)] [] (WW (ab_s (ab_s (ab_s (ab_s (ab_s (ab_s s 103 (fun _ => W + 1)) 6 (ab_u (ab_u (wd) W 0) (W + 1 - 1) ((ab_u (wd) W 0) (W + 1 - 1) + sgW (s 22 k)))) 7 (ab_u (ab_u (sz) W 0) (W + 1 - 1) ((ab_u (sz) W 0) (W + 1 - 1) + 1))) 8 (ab_u (kd) (W + 1 - 1) (sgK (s 22 k)))) 9 (ab_u (lm) W (sgL (s 22 k)))) 10 (ab_u (rm) (W + 1 - 1) (sgR (s 22 k))))) 0 0
            refine rb_iload hV dX4_take_65 rfl ?_
            refine rb_if_ne hV (tgt := 74) dX4_take_67 (by decide) (by unfold ab_r at *; omega) (fun z => absurd z (by decide)) (fun _ => ?_)
            refine rb_iconst hV dX4_take_70 ?_
            refine rb_goto hV (tgt := 75) dX4_take_71 (by decide) ?_
            refine rb_istore_n hV (L2 := [some (.inr (some 5)), some (.inr (some 21)), some (.inl 1), some (.inl k), some (.inl (s 22 k)), some (.inl 0)]) dX4_take_75 rfl (Nat.le_of_ble_eq_true rfl) rfl ?_
            refine rb_iinc hV (L2 := [some (.inr (some 5)), some (.inr (some 21)), some (.inl 1), some (.inl (k + 1)), some (.inl (s 22 k)), some (.inl 0)]) dX4_take_76 rfl rfl rfl ?_
            refine rb_goto hV (tgt := 9) dX4_take_79 (by decide) ?_
            refine rb_weak hV (L2 := [some (.inr (some 5)), some (.inr (some 21)), some (.inl 1), some (.inl (k + 1)), none, none]) ⟨rfl, ⟨rfl, ⟨rfl, ⟨rfl, trivial⟩⟩⟩⟩ ?_
            refine ih9 1 (k + 1) (W + 1) (ab_u (ab_u (wd) W 0) (W + 1 - 1) ((ab_u (wd) W 0) (W + 1 - 1) + sgW (s 22 k))) (ab_u (ab_u (sz) W 0) (W + 1 - 1) ((ab_u (sz) W 0) (W + 1 - 1) + 1)) (ab_u (kd) (W + 1 - 1) (sgK (s 22 k))) (ab_u (lm) W (sgL (s 22 k))) (ab_u (rm) (W + 1 - 1) (sgR (s 22 k))) ?_ ?_ ?_
            · omega
            · obtain ⟨rfl, rfl, rfl, rfl, rfl, rfl, rfl⟩ := h2
              rw [tk_S (vX s) (s 22) h1.1, tkS_o c29 c45]
              exact ⟨rfl, rfl, rfl, rfl, rfl, rfl, rfl⟩
            · omega
        · refine rb_iconst hV dX4_take_32 ?_
          refine rb_goto hV (tgt := 37) dX4_take_33 (by decide) ?_
          refine rb_istore hV (L2 := [some (.inr (some 5)), some (.inr (some 21)), some (.inl u), some (.inl k), some (.inl (s 22 k)), some (.inl 1)]) dX4_take_37 (Nat.le_of_ble_eq_true rfl) rfl ?_
          refine rb_iload hV dX4_take_39 rfl ?_
          refine rb_if_ne hV (tgt := 54) dX4_take_41 (by decide) (by unfold ab_r at *; omega) (fun _ => ?_) (fun z => absurd z (by decide))
          refine rb_iload hV dX4_take_54 rfl ?_
          refine rb_if_ne hV (tgt := 65) dX4_take_56 (by decide) (by unfold ab_r at *; omega) (fun _ => ?_) (fun z => absurd z (by decide))
          refine rb_iload hV dX4_take_65 rfl ?_
          refine rb_if_ne hV (tgt := 74) dX4_take_67 (by decide) (by unfold ab_r at *; omega) (fun _ => ?_) (fun z => absurd z (by decide))
          refine rb_iconst hV dX4_take_74 ?_
          refine rb_istore_n hV (L2 := [some (.inr (some 5)), some (.inr (some 21)), some (.inl 0), some (.inl k), some (.inl (s 22 k)), some (.inl 1)]) dX4_take_75 rfl (Nat.le_of_ble_eq_true rfl) rfl ?_
          refine rb_iinc hV (L2 := [some (.inr (some 5)), some (.inr (some 21)), some (.inl 0), some (.inl (k + 1)), some (.inl (s 22 k)), some (.inl 1)]) dX4_take_76 rfl rfl rfl ?_
          refine rb_goto hV (tgt := 9) dX4_take_79 (by decide) ?_
          refine rb_weak hV (L2 := [some (.inr (some 5)), some (.inr (some 21)), some (.inl 0), some (.inl (k + 1)), none, none]) ⟨rfl, ⟨rfl, ⟨rfl, ⟨rfl, trivial⟩⟩⟩⟩ ?_
          refine ih9 0 (k + 1) W (wd) (sz) (kd) (lm) (rm) ?_ ?_ ?_
          · omega
          · obtain ⟨rfl, rfl, rfl, rfl, rfl, rfl, rfl⟩ := h2
            rw [tk_S (vX s) (s 22) h1.1, tkS_b c29]
            exact ⟨rfl, rfl, rfl, rfl, rfl, rfl, rfl⟩
          · omega
  refine h9 _ 0 0 0 (s 6) (s 7) (s 8) (s 9) (s 10) ?_ ?_ (Nat.lt_succ_self _)
  · omega
  · exact ⟨rfl, rfl, rfl, rfl, rfl, rfl, rfl⟩

def TKM (s : Nat → Int → Int) : Nat → Int → Int := (ab_s (ab_s (ab_s (ab_s (ab_s (ab_s s 103 (fun _ => tk (vX s) (s 22) (s 104 0).toNat 0 0)) 6 (tk (vX s) (s 22) (s 104 0).toNat 1)) 7 (tk (vX s) (s 22) (s 104 0).toNat 2)) 8 (tk (vX s) (s 22) (s 104 0).toNat 3)) 9 (tk (vX s) (s 22) (s 104 0).toNat 4)) 10 (tk (vX s) (s 22) (s 104 0).toNat 5))
theorem TKM_vX (s : Nat → Int → Int) : vX (TKM s) = parD (vX s) (s 22) (s 104 0) := by
  funext k
  rcases (show k = 0 ∨ k = 1 ∨ k = 2 ∨ k = 3 ∨ k = 4 ∨ k = 5 ∨ (k = 6 ∨ k = 7 ∨ k = 8 ∨ k = 9 ∨ k = 10 ∨ k = 11) ∨ 12 ≤ k by omega) with rfl | rfl | rfl | rfl | rfl | rfl | h | h
  · funext j
    exact (tk_0 (vX s) (s 22) j (s 104 0).toNat).symm
  · rfl
  · rfl
  · rfl
  · rfl
  · rfl
  · have e := tk_more (vX s) (s 22) (k := k) (by omega) (s 104 0).toNat
    have e2 : parD (vX s) (s 22) (s 104 0) k = tk (vX s) (s 22) (s 104 0).toNat k := ab_s_ne (by omega)
    rw [e2, e]
    rcases h with rfl | rfl | rfl | rfl | rfl | rfl <;> rfl
  · rw [vX_12 h]
    by_cases h20 : k = 20
    · subst h20
      rfl
    · have e := tk_more (vX s) (s 22) (k := k) (by omega) (s 104 0).toNat
      have e2 : parD (vX s) (s 22) (s 104 0) k = tk (vX s) (s 22) (s 104 0).toNat k := ab_s_ne h20
      rw [e2, e, vX_12 h]
      rfl
