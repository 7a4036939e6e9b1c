/-! the paragraph and the settings, as the class and as the reference hold them -/
def vX (s : Nat → Int → Int) : Nat → Int → Int := fun k => match k with
  | 0 => fun _ => s 103 0
  | 1 => s 6
  | 2 => s 7
  | 3 => s 8
  | 4 => s 9
  | 5 => s 10
  | 6 => fun _ => s 100 0
  | 7 => fun _ => s 101 0
  | 8 => fun _ => s 102 0
  | 9 => s 2
  | 10 => s 3
  | _ => s 4
def vM (s : Nat → Int → Int) : Nat → Int → Int := fun k => match k with
  | 0 => fun _ => s 120 0
  | 1 => s 51
  | 2 => s 52
  | 3 => s 53
  | 4 => s 54
  | 5 => s 55
  | 6 => fun _ => s 117 0
  | 7 => fun _ => s 118 0
  | 8 => fun _ => s 119 0
  | 9 => fun k => s 50 (3 * k)
  | 10 => fun k => s 50 (3 * k + 1)
  | _ => fun k => s 50 (3 * k + 2)
/-- the class's sums over the words before a word, and its hangs -/
def RUf (d : Nat → Int → Int) (f12 f13 f14 f15 f16 f17 : Int → Int) (i : Int) : Prop :=
  (∀ j, 0 ≤ j → j ≤ i → f12 j = Sm (d 1) 0 j ∧ f13 j = Sm (fun w => d 10 (d 3 w)) 0 j ∧ f14 j = Sm (fun w => d 11 (d 3 w) - d 10 (d 3 w)) 0 j ∧ f15 j = Sm (fun w => d 10 (d 3 w) - d 9 (d 3 w)) 0 j) ∧ ∀ j, 0 ≤ j → j < i → f16 j = hL d j ∧ f17 j = hR d j
def RU (s : Nat → Int → Int) : Prop := RUf (vX s) (s 12) (s 13) (s 14) (s 15) (s 16) (s 17) (s 103 0)
theorem RU_nt {s : Nat → Int → Int} (hr : RU s) {a b : Int} (h0 : 0 ≤ a) (h1 : a ≤ b) (h2 : b < s 103 0) : s 12 (b + 1) - s 12 a + (s 13 b - s 13 a) - s 16 a - s 17 b = nt (vX s) a b := by
  obtain ⟨h3, h4⟩ := hr
  have a1 := h3 (b + 1) (by omega) (by omega)
  have a2 := h3 a h0 (by omega)
  have a3 := h3 b (by omega) (by omega)
  have a4 := h4 a h0 (by omega)
  have a5 := h4 b (by omega) h2
  have s1 := Sm_split (vX s 1) (a := 0) (b := a) (c := b + 1) h0 (by omega)
  have s2 := Sm_split (fun w => vX s 10 (vX s 3 w)) (a := 0) (b := a) (c := b) h0 h1
  unfold nt
  omega
theorem RU_st {s : Nat → Int → Int} (hr : RU s) {a b : Int} (h0 : 0 ≤ a) (h1 : a ≤ b) (h2 : b < s 103 0) : s 14 b - s 14 a = st (vX s) a b ∧ s 15 b - s 15 a = sh (vX s) a b := by
  obtain ⟨h3, h4⟩ := hr
  have a2 := h3 a h0 (by omega)
  have a3 := h3 b (by omega) (by omega)
  have s1 := Sm_split (fun w => vX s 11 (vX s 3 w) - vX s 10 (vX s 3 w)) (a := 0) (b := a) (c := b) h0 h1
  have s2 := Sm_split (fun w => vX s 10 (vX s 3 w) - vX s 9 (vX s 3 w)) (a := 0) (b := a) (c := b) h0 h1
  unfold st sh
  omega
/-- what the class answers for badness and demerits of any line -/
def xb (d : Nat → Int → Int) (a b : Int) : Int := if ps d a b = true then bd d a b else -1
def xd (d : Nat → Int → Int) (a b : Int) : Int := if ps d a b = true then dm d a b else -1

set_option maxRecDepth 20000 in
theorem c_X9_at (s : Nat → Int → Int) (q n : Nat) (f : Int → Int) (i : Int) (hq : (WW s)[q]? = some (.inl (0, n, f))) (hn : n < 2147483648) (hi : 0 ≤ i ∧ i < n) : ab_Mt yX9_at cX9_at 2 (some .int) ({ frames := 0, cells := 0, slots := 0, locals := 0 } : Room) false 0 0 [.inr (some q), .inl i] (WW s) (fun r h2 => r = some (.inl (f i)) ∧ h2 = WW s) := by
  refine ab_mk RX9 false rfl pn_X9_at (fun z => by cases z) (Nat.le_of_ble_eq_true rfl) (fun V hV => ?_)
  show V 0 [some (.inr (some q)), some (.inl i)] [] (WW s) 0 0
  refine rb_iload_n hV dX9_at_0 rfl rfl ?_
  refine rb_if_lt hV (tgt := 16) dX9_at_1 (by decide) (by first | assumption | (unfold ab_r at *; omega)) (fun c1 => absurd c1 (by omega)) (fun c1 => ?_)
  refine rb_iload_n hV dX9_at_4 rfl rfl ?_
  refine rb_aload_n hV dX9_at_5 rfl rfl ?_
  refine rb_alen hV dX9_at_6 hq (Nat.le_of_ble_eq_true rfl) ?_
  refine rb_icmp_ge hV (tgt := 16) dX9_at_7 (by decide) ⟨(by first | assumption | (unfold ab_r at *; omega)), (by first | assumption | (unfold ab_r at *; omega))⟩ (fun c7 => absurd c7 (by omega)) (fun c7 => ?_)
  refine rb_aload_n hV dX9_at_10 rfl rfl ?_
  refine rb_iload_n hV dX9_at_11 rfl rfl ?_
  refine rb_iald hV dX9_at_12 hq hn (by omega) ?_
  refine rb_goto hV (tgt := 17) dX9_at_13 (by decide) ?_
  refine rb_ret hV (r := some (.inl (f i))) dX9_at_17 rfl ⟨(Nat.le_of_ble_eq_true rfl), (Nat.le_of_ble_eq_true rfl)⟩ trivial ?_
  exact ⟨rfl, rfl⟩

set_option maxRecDepth 20000 in
theorem c_X9_isKind (s : Nat → Int → Int) (a : Int) (ha : ab_r a) : ab_Mt yX9_isKind cX9_isKind 1 (some .boolean) ({ frames := 0, cells := 0, slots := 0, locals := 0 } : Room) false 0 0 [.inl a] (WW s) (fun r h2 => r = some (.inl (if 0 ≤ a ∧ a < 3 then 1 else 0)) ∧ h2 = WW s) := by
  refine ab_mk RX9 false rfl pn_X9_isKind (fun z => by cases z) (Nat.le_of_ble_eq_true rfl) (fun V hV => ?_)
  show V 0 [some (.inl a)] [] (WW s) 0 0
  refine rb_iload_n hV dX9_isKind_0 rfl rfl ?_
  refine rb_if_lt hV (tgt := 13) dX9_isKind_1 (by decide) (by first | assumption | (unfold ab_r at *; omega)) (fun c1 => ?_) (fun c1 => ?_)
  · refine rb_iconst hV dX9_isKind_13 ?_
    refine rb_ret hV (r := some (.inl 0)) dX9_isKind_14 rfl ⟨(Nat.le_of_ble_eq_true rfl), (Nat.le_of_ble_eq_true rfl)⟩ (by first | exact Or.inl rfl | exact Or.inr rfl | omega) ?_
    exact ⟨by first | (rw [if_pos (by omega)]; done) | (rw [if_neg (by omega)]; done), rfl⟩
  · refine rb_iload_n hV dX9_isKind_4 rfl rfl ?_
    refine rb_iconst hV dX9_isKind_5 ?_
    refine rb_icmp_ge hV (tgt := 13) dX9_isKind_6 (by decide) ⟨(by first | assumption | (unfold ab_r at *; omega)), (by first | assumption | (unfold ab_r at *; omega))⟩ (fun c6 => ?_) (fun c6 => ?_)
    · refine rb_iconst hV dX9_isKind_13 ?_
      refine rb_ret hV (r := some (.inl 0)) dX9_isKind_14 rfl ⟨(Nat.le_of_ble_eq_true rfl), (Nat.le_of_ble_eq_true rfl)⟩ (by first | exact Or.inl rfl | exact Or.inr rfl | omega) ?_
      exact ⟨by first | (rw [if_pos (by omega)]; done) | (rw [if_neg (by omega)]; done), rfl⟩
    · refine rb_iconst hV dX9_isKind_9 ?_
      refine rb_goto hV (tgt := 14) dX9_isKind_10 (by decide) ?_
      refine rb_ret hV (r := some (.inl 1)) dX9_isKind_14 rfl ⟨(Nat.le_of_ble_eq_true rfl), (Nat.le_of_ble_eq_true rfl)⟩ (by first | exact Or.inl rfl | exact Or.inr rfl | omega) ?_
      exact ⟨by first | (rw [if_pos (by omega)]; done) | (rw [if_neg (by omega)]; done), rfl⟩

set_option maxRecDepth 20000 in
theorem c_X2_isEnd (s : Nat → Int → Int) (b : Int) (hb : ab_r b) (hw : 0 ≤ s 103 0 ∧ s 103 0 ≤ 60) : ab_Mt yX2_isEnd cX2_isEnd 2 (some .boolean) ({ frames := 0, cells := 0, slots := 0, locals := 0 } : Room) false 0 0 [.inr (some 11), .inl b] (WW s) (fun r h2 => r = some (.inl (if b = s 103 0 - 1 then 1 else 0)) ∧ h2 = WW s) := by
  refine ab_mk RX2 false rfl pn_X2_isEnd (fun z => by cases z) (Nat.le_of_ble_eq_true rfl) (fun V hV => ?_)
  show V 0 [some (.inr (some 11)), some (.inl b)] [] (WW s) 0 0
  refine rb_iload_n hV dX2_isEnd_0 rfl rfl ?_
  refine rb_aload_n hV dX2_isEnd_1 rfl rfl ?_
  refine rb_get hV (v := .inr (some 5)) dX2_isEnd_2 ⟨RX2, TX2, 8, rfl, (Nat.le_of_ble_eq_true rfl), lf_X2_9⟩ (gw_11 _) rfl ?_
  refine rb_get hV (v := .inl (s 103 0)) dX2_isEnd_5 ⟨RX4, TX4, 6, rfl, (Nat.le_of_ble_eq_true rfl), lf_X2_38⟩ (gw_5 _) rfl ?_
  refine rb_iconst hV dX2_isEnd_8 ?_
  refine rb_isub hV dX2_isEnd_9 ?_
  refine rb_icmp_ne hV (tgt := 17) dX2_isEnd_10 (by decide) ⟨(by first | assumption | (unfold ab_r at *; omega)), (by first | assumption | (unfold ab_r at *; omega))⟩ (fun c10 => ?_) (fun c10 => ?_)
  · refine rb_iconst hV dX2_isEnd_17 ?_
    refine rb_ret hV (r := some (.inl 0)) dX2_isEnd_18 rfl ⟨(Nat.le_of_ble_eq_true rfl), (Nat.le_of_ble_eq_true rfl)⟩ (by first | exact Or.inl rfl | exact Or.inr rfl | omega) ?_
    exact ⟨by first | (rw [if_pos (by omega)]; done) | (rw [if_neg (by omega)]; done), rfl⟩
  · refine rb_iconst hV dX2_isEnd_13 ?_
    refine rb_goto hV (tgt := 18) dX2_isEnd_14 (by decide) ?_
    refine rb_ret hV (r := some (.inl 1)) dX2_isEnd_18 rfl ⟨(Nat.le_of_ble_eq_true rfl), (Nat.le_of_ble_eq_true rfl)⟩ (by first | exact Or.inl rfl | exact Or.inr rfl | omega) ?_
    exact ⟨by first | (rw [if_pos (by omega)]; done) | (rw [if_neg (by omega)]; done), rfl⟩

set_option maxRecDepth 20000 in
theorem c_X2_naturalWidth (s : Nat → Int → Int) (a b : Int) (hp : PI (vX s)) (hr : RU s) (h : 0 ≤ a ∧ a ≤ b ∧ b < s 103 0) : ab_Mt yX2_naturalWidth cX2_naturalWidth 5 (some .int) ({ frames := 0, cells := 0, slots := 0, locals := 0 } : Room) false 0 0 [.inr (some 11), .inl a, .inl b] (WW s) (fun r h2 => r = some (.inl (nt (vX s) a b)) ∧ h2 = WW s) := by
  refine ab_mk RX2 false rfl pn_X2_naturalWidth (fun z => by cases z) (Nat.le_of_ble_eq_true rfl) (fun V hV => ?_)
  show V 0 [some (.inr (some 11)), some (.inl a), some (.inl b), none, none] [] (WW s) 0 0
  have hn : 0 ≤ s 103 0 ∧ s 103 0 ≤ 60 := hp.1
  refine rb_iload_n hV dX2_naturalWidth_0 rfl rfl ?_
  refine rb_if_lt hV (tgt := 15) dX2_naturalWidth_1 (by decide) (by first | assumption | (unfold ab_r at *; omega)) (fun c1 => absurd c1 (by omega)) (fun c1 => ?_)
  refine rb_iload_n hV dX2_naturalWidth_4 rfl rfl ?_
  refine rb_iload_n hV dX2_naturalWidth_5 rfl rfl ?_
  refine rb_icmp_lt hV (tgt := 15) dX2_naturalWidth_6 (by decide) ⟨(by first | assumption | (unfold ab_r at *; omega)), (by first | assumption | (unfold ab_r at *; omega))⟩ (fun c6 => absurd c6 (by omega)) (fun c6 => ?_)
  refine rb_iload_n hV dX2_naturalWidth_9 rfl rfl ?_
  refine rb_bipush hV dX2_naturalWidth_10 (by decide) ?_
  refine rb_icmp_lt hV (tgt := 17) dX2_naturalWidth_12 (by decide) ⟨(by first | assumption | (unfold ab_r at *; omega)), (by first | assumption | (unfold ab_r at *; omega))⟩ (fun c12 => ?_) (fun c12 => absurd c12 (by omega))
  refine rb_aload_n hV dX2_naturalWidth_17 rfl rfl ?_
  refine rb_get hV (v := .inr (some 12)) dX2_naturalWidth_18 ⟨RX2, TX2, 8, rfl, (Nat.le_of_ble_eq_true rfl), lf_X2_19⟩ (gw_11 _) rfl ?_
  refine rb_iload_n hV dX2_naturalWidth_21 rfl rfl ?_
  refine rb_iconst hV dX2_naturalWidth_22 ?_
  refine rb_iadd hV dX2_naturalWidth_23 ?_
  refine rb_iald hV (f := (s 12)) dX2_naturalWidth_24 (gw_12 _) (Nat.le_of_ble_eq_true rfl) (by omega) ?_
  refine rb_aload_n hV dX2_naturalWidth_25 rfl rfl ?_
  refine rb_get hV (v := .inr (some 12)) dX2_naturalWidth_26 ⟨RX2, TX2, 8, rfl, (Nat.le_of_ble_eq_true rfl), lf_X2_19⟩ (gw_11 _) rfl ?_
  refine rb_iload_n hV dX2_naturalWidth_29 rfl rfl ?_
  refine rb_iald hV (f := (s 12)) dX2_naturalWidth_30 (gw_12 _) (Nat.le_of_ble_eq_true rfl) (by omega) ?_
  refine rb_isub hV dX2_naturalWidth_31 ?_
  refine rb_istore_n hV (L2 := [some (.inr (some 11)), some (.inl a), some (.inl b), some (.inl ((s 12 (b + 1)) - (s 12 a))), none]) dX2_naturalWidth_32 rfl (Nat.le_of_ble_eq_true rfl) rfl ?_
  refine rb_aload_n hV dX2_naturalWidth_33 rfl rfl ?_
  refine rb_get hV (v := .inr (some 13)) dX2_naturalWidth_34 ⟨RX2, TX2, 8, rfl, (Nat.le_of_ble_eq_true rfl), lf_X2_23⟩ (gw_11 _) rfl ?_
  refine rb_iload_n hV dX2_naturalWidth_37 rfl rfl ?_
  refine rb_iald hV (f := (s 13)) dX2_naturalWidth_38 (gw_13 _) (Nat.le_of_ble_eq_true rfl) (by omega) ?_
  refine rb_aload_n hV dX2_naturalWidth_39 rfl rfl ?_
  refine rb_get hV (v := .inr (some 13)) dX2_naturalWidth_40 ⟨RX2, TX2, 8, rfl, (Nat.le_of_ble_eq_true rfl), lf_X2_23⟩ (gw_11 _) rfl ?_
  refine rb_iload_n hV dX2_naturalWidth_43 rfl rfl ?_
  refine rb_iald hV (f := (s 13)) dX2_naturalWidth_44 (gw_13 _) (Nat.le_of_ble_eq_true rfl) (by omega) ?_
  refine rb_isub hV dX2_naturalWidth_45 ?_
  refine rb_istore hV (L2 := [some (.inr (some 11)), some (.inl a), some (.inl b), some (.inl ((s 12 (b + 1)) - (s 12 a))), some (.inl ((s 13 b) - (s 13 a)))]) dX2_naturalWidth_46 (Nat.le_of_ble_eq_true rfl) rfl ?_
  refine rb_iload_n hV dX2_naturalWidth_48 rfl rfl ?_
  refine rb_iload hV dX2_naturalWidth_49 rfl ?_
  refine rb_iadd hV dX2_naturalWidth_51 ?_
  refine rb_aload_n hV dX2_naturalWidth_52 rfl rfl ?_
  refine rb_get hV (v := .inr (some 16)) dX2_naturalWidth_53 ⟨RX2, TX2, 8, rfl, (Nat.le_of_ble_eq_true rfl), lf_X2_32⟩ (gw_11 _) rfl ?_
  refine rb_iload_n hV dX2_naturalWidth_56 rfl rfl ?_
  refine rb_iald hV (f := (s 16)) dX2_naturalWidth_57 (gw_16 _) (Nat.le_of_ble_eq_true rfl) (by omega) ?_
  refine rb_isub hV dX2_naturalWidth_58 ?_
  refine rb_aload_n hV dX2_naturalWidth_59 rfl rfl ?_
  refine rb_get hV (v := .inr (some 17)) dX2_naturalWidth_60 ⟨RX2, TX2, 8, rfl, (Nat.le_of_ble_eq_true rfl), lf_X2_35⟩ (gw_11 _) rfl ?_
  refine rb_iload_n hV dX2_naturalWidth_63 rfl rfl ?_
  refine rb_iald hV (f := (s 17)) dX2_naturalWidth_64 (gw_17 _) (Nat.le_of_ble_eq_true rfl) (by omega) ?_
  refine rb_isub hV dX2_naturalWidth_65 ?_
  refine rb_ret hV (r := some (.inl (((((s 12 (b + 1)) - (s 12 a)) + ((s 13 b) - (s 13 a))) - (s 16 a)) - (s 17 b)))) dX2_naturalWidth_66 rfl ⟨(Nat.le_of_ble_eq_true rfl), (Nat.le_of_ble_eq_true rfl)⟩ trivial ?_
  exact ⟨congrArg (fun z : Int => some (Sum.inl z)) (RU_nt hr h.1 h.2.1 h.2.2), rfl⟩
