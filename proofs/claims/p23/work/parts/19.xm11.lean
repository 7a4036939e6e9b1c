/-! strings and signs -/
def bt (i : Nat) (j : Int) : Int := ((xsB.getD i []).getD j.toNat 0).toInt
theorem xs_byte : ∀ i, i < 16 → ∀ j, j < xsL.getD i 0 → 0 ≤ ((xsB.getD i []).getD j 0).toInt ∧ ((xsB.getD i []).getD j 0).toInt ≤ 127 := by decide +kernel
theorem xs_len : ∀ i, i < 16 → xsL.getD i 0 ≤ 20 := by decide +kernel
theorem bt_b {i : Nat} (hi : i < 16) {j : Int} (h : 0 ≤ j ∧ j < ((xsL.getD i 0 : Nat) : Int)) : 0 ≤ bt i j ∧ bt i j ≤ 127 := xs_byte i hi j.toNat (by omega)
theorem and255 {z : Int} (h : 0 ≤ z ∧ z ≤ 127) : ab_i z &&& ab_i 255 = ab_i z := by
  have k : ∀ n : Nat, n < 128 → ab_i (n : Int) &&& ab_i 255 = ab_i (n : Int) := by decide +kernel
  have := k z.toNat (by omega)
  rwa [show ((z.toNat : Nat) : Int) = z by omega] at this
theorem i2b256 {z : Int} (h : 0 ≤ z ∧ z ≤ 255) : (ab_i z).toInt8.toInt32 = ab_i (if z < 128 then z else z - 256) := by
  have k : ∀ n : Nat, n < 256 → (ab_i (n : Int)).toInt8.toInt32 = ab_i (if (n : Int) < 128 then (n : Int) else (n : Int) - 256) := by decide +kernel
  have := k z.toNat (by omega)
  rwa [show ((z.toNat : Nat) : Int) = z by omega] at this
theorem rb_i2bx {cc : ByteArray} {own : String} {nL : Nat} {R : Room} {al : Bool} {n0 : Nat} {ini : Bool} {sc : Option (Nat × (Int → Int))} {ret : Option FieldType} {post : Option ab_V → List ab_E → Prop} {mc ms : Nat} {V : ab_J} {pc : Nat} {L : ab_L} {st : List ab_V} {h : List ab_E} {kc ks : Nat}
    (hV : ab_Cl cc own nL R al n0 ini sc ret post mc ms V) {x y : Int} (hd : decode cc pc = .ok (.i2b, 1)) (hy : (ab_i x).toInt8.toInt32 = ab_i y) (k : V (pc + 1) L (.inl y :: st) h kc ks) : V pc L (.inl x :: st) h kc ks := by
  obtain ⟨p, l, e, s, m, args, below, meth, c, D, cA, A0, Af, Q, ⟨hx, hb, hml, hown, hts, hK, hAf, hX, hini, hsc, hret⟩, rfl⟩ := hV
  intro A H locs ls hag hL hP hD hS hl
  exact lv_i2b (v := ab_i y) hx hb hd hy (k A H locs ls hag hL hP hD hS hl)
/-- a literal has the sign -/
def hasC (i : Nat) (z : Int) : Prop := ∃ j, 0 ≤ j ∧ j < ((xsL.getD i 0 : Nat) : Int) ∧ bt i j = z

set_option maxRecDepth 20000 in
theorem c_J0_isLatin1_aae02 (s : Nat → Int → Int) (i : Nat) (hi : i < 16) : ab_Mt yJ0_isLatin1_aae02 cJ0_isLatin1_aae02 1 (some .boolean) ({ frames := 0, cells := 0, slots := 0, locals := 0 } : Room) false 0 0 [.inr (some (1000 + i))] (WW s) (fun r h2 => r = some (.inl 1) ∧ h2 = WW s) := by
  refine ab_mk RJ0 false rfl pn_J0_isLatin1_aae02 (fun z => by cases z) (Nat.le_of_ble_eq_true rfl) (fun V hV => ?_)
  show V 0 [some (.inr (some (1000 + i)))] [] (WW s) 0 0
  refine rb_getCS hV dJ0_isLatin1_aae02_0 lf_J0_38 ?_
  refine rb_if_eq hV (tgt := 17) dJ0_isLatin1_aae02_3 (by decide) (by first | assumption | (unfold ab_r at *; omega)) (fun z => absurd z (by decide)) (fun _ => ?_)
  refine rb_aload_n hV dJ0_isLatin1_aae02_6 rfl rfl ?_
  refine rb_getSc hV dJ0_isLatin1_aae02_7 (by omega) lf_J0_15 ?_
  refine rb_if_ne hV (tgt := 17) dJ0_isLatin1_aae02_10 (by decide) (by first | assumption | (unfold ab_r at *; omega)) (fun z => absurd z (by decide)) (fun _ => ?_)
  refine rb_iconst hV dJ0_isLatin1_aae02_13 ?_
  refine rb_goto hV (tgt := 18) dJ0_isLatin1_aae02_14 (by decide) ?_
  refine rb_ret hV (r := some (.inl 1)) dJ0_isLatin1_aae02_18 rfl ⟨(Nat.le_of_ble_eq_true rfl), (Nat.le_of_ble_eq_true rfl)⟩ (by first | exact Or.inl rfl | exact Or.inr rfl | omega) ?_
  exact ⟨rfl, rfl⟩

set_option maxRecDepth 20000 in
theorem c_J0_coder_7d493 (s : Nat → Int → Int) (i : Nat) (hi : i < 16) : ab_Mt yJ0_coder_7d493 cJ0_coder_7d493 1 (some .byte) ({ frames := 0, cells := 0, slots := 0, locals := 0 } : Room) false 0 0 [.inr (some (1000 + i))] (WW s) (fun r h2 => r = some (.inl 0) ∧ h2 = WW s) := by
  refine ab_mk RJ0 false rfl pn_J0_coder_7d493 (fun z => by cases z) (Nat.le_of_ble_eq_true rfl) (fun V hV => ?_)
  show V 0 [some (.inr (some (1000 + i)))] [] (WW s) 0 0
  refine rb_getCS hV dJ0_coder_7d493_0 lf_J0_38 ?_
  refine rb_if_eq hV (tgt := 13) dJ0_coder_7d493_3 (by decide) (by first | assumption | (unfold ab_r at *; omega)) (fun z => absurd z (by decide)) (fun _ => ?_)
  refine rb_aload_n hV dJ0_coder_7d493_6 rfl rfl ?_
  refine rb_getSc hV dJ0_coder_7d493_7 (by omega) lf_J0_15 ?_
  refine rb_goto hV (tgt := 14) dJ0_coder_7d493_10 (by decide) ?_
  refine rb_ret hV (r := some (.inl 0)) dJ0_coder_7d493_14 rfl ⟨(Nat.le_of_ble_eq_true rfl), (Nat.le_of_ble_eq_true rfl)⟩ (show -128 ≤ (0:Int) ∧ (0:Int) < 128 by omega) ?_
  exact ⟨rfl, rfl⟩

set_option maxRecDepth 20000 in
theorem c_J0_length_8abf5 (s : Nat → Int → Int) (i : Nat) (hi : i < 16) : ab_Mt yJ0_length_8abf5 cJ0_length_8abf5 1 (some .int) ({ frames := 1, cells := 0, slots := 0, locals := 20 } : Room) false 0 0 [.inr (some (1000 + i))] (WW s) (fun r h2 => r = some (.inl ((xsL.getD i 0 : Nat) : Int)) ∧ h2 = WW s) := by
  refine ab_mk RJ0 false rfl pn_J0_length_8abf5 (fun z => by cases z) (Nat.le_of_ble_eq_true rfl) (fun V hV => ?_)
  show V 0 [some (.inr (some (1000 + i)))] [] (WW s) 0 0
  refine rb_aload_n hV dJ0_length_8abf5_0 rfl rfl ?_
  refine rb_getSv hV dJ0_length_8abf5_1 (by omega) lf_J0_9 ?_
  refine rb_lenS hV dJ0_length_8abf5_4 (by omega) ?_
  refine rb_aload_n hV dJ0_length_8abf5_5 rfl rfl ?_
  refine rb_callV hV (rest := [.inl ((xsL.getD i 0 : Nat) : Int)]) dJ0_length_8abf5_6 (c_J0_coder_7d493 s i hi) lk_J0_335 rfl (Or.inr ⟨rfl, _, (by omega), rfl⟩) rfl ⟨rfl, rfl, (Nat.le_of_ble_eq_true rfl), (Nat.le_of_ble_eq_true rfl), (Nat.le_of_ble_eq_true rfl), (Nat.le_of_ble_eq_true rfl)⟩ (Nat.le_of_ble_eq_true rfl) (fun r9 h9 p9 => ?_)
  obtain ⟨rfl, rfl⟩ := p9
  show V 9 [some (.inr (some (1000 + i)))] [.inl 0, .inl ((xsL.getD i 0 : Nat) : Int)] (WW s) 0 0
  refine rb_ishr0 hV dJ0_length_8abf5_9 ?_
  refine rb_ret hV (r := some (.inl ((xsL.getD i 0 : Nat) : Int))) dJ0_length_8abf5_10 rfl ⟨(Nat.le_of_ble_eq_true rfl), (Nat.le_of_ble_eq_true rfl)⟩ trivial ?_
  exact ⟨rfl, rfl⟩

set_option maxRecDepth 20000 in
theorem c_J3_checkIndex_8e157 (s : Nat → Int → Int) (a n : Int) (fm : ab_V) (ha : 0 ≤ a ∧ a < n) (hn : n ≤ 1000) : ab_Mt yJ3_checkIndex_8e157 cJ3_checkIndex_8e157 3 (some .int) ({ frames := 0, cells := 0, slots := 0, locals := 0 } : Room) false 0 0 [.inl a, .inl n, fm] (WW s) (fun r h2 => r = some (.inl a) ∧ h2 = WW s) := by
  refine ab_mk RJ3 false rfl pn_J3_checkIndex_8e157 (fun z => by cases z) (Nat.le_of_ble_eq_true rfl) (fun V hV => ?_)
  show V 0 [some (.inl a), some (.inl n), some (fm)] [] (WW s) 0 0
  refine rb_iload_n hV dJ3_checkIndex_8e157_0 rfl rfl ?_
  refine rb_if_lt hV (tgt := 9) dJ3_checkIndex_8e157_1 (by decide) (by first | assumption | (unfold ab_r at *; omega)) (fun c1 => absurd c1 (by omega)) (fun c1 => ?_)
  refine rb_iload_n hV dJ3_checkIndex_8e157_4 rfl rfl ?_
  refine rb_iload_n hV dJ3_checkIndex_8e157_5 rfl rfl ?_
  refine rb_icmp_lt hV (tgt := 16) dJ3_checkIndex_8e157_6 (by decide) ⟨(by first | assumption | (unfold ab_r at *; omega)), (by first | assumption | (unfold ab_r at *; omega))⟩ (fun c6 => ?_) (fun c6 => absurd c6 (by omega))
  refine rb_iload_n hV dJ3_checkIndex_8e157_16 rfl rfl ?_
  refine rb_ret hV (r := some (.inl a)) dJ3_checkIndex_8e157_17 rfl ⟨(Nat.le_of_ble_eq_true rfl), (Nat.le_of_ble_eq_true rfl)⟩ trivial ?_
  exact ⟨rfl, rfl⟩

set_option maxRecDepth 20000 in
theorem c_J0_checkIndex_df160 (s : Nat → Int → Int) (a n : Int) (ha : 0 ≤ a ∧ a < n) (hn : n ≤ 1000) : ab_Mt yJ0_checkIndex_df160 cJ0_checkIndex_df160 2 none ({ frames := 1, cells := 0, slots := 0, locals := 22 } : Room) false 0 0 [.inl a, .inl n] (WW s) (fun r h2 => r = none ∧ h2 = WW s) := by
  refine ab_mk RJ0 false rfl pn_J0_checkIndex_df160 (fun z => by cases z) (Nat.le_of_ble_eq_true rfl) (fun V hV => ?_)
  show V 0 [some (.inl a), some (.inl n)] [] (WW s) 0 0
  refine rb_iload_n hV dJ0_checkIndex_df160_0 rfl rfl ?_
  refine rb_iload_n hV dJ0_checkIndex_df160_1 rfl rfl ?_
  refine rb_getSF hV dJ0_checkIndex_df160_2 lf_J0_1053 (fun fm => ?_)
  refine rb_callS hV (rest := []) dJ0_checkIndex_df160_5 (c_J3_checkIndex_8e157 s a n fm (by omega) (by omega)) lk_J0_1059 rfl rfl ⟨rfl, rfl, (Nat.le_of_ble_eq_true rfl), (Nat.le_of_ble_eq_true rfl), (Nat.le_of_ble_eq_true rfl), (Nat.le_of_ble_eq_true rfl)⟩ (Nat.le_of_ble_eq_true rfl) (fun r9 h9 p9 => ?_)
  obtain ⟨rfl, rfl⟩ := p9
  show V 8 [some (.inl a), some (.inl n)] [.inl a] (WW s) 0 0
  refine rb_pop hV dJ0_checkIndex_df160_8 ?_
  refine rb_ret hV (r := none) dJ0_checkIndex_df160_9 rfl ⟨(Nat.le_of_ble_eq_true rfl), (Nat.le_of_ble_eq_true rfl)⟩ trivial ?_
  exact ⟨rfl, rfl⟩

set_option maxRecDepth 20000 in
theorem c_J1_charAt_3b067 (s : Nat → Int → Int) (i : Nat) (hi : i < 16) (k : Int) (hk : 0 ≤ k ∧ k < ((xsL.getD i 0 : Nat) : Int)) : ab_Mt yJ1_charAt_3b067 cJ1_charAt_3b067 2 (some .char) ({ frames := 2, cells := 0, slots := 0, locals := 43 } : Room) false 0 0 [.inr (some (2000 + i)), .inl k] (WW s) (fun r h2 => r = some (.inl (bt i k)) ∧ h2 = WW s) := by
  refine ab_mk RJ1 false rfl pn_J1_charAt_3b067 (fun z => by cases z) (Nat.le_of_ble_eq_true rfl) (fun V hV => ?_)
  show V 0 [some (.inr (some (2000 + i))), some (.inl k)] [] (WW s) 0 0
  have hb := bt_b hi hk
  have hle := xs_len i hi
  refine rb_iload_n hV dJ1_charAt_3b067_0 rfl rfl ?_
  refine rb_aload_n hV dJ1_charAt_3b067_1 rfl rfl ?_
  refine rb_lenS hV dJ1_charAt_3b067_2 (by omega) ?_
  refine rb_callS hV (rest := []) dJ1_charAt_3b067_3 (c_J0_checkIndex_df160 s k ((xsL.getD i 0 : Nat) : Int) (by omega) (by omega)) lk_J1_9 rfl rfl ⟨rfl, rfl, (Nat.le_of_ble_eq_true rfl), (Nat.le_of_ble_eq_true rfl), (Nat.le_of_ble_eq_true rfl), (Nat.le_of_ble_eq_true rfl)⟩ (Nat.le_of_ble_eq_true rfl) (fun r9 h9 p9 => ?_)
  obtain ⟨rfl, rfl⟩ := p9
  show V 6 [some (.inr (some (2000 + i))), some (.inl k)] [] (WW s) 0 0
  refine rb_aload_n hV dJ1_charAt_3b067_6 rfl rfl ?_
  refine rb_iload_n hV dJ1_charAt_3b067_7 rfl rfl ?_
  refine rb_baldS hV dJ1_charAt_3b067_8 (by omega) (by omega) ?_
  refine rb_sipush hV dJ1_charAt_3b067_9 (by decide) ?_
  refine rb_iand hV (z := (bt i k)) dJ1_charAt_3b067_12 (and255 hb) ?_
  refine rb_i2c hV dJ1_charAt_3b067_13 ?_
  refine rb_ret hV (r := some (.inl ((bt i k) % 65536))) dJ1_charAt_3b067_14 rfl ⟨(Nat.le_of_ble_eq_true rfl), (Nat.le_of_ble_eq_true rfl)⟩ (show 0 ≤ bt i k % 65536 ∧ bt i k % 65536 < 65536 by omega) ?_
  exact ⟨congrArg (fun z : Int => some (Sum.inl z)) (show bt i k % 65536 = bt i k by omega), rfl⟩

set_option maxRecDepth 20000 in
theorem c_J0_charAt_5068e (s : Nat → Int → Int) (i : Nat) (hi : i < 16) (k : Int) (hk : 0 ≤ k ∧ k < ((xsL.getD i 0 : Nat) : Int)) : ab_Mt yJ0_charAt_5068e cJ0_charAt_5068e 2 (some .char) ({ frames := 3, cells := 0, slots := 0, locals := 64 } : Room) false 0 0 [.inr (some (1000 + i)), .inl k] (WW s) (fun r h2 => r = some (.inl (bt i k)) ∧ h2 = WW s) := by
  refine ab_mk RJ0 false rfl pn_J0_charAt_5068e (fun z => by cases z) (Nat.le_of_ble_eq_true rfl) (fun V hV => ?_)
  show V 0 [some (.inr (some (1000 + i))), some (.inl k)] [] (WW s) 0 0
  have hb := bt_b hi hk
  refine rb_aload_n hV dJ0_charAt_5068e_0 rfl rfl ?_
  refine rb_callV hV (rest := []) dJ0_charAt_5068e_1 (c_J0_isLatin1_aae02 s i hi) lk_J0_492 rfl (Or.inr ⟨rfl, _, (by omega), rfl⟩) rfl ⟨rfl, rfl, (Nat.le_of_ble_eq_true rfl), (Nat.le_of_ble_eq_true rfl), (Nat.le_of_ble_eq_true rfl), (Nat.le_of_ble_eq_true rfl)⟩ (Nat.le_of_ble_eq_true rfl) (fun r9 h9 p9 => ?_)
  obtain ⟨rfl, rfl⟩ := p9
  show V 4 [some (.inr (some (1000 + i))), some (.inl k)] [.inl 1] (WW s) 0 0
  refine rb_if_eq hV (tgt := 16) dJ0_charAt_5068e_4 (by decide) (by first | assumption | (unfold ab_r at *; omega)) (fun z => absurd z (by decide)) (fun _ => ?_)
  refine rb_aload_n hV dJ0_charAt_5068e_7 rfl rfl ?_
  refine rb_getSv hV dJ0_charAt_5068e_8 (by omega) lf_J0_9 ?_
  refine rb_iload_n hV dJ0_charAt_5068e_11 rfl rfl ?_
  refine rb_callS hV (rest := []) dJ0_charAt_5068e_12 (c_J1_charAt_3b067 s i hi k (by omega)) lk_J0_495 rfl rfl ⟨rfl, rfl, (Nat.le_of_ble_eq_true rfl), (Nat.le_of_ble_eq_true rfl), (Nat.le_of_ble_eq_true rfl), (Nat.le_of_ble_eq_true rfl)⟩ (Nat.le_of_ble_eq_true rfl) (fun r9 h9 p9 => ?_)
  obtain ⟨rfl, rfl⟩ := p9
  show V 15 [some (.inr (some (1000 + i))), some (.inl k)] [.inl (bt i k)] (WW s) 0 0
  refine rb_ret hV (r := some (.inl (bt i k))) dJ0_charAt_5068e_15 rfl ⟨(Nat.le_of_ble_eq_true rfl), (Nat.le_of_ble_eq_true rfl)⟩ (show 0 ≤ bt i k ∧ bt i k < 65536 by omega) ?_
  exact ⟨rfl, rfl⟩

set_option maxRecDepth 20000 in
theorem c_J1_canEncode_9a6ad (s : Nat → Int → Int) (z : Int) (hz : ab_r z) : ab_Mt yJ1_canEncode_9a6ad cJ1_canEncode_9a6ad 1 (some .boolean) ({ frames := 0, cells := 0, slots := 0, locals := 0 } : Room) false 0 0 [.inl z] (WW s) (fun r h2 => r = some (.inl (if 0 ≤ z ∧ z ≤ 255 then 1 else 0)) ∧ h2 = WW s) := by
  refine ab_mk RJ1 false rfl pn_J1_canEncode_9a6ad (fun z => by cases z) (Nat.le_of_ble_eq_true rfl) (fun V hV => ?_)
  show V 0 [some (.inl z)] [] (WW s) 0 0
  refine rb_iload_n hV dJ1_canEncode_9a6ad_0 rfl rfl ?_
  refine rb_if_lt hV (tgt := 15) dJ1_canEncode_9a6ad_1 (by decide) (by first | assumption | (unfold ab_r at *; omega)) (fun c1 => ?_) (fun c1 => ?_)
  · refine rb_iconst hV dJ1_canEncode_9a6ad_15 ?_
    refine rb_ret hV (r := some (.inl 0)) dJ1_canEncode_9a6ad_16 rfl ⟨(Nat.le_of_ble_eq_true rfl), (Nat.le_of_ble_eq_true rfl)⟩ (by first | exact Or.inl rfl | exact Or.inr rfl | omega) ?_
    exact ⟨by first | (rw [if_pos (by omega)]; done) | (rw [if_neg (by omega)]; done), rfl⟩
  · refine rb_iload_n hV dJ1_canEncode_9a6ad_4 rfl rfl ?_
    refine rb_sipush hV dJ1_canEncode_9a6ad_5 (by decide) ?_
    refine rb_icmp_gt hV (tgt := 15) dJ1_canEncode_9a6ad_8 (by decide) ⟨(by first | assumption | (unfold ab_r at *; omega)), (by first | assumption | (unfold ab_r at *; omega))⟩ (fun c8 => ?_) (fun c8 => ?_)
    · refine rb_iconst hV dJ1_canEncode_9a6ad_15 ?_
      refine rb_ret hV (r := some (.inl 0)) dJ1_canEncode_9a6ad_16 rfl ⟨(Nat.le_of_ble_eq_true rfl), (Nat.le_of_ble_eq_true rfl)⟩ (by first | exact Or.inl rfl | exact Or.inr rfl | omega) ?_
      exact ⟨by first | (rw [if_pos (by omega)]; done) | (rw [if_neg (by omega)]; done), rfl⟩
    · refine rb_iconst hV dJ1_canEncode_9a6ad_11 ?_
      refine rb_goto hV (tgt := 16) dJ1_canEncode_9a6ad_12 (by decide) ?_
      refine rb_ret hV (r := some (.inl 1)) dJ1_canEncode_9a6ad_16 rfl ⟨(Nat.le_of_ble_eq_true rfl), (Nat.le_of_ble_eq_true rfl)⟩ (by first | exact Or.inl rfl | exact Or.inr rfl | omega) ?_
      exact ⟨by first | (rw [if_pos (by omega)]; done) | (rw [if_neg (by omega)]; done), rfl⟩

set_option maxRecDepth 20000 in
theorem c_J1_indexOfChar_4cfef (s : Nat → Int → Int) (i : Nat) (hi : i < 16) (z n : Int) (hz : 0 ≤ z ∧ z ≤ 255) (hn : n = ((xsL.getD i 0 : Nat) : Int)) : ab_Mt yJ1_indexOfChar_4cfef cJ1_indexOfChar_4cfef 6 (some .int) ({ frames := 0, cells := 0, slots := 0, locals := 0 } : Room) false 0 0 [.inr (some (2000 + i)), .inl z, .inl 0, .inl n] (WW s) (fun r h2 => ∃ v, r = some (.inl v) ∧ h2 = WW s ∧ (((0 ≤ v ∧ v ≤ 1000) ∧ hasC i z) ∨ (v = -1 ∧ ¬ hasC i z))) := by
  refine ab_mk RJ1 false rfl pn_J1_indexOfChar_4cfef (fun z => by cases z) (Nat.le_of_ble_eq_true rfl) (fun V hV => ?_)
  show V 0 [some (.inr (some (2000 + i))), some (.inl z), some (.inl 0), some (.inl n), none, none] [] (WW s) 0 0
  have hle := xs_len i hi
  refine rb_iload_n hV dJ1_indexOfChar_4cfef_0 rfl rfl ?_
  refine rb_i2bx hV (y := (if z < 128 then z else z - 256)) dJ1_indexOfChar_4cfef_1 (i2b256 hz) ?_
  refine rb_istore hV (L2 := [some (.inr (some (2000 + i))), some (.inl z), some (.inl 0), some (.inl n), some (.inl (if z < 128 then z else z - 256)), none]) dJ1_indexOfChar_4cfef_2 (Nat.le_of_ble_eq_true rfl) rfl ?_
  refine rb_iload_n hV dJ1_indexOfChar_4cfef_4 rfl rfl ?_
  refine rb_istore hV (L2 := [some (.inr (some (2000 + i))), some (.inl z), some (.inl 0), some (.inl n), some (.inl (if z < 128 then z else z - 256)), some (.inl 0)]) dJ1_indexOfChar_4cfef_5 (Nat.le_of_ble_eq_true rfl) rfl ?_
  have h7 : ∀ (n7 : Nat) (j : Int), (0 ≤ j ∧ j ≤ n) → (∀ q, 0 ≤ q → q < j → ¬ bt i q = (if z < 128 then z else z - 256)) → ((n - j).toNat) < n7 → V 7 [some (.inr (some (2000 + i))), some (.inl z), some (.inl 0), some (.inl n), some (.inl (if z < 128 then z else z - 256)), some (.inl j)] [] (WW s) 0 0 := by
    intro n7
    induction n7 with
    | zero => intro j h1 h2 hm; omega
    | succ n7 ih7 =>
      intro j h1 h2 hm
      refine rb_iload hV dJ1_indexOfChar_4cfef_7 rfl ?_
      refine rb_iload_n hV dJ1_indexOfChar_4cfef_9 rfl rfl ?_
      refine rb_icmp_ge hV (tgt := 31) dJ1_indexOfChar_4cfef_10 (by decide) ⟨(by first | assumption | (unfold ab_r at *; omega)), (by first | assumption | (unfold ab_r at *; omega))⟩ (fun c10 => ?_) (fun c10 => ?_)
      · refine rb_iconst hV dJ1_indexOfChar_4cfef_31 ?_
        refine rb_ret hV (r := some (.inl (-1))) dJ1_indexOfChar_4cfef_32 rfl ⟨(Nat.le_of_ble_eq_true rfl), (Nat.le_of_ble_eq_true rfl)⟩ trivial ?_
        refine ⟨-1, rfl, rfl, Or.inr ⟨rfl, fun ⟨q, q1, q2, q3⟩ => ?_⟩⟩
        have hb := bt_b hi ⟨q1, q2⟩
        have hq := h2 q q1 (by omega)
        rw [q3] at hb hq
        rw [if_pos (by omega)] at hq
        exact hq rfl
      · refine rb_aload_n hV dJ1_indexOfChar_4cfef_13 rfl rfl ?_
        refine rb_iload hV dJ1_indexOfChar_4cfef_14 rfl ?_
        refine rb_baldS hV dJ1_indexOfChar_4cfef_16 (by omega) (by omega) ?_
        refine rb_iload hV dJ1_indexOfChar_4cfef_17 rfl ?_
        refine rb_icmp_ne hV (tgt := 25) dJ1_indexOfChar_4cfef_19 (by decide) ⟨(by have hb := bt_b hi (j := j) ⟨h1.1, by omega⟩; unfold bt at hb; unfold ab_r; omega), (by unfold ab_r; split <;> omega)⟩ (fun c19 => ?_) (fun c19 => ?_)
        · refine rb_iinc hV (L2 := [some (.inr (some (2000 + i))), some (.inl z), some (.inl 0), some (.inl n), some (.inl (if z < 128 then z else z - 256)), some (.inl (j + 1))]) dJ1_indexOfChar_4cfef_25 rfl rfl rfl ?_
          refine rb_goto hV (tgt := 7) dJ1_indexOfChar_4cfef_28 (by decide) ?_
          refine ih7 (j + 1) ?_ ?_ ?_
          · omega
          · intro q q1 q2
            by_cases hq : q = j
            · rw [hq]
              exact c19
            · exact h2 q q1 (by omega)
          · omega
        · refine rb_iload hV dJ1_indexOfChar_4cfef_22 rfl ?_
          refine rb_ret hV (r := some (.inl j)) dJ1_indexOfChar_4cfef_24 rfl ⟨(Nat.le_of_ble_eq_true rfl), (Nat.le_of_ble_eq_true rfl)⟩ trivial ?_
          have hb := bt_b hi (j := j) ⟨h1.1, by omega⟩
          refine ⟨j, rfl, rfl, Or.inl ⟨⟨h1.1, by omega⟩, j, h1.1, by omega, ?_⟩⟩
          have e : bt i j = (if z < 128 then z else z - 256) := c19
          split at e <;> omega
  refine h7 _ 0 ?_ ?_ (Nat.lt_succ_self _)
  · omega
  · intro q q1 q2; omega

set_option maxRecDepth 20000 in
theorem c_J1_indexOf_4cfef (s : Nat → Int → Int) (i : Nat) (hi : i < 16) (z n : Int) (hz : ab_r z) (hn : n = ((xsL.getD i 0 : Nat) : Int)) : ab_Mt yJ1_indexOf_4cfef cJ1_indexOf_4cfef 4 (some .int) ({ frames := 1, cells := 0, slots := 0, locals := 25 } : Room) false 0 0 [.inr (some (2000 + i)), .inl z, .inl 0, .inl n] (WW s) (fun r h2 => ∃ v, r = some (.inl v) ∧ h2 = WW s ∧ (((0 ≤ v ∧ v ≤ 1000) ∧ hasC i z) ∨ (v = -1 ∧ ¬ hasC i z))) := by
  refine ab_mk RJ1 false rfl pn_J1_indexOf_4cfef (fun z => by cases z) (Nat.le_of_ble_eq_true rfl) (fun V hV => ?_)
  show V 0 [some (.inr (some (2000 + i))), some (.inl z), some (.inl 0), some (.inl n)] [] (WW s) 0 0
  have hle := xs_len i hi
  refine rb_iload_n hV dJ1_indexOf_4cfef_0 rfl rfl ?_
  refine rb_callS hV (rest := []) dJ1_indexOf_4cfef_1 (c_J1_canEncode_9a6ad s z (by unfold ab_r at *; omega)) lk_J1_88 rfl rfl ⟨rfl, rfl, (Nat.le_of_ble_eq_true rfl), (Nat.le_of_ble_eq_true rfl), (Nat.le_of_ble_eq_true rfl), (Nat.le_of_ble_eq_true rfl)⟩ (Nat.le_of_ble_eq_true rfl) (fun r9 h9 p9 => ?_)
  obtain ⟨rfl, rfl⟩ := p9
  show V 4 [some (.inr (some (2000 + i))), some (.inl z), some (.inl 0), some (.inl n)] [.inl (if 0 ≤ z ∧ z ≤ 255 then 1 else 0)] (WW s) 0 0
  by_cases e1 : 0 ≤ z ∧ z ≤ 255
  · rw [if_pos e1]
    show V 4 [some (.inr (some (2000 + i))), some (.inl z), some (.inl 0), some (.inl n)] [.inl 1] (WW s) 0 0
    refine rb_if_ne hV (tgt := 9) dJ1_indexOf_4cfef_4 (by decide) (by first | assumption | (unfold ab_r at *; omega)) (fun _ => ?_) (fun z => absurd z (by decide))
    refine rb_iload_n hV dJ1_indexOf_4cfef_9 rfl rfl ?_
    refine rb_iconst hV dJ1_indexOf_4cfef_10 ?_
    refine rb_mmax hV dJ1_indexOf_4cfef_11 lk_J1_92 ⟨(by first | assumption | (unfold ab_r at *; omega)), (by first | assumption | (unfold ab_r at *; omega))⟩ (Nat.le_of_ble_eq_true rfl) (Nat.le_of_ble_eq_true rfl) ⟨(Nat.le_of_ble_eq_true rfl), (Nat.le_of_ble_eq_true rfl)⟩ ?_
    refine rb_istore_n hV (L2 := [some (.inr (some (2000 + i))), some (.inl z), some (.inl (max 0 0)), some (.inl n)]) dJ1_indexOf_4cfef_14 rfl (Nat.le_of_ble_eq_true rfl) rfl ?_
    refine rb_iload_n hV dJ1_indexOf_4cfef_15 rfl rfl ?_
    refine rb_aload_n hV dJ1_indexOf_4cfef_16 rfl rfl ?_
    refine rb_lenS hV dJ1_indexOf_4cfef_17 (by omega) ?_
    refine rb_mmin hV dJ1_indexOf_4cfef_18 lk_J1_38 ⟨(by first | assumption | (unfold ab_r at *; omega)), (by first | assumption | (unfold ab_r at *; omega))⟩ (Nat.le_of_ble_eq_true rfl) (Nat.le_of_ble_eq_true rfl) ⟨(Nat.le_of_ble_eq_true rfl), (Nat.le_of_ble_eq_true rfl)⟩ ?_
    refine rb_istore_n hV (L2 := [some (.inr (some (2000 + i))), some (.inl z), some (.inl (max 0 0)), some (.inl (min n ((xsL.getD i 0 : Nat) : Int)))]) dJ1_indexOf_4cfef_21 rfl (Nat.le_of_ble_eq_true rfl) rfl ?_
    refine rb_iload_n hV dJ1_indexOf_4cfef_22 rfl rfl ?_
    refine rb_iload_n hV dJ1_indexOf_4cfef_23 rfl rfl ?_
    refine rb_icmp_lt hV (tgt := 29) dJ1_indexOf_4cfef_24 (by decide) ⟨(by first | assumption | (unfold ab_r at *; omega)), (by first | assumption | (unfold ab_r at *; omega))⟩ (fun c24 => ?_) (fun c24 => ?_)
    · refine rb_aload_n hV dJ1_indexOf_4cfef_29 rfl rfl ?_
      refine rb_iload_n hV dJ1_indexOf_4cfef_30 rfl rfl ?_
      refine rb_iload_n hV dJ1_indexOf_4cfef_31 rfl rfl ?_
      refine rb_iload_n hV dJ1_indexOf_4cfef_32 rfl rfl ?_
      refine rb_callS hV (rest := []) dJ1_indexOf_4cfef_33 (c_J1_indexOfChar_4cfef s i hi z (min n ((xsL.getD i 0 : Nat) : Int)) (by omega) (by omega)) lk_J1_95 rfl rfl ⟨rfl, rfl, (Nat.le_of_ble_eq_true rfl), (Nat.le_of_ble_eq_true rfl), (Nat.le_of_ble_eq_true rfl), (Nat.le_of_ble_eq_true rfl)⟩ (Nat.le_of_ble_eq_true rfl) (fun r9 h9 p9 => ?_)
      obtain ⟨v9, rfl, rfl, hv9⟩ := p9
      show V 36 [some (.inr (some (2000 + i))), some (.inl z), some (.inl (max 0 0)), some (.inl (min n ((xsL.getD i 0 : Nat) : Int)))] [.inl v9] (WW s) 0 0
      refine rb_ret hV (r := some (.inl v9)) dJ1_indexOf_4cfef_36 rfl ⟨(Nat.le_of_ble_eq_true rfl), (Nat.le_of_ble_eq_true rfl)⟩ trivial ?_
      exact ⟨v9, rfl, rfl, hv9⟩
    · refine rb_iconst hV dJ1_indexOf_4cfef_27 ?_
      refine rb_ret hV (r := some (.inl (-1))) dJ1_indexOf_4cfef_28 rfl ⟨(Nat.le_of_ble_eq_true rfl), (Nat.le_of_ble_eq_true rfl)⟩ trivial ?_
      refine ⟨-1, rfl, rfl, Or.inr ⟨rfl, fun ⟨q, q1, q2, q3⟩ => ?_⟩⟩
      have hb := bt_b hi ⟨q1, q2⟩
      omega
  · rw [if_neg e1]
    show V 4 [some (.inr (some (2000 + i))), some (.inl z), some (.inl 0), some (.inl n)] [.inl 0] (WW s) 0 0
    refine rb_if_ne hV (tgt := 9) dJ1_indexOf_4cfef_4 (by decide) (by first | assumption | (unfold ab_r at *; omega)) (fun z => absurd z (by decide)) (fun _ => ?_)
    refine rb_iconst hV dJ1_indexOf_4cfef_7 ?_
    refine rb_ret hV (r := some (.inl (-1))) dJ1_indexOf_4cfef_8 rfl ⟨(Nat.le_of_ble_eq_true rfl), (Nat.le_of_ble_eq_true rfl)⟩ trivial ?_
    refine ⟨-1, rfl, rfl, Or.inr ⟨rfl, fun ⟨q, q1, q2, q3⟩ => ?_⟩⟩
    have hb := bt_b hi ⟨q1, q2⟩
    omega

set_option maxRecDepth 20000 in
theorem c_J0_indexOf_7cf53 (s : Nat → Int → Int) (i : Nat) (hi : i < 16) (z : Int) (hz : ab_r z) : ab_Mt yJ0_indexOf_7cf53 cJ0_indexOf_7cf53 3 (some .int) ({ frames := 2, cells := 0, slots := 0, locals := 48 } : Room) false 0 0 [.inr (some (1000 + i)), .inl z, .inl 0] (WW s) (fun r h2 => ∃ v, r = some (.inl v) ∧ h2 = WW s ∧ (((0 ≤ v ∧ v ≤ 1000) ∧ hasC i z) ∨ (v = -1 ∧ ¬ hasC i z))) := by
  refine ab_mk RJ0 false rfl pn_J0_indexOf_7cf53 (fun z => by cases z) (Nat.le_of_ble_eq_true rfl) (fun V hV => ?_)
  show V 0 [some (.inr (some (1000 + i))), some (.inl z), some (.inl 0)] [] (WW s) 0 0
  refine rb_aload_n hV dJ0_indexOf_7cf53_0 rfl rfl ?_
  refine rb_callV hV (rest := []) dJ0_indexOf_7cf53_1 (c_J0_isLatin1_aae02 s i hi) lk_J0_492 rfl (Or.inr ⟨rfl, _, (by omega), rfl⟩) rfl ⟨rfl, rfl, (Nat.le_of_ble_eq_true rfl), (Nat.le_of_ble_eq_true rfl), (Nat.le_of_ble_eq_true rfl), (Nat.le_of_ble_eq_true rfl)⟩ (Nat.le_of_ble_eq_true rfl) (fun r9 h9 p9 => ?_)
  obtain ⟨rfl, rfl⟩ := p9
  show V 4 [some (.inr (some (1000 + i))), some (.inl z), some (.inl 0)] [.inl 1] (WW s) 0 0
  refine rb_if_eq hV (tgt := 23) dJ0_indexOf_7cf53_4 (by decide) (by first | assumption | (unfold ab_r at *; omega)) (fun z => absurd z (by decide)) (fun _ => ?_)
  refine rb_aload_n hV dJ0_indexOf_7cf53_7 rfl rfl ?_
  refine rb_getSv hV dJ0_indexOf_7cf53_8 (by omega) lf_J0_9 ?_
  refine rb_iload_n hV dJ0_indexOf_7cf53_11 rfl rfl ?_
  refine rb_iload_n hV dJ0_indexOf_7cf53_12 rfl rfl ?_
  refine rb_aload_n hV dJ0_indexOf_7cf53_13 rfl rfl ?_
  refine rb_callV hV (rest := [.inl 0, .inl z, .inr (some (2000 + i))]) dJ0_indexOf_7cf53_14 (c_J0_length_8abf5 s i hi) lk_J0_505 rfl (Or.inr ⟨rfl, _, (by omega), rfl⟩) rfl ⟨rfl, rfl, (Nat.le_of_ble_eq_true rfl), (Nat.le_of_ble_eq_true rfl), (Nat.le_of_ble_eq_true rfl), (Nat.le_of_ble_eq_true rfl)⟩ (Nat.le_of_ble_eq_true rfl) (fun r9 h9 p9 => ?_)
  obtain ⟨rfl, rfl⟩ := p9
  show V 17 [some (.inr (some (1000 + i))), some (.inl z), some (.inl 0)] [.inl ((xsL.getD i 0 : Nat) : Int), .inl 0, .inl z, .inr (some (2000 + i))] (WW s) 0 0
  refine rb_callS hV (rest := []) dJ0_indexOf_7cf53_17 (c_J1_indexOf_4cfef s i hi z ((xsL.getD i 0 : Nat) : Int) hz rfl) lk_J0_637 rfl rfl ⟨rfl, rfl, (Nat.le_of_ble_eq_true rfl), (Nat.le_of_ble_eq_true rfl), (Nat.le_of_ble_eq_true rfl), (Nat.le_of_ble_eq_true rfl)⟩ (Nat.le_of_ble_eq_true rfl) (fun r9 h9 p9 => ?_)
  obtain ⟨v9, rfl, rfl, hv9⟩ := p9
  show V 20 [some (.inr (some (1000 + i))), some (.inl z), some (.inl 0)] [.inl v9] (WW s) 0 0
  refine rb_goto hV (tgt := 36) dJ0_indexOf_7cf53_20 (by decide) ?_
  refine rb_ret hV (r := some (.inl v9)) dJ0_indexOf_7cf53_36 rfl ⟨(Nat.le_of_ble_eq_true rfl), (Nat.le_of_ble_eq_true rfl)⟩ trivial ?_
  exact ⟨v9, rfl, rfl, hv9⟩

set_option maxRecDepth 20000 in
theorem c_J0_indexOf_0f7a4 (s : Nat → Int → Int) (i : Nat) (hi : i < 16) (z : Int) (hz : ab_r z) : ab_Mt yJ0_indexOf_0f7a4 cJ0_indexOf_0f7a4 2 (some .int) ({ frames := 3, cells := 0, slots := 0, locals := 70 } : Room) false 0 0 [.inr (some (1000 + i)), .inl z] (WW s) (fun r h2 => ∃ v, r = some (.inl v) ∧ h2 = WW s ∧ (((0 ≤ v ∧ v ≤ 1000) ∧ hasC i z) ∨ (v = -1 ∧ ¬ hasC i z))) := by
  refine ab_mk RJ0 false rfl pn_J0_indexOf_0f7a4 (fun z => by cases z) (Nat.le_of_ble_eq_true rfl) (fun V hV => ?_)
  show V 0 [some (.inr (some (1000 + i))), some (.inl z)] [] (WW s) 0 0
  refine rb_aload_n hV dJ0_indexOf_0f7a4_0 rfl rfl ?_
  refine rb_iload_n hV dJ0_indexOf_0f7a4_1 rfl rfl ?_
  refine rb_iconst hV dJ0_indexOf_0f7a4_2 ?_
  refine rb_callV hV (rest := []) dJ0_indexOf_0f7a4_3 (c_J0_indexOf_7cf53 s i hi z hz) lk_J0_633 rfl (Or.inr ⟨rfl, _, (by omega), rfl⟩) rfl ⟨rfl, rfl, (Nat.le_of_ble_eq_true rfl), (Nat.le_of_ble_eq_true rfl), (Nat.le_of_ble_eq_true rfl), (Nat.le_of_ble_eq_true rfl)⟩ (Nat.le_of_ble_eq_true rfl) (fun r9 h9 p9 => ?_)
  obtain ⟨v9, rfl, rfl, hv9⟩ := p9
  show V 6 [some (.inr (some (1000 + i))), some (.inl z)] [.inl v9] (WW s) 0 0
  refine rb_ret hV (r := some (.inl v9)) dJ0_indexOf_0f7a4_6 rfl ⟨(Nat.le_of_ble_eq_true rfl), (Nat.le_of_ble_eq_true rfl)⟩ trivial ?_
  exact ⟨v9, rfl, rfl, hv9⟩

set_option maxRecDepth 20000 in
theorem c_X7_isOneOf (s : Nat → Int → Int) (i : Nat) (hi : i < 16) (z : Int) (hz : ab_r z) : ab_Mt yX7_isOneOf cX7_isOneOf 2 (some .boolean) ({ frames := 4, cells := 0, slots := 0, locals := 91 } : Room) false 0 0 [.inl z, .inr (some (1000 + i))] (WW s) (fun r h2 => ∃ v, r = some (.inl v) ∧ h2 = WW s ∧ ((hasC i z ∧ v = 1) ∨ (¬ hasC i z ∧ v = 0))) := by
  refine ab_mk RX7 false rfl pn_X7_isOneOf (fun z => by cases z) (Nat.le_of_ble_eq_true rfl) (fun V hV => ?_)
  show V 0 [some (.inl z), some (.inr (some (1000 + i)))] [] (WW s) 0 0
  refine rb_aload_n hV dX7_isOneOf_0 rfl rfl ?_
  refine rb_iload_n hV dX7_isOneOf_1 rfl rfl ?_
  refine rb_callV hV (rest := []) dX7_isOneOf_2 (c_J0_indexOf_0f7a4 s i hi z hz) lk_X7_42 rfl (Or.inr ⟨rfl, _, hi, rfl⟩) rfl ⟨rfl, rfl, (Nat.le_of_ble_eq_true rfl), (Nat.le_of_ble_eq_true rfl), (Nat.le_of_ble_eq_true rfl), (Nat.le_of_ble_eq_true rfl)⟩ (Nat.le_of_ble_eq_true rfl) (fun r9 h9 p9 => ?_)
  obtain ⟨v9, rfl, rfl, hv9⟩ := p9
  show V 5 [some (.inl z), some (.inr (some (1000 + i)))] [.inl v9] (WW s) 0 0
  refine rb_if_lt hV (tgt := 12) dX7_isOneOf_5 (by decide) (by unfold ab_r; omega) (fun c5 => ?_) (fun c5 => ?_)
  · refine rb_iconst hV dX7_isOneOf_12 ?_
    refine rb_ret hV (r := some (.inl 0)) dX7_isOneOf_13 rfl ⟨(Nat.le_of_ble_eq_true rfl), (Nat.le_of_ble_eq_true rfl)⟩ (by first | exact Or.inl rfl | exact Or.inr rfl | omega) ?_
    exact ⟨_, rfl, rfl, Or.inr ⟨by rcases hv9 with q | q; exact absurd q.1.1 (by omega); exact q.2, rfl⟩⟩
  · refine rb_iconst hV dX7_isOneOf_8 ?_
    refine rb_goto hV (tgt := 13) dX7_isOneOf_9 (by decide) ?_
    refine rb_ret hV (r := some (.inl 1)) dX7_isOneOf_13 rfl ⟨(Nat.le_of_ble_eq_true rfl), (Nat.le_of_ble_eq_true rfl)⟩ (by first | exact Or.inl rfl | exact Or.inr rfl | omega) ?_
    exact ⟨_, rfl, rfl, Or.inl ⟨by rcases hv9 with q | q; exact q.2; exact absurd q.1 (by omega), rfl⟩⟩
