/-! signs and the text -/
theorem hasC_0 (z : Int) : hasC 0 z ↔ z = 102 ∨ z = 105 ∨ z = 106 ∨ z = 108 ∨ z = 114 ∨ z = 116 := by
  have b0 : bt 0 0 = 102 := by decide +kernel
  have b1 : bt 0 1 = 105 := by decide +kernel
  have b2 : bt 0 2 = 106 := by decide +kernel
  have b3 : bt 0 3 = 108 := by decide +kernel
  have b4 : bt 0 4 = 114 := by decide +kernel
  have b5 : bt 0 5 = 116 := by decide +kernel
  have hlen : ((xsL.getD 0 0 : Nat) : Int) = 6 := by decide +kernel
  constructor
  · rintro ⟨j, j0, j1, hj⟩
    rw [hlen] at j1
    rcases (show j = 0 ∨ j = 1 ∨ j = 2 ∨ j = 3 ∨ j = 4 ∨ j = 5 by omega) with rfl | rfl | rfl | rfl | rfl | rfl
    · exact Or.inl (hj.symm.trans b0)
    · exact Or.inr (Or.inl (hj.symm.trans b1))
    · exact Or.inr (Or.inr (Or.inl (hj.symm.trans b2)))
    · exact Or.inr (Or.inr (Or.inr (Or.inl (hj.symm.trans b3))))
    · exact Or.inr (Or.inr (Or.inr (Or.inr (Or.inl (hj.symm.trans b4)))))
    · exact Or.inr (Or.inr (Or.inr (Or.inr (Or.inr ((hj.symm.trans b5))))))
  · rintro (rfl | rfl | rfl | rfl | rfl | rfl)
    · exact ⟨0, by decide, by rw [hlen]; decide, b0⟩
    · exact ⟨1, by decide, by rw [hlen]; decide, b1⟩
    · exact ⟨2, by decide, by rw [hlen]; decide, b2⟩
    · exact ⟨3, by decide, by rw [hlen]; decide, b3⟩
    · exact ⟨4, by decide, by rw [hlen]; decide, b4⟩
    · exact ⟨5, by decide, by rw [hlen]; decide, b5⟩

theorem hasC_1 (z : Int) : hasC 1 z ↔ z = 109 ∨ z = 119 := by
  have b0 : bt 1 0 = 109 := by decide +kernel
  have b1 : bt 1 1 = 119 := by decide +kernel
  have hlen : ((xsL.getD 1 0 : Nat) : Int) = 2 := by decide +kernel
  constructor
  · rintro ⟨j, j0, j1, hj⟩
    rw [hlen] at j1
    rcases (show j = 0 ∨ j = 1 by omega) with rfl | rfl
    · exact Or.inl (hj.symm.trans b0)
    · exact Or.inr ((hj.symm.trans b1))
  · rintro (rfl | rfl)
    · exact ⟨0, by decide, by rw [hlen]; decide, b0⟩
    · exact ⟨1, by decide, by rw [hlen]; decide, b1⟩

theorem hasC_2 (z : Int) : hasC 2 z ↔ z = 77 ∨ z = 87 := by
  have b0 : bt 2 0 = 77 := by decide +kernel
  have b1 : bt 2 1 = 87 := by decide +kernel
  have hlen : ((xsL.getD 2 0 : Nat) : Int) = 2 := by decide +kernel
  constructor
  · rintro ⟨j, j0, j1, hj⟩
    rw [hlen] at j1
    rcases (show j = 0 ∨ j = 1 by omega) with rfl | rfl
    · exact Or.inl (hj.symm.trans b0)
    · exact Or.inr ((hj.symm.trans b1))
  · rintro (rfl | rfl)
    · exact ⟨0, by decide, by rw [hlen]; decide, b0⟩
    · exact ⟨1, by decide, by rw [hlen]; decide, b1⟩

theorem hasC_3 (z : Int) : hasC 3 z ↔ z = 46 ∨ z = 44 ∨ z = 59 ∨ z = 58 ∨ z = 33 ∨ z = 39 := by
  have b0 : bt 3 0 = 46 := by decide +kernel
  have b1 : bt 3 1 = 44 := by decide +kernel
  have b2 : bt 3 2 = 59 := by decide +kernel
  have b3 : bt 3 3 = 58 := by decide +kernel
  have b4 : bt 3 4 = 33 := by decide +kernel
  have b5 : bt 3 5 = 39 := by decide +kernel
  have hlen : ((xsL.getD 3 0 : Nat) : Int) = 6 := by decide +kernel
  constructor
  · rintro ⟨j, j0, j1, hj⟩
    rw [hlen] at j1
    rcases (show j = 0 ∨ j = 1 ∨ j = 2 ∨ j = 3 ∨ j = 4 ∨ j = 5 by omega) with rfl | rfl | rfl | rfl | rfl | rfl
    · exact Or.inl (hj.symm.trans b0)
    · exact Or.inr (Or.inl (hj.symm.trans b1))
    · exact Or.inr (Or.inr (Or.inl (hj.symm.trans b2)))
    · exact Or.inr (Or.inr (Or.inr (Or.inl (hj.symm.trans b3))))
    · exact Or.inr (Or.inr (Or.inr (Or.inr (Or.inl (hj.symm.trans b4)))))
    · exact Or.inr (Or.inr (Or.inr (Or.inr (Or.inr ((hj.symm.trans b5))))))
  · rintro (rfl | rfl | rfl | rfl | rfl | rfl)
    · exact ⟨0, by decide, by rw [hlen]; decide, b0⟩
    · exact ⟨1, by decide, by rw [hlen]; decide, b1⟩
    · exact ⟨2, by decide, by rw [hlen]; decide, b2⟩
    · exact ⟨3, by decide, by rw [hlen]; decide, b3⟩
    · exact ⟨4, by decide, by rw [hlen]; decide, b4⟩
    · exact ⟨5, by decide, by rw [hlen]; decide, b5⟩

theorem hasC_4 (z : Int) : hasC 4 z ↔ z = 63 ∨ z = 45 ∨ z = 34 ∨ z = 40 ∨ z = 41 := by
  have b0 : bt 4 0 = 63 := by decide +kernel
  have b1 : bt 4 1 = 45 := by decide +kernel
  have b2 : bt 4 2 = 34 := by decide +kernel
  have b3 : bt 4 3 = 40 := by decide +kernel
  have b4 : bt 4 4 = 41 := by decide +kernel
  have hlen : ((xsL.getD 4 0 : Nat) : Int) = 5 := by decide +kernel
  constructor
  · rintro ⟨j, j0, j1, hj⟩
    rw [hlen] at j1
    rcases (show j = 0 ∨ j = 1 ∨ j = 2 ∨ j = 3 ∨ j = 4 by omega) with rfl | rfl | rfl | rfl | rfl
    · exact Or.inl (hj.symm.trans b0)
    · exact Or.inr (Or.inl (hj.symm.trans b1))
    · exact Or.inr (Or.inr (Or.inl (hj.symm.trans b2)))
    · exact Or.inr (Or.inr (Or.inr (Or.inl (hj.symm.trans b3))))
    · exact Or.inr (Or.inr (Or.inr (Or.inr ((hj.symm.trans b4)))))
  · rintro (rfl | rfl | rfl | rfl | rfl)
    · exact ⟨0, by decide, by rw [hlen]; decide, b0⟩
    · exact ⟨1, by decide, by rw [hlen]; decide, b1⟩
    · exact ⟨2, by decide, by rw [hlen]; decide, b2⟩
    · exact ⟨3, by decide, by rw [hlen]; decide, b3⟩
    · exact ⟨4, by decide, by rw [hlen]; decide, b4⟩

theorem hasC_5 (z : Int) : hasC 5 z ↔ z = 39 ∨ z = 34 ∨ z = 40 := by
  have b0 : bt 5 0 = 39 := by decide +kernel
  have b1 : bt 5 1 = 34 := by decide +kernel
  have b2 : bt 5 2 = 40 := by decide +kernel
  have hlen : ((xsL.getD 5 0 : Nat) : Int) = 3 := by decide +kernel
  constructor
  · rintro ⟨j, j0, j1, hj⟩
    rw [hlen] at j1
    rcases (show j = 0 ∨ j = 1 ∨ j = 2 by omega) with rfl | rfl | rfl
    · exact Or.inl (hj.symm.trans b0)
    · exact Or.inr (Or.inl (hj.symm.trans b1))
    · exact Or.inr (Or.inr ((hj.symm.trans b2)))
  · rintro (rfl | rfl | rfl)
    · exact ⟨0, by decide, by rw [hlen]; decide, b0⟩
    · exact ⟨1, by decide, by rw [hlen]; decide, b1⟩
    · exact ⟨2, by decide, by rw [hlen]; decide, b2⟩

theorem hasC_6 (z : Int) : hasC 6 z ↔ z = 46 ∨ z = 33 ∨ z = 63 := by
  have b0 : bt 6 0 = 46 := by decide +kernel
  have b1 : bt 6 1 = 33 := by decide +kernel
  have b2 : bt 6 2 = 63 := by decide +kernel
  have hlen : ((xsL.getD 6 0 : Nat) : Int) = 3 := by decide +kernel
  constructor
  · rintro ⟨j, j0, j1, hj⟩
    rw [hlen] at j1
    rcases (show j = 0 ∨ j = 1 ∨ j = 2 by omega) with rfl | rfl | rfl
    · exact Or.inl (hj.symm.trans b0)
    · exact Or.inr (Or.inl (hj.symm.trans b1))
    · exact Or.inr (Or.inr ((hj.symm.trans b2)))
  · rintro (rfl | rfl | rfl)
    · exact ⟨0, by decide, by rw [hlen]; decide, b0⟩
    · exact ⟨1, by decide, by rw [hlen]; decide, b1⟩
    · exact ⟨2, by decide, by rw [hlen]; decide, b2⟩

theorem hasC_7 (z : Int) : hasC 7 z ↔ z = 44 ∨ z = 59 ∨ z = 58 := by
  have b0 : bt 7 0 = 44 := by decide +kernel
  have b1 : bt 7 1 = 59 := by decide +kernel
  have b2 : bt 7 2 = 58 := by decide +kernel
  have hlen : ((xsL.getD 7 0 : Nat) : Int) = 3 := by decide +kernel
  constructor
  · rintro ⟨j, j0, j1, hj⟩
    rw [hlen] at j1
    rcases (show j = 0 ∨ j = 1 ∨ j = 2 by omega) with rfl | rfl | rfl
    · exact Or.inl (hj.symm.trans b0)
    · exact Or.inr (Or.inl (hj.symm.trans b1))
    · exact Or.inr (Or.inr ((hj.symm.trans b2)))
  · rintro (rfl | rfl | rfl)
    · exact ⟨0, by decide, by rw [hlen]; decide, b0⟩
    · exact ⟨1, by decide, by rw [hlen]; decide, b1⟩
    · exact ⟨2, by decide, by rw [hlen]; decide, b2⟩

theorem hasC_8 (z : Int) : hasC 8 z ↔ z = 46 ∨ z = 44 ∨ z = 59 ∨ z = 58 ∨ z = 33 ∨ z = 63 ∨ z = 45 ∨ z = 39 ∨ z = 34 := by
  have b0 : bt 8 0 = 46 := by decide +kernel
  have b1 : bt 8 1 = 44 := by decide +kernel
  have b2 : bt 8 2 = 59 := by decide +kernel
  have b3 : bt 8 3 = 58 := by decide +kernel
  have b4 : bt 8 4 = 33 := by decide +kernel
  have b5 : bt 8 5 = 63 := by decide +kernel
  have b6 : bt 8 6 = 45 := by decide +kernel
  have b7 : bt 8 7 = 39 := by decide +kernel
  have b8 : bt 8 8 = 34 := by decide +kernel
  have hlen : ((xsL.getD 8 0 : Nat) : Int) = 9 := by decide +kernel
  constructor
  · rintro ⟨j, j0, j1, hj⟩
    rw [hlen] at j1
    rcases (show j = 0 ∨ j = 1 ∨ j = 2 ∨ j = 3 ∨ j = 4 ∨ j = 5 ∨ j = 6 ∨ j = 7 ∨ j = 8 by omega) with rfl | rfl | rfl | rfl | rfl | rfl | rfl | rfl | rfl
    · exact Or.inl (hj.symm.trans b0)
    · exact Or.inr (Or.inl (hj.symm.trans b1))
    · exact Or.inr (Or.inr (Or.inl (hj.symm.trans b2)))
    · exact Or.inr (Or.inr (Or.inr (Or.inl (hj.symm.trans b3))))
    · exact Or.inr (Or.inr (Or.inr (Or.inr (Or.inl (hj.symm.trans b4)))))
    · exact Or.inr (Or.inr (Or.inr (Or.inr (Or.inr (Or.inl (hj.symm.trans b5))))))
    · exact Or.inr (Or.inr (Or.inr (Or.inr (Or.inr (Or.inr (Or.inl (hj.symm.trans b6)))))))
    · exact Or.inr (Or.inr (Or.inr (Or.inr (Or.inr (Or.inr (Or.inr (Or.inl (hj.symm.trans b7))))))))
    · exact Or.inr (Or.inr (Or.inr (Or.inr (Or.inr (Or.inr (Or.inr (Or.inr ((hj.symm.trans b8)))))))))
  · rintro (rfl | rfl | rfl | rfl | rfl | rfl | rfl | rfl | rfl)
    · exact ⟨0, by decide, by rw [hlen]; decide, b0⟩
    · exact ⟨1, by decide, by rw [hlen]; decide, b1⟩
    · exact ⟨2, by decide, by rw [hlen]; decide, b2⟩
    · exact ⟨3, by decide, by rw [hlen]; decide, b3⟩
    · exact ⟨4, by decide, by rw [hlen]; decide, b4⟩
    · exact ⟨5, by decide, by rw [hlen]; decide, b5⟩
    · exact ⟨6, by decide, by rw [hlen]; decide, b6⟩
    · exact ⟨7, by decide, by rw [hlen]; decide, b7⟩
    · exact ⟨8, by decide, by rw [hlen]; decide, b8⟩

/-- the width of a sign, 0 for one that no word may have -/
def sgW (z : Int) : Int := if 97 ≤ z ∧ z ≤ 122 then (if z = 102 ∨ z = 105 ∨ z = 106 ∨ z = 108 ∨ z = 114 ∨ z = 116 then 2 else if z = 109 ∨ z = 119 then 4 else 3) else if 65 ≤ z ∧ z ≤ 90 then (if z = 73 then 2 else if z = 77 ∨ z = 87 then 5 else 4) else if 48 ≤ z ∧ z ≤ 57 then 3 else if z = 46 ∨ z = 44 ∨ z = 59 ∨ z = 58 ∨ z = 33 ∨ z = 39 then 1 else if z = 63 ∨ z = 45 ∨ z = 34 ∨ z = 40 ∨ z = 41 then 2 else 0
def sgK (z : Int) : Int := if z = 46 ∨ z = 33 ∨ z = 63 then 2 else if z = 44 ∨ z = 59 ∨ z = 58 then 1 else 0
def sgL (z : Int) : Int := if z = 39 ∨ z = 34 ∨ z = 40 then sgW z else 0
def sgR (z : Int) : Int := if z = 46 ∨ z = 44 ∨ z = 59 ∨ z = 58 ∨ z = 33 ∨ z = 63 ∨ z = 45 ∨ z = 39 ∨ z = 34 then sgW z else 0
theorem sgW_b (z : Int) : 0 ≤ sgW z ∧ sgW z ≤ 5 := by
  unfold sgW
  repeat' split
  all_goals decide
theorem sgK_b (z : Int) : 0 ≤ sgK z ∧ sgK z ≤ 2 := by
  unfold sgK
  repeat' split
  all_goals decide
theorem sgL_b (z : Int) : 0 ≤ sgL z ∧ sgL z ≤ 5 := by
  unfold sgL
  split
  · exact sgW_b z
  · decide
theorem sgR_b (z : Int) : 0 ≤ sgR z ∧ sgR z ≤ 5 := by
  unfold sgR
  split
  · exact sgW_b z
  · decide
/-- the end of the piece that begins at a, k the number of characters from there to the text's end -/
def eo (t : Int → Int) (a : Int) : Nat → Int
  | 0 => a
  | k + 1 => if t a = 32 then a else eo t (a + 1) k
theorem eo_b (t : Int → Int) : ∀ (k : Nat) (a : Int), a ≤ eo t a k ∧ eo t a k ≤ a + k
  | 0, a => by unfold eo; omega
  | k + 1, a => by
    have := eo_b t k (a + 1)
    unfold eo
    split <;> omega
def okc (z : Int) : Prop := z = 32 ∨ ¬ sgW z = 0
def isNm (t : Int → Int) (n : Int) (i : Nat) (a b : Int) : Prop := 0 ≤ a ∧ b ≤ n ∧ b - a = ((xsL.getD i 0 : Nat) : Int) ∧ ∀ q, a ≤ q → q < b → t q = bt i (q - a)
def isNu (t : Int → Int) (a b : Int) : Prop := 1 ≤ b - a ∧ b - a ≤ 3 ∧ ∀ q, a ≤ q → q < b → 48 ≤ t q ∧ t q ≤ 57
def nv (t : Int → Int) (a : Int) : Nat → Int
  | 0 => 0
  | k + 1 => nv t a k * 10 + (t (a + k) - 48)
theorem nv_b {t : Int → Int} {a b : Int} (h : isNu t a b) : 0 ≤ nv t a (b - a).toNat ∧ nv t a (b - a).toNat ≤ 999 := by
  have q1 := h.2.2 a (by have := h.1; omega) (by have := h.1; omega)
  rcases (show b - a = 1 ∨ b - a = 2 ∨ b - a = 3 by have := h.1; have := h.2.1; omega) with e | e | e
  · rw [show (b - a).toNat = 0 + 1 by omega]
    unfold nv nv
    rw [show a + ((0 : Nat) : Int) = a by omega]
    omega
  · have q2 := h.2.2 (a + 1) (by omega) (by omega)
    rw [show (b - a).toNat = 0 + 1 + 1 by omega]
    unfold nv nv nv
    rw [show a + ((0 : Nat) : Int) = a by omega, show a + ((0 + 1 : Nat) : Int) = a + 1 by omega]
    omega
  · have q2 := h.2.2 (a + 1) (by omega) (by omega)
    have q3 := h.2.2 (a + 2) (by omega) (by omega)
    rw [show (b - a).toNat = 0 + 1 + 1 + 1 by omega]
    unfold nv nv nv nv
    rw [show a + ((0 : Nat) : Int) = a by omega, show a + ((0 + 1 : Nat) : Int) = a + 1 by omega, show a + ((0 + 1 + 1 : Nat) : Int) = a + 2 by omega]
    omega

def sgS (z : Int) : Int := if z = 102 ∨ z = 105 ∨ z = 106 ∨ z = 108 ∨ z = 114 ∨ z = 116 then 2 else if z = 109 ∨ z = 119 then 4 else 3
def sgC (z : Int) : Int := if z = 73 then 2 else if z = 77 ∨ z = 87 then 5 else 4

set_option maxRecDepth 20000 in
theorem c_X7_smallLetterWidth (s : Nat → Int → Int) (z : Int) (hz : 0 ≤ z ∧ z < 65536) : ab_Mt yX7_smallLetterWidth cX7_smallLetterWidth 1 (some .int) ({ frames := 5, cells := 0, slots := 0, locals := 112 } : Room) false 0 0 [.inl z] (WW s) (fun r h2 => r = some (.inl (sgS z)) ∧ h2 = WW s) := by
  refine ab_mk RX7 false rfl pn_X7_smallLetterWidth (fun z => by cases z) (Nat.le_of_ble_eq_true rfl) (fun V hV => ?_)
  show V 0 [some (.inl z)] [] (WW s) 0 0
  refine rb_iload_n hV dX7_smallLetterWidth_0 rfl rfl ?_
  refine rb_ldcS hV (i := 0) dX7_smallLetterWidth_1 rfl ?_
  refine rb_callS hV (rest := []) dX7_smallLetterWidth_3 (c_X7_isOneOf s 0 (by decide) z (by unfold ab_r; omega)) lk_X7_22 rfl rfl ⟨rfl, rfl, (Nat.le_of_ble_eq_true rfl), (Nat.le_of_ble_eq_true rfl), (Nat.le_of_ble_eq_true rfl), (Nat.le_of_ble_eq_true rfl)⟩ (Nat.le_of_ble_eq_true rfl) (fun r9 h9 p9 => ?_)
  obtain ⟨v9, rfl, rfl, hv9⟩ := p9
  rw [hasC_0] at hv9
  rcases hv9 with ⟨e3, rfl⟩ | ⟨e3, rfl⟩
  · show V 6 [some (.inl z)] [.inl 1] (WW s) 0 0
    refine rb_if_eq hV (tgt := 11) dX7_smallLetterWidth_6 (by decide) (by unfold ab_r at *; omega) (fun z => absurd z (by decide)) (fun _ => ?_)
    refine rb_iconst hV dX7_smallLetterWidth_9 ?_
    refine rb_ret hV (r := some (.inl 2)) dX7_smallLetterWidth_10 rfl ⟨(Nat.le_of_ble_eq_true rfl), (Nat.le_of_ble_eq_true rfl)⟩ trivial ?_
    exact ⟨congrArg (fun z : Int => some (Sum.inl z)) (if_pos e3).symm, rfl⟩
  · show V 6 [some (.inl z)] [.inl 0] (WW s) 0 0
    refine rb_if_eq hV (tgt := 11) dX7_smallLetterWidth_6 (by decide) (by unfold ab_r at *; omega) (fun _ => ?_) (fun z => absurd z (by decide))
    refine rb_iload_n hV dX7_smallLetterWidth_11 rfl rfl ?_
    refine rb_ldcS hV (i := 1) dX7_smallLetterWidth_12 rfl ?_
    refine rb_callS hV (rest := []) dX7_smallLetterWidth_14 (c_X7_isOneOf s 1 (by decide) z (by unfold ab_r; omega)) lk_X7_22 rfl rfl ⟨rfl, rfl, (Nat.le_of_ble_eq_true rfl), (Nat.le_of_ble_eq_true rfl), (Nat.le_of_ble_eq_true rfl), (Nat.le_of_ble_eq_true rfl)⟩ (Nat.le_of_ble_eq_true rfl) (fun r9 h9 p9 => ?_)
    obtain ⟨v9, rfl, rfl, hv9⟩ := p9
    rw [hasC_1] at hv9
    rcases hv9 with ⟨e14, rfl⟩ | ⟨e14, rfl⟩
    · show V 17 [some (.inl z)] [.inl 1] (WW s) 0 0
      refine rb_if_eq hV (tgt := 24) dX7_smallLetterWidth_17 (by decide) (by unfold ab_r at *; omega) (fun z => absurd z (by decide)) (fun _ => ?_)
      refine rb_iconst hV dX7_smallLetterWidth_20 ?_
      refine rb_goto hV (tgt := 25) dX7_smallLetterWidth_21 (by decide) ?_
      refine rb_ret hV (r := some (.inl 4)) dX7_smallLetterWidth_25 rfl ⟨(Nat.le_of_ble_eq_true rfl), (Nat.le_of_ble_eq_true rfl)⟩ trivial ?_
      exact ⟨congrArg (fun z : Int => some (Sum.inl z)) ((if_neg e3).trans (if_pos e14)).symm, rfl⟩
    · show V 17 [some (.inl z)] [.inl 0] (WW s) 0 0
      refine rb_if_eq hV (tgt := 24) dX7_smallLetterWidth_17 (by decide) (by unfold ab_r at *; omega) (fun _ => ?_) (fun z => absurd z (by decide))
      refine rb_iconst hV dX7_smallLetterWidth_24 ?_
      refine rb_ret hV (r := some (.inl 3)) dX7_smallLetterWidth_25 rfl ⟨(Nat.le_of_ble_eq_true rfl), (Nat.le_of_ble_eq_true rfl)⟩ trivial ?_
      exact ⟨congrArg (fun z : Int => some (Sum.inl z)) ((if_neg e3).trans (if_neg e14)).symm, rfl⟩

set_option maxRecDepth 20000 in
theorem c_X7_capitalWidth (s : Nat → Int → Int) (z : Int) (hz : 0 ≤ z ∧ z < 65536) : ab_Mt yX7_capitalWidth cX7_capitalWidth 1 (some .int) ({ frames := 5, cells := 0, slots := 0, locals := 112 } : Room) false 0 0 [.inl z] (WW s) (fun r h2 => r = some (.inl (sgC z)) ∧ h2 = WW s) := by
  refine ab_mk RX7 false rfl pn_X7_capitalWidth (fun z => by cases z) (Nat.le_of_ble_eq_true rfl) (fun V hV => ?_)
  show V 0 [some (.inl z)] [] (WW s) 0 0
  refine rb_iload_n hV dX7_capitalWidth_0 rfl rfl ?_
  refine rb_bipush hV dX7_capitalWidth_1 (by decide) ?_
  refine rb_icmp_ne hV (tgt := 8) dX7_capitalWidth_3 (by decide) ⟨(by unfold ab_r at *; omega), (by unfold ab_r at *; omega)⟩ (fun c3 => ?_) (fun c3 => ?_)
  · refine rb_iload_n hV dX7_capitalWidth_8 rfl rfl ?_
    refine rb_ldcS hV (i := 2) dX7_capitalWidth_9 rfl ?_
    refine rb_callS hV (rest := []) dX7_capitalWidth_11 (c_X7_isOneOf s 2 (by decide) z (by unfold ab_r; omega)) lk_X7_22 rfl rfl ⟨rfl, rfl, (Nat.le_of_ble_eq_true rfl), (Nat.le_of_ble_eq_true rfl), (Nat.le_of_ble_eq_true rfl), (Nat.le_of_ble_eq_true rfl)⟩ (Nat.le_of_ble_eq_true rfl) (fun r9 h9 p9 => ?_)
    obtain ⟨v9, rfl, rfl, hv9⟩ := p9
    rw [hasC_2] at hv9
    rcases hv9 with ⟨e11, rfl⟩ | ⟨e11, rfl⟩
    · show V 14 [some (.inl z)] [.inl 1] (WW s) 0 0
      refine rb_if_eq hV (tgt := 21) dX7_capitalWidth_14 (by decide) (by unfold ab_r at *; omega) (fun z => absurd z (by decide)) (fun _ => ?_)
      refine rb_iconst hV dX7_capitalWidth_17 ?_
      refine rb_goto hV (tgt := 22) dX7_capitalWidth_18 (by decide) ?_
      refine rb_ret hV (r := some (.inl 5)) dX7_capitalWidth_22 rfl ⟨(Nat.le_of_ble_eq_true rfl), (Nat.le_of_ble_eq_true rfl)⟩ trivial ?_
      exact ⟨congrArg (fun z : Int => some (Sum.inl z)) ((if_neg (by omega)).trans (if_pos e11)).symm, rfl⟩
    · show V 14 [some (.inl z)] [.inl 0] (WW s) 0 0
      refine rb_if_eq hV (tgt := 21) dX7_capitalWidth_14 (by decide) (by unfold ab_r at *; omega) (fun _ => ?_) (fun z => absurd z (by decide))
      refine rb_iconst hV dX7_capitalWidth_21 ?_
      refine rb_ret hV (r := some (.inl 4)) dX7_capitalWidth_22 rfl ⟨(Nat.le_of_ble_eq_true rfl), (Nat.le_of_ble_eq_true rfl)⟩ trivial ?_
      exact ⟨congrArg (fun z : Int => some (Sum.inl z)) ((if_neg (by omega)).trans (if_neg e11)).symm, rfl⟩
  · refine rb_iconst hV dX7_capitalWidth_6 ?_
    refine rb_ret hV (r := some (.inl 2)) dX7_capitalWidth_7 rfl ⟨(Nat.le_of_ble_eq_true rfl), (Nat.le_of_ble_eq_true rfl)⟩ trivial ?_
    exact ⟨congrArg (fun z : Int => some (Sum.inl z)) (if_pos (by omega)).symm, rfl⟩

set_option maxRecDepth 20000 in
theorem c_X7_isDigit (s : Nat → Int → Int) (z : Int) (hz : 0 ≤ z ∧ z < 65536) : ab_Mt yX7_isDigit cX7_isDigit 1 (some .boolean) ({ frames := 0, cells := 0, slots := 0, locals := 0 } : Room) false 0 0 [.inl z] (WW s) (fun r h2 => r = some (.inl (if 48 ≤ z ∧ z ≤ 57 then 1 else 0)) ∧ h2 = WW s) := by
  refine ab_mk RX7 false rfl pn_X7_isDigit (fun z => by cases z) (Nat.le_of_ble_eq_true rfl) (fun V hV => ?_)
  show V 0 [some (.inl z)] [] (WW s) 0 0
  refine rb_iload_n hV dX7_isDigit_0 rfl rfl ?_
  refine rb_bipush hV dX7_isDigit_1 (by decide) ?_
  refine rb_icmp_lt hV (tgt := 16) dX7_isDigit_3 (by decide) ⟨(by unfold ab_r at *; omega), (by unfold ab_r at *; omega)⟩ (fun c3 => ?_) (fun c3 => ?_)
  · refine rb_iconst hV dX7_isDigit_16 ?_
    refine rb_ret hV (r := some (.inl 0)) dX7_isDigit_17 rfl ⟨(Nat.le_of_ble_eq_true rfl), (Nat.le_of_ble_eq_true rfl)⟩ (by first | exact Or.inl rfl | exact Or.inr rfl | omega) ?_
    exact ⟨congrArg (fun z : Int => some (Sum.inl z)) (if_neg (by omega)).symm, rfl⟩
  · refine rb_iload_n hV dX7_isDigit_6 rfl rfl ?_
    refine rb_bipush hV dX7_isDigit_7 (by decide) ?_
    refine rb_icmp_gt hV (tgt := 16) dX7_isDigit_9 (by decide) ⟨(by unfold ab_r at *; omega), (by unfold ab_r at *; omega)⟩ (fun c9 => ?_) (fun c9 => ?_)
    · refine rb_iconst hV dX7_isDigit_16 ?_
      refine rb_ret hV (r := some (.inl 0)) dX7_isDigit_17 rfl ⟨(Nat.le_of_ble_eq_true rfl), (Nat.le_of_ble_eq_true rfl)⟩ (by first | exact Or.inl rfl | exact Or.inr rfl | omega) ?_
      exact ⟨congrArg (fun z : Int => some (Sum.inl z)) (if_neg (by omega)).symm, rfl⟩
    · refine rb_iconst hV dX7_isDigit_12 ?_
      refine rb_goto hV (tgt := 17) dX7_isDigit_13 (by decide) ?_
      refine rb_ret hV (r := some (.inl 1)) dX7_isDigit_17 rfl ⟨(Nat.le_of_ble_eq_true rfl), (Nat.le_of_ble_eq_true rfl)⟩ (by first | exact Or.inl rfl | exact Or.inr rfl | omega) ?_
      exact ⟨congrArg (fun z : Int => some (Sum.inl z)) (if_pos (by omega)).symm, rfl⟩

set_option maxRecDepth 20000 in
theorem c_X7_widthOf (s : Nat → Int → Int) (z : Int) (hz : 0 ≤ z ∧ z < 65536) : ab_Mt yX7_widthOf cX7_widthOf 1 (some .int) ({ frames := 6, cells := 0, slots := 0, locals := 132 } : Room) false 0 0 [.inl z] (WW s) (fun r h2 => r = some (.inl (sgW z)) ∧ h2 = WW s) := by
  refine ab_mk RX7 false rfl pn_X7_widthOf (fun z => by cases z) (Nat.le_of_ble_eq_true rfl) (fun V hV => ?_)
  show V 0 [some (.inl z)] [] (WW s) 0 0
  refine rb_iload_n hV dX7_widthOf_0 rfl rfl ?_
  refine rb_bipush hV dX7_widthOf_1 (by decide) ?_
  refine rb_icmp_lt hV (tgt := 17) dX7_widthOf_3 (by decide) ⟨(by unfold ab_r at *; omega), (by unfold ab_r at *; omega)⟩ (fun c3 => ?_) (fun c3 => ?_)
  · refine rb_iload_n hV dX7_widthOf_17 rfl rfl ?_
    refine rb_bipush hV dX7_widthOf_18 (by decide) ?_
    refine rb_icmp_lt hV (tgt := 34) dX7_widthOf_20 (by decide) ⟨(by unfold ab_r at *; omega), (by unfold ab_r at *; omega)⟩ (fun c20 => ?_) (fun c20 => ?_)
    · refine rb_iload_n hV dX7_widthOf_34 rfl rfl ?_
      refine rb_callS hV (rest := []) dX7_widthOf_35 (c_X7_isDigit s z hz) lk_X7_16 rfl rfl ⟨rfl, rfl, (Nat.le_of_ble_eq_true rfl), (Nat.le_of_ble_eq_true rfl), (Nat.le_of_ble_eq_true rfl), (Nat.le_of_ble_eq_true rfl)⟩ (Nat.le_of_ble_eq_true rfl) (fun r9 h9 p9 => ?_)
      obtain ⟨rfl, rfl⟩ := p9
      show V 38 [some (.inl z)] [.inl (if 48 ≤ z ∧ z ≤ 57 then 1 else 0)] (WW s) 0 0
      by_cases e35 : 48 ≤ z ∧ z ≤ 57
      · rw [if_pos e35]
        show V 38 [some (.inl z)] [.inl 1] (WW s) 0 0
        refine rb_if_eq hV (tgt := 43) dX7_widthOf_38 (by decide) (by unfold ab_r at *; omega) (fun z => absurd z (by decide)) (fun _ => ?_)
        refine rb_iconst hV dX7_widthOf_41 ?_
        refine rb_ret hV (r := some (.inl 3)) dX7_widthOf_42 rfl ⟨(Nat.le_of_ble_eq_true rfl), (Nat.le_of_ble_eq_true rfl)⟩ trivial ?_
        exact ⟨congrArg (fun z : Int => some (Sum.inl z)) (show sgW z = 3 from (if_neg (by omega)).trans ((if_neg (by omega)).trans (if_pos (by omega)))).symm, rfl⟩
      · rw [if_neg e35]
        show V 38 [some (.inl z)] [.inl 0] (WW s) 0 0
        refine rb_if_eq hV (tgt := 43) dX7_widthOf_38 (by decide) (by unfold ab_r at *; omega) (fun _ => ?_) (fun z => absurd z (by decide))
        refine rb_iload_n hV dX7_widthOf_43 rfl rfl ?_
        refine rb_ldcS hV (i := 3) dX7_widthOf_44 rfl ?_
        refine rb_callS hV (rest := []) dX7_widthOf_46 (c_X7_isOneOf s 3 (by decide) z (by unfold ab_r; omega)) lk_X7_22 rfl rfl ⟨rfl, rfl, (Nat.le_of_ble_eq_true rfl), (Nat.le_of_ble_eq_true rfl), (Nat.le_of_ble_eq_true rfl), (Nat.le_of_ble_eq_true rfl)⟩ (Nat.le_of_ble_eq_true rfl) (fun r9 h9 p9 => ?_)
        obtain ⟨v9, rfl, rfl, hv9⟩ := p9
        rw [hasC_3] at hv9
        rcases hv9 with ⟨e46, rfl⟩ | ⟨e46, rfl⟩
        · show V 49 [some (.inl z)] [.inl 1] (WW s) 0 0
          refine rb_if_eq hV (tgt := 54) dX7_widthOf_49 (by decide) (by unfold ab_r at *; omega) (fun z => absurd z (by decide)) (fun _ => ?_)
          refine rb_iconst hV dX7_widthOf_52 ?_
          refine rb_ret hV (r := some (.inl 1)) dX7_widthOf_53 rfl ⟨(Nat.le_of_ble_eq_true rfl), (Nat.le_of_ble_eq_true rfl)⟩ trivial ?_
          exact ⟨congrArg (fun z : Int => some (Sum.inl z)) (show sgW z = 1 from (if_neg (by omega)).trans ((if_neg (by omega)).trans ((if_neg (by omega)).trans (if_pos e46)))).symm, rfl⟩
        · show V 49 [some (.inl z)] [.inl 0] (WW s) 0 0
          refine rb_if_eq hV (tgt := 54) dX7_widthOf_49 (by decide) (by unfold ab_r at *; omega) (fun _ => ?_) (fun z => absurd z (by decide))
          refine rb_iload_n hV dX7_widthOf_54 rfl rfl ?_
          refine rb_ldcS hV (i := 4) dX7_widthOf_55 rfl ?_
          refine rb_callS hV (rest := []) dX7_widthOf_57 (c_X7_isOneOf s 4 (by decide) z (by unfold ab_r; omega)) lk_X7_22 rfl rfl ⟨rfl, rfl, (Nat.le_of_ble_eq_true rfl), (Nat.le_of_ble_eq_true rfl), (Nat.le_of_ble_eq_true rfl), (Nat.le_of_ble_eq_true rfl)⟩ (Nat.le_of_ble_eq_true rfl) (fun r9 h9 p9 => ?_)
          obtain ⟨v9, rfl, rfl, hv9⟩ := p9
          rw [hasC_4] at hv9
          rcases hv9 with ⟨e57, rfl⟩ | ⟨e57, rfl⟩
          · show V 60 [some (.inl z)] [.inl 1] (WW s) 0 0
            refine rb_if_eq hV (tgt := 67) dX7_widthOf_60 (by decide) (by unfold ab_r at *; omega) (fun z => absurd z (by decide)) (fun _ => ?_)
            refine rb_iconst hV dX7_widthOf_63 ?_
            refine rb_goto hV (tgt := 68) dX7_widthOf_64 (by decide) ?_
            refine rb_ret hV (r := some (.inl 2)) dX7_widthOf_68 rfl ⟨(Nat.le_of_ble_eq_true rfl), (Nat.le_of_ble_eq_true rfl)⟩ trivial ?_
            exact ⟨congrArg (fun z : Int => some (Sum.inl z)) (show sgW z = 2 from (if_neg (by omega)).trans ((if_neg (by omega)).trans ((if_neg (by omega)).trans ((if_neg e46).trans (if_pos e57))))).symm, rfl⟩
          · show V 60 [some (.inl z)] [.inl 0] (WW s) 0 0
            refine rb_if_eq hV (tgt := 67) dX7_widthOf_60 (by decide) (by unfold ab_r at *; omega) (fun _ => ?_) (fun z => absurd z (by decide))
            refine rb_iconst hV dX7_widthOf_67 ?_
            refine rb_ret hV (r := some (.inl 0)) dX7_widthOf_68 rfl ⟨(Nat.le_of_ble_eq_true rfl), (Nat.le_of_ble_eq_true rfl)⟩ trivial ?_
            exact ⟨congrArg (fun z : Int => some (Sum.inl z)) (show sgW z = 0 from (if_neg (by omega)).trans ((if_neg (by omega)).trans ((if_neg (by omega)).trans ((if_neg e46).trans (if_neg e57))))).symm, rfl⟩
    · refine rb_iload_n hV dX7_widthOf_23 rfl rfl ?_
      refine rb_bipush hV dX7_widthOf_24 (by decide) ?_
      refine rb_icmp_gt hV (tgt := 34) dX7_widthOf_26 (by decide) ⟨(by unfold ab_r at *; omega), (by unfold ab_r at *; omega)⟩ (fun c26 => ?_) (fun c26 => ?_)
      · refine rb_iload_n hV dX7_widthOf_34 rfl rfl ?_
        refine rb_callS hV (rest := []) dX7_widthOf_35 (c_X7_isDigit s z hz) lk_X7_16 rfl rfl ⟨rfl, rfl, (Nat.le_of_ble_eq_true rfl), (Nat.le_of_ble_eq_true rfl), (Nat.le_of_ble_eq_true rfl), (Nat.le_of_ble_eq_true rfl)⟩ (Nat.le_of_ble_eq_true rfl) (fun r9 h9 p9 => ?_)
        obtain ⟨rfl, rfl⟩ := p9
        show V 38 [some (.inl z)] [.inl (if 48 ≤ z ∧ z ≤ 57 then 1 else 0)] (WW s) 0 0
        by_cases e35 : 48 ≤ z ∧ z ≤ 57
        · rw [if_pos e35]
          show V 38 [some (.inl z)] [.inl 1] (WW s) 0 0
          refine rb_if_eq hV (tgt := 43) dX7_widthOf_38 (by decide) (by unfold ab_r at *; omega) (fun z => absurd z (by decide)) (fun _ => ?_)
          refine rb_iconst hV dX7_widthOf_41 ?_
          refine rb_ret hV (r := some (.inl 3)) dX7_widthOf_42 rfl ⟨(Nat.le_of_ble_eq_true rfl), (Nat.le_of_ble_eq_true rfl)⟩ trivial ?_
          exact ⟨congrArg (fun z : Int => some (Sum.inl z)) (show sgW z = 3 from (if_neg (by omega)).trans ((if_neg (by omega)).trans (if_pos (by omega)))).symm, rfl⟩
        · rw [if_neg e35]
          show V 38 [some (.inl z)] [.inl 0] (WW s) 0 0
          refine rb_if_eq hV (tgt := 43) dX7_widthOf_38 (by decide) (by unfold ab_r at *; omega) (fun _ => ?_) (fun z => absurd z (by decide))
          refine rb_iload_n hV dX7_widthOf_43 rfl rfl ?_
          refine rb_ldcS hV (i := 3) dX7_widthOf_44 rfl ?_
          refine rb_callS hV (rest := []) dX7_widthOf_46 (c_X7_isOneOf s 3 (by decide) z (by unfold ab_r; omega)) lk_X7_22 rfl rfl ⟨rfl, rfl, (Nat.le_of_ble_eq_true rfl), (Nat.le_of_ble_eq_true rfl), (Nat.le_of_ble_eq_true rfl), (Nat.le_of_ble_eq_true rfl)⟩ (Nat.le_of_ble_eq_true rfl) (fun r9 h9 p9 => ?_)
          obtain ⟨v9, rfl, rfl, hv9⟩ := p9
          rw [hasC_3] at hv9
          rcases hv9 with ⟨e46, rfl⟩ | ⟨e46, rfl⟩
          · show V 49 [some (.inl z)] [.inl 1] (WW s) 0 0
            refine rb_if_eq hV (tgt := 54) dX7_widthOf_49 (by decide) (by unfold ab_r at *; omega) (fun z => absurd z (by decide)) (fun _ => ?_)
            refine rb_iconst hV dX7_widthOf_52 ?_
            refine rb_ret hV (r := some (.inl 1)) dX7_widthOf_53 rfl ⟨(Nat.le_of_ble_eq_true rfl), (Nat.le_of_ble_eq_true rfl)⟩ trivial ?_
            exact ⟨congrArg (fun z : Int => some (Sum.inl z)) (show sgW z = 1 from (if_neg (by omega)).trans ((if_neg (by omega)).trans ((if_neg (by omega)).trans (if_pos e46)))).symm, rfl⟩
          · show V 49 [some (.inl z)] [.inl 0] (WW s) 0 0
            refine rb_if_eq hV (tgt := 54) dX7_widthOf_49 (by decide) (by unfold ab_r at *; omega) (fun _ => ?_) (fun z => absurd z (by decide))
            refine rb_iload_n hV dX7_widthOf_54 rfl rfl ?_
            refine rb_ldcS hV (i := 4) dX7_widthOf_55 rfl ?_
            refine rb_callS hV (rest := []) dX7_widthOf_57 (c_X7_isOneOf s 4 (by decide) z (by unfold ab_r; omega)) lk_X7_22 rfl rfl ⟨rfl, rfl, (Nat.le_of_ble_eq_true rfl), (Nat.le_of_ble_eq_true rfl), (Nat.le_of_ble_eq_true rfl), (Nat.le_of_ble_eq_true rfl)⟩ (Nat.le_of_ble_eq_true rfl) (fun r9 h9 p9 => ?_)
            obtain ⟨v9, rfl, rfl, hv9⟩ := p9
            rw [hasC_4] at hv9
            rcases hv9 with ⟨e57, rfl⟩ | ⟨e57, rfl⟩
            · show V 60 [some (.inl z)] [.inl 1] (WW s) 0 0
              refine rb_if_eq hV (tgt := 67) dX7_widthOf_60 (by decide) (by unfold ab_r at *; omega) (fun z => absurd z (by decide)) (fun _ => ?_)
              refine rb_iconst hV dX7_widthOf_63 ?_
              refine rb_goto hV (tgt := 68) dX7_widthOf_64 (by decide) ?_
              refine rb_ret hV (r := some (.inl 2)) dX7_widthOf_68 rfl ⟨(Nat.le_of_ble_eq_true rfl), (Nat.le_of_ble_eq_true rfl)⟩ trivial ?_
              exact ⟨congrArg (fun z : Int => some (Sum.inl z)) (show sgW z = 2 from (if_neg (by omega)).trans ((if_neg (by omega)).trans ((if_neg (by omega)).trans ((if_neg e46).trans (if_pos e57))))).symm, rfl⟩
            · show V 60 [some (.inl z)] [.inl 0] (WW s) 0 0
              refine rb_if_eq hV (tgt := 67) dX7_widthOf_60 (by decide) (by unfold ab_r at *; omega) (fun _ => ?_) (fun z => absurd z (by decide))
              refine rb_iconst hV dX7_widthOf_67 ?_
              refine rb_ret hV (r := some (.inl 0)) dX7_widthOf_68 rfl ⟨(Nat.le_of_ble_eq_true rfl), (Nat.le_of_ble_eq_true rfl)⟩ trivial ?_
              exact ⟨congrArg (fun z : Int => some (Sum.inl z)) (show sgW z = 0 from (if_neg (by omega)).trans ((if_neg (by omega)).trans ((if_neg (by omega)).trans ((if_neg e46).trans (if_neg e57))))).symm, rfl⟩
      · refine rb_iload_n hV dX7_widthOf_29 rfl rfl ?_
        refine rb_callS hV (rest := []) dX7_widthOf_30 (c_X7_capitalWidth s z hz) lk_X7_13 rfl rfl ⟨rfl, rfl, (Nat.le_of_ble_eq_true rfl), (Nat.le_of_ble_eq_true rfl), (Nat.le_of_ble_eq_true rfl), (Nat.le_of_ble_eq_true rfl)⟩ (Nat.le_of_ble_eq_true rfl) (fun r9 h9 p9 => ?_)
        obtain ⟨rfl, rfl⟩ := p9
        show V 33 [some (.inl z)] [.inl (sgC z)] (WW s) 0 0
        refine rb_ret hV (r := some (.inl (sgC z))) dX7_widthOf_33 rfl ⟨(Nat.le_of_ble_eq_true rfl), (Nat.le_of_ble_eq_true rfl)⟩ trivial ?_
        exact ⟨congrArg (fun z : Int => some (Sum.inl z)) (show sgW z = (sgC z) from (if_neg (by omega)).trans (if_pos (by omega))).symm, rfl⟩
  · refine rb_iload_n hV dX7_widthOf_6 rfl rfl ?_
    refine rb_bipush hV dX7_widthOf_7 (by decide) ?_
    refine rb_icmp_gt hV (tgt := 17) dX7_widthOf_9 (by decide) ⟨(by unfold ab_r at *; omega), (by unfold ab_r at *; omega)⟩ (fun c9 => ?_) (fun c9 => ?_)
    · refine rb_iload_n hV dX7_widthOf_17 rfl rfl ?_
      refine rb_bipush hV dX7_widthOf_18 (by decide) ?_
      refine rb_icmp_lt hV (tgt := 34) dX7_widthOf_20 (by decide) ⟨(by unfold ab_r at *; omega), (by unfold ab_r at *; omega)⟩ (fun c20 => ?_) (fun c20 => ?_)
      · refine rb_iload_n hV dX7_widthOf_34 rfl rfl ?_
        refine rb_callS hV (rest := []) dX7_widthOf_35 (c_X7_isDigit s z hz) lk_X7_16 rfl rfl ⟨rfl, rfl, (Nat.le_of_ble_eq_true rfl), (Nat.le_of_ble_eq_true rfl), (Nat.le_of_ble_eq_true rfl), (Nat.le_of_ble_eq_true rfl)⟩ (Nat.le_of_ble_eq_true rfl) (fun r9 h9 p9 => ?_)
        obtain ⟨rfl, rfl⟩ := p9
        show V 38 [some (.inl z)] [.inl (if 48 ≤ z ∧ z ≤ 57 then 1 else 0)] (WW s) 0 0
        by_cases e35 : 48 ≤ z ∧ z ≤ 57
        · rw [if_pos e35]
          show V 38 [some (.inl z)] [.inl 1] (WW s) 0 0
          refine rb_if_eq hV (tgt := 43) dX7_widthOf_38 (by decide) (by unfold ab_r at *; omega) (fun z => absurd z (by decide)) (fun _ => ?_)
          refine rb_iconst hV dX7_widthOf_41 ?_
          refine rb_ret hV (r := some (.inl 3)) dX7_widthOf_42 rfl ⟨(Nat.le_of_ble_eq_true rfl), (Nat.le_of_ble_eq_true rfl)⟩ trivial ?_
          exact ⟨congrArg (fun z : Int => some (Sum.inl z)) (show sgW z = 3 from (if_neg (by omega)).trans ((if_neg (by omega)).trans (if_pos (by omega)))).symm, rfl⟩
        · rw [if_neg e35]
          show V 38 [some (.inl z)] [.inl 0] (WW s) 0 0
          refine rb_if_eq hV (tgt := 43) dX7_widthOf_38 (by decide) (by unfold ab_r at *; omega) (fun _ => ?_) (fun z => absurd z (by decide))
          refine rb_iload_n hV dX7_widthOf_43 rfl rfl ?_
          refine rb_ldcS hV (i := 3) dX7_widthOf_44 rfl ?_
          refine rb_callS hV (rest := []) dX7_widthOf_46 (c_X7_isOneOf s 3 (by decide) z (by unfold ab_r; omega)) lk_X7_22 rfl rfl ⟨rfl, rfl, (Nat.le_of_ble_eq_true rfl), (Nat.le_of_ble_eq_true rfl), (Nat.le_of_ble_eq_true rfl), (Nat.le_of_ble_eq_true rfl)⟩ (Nat.le_of_ble_eq_true rfl) (fun r9 h9 p9 => ?_)
          obtain ⟨v9, rfl, rfl, hv9⟩ := p9
          rw [hasC_3] at hv9
          rcases hv9 with ⟨e46, rfl⟩ | ⟨e46, rfl⟩
          · show V 49 [some (.inl z)] [.inl 1] (WW s) 0 0
            refine rb_if_eq hV (tgt := 54) dX7_widthOf_49 (by decide) (by unfold ab_r at *; omega) (fun z => absurd z (by decide)) (fun _ => ?_)
            refine rb_iconst hV dX7_widthOf_52 ?_
            refine rb_ret hV (r := some (.inl 1)) dX7_widthOf_53 rfl ⟨(Nat.le_of_ble_eq_true rfl), (Nat.le_of_ble_eq_true rfl)⟩ trivial ?_
            exact ⟨congrArg (fun z : Int => some (Sum.inl z)) (show sgW z = 1 from (if_neg (by omega)).trans ((if_neg (by omega)).trans ((if_neg (by omega)).trans (if_pos e46)))).symm, rfl⟩
          · show V 49 [some (.inl z)] [.inl 0] (WW s) 0 0
            refine rb_if_eq hV (tgt := 54) dX7_widthOf_49 (by decide) (by unfold ab_r at *; omega) (fun _ => ?_) (fun z => absurd z (by decide))
            refine rb_iload_n hV dX7_widthOf_54 rfl rfl ?_
            refine rb_ldcS hV (i := 4) dX7_widthOf_55 rfl ?_
            refine rb_callS hV (rest := []) dX7_widthOf_57 (c_X7_isOneOf s 4 (by decide) z (by unfold ab_r; omega)) lk_X7_22 rfl rfl ⟨rfl, rfl, (Nat.le_of_ble_eq_true rfl), (Nat.le_of_ble_eq_true rfl), (Nat.le_of_ble_eq_true rfl), (Nat.le_of_ble_eq_true rfl)⟩ (Nat.le_of_ble_eq_true rfl) (fun r9 h9 p9 => ?_)
            obtain ⟨v9, rfl, rfl, hv9⟩ := p9
            rw [hasC_4] at hv9
            rcases hv9 with ⟨e57, rfl⟩ | ⟨e57, rfl⟩
            · show V 60 [some (.inl z)] [.inl 1] (WW s) 0 0
              refine rb_if_eq hV (tgt := 67) dX7_widthOf_60 (by decide) (by unfold ab_r at *; omega) (fun z => absurd z (by decide)) (fun _ => ?_)
              refine rb_iconst hV dX7_widthOf_63 ?_
              refine rb_goto hV (tgt := 68) dX7_widthOf_64 (by decide) ?_
              refine rb_ret hV (r := some (.inl 2)) dX7_widthOf_68 rfl ⟨(Nat.le_of_ble_eq_true rfl), (Nat.le_of_ble_eq_true rfl)⟩ trivial ?_
              exact ⟨congrArg (fun z : Int => some (Sum.inl z)) (show sgW z = 2 from (if_neg (by omega)).trans ((if_neg (by omega)).trans ((if_neg (by omega)).trans ((if_neg e46).trans (if_pos e57))))).symm, rfl⟩
            · show V 60 [some (.inl z)] [.inl 0] (WW s) 0 0
              refine rb_if_eq hV (tgt := 67) dX7_widthOf_60 (by decide) (by unfold ab_r at *; omega) (fun _ => ?_) (fun z => absurd z (by decide))
              refine rb_iconst hV dX7_widthOf_67 ?_
              refine rb_ret hV (r := some (.inl 0)) dX7_widthOf_68 rfl ⟨(Nat.le_of_ble_eq_true rfl), (Nat.le_of_ble_eq_true rfl)⟩ trivial ?_
              exact ⟨congrArg (fun z : Int => some (Sum.inl z)) (show sgW z = 0 from (if_neg (by omega)).trans ((if_neg (by omega)).trans ((if_neg (by omega)).trans ((if_neg e46).trans (if_neg e57))))).symm, rfl⟩
      · refine rb_iload_n hV dX7_widthOf_23 rfl rfl ?_
        refine rb_bipush hV dX7_widthOf_24 (by decide) ?_
        refine rb_icmp_gt hV (tgt := 34) dX7_widthOf_26 (by decide) ⟨(by unfold ab_r at *; omega), (by unfold ab_r at *; omega)⟩ (fun c26 => ?_) (fun c26 => ?_)
        · refine rb_iload_n hV dX7_widthOf_34 rfl rfl ?_
          refine rb_callS hV (rest := []) dX7_widthOf_35 (c_X7_isDigit s z hz) lk_X7_16 rfl rfl ⟨rfl, rfl, (Nat.le_of_ble_eq_true rfl), (Nat.le_of_ble_eq_true rfl), (Nat.le_of_ble_eq_true rfl), (Nat.le_of_ble_eq_true rfl)⟩ (Nat.le_of_ble_eq_true rfl) (fun r9 h9 p9 => ?_)
          obtain ⟨rfl, rfl⟩ := p9
          show V 38 [some (.inl z)] [.inl (if 48 ≤ z ∧ z ≤ 57 then 1 else 0)] (WW s) 0 0
          by_cases e35 : 48 ≤ z ∧ z ≤ 57
          · rw [if_pos e35]
            show V 38 [some (.inl z)] [.inl 1] (WW s) 0 0
            refine rb_if_eq hV (tgt := 43) dX7_widthOf_38 (by decide) (by unfold ab_r at *; omega) (fun z => absurd z (by decide)) (fun _ => ?_)
            refine rb_iconst hV dX7_widthOf_41 ?_
            refine rb_ret hV (r := some (.inl 3)) dX7_widthOf_42 rfl ⟨(Nat.le_of_ble_eq_true rfl), (Nat.le_of_ble_eq_true rfl)⟩ trivial ?_
            exact ⟨congrArg (fun z : Int => some (Sum.inl z)) (show sgW z = 3 from (if_neg (by omega)).trans ((if_neg (by omega)).trans (if_pos (by omega)))).symm, rfl⟩
          · rw [if_neg e35]
            show V 38 [some (.inl z)] [.inl 0] (WW s) 0 0
            refine rb_if_eq hV (tgt := 43) dX7_widthOf_38 (by decide) (by unfold ab_r at *; omega) (fun _ => ?_) (fun z => absurd z (by decide))
            refine rb_iload_n hV dX7_widthOf_43 rfl rfl ?_
            refine rb_ldcS hV (i := 3) dX7_widthOf_44 rfl ?_
            refine rb_callS hV (rest := []) dX7_widthOf_46 (c_X7_isOneOf s 3 (by decide) z (by unfold ab_r; omega)) lk_X7_22 rfl rfl ⟨rfl, rfl, (Nat.le_of_ble_eq_true rfl), (Nat.le_of_ble_eq_true rfl), (Nat.le_of_ble_eq_true rfl), (Nat.le_of_ble_eq_true rfl)⟩ (Nat.le_of_ble_eq_true rfl) (fun r9 h9 p9 => ?_)
            obtain ⟨v9, rfl, rfl, hv9⟩ := p9
            rw [hasC_3] at hv9
            rcases hv9 with ⟨e46, rfl⟩ | ⟨e46, rfl⟩
            · show V 49 [some (.inl z)] [.inl 1] (WW s) 0 0
              refine rb_if_eq hV (tgt := 54) dX7_widthOf_49 (by decide) (by unfold ab_r at *; omega) (fun z => absurd z (by decide)) (fun _ => ?_)
              refine rb_iconst hV dX7_widthOf_52 ?_
              refine rb_ret hV (r := some (.inl 1)) dX7_widthOf_53 rfl ⟨(Nat.le_of_ble_eq_true rfl), (Nat.le_of_ble_eq_true rfl)⟩ trivial ?_
              exact ⟨congrArg (fun z : Int => some (Sum.inl z)) (show sgW z = 1 from (if_neg (by omega)).trans ((if_neg (by omega)).trans ((if_neg (by omega)).trans (if_pos e46)))).symm, rfl⟩
            · show V 49 [some (.inl z)] [.inl 0] (WW s) 0 0
              refine rb_if_eq hV (tgt := 54) dX7_widthOf_49 (by decide) (by unfold ab_r at *; omega) (fun _ => ?_) (fun z => absurd z (by decide))
              refine rb_iload_n hV dX7_widthOf_54 rfl rfl ?_
              refine rb_ldcS hV (i := 4) dX7_widthOf_55 rfl ?_
              refine rb_callS hV (rest := []) dX7_widthOf_57 (c_X7_isOneOf s 4 (by decide) z (by unfold ab_r; omega)) lk_X7_22 rfl rfl ⟨rfl, rfl, (Nat.le_of_ble_eq_true rfl), (Nat.le_of_ble_eq_true rfl), (Nat.le_of_ble_eq_true rfl), (Nat.le_of_ble_eq_true rfl)⟩ (Nat.le_of_ble_eq_true rfl) (fun r9 h9 p9 => ?_)
              obtain ⟨v9, rfl, rfl, hv9⟩ := p9
              rw [hasC_4] at hv9
              rcases hv9 with ⟨e57, rfl⟩ | ⟨e57, rfl⟩
              · show V 60 [some (.inl z)] [.inl 1] (WW s) 0 0
                refine rb_if_eq hV (tgt := 67) dX7_widthOf_60 (by decide) (by unfold ab_r at *; omega) (fun z => absurd z (by decide)) (fun _ => ?_)
                refine rb_iconst hV dX7_widthOf_63 ?_
                refine rb_goto hV (tgt := 68) dX7_widthOf_64 (by decide) ?_
                refine rb_ret hV (r := some (.inl 2)) dX7_widthOf_68 rfl ⟨(Nat.le_of_ble_eq_true rfl), (Nat.le_of_ble_eq_true rfl)⟩ trivial ?_
                exact ⟨congrArg (fun z : Int => some (Sum.inl z)) (show sgW z = 2 from (if_neg (by omega)).trans ((if_neg (by omega)).trans ((if_neg (by omega)).trans ((if_neg e46).trans (if_pos e57))))).symm, rfl⟩
              · show V 60 [some (.inl z)] [.inl 0] (WW s) 0 0
                refine rb_if_eq hV (tgt := 67) dX7_widthOf_60 (by decide) (by unfold ab_r at *; omega) (fun _ => ?_) (fun z => absurd z (by decide))
                refine rb_iconst hV dX7_widthOf_67 ?_
                refine rb_ret hV (r := some (.inl 0)) dX7_widthOf_68 rfl ⟨(Nat.le_of_ble_eq_true rfl), (Nat.le_of_ble_eq_true rfl)⟩ trivial ?_
                exact ⟨congrArg (fun z : Int => some (Sum.inl z)) (show sgW z = 0 from (if_neg (by omega)).trans ((if_neg (by omega)).trans ((if_neg (by omega)).trans ((if_neg e46).trans (if_neg e57))))).symm, rfl⟩
        · refine rb_iload_n hV dX7_widthOf_29 rfl rfl ?_
          refine rb_callS hV (rest := []) dX7_widthOf_30 (c_X7_capitalWidth s z hz) lk_X7_13 rfl rfl ⟨rfl, rfl, (Nat.le_of_ble_eq_true rfl), (Nat.le_of_ble_eq_true rfl), (Nat.le_of_ble_eq_true rfl), (Nat.le_of_ble_eq_true rfl)⟩ (Nat.le_of_ble_eq_true rfl) (fun r9 h9 p9 => ?_)
          obtain ⟨rfl, rfl⟩ := p9
          show V 33 [some (.inl z)] [.inl (sgC z)] (WW s) 0 0
          refine rb_ret hV (r := some (.inl (sgC z))) dX7_widthOf_33 rfl ⟨(Nat.le_of_ble_eq_true rfl), (Nat.le_of_ble_eq_true rfl)⟩ trivial ?_
          exact ⟨congrArg (fun z : Int => some (Sum.inl z)) (show sgW z = (sgC z) from (if_neg (by omega)).trans (if_pos (by omega))).symm, rfl⟩
    · refine rb_iload_n hV dX7_widthOf_12 rfl rfl ?_
      refine rb_callS hV (rest := []) dX7_widthOf_13 (c_X7_smallLetterWidth s z hz) lk_X7_7 rfl rfl ⟨rfl, rfl, (Nat.le_of_ble_eq_true rfl), (Nat.le_of_ble_eq_true rfl), (Nat.le_of_ble_eq_true rfl), (Nat.le_of_ble_eq_true rfl)⟩ (Nat.le_of_ble_eq_true rfl) (fun r9 h9 p9 => ?_)
      obtain ⟨rfl, rfl⟩ := p9
      show V 16 [some (.inl z)] [.inl (sgS z)] (WW s) 0 0
      refine rb_ret hV (r := some (.inl (sgS z))) dX7_widthOf_16 rfl ⟨(Nat.le_of_ble_eq_true rfl), (Nat.le_of_ble_eq_true rfl)⟩ trivial ?_
      exact ⟨congrArg (fun z : Int => some (Sum.inl z)) (show sgW z = (sgS z) from if_pos (by omega)).symm, rfl⟩

set_option maxRecDepth 20000 in
theorem c_X7_kindBehind (s : Nat → Int → Int) (z : Int) (hz : 0 ≤ z ∧ z < 65536) : ab_Mt yX7_kindBehind cX7_kindBehind 1 (some .int) ({ frames := 5, cells := 0, slots := 0, locals := 112 } : Room) false 0 0 [.inl z] (WW s) (fun r h2 => r = some (.inl (sgK z)) ∧ h2 = WW s) := by
  refine ab_mk RX7 false rfl pn_X7_kindBehind (fun z => by cases z) (Nat.le_of_ble_eq_true rfl) (fun V hV => ?_)
  show V 0 [some (.inl z)] [] (WW s) 0 0
  refine rb_iload_n hV dX7_kindBehind_0 rfl rfl ?_
  refine rb_ldcS hV (i := 6) dX7_kindBehind_1 rfl ?_
  refine rb_callS hV (rest := []) dX7_kindBehind_3 (c_X7_isOneOf s 6 (by decide) z (by unfold ab_r; omega)) lk_X7_22 rfl rfl ⟨rfl, rfl, (Nat.le_of_ble_eq_true rfl), (Nat.le_of_ble_eq_true rfl), (Nat.le_of_ble_eq_true rfl), (Nat.le_of_ble_eq_true rfl)⟩ (Nat.le_of_ble_eq_true rfl) (fun r9 h9 p9 => ?_)
  obtain ⟨v9, rfl, rfl, hv9⟩ := p9
  rw [hasC_6] at hv9
  rcases hv9 with ⟨e3, rfl⟩ | ⟨e3, rfl⟩
  · show V 6 [some (.inl z)] [.inl 1] (WW s) 0 0
    refine rb_if_eq hV (tgt := 11) dX7_kindBehind_6 (by decide) (by unfold ab_r at *; omega) (fun z => absurd z (by decide)) (fun _ => ?_)
    refine rb_iconst hV dX7_kindBehind_9 ?_
    refine rb_ret hV (r := some (.inl 2)) dX7_kindBehind_10 rfl ⟨(Nat.le_of_ble_eq_true rfl), (Nat.le_of_ble_eq_true rfl)⟩ trivial ?_
    exact ⟨congrArg (fun z : Int => some (Sum.inl z)) (if_pos e3).symm, rfl⟩
  · show V 6 [some (.inl z)] [.inl 0] (WW s) 0 0
    refine rb_if_eq hV (tgt := 11) dX7_kindBehind_6 (by decide) (by unfold ab_r at *; omega) (fun _ => ?_) (fun z => absurd z (by decide))
    refine rb_iload_n hV dX7_kindBehind_11 rfl rfl ?_
    refine rb_ldcS hV (i := 7) dX7_kindBehind_12 rfl ?_
    refine rb_callS hV (rest := []) dX7_kindBehind_14 (c_X7_isOneOf s 7 (by decide) z (by unfold ab_r; omega)) lk_X7_22 rfl rfl ⟨rfl, rfl, (Nat.le_of_ble_eq_true rfl), (Nat.le_of_ble_eq_true rfl), (Nat.le_of_ble_eq_true rfl), (Nat.le_of_ble_eq_true rfl)⟩ (Nat.le_of_ble_eq_true rfl) (fun r9 h9 p9 => ?_)
    obtain ⟨v9, rfl, rfl, hv9⟩ := p9
    rw [hasC_7] at hv9
    rcases hv9 with ⟨e14, rfl⟩ | ⟨e14, rfl⟩
    · show V 17 [some (.inl z)] [.inl 1] (WW s) 0 0
      refine rb_if_eq hV (tgt := 24) dX7_kindBehind_17 (by decide) (by unfold ab_r at *; omega) (fun z => absurd z (by decide)) (fun _ => ?_)
      refine rb_iconst hV dX7_kindBehind_20 ?_
      refine rb_goto hV (tgt := 25) dX7_kindBehind_21 (by decide) ?_
      refine rb_ret hV (r := some (.inl 1)) dX7_kindBehind_25 rfl ⟨(Nat.le_of_ble_eq_true rfl), (Nat.le_of_ble_eq_true rfl)⟩ trivial ?_
      exact ⟨congrArg (fun z : Int => some (Sum.inl z)) ((if_neg e3).trans (if_pos e14)).symm, rfl⟩
    · show V 17 [some (.inl z)] [.inl 0] (WW s) 0 0
      refine rb_if_eq hV (tgt := 24) dX7_kindBehind_17 (by decide) (by unfold ab_r at *; omega) (fun _ => ?_) (fun z => absurd z (by decide))
      refine rb_iconst hV dX7_kindBehind_24 ?_
      refine rb_ret hV (r := some (.inl 0)) dX7_kindBehind_25 rfl ⟨(Nat.le_of_ble_eq_true rfl), (Nat.le_of_ble_eq_true rfl)⟩ trivial ?_
      exact ⟨congrArg (fun z : Int => some (Sum.inl z)) ((if_neg e3).trans (if_neg e14)).symm, rfl⟩

set_option maxRecDepth 20000 in
theorem c_X7_hangsLeft (s : Nat → Int → Int) (z : Int) (hz : 0 ≤ z ∧ z < 65536) : ab_Mt yX7_hangsLeft cX7_hangsLeft 1 (some .boolean) ({ frames := 5, cells := 0, slots := 0, locals := 112 } : Room) false 0 0 [.inl z] (WW s) (fun r h2 => r = some (.inl (if z = 39 ∨ z = 34 ∨ z = 40 then 1 else 0)) ∧ h2 = WW s) := by
  refine ab_mk RX7 false rfl pn_X7_hangsLeft (fun z => by cases z) (Nat.le_of_ble_eq_true rfl) (fun V hV => ?_)
  show V 0 [some (.inl z)] [] (WW s) 0 0
  refine rb_iload_n hV dX7_hangsLeft_0 rfl rfl ?_
  refine rb_ldcS hV (i := 5) dX7_hangsLeft_1 rfl ?_
  refine rb_callS hV (rest := []) dX7_hangsLeft_3 (c_X7_isOneOf s 5 (by decide) z (by unfold ab_r; omega)) lk_X7_22 rfl rfl ⟨rfl, rfl, (Nat.le_of_ble_eq_true rfl), (Nat.le_of_ble_eq_true rfl), (Nat.le_of_ble_eq_true rfl), (Nat.le_of_ble_eq_true rfl)⟩ (Nat.le_of_ble_eq_true rfl) (fun r9 h9 p9 => ?_)
  obtain ⟨v9, rfl, rfl, hv9⟩ := p9
  rw [hasC_5] at hv9
  rcases hv9 with ⟨e3, rfl⟩ | ⟨e3, rfl⟩
  · show V 6 [some (.inl z)] [.inl 1] (WW s) 0 0
    refine rb_ret hV (r := some (.inl 1)) dX7_hangsLeft_6 rfl ⟨(Nat.le_of_ble_eq_true rfl), (Nat.le_of_ble_eq_true rfl)⟩ (by first | exact Or.inl rfl | exact Or.inr rfl | omega) ?_
    exact ⟨congrArg (fun z : Int => some (Sum.inl z)) (if_pos e3).symm, rfl⟩
  · show V 6 [some (.inl z)] [.inl 0] (WW s) 0 0
    refine rb_ret hV (r := some (.inl 0)) dX7_hangsLeft_6 rfl ⟨(Nat.le_of_ble_eq_true rfl), (Nat.le_of_ble_eq_true rfl)⟩ (by first | exact Or.inl rfl | exact Or.inr rfl | omega) ?_
    exact ⟨congrArg (fun z : Int => some (Sum.inl z)) (if_neg e3).symm, rfl⟩

set_option maxRecDepth 20000 in
theorem c_X7_hangsRight (s : Nat → Int → Int) (z : Int) (hz : 0 ≤ z ∧ z < 65536) : ab_Mt yX7_hangsRight cX7_hangsRight 1 (some .boolean) ({ frames := 5, cells := 0, slots := 0, locals := 112 } : Room) false 0 0 [.inl z] (WW s) (fun r h2 => r = some (.inl (if z = 46 ∨ z = 44 ∨ z = 59 ∨ z = 58 ∨ z = 33 ∨ z = 63 ∨ z = 45 ∨ z = 39 ∨ z = 34 then 1 else 0)) ∧ h2 = WW s) := by
  refine ab_mk RX7 false rfl pn_X7_hangsRight (fun z => by cases z) (Nat.le_of_ble_eq_true rfl) (fun V hV => ?_)
  show V 0 [some (.inl z)] [] (WW s) 0 0
  refine rb_iload_n hV dX7_hangsRight_0 rfl rfl ?_
  refine rb_ldcS hV (i := 8) dX7_hangsRight_1 rfl ?_
  refine rb_callS hV (rest := []) dX7_hangsRight_3 (c_X7_isOneOf s 8 (by decide) z (by unfold ab_r; omega)) lk_X7_22 rfl rfl ⟨rfl, rfl, (Nat.le_of_ble_eq_true rfl), (Nat.le_of_ble_eq_true rfl), (Nat.le_of_ble_eq_true rfl), (Nat.le_of_ble_eq_true rfl)⟩ (Nat.le_of_ble_eq_true rfl) (fun r9 h9 p9 => ?_)
  obtain ⟨v9, rfl, rfl, hv9⟩ := p9
  rw [hasC_8] at hv9
  rcases hv9 with ⟨e3, rfl⟩ | ⟨e3, rfl⟩
  · show V 6 [some (.inl z)] [.inl 1] (WW s) 0 0
    refine rb_ret hV (r := some (.inl 1)) dX7_hangsRight_6 rfl ⟨(Nat.le_of_ble_eq_true rfl), (Nat.le_of_ble_eq_true rfl)⟩ (by first | exact Or.inl rfl | exact Or.inr rfl | omega) ?_
    exact ⟨congrArg (fun z : Int => some (Sum.inl z)) (if_pos e3).symm, rfl⟩
  · show V 6 [some (.inl z)] [.inl 0] (WW s) 0 0
    refine rb_ret hV (r := some (.inl 0)) dX7_hangsRight_6 rfl ⟨(Nat.le_of_ble_eq_true rfl), (Nat.le_of_ble_eq_true rfl)⟩ (by first | exact Or.inl rfl | exact Or.inr rfl | omega) ?_
    exact ⟨congrArg (fun z : Int => some (Sum.inl z)) (if_neg e3).symm, rfl⟩

/-- the first sign that a paragraph may not have, or -1 -/
def FLT (t : Int → Int) (n v : Int) : Prop := (v = -1 ∧ ∀ q, 0 ≤ q → q < n → okc (t q)) ∨ (0 ≤ v ∧ v < n ∧ ¬ okc (t v) ∧ ∀ q, 0 ≤ q → q < v → okc (t q))

set_option maxRecDepth 20000 in
theorem c_X8_paragraphFault (s : Nat → Int → Int) (hn : 0 ≤ s 104 0 ∧ s 104 0 ≤ 120) (ht : ∀ v, 0 ≤ s 22 v ∧ s 22 v < 65536) : ab_Mt yX8_paragraphFault cX8_paragraphFault 2 (some .int) ({ frames := 7, cells := 0, slots := 0, locals := 152 } : Room) false 0 0 [.inr (some 21)] (WW s) (fun r h2 => ∃ v, r = some (.inl v) ∧ h2 = WW s ∧ FLT (s 22) (s 104 0) v) := by
  refine ab_mk RX8 false rfl pn_X8_paragraphFault (fun z => by cases z) (Nat.le_of_ble_eq_true rfl) (fun V hV => ?_)
  show V 0 [some (.inr (some 21)), none] [] (WW s) 0 0
  refine rb_iconst hV dX8_paragraphFault_0 ?_
  refine rb_istore_n hV (L2 := [some (.inr (some 21)), some (.inl 0)]) dX8_paragraphFault_1 rfl (Nat.le_of_ble_eq_true rfl) rfl ?_
  have h2 : ∀ (n2 : Nat) (k : Int), (0 ≤ k ∧ k ≤ s 104 0) → (∀ q, 0 ≤ q → q < k → okc (s 22 q)) → ((s 104 0 - k).toNat) < n2 → V 2 [some (.inr (some 21)), some (.inl k)] [] (WW s) 0 0 := by
    intro n2
    induction n2 with
    | zero => intro k h1 h2 hm; omega
    | succ n2 ih2 =>
      intro k h1 h2 hm
      have htk := ht k
      refine rb_iload_n hV dX8_paragraphFault_2 rfl rfl ?_
      refine rb_aload_n hV dX8_paragraphFault_3 rfl rfl ?_
      refine rb_get hV (v := .inl (s 104 0)) dX8_paragraphFault_4 ⟨RX8, TX8, 2, rfl, (Nat.le_of_ble_eq_true rfl), lf_X8_15⟩ (gw_21 _) rfl ?_
      refine rb_icmp_ge hV (tgt := 41) dX8_paragraphFault_7 (by decide) ⟨(by unfold ab_r at *; omega), (by unfold ab_r at *; omega)⟩ (fun c7 => ?_) (fun c7 => ?_)
      · refine rb_iconst hV dX8_paragraphFault_41 ?_
        refine rb_ret hV (r := some (.inl (-1))) dX8_paragraphFault_42 rfl ⟨(Nat.le_of_ble_eq_true rfl), (Nat.le_of_ble_eq_true rfl)⟩ trivial ?_
        exact ⟨_, rfl, rfl, Or.inl ⟨rfl, fun q q1 q2 => h2 q q1 (by omega)⟩⟩
      · refine rb_aload_n hV dX8_paragraphFault_10 rfl rfl ?_
        refine rb_get hV (v := .inr (some 22)) dX8_paragraphFault_11 ⟨RX8, TX8, 2, rfl, (Nat.le_of_ble_eq_true rfl), lf_X8_9⟩ (gw_21 _) rfl ?_
        refine rb_iload_n hV dX8_paragraphFault_14 rfl rfl ?_
        refine rb_cald hV (f := (s 22)) dX8_paragraphFault_15 (gw_22 _) (Nat.le_of_ble_eq_true rfl) (by omega) ?_
        refine rb_bipush hV dX8_paragraphFault_16 (by decide) ?_
        refine rb_icmp_eq hV (tgt := 35) dX8_paragraphFault_18 (by decide) ⟨(by unfold ab_r at *; omega), (by unfold ab_r at *; omega)⟩ (fun c18 => ?_) (fun c18 => ?_)
        · refine rb_iinc hV (L2 := [some (.inr (some 21)), some (.inl (k + 1))]) dX8_paragraphFault_35 rfl rfl rfl ?_
          refine rb_goto hV (tgt := 2) dX8_paragraphFault_38 (by decide) ?_
          refine ih2 (k + 1) ?_ ?_ ?_
          · omega
          · intro q q1 q2
            by_cases hq : q = k
            · rw [hq]
              exact Or.inl c18
            · exact h2 q q1 (by omega)
          · omega
        · refine rb_aload_n hV dX8_paragraphFault_21 rfl rfl ?_
          refine rb_get hV (v := .inr (some 22)) dX8_paragraphFault_22 ⟨RX8, TX8, 2, rfl, (Nat.le_of_ble_eq_true rfl), lf_X8_9⟩ (gw_21 _) rfl ?_
          refine rb_iload_n hV dX8_paragraphFault_25 rfl rfl ?_
          refine rb_cald hV (f := (s 22)) dX8_paragraphFault_26 (gw_22 _) (Nat.le_of_ble_eq_true rfl) (by omega) ?_
          refine rb_callS hV (rest := []) dX8_paragraphFault_27 (c_X7_widthOf s (s 22 k) (ht k)) lk_X8_19 rfl rfl ⟨rfl, rfl, (Nat.le_of_ble_eq_true rfl), (Nat.le_of_ble_eq_true rfl), (Nat.le_of_ble_eq_true rfl), (Nat.le_of_ble_eq_true rfl)⟩ (Nat.le_of_ble_eq_true rfl) (fun r9 h9 p9 => ?_)
          obtain ⟨rfl, rfl⟩ := p9
          show V 30 [some (.inr (some 21)), some (.inl k)] [.inl (sgW (s 22 k))] (WW s) 0 0
          refine rb_if_ne hV (tgt := 35) dX8_paragraphFault_30 (by decide) (by have := sgW_b (s 22 k); unfold ab_r; omega) (fun c30 => ?_) (fun c30 => ?_)
          · refine rb_iinc hV (L2 := [some (.inr (some 21)), some (.inl (k + 1))]) dX8_paragraphFault_35 rfl rfl rfl ?_
            refine rb_goto hV (tgt := 2) dX8_paragraphFault_38 (by decide) ?_
            refine ih2 (k + 1) ?_ ?_ ?_
            · omega
            · intro q q1 q2
              by_cases hq : q = k
              · rw [hq]
                exact Or.inr c30
              · exact h2 q q1 (by omega)
            · omega
          · refine rb_iload_n hV dX8_paragraphFault_33 rfl rfl ?_
            refine rb_ret hV (r := some (.inl k)) dX8_paragraphFault_34 rfl ⟨(Nat.le_of_ble_eq_true rfl), (Nat.le_of_ble_eq_true rfl)⟩ trivial ?_
            exact ⟨_, rfl, rfl, Or.inr ⟨h1.1, by omega, fun q => q.elim (fun z => c18 z) (fun z => z c30), h2⟩⟩
  refine h2 _ 0 ?_ ?_ (Nat.lt_succ_self _)
  · omega
  · intro q q1 q2; omega

set_option maxRecDepth 20000 in
theorem c_X8_endOfPiece (s : Nat → Int → Int) (a : Int) (ha : 0 ≤ a ∧ a ≤ s 104 0) (hn : 0 ≤ s 104 0 ∧ s 104 0 ≤ 120) (ht : ∀ v, 0 ≤ s 22 v ∧ s 22 v < 65536) : ab_Mt yX8_endOfPiece cX8_endOfPiece 3 (some .int) ({ frames := 0, cells := 0, slots := 0, locals := 0 } : Room) false 0 0 [.inr (some 21), .inl a] (WW s) (fun r h2 => r = some (.inl (eo (s 22) a (s 104 0 - a).toNat)) ∧ h2 = WW s) := by
  refine ab_mk RX8 false rfl pn_X8_endOfPiece (fun z => by cases z) (Nat.le_of_ble_eq_true rfl) (fun V hV => ?_)
  show V 0 [some (.inr (some 21)), some (.inl a), none] [] (WW s) 0 0
  refine rb_iload_n hV dX8_endOfPiece_0 rfl rfl ?_
  refine rb_istore_n hV (L2 := [some (.inr (some 21)), some (.inl a), some (.inl a)]) dX8_endOfPiece_1 rfl (Nat.le_of_ble_eq_true rfl) rfl ?_
  have h2 : ∀ (n2 : Nat) (k : Int), (a ≤ k ∧ k ≤ s 104 0) → (eo (s 22) a (s 104 0 - a).toNat = eo (s 22) k (s 104 0 - k).toNat) → ((s 104 0 - k).toNat) < n2 → V 2 [some (.inr (some 21)), some (.inl a), some (.inl k)] [] (WW s) 0 0 := by
    intro n2
    induction n2 with
    | zero => intro k h1 h2 hm; omega
    | succ n2 ih2 =>
      intro k h1 h2 hm
      have htk := ht k
      refine rb_iload_n hV dX8_endOfPiece_2 rfl rfl ?_
      refine rb_aload_n hV dX8_endOfPiece_3 rfl rfl ?_
      refine rb_get hV (v := .inl (s 104 0)) dX8_endOfPiece_4 ⟨RX8, TX8, 2, rfl, (Nat.le_of_ble_eq_true rfl), lf_X8_15⟩ (gw_21 _) rfl ?_
      refine rb_icmp_ge hV (tgt := 29) dX8_endOfPiece_7 (by decide) ⟨(by unfold ab_r at *; omega), (by unfold ab_r at *; omega)⟩ (fun c7 => ?_) (fun c7 => ?_)
      · refine rb_aload_n hV dX8_endOfPiece_29 rfl rfl ?_
        refine rb_get hV (v := .inl (s 104 0)) dX8_endOfPiece_30 ⟨RX8, TX8, 2, rfl, (Nat.le_of_ble_eq_true rfl), lf_X8_15⟩ (gw_21 _) rfl ?_
        refine rb_ret hV (r := some (.inl (s 104 0))) dX8_endOfPiece_33 rfl ⟨(Nat.le_of_ble_eq_true rfl), (Nat.le_of_ble_eq_true rfl)⟩ trivial ?_
        exact ⟨congrArg (fun z : Int => some (Sum.inl z)) (by rw [h2, show (s 104 0 - k).toNat = 0 by omega]; show s 104 0 = k; omega), rfl⟩
      · refine rb_aload_n hV dX8_endOfPiece_10 rfl rfl ?_
        refine rb_get hV (v := .inr (some 22)) dX8_endOfPiece_11 ⟨RX8, TX8, 2, rfl, (Nat.le_of_ble_eq_true rfl), lf_X8_9⟩ (gw_21 _) rfl ?_
        refine rb_iload_n hV dX8_endOfPiece_14 rfl rfl ?_
        refine rb_cald hV (f := (s 22)) dX8_endOfPiece_15 (gw_22 _) (Nat.le_of_ble_eq_true rfl) (by omega) ?_
        refine rb_bipush hV dX8_endOfPiece_16 (by decide) ?_
        refine rb_icmp_ne hV (tgt := 23) dX8_endOfPiece_18 (by decide) ⟨(by unfold ab_r at *; omega), (by unfold ab_r at *; omega)⟩ (fun c18 => ?_) (fun c18 => ?_)
        · refine rb_iinc hV (L2 := [some (.inr (some 21)), some (.inl a), some (.inl (k + 1))]) dX8_endOfPiece_23 rfl rfl rfl ?_
          refine rb_goto hV (tgt := 2) dX8_endOfPiece_26 (by decide) ?_
          refine ih2 (k + 1) ?_ ?_ ?_
          · omega
          · rw [h2, show (s 104 0 - k).toNat = (s 104 0 - (k + 1)).toNat + 1 by omega]
            exact if_neg c18
          · omega
        · refine rb_iload_n hV dX8_endOfPiece_21 rfl rfl ?_
          refine rb_ret hV (r := some (.inl k)) dX8_endOfPiece_22 rfl ⟨(Nat.le_of_ble_eq_true rfl), (Nat.le_of_ble_eq_true rfl)⟩ trivial ?_
          exact ⟨congrArg (fun z : Int => some (Sum.inl z)) (by rw [h2, show (s 104 0 - k).toNat = (s 104 0 - (k + 1)).toNat + 1 by omega]; exact (if_pos c18).symm), rfl⟩
  refine h2 _ a ?_ ?_ (Nat.lt_succ_self _)
  · omega
  · rfl

set_option maxRecDepth 20000 in
theorem c_X8_isName (s : Nat → Int → Int) (i : Nat) (hi : i < 16) (a b : Int) (ha : 0 ≤ a ∧ a ≤ 121) (hb : 0 ≤ b ∧ b ≤ 120) (hn : 0 ≤ s 104 0 ∧ s 104 0 ≤ 120) (ht : ∀ v, 0 ≤ s 22 v ∧ s 22 v < 65536) : ab_Mt yX8_isName cX8_isName 5 (some .boolean) ({ frames := 4, cells := 0, slots := 0, locals := 85 } : Room) false 0 0 [.inr (some 21), .inl a, .inl b, .inr (some (1000 + i))] (WW s) (fun r h2 => ∃ v, r = some (.inl v) ∧ h2 = WW s ∧ ((isNm (s 22) (s 104 0) i a b ∧ v = 1) ∨ (¬ isNm (s 22) (s 104 0) i a b ∧ v = 0))) := by
  refine ab_mk RX8 false rfl pn_X8_isName (fun z => by cases z) (Nat.le_of_ble_eq_true rfl) (fun V hV => ?_)
  show V 0 [some (.inr (some 21)), some (.inl a), some (.inl b), some (.inr (some (1000 + i))), none] [] (WW s) 0 0
  have hle := xs_len i hi
  refine rb_iload_n hV dX8_isName_0 rfl rfl ?_
  refine rb_if_lt hV (tgt := 22) dX8_isName_1 (by decide) (by unfold ab_r at *; omega) (fun c1 => ?_) (fun c1 => ?_)
  · refine rb_iconst hV dX8_isName_22 ?_
    refine rb_ret hV (r := some (.inl 0)) dX8_isName_23 rfl ⟨(Nat.le_of_ble_eq_true rfl), (Nat.le_of_ble_eq_true rfl)⟩ (by first | exact Or.inl rfl | exact Or.inr rfl | omega) ?_
    exact ⟨_, rfl, rfl, Or.inr ⟨fun q => by have q1 := q.1; have q2 := q.2.1; have q3 := q.2.2.1; omega, rfl⟩⟩
  · refine rb_iload_n hV dX8_isName_4 rfl rfl ?_
    refine rb_aload_n hV dX8_isName_5 rfl rfl ?_
    refine rb_get hV (v := .inl (s 104 0)) dX8_isName_6 ⟨RX8, TX8, 2, rfl, (Nat.le_of_ble_eq_true rfl), lf_X8_15⟩ (gw_21 _) rfl ?_
    refine rb_icmp_gt hV (tgt := 22) dX8_isName_9 (by decide) ⟨(by unfold ab_r at *; omega), (by unfold ab_r at *; omega)⟩ (fun c9 => ?_) (fun c9 => ?_)
    · refine rb_iconst hV dX8_isName_22 ?_
      refine rb_ret hV (r := some (.inl 0)) dX8_isName_23 rfl ⟨(Nat.le_of_ble_eq_true rfl), (Nat.le_of_ble_eq_true rfl)⟩ (by first | exact Or.inl rfl | exact Or.inr rfl | omega) ?_
      exact ⟨_, rfl, rfl, Or.inr ⟨fun q => by have q1 := q.1; have q2 := q.2.1; have q3 := q.2.2.1; omega, rfl⟩⟩
    · refine rb_iload_n hV dX8_isName_12 rfl rfl ?_
      refine rb_iload_n hV dX8_isName_13 rfl rfl ?_
      refine rb_isub hV dX8_isName_14 ?_
      refine rb_aload_n hV dX8_isName_15 rfl rfl ?_
      refine rb_callV hV (rest := [.inl (b - a)]) dX8_isName_16 (c_J0_length_8abf5 s i hi) lk_X8_25 rfl (Or.inr ⟨rfl, _, hi, rfl⟩) rfl ⟨rfl, rfl, (Nat.le_of_ble_eq_true rfl), (Nat.le_of_ble_eq_true rfl), (Nat.le_of_ble_eq_true rfl), (Nat.le_of_ble_eq_true rfl)⟩ (Nat.le_of_ble_eq_true rfl) (fun r9 h9 p9 => ?_)
      obtain ⟨rfl, rfl⟩ := p9
      show V 19 [some (.inr (some 21)), some (.inl a), some (.inl b), some (.inr (some (1000 + i))), none] [.inl ((xsL.getD i 0 : Nat) : Int), .inl (b - a)] (WW s) 0 0
      refine rb_icmp_eq hV (tgt := 24) dX8_isName_19 (by decide) ⟨(by unfold ab_r at *; omega), (by unfold ab_r at *; omega)⟩ (fun c19 => ?_) (fun c19 => ?_)
      · refine rb_iload_n hV dX8_isName_24 rfl rfl ?_
        refine rb_istore hV (L2 := [some (.inr (some 21)), some (.inl a), some (.inl b), some (.inr (some (1000 + i))), some (.inl a)]) dX8_isName_25 (Nat.le_of_ble_eq_true rfl) rfl ?_
        have h27 : ∀ (n27 : Nat) (k : Int), (a ≤ k ∧ k ≤ b) → (∀ q, a ≤ q → q < k → s 22 q = bt i (q - a)) → ((b - k).toNat) < n27 → V 27 [some (.inr (some 21)), some (.inl a), some (.inl b), some (.inr (some (1000 + i))), some (.inl k)] [] (WW s) 0 0 := by
          intro n27
          induction n27 with
          | zero => intro k h1 h2 hm; omega
          | succ n27 ih27 =>
            intro k h1 h2 hm
            have htk := ht k
            refine rb_iload hV dX8_isName_27 rfl ?_
            refine rb_iload_n hV dX8_isName_29 rfl rfl ?_
            refine rb_icmp_ge hV (tgt := 59) dX8_isName_30 (by decide) ⟨(by unfold ab_r at *; omega), (by unfold ab_r at *; omega)⟩ (fun c30 => ?_) (fun c30 => ?_)
            · refine rb_iconst hV dX8_isName_59 ?_
              refine rb_ret hV (r := some (.inl 1)) dX8_isName_60 rfl ⟨(Nat.le_of_ble_eq_true rfl), (Nat.le_of_ble_eq_true rfl)⟩ (by first | exact Or.inl rfl | exact Or.inr rfl | omega) ?_
              exact ⟨_, rfl, rfl, Or.inl ⟨⟨by omega, by omega, by omega, fun q q1 q2 => h2 q q1 (by omega)⟩, rfl⟩⟩
            · refine rb_aload_n hV dX8_isName_33 rfl rfl ?_
              refine rb_get hV (v := .inr (some 22)) dX8_isName_34 ⟨RX8, TX8, 2, rfl, (Nat.le_of_ble_eq_true rfl), lf_X8_9⟩ (gw_21 _) rfl ?_
              refine rb_iload hV dX8_isName_37 rfl ?_
              refine rb_cald hV (f := (s 22)) dX8_isName_39 (gw_22 _) (Nat.le_of_ble_eq_true rfl) (by omega) ?_
              refine rb_aload_n hV dX8_isName_40 rfl rfl ?_
              refine rb_iload hV dX8_isName_41 rfl ?_
              refine rb_iload_n hV dX8_isName_43 rfl rfl ?_
              refine rb_isub hV dX8_isName_44 ?_
              refine rb_callV hV (rest := [.inl (s 22 k)]) dX8_isName_45 (c_J0_charAt_5068e s i hi (k - a) (by omega)) lk_X8_30 rfl (Or.inr ⟨rfl, _, hi, rfl⟩) rfl ⟨rfl, rfl, (Nat.le_of_ble_eq_true rfl), (Nat.le_of_ble_eq_true rfl), (Nat.le_of_ble_eq_true rfl), (Nat.le_of_ble_eq_true rfl)⟩ (Nat.le_of_ble_eq_true rfl) (fun r9 h9 p9 => ?_)
              obtain ⟨rfl, rfl⟩ := p9
              show V 48 [some (.inr (some 21)), some (.inl a), some (.inl b), some (.inr (some (1000 + i))), some (.inl k)] [.inl (bt i (k - a)), .inl (s 22 k)] (WW s) 0 0
              have hbk := bt_b hi (j := k - a) ⟨by omega, by omega⟩
              refine rb_icmp_eq hV (tgt := 53) dX8_isName_48 (by decide) ⟨(by unfold ab_r at *; omega), (by unfold ab_r at *; omega)⟩ (fun c48 => ?_) (fun c48 => ?_)
              · refine rb_iinc hV (L2 := [some (.inr (some 21)), some (.inl a), some (.inl b), some (.inr (some (1000 + i))), some (.inl (k + 1))]) dX8_isName_53 rfl rfl rfl ?_
                refine rb_goto hV (tgt := 27) dX8_isName_56 (by decide) ?_
                refine ih27 (k + 1) ?_ ?_ ?_
                · omega
                · intro q q1 q2
                  by_cases hq : q = k
                  · rw [hq]
                    exact c48
                  · exact h2 q q1 (by omega)
                · omega
              · refine rb_iconst hV dX8_isName_51 ?_
                refine rb_ret hV (r := some (.inl 0)) dX8_isName_52 rfl ⟨(Nat.le_of_ble_eq_true rfl), (Nat.le_of_ble_eq_true rfl)⟩ (by first | exact Or.inl rfl | exact Or.inr rfl | omega) ?_
                exact ⟨_, rfl, rfl, Or.inr ⟨fun q => c48 (q.2.2.2 k h1.1 (by omega)), rfl⟩⟩
        refine h27 _ a ?_ ?_ (Nat.lt_succ_self _)
        · omega
        · intro q q1 q2; omega
      · refine rb_iconst hV dX8_isName_22 ?_
        refine rb_ret hV (r := some (.inl 0)) dX8_isName_23 rfl ⟨(Nat.le_of_ble_eq_true rfl), (Nat.le_of_ble_eq_true rfl)⟩ (by first | exact Or.inl rfl | exact Or.inr rfl | omega) ?_
        exact ⟨_, rfl, rfl, Or.inr ⟨fun q => by have q1 := q.1; have q2 := q.2.1; have q3 := q.2.2.1; omega, rfl⟩⟩

set_option maxRecDepth 20000 in
theorem c_X8_numberAt (s : Nat → Int → Int) (a b : Int) (ha : 0 ≤ a ∧ a ≤ 121) (hb : 0 ≤ b ∧ b ≤ s 104 0) (hn : 0 ≤ s 104 0 ∧ s 104 0 ≤ 120) (ht : ∀ v, 0 ≤ s 22 v ∧ s 22 v < 65536) : ab_Mt yX8_numberAt cX8_numberAt 5 (some .int) ({ frames := 1, cells := 0, slots := 0, locals := 20 } : Room) false 0 0 [.inr (some 21), .inl a, .inl b] (WW s) (fun r h2 => ∃ v, r = some (.inl v) ∧ h2 = WW s ∧ ((v = -1 ∧ ¬ isNu (s 22) a b) ∨ (isNu (s 22) a b ∧ v = nv (s 22) a (b - a).toNat))) := by
  refine ab_mk RX8 false rfl pn_X8_numberAt (fun z => by cases z) (Nat.le_of_ble_eq_true rfl) (fun V hV => ?_)
  show V 0 [some (.inr (some 21)), some (.inl a), some (.inl b), none, none] [] (WW s) 0 0
  refine rb_iload_n hV dX8_numberAt_0 rfl rfl ?_
  refine rb_if_lt hV (tgt := 26) dX8_numberAt_1 (by decide) (by unfold ab_r at *; omega) (fun c1 => ?_) (fun c1 => ?_)
  · refine rb_iconst hV dX8_numberAt_26 ?_
    refine rb_ret hV (r := some (.inl (-1))) dX8_numberAt_27 rfl ⟨(Nat.le_of_ble_eq_true rfl), (Nat.le_of_ble_eq_true rfl)⟩ trivial ?_
    exact ⟨_, rfl, rfl, Or.inl ⟨rfl, fun q => by have q1 := q.1; have q2 := q.2.1; omega⟩⟩
  · refine rb_iload_n hV dX8_numberAt_4 rfl rfl ?_
    refine rb_aload_n hV dX8_numberAt_5 rfl rfl ?_
    refine rb_get hV (v := .inl (s 104 0)) dX8_numberAt_6 ⟨RX8, TX8, 2, rfl, (Nat.le_of_ble_eq_true rfl), lf_X8_15⟩ (gw_21 _) rfl ?_
    refine rb_icmp_gt hV (tgt := 26) dX8_numberAt_9 (by decide) ⟨(by unfold ab_r at *; omega), (by unfold ab_r at *; omega)⟩ (fun c9 => ?_) (fun c9 => ?_)
    · refine rb_iconst hV dX8_numberAt_26 ?_
      refine rb_ret hV (r := some (.inl (-1))) dX8_numberAt_27 rfl ⟨(Nat.le_of_ble_eq_true rfl), (Nat.le_of_ble_eq_true rfl)⟩ trivial ?_
      exact ⟨_, rfl, rfl, Or.inl ⟨rfl, fun q => by have q1 := q.1; have q2 := q.2.1; omega⟩⟩
    · refine rb_iload_n hV dX8_numberAt_12 rfl rfl ?_
      refine rb_iload_n hV dX8_numberAt_13 rfl rfl ?_
      refine rb_isub hV dX8_numberAt_14 ?_
      refine rb_iconst hV dX8_numberAt_15 ?_
      refine rb_icmp_lt hV (tgt := 26) dX8_numberAt_16 (by decide) ⟨(by unfold ab_r at *; omega), (by unfold ab_r at *; omega)⟩ (fun c16 => ?_) (fun c16 => ?_)
      · refine rb_iconst hV dX8_numberAt_26 ?_
        refine rb_ret hV (r := some (.inl (-1))) dX8_numberAt_27 rfl ⟨(Nat.le_of_ble_eq_true rfl), (Nat.le_of_ble_eq_true rfl)⟩ trivial ?_
        exact ⟨_, rfl, rfl, Or.inl ⟨rfl, fun q => by have q1 := q.1; have q2 := q.2.1; omega⟩⟩
      · refine rb_iload_n hV dX8_numberAt_19 rfl rfl ?_
        refine rb_iload_n hV dX8_numberAt_20 rfl rfl ?_
        refine rb_isub hV dX8_numberAt_21 ?_
        refine rb_iconst hV dX8_numberAt_22 ?_
        refine rb_icmp_le hV (tgt := 28) dX8_numberAt_23 (by decide) ⟨(by unfold ab_r at *; omega), (by unfold ab_r at *; omega)⟩ (fun c23 => ?_) (fun c23 => ?_)
        · refine rb_iconst hV dX8_numberAt_28 ?_
          refine rb_istore_n hV (L2 := [some (.inr (some 21)), some (.inl a), some (.inl b), some (.inl 0), none]) dX8_numberAt_29 rfl (Nat.le_of_ble_eq_true rfl) rfl ?_
          refine rb_iload_n hV dX8_numberAt_30 rfl rfl ?_
          refine rb_istore hV (L2 := [some (.inr (some 21)), some (.inl a), some (.inl b), some (.inl 0), some (.inl a)]) dX8_numberAt_31 (Nat.le_of_ble_eq_true rfl) rfl ?_
          have h33 : ∀ (n33 : Nat) (v : Int) (k : Int), (a ≤ k ∧ k ≤ b) → (∀ q, a ≤ q → q < k → 48 ≤ s 22 q ∧ s 22 q ≤ 57) → (v = nv (s 22) a (k - a).toNat) → ((b - k).toNat) < n33 → V 33 [some (.inr (some 21)), some (.inl a), some (.inl b), some (.inl v), some (.inl k)] [] (WW s) 0 0 := by
            intro n33
            induction n33 with
            | zero => intro v k h1 h2 h3 hm; omega
            | succ n33 ih33 =>
              intro v k h1 h2 h3 hm
              have htk := ht k
              refine rb_iload hV dX8_numberAt_33 rfl ?_
              refine rb_iload_n hV dX8_numberAt_35 rfl rfl ?_
              refine rb_icmp_ge hV (tgt := 76) dX8_numberAt_36 (by decide) ⟨(by unfold ab_r at *; omega), (by unfold ab_r at *; omega)⟩ (fun c36 => ?_) (fun c36 => ?_)
              · refine rb_iload_n hV dX8_numberAt_76 rfl rfl ?_
                refine rb_ret hV (r := some (.inl v)) dX8_numberAt_77 rfl ⟨(Nat.le_of_ble_eq_true rfl), (Nat.le_of_ble_eq_true rfl)⟩ trivial ?_
                exact ⟨_, rfl, rfl, Or.inr ⟨⟨by omega, by omega, fun q q1 q2 => h2 q q1 (by omega)⟩, by rw [h3, show k = b by omega]⟩⟩
              · refine rb_aload_n hV dX8_numberAt_39 rfl rfl ?_
                refine rb_get hV (v := .inr (some 22)) dX8_numberAt_40 ⟨RX8, TX8, 2, rfl, (Nat.le_of_ble_eq_true rfl), lf_X8_9⟩ (gw_21 _) rfl ?_
                refine rb_iload hV dX8_numberAt_43 rfl ?_
                refine rb_cald hV (f := (s 22)) dX8_numberAt_45 (gw_22 _) (Nat.le_of_ble_eq_true rfl) (by omega) ?_
                refine rb_callS hV (rest := []) dX8_numberAt_46 (c_X7_isDigit s (s 22 k) (ht k)) lk_X8_34 rfl rfl ⟨rfl, rfl, (Nat.le_of_ble_eq_true rfl), (Nat.le_of_ble_eq_true rfl), (Nat.le_of_ble_eq_true rfl), (Nat.le_of_ble_eq_true rfl)⟩ (Nat.le_of_ble_eq_true rfl) (fun r9 h9 p9 => ?_)
                obtain ⟨rfl, rfl⟩ := p9
                show V 49 [some (.inr (some 21)), some (.inl a), some (.inl b), some (.inl v), some (.inl k)] [.inl (if 48 ≤ (s 22 k) ∧ (s 22 k) ≤ 57 then 1 else 0)] (WW s) 0 0
                by_cases e46 : 48 ≤ (s 22 k) ∧ (s 22 k) ≤ 57
                · rw [if_pos e46]
                  show V 49 [some (.inr (some 21)), some (.inl a), some (.inl b), some (.inl v), some (.inl k)] [.inl 1] (WW s) 0 0
                  refine rb_if_ne hV (tgt := 54) dX8_numberAt_49 (by decide) (by unfold ab_r at *; omega) (fun _ => ?_) (fun z => absurd z (by decide))
                  refine rb_iload_n hV dX8_numberAt_54 rfl rfl ?_
                  refine rb_bipush hV dX8_numberAt_55 (by decide) ?_
                  refine rb_imul hV dX8_numberAt_57 ?_
                  refine rb_aload_n hV dX8_numberAt_58 rfl rfl ?_
                  refine rb_get hV (v := .inr (some 22)) dX8_numberAt_59 ⟨RX8, TX8, 2, rfl, (Nat.le_of_ble_eq_true rfl), lf_X8_9⟩ (gw_21 _) rfl ?_
                  refine rb_iload hV dX8_numberAt_62 rfl ?_
                  refine rb_cald hV (f := (s 22)) dX8_numberAt_64 (gw_22 _) (Nat.le_of_ble_eq_true rfl) (by omega) ?_
                  refine rb_bipush hV dX8_numberAt_65 (by decide) ?_
                  refine rb_isub hV dX8_numberAt_67 ?_
                  refine rb_iadd hV dX8_numberAt_68 ?_
                  refine rb_istore_n hV (L2 := [some (.inr (some 21)), some (.inl a), some (.inl b), some (.inl ((v * 10) + ((s 22 k) - 48))), some (.inl k)]) dX8_numberAt_69 rfl (Nat.le_of_ble_eq_true rfl) rfl ?_
                  refine rb_iinc hV (L2 := [some (.inr (some 21)), some (.inl a), some (.inl b), some (.inl ((v * 10) + ((s 22 k) - 48))), some (.inl (k + 1))]) dX8_numberAt_70 rfl rfl rfl ?_
                  refine rb_goto hV (tgt := 33) dX8_numberAt_73 (by decide) ?_
                  refine ih33 ((v * 10) + ((s 22 k) - 48)) (k + 1) ?_ ?_ ?_ ?_
                  · omega
                  · intro q q1 q2
                    by_cases hq : q = k
                    · rw [hq]
                      exact e46
                    · exact h2 q q1 (by omega)
                  · rw [show (k + 1 - a).toNat = (k - a).toNat + 1 by omega]
                    show _ = nv (s 22) a (k - a).toNat * 10 + (s 22 (a + ((k - a).toNat : Int)) - 48)
                    rw [show a + ((k - a).toNat : Int) = k by omega, h3]
                  · omega
                · rw [if_neg e46]
                  show V 49 [some (.inr (some 21)), some (.inl a), some (.inl b), some (.inl v), some (.inl k)] [.inl 0] (WW s) 0 0
                  refine rb_if_ne hV (tgt := 54) dX8_numberAt_49 (by decide) (by unfold ab_r at *; omega) (fun z => absurd z (by decide)) (fun _ => ?_)
                  refine rb_iconst hV dX8_numberAt_52 ?_
                  refine rb_ret hV (r := some (.inl (-1))) dX8_numberAt_53 rfl ⟨(Nat.le_of_ble_eq_true rfl), (Nat.le_of_ble_eq_true rfl)⟩ trivial ?_
                  exact ⟨_, rfl, rfl, Or.inl ⟨rfl, fun q => e46 (q.2.2 k h1.1 (by omega))⟩⟩
          refine h33 _ 0 a ?_ ?_ ?_ (Nat.lt_succ_self _)
          · omega
          · intro q q1 q2; omega
          · rw [show (a - a).toNat = 0 by omega]; rfl
        · refine rb_iconst hV dX8_numberAt_26 ?_
          refine rb_ret hV (r := some (.inl (-1))) dX8_numberAt_27 rfl ⟨(Nat.le_of_ble_eq_true rfl), (Nat.le_of_ble_eq_true rfl)⟩ trivial ?_
          exact ⟨_, rfl, rfl, Or.inl ⟨rfl, fun q => by have q1 := q.1; have q2 := q.2.1; omega⟩⟩
