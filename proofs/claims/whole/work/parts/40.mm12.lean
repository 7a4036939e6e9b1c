/-! the reference: pieces of a command -/
theorem isNm_9 (t : Int → Int) (n a b : Int) : isNm t n 9 a b ↔ (0 ≤ a ∧ b ≤ n ∧ b - a = 7) ∧ t a = 109 ∧ t (a + 1) = 101 ∧ t (a + 2) = 97 ∧ t (a + 3) = 115 ∧ t (a + 4) = 117 ∧ t (a + 5) = 114 ∧ t (a + 6) = 101 := by
  have b0 : bt 9 0 = 109 := by decide +kernel
  have b1 : bt 9 1 = 101 := by decide +kernel
  have b2 : bt 9 2 = 97 := by decide +kernel
  have b3 : bt 9 3 = 115 := by decide +kernel
  have b4 : bt 9 4 = 117 := by decide +kernel
  have b5 : bt 9 5 = 114 := by decide +kernel
  have b6 : bt 9 6 = 101 := by decide +kernel
  have hlen : ((xsL.getD 9 0 : Nat) : Int) = 7 := by decide +kernel
  unfold isNm
  rw [hlen]
  constructor
  · rintro ⟨p0, p1, p2, p3⟩
    refine ⟨⟨p0, p1, p2⟩, ?_, ?_, ?_, ?_, ?_, ?_, ?_⟩
    · have q := p3 a (by omega) (by omega)
      rw [show a - a = 0 by omega, b0] at q
      exact q
    · have q := p3 (a + 1) (by omega) (by omega)
      rw [show a + 1 - a = 1 by omega, b1] at q
      exact q
    · have q := p3 (a + 2) (by omega) (by omega)
      rw [show a + 2 - a = 2 by omega, b2] at q
      exact q
    · have q := p3 (a + 3) (by omega) (by omega)
      rw [show a + 3 - a = 3 by omega, b3] at q
      exact q
    · have q := p3 (a + 4) (by omega) (by omega)
      rw [show a + 4 - a = 4 by omega, b4] at q
      exact q
    · have q := p3 (a + 5) (by omega) (by omega)
      rw [show a + 5 - a = 5 by omega, b5] at q
      exact q
    · have q := p3 (a + 6) (by omega) (by omega)
      rw [show a + 6 - a = 6 by omega, b6] at q
      exact q
  · rintro ⟨⟨p0, p1, p2⟩, c0, c1, c2, c3, c4, c5, c6⟩
    refine ⟨p0, p1, p2, fun q q1 q2 => ?_⟩
    rcases (show q = a ∨ q = a + 1 ∨ q = a + 2 ∨ q = a + 3 ∨ q = a + 4 ∨ q = a + 5 ∨ q = a + 6 by omega) with z | z | z | z | z | z | z
    · rw [z, c0, show a - a = 0 by omega, b0]
    · rw [z, c1, show a + 1 - a = 1 by omega, b1]
    · rw [z, c2, show a + 2 - a = 2 by omega, b2]
    · rw [z, c3, show a + 3 - a = 3 by omega, b3]
    · rw [z, c4, show a + 4 - a = 4 by omega, b4]
    · rw [z, c5, show a + 5 - a = 5 by omega, b5]
    · rw [z, c6, show a + 6 - a = 6 by omega, b6]

theorem isNm_10 (t : Int → Int) (n a b : Int) : isNm t n 10 a b ↔ (0 ≤ a ∧ b ≤ n ∧ b - a = 4) ∧ t a = 104 ∧ t (a + 1) = 97 ∧ t (a + 2) = 110 ∧ t (a + 3) = 103 := by
  have b0 : bt 10 0 = 104 := by decide +kernel
  have b1 : bt 10 1 = 97 := by decide +kernel
  have b2 : bt 10 2 = 110 := by decide +kernel
  have b3 : bt 10 3 = 103 := by decide +kernel
  have hlen : ((xsL.getD 10 0 : Nat) : Int) = 4 := by decide +kernel
  unfold isNm
  rw [hlen]
  constructor
  · rintro ⟨p0, p1, p2, p3⟩
    refine ⟨⟨p0, p1, p2⟩, ?_, ?_, ?_, ?_⟩
    · have q := p3 a (by omega) (by omega)
      rw [show a - a = 0 by omega, b0] at q
      exact q
    · have q := p3 (a + 1) (by omega) (by omega)
      rw [show a + 1 - a = 1 by omega, b1] at q
      exact q
    · have q := p3 (a + 2) (by omega) (by omega)
      rw [show a + 2 - a = 2 by omega, b2] at q
      exact q
    · have q := p3 (a + 3) (by omega) (by omega)
      rw [show a + 3 - a = 3 by omega, b3] at q
      exact q
  · rintro ⟨⟨p0, p1, p2⟩, c0, c1, c2, c3⟩
    refine ⟨p0, p1, p2, fun q q1 q2 => ?_⟩
    rcases (show q = a ∨ q = a + 1 ∨ q = a + 2 ∨ q = a + 3 by omega) with z | z | z | z
    · rw [z, c0, show a - a = 0 by omega, b0]
    · rw [z, c1, show a + 1 - a = 1 by omega, b1]
    · rw [z, c2, show a + 2 - a = 2 by omega, b2]
    · rw [z, c3, show a + 3 - a = 3 by omega, b3]

theorem isNm_11 (t : Int → Int) (n a b : Int) : isNm t n 11 a b ↔ (0 ≤ a ∧ b ≤ n ∧ b - a = 5) ∧ t a = 114 ∧ t (a + 1) = 105 ∧ t (a + 2) = 118 ∧ t (a + 3) = 101 ∧ t (a + 4) = 114 := by
  have b0 : bt 11 0 = 114 := by decide +kernel
  have b1 : bt 11 1 = 105 := by decide +kernel
  have b2 : bt 11 2 = 118 := by decide +kernel
  have b3 : bt 11 3 = 101 := by decide +kernel
  have b4 : bt 11 4 = 114 := by decide +kernel
  have hlen : ((xsL.getD 11 0 : Nat) : Int) = 5 := by decide +kernel
  unfold isNm
  rw [hlen]
  constructor
  · rintro ⟨p0, p1, p2, p3⟩
    refine ⟨⟨p0, p1, p2⟩, ?_, ?_, ?_, ?_, ?_⟩
    · have q := p3 a (by omega) (by omega)
      rw [show a - a = 0 by omega, b0] at q
      exact q
    · have q := p3 (a + 1) (by omega) (by omega)
      rw [show a + 1 - a = 1 by omega, b1] at q
      exact q
    · have q := p3 (a + 2) (by omega) (by omega)
      rw [show a + 2 - a = 2 by omega, b2] at q
      exact q
    · have q := p3 (a + 3) (by omega) (by omega)
      rw [show a + 3 - a = 3 by omega, b3] at q
      exact q
    · have q := p3 (a + 4) (by omega) (by omega)
      rw [show a + 4 - a = 4 by omega, b4] at q
      exact q
  · rintro ⟨⟨p0, p1, p2⟩, c0, c1, c2, c3, c4⟩
    refine ⟨p0, p1, p2, fun q q1 q2 => ?_⟩
    rcases (show q = a ∨ q = a + 1 ∨ q = a + 2 ∨ q = a + 3 ∨ q = a + 4 by omega) with z | z | z | z | z
    · rw [z, c0, show a - a = 0 by omega, b0]
    · rw [z, c1, show a + 1 - a = 1 by omega, b1]
    · rw [z, c2, show a + 2 - a = 2 by omega, b2]
    · rw [z, c3, show a + 3 - a = 3 by omega, b3]
    · rw [z, c4, show a + 4 - a = 4 by omega, b4]

theorem isNm_12 (t : Int → Int) (n a b : Int) : isNm t n 12 a b ↔ (0 ≤ a ∧ b ≤ n ∧ b - a = 5) ∧ t a = 115 ∧ t (a + 1) = 112 ∧ t (a + 2) = 97 ∧ t (a + 3) = 99 ∧ t (a + 4) = 101 := by
  have b0 : bt 12 0 = 115 := by decide +kernel
  have b1 : bt 12 1 = 112 := by decide +kernel
  have b2 : bt 12 2 = 97 := by decide +kernel
  have b3 : bt 12 3 = 99 := by decide +kernel
  have b4 : bt 12 4 = 101 := by decide +kernel
  have hlen : ((xsL.getD 12 0 : Nat) : Int) = 5 := by decide +kernel
  unfold isNm
  rw [hlen]
  constructor
  · rintro ⟨p0, p1, p2, p3⟩
    refine ⟨⟨p0, p1, p2⟩, ?_, ?_, ?_, ?_, ?_⟩
    · have q := p3 a (by omega) (by omega)
      rw [show a - a = 0 by omega, b0] at q
      exact q
    · have q := p3 (a + 1) (by omega) (by omega)
      rw [show a + 1 - a = 1 by omega, b1] at q
      exact q
    · have q := p3 (a + 2) (by omega) (by omega)
      rw [show a + 2 - a = 2 by omega, b2] at q
      exact q
    · have q := p3 (a + 3) (by omega) (by omega)
      rw [show a + 3 - a = 3 by omega, b3] at q
      exact q
    · have q := p3 (a + 4) (by omega) (by omega)
      rw [show a + 4 - a = 4 by omega, b4] at q
      exact q
  · rintro ⟨⟨p0, p1, p2⟩, c0, c1, c2, c3, c4⟩
    refine ⟨p0, p1, p2, fun q q1 q2 => ?_⟩
    rcases (show q = a ∨ q = a + 1 ∨ q = a + 2 ∨ q = a + 3 ∨ q = a + 4 by omega) with z | z | z | z | z
    · rw [z, c0, show a - a = 0 by omega, b0]
    · rw [z, c1, show a + 1 - a = 1 by omega, b1]
    · rw [z, c2, show a + 2 - a = 2 by omega, b2]
    · rw [z, c3, show a + 3 - a = 3 by omega, b3]
    · rw [z, c4, show a + 4 - a = 4 by omega, b4]

theorem isNm_13 (t : Int → Int) (n a b : Int) : isNm t n 13 a b ↔ (0 ≤ a ∧ b ≤ n ∧ b - a = 4) ∧ t a = 119 ∧ t (a + 1) = 111 ∧ t (a + 2) = 114 ∧ t (a + 3) = 100 := by
  have b0 : bt 13 0 = 119 := by decide +kernel
  have b1 : bt 13 1 = 111 := by decide +kernel
  have b2 : bt 13 2 = 114 := by decide +kernel
  have b3 : bt 13 3 = 100 := by decide +kernel
  have hlen : ((xsL.getD 13 0 : Nat) : Int) = 4 := by decide +kernel
  unfold isNm
  rw [hlen]
  constructor
  · rintro ⟨p0, p1, p2, p3⟩
    refine ⟨⟨p0, p1, p2⟩, ?_, ?_, ?_, ?_⟩
    · have q := p3 a (by omega) (by omega)
      rw [show a - a = 0 by omega, b0] at q
      exact q
    · have q := p3 (a + 1) (by omega) (by omega)
      rw [show a + 1 - a = 1 by omega, b1] at q
      exact q
    · have q := p3 (a + 2) (by omega) (by omega)
      rw [show a + 2 - a = 2 by omega, b2] at q
      exact q
    · have q := p3 (a + 3) (by omega) (by omega)
      rw [show a + 3 - a = 3 by omega, b3] at q
      exact q
  · rintro ⟨⟨p0, p1, p2⟩, c0, c1, c2, c3⟩
    refine ⟨p0, p1, p2, fun q q1 q2 => ?_⟩
    rcases (show q = a ∨ q = a + 1 ∨ q = a + 2 ∨ q = a + 3 by omega) with z | z | z | z
    · rw [z, c0, show a - a = 0 by omega, b0]
    · rw [z, c1, show a + 1 - a = 1 by omega, b1]
    · rw [z, c2, show a + 2 - a = 2 by omega, b2]
    · rw [z, c3, show a + 3 - a = 3 by omega, b3]

theorem isNm_14 (t : Int → Int) (n a b : Int) : isNm t n 14 a b ↔ (0 ≤ a ∧ b ≤ n ∧ b - a = 6) ∧ t a = 99 ∧ t (a + 1) = 108 ∧ t (a + 2) = 97 ∧ t (a + 3) = 117 ∧ t (a + 4) = 115 ∧ t (a + 5) = 101 := by
  have b0 : bt 14 0 = 99 := by decide +kernel
  have b1 : bt 14 1 = 108 := by decide +kernel
  have b2 : bt 14 2 = 97 := by decide +kernel
  have b3 : bt 14 3 = 117 := by decide +kernel
  have b4 : bt 14 4 = 115 := by decide +kernel
  have b5 : bt 14 5 = 101 := by decide +kernel
  have hlen : ((xsL.getD 14 0 : Nat) : Int) = 6 := by decide +kernel
  unfold isNm
  rw [hlen]
  constructor
  · rintro ⟨p0, p1, p2, p3⟩
    refine ⟨⟨p0, p1, p2⟩, ?_, ?_, ?_, ?_, ?_, ?_⟩
    · have q := p3 a (by omega) (by omega)
      rw [show a - a = 0 by omega, b0] at q
      exact q
    · have q := p3 (a + 1) (by omega) (by omega)
      rw [show a + 1 - a = 1 by omega, b1] at q
      exact q
    · have q := p3 (a + 2) (by omega) (by omega)
      rw [show a + 2 - a = 2 by omega, b2] at q
      exact q
    · have q := p3 (a + 3) (by omega) (by omega)
      rw [show a + 3 - a = 3 by omega, b3] at q
      exact q
    · have q := p3 (a + 4) (by omega) (by omega)
      rw [show a + 4 - a = 4 by omega, b4] at q
      exact q
    · have q := p3 (a + 5) (by omega) (by omega)
      rw [show a + 5 - a = 5 by omega, b5] at q
      exact q
  · rintro ⟨⟨p0, p1, p2⟩, c0, c1, c2, c3, c4, c5⟩
    refine ⟨p0, p1, p2, fun q q1 q2 => ?_⟩
    rcases (show q = a ∨ q = a + 1 ∨ q = a + 2 ∨ q = a + 3 ∨ q = a + 4 ∨ q = a + 5 by omega) with z | z | z | z | z | z
    · rw [z, c0, show a - a = 0 by omega, b0]
    · rw [z, c1, show a + 1 - a = 1 by omega, b1]
    · rw [z, c2, show a + 2 - a = 2 by omega, b2]
    · rw [z, c3, show a + 3 - a = 3 by omega, b3]
    · rw [z, c4, show a + 4 - a = 4 by omega, b4]
    · rw [z, c5, show a + 5 - a = 5 by omega, b5]

theorem isNm_15 (t : Int → Int) (n a b : Int) : isNm t n 15 a b ↔ (0 ≤ a ∧ b ≤ n ∧ b - a = 8) ∧ t a = 115 ∧ t (a + 1) = 101 ∧ t (a + 2) = 110 ∧ t (a + 3) = 116 ∧ t (a + 4) = 101 ∧ t (a + 5) = 110 ∧ t (a + 6) = 99 ∧ t (a + 7) = 101 := by
  have b0 : bt 15 0 = 115 := by decide +kernel
  have b1 : bt 15 1 = 101 := by decide +kernel
  have b2 : bt 15 2 = 110 := by decide +kernel
  have b3 : bt 15 3 = 116 := by decide +kernel
  have b4 : bt 15 4 = 101 := by decide +kernel
  have b5 : bt 15 5 = 110 := by decide +kernel
  have b6 : bt 15 6 = 99 := by decide +kernel
  have b7 : bt 15 7 = 101 := by decide +kernel
  have hlen : ((xsL.getD 15 0 : Nat) : Int) = 8 := by decide +kernel
  unfold isNm
  rw [hlen]
  constructor
  · rintro ⟨p0, p1, p2, p3⟩
    refine ⟨⟨p0, p1, p2⟩, ?_, ?_, ?_, ?_, ?_, ?_, ?_, ?_⟩
    · have q := p3 a (by omega) (by omega)
      rw [show a - a = 0 by omega, b0] at q
      exact q
    · have q := p3 (a + 1) (by omega) (by omega)
      rw [show a + 1 - a = 1 by omega, b1] at q
      exact q
    · have q := p3 (a + 2) (by omega) (by omega)
      rw [show a + 2 - a = 2 by omega, b2] at q
      exact q
    · have q := p3 (a + 3) (by omega) (by omega)
      rw [show a + 3 - a = 3 by omega, b3] at q
      exact q
    · have q := p3 (a + 4) (by omega) (by omega)
      rw [show a + 4 - a = 4 by omega, b4] at q
      exact q
    · have q := p3 (a + 5) (by omega) (by omega)
      rw [show a + 5 - a = 5 by omega, b5] at q
      exact q
    · have q := p3 (a + 6) (by omega) (by omega)
      rw [show a + 6 - a = 6 by omega, b6] at q
      exact q
    · have q := p3 (a + 7) (by omega) (by omega)
      rw [show a + 7 - a = 7 by omega, b7] at q
      exact q
  · rintro ⟨⟨p0, p1, p2⟩, c0, c1, c2, c3, c4, c5, c6, c7⟩
    refine ⟨p0, p1, p2, fun q q1 q2 => ?_⟩
    rcases (show q = a ∨ q = a + 1 ∨ q = a + 2 ∨ q = a + 3 ∨ q = a + 4 ∨ q = a + 5 ∨ q = a + 6 ∨ q = a + 7 by omega) with z | z | z | z | z | z | z | z
    · rw [z, c0, show a - a = 0 by omega, b0]
    · rw [z, c1, show a + 1 - a = 1 by omega, b1]
    · rw [z, c2, show a + 2 - a = 2 by omega, b2]
    · rw [z, c3, show a + 3 - a = 3 by omega, b3]
    · rw [z, c4, show a + 4 - a = 4 by omega, b4]
    · rw [z, c5, show a + 5 - a = 5 by omega, b5]
    · rw [z, c6, show a + 6 - a = 6 by omega, b6]
    · rw [z, c7, show a + 7 - a = 7 by omega, b7]

theorem sbj_none {t : Int → Int} {n a b : Int} (h9 : ¬ isNm t n 9 a b) (h10 : ¬ isNm t n 10 a b) (h11 : ¬ isNm t n 11 a b) (h12 : ¬ isNm t n 12 a b) : sbj t n a b = -1 := (cif_neg h9).trans ((cif_neg h10).trans ((cif_neg h11).trans (cif_neg h12)))
theorem kdn_none {t : Int → Int} {n a b : Int} (h9 : ¬ isNm t n 13 a b) (h10 : ¬ isNm t n 14 a b) (h11 : ¬ isNm t n 15 a b) : kdn t n a b = -1 := (cif_neg h9).trans ((cif_neg h10).trans (cif_neg h11))
/-- the parse, step by step -/
theorem prs_0b {t : Int → Int} {n sub kd : Int} {nu : Int → Int} (h : sbj t n 0 (eo t 0 (n - 0).toNat) = -1) : (prs t n 5 0 0 sub kd nu).1 = 0 := by
  have e : prs t n 5 0 0 sub kd nu = (0, sub, kd, nu) := prs_bad (f := 4) (fun g => by
    rcases g with g | g | g | g
    · exact g.2 h
    · omega
    · omega
    · omega)
  rw [e]
theorem prs_0e {t : Int → Int} {n sub kd : Int} {nu : Int → Int} (h : ¬ sbj t n 0 (eo t 0 (n - 0).toNat) = -1) (hn : n ≤ eo t 0 (n - 0).toNat) : (prs t n 5 0 0 sub kd nu).1 = n := by
  have e := prs_end (f := 4) (k := 0) (p := 0) (sub := sub) (kd := kd) (nu := nu) (Or.inl ⟨rfl, h⟩) hn
  have w := wp_b (uS 0 sub (sbj t n 0 (eo t 0 (n - 0).toNat)))
  rw [if_pos (by omega)] at e
  exact congrArg (fun z : Int × Int × Int × (Int → Int) => z.1) e
theorem prs_0g {t : Int → Int} {n sub kd z : Int} {nu : Int → Int} (h : sbj t n 0 (eo t 0 (n - 0).toNat) = z) (hz : ¬ z = -1) (hn : ¬ n ≤ eo t 0 (n - 0).toNat) : prs t n 5 0 0 sub kd nu = prs t n 4 1 (eo t 0 (n - 0).toNat + 1) z kd nu := by
  have e := prs_go (f := 4) (k := 0) (p := 0) (sub := sub) (kd := kd) (nu := nu) (Or.inl ⟨rfl, by rw [h]; exact hz⟩) hn
  have a1 : uS 0 sub (sbj t n 0 (eo t 0 (n - 0).toNat)) = z := (if_pos rfl).trans h
  have a2 : ∀ x, uK 0 sub kd x = kd := fun x => if_neg (by omega)
  have a3 : ∀ x, uN 0 sub nu x = nu := fun x => (if_neg (by omega)).trans (if_neg (by omega))
  rw [a1, a2, a3] at e
  exact e
/-- the one number -/
theorem prs_1b {t : Int → Int} {n p z kd : Int} {nu : Int → Int} (hz : ¬ z = 3) (h : ¬ (tLo z nu 0 ≤ num t p (eo t p (n - p).toNat) ∧ num t p (eo t p (n - p).toNat) ≤ tHi z)) : (prs t n 4 1 p z kd nu).1 = p := by
  have e : prs t n 4 1 p z kd nu = (p, z, kd, nu) := prs_bad (f := 3) (fun g => by
    rcases g with g | g | g | g
    · omega
    · exact hz g.2.1
    · omega
    · exact h g.2.2)
  rw [e]
theorem prs_1e {t : Int → Int} {n p z kd : Int} {nu : Int → Int} (hz : ¬ z = 3) (h : tLo z nu 0 ≤ num t p (eo t p (n - p).toNat) ∧ num t p (eo t p (n - p).toNat) ≤ tHi z) (hn : n ≤ eo t p (n - p).toNat) : prs t n 4 1 p z kd nu = (-1, z, kd, ab_u nu 0 (num t p (eo t p (n - p).toNat))) := by
  have e := prs_end (f := 3) (k := 1) (p := p) (sub := z) (kd := kd) (nu := nu) (Or.inr (Or.inr (Or.inr ⟨rfl, hz, h⟩))) hn
  have a1 : ∀ x, uS 1 z x = z := fun x => if_neg (by omega)
  have a2 : ∀ x, uK 1 z kd x = kd := fun x => if_neg (by omega)
  have a3 : ∀ x, uN 1 z nu x = ab_u nu 0 x := fun x => (if_neg (by omega)).trans (if_pos ⟨rfl, hz⟩)
  have w := wp_b z
  rw [a1, a2, a3, if_neg (by omega)] at e
  exact e
theorem prs_1g {t : Int → Int} {n p z kd : Int} {nu : Int → Int} (hz : ¬ z = 3) (h : tLo z nu 0 ≤ num t p (eo t p (n - p).toNat) ∧ num t p (eo t p (n - p).toNat) ≤ tHi z) (hn : ¬ n ≤ eo t p (n - p).toNat) : (prs t n 4 1 p z kd nu).1 = eo t p (n - p).toNat + 1 := by
  have e := prs_go (f := 3) (k := 1) (p := p) (sub := z) (kd := kd) (nu := nu) (Or.inr (Or.inr (Or.inr ⟨rfl, hz, h⟩))) hn
  have a1 : ∀ x, uS 1 z x = z := fun x => if_neg (by omega)
  rw [a1] at e
  have e2 : ∀ kd2 nu2, prs t n 3 (1 + 1) (eo t p (n - p).toNat + 1) z kd2 nu2 = (eo t p (n - p).toNat + 1, z, kd2, nu2) := fun kd2 nu2 => prs_bad (f := 2) (fun g => by
    rcases g with g | g | g | g
    · omega
    · omega
    · exact hz g.2.1
    · omega)
  rw [e2] at e
  exact congrArg (fun z : Int × Int × Int × (Int → Int) => z.1) e
/-- the class -/
theorem prs_kb {t : Int → Int} {n p kd : Int} {nu : Int → Int} (h : kdn t n p (eo t p (n - p).toNat) = -1) : (prs t n 4 1 p 3 kd nu).1 = p := by
  have e : prs t n 4 1 p 3 kd nu = (p, 3, kd, nu) := prs_bad (f := 3) (fun g => by
    rcases g with g | g | g | g
    · omega
    · exact g.2.2 h
    · omega
    · omega)
  rw [e]
theorem prs_ke {t : Int → Int} {n p kd : Int} {nu : Int → Int} (h : ¬ kdn t n p (eo t p (n - p).toNat) = -1) (hn : n ≤ eo t p (n - p).toNat) : (prs t n 4 1 p 3 kd nu).1 = n := by
  have e := prs_end (f := 3) (k := 1) (p := p) (sub := 3) (kd := kd) (nu := nu) (Or.inr (Or.inl ⟨rfl, rfl, h⟩)) hn
  have a1 : ∀ x, uS 1 3 x = 3 := fun x => if_neg (by omega)
  have w := wp_b 3
  rw [a1, if_pos (by omega)] at e
  exact congrArg (fun z : Int × Int × Int × (Int → Int) => z.1) e
theorem prs_kg {t : Int → Int} {n p kd : Int} {nu : Int → Int} (h : ¬ kdn t n p (eo t p (n - p).toNat) = -1) (hn : ¬ n ≤ eo t p (n - p).toNat) : prs t n 4 1 p 3 kd nu = prs t n 3 2 (eo t p (n - p).toNat + 1) 3 (kdn t n p (eo t p (n - p).toNat)) nu := by
  have e := prs_go (f := 3) (k := 1) (p := p) (sub := 3) (kd := kd) (nu := nu) (Or.inr (Or.inl ⟨rfl, rfl, h⟩)) hn
  have a1 : ∀ x, uS 1 3 x = 3 := fun x => if_neg (by omega)
  have a2 : ∀ x, uK 1 3 kd x = x := fun x => if_pos ⟨rfl, rfl⟩
  have a3 : ∀ x, uN 1 3 nu x = nu := fun x => (if_neg (by omega)).trans (if_neg (by omega))
  rw [a1, a2, a3] at e
  exact e
/-- the numbers of a class -/
theorem prs_nb {t : Int → Int} {n p kd k : Int} {nu : Int → Int} {f : Nat} (hk : 2 ≤ k) (h : ¬ (tLo 3 nu (k - 2) ≤ num t p (eo t p (n - p).toNat) ∧ num t p (eo t p (n - p).toNat) ≤ tHi 3)) : (prs t n (f + 1) k p 3 kd nu).1 = p := by
  have e : prs t n (f + 1) k p 3 kd nu = (p, 3, kd, nu) := prs_bad (fun g => by
    rcases g with g | g | g | g
    · omega
    · omega
    · exact h g.2.2
    · omega)
  rw [e]
theorem prs_ne {t : Int → Int} {n p kd k : Int} {nu : Int → Int} {f : Nat} (hk : 2 ≤ k) (h : tLo 3 nu (k - 2) ≤ num t p (eo t p (n - p).toNat) ∧ num t p (eo t p (n - p).toNat) ≤ tHi 3) (hn : n ≤ eo t p (n - p).toNat) : prs t n (f + 1) k p 3 kd nu = (if k < 4 then n else -1, 3, kd, ab_u nu (k - 2) (num t p (eo t p (n - p).toNat))) := by
  have e := prs_end (f := f) (k := k) (p := p) (sub := 3) (kd := kd) (nu := nu) (Or.inr (Or.inr (Or.inl ⟨hk, rfl, h⟩))) hn
  have a1 : ∀ x, uS k 3 x = 3 := fun x => if_neg (by omega)
  have a2 : ∀ x, uK k 3 kd x = kd := fun x => if_neg (by omega)
  have a3 : ∀ x, uN k 3 nu x = ab_u nu (k - 2) x := fun x => if_pos ⟨hk, rfl⟩
  have w := (wp_b 3).resolve_right (by omega)
  rw [a1, a2, a3, w.2] at e
  rw [e]
  by_cases q : k < 4
  · rw [if_pos q, if_pos (by omega)]
  · rw [if_neg q, if_neg (by omega)]
theorem prs_ng {t : Int → Int} {n p kd k : Int} {nu : Int → Int} {f : Nat} (hk : 2 ≤ k) (h : tLo 3 nu (k - 2) ≤ num t p (eo t p (n - p).toNat) ∧ num t p (eo t p (n - p).toNat) ≤ tHi 3) (hn : ¬ n ≤ eo t p (n - p).toNat) : prs t n (f + 1) k p 3 kd nu = prs t n f (k + 1) (eo t p (n - p).toNat + 1) 3 kd (ab_u nu (k - 2) (num t p (eo t p (n - p).toNat))) := by
  have e := prs_go (f := f) (k := k) (p := p) (sub := 3) (kd := kd) (nu := nu) (Or.inr (Or.inr (Or.inl ⟨hk, rfl, h⟩))) hn
  have a1 : ∀ x, uS k 3 x = 3 := fun x => if_neg (by omega)
  have a2 : ∀ x, uK k 3 kd x = kd := fun x => if_neg (by omega)
  have a3 : ∀ x, uN k 3 nu x = ab_u nu (k - 2) x := fun x => if_pos ⟨hk, rfl⟩
  rw [a1, a2, a3] at e
  exact e

set_option maxRecDepth 20000 in
theorem c_X10_isPiece (s : Nat → Int → Int) (x1 x2 x3 x4 : Int) (hx : (0 ≤ x1 ∧ x1 < 65536) ∧ (0 ≤ x2 ∧ x2 < 65536) ∧ (0 ≤ x3 ∧ x3 < 65536) ∧ (0 ≤ x4 ∧ x4 < 65536)) (ha : 0 ≤ s 122 0) (hb : s 123 0 ≤ 120) (hab0 : s 122 0 ≤ 121) (hb0 : 0 ≤ s 123 0) (ht : ∀ v, 0 ≤ s 56 v ∧ s 56 v < 65536) : ab_Mt yX10_isPiece cX10_isPiece 5 (some .boolean) ({ frames := 0, cells := 0, slots := 0, locals := 0 } : Room) false 0 0 [.inr (some 49), .inl x1, .inl x2, .inl x3, .inl x4] (WW s) (fun r h2 => r = some (.inl (if 3 < (s 123 0) - (s 122 0) ∧ s 56 (s 122 0) = x1 ∧ s 56 ((s 122 0) + 1) = x2 ∧ s 56 ((s 122 0) + 2) = x3 ∧ s 56 ((s 122 0) + 3) = x4 then 1 else 0)) ∧ h2 = WW s) := by
  refine ab_mk RX10 false rfl pn_X10_isPiece (fun z => by cases z) (Nat.le_of_ble_eq_true rfl) (fun V hV => ?_)
  show V 0 [some (.inr (some 49)), some (.inl x1), some (.inl x2), some (.inl x3), some (.inl x4)] [] (WW s) 0 0
  have hta := ht (s 122 0)
  have htb := ht (s 122 0 + 1)
  have htc := ht (s 122 0 + 2)
  have htd := ht (s 122 0 + 3)
  refine rb_aload_n hV dX10_isPiece_0 rfl rfl ?_
  refine rb_get hV (v := .inl (s 123 0)) dX10_isPiece_1 ⟨RX10, TX10, 24, rfl, (Nat.le_of_ble_eq_true rfl), lf_X10_103⟩ (gw_49 _) rfl ?_
  refine rb_aload_n hV dX10_isPiece_4 rfl rfl ?_
  refine rb_get hV (v := .inl (s 122 0)) dX10_isPiece_5 ⟨RX10, TX10, 24, rfl, (Nat.le_of_ble_eq_true rfl), lf_X10_106⟩ (gw_49 _) rfl ?_
  refine rb_isub hV dX10_isPiece_8 ?_
  refine rb_iconst hV dX10_isPiece_9 ?_
  refine rb_icmp_le hV (tgt := 76) dX10_isPiece_10 (by decide) ⟨(by unfold ab_r at *; omega), (by unfold ab_r at *; omega)⟩ (fun c10 => ?_) (fun c10 => ?_)
  · refine rb_iconst hV dX10_isPiece_76 ?_
    refine rb_ret hV (r := some (.inl 0)) dX10_isPiece_77 rfl ⟨(Nat.le_of_ble_eq_true rfl), (Nat.le_of_ble_eq_true rfl)⟩ (by first | exact Or.inl rfl | exact Or.inr rfl | omega) ?_
    exact ⟨congrArg (fun z : Int => some (Sum.inl z)) (if_neg (by omega)).symm, rfl⟩
  · refine rb_aload_n hV dX10_isPiece_13 rfl rfl ?_
    refine rb_get hV (v := .inr (some 56)) dX10_isPiece_14 ⟨RX10, TX10, 24, rfl, (Nat.le_of_ble_eq_true rfl), lf_X10_38⟩ (gw_49 _) rfl ?_
    refine rb_aload_n hV dX10_isPiece_17 rfl rfl ?_
    refine rb_get hV (v := .inl (s 122 0)) dX10_isPiece_18 ⟨RX10, TX10, 24, rfl, (Nat.le_of_ble_eq_true rfl), lf_X10_106⟩ (gw_49 _) rfl ?_
    refine rb_cald hV (f := (s 56)) dX10_isPiece_21 (gw_56 _) (Nat.le_of_ble_eq_true rfl) (by omega) ?_
    refine rb_iload_n hV dX10_isPiece_22 rfl rfl ?_
    refine rb_icmp_ne hV (tgt := 76) dX10_isPiece_23 (by decide) ⟨(by unfold ab_r at *; omega), (by unfold ab_r at *; omega)⟩ (fun c23 => ?_) (fun c23 => ?_)
    · refine rb_iconst hV dX10_isPiece_76 ?_
      refine rb_ret hV (r := some (.inl 0)) dX10_isPiece_77 rfl ⟨(Nat.le_of_ble_eq_true rfl), (Nat.le_of_ble_eq_true rfl)⟩ (by first | exact Or.inl rfl | exact Or.inr rfl | omega) ?_
      exact ⟨congrArg (fun z : Int => some (Sum.inl z)) (if_neg (by omega)).symm, rfl⟩
    · refine rb_aload_n hV dX10_isPiece_26 rfl rfl ?_
      refine rb_get hV (v := .inr (some 56)) dX10_isPiece_27 ⟨RX10, TX10, 24, rfl, (Nat.le_of_ble_eq_true rfl), lf_X10_38⟩ (gw_49 _) rfl ?_
      refine rb_aload_n hV dX10_isPiece_30 rfl rfl ?_
      refine rb_get hV (v := .inl (s 122 0)) dX10_isPiece_31 ⟨RX10, TX10, 24, rfl, (Nat.le_of_ble_eq_true rfl), lf_X10_106⟩ (gw_49 _) rfl ?_
      refine rb_iconst hV dX10_isPiece_34 ?_
      refine rb_iadd hV dX10_isPiece_35 ?_
      refine rb_cald hV (f := (s 56)) dX10_isPiece_36 (gw_56 _) (Nat.le_of_ble_eq_true rfl) (by omega) ?_
      refine rb_iload_n hV dX10_isPiece_37 rfl rfl ?_
      refine rb_icmp_ne hV (tgt := 76) dX10_isPiece_38 (by decide) ⟨(by unfold ab_r at *; omega), (by unfold ab_r at *; omega)⟩ (fun c38 => ?_) (fun c38 => ?_)
      · refine rb_iconst hV dX10_isPiece_76 ?_
        refine rb_ret hV (r := some (.inl 0)) dX10_isPiece_77 rfl ⟨(Nat.le_of_ble_eq_true rfl), (Nat.le_of_ble_eq_true rfl)⟩ (by first | exact Or.inl rfl | exact Or.inr rfl | omega) ?_
        exact ⟨congrArg (fun z : Int => some (Sum.inl z)) (if_neg (by omega)).symm, rfl⟩
      · refine rb_aload_n hV dX10_isPiece_41 rfl rfl ?_
        refine rb_get hV (v := .inr (some 56)) dX10_isPiece_42 ⟨RX10, TX10, 24, rfl, (Nat.le_of_ble_eq_true rfl), lf_X10_38⟩ (gw_49 _) rfl ?_
        refine rb_aload_n hV dX10_isPiece_45 rfl rfl ?_
        refine rb_get hV (v := .inl (s 122 0)) dX10_isPiece_46 ⟨RX10, TX10, 24, rfl, (Nat.le_of_ble_eq_true rfl), lf_X10_106⟩ (gw_49 _) rfl ?_
        refine rb_iconst hV dX10_isPiece_49 ?_
        refine rb_iadd hV dX10_isPiece_50 ?_
        refine rb_cald hV (f := (s 56)) dX10_isPiece_51 (gw_56 _) (Nat.le_of_ble_eq_true rfl) (by omega) ?_
        refine rb_iload_n hV dX10_isPiece_52 rfl rfl ?_
        refine rb_icmp_ne hV (tgt := 76) dX10_isPiece_53 (by decide) ⟨(by unfold ab_r at *; omega), (by unfold ab_r at *; omega)⟩ (fun c53 => ?_) (fun c53 => ?_)
        · refine rb_iconst hV dX10_isPiece_76 ?_
          refine rb_ret hV (r := some (.inl 0)) dX10_isPiece_77 rfl ⟨(Nat.le_of_ble_eq_true rfl), (Nat.le_of_ble_eq_true rfl)⟩ (by first | exact Or.inl rfl | exact Or.inr rfl | omega) ?_
          exact ⟨congrArg (fun z : Int => some (Sum.inl z)) (if_neg (by omega)).symm, rfl⟩
        · refine rb_aload_n hV dX10_isPiece_56 rfl rfl ?_
          refine rb_get hV (v := .inr (some 56)) dX10_isPiece_57 ⟨RX10, TX10, 24, rfl, (Nat.le_of_ble_eq_true rfl), lf_X10_38⟩ (gw_49 _) rfl ?_
          refine rb_aload_n hV dX10_isPiece_60 rfl rfl ?_
          refine rb_get hV (v := .inl (s 122 0)) dX10_isPiece_61 ⟨RX10, TX10, 24, rfl, (Nat.le_of_ble_eq_true rfl), lf_X10_106⟩ (gw_49 _) rfl ?_
          refine rb_iconst hV dX10_isPiece_64 ?_
          refine rb_iadd hV dX10_isPiece_65 ?_
          refine rb_cald hV (f := (s 56)) dX10_isPiece_66 (gw_56 _) (Nat.le_of_ble_eq_true rfl) (by omega) ?_
          refine rb_iload hV dX10_isPiece_67 rfl ?_
          refine rb_icmp_ne hV (tgt := 76) dX10_isPiece_69 (by decide) ⟨(by unfold ab_r at *; omega), (by unfold ab_r at *; omega)⟩ (fun c69 => ?_) (fun c69 => ?_)
          · refine rb_iconst hV dX10_isPiece_76 ?_
            refine rb_ret hV (r := some (.inl 0)) dX10_isPiece_77 rfl ⟨(Nat.le_of_ble_eq_true rfl), (Nat.le_of_ble_eq_true rfl)⟩ (by first | exact Or.inl rfl | exact Or.inr rfl | omega) ?_
            exact ⟨congrArg (fun z : Int => some (Sum.inl z)) (if_neg (by omega)).symm, rfl⟩
          · refine rb_iconst hV dX10_isPiece_72 ?_
            refine rb_goto hV (tgt := 77) dX10_isPiece_73 (by decide) ?_
            refine rb_ret hV (r := some (.inl 1)) dX10_isPiece_77 rfl ⟨(Nat.le_of_ble_eq_true rfl), (Nat.le_of_ble_eq_true rfl)⟩ (by first | exact Or.inl rfl | exact Or.inr rfl | omega) ?_
            exact ⟨congrArg (fun z : Int => some (Sum.inl z)) (if_pos (by omega)).symm, rfl⟩

set_option maxRecDepth 20000 in
theorem c_X10_endsWith (s : Nat → Int → Int) (x1 x2 x3 : Int) (hx : (0 ≤ x1 ∧ x1 < 65536) ∧ (0 ≤ x2 ∧ x2 < 65536) ∧ (0 ≤ x3 ∧ x3 < 65536)) (hb : 3 ≤ s 123 0 ∧ s 123 0 ≤ 120) (ht : ∀ v, 0 ≤ s 56 v ∧ s 56 v < 65536) : ab_Mt yX10_endsWith cX10_endsWith 4 (some .boolean) ({ frames := 0, cells := 0, slots := 0, locals := 0 } : Room) false 0 0 [.inr (some 49), .inl x1, .inl x2, .inl x3] (WW s) (fun r h2 => r = some (.inl (if s 56 ((s 123 0) - 3) = x1 ∧ s 56 ((s 123 0) - 2) = x2 ∧ s 56 ((s 123 0) - 1) = x3 then 1 else 0)) ∧ h2 = WW s) := by
  refine ab_mk RX10 false rfl pn_X10_endsWith (fun z => by cases z) (Nat.le_of_ble_eq_true rfl) (fun V hV => ?_)
  show V 0 [some (.inr (some 49)), some (.inl x1), some (.inl x2), some (.inl x3)] [] (WW s) 0 0
  have hta := ht (s 123 0 - 3)
  have htb := ht (s 123 0 - 2)
  have htc := ht (s 123 0 - 1)
  refine rb_aload_n hV dX10_endsWith_0 rfl rfl ?_
  refine rb_get hV (v := .inr (some 56)) dX10_endsWith_1 ⟨RX10, TX10, 24, rfl, (Nat.le_of_ble_eq_true rfl), lf_X10_38⟩ (gw_49 _) rfl ?_
  refine rb_aload_n hV dX10_endsWith_4 rfl rfl ?_
  refine rb_get hV (v := .inl (s 123 0)) dX10_endsWith_5 ⟨RX10, TX10, 24, rfl, (Nat.le_of_ble_eq_true rfl), lf_X10_103⟩ (gw_49 _) rfl ?_
  refine rb_iconst hV dX10_endsWith_8 ?_
  refine rb_isub hV dX10_endsWith_9 ?_
  refine rb_cald hV (f := (s 56)) dX10_endsWith_10 (gw_56 _) (Nat.le_of_ble_eq_true rfl) (by omega) ?_
  refine rb_iload_n hV dX10_endsWith_11 rfl rfl ?_
  refine rb_icmp_ne hV (tgt := 49) dX10_endsWith_12 (by decide) ⟨(by unfold ab_r at *; omega), (by unfold ab_r at *; omega)⟩ (fun c12 => ?_) (fun c12 => ?_)
  · refine rb_iconst hV dX10_endsWith_49 ?_
    refine rb_ret hV (r := some (.inl 0)) dX10_endsWith_50 rfl ⟨(Nat.le_of_ble_eq_true rfl), (Nat.le_of_ble_eq_true rfl)⟩ (by first | exact Or.inl rfl | exact Or.inr rfl | omega) ?_
    exact ⟨congrArg (fun z : Int => some (Sum.inl z)) (if_neg (by omega)).symm, rfl⟩
  · refine rb_aload_n hV dX10_endsWith_15 rfl rfl ?_
    refine rb_get hV (v := .inr (some 56)) dX10_endsWith_16 ⟨RX10, TX10, 24, rfl, (Nat.le_of_ble_eq_true rfl), lf_X10_38⟩ (gw_49 _) rfl ?_
    refine rb_aload_n hV dX10_endsWith_19 rfl rfl ?_
    refine rb_get hV (v := .inl (s 123 0)) dX10_endsWith_20 ⟨RX10, TX10, 24, rfl, (Nat.le_of_ble_eq_true rfl), lf_X10_103⟩ (gw_49 _) rfl ?_
    refine rb_iconst hV dX10_endsWith_23 ?_
    refine rb_isub hV dX10_endsWith_24 ?_
    refine rb_cald hV (f := (s 56)) dX10_endsWith_25 (gw_56 _) (Nat.le_of_ble_eq_true rfl) (by omega) ?_
    refine rb_iload_n hV dX10_endsWith_26 rfl rfl ?_
    refine rb_icmp_ne hV (tgt := 49) dX10_endsWith_27 (by decide) ⟨(by unfold ab_r at *; omega), (by unfold ab_r at *; omega)⟩ (fun c27 => ?_) (fun c27 => ?_)
    · refine rb_iconst hV dX10_endsWith_49 ?_
      refine rb_ret hV (r := some (.inl 0)) dX10_endsWith_50 rfl ⟨(Nat.le_of_ble_eq_true rfl), (Nat.le_of_ble_eq_true rfl)⟩ (by first | exact Or.inl rfl | exact Or.inr rfl | omega) ?_
      exact ⟨congrArg (fun z : Int => some (Sum.inl z)) (if_neg (by omega)).symm, rfl⟩
    · refine rb_aload_n hV dX10_endsWith_30 rfl rfl ?_
      refine rb_get hV (v := .inr (some 56)) dX10_endsWith_31 ⟨RX10, TX10, 24, rfl, (Nat.le_of_ble_eq_true rfl), lf_X10_38⟩ (gw_49 _) rfl ?_
      refine rb_aload_n hV dX10_endsWith_34 rfl rfl ?_
      refine rb_get hV (v := .inl (s 123 0)) dX10_endsWith_35 ⟨RX10, TX10, 24, rfl, (Nat.le_of_ble_eq_true rfl), lf_X10_103⟩ (gw_49 _) rfl ?_
      refine rb_iconst hV dX10_endsWith_38 ?_
      refine rb_isub hV dX10_endsWith_39 ?_
      refine rb_cald hV (f := (s 56)) dX10_endsWith_40 (gw_56 _) (Nat.le_of_ble_eq_true rfl) (by omega) ?_
      refine rb_iload_n hV dX10_endsWith_41 rfl rfl ?_
      refine rb_icmp_ne hV (tgt := 49) dX10_endsWith_42 (by decide) ⟨(by unfold ab_r at *; omega), (by unfold ab_r at *; omega)⟩ (fun c42 => ?_) (fun c42 => ?_)
      · refine rb_iconst hV dX10_endsWith_49 ?_
        refine rb_ret hV (r := some (.inl 0)) dX10_endsWith_50 rfl ⟨(Nat.le_of_ble_eq_true rfl), (Nat.le_of_ble_eq_true rfl)⟩ (by first | exact Or.inl rfl | exact Or.inr rfl | omega) ?_
        exact ⟨congrArg (fun z : Int => some (Sum.inl z)) (if_neg (by omega)).symm, rfl⟩
      · refine rb_iconst hV dX10_endsWith_45 ?_
        refine rb_goto hV (tgt := 50) dX10_endsWith_46 (by decide) ?_
        refine rb_ret hV (r := some (.inl 1)) dX10_endsWith_50 rfl ⟨(Nat.le_of_ble_eq_true rfl), (Nat.le_of_ble_eq_true rfl)⟩ (by first | exact Or.inl rfl | exact Or.inr rfl | omega) ?_
        exact ⟨congrArg (fun z : Int => some (Sum.inl z)) (if_pos (by omega)).symm, rfl⟩

set_option maxRecDepth 20000 in
theorem c_X10_isLong (s : Nat → Int → Int) (x : Int) (hx : 0 ≤ x ∧ x ≤ 100) (ha : 0 ≤ s 122 0) (hb : s 123 0 ≤ 120) (hab0 : s 122 0 ≤ 121) (hb0 : 0 ≤ s 123 0) : ab_Mt yX10_isLong cX10_isLong 2 (some .boolean) ({ frames := 0, cells := 0, slots := 0, locals := 0 } : Room) false 0 0 [.inr (some 49), .inl x] (WW s) (fun r h2 => r = some (.inl (if (s 123 0) - (s 122 0) = x then 1 else 0)) ∧ h2 = WW s) := by
  refine ab_mk RX10 false rfl pn_X10_isLong (fun z => by cases z) (Nat.le_of_ble_eq_true rfl) (fun V hV => ?_)
  show V 0 [some (.inr (some 49)), some (.inl x)] [] (WW s) 0 0
  refine rb_aload_n hV dX10_isLong_0 rfl rfl ?_
  refine rb_get hV (v := .inl (s 123 0)) dX10_isLong_1 ⟨RX10, TX10, 24, rfl, (Nat.le_of_ble_eq_true rfl), lf_X10_103⟩ (gw_49 _) rfl ?_
  refine rb_aload_n hV dX10_isLong_4 rfl rfl ?_
  refine rb_get hV (v := .inl (s 122 0)) dX10_isLong_5 ⟨RX10, TX10, 24, rfl, (Nat.le_of_ble_eq_true rfl), lf_X10_106⟩ (gw_49 _) rfl ?_
  refine rb_isub hV dX10_isLong_8 ?_
  refine rb_iload_n hV dX10_isLong_9 rfl rfl ?_
  refine rb_icmp_ne hV (tgt := 17) dX10_isLong_10 (by decide) ⟨(by unfold ab_r at *; omega), (by unfold ab_r at *; omega)⟩ (fun c10 => ?_) (fun c10 => ?_)
  · refine rb_iconst hV dX10_isLong_17 ?_
    refine rb_ret hV (r := some (.inl 0)) dX10_isLong_18 rfl ⟨(Nat.le_of_ble_eq_true rfl), (Nat.le_of_ble_eq_true rfl)⟩ (by first | exact Or.inl rfl | exact Or.inr rfl | omega) ?_
    exact ⟨congrArg (fun z : Int => some (Sum.inl z)) (if_neg (by omega)).symm, rfl⟩
  · refine rb_iconst hV dX10_isLong_13 ?_
    refine rb_goto hV (tgt := 18) dX10_isLong_14 (by decide) ?_
    refine rb_ret hV (r := some (.inl 1)) dX10_isLong_18 rfl ⟨(Nat.le_of_ble_eq_true rfl), (Nat.le_of_ble_eq_true rfl)⟩ (by first | exact Or.inl rfl | exact Or.inr rfl | omega) ?_
    exact ⟨congrArg (fun z : Int => some (Sum.inl z)) (if_pos (by omega)).symm, rfl⟩

/-- the next piece: it begins at a and ends before b; c its fault -/
def NP (t : Int → Int) (n b0 a b c : Int) : Prop := (b0 = n ∧ (0 ≤ a ∧ a ≤ 121) ∧ b = b0 ∧ c = n) ∨ (b0 < n ∧ a = b0 + 1 ∧ b = eo t (b0 + 1) (n - (b0 + 1)).toNat ∧ c = (if b = a then a else -1))
theorem NP_b {t : Int → Int} {n b0 a b c : Int} (h : NP t n b0 a b c) (h0 : -1 ≤ b0 ∧ b0 ≤ n) (hn : 0 ≤ n ∧ n ≤ 120) : (c = -1 ∨ (0 ≤ c ∧ c ≤ n)) ∧ (c = -1 → b0 < n ∧ a = b0 + 1 ∧ a < b ∧ b ≤ n ∧ b = eo t (b0 + 1) (n - (b0 + 1)).toNat) ∧ (b ≤ n ∧ b0 ≤ b) ∧ (¬ c = -1 → b0 = n ∨ (b0 < n ∧ a = b0 + 1 ∧ b = a ∧ c = a ∧ b = eo t (b0 + 1) (n - (b0 + 1)).toNat)) ∧ 0 ≤ a ∧ a ≤ 121 := by
  rcases h with ⟨h1, h1b, h2, h3⟩ | ⟨h1, h2, h3, h4⟩
  · refine ⟨Or.inr (by omega), fun q => by omega, by omega, fun _ => Or.inl h1, h1b⟩
  · have e := eo_b t (n - (b0 + 1)).toNat (b0 + 1)
    rw [← h3] at e
    by_cases q : b = a
    · rw [if_pos q] at h4
      refine ⟨Or.inr (by omega), fun q => by omega, by omega, fun _ => Or.inr ⟨h1, h2, q, h4, h3⟩, by omega⟩
    · rw [if_neg q] at h4
      refine ⟨Or.inl h4, fun _ => ⟨h1, h2, by omega, by omega, h3⟩, by omega, fun z => absurd h4 z, by omega⟩

set_option maxRecDepth 20000 in
theorem c_X10_nextPiece_t (s : Nat → Int → Int) (hn : 0 ≤ s 121 0 ∧ s 121 0 ≤ 120) (ht : ∀ v, 0 ≤ s 56 v ∧ s 56 v < 65536) (hf : s 124 0 = -1) (hb0 : 0 ≤ s 123 0 ∧ s 123 0 ≤ s 121 0) : ab_Mt yX10_nextPiece cX10_nextPiece 2 none ({ frames := 0, cells := 0, slots := 0, locals := 0 } : Room) false 0 0 [.inr (some 49), .inl 1] (WW s) (fun r h2 => r = none ∧ ∃ fa fb fc, h2 = WW (ab_s (ab_s (ab_s s 122 fa) 123 fb) 124 fc) ∧ NP (s 56) (s 121 0) (-1) (fa 0) (fb 0) (fc 0)) := by
  refine ab_mk RX10 false rfl pn_X10_nextPiece (fun z => by cases z) (Nat.le_of_ble_eq_true rfl) (fun V hV => ?_)
  show V 0 [some (.inr (some 49)), some (.inl 1)] [] (WW s) 0 0
  refine rb_heq (b := (ab_s (ab_s (ab_s s 122 (s 122)) 123 (s 123)) 124 (s 124))) ((ab_s_id rfl).trans ((ab_s_id rfl).trans (ab_s_id rfl))).symm ?_
  refine rb_aload_n hV dX10_nextPiece_0 rfl rfl ?_
  refine rb_get hV (v := .inl ((s 124) 0)) dX10_nextPiece_1 ⟨RX10, TX10, 24, rfl, (Nat.le_of_ble_eq_true rfl), lf_X10_100⟩ (gw_49 _) rfl ?_
  refine rb_if_lt hV (tgt := 8) dX10_nextPiece_4 (by decide) (by unfold ab_r at *; omega) (fun c4 => ?_) (fun c4 => absurd c4 (by omega))
  refine rb_iload_n hV dX10_nextPiece_8 rfl rfl ?_
  refine rb_if_ne hV (tgt := 32) dX10_nextPiece_9 (by decide) (by unfold ab_r at *; omega) (fun _ => ?_) (fun z => absurd z (by decide))
  refine rb_aload_n hV dX10_nextPiece_32 rfl rfl ?_
  refine rb_iload_n hV dX10_nextPiece_33 rfl rfl ?_
  refine rb_if_eq hV (tgt := 41) dX10_nextPiece_34 (by decide) (by unfold ab_r at *; omega) (fun z => absurd z (by decide)) (fun _ => ?_)
  refine rb_iconst hV dX10_nextPiece_37 ?_
  refine rb_goto hV (tgt := 47) dX10_nextPiece_38 (by decide) ?_
  refine rb_put hV (C := RX10) (T := TX10) (N := 24) (ci := 9) (j := 12) dX10_nextPiece_47 rfl (Nat.le_of_ble_eq_true rfl) lf_X10_106 rfl (gw_49 _) (Nat.le_of_ble_eq_true rfl) (ft_X10_12 _) ((pw_49_12 _ _).trans (congrArg WW ((ab_s_sw (by decide)).trans (congrArg (fun x => ab_s x 124 _) ((ab_s_sw (by decide)).trans (congrArg (fun x => ab_s x 123 _) (ab_s_same _ 122 _ _))))))) ?_
  refine rb_aload_n hV dX10_nextPiece_50 rfl rfl ?_
  refine rb_aload_n hV dX10_nextPiece_51 rfl rfl ?_
  refine rb_get hV (v := .inl 0) dX10_nextPiece_52 ⟨RX10, TX10, 24, rfl, (Nat.le_of_ble_eq_true rfl), lf_X10_106⟩ (gw_49 _) rfl ?_
  refine rb_put hV (C := RX10) (T := TX10) (N := 24) (ci := 9) (j := 13) dX10_nextPiece_55 rfl (Nat.le_of_ble_eq_true rfl) lf_X10_103 rfl (gw_49 _) (Nat.le_of_ble_eq_true rfl) (ft_X10_13 _) ((pw_49_13 _ _).trans (congrArg WW ((ab_s_sw (by decide)).trans (congrArg (fun x => ab_s x 124 _) (ab_s_same _ 123 _ _))))) ?_
  have h58 : ∀ (n58 : Nat) (p : Int), (0 ≤ p ∧ p ≤ s 121 0) → (eo (s 56) 0 (s 121 0 - 0).toNat = eo (s 56) p (s 121 0 - p).toNat) → ((s 121 0 - p).toNat) < n58 → V 58 [some (.inr (some 49)), some (.inl 1)] [] (WW (ab_s (ab_s (ab_s s 122 (fun _ => 0)) 123 (fun _ => p)) 124 (s 124))) 0 0 := by
    intro n58
    induction n58 with
    | zero => intro p h1 h2 hm; omega
    | succ n58 ih58 =>
      intro p h1 h2 hm
      have htp := ht p
      refine rb_aload_n hV dX10_nextPiece_58 rfl rfl ?_
      refine rb_get hV (v := .inl p) dX10_nextPiece_59 ⟨RX10, TX10, 24, rfl, (Nat.le_of_ble_eq_true rfl), lf_X10_103⟩ (gw_49 _) rfl ?_
      refine rb_aload_n hV dX10_nextPiece_62 rfl rfl ?_
      refine rb_get hV (v := .inl (s 121 0)) dX10_nextPiece_63 ⟨RX10, TX10, 24, rfl, (Nat.le_of_ble_eq_true rfl), lf_X10_83⟩ (gw_49 _) rfl ?_
      refine rb_icmp_ge hV (tgt := 96) dX10_nextPiece_66 (by decide) ⟨(by unfold ab_r at *; omega), (by unfold ab_r at *; omega)⟩ (fun c66 => ?_) (fun c66 => ?_)
      · refine rb_aload_n hV dX10_nextPiece_96 rfl rfl ?_
        refine rb_aload_n hV dX10_nextPiece_97 rfl rfl ?_
        refine rb_get hV (v := .inl p) dX10_nextPiece_98 ⟨RX10, TX10, 24, rfl, (Nat.le_of_ble_eq_true rfl), lf_X10_103⟩ (gw_49 _) rfl ?_
        refine rb_aload_n hV dX10_nextPiece_101 rfl rfl ?_
        refine rb_get hV (v := .inl 0) dX10_nextPiece_102 ⟨RX10, TX10, 24, rfl, (Nat.le_of_ble_eq_true rfl), lf_X10_106⟩ (gw_49 _) rfl ?_
        refine rb_icmp_ne hV (tgt := 115) dX10_nextPiece_105 (by decide) ⟨(by unfold ab_r at *; omega), (by unfold ab_r at *; omega)⟩ (fun c105 => ?_) (fun c105 => ?_)
        · refine rb_iconst hV dX10_nextPiece_115 ?_
          refine rb_put hV (C := RX10) (T := TX10) (N := 24) (ci := 9) (j := 14) dX10_nextPiece_116 rfl (Nat.le_of_ble_eq_true rfl) lf_X10_100 rfl (gw_49 _) (Nat.le_of_ble_eq_true rfl) (ft_X10_14 _) ((pw_49_14 _ _).trans (congrArg WW (ab_s_same _ 124 _ _))) ?_
          refine rb_ret hV (r := none) dX10_nextPiece_119 rfl ⟨(Nat.le_of_ble_eq_true rfl), (Nat.le_of_ble_eq_true rfl)⟩ trivial ?_
          have hp0 : p = eo (s 56) 0 (s 121 0 - 0).toNat := by
            rw [h2, show (s 121 0 - p).toNat = 0 by omega]
            rfl
          exact ⟨rfl, _, _, _, rfl, Or.inr ⟨by omega, rfl, by rw [show (-1 : Int) + 1 = 0 by omega]; exact hp0, (if_neg (by omega)).symm⟩⟩
        · refine rb_aload_n hV dX10_nextPiece_108 rfl rfl ?_
          refine rb_get hV (v := .inl 0) dX10_nextPiece_109 ⟨RX10, TX10, 24, rfl, (Nat.le_of_ble_eq_true rfl), lf_X10_106⟩ (gw_49 _) rfl ?_
          refine rb_goto hV (tgt := 116) dX10_nextPiece_112 (by decide) ?_
          refine rb_put hV (C := RX10) (T := TX10) (N := 24) (ci := 9) (j := 14) dX10_nextPiece_116 rfl (Nat.le_of_ble_eq_true rfl) lf_X10_100 rfl (gw_49 _) (Nat.le_of_ble_eq_true rfl) (ft_X10_14 _) ((pw_49_14 _ _).trans (congrArg WW (ab_s_same _ 124 _ _))) ?_
          refine rb_ret hV (r := none) dX10_nextPiece_119 rfl ⟨(Nat.le_of_ble_eq_true rfl), (Nat.le_of_ble_eq_true rfl)⟩ trivial ?_
          have hp0 : p = eo (s 56) 0 (s 121 0 - 0).toNat := by
            rw [h2, show (s 121 0 - p).toNat = 0 by omega]
            rfl
          exact ⟨rfl, _, _, _, rfl, Or.inr ⟨by omega, rfl, by rw [show (-1 : Int) + 1 = 0 by omega]; exact hp0, (if_pos (by omega)).symm⟩⟩
      · refine rb_aload_n hV dX10_nextPiece_69 rfl rfl ?_
        refine rb_get hV (v := .inr (some 56)) dX10_nextPiece_70 ⟨RX10, TX10, 24, rfl, (Nat.le_of_ble_eq_true rfl), lf_X10_38⟩ (gw_49 _) rfl ?_
        refine rb_aload_n hV dX10_nextPiece_73 rfl rfl ?_
        refine rb_get hV (v := .inl p) dX10_nextPiece_74 ⟨RX10, TX10, 24, rfl, (Nat.le_of_ble_eq_true rfl), lf_X10_103⟩ (gw_49 _) rfl ?_
        refine rb_cald hV (f := (s 56)) dX10_nextPiece_77 (gw_56 _) (Nat.le_of_ble_eq_true rfl) (by omega) ?_
        refine rb_bipush hV dX10_nextPiece_78 (by decide) ?_
        refine rb_icmp_eq hV (tgt := 96) dX10_nextPiece_80 (by decide) ⟨(by unfold ab_r at *; omega), (by unfold ab_r at *; omega)⟩ (fun c80 => ?_) (fun c80 => ?_)
        · refine rb_aload_n hV dX10_nextPiece_96 rfl rfl ?_
          refine rb_aload_n hV dX10_nextPiece_97 rfl rfl ?_
          refine rb_get hV (v := .inl p) dX10_nextPiece_98 ⟨RX10, TX10, 24, rfl, (Nat.le_of_ble_eq_true rfl), lf_X10_103⟩ (gw_49 _) rfl ?_
          refine rb_aload_n hV dX10_nextPiece_101 rfl rfl ?_
          refine rb_get hV (v := .inl 0) dX10_nextPiece_102 ⟨RX10, TX10, 24, rfl, (Nat.le_of_ble_eq_true rfl), lf_X10_106⟩ (gw_49 _) rfl ?_
          refine rb_icmp_ne hV (tgt := 115) dX10_nextPiece_105 (by decide) ⟨(by unfold ab_r at *; omega), (by unfold ab_r at *; omega)⟩ (fun c105 => ?_) (fun c105 => ?_)
          · refine rb_iconst hV dX10_nextPiece_115 ?_
            refine rb_put hV (C := RX10) (T := TX10) (N := 24) (ci := 9) (j := 14) dX10_nextPiece_116 rfl (Nat.le_of_ble_eq_true rfl) lf_X10_100 rfl (gw_49 _) (Nat.le_of_ble_eq_true rfl) (ft_X10_14 _) ((pw_49_14 _ _).trans (congrArg WW (ab_s_same _ 124 _ _))) ?_
            refine rb_ret hV (r := none) dX10_nextPiece_119 rfl ⟨(Nat.le_of_ble_eq_true rfl), (Nat.le_of_ble_eq_true rfl)⟩ trivial ?_
            have hp0 : p = eo (s 56) 0 (s 121 0 - 0).toNat := by
              rw [h2, show (s 121 0 - p).toNat = (s 121 0 - (p + 1)).toNat + 1 by omega]
              exact (if_pos c80).symm
            exact ⟨rfl, _, _, _, rfl, Or.inr ⟨by omega, rfl, by rw [show (-1 : Int) + 1 = 0 by omega]; exact hp0, (if_neg (by omega)).symm⟩⟩
          · refine rb_aload_n hV dX10_nextPiece_108 rfl rfl ?_
            refine rb_get hV (v := .inl 0) dX10_nextPiece_109 ⟨RX10, TX10, 24, rfl, (Nat.le_of_ble_eq_true rfl), lf_X10_106⟩ (gw_49 _) rfl ?_
            refine rb_goto hV (tgt := 116) dX10_nextPiece_112 (by decide) ?_
            refine rb_put hV (C := RX10) (T := TX10) (N := 24) (ci := 9) (j := 14) dX10_nextPiece_116 rfl (Nat.le_of_ble_eq_true rfl) lf_X10_100 rfl (gw_49 _) (Nat.le_of_ble_eq_true rfl) (ft_X10_14 _) ((pw_49_14 _ _).trans (congrArg WW (ab_s_same _ 124 _ _))) ?_
            refine rb_ret hV (r := none) dX10_nextPiece_119 rfl ⟨(Nat.le_of_ble_eq_true rfl), (Nat.le_of_ble_eq_true rfl)⟩ trivial ?_
            have hp0 : p = eo (s 56) 0 (s 121 0 - 0).toNat := by
              rw [h2, show (s 121 0 - p).toNat = (s 121 0 - (p + 1)).toNat + 1 by omega]
              exact (if_pos c80).symm
            exact ⟨rfl, _, _, _, rfl, Or.inr ⟨by omega, rfl, by rw [show (-1 : Int) + 1 = 0 by omega]; exact hp0, (if_pos (by omega)).symm⟩⟩
        · refine rb_aload_n hV dX10_nextPiece_83 rfl rfl ?_
          refine rb_dup hV dX10_nextPiece_84 ?_
          refine rb_get hV (v := .inl p) dX10_nextPiece_85 ⟨RX10, TX10, 24, rfl, (Nat.le_of_ble_eq_true rfl), lf_X10_103⟩ (gw_49 _) rfl ?_
          refine rb_iconst hV dX10_nextPiece_88 ?_
          refine rb_iadd hV dX10_nextPiece_89 ?_
          refine rb_put hV (C := RX10) (T := TX10) (N := 24) (ci := 9) (j := 13) dX10_nextPiece_90 rfl (Nat.le_of_ble_eq_true rfl) lf_X10_103 rfl (gw_49 _) (Nat.le_of_ble_eq_true rfl) (ft_X10_13 _) ((pw_49_13 _ _).trans (congrArg WW ((ab_s_sw (by decide)).trans (congrArg (fun x => ab_s x 124 _) (ab_s_same _ 123 _ _))))) ?_
          refine rb_goto hV (tgt := 58) dX10_nextPiece_93 (by decide) ?_
          refine ih58 (p + 1) ?_ ?_ ?_
          · omega
          · rw [h2, show (s 121 0 - p).toNat = (s 121 0 - (p + 1)).toNat + 1 by omega]
            exact if_neg c80
          · omega
  refine h58 _ 0 ?_ ?_ (Nat.lt_succ_self _)
  · omega
  · rfl

set_option maxRecDepth 20000 in
theorem c_X10_nextPiece_f (s : Nat → Int → Int) (hn : 0 ≤ s 121 0 ∧ s 121 0 ≤ 120) (ht : ∀ v, 0 ≤ s 56 v ∧ s 56 v < 65536) (hf : s 124 0 = -1) (hb0 : 0 ≤ s 123 0 ∧ s 123 0 ≤ s 121 0) (ha0 : 0 ≤ s 122 0 ∧ s 122 0 ≤ 121) : ab_Mt yX10_nextPiece cX10_nextPiece 2 none ({ frames := 0, cells := 0, slots := 0, locals := 0 } : Room) false 0 0 [.inr (some 49), .inl 0] (WW s) (fun r h2 => r = none ∧ ∃ fa fb fc, h2 = WW (ab_s (ab_s (ab_s s 122 fa) 123 fb) 124 fc) ∧ NP (s 56) (s 121 0) (s 123 0) (fa 0) (fb 0) (fc 0)) := by
  refine ab_mk RX10 false rfl pn_X10_nextPiece (fun z => by cases z) (Nat.le_of_ble_eq_true rfl) (fun V hV => ?_)
  show V 0 [some (.inr (some 49)), some (.inl 0)] [] (WW s) 0 0
  refine rb_heq (b := (ab_s (ab_s (ab_s s 122 (s 122)) 123 (s 123)) 124 (s 124))) ((ab_s_id rfl).trans ((ab_s_id rfl).trans (ab_s_id rfl))).symm ?_
  refine rb_aload_n hV dX10_nextPiece_0 rfl rfl ?_
  refine rb_get hV (v := .inl ((s 124) 0)) dX10_nextPiece_1 ⟨RX10, TX10, 24, rfl, (Nat.le_of_ble_eq_true rfl), lf_X10_100⟩ (gw_49 _) rfl ?_
  refine rb_if_lt hV (tgt := 8) dX10_nextPiece_4 (by decide) (by unfold ab_r at *; omega) (fun c4 => ?_) (fun c4 => absurd c4 (by omega))
  refine rb_iload_n hV dX10_nextPiece_8 rfl rfl ?_
  refine rb_if_ne hV (tgt := 32) dX10_nextPiece_9 (by decide) (by unfold ab_r at *; omega) (fun z => absurd z (by decide)) (fun _ => ?_)
  refine rb_aload_n hV dX10_nextPiece_12 rfl rfl ?_
  refine rb_get hV (v := .inl ((s 123) 0)) dX10_nextPiece_13 ⟨RX10, TX10, 24, rfl, (Nat.le_of_ble_eq_true rfl), lf_X10_103⟩ (gw_49 _) rfl ?_
  refine rb_aload_n hV dX10_nextPiece_16 rfl rfl ?_
  refine rb_get hV (v := .inl (s 121 0)) dX10_nextPiece_17 ⟨RX10, TX10, 24, rfl, (Nat.le_of_ble_eq_true rfl), lf_X10_83⟩ (gw_49 _) rfl ?_
  refine rb_icmp_ne hV (tgt := 32) dX10_nextPiece_20 (by decide) ⟨(by unfold ab_r at *; omega), (by unfold ab_r at *; omega)⟩ (fun c20 => ?_) (fun c20 => ?_)
  · refine rb_aload_n hV dX10_nextPiece_32 rfl rfl ?_
    refine rb_iload_n hV dX10_nextPiece_33 rfl rfl ?_
    refine rb_if_eq hV (tgt := 41) dX10_nextPiece_34 (by decide) (by unfold ab_r at *; omega) (fun _ => ?_) (fun z => absurd z (by decide))
    refine rb_aload_n hV dX10_nextPiece_41 rfl rfl ?_
    refine rb_get hV (v := .inl ((s 123) 0)) dX10_nextPiece_42 ⟨RX10, TX10, 24, rfl, (Nat.le_of_ble_eq_true rfl), lf_X10_103⟩ (gw_49 _) rfl ?_
    refine rb_iconst hV dX10_nextPiece_45 ?_
    refine rb_iadd hV dX10_nextPiece_46 ?_
    refine rb_put hV (C := RX10) (T := TX10) (N := 24) (ci := 9) (j := 12) dX10_nextPiece_47 rfl (Nat.le_of_ble_eq_true rfl) lf_X10_106 rfl (gw_49 _) (Nat.le_of_ble_eq_true rfl) (ft_X10_12 _) ((pw_49_12 _ _).trans (congrArg WW ((ab_s_sw (by decide)).trans (congrArg (fun x => ab_s x 124 _) ((ab_s_sw (by decide)).trans (congrArg (fun x => ab_s x 123 _) (ab_s_same _ 122 _ _))))))) ?_
    refine rb_aload_n hV dX10_nextPiece_50 rfl rfl ?_
    refine rb_aload_n hV dX10_nextPiece_51 rfl rfl ?_
    refine rb_get hV (v := .inl (((s 123) 0) + 1)) dX10_nextPiece_52 ⟨RX10, TX10, 24, rfl, (Nat.le_of_ble_eq_true rfl), lf_X10_106⟩ (gw_49 _) rfl ?_
    refine rb_put hV (C := RX10) (T := TX10) (N := 24) (ci := 9) (j := 13) dX10_nextPiece_55 rfl (Nat.le_of_ble_eq_true rfl) lf_X10_103 rfl (gw_49 _) (Nat.le_of_ble_eq_true rfl) (ft_X10_13 _) ((pw_49_13 _ _).trans (congrArg WW ((ab_s_sw (by decide)).trans (congrArg (fun x => ab_s x 124 _) (ab_s_same _ 123 _ _))))) ?_
    have h58 : ∀ (n58 : Nat) (p : Int), ((s 123 0 + 1) ≤ p ∧ p ≤ s 121 0) → (eo (s 56) (s 123 0 + 1) (s 121 0 - (s 123 0 + 1)).toNat = eo (s 56) p (s 121 0 - p).toNat) → ((s 121 0 - p).toNat) < n58 → V 58 [some (.inr (some 49)), some (.inl 0)] [] (WW (ab_s (ab_s (ab_s s 122 (fun _ => (((s 123) 0) + 1))) 123 (fun _ => p)) 124 (s 124))) 0 0 := by
      intro n58
      induction n58 with
      | zero => intro p h1 h2 hm; omega
      | succ n58 ih58 =>
        intro p h1 h2 hm
        have htp := ht p
        refine rb_aload_n hV dX10_nextPiece_58 rfl rfl ?_
        refine rb_get hV (v := .inl p) dX10_nextPiece_59 ⟨RX10, TX10, 24, rfl, (Nat.le_of_ble_eq_true rfl), lf_X10_103⟩ (gw_49 _) rfl ?_
        refine rb_aload_n hV dX10_nextPiece_62 rfl rfl ?_
        refine rb_get hV (v := .inl (s 121 0)) dX10_nextPiece_63 ⟨RX10, TX10, 24, rfl, (Nat.le_of_ble_eq_true rfl), lf_X10_83⟩ (gw_49 _) rfl ?_
        refine rb_icmp_ge hV (tgt := 96) dX10_nextPiece_66 (by decide) ⟨(by unfold ab_r at *; omega), (by unfold ab_r at *; omega)⟩ (fun c66 => ?_) (fun c66 => ?_)
        · refine rb_aload_n hV dX10_nextPiece_96 rfl rfl ?_
          refine rb_aload_n hV dX10_nextPiece_97 rfl rfl ?_
          refine rb_get hV (v := .inl p) dX10_nextPiece_98 ⟨RX10, TX10, 24, rfl, (Nat.le_of_ble_eq_true rfl), lf_X10_103⟩ (gw_49 _) rfl ?_
          refine rb_aload_n hV dX10_nextPiece_101 rfl rfl ?_
          refine rb_get hV (v := .inl (((s 123) 0) + 1)) dX10_nextPiece_102 ⟨RX10, TX10, 24, rfl, (Nat.le_of_ble_eq_true rfl), lf_X10_106⟩ (gw_49 _) rfl ?_
          refine rb_icmp_ne hV (tgt := 115) dX10_nextPiece_105 (by decide) ⟨(by unfold ab_r at *; omega), (by unfold ab_r at *; omega)⟩ (fun c105 => ?_) (fun c105 => ?_)
          · refine rb_iconst hV dX10_nextPiece_115 ?_
            refine rb_put hV (C := RX10) (T := TX10) (N := 24) (ci := 9) (j := 14) dX10_nextPiece_116 rfl (Nat.le_of_ble_eq_true rfl) lf_X10_100 rfl (gw_49 _) (Nat.le_of_ble_eq_true rfl) (ft_X10_14 _) ((pw_49_14 _ _).trans (congrArg WW (ab_s_same _ 124 _ _))) ?_
            refine rb_ret hV (r := none) dX10_nextPiece_119 rfl ⟨(Nat.le_of_ble_eq_true rfl), (Nat.le_of_ble_eq_true rfl)⟩ trivial ?_
            have hp0 : p = eo (s 56) (s 123 0 + 1) (s 121 0 - (s 123 0 + 1)).toNat := by
              rw [h2, show (s 121 0 - p).toNat = 0 by omega]
              rfl
            exact ⟨rfl, _, _, _, rfl, Or.inr ⟨by omega, rfl, hp0, (if_neg (by omega)).symm⟩⟩
          · refine rb_aload_n hV dX10_nextPiece_108 rfl rfl ?_
            refine rb_get hV (v := .inl (((s 123) 0) + 1)) dX10_nextPiece_109 ⟨RX10, TX10, 24, rfl, (Nat.le_of_ble_eq_true rfl), lf_X10_106⟩ (gw_49 _) rfl ?_
            refine rb_goto hV (tgt := 116) dX10_nextPiece_112 (by decide) ?_
            refine rb_put hV (C := RX10) (T := TX10) (N := 24) (ci := 9) (j := 14) dX10_nextPiece_116 rfl (Nat.le_of_ble_eq_true rfl) lf_X10_100 rfl (gw_49 _) (Nat.le_of_ble_eq_true rfl) (ft_X10_14 _) ((pw_49_14 _ _).trans (congrArg WW (ab_s_same _ 124 _ _))) ?_
            refine rb_ret hV (r := none) dX10_nextPiece_119 rfl ⟨(Nat.le_of_ble_eq_true rfl), (Nat.le_of_ble_eq_true rfl)⟩ trivial ?_
            have hp0 : p = eo (s 56) (s 123 0 + 1) (s 121 0 - (s 123 0 + 1)).toNat := by
              rw [h2, show (s 121 0 - p).toNat = 0 by omega]
              rfl
            exact ⟨rfl, _, _, _, rfl, Or.inr ⟨by omega, rfl, hp0, (if_pos (by omega)).symm⟩⟩
        · refine rb_aload_n hV dX10_nextPiece_69 rfl rfl ?_
          refine rb_get hV (v := .inr (some 56)) dX10_nextPiece_70 ⟨RX10, TX10, 24, rfl, (Nat.le_of_ble_eq_true rfl), lf_X10_38⟩ (gw_49 _) rfl ?_
          refine rb_aload_n hV dX10_nextPiece_73 rfl rfl ?_
          refine rb_get hV (v := .inl p) dX10_nextPiece_74 ⟨RX10, TX10, 24, rfl, (Nat.le_of_ble_eq_true rfl), lf_X10_103⟩ (gw_49 _) rfl ?_
          refine rb_cald hV (f := (s 56)) dX10_nextPiece_77 (gw_56 _) (Nat.le_of_ble_eq_true rfl) (by omega) ?_
          refine rb_bipush hV dX10_nextPiece_78 (by decide) ?_
          refine rb_icmp_eq hV (tgt := 96) dX10_nextPiece_80 (by decide) ⟨(by unfold ab_r at *; omega), (by unfold ab_r at *; omega)⟩ (fun c80 => ?_) (fun c80 => ?_)
          · refine rb_aload_n hV dX10_nextPiece_96 rfl rfl ?_
            refine rb_aload_n hV dX10_nextPiece_97 rfl rfl ?_
            refine rb_get hV (v := .inl p) dX10_nextPiece_98 ⟨RX10, TX10, 24, rfl, (Nat.le_of_ble_eq_true rfl), lf_X10_103⟩ (gw_49 _) rfl ?_
            refine rb_aload_n hV dX10_nextPiece_101 rfl rfl ?_
            refine rb_get hV (v := .inl (((s 123) 0) + 1)) dX10_nextPiece_102 ⟨RX10, TX10, 24, rfl, (Nat.le_of_ble_eq_true rfl), lf_X10_106⟩ (gw_49 _) rfl ?_
            refine rb_icmp_ne hV (tgt := 115) dX10_nextPiece_105 (by decide) ⟨(by unfold ab_r at *; omega), (by unfold ab_r at *; omega)⟩ (fun c105 => ?_) (fun c105 => ?_)
            · refine rb_iconst hV dX10_nextPiece_115 ?_
              refine rb_put hV (C := RX10) (T := TX10) (N := 24) (ci := 9) (j := 14) dX10_nextPiece_116 rfl (Nat.le_of_ble_eq_true rfl) lf_X10_100 rfl (gw_49 _) (Nat.le_of_ble_eq_true rfl) (ft_X10_14 _) ((pw_49_14 _ _).trans (congrArg WW (ab_s_same _ 124 _ _))) ?_
              refine rb_ret hV (r := none) dX10_nextPiece_119 rfl ⟨(Nat.le_of_ble_eq_true rfl), (Nat.le_of_ble_eq_true rfl)⟩ trivial ?_
              have hp0 : p = eo (s 56) (s 123 0 + 1) (s 121 0 - (s 123 0 + 1)).toNat := by
                rw [h2, show (s 121 0 - p).toNat = (s 121 0 - (p + 1)).toNat + 1 by omega]
                exact (if_pos c80).symm
              exact ⟨rfl, _, _, _, rfl, Or.inr ⟨by omega, rfl, hp0, (if_neg (by omega)).symm⟩⟩
            · refine rb_aload_n hV dX10_nextPiece_108 rfl rfl ?_
              refine rb_get hV (v := .inl (((s 123) 0) + 1)) dX10_nextPiece_109 ⟨RX10, TX10, 24, rfl, (Nat.le_of_ble_eq_true rfl), lf_X10_106⟩ (gw_49 _) rfl ?_
              refine rb_goto hV (tgt := 116) dX10_nextPiece_112 (by decide) ?_
              refine rb_put hV (C := RX10) (T := TX10) (N := 24) (ci := 9) (j := 14) dX10_nextPiece_116 rfl (Nat.le_of_ble_eq_true rfl) lf_X10_100 rfl (gw_49 _) (Nat.le_of_ble_eq_true rfl) (ft_X10_14 _) ((pw_49_14 _ _).trans (congrArg WW (ab_s_same _ 124 _ _))) ?_
              refine rb_ret hV (r := none) dX10_nextPiece_119 rfl ⟨(Nat.le_of_ble_eq_true rfl), (Nat.le_of_ble_eq_true rfl)⟩ trivial ?_
              have hp0 : p = eo (s 56) (s 123 0 + 1) (s 121 0 - (s 123 0 + 1)).toNat := by
                rw [h2, show (s 121 0 - p).toNat = (s 121 0 - (p + 1)).toNat + 1 by omega]
                exact (if_pos c80).symm
              exact ⟨rfl, _, _, _, rfl, Or.inr ⟨by omega, rfl, hp0, (if_pos (by omega)).symm⟩⟩
          · refine rb_aload_n hV dX10_nextPiece_83 rfl rfl ?_
            refine rb_dup hV dX10_nextPiece_84 ?_
            refine rb_get hV (v := .inl p) dX10_nextPiece_85 ⟨RX10, TX10, 24, rfl, (Nat.le_of_ble_eq_true rfl), lf_X10_103⟩ (gw_49 _) rfl ?_
            refine rb_iconst hV dX10_nextPiece_88 ?_
            refine rb_iadd hV dX10_nextPiece_89 ?_
            refine rb_put hV (C := RX10) (T := TX10) (N := 24) (ci := 9) (j := 13) dX10_nextPiece_90 rfl (Nat.le_of_ble_eq_true rfl) lf_X10_103 rfl (gw_49 _) (Nat.le_of_ble_eq_true rfl) (ft_X10_13 _) ((pw_49_13 _ _).trans (congrArg WW ((ab_s_sw (by decide)).trans (congrArg (fun x => ab_s x 124 _) (ab_s_same _ 123 _ _))))) ?_
            refine rb_goto hV (tgt := 58) dX10_nextPiece_93 (by decide) ?_
            refine ih58 (p + 1) ?_ ?_ ?_
            · omega
            · rw [h2, show (s 121 0 - p).toNat = (s 121 0 - (p + 1)).toNat + 1 by omega]
              exact if_neg c80
            · omega
    refine h58 _ (((s 123) 0) + 1) ?_ ?_ (Nat.lt_succ_self _)
    · omega
    · rfl
  · refine rb_aload_n hV dX10_nextPiece_23 rfl rfl ?_
    refine rb_aload_n hV dX10_nextPiece_24 rfl rfl ?_
    refine rb_get hV (v := .inl (s 121 0)) dX10_nextPiece_25 ⟨RX10, TX10, 24, rfl, (Nat.le_of_ble_eq_true rfl), lf_X10_83⟩ (gw_49 _) rfl ?_
    refine rb_put hV (C := RX10) (T := TX10) (N := 24) (ci := 9) (j := 14) dX10_nextPiece_28 rfl (Nat.le_of_ble_eq_true rfl) lf_X10_100 rfl (gw_49 _) (Nat.le_of_ble_eq_true rfl) (ft_X10_14 _) ((pw_49_14 _ _).trans (congrArg WW (ab_s_same _ 124 _ _))) ?_
    refine rb_ret hV (r := none) dX10_nextPiece_31 rfl ⟨(Nat.le_of_ble_eq_true rfl), (Nat.le_of_ble_eq_true rfl)⟩ trivial ?_
    exact ⟨rfl, _, _, _, rfl, Or.inl ⟨by omega, ha0, rfl, rfl⟩⟩

def NMl (t : Int → Int) (a b k v c : Int) : Prop := (c = -1 ∧ (∀ q, a ≤ q → q < k → 48 ≤ t q ∧ t q ≤ 57) ∧ (k = a ∨ (1 ≤ b - a ∧ b - a ≤ 3)) ∧ v = nv t a (k - a).toNat) ∨ (c = a ∧ ¬ isNu t a b ∧ -48 ≤ v ∧ v ≤ 100000)
theorem nv_k {t : Int → Int} {a k : Int} (h : ∀ q, a ≤ q → q < k → 48 ≤ t q ∧ t q ≤ 57) (h2 : a ≤ k) (h3 : k - a ≤ 3) : 0 ≤ nv t a (k - a).toNat ∧ nv t a (k - a).toNat ≤ 999 := by
  by_cases q : k = a
  · rw [show (k - a).toNat = 0 by omega]
    show 0 ≤ (0 : Int) ∧ (0 : Int) ≤ 999
    decide
  · exact nv_b ⟨by omega, h3, h⟩
theorem NMl_b {t : Int → Int} {a b k v c : Int} (h : NMl t a b k v c) (hk : 0 ≤ a ∧ a ≤ k ∧ k ≤ b) : -48 ≤ v ∧ v ≤ 100000 ∧ (c = -1 → 0 ≤ v ∧ v ≤ 999) := by
  rcases h with ⟨h1, h2, h3, h4⟩ | ⟨h1, h2, h3⟩
  · have := nv_k h2 hk.2.1 (by omega)
    rw [h4]
    omega
  · by_cases q : c = -1
    · omega
    · omega
/-- a number of a command, no fault before: its value v, where it ends, the fault c -/
def NMR (t : Int → Int) (n b0 lo hi v b c : Int) : Prop := (b0 = n ∧ c = n) ∨ (b0 < n ∧ ¬ (lo ≤ num t (b0 + 1) (eo t (b0 + 1) (n - (b0 + 1)).toNat) ∧ num t (b0 + 1) (eo t (b0 + 1) (n - (b0 + 1)).toNat) ≤ hi) ∧ c = b0 + 1) ∨ (b0 < n ∧ (lo ≤ num t (b0 + 1) (eo t (b0 + 1) (n - (b0 + 1)).toNat) ∧ num t (b0 + 1) (eo t (b0 + 1) (n - (b0 + 1)).toNat) ≤ hi) ∧ v = num t (b0 + 1) (eo t (b0 + 1) (n - (b0 + 1)).toNat) ∧ c = -1 ∧ b = eo t (b0 + 1) (n - (b0 + 1)).toNat)

set_option maxRecDepth 20000 in
theorem c_X10_number (s : Nat → Int → Int) (lo hi : Int) (hn : 0 ≤ s 121 0 ∧ s 121 0 ≤ 120) (ht : ∀ v, 0 ≤ s 56 v ∧ s 56 v < 65536) (hf : s 124 0 = -1) (hb0 : 0 ≤ s 123 0 ∧ s 123 0 ≤ s 121 0) (ha0 : 0 ≤ s 122 0 ∧ s 122 0 ≤ 121) (hlo : 0 ≤ lo ∧ lo ≤ 1000) (hhi : 0 ≤ hi ∧ hi ≤ 1000) : ab_Mt yX10_number cX10_number 5 (some .int) ({ frames := 1, cells := 0, slots := 0, locals := 22 } : Room) false 0 0 [.inr (some 49), .inl lo, .inl hi] (WW s) (fun r h2 => ∃ v fa fb fc, r = some (.inl v) ∧ h2 = WW (ab_s (ab_s (ab_s s 122 fa) 123 fb) 124 fc) ∧ (-48 ≤ v ∧ v ≤ 100000) ∧ ((fb 0 ≤ s 121 0 ∧ 0 ≤ fb 0) ∧ 0 ≤ fa 0 ∧ fa 0 ≤ 121) ∧ NMR (s 56) (s 121 0) (s 123 0) lo hi v (fb 0) (fc 0)) := by
  refine ab_mk RX10 false rfl pn_X10_number (fun z => by cases z) (Nat.le_of_ble_eq_true rfl) (fun V hV => ?_)
  show V 0 [some (.inr (some 49)), some (.inl lo), some (.inl hi), none, none] [] (WW s) 0 0
  refine rb_aload_n hV dX10_number_0 rfl rfl ?_
  refine rb_iconst hV dX10_number_1 ?_
  refine rb_callV hV (rest := []) dX10_number_2 (c_X10_nextPiece_f s (show 0 ≤ (s 121 0) ∧ (s 121 0) ≤ 120 by omega) ht (show (s 124 0) = -1 by omega) (show 0 ≤ (s 123 0) ∧ (s 123 0) ≤ (s 121 0) by omega) (show 0 ≤ (s 122 0) ∧ (s 122 0) ≤ 121 by omega)) lk_X10_109 rfl (Or.inl ⟨9, _, TX10, 24, gw_49 _, rfl⟩) rfl ⟨rfl, rfl, (Nat.le_of_ble_eq_true rfl), (Nat.le_of_ble_eq_true rfl), (Nat.le_of_ble_eq_true rfl), (Nat.le_of_ble_eq_true rfl)⟩ (Nat.le_of_ble_eq_true rfl) (fun r9 h9 p9 => ?_)
  obtain ⟨rfl, fa, fb, fc, rfl, hnp⟩ := p9
  replace hnp : NP (s 56) (s 121 0) (s 123 0) (fa 0) (fb 0) (fc 0) := hnp
  have hnb := NP_b hnp (by omega) (by omega)
  show V 5 [some (.inr (some 49)), some (.inl lo), some (.inl hi), none, none] [] (WW (ab_s (ab_s (ab_s s 122 fa) 123 fb) 124 fc)) 0 0
  have hq122 : 0 ≤ fa 0 ∨ ¬ fc 0 = -1 := by have := hnb.2.1; omega
  refine rb_iconst hV dX10_number_5 ?_
  refine rb_istore_n hV (L2 := [some (.inr (some 49)), some (.inl lo), some (.inl hi), some (.inl 0), none]) dX10_number_6 rfl (Nat.le_of_ble_eq_true rfl) rfl ?_
  refine rb_aload_n hV dX10_number_7 rfl rfl ?_
  refine rb_get hV (v := .inl (fa 0)) dX10_number_8 ⟨RX10, TX10, 24, rfl, (Nat.le_of_ble_eq_true rfl), lf_X10_106⟩ (gw_49 _) rfl ?_
  refine rb_istore hV (L2 := [some (.inr (some 49)), some (.inl lo), some (.inl hi), some (.inl 0), some (.inl (fa 0))]) dX10_number_11 (Nat.le_of_ble_eq_true rfl) rfl ?_
  have h13 : ∀ (n13 : Nat) (v : Int) (k : Int) (g : Int → Int), ((fa 0 ≤ k ∨ ¬ fc 0 = -1) ∧ (k ≤ fb 0 ∨ ¬ fc 0 = -1) ∧ 0 ≤ k ∧ k ≤ 121) → ((fc 0 = -1 → NMl (s 56) (fa 0) (fb 0) k v (g 0)) ∧ (¬ fc 0 = -1 → g 0 = fc 0 ∧ v = 0)) → ((fb 0 - k).toNat) < n13 → V 13 [some (.inr (some 49)), some (.inl lo), some (.inl hi), some (.inl v), some (.inl k)] [] (WW (ab_s (ab_s (ab_s s 122 fa) 123 fb) 124 g)) 0 0 := by
    intro n13
    induction n13 with
    | zero => intro v k g h1 h2 hm; omega
    | succ n13 ih13 =>
      intro v k g h1 h2 hm
      have hvb : fc 0 = -1 → -48 ≤ v ∧ v ≤ 100000 ∧ (g 0 = -1 → 0 ≤ v ∧ v ≤ 999) ∧ (g 0 = -1 ∨ g 0 = fa 0) := fun q => by
        have z := NMl_b (h2.1 q) (by omega)
        refine ⟨z.1, z.2.1, z.2.2, ?_⟩
        rcases h2.1 q with y | y
        · exact Or.inl y.1
        · exact Or.inr y.1
      have hnb1 := hnb.1
      have hnb2 := hnb.2.1
      have hnb3 := hnb.2.2.1
      have hnb4 := hnb.2.2.2.1
      have hnb5 := hnb.2.2.2.2
      refine rb_iload hV dX10_number_13 rfl ?_
      refine rb_aload_n hV dX10_number_15 rfl rfl ?_
      refine rb_get hV (v := .inl (fb 0)) dX10_number_16 ⟨RX10, TX10, 24, rfl, (Nat.le_of_ble_eq_true rfl), lf_X10_103⟩ (gw_49 _) rfl ?_
      refine rb_icmp_ge hV (tgt := 93) dX10_number_19 (by decide) ⟨(by unfold ab_r at *; omega), (by unfold ab_r at *; omega)⟩ (fun c19 => ?_) (fun c19 => ?_)
      · have hgr : g 0 = -1 ∨ (0 ≤ g 0 ∧ g 0 ≤ 120) := by
          by_cases q : fc 0 = -1
          · have := (hvb q).2.2.2
            omega
          · have := (h2.2 q).1
            omega
        have hvr : -48 ≤ v ∧ v ≤ 100000 := by
          by_cases q : fc 0 = -1
          · exact ⟨(hvb q).1, (hvb q).2.1⟩
          · have := (h2.2 q).2
            omega
        refine rb_aload_n hV dX10_number_93 rfl rfl ?_
        refine rb_get hV (v := .inl (g 0)) dX10_number_94 ⟨RX10, TX10, 24, rfl, (Nat.le_of_ble_eq_true rfl), lf_X10_100⟩ (gw_49 _) rfl ?_
        refine rb_if_ge hV (tgt := 117) dX10_number_97 (by decide) (by unfold ab_r at *; omega) (fun c97 => ?_) (fun c97 => ?_)
        · refine rb_iload_n hV dX10_number_117 rfl rfl ?_
          refine rb_ret hV (r := some (.inl v)) dX10_number_118 rfl ⟨(Nat.le_of_ble_eq_true rfl), (Nat.le_of_ble_eq_true rfl)⟩ trivial ?_
          have hfin : NMR (s 56) (s 121 0) (s 123 0) lo hi v (fb 0) (g 0) := by
            by_cases q : fc 0 = -1
            · obtain ⟨n1, n2, n3, n4, n5⟩ := hnb2 q
              have hE := h2.1 q
              rw [n5, n2] at hE
              rw [n5]
              rcases hE with ⟨z1, z2, z3, z4⟩ | ⟨z1, z2, z3⟩
              · have hk : k = eo (s 56) (s 123 0 + 1) (s 121 0 - (s 123 0 + 1)).toNat := by omega
                have hnu : isNu (s 56) (s 123 0 + 1) (eo (s 56) (s 123 0 + 1) (s 121 0 - (s 123 0 + 1)).toNat) := by
                  rw [← hk]
                  exact ⟨by omega, by omega, z2⟩
                have hv : num (s 56) (s 123 0 + 1) (eo (s 56) (s 123 0 + 1) (s 121 0 - (s 123 0 + 1)).toNat) = v := by
                  rw [z4, ← hk]
                  rw [← hk] at hnu
                  exact cif_pos hnu
                exact Or.inr (Or.inr ⟨n1, by omega, hv.symm, by omega, rfl⟩)
              · have hv : num (s 56) (s 123 0 + 1) (eo (s 56) (s 123 0 + 1) (s 121 0 - (s 123 0 + 1)).toNat) = -1 := cif_neg z2
                exact Or.inr (Or.inl ⟨n1, by omega, by omega⟩)
            · rcases hnb4 q with n1 | ⟨n1, n2, n3, n4, n5⟩
              · refine Or.inl ⟨n1, ?_⟩
                rcases hnp with z | z
                · have := h2.2 q
                  omega
                · omega
              · refine Or.inr (Or.inl ⟨n1, fun z => ?_, ?_⟩)
                · have hn : num (s 56) (s 123 0 + 1) (eo (s 56) (s 123 0 + 1) (s 121 0 - (s 123 0 + 1)).toNat) = -1 := cif_neg (fun y => by have := y.1; omega)
                  omega
                · have := h2.2 q
                  omega
          exact ⟨v, _, _, _, rfl, rfl, by omega, by show (fb 0 ≤ s 121 0 ∧ 0 ≤ fb 0) ∧ 0 ≤ fa 0 ∧ fa 0 ≤ 121; omega, hfin⟩
        · refine rb_iload_n hV dX10_number_100 rfl rfl ?_
          refine rb_iload_n hV dX10_number_101 rfl rfl ?_
          refine rb_iload_n hV dX10_number_102 rfl rfl ?_
          refine rb_callS hV (rest := []) dX10_number_103 (c_X10_in (ab_s (ab_s (ab_s s 122 fa) 123 fb) 124 g) v lo hi (by unfold ab_r at *; omega) (by unfold ab_r at *; omega) (by unfold ab_r at *; omega)) lk_X10_69 rfl rfl ⟨rfl, rfl, (Nat.le_of_ble_eq_true rfl), (Nat.le_of_ble_eq_true rfl), (Nat.le_of_ble_eq_true rfl), (Nat.le_of_ble_eq_true rfl)⟩ (Nat.le_of_ble_eq_true rfl) (fun r9 h9 p9 => ?_)
          obtain ⟨rfl, rfl⟩ := p9
          show V 106 [some (.inr (some 49)), some (.inl lo), some (.inl hi), some (.inl v), some (.inl k)] [.inl (if lo ≤ v ∧ v ≤ hi then 1 else 0)] (WW (ab_s (ab_s (ab_s s 122 fa) 123 fb) 124 g)) 0 0
          by_cases e103 : lo ≤ v ∧ v ≤ hi
          · rw [if_pos e103]
            show V 106 [some (.inr (some 49)), some (.inl lo), some (.inl hi), some (.inl v), some (.inl k)] [.inl 1] (WW (ab_s (ab_s (ab_s s 122 fa) 123 fb) 124 g)) 0 0
            refine rb_if_ne hV (tgt := 117) dX10_number_106 (by decide) (by unfold ab_r at *; omega) (fun _ => ?_) (fun z => absurd z (by decide))
            refine rb_iload_n hV dX10_number_117 rfl rfl ?_
            refine rb_ret hV (r := some (.inl v)) dX10_number_118 rfl ⟨(Nat.le_of_ble_eq_true rfl), (Nat.le_of_ble_eq_true rfl)⟩ trivial ?_
            have hfin : NMR (s 56) (s 121 0) (s 123 0) lo hi v (fb 0) (g 0) := by
              by_cases q : fc 0 = -1
              · obtain ⟨n1, n2, n3, n4, n5⟩ := hnb2 q
                have hE := h2.1 q
                rw [n5, n2] at hE
                rw [n5]
                rcases hE with ⟨z1, z2, z3, z4⟩ | ⟨z1, z2, z3⟩
                · have hk : k = eo (s 56) (s 123 0 + 1) (s 121 0 - (s 123 0 + 1)).toNat := by omega
                  have hnu : isNu (s 56) (s 123 0 + 1) (eo (s 56) (s 123 0 + 1) (s 121 0 - (s 123 0 + 1)).toNat) := by
                    rw [← hk]
                    exact ⟨by omega, by omega, z2⟩
                  have hv : num (s 56) (s 123 0 + 1) (eo (s 56) (s 123 0 + 1) (s 121 0 - (s 123 0 + 1)).toNat) = v := by
                    rw [z4, ← hk]
                    rw [← hk] at hnu
                    exact cif_pos hnu
                  exact Or.inr (Or.inr ⟨n1, by omega, hv.symm, by omega, rfl⟩)
                · have hv : num (s 56) (s 123 0 + 1) (eo (s 56) (s 123 0 + 1) (s 121 0 - (s 123 0 + 1)).toNat) = -1 := cif_neg z2
                  exact Or.inr (Or.inl ⟨n1, by omega, by omega⟩)
              · rcases hnb4 q with n1 | ⟨n1, n2, n3, n4, n5⟩
                · refine Or.inl ⟨n1, ?_⟩
                  rcases hnp with z | z
                  · have := h2.2 q
                    omega
                  · omega
                · refine Or.inr (Or.inl ⟨n1, fun z => ?_, ?_⟩)
                  · have hn : num (s 56) (s 123 0 + 1) (eo (s 56) (s 123 0 + 1) (s 121 0 - (s 123 0 + 1)).toNat) = -1 := cif_neg (fun y => by have := y.1; omega)
                    omega
                  · have := h2.2 q
                    omega
            exact ⟨v, _, _, _, rfl, rfl, by omega, by show (fb 0 ≤ s 121 0 ∧ 0 ≤ fb 0) ∧ 0 ≤ fa 0 ∧ fa 0 ≤ 121; omega, hfin⟩
          · rw [if_neg e103]
            show V 106 [some (.inr (some 49)), some (.inl lo), some (.inl hi), some (.inl v), some (.inl k)] [.inl 0] (WW (ab_s (ab_s (ab_s s 122 fa) 123 fb) 124 g)) 0 0
            refine rb_if_ne hV (tgt := 117) dX10_number_106 (by decide) (by unfold ab_r at *; omega) (fun z => absurd z (by decide)) (fun _ => ?_)
            refine rb_aload_n hV dX10_number_109 rfl rfl ?_
            refine rb_aload_n hV dX10_number_110 rfl rfl ?_
            refine rb_get hV (v := .inl (fa 0)) dX10_number_111 ⟨RX10, TX10, 24, rfl, (Nat.le_of_ble_eq_true rfl), lf_X10_106⟩ (gw_49 _) rfl ?_
            refine rb_put hV (C := RX10) (T := TX10) (N := 24) (ci := 9) (j := 14) dX10_number_114 rfl (Nat.le_of_ble_eq_true rfl) lf_X10_100 rfl (gw_49 _) (Nat.le_of_ble_eq_true rfl) (ft_X10_14 _) ((pw_49_14 _ _).trans (congrArg WW (ab_s_same _ 124 _ _))) ?_
            refine rb_iload_n hV dX10_number_117 rfl rfl ?_
            refine rb_ret hV (r := some (.inl v)) dX10_number_118 rfl ⟨(Nat.le_of_ble_eq_true rfl), (Nat.le_of_ble_eq_true rfl)⟩ trivial ?_
            have hfin : NMR (s 56) (s 121 0) (s 123 0) lo hi v (fb 0) (fa 0) := by
              by_cases q : fc 0 = -1
              · obtain ⟨n1, n2, n3, n4, n5⟩ := hnb2 q
                have hE := h2.1 q
                rw [n5, n2] at hE
                rw [n5]
                rcases hE with ⟨z1, z2, z3, z4⟩ | ⟨z1, z2, z3⟩
                · have hk : k = eo (s 56) (s 123 0 + 1) (s 121 0 - (s 123 0 + 1)).toNat := by omega
                  have hnu : isNu (s 56) (s 123 0 + 1) (eo (s 56) (s 123 0 + 1) (s 121 0 - (s 123 0 + 1)).toNat) := by
                    rw [← hk]
                    exact ⟨by omega, by omega, z2⟩
                  have hv : num (s 56) (s 123 0 + 1) (eo (s 56) (s 123 0 + 1) (s 121 0 - (s 123 0 + 1)).toNat) = v := by
                    rw [z4, ← hk]
                    rw [← hk] at hnu
                    exact cif_pos hnu
                  exact Or.inr (Or.inl ⟨n1, by omega, by omega⟩)
                · have hv : num (s 56) (s 123 0 + 1) (eo (s 56) (s 123 0 + 1) (s 121 0 - (s 123 0 + 1)).toNat) = -1 := cif_neg z2
                  exact Or.inr (Or.inl ⟨n1, by omega, by omega⟩)
              · rcases hnb4 q with n1 | ⟨n1, n2, n3, n4, n5⟩
                · refine Or.inl ⟨n1, ?_⟩
                  rcases hnp with z | z
                  · have := h2.2 q
                    omega
                  · omega
                · refine Or.inr (Or.inl ⟨n1, fun z => ?_, ?_⟩)
                  · have hn : num (s 56) (s 123 0 + 1) (eo (s 56) (s 123 0 + 1) (s 121 0 - (s 123 0 + 1)).toNat) = -1 := cif_neg (fun y => by have := y.1; omega)
                    omega
                  · have := h2.2 q
                    omega
            exact ⟨v, _, _, _, rfl, rfl, by omega, by show (fb 0 ≤ s 121 0 ∧ 0 ≤ fb 0) ∧ 0 ≤ fa 0 ∧ fa 0 ≤ 121; omega, hfin⟩
      · refine rb_aload_n hV dX10_number_22 rfl rfl ?_
        refine rb_get hV (v := .inl (g 0)) dX10_number_23 ⟨RX10, TX10, 24, rfl, (Nat.le_of_ble_eq_true rfl), lf_X10_100⟩ (gw_49 _) rfl ?_
        refine rb_if_ge hV (tgt := 93) dX10_number_26 (by decide) (by unfold ab_r; by_cases q : fc 0 = -1; (have := (hvb q).2.2.2; omega); (have := (h2.2 q).1; omega)) (fun c26 => ?_) (fun c26 => ?_)
        · have hgr : g 0 = -1 ∨ (0 ≤ g 0 ∧ g 0 ≤ 120) := by
            by_cases q : fc 0 = -1
            · have := (hvb q).2.2.2
              omega
            · have := (h2.2 q).1
              omega
          have hvr : -48 ≤ v ∧ v ≤ 100000 := by
            by_cases q : fc 0 = -1
            · exact ⟨(hvb q).1, (hvb q).2.1⟩
            · have := (h2.2 q).2
              omega
          refine rb_aload_n hV dX10_number_93 rfl rfl ?_
          refine rb_get hV (v := .inl (g 0)) dX10_number_94 ⟨RX10, TX10, 24, rfl, (Nat.le_of_ble_eq_true rfl), lf_X10_100⟩ (gw_49 _) rfl ?_
          refine rb_if_ge hV (tgt := 117) dX10_number_97 (by decide) (by unfold ab_r at *; omega) (fun c97 => ?_) (fun c97 => ?_)
          · refine rb_iload_n hV dX10_number_117 rfl rfl ?_
            refine rb_ret hV (r := some (.inl v)) dX10_number_118 rfl ⟨(Nat.le_of_ble_eq_true rfl), (Nat.le_of_ble_eq_true rfl)⟩ trivial ?_
            have hfin : NMR (s 56) (s 121 0) (s 123 0) lo hi v (fb 0) (g 0) := by
              by_cases q : fc 0 = -1
              · obtain ⟨n1, n2, n3, n4, n5⟩ := hnb2 q
                have hE := h2.1 q
                rw [n5, n2] at hE
                rw [n5]
                rcases hE with ⟨z1, z2, z3, z4⟩ | ⟨z1, z2, z3⟩
                · have hk : k = eo (s 56) (s 123 0 + 1) (s 121 0 - (s 123 0 + 1)).toNat := by omega
                  have hnu : isNu (s 56) (s 123 0 + 1) (eo (s 56) (s 123 0 + 1) (s 121 0 - (s 123 0 + 1)).toNat) := by
                    rw [← hk]
                    exact ⟨by omega, by omega, z2⟩
                  have hv : num (s 56) (s 123 0 + 1) (eo (s 56) (s 123 0 + 1) (s 121 0 - (s 123 0 + 1)).toNat) = v := by
                    rw [z4, ← hk]
                    rw [← hk] at hnu
                    exact cif_pos hnu
                  exact Or.inr (Or.inr ⟨n1, by omega, hv.symm, by omega, rfl⟩)
                · have hv : num (s 56) (s 123 0 + 1) (eo (s 56) (s 123 0 + 1) (s 121 0 - (s 123 0 + 1)).toNat) = -1 := cif_neg z2
                  exact Or.inr (Or.inl ⟨n1, by omega, by omega⟩)
              · rcases hnb4 q with n1 | ⟨n1, n2, n3, n4, n5⟩
                · refine Or.inl ⟨n1, ?_⟩
                  rcases hnp with z | z
                  · have := h2.2 q
                    omega
                  · omega
                · refine Or.inr (Or.inl ⟨n1, fun z => ?_, ?_⟩)
                  · have hn : num (s 56) (s 123 0 + 1) (eo (s 56) (s 123 0 + 1) (s 121 0 - (s 123 0 + 1)).toNat) = -1 := cif_neg (fun y => by have := y.1; omega)
                    omega
                  · have := h2.2 q
                    omega
            exact ⟨v, _, _, _, rfl, rfl, by omega, by show (fb 0 ≤ s 121 0 ∧ 0 ≤ fb 0) ∧ 0 ≤ fa 0 ∧ fa 0 ≤ 121; omega, hfin⟩
          · refine rb_iload_n hV dX10_number_100 rfl rfl ?_
            refine rb_iload_n hV dX10_number_101 rfl rfl ?_
            refine rb_iload_n hV dX10_number_102 rfl rfl ?_
            refine rb_callS hV (rest := []) dX10_number_103 (c_X10_in (ab_s (ab_s (ab_s s 122 fa) 123 fb) 124 g) v lo hi (by unfold ab_r at *; omega) (by unfold ab_r at *; omega) (by unfold ab_r at *; omega)) lk_X10_69 rfl rfl ⟨rfl, rfl, (Nat.le_of_ble_eq_true rfl), (Nat.le_of_ble_eq_true rfl), (Nat.le_of_ble_eq_true rfl), (Nat.le_of_ble_eq_true rfl)⟩ (Nat.le_of_ble_eq_true rfl) (fun r9 h9 p9 => ?_)
            obtain ⟨rfl, rfl⟩ := p9
            show V 106 [some (.inr (some 49)), some (.inl lo), some (.inl hi), some (.inl v), some (.inl k)] [.inl (if lo ≤ v ∧ v ≤ hi then 1 else 0)] (WW (ab_s (ab_s (ab_s s 122 fa) 123 fb) 124 g)) 0 0
            by_cases e103 : lo ≤ v ∧ v ≤ hi
            · rw [if_pos e103]
              show V 106 [some (.inr (some 49)), some (.inl lo), some (.inl hi), some (.inl v), some (.inl k)] [.inl 1] (WW (ab_s (ab_s (ab_s s 122 fa) 123 fb) 124 g)) 0 0
              refine rb_if_ne hV (tgt := 117) dX10_number_106 (by decide) (by unfold ab_r at *; omega) (fun _ => ?_) (fun z => absurd z (by decide))
              refine rb_iload_n hV dX10_number_117 rfl rfl ?_
              refine rb_ret hV (r := some (.inl v)) dX10_number_118 rfl ⟨(Nat.le_of_ble_eq_true rfl), (Nat.le_of_ble_eq_true rfl)⟩ trivial ?_
              have hfin : NMR (s 56) (s 121 0) (s 123 0) lo hi v (fb 0) (g 0) := by
                by_cases q : fc 0 = -1
                · obtain ⟨n1, n2, n3, n4, n5⟩ := hnb2 q
                  have hE := h2.1 q
                  rw [n5, n2] at hE
                  rw [n5]
                  rcases hE with ⟨z1, z2, z3, z4⟩ | ⟨z1, z2, z3⟩
                  · have hk : k = eo (s 56) (s 123 0 + 1) (s 121 0 - (s 123 0 + 1)).toNat := by omega
                    have hnu : isNu (s 56) (s 123 0 + 1) (eo (s 56) (s 123 0 + 1) (s 121 0 - (s 123 0 + 1)).toNat) := by
                      rw [← hk]
                      exact ⟨by omega, by omega, z2⟩
                    have hv : num (s 56) (s 123 0 + 1) (eo (s 56) (s 123 0 + 1) (s 121 0 - (s 123 0 + 1)).toNat) = v := by
                      rw [z4, ← hk]
                      rw [← hk] at hnu
                      exact cif_pos hnu
                    exact Or.inr (Or.inr ⟨n1, by omega, hv.symm, by omega, rfl⟩)
                  · have hv : num (s 56) (s 123 0 + 1) (eo (s 56) (s 123 0 + 1) (s 121 0 - (s 123 0 + 1)).toNat) = -1 := cif_neg z2
                    exact Or.inr (Or.inl ⟨n1, by omega, by omega⟩)
                · rcases hnb4 q with n1 | ⟨n1, n2, n3, n4, n5⟩
                  · refine Or.inl ⟨n1, ?_⟩
                    rcases hnp with z | z
                    · have := h2.2 q
                      omega
                    · omega
                  · refine Or.inr (Or.inl ⟨n1, fun z => ?_, ?_⟩)
                    · have hn : num (s 56) (s 123 0 + 1) (eo (s 56) (s 123 0 + 1) (s 121 0 - (s 123 0 + 1)).toNat) = -1 := cif_neg (fun y => by have := y.1; omega)
                      omega
                    · have := h2.2 q
                      omega
              exact ⟨v, _, _, _, rfl, rfl, by omega, by show (fb 0 ≤ s 121 0 ∧ 0 ≤ fb 0) ∧ 0 ≤ fa 0 ∧ fa 0 ≤ 121; omega, hfin⟩
            · rw [if_neg e103]
              show V 106 [some (.inr (some 49)), some (.inl lo), some (.inl hi), some (.inl v), some (.inl k)] [.inl 0] (WW (ab_s (ab_s (ab_s s 122 fa) 123 fb) 124 g)) 0 0
              refine rb_if_ne hV (tgt := 117) dX10_number_106 (by decide) (by unfold ab_r at *; omega) (fun z => absurd z (by decide)) (fun _ => ?_)
              refine rb_aload_n hV dX10_number_109 rfl rfl ?_
              refine rb_aload_n hV dX10_number_110 rfl rfl ?_
              refine rb_get hV (v := .inl (fa 0)) dX10_number_111 ⟨RX10, TX10, 24, rfl, (Nat.le_of_ble_eq_true rfl), lf_X10_106⟩ (gw_49 _) rfl ?_
              refine rb_put hV (C := RX10) (T := TX10) (N := 24) (ci := 9) (j := 14) dX10_number_114 rfl (Nat.le_of_ble_eq_true rfl) lf_X10_100 rfl (gw_49 _) (Nat.le_of_ble_eq_true rfl) (ft_X10_14 _) ((pw_49_14 _ _).trans (congrArg WW (ab_s_same _ 124 _ _))) ?_
              refine rb_iload_n hV dX10_number_117 rfl rfl ?_
              refine rb_ret hV (r := some (.inl v)) dX10_number_118 rfl ⟨(Nat.le_of_ble_eq_true rfl), (Nat.le_of_ble_eq_true rfl)⟩ trivial ?_
              have hfin : NMR (s 56) (s 121 0) (s 123 0) lo hi v (fb 0) (fa 0) := by
                by_cases q : fc 0 = -1
                · obtain ⟨n1, n2, n3, n4, n5⟩ := hnb2 q
                  have hE := h2.1 q
                  rw [n5, n2] at hE
                  rw [n5]
                  rcases hE with ⟨z1, z2, z3, z4⟩ | ⟨z1, z2, z3⟩
                  · have hk : k = eo (s 56) (s 123 0 + 1) (s 121 0 - (s 123 0 + 1)).toNat := by omega
                    have hnu : isNu (s 56) (s 123 0 + 1) (eo (s 56) (s 123 0 + 1) (s 121 0 - (s 123 0 + 1)).toNat) := by
                      rw [← hk]
                      exact ⟨by omega, by omega, z2⟩
                    have hv : num (s 56) (s 123 0 + 1) (eo (s 56) (s 123 0 + 1) (s 121 0 - (s 123 0 + 1)).toNat) = v := by
                      rw [z4, ← hk]
                      rw [← hk] at hnu
                      exact cif_pos hnu
                    exact Or.inr (Or.inl ⟨n1, by omega, by omega⟩)
                  · have hv : num (s 56) (s 123 0 + 1) (eo (s 56) (s 123 0 + 1) (s 121 0 - (s 123 0 + 1)).toNat) = -1 := cif_neg z2
                    exact Or.inr (Or.inl ⟨n1, by omega, by omega⟩)
                · rcases hnb4 q with n1 | ⟨n1, n2, n3, n4, n5⟩
                  · refine Or.inl ⟨n1, ?_⟩
                    rcases hnp with z | z
                    · have := h2.2 q
                      omega
                    · omega
                  · refine Or.inr (Or.inl ⟨n1, fun z => ?_, ?_⟩)
                    · have hn : num (s 56) (s 123 0 + 1) (eo (s 56) (s 123 0 + 1) (s 121 0 - (s 123 0 + 1)).toNat) = -1 := cif_neg (fun y => by have := y.1; omega)
                      omega
                    · have := h2.2 q
                      omega
              exact ⟨v, _, _, _, rfl, rfl, by omega, by show (fb 0 ≤ s 121 0 ∧ 0 ≤ fb 0) ∧ 0 ≤ fa 0 ∧ fa 0 ≤ 121; omega, hfin⟩
        · have htk := ht k
          have hq1 : fc 0 = -1 := by
            rcases hnb1 with q | q
            · exact q
            · have := (h2.2 (by omega)).1
              omega
          refine rb_aload_n hV dX10_number_29 rfl rfl ?_
          refine rb_get hV (v := .inr (some 56)) dX10_number_30 ⟨RX10, TX10, 24, rfl, (Nat.le_of_ble_eq_true rfl), lf_X10_38⟩ (gw_49 _) rfl ?_
          refine rb_iload hV dX10_number_33 rfl ?_
          refine rb_cald hV (f := (s 56)) dX10_number_35 (gw_56 _) (Nat.le_of_ble_eq_true rfl) (by omega) ?_
          refine rb_bipush hV dX10_number_36 (by decide) ?_
          refine rb_bipush hV dX10_number_38 (by decide) ?_
          refine rb_callS hV (rest := []) dX10_number_40 (c_X10_in (ab_s (ab_s (ab_s s 122 fa) 123 fb) 124 g) (s 56 k) 48 57 (by have := ht k; unfold ab_r; omega) (by have := ht k; unfold ab_r; omega) (by have := ht k; unfold ab_r; omega)) lk_X10_69 rfl rfl ⟨rfl, rfl, (Nat.le_of_ble_eq_true rfl), (Nat.le_of_ble_eq_true rfl), (Nat.le_of_ble_eq_true rfl), (Nat.le_of_ble_eq_true rfl)⟩ (Nat.le_of_ble_eq_true rfl) (fun r9 h9 p9 => ?_)
          obtain ⟨rfl, rfl⟩ := p9
          show V 43 [some (.inr (some 49)), some (.inl lo), some (.inl hi), some (.inl v), some (.inl k)] [.inl (if 48 ≤ (s 56 k) ∧ (s 56 k) ≤ 57 then 1 else 0)] (WW (ab_s (ab_s (ab_s s 122 fa) 123 fb) 124 g)) 0 0
          by_cases e40 : 48 ≤ (s 56 k) ∧ (s 56 k) ≤ 57
          · rw [if_pos e40]
            show V 43 [some (.inr (some 49)), some (.inl lo), some (.inl hi), some (.inl v), some (.inl k)] [.inl 1] (WW (ab_s (ab_s (ab_s s 122 fa) 123 fb) 124 g)) 0 0
            refine rb_if_eq hV (tgt := 63) dX10_number_43 (by decide) (by unfold ab_r at *; omega) (fun z => absurd z (by decide)) (fun _ => ?_)
            refine rb_aload_n hV dX10_number_46 rfl rfl ?_
            refine rb_get hV (v := .inl (fb 0)) dX10_number_47 ⟨RX10, TX10, 24, rfl, (Nat.le_of_ble_eq_true rfl), lf_X10_103⟩ (gw_49 _) rfl ?_
            refine rb_aload_n hV dX10_number_50 rfl rfl ?_
            refine rb_get hV (v := .inl (fa 0)) dX10_number_51 ⟨RX10, TX10, 24, rfl, (Nat.le_of_ble_eq_true rfl), lf_X10_106⟩ (gw_49 _) rfl ?_
            refine rb_isub hV dX10_number_54 ?_
            refine rb_iconst hV dX10_number_55 ?_
            refine rb_iconst hV dX10_number_56 ?_
            refine rb_callS hV (rest := []) dX10_number_57 (c_X10_in (ab_s (ab_s (ab_s s 122 fa) 123 fb) 124 g) ((fb 0) - (fa 0)) 1 3 (by unfold ab_r at *; omega) (by unfold ab_r at *; omega) (by unfold ab_r at *; omega)) lk_X10_69 rfl rfl ⟨rfl, rfl, (Nat.le_of_ble_eq_true rfl), (Nat.le_of_ble_eq_true rfl), (Nat.le_of_ble_eq_true rfl), (Nat.le_of_ble_eq_true rfl)⟩ (Nat.le_of_ble_eq_true rfl) (fun r9 h9 p9 => ?_)
            obtain ⟨rfl, rfl⟩ := p9
            show V 60 [some (.inr (some 49)), some (.inl lo), some (.inl hi), some (.inl v), some (.inl k)] [.inl (if 1 ≤ ((fb 0) - (fa 0)) ∧ ((fb 0) - (fa 0)) ≤ 3 then 1 else 0)] (WW (ab_s (ab_s (ab_s s 122 fa) 123 fb) 124 g)) 0 0
            by_cases e57 : 1 ≤ ((fb 0) - (fa 0)) ∧ ((fb 0) - (fa 0)) ≤ 3
            · rw [if_pos e57]
              show V 60 [some (.inr (some 49)), some (.inl lo), some (.inl hi), some (.inl v), some (.inl k)] [.inl 1] (WW (ab_s (ab_s (ab_s s 122 fa) 123 fb) 124 g)) 0 0
              refine rb_if_ne hV (tgt := 71) dX10_number_60 (by decide) (by unfold ab_r at *; omega) (fun _ => ?_) (fun z => absurd z (by decide))
              refine rb_bipush hV dX10_number_71 (by decide) ?_
              refine rb_iload_n hV dX10_number_73 rfl rfl ?_
              refine rb_imul hV dX10_number_74 ?_
              refine rb_aload_n hV dX10_number_75 rfl rfl ?_
              refine rb_get hV (v := .inr (some 56)) dX10_number_76 ⟨RX10, TX10, 24, rfl, (Nat.le_of_ble_eq_true rfl), lf_X10_38⟩ (gw_49 _) rfl ?_
              refine rb_iload hV dX10_number_79 rfl ?_
              refine rb_cald hV (f := (s 56)) dX10_number_81 (gw_56 _) (Nat.le_of_ble_eq_true rfl) (by omega) ?_
              refine rb_iadd hV dX10_number_82 ?_
              refine rb_bipush hV dX10_number_83 (by decide) ?_
              refine rb_isub hV dX10_number_85 ?_
              refine rb_istore_n hV (L2 := [some (.inr (some 49)), some (.inl lo), some (.inl hi), some (.inl (((10 * v) + (s 56 k)) - 48)), some (.inl k)]) dX10_number_86 rfl (Nat.le_of_ble_eq_true rfl) rfl ?_
              refine rb_iinc hV (L2 := [some (.inr (some 49)), some (.inl lo), some (.inl hi), some (.inl (((10 * v) + (s 56 k)) - 48)), some (.inl (k + 1))]) dX10_number_87 rfl rfl rfl ?_
              refine rb_goto hV (tgt := 13) dX10_number_90 (by decide) ?_
              refine ih13 (((10 * v) + (s 56 k)) - 48) (k + 1) (g) ?_ ?_ ?_
              · omega
              · refine ⟨fun q => Or.inl ?_, fun q => by omega⟩
                rcases h2.1 q with ⟨z1, z2, z3, z4⟩ | ⟨z1, z2, z3⟩
                · refine ⟨z1, fun j q1 q2 => ?_, Or.inr (by omega), ?_⟩
                  · by_cases hj : j = k
                    · rw [hj]
                      exact e40
                    · exact z2 j q1 (by omega)
                  · rw [show (k + 1 - fa 0).toNat = (k - fa 0).toNat + 1 by omega]
                    show _ = nv (s 56) (fa 0) (k - fa 0).toNat * 10 + (s 56 (fa 0 + ((k - fa 0).toNat : Int)) - 48)
                    rw [show fa 0 + ((k - fa 0).toNat : Int) = k by omega, z4]
                    omega
                · omega
              · omega
            · rw [if_neg e57]
              show V 60 [some (.inr (some 49)), some (.inl lo), some (.inl hi), some (.inl v), some (.inl k)] [.inl 0] (WW (ab_s (ab_s (ab_s s 122 fa) 123 fb) 124 g)) 0 0
              refine rb_if_ne hV (tgt := 71) dX10_number_60 (by decide) (by unfold ab_r at *; omega) (fun z => absurd z (by decide)) (fun _ => ?_)
              refine rb_aload_n hV dX10_number_63 rfl rfl ?_
              refine rb_aload_n hV dX10_number_64 rfl rfl ?_
              refine rb_get hV (v := .inl (fa 0)) dX10_number_65 ⟨RX10, TX10, 24, rfl, (Nat.le_of_ble_eq_true rfl), lf_X10_106⟩ (gw_49 _) rfl ?_
              refine rb_put hV (C := RX10) (T := TX10) (N := 24) (ci := 9) (j := 14) dX10_number_68 rfl (Nat.le_of_ble_eq_true rfl) lf_X10_100 rfl (gw_49 _) (Nat.le_of_ble_eq_true rfl) (ft_X10_14 _) ((pw_49_14 _ _).trans (congrArg WW (ab_s_same _ 124 _ _))) ?_
              refine rb_bipush hV dX10_number_71 (by decide) ?_
              refine rb_iload_n hV dX10_number_73 rfl rfl ?_
              refine rb_imul hV dX10_number_74 ?_
              refine rb_aload_n hV dX10_number_75 rfl rfl ?_
              refine rb_get hV (v := .inr (some 56)) dX10_number_76 ⟨RX10, TX10, 24, rfl, (Nat.le_of_ble_eq_true rfl), lf_X10_38⟩ (gw_49 _) rfl ?_
              refine rb_iload hV dX10_number_79 rfl ?_
              refine rb_cald hV (f := (s 56)) dX10_number_81 (gw_56 _) (Nat.le_of_ble_eq_true rfl) (by omega) ?_
              refine rb_iadd hV dX10_number_82 ?_
              refine rb_bipush hV dX10_number_83 (by decide) ?_
              refine rb_isub hV dX10_number_85 ?_
              refine rb_istore_n hV (L2 := [some (.inr (some 49)), some (.inl lo), some (.inl hi), some (.inl (((10 * v) + (s 56 k)) - 48)), some (.inl k)]) dX10_number_86 rfl (Nat.le_of_ble_eq_true rfl) rfl ?_
              refine rb_iinc hV (L2 := [some (.inr (some 49)), some (.inl lo), some (.inl hi), some (.inl (((10 * v) + (s 56 k)) - 48)), some (.inl (k + 1))]) dX10_number_87 rfl rfl rfl ?_
              refine rb_goto hV (tgt := 13) dX10_number_90 (by decide) ?_
              refine ih13 (((10 * v) + (s 56 k)) - 48) (k + 1) (fun _ => (fa 0)) ?_ ?_ ?_
              · omega
              · exact ⟨fun q => Or.inr ⟨rfl, fun z => by have z1 := z.1; have z2 := z.2.1; omega, by omega, by omega⟩, fun q => by omega⟩
              · omega
          · rw [if_neg e40]
            show V 43 [some (.inr (some 49)), some (.inl lo), some (.inl hi), some (.inl v), some (.inl k)] [.inl 0] (WW (ab_s (ab_s (ab_s s 122 fa) 123 fb) 124 g)) 0 0
            refine rb_if_eq hV (tgt := 63) dX10_number_43 (by decide) (by unfold ab_r at *; omega) (fun _ => ?_) (fun z => absurd z (by decide))
            refine rb_aload_n hV dX10_number_63 rfl rfl ?_
            refine rb_aload_n hV dX10_number_64 rfl rfl ?_
            refine rb_get hV (v := .inl (fa 0)) dX10_number_65 ⟨RX10, TX10, 24, rfl, (Nat.le_of_ble_eq_true rfl), lf_X10_106⟩ (gw_49 _) rfl ?_
            refine rb_put hV (C := RX10) (T := TX10) (N := 24) (ci := 9) (j := 14) dX10_number_68 rfl (Nat.le_of_ble_eq_true rfl) lf_X10_100 rfl (gw_49 _) (Nat.le_of_ble_eq_true rfl) (ft_X10_14 _) ((pw_49_14 _ _).trans (congrArg WW (ab_s_same _ 124 _ _))) ?_
            refine rb_bipush hV dX10_number_71 (by decide) ?_
            refine rb_iload_n hV dX10_number_73 rfl rfl ?_
            refine rb_imul hV dX10_number_74 ?_
            refine rb_aload_n hV dX10_number_75 rfl rfl ?_
            refine rb_get hV (v := .inr (some 56)) dX10_number_76 ⟨RX10, TX10, 24, rfl, (Nat.le_of_ble_eq_true rfl), lf_X10_38⟩ (gw_49 _) rfl ?_
            refine rb_iload hV dX10_number_79 rfl ?_
            refine rb_cald hV (f := (s 56)) dX10_number_81 (gw_56 _) (Nat.le_of_ble_eq_true rfl) (by omega) ?_
            refine rb_iadd hV dX10_number_82 ?_
            refine rb_bipush hV dX10_number_83 (by decide) ?_
            refine rb_isub hV dX10_number_85 ?_
            refine rb_istore_n hV (L2 := [some (.inr (some 49)), some (.inl lo), some (.inl hi), some (.inl (((10 * v) + (s 56 k)) - 48)), some (.inl k)]) dX10_number_86 rfl (Nat.le_of_ble_eq_true rfl) rfl ?_
            refine rb_iinc hV (L2 := [some (.inr (some 49)), some (.inl lo), some (.inl hi), some (.inl (((10 * v) + (s 56 k)) - 48)), some (.inl (k + 1))]) dX10_number_87 rfl rfl rfl ?_
            refine rb_goto hV (tgt := 13) dX10_number_90 (by decide) ?_
            refine ih13 (((10 * v) + (s 56 k)) - 48) (k + 1) (fun _ => (fa 0)) ?_ ?_ ?_
            · omega
            · exact ⟨fun q => Or.inr ⟨rfl, fun z => e40 (z.2.2 k (by omega) (by omega)), by omega, by omega⟩, fun q => by omega⟩
            · omega
  refine h13 _ 0 (fa 0) (fc) ?_ ?_ (Nat.lt_succ_self _)
  · omega
  · exact ⟨fun q => Or.inl ⟨q, fun j q1 q2 => by omega, Or.inl rfl, by rw [show (fa 0 - fa 0).toNat = 0 by omega]; rfl⟩, fun q => ⟨rfl, rfl⟩⟩
