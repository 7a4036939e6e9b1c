/-! MATHEMATICS 3: sharing out -/
def sh1 (kd : Int → Int) (kind bound by_ a : Int) : Nat → (Int → Int) × Int → (Int → Int) × Int
  | 0, p => p
  | k + 1, p => if 0 < (sh1 kd kind bound by_ a k p).2 ∧ kd (a + k) = kind ∧ ¬ (sh1 kd kind bound by_ a k p).1 (a + k) = bound then (ab_u (sh1 kd kind bound by_ a k p).1 (a + k) ((sh1 kd kind bound by_ a k p).1 (a + k) + by_), (sh1 kd kind bound by_ a k p).2 - 1) else sh1 kd kind bound by_ a k p
section SH
variable {kd : Int → Int} {kind bound by_ a : Int}
theorem sh1_hi {p : (Int → Int) × Int} : ∀ (k : Nat) (j : Int), (j < a ∨ a + k ≤ j) → (sh1 kd kind bound by_ a k p).1 j = p.1 j
  | 0, _, _ => rfl
  | k + 1, j, h => by
    have ih := sh1_hi (p := p) k j (by omega)
    rw [sh1]
    split
    · show ab_u _ _ _ j = _
      rw [ab_u_ne (by omega)]
      exact ih
    · exact ih
theorem sh1_u {p : (Int → Int) × Int} : ∀ (k : Nat), (0 ≤ p.2 → 0 ≤ (sh1 kd kind bound by_ a k p).2) ∧ (sh1 kd kind bound by_ a k p).2 ≤ p.2
  | 0 => ⟨fun h => h, Int.le_refl _⟩
  | k + 1 => by
    have ih := sh1_u (p := p) k
    rw [sh1]
    split
    · rename_i h
      show (0 ≤ p.2 → 0 ≤ (sh1 kd kind bound by_ a k p).2 - 1) ∧ (sh1 kd kind bound by_ a k p).2 - 1 ≤ p.2
      omega
    · exact ih
theorem sh1_stop {p : (Int → Int) × Int} {k : Nat} (h : (sh1 kd kind bound by_ a k p).2 ≤ 0) : ∀ j : Nat, sh1 kd kind bound by_ a (k + j) p = sh1 kd kind bound by_ a k p
  | 0 => rfl
  | j + 1 => by
    rw [show k + (j + 1) = k + j + 1 by omega, sh1, sh1_stop h j, if_neg (by omega)]
theorem sh1_near {p : (Int → Int) × Int} (hb : by_ = 1 ∨ by_ = -1) : ∀ (k : Nat) (j : Int), p.1 j - 1 ≤ (sh1 kd kind bound by_ a k p).1 j ∧ (sh1 kd kind bound by_ a k p).1 j ≤ p.1 j + 1
  | 0, j => by
    show p.1 j - 1 ≤ p.1 j ∧ p.1 j ≤ p.1 j + 1
    omega
  | k + 1, j => by
    have ih := sh1_near (p := p) hb k j
    rw [sh1]
    split
    · show p.1 j - 1 ≤ ab_u _ _ _ j ∧ ab_u _ _ _ j ≤ p.1 j + 1
      by_cases hj : j = a + k
      · rw [hj, ab_u_eq, sh1_hi k (a + k) (Or.inr (Int.le_refl _))]
        omega
      · rw [ab_u_ne hj]
        exact ih
    · exact ih
/-- the same on a stretch of words -/
def agr (a b : Int) (p q : (Int → Int) × Int) : Prop := p.2 = q.2 ∧ ∀ w, a ≤ w → w < b → p.1 w = q.1 w
theorem sh1_agr {b : Int} {p q : (Int → Int) × Int} (h : agr a b p q) : ∀ k : Nat, a + k ≤ b → agr a b (sh1 kd kind bound by_ a k p) (sh1 kd kind bound by_ a k q)
  | 0, _ => h
  | k + 1, hk => by
    obtain ⟨i1, i2⟩ := sh1_agr h k (by omega)
    rw [sh1, sh1, i1, i2 (a + k) (by omega) (by omega)]
    split
    · refine ⟨?_, fun w h1 h2 => ?_⟩
      · show _ - 1 = _ - 1
        rfl
      · show ab_u _ _ _ w = ab_u _ _ _ w
        by_cases hw : w = a + k
        · rw [hw, ab_u_eq, ab_u_eq]
        · rw [ab_u_ne hw, ab_u_ne hw]
          exact i2 w h1 h2
    · exact ⟨i1, i2⟩
/-- what a pass does -/
theorem sh1_what {p : (Int → Int) × Int} (hb : by_ = 1 ∨ by_ = -1) : ∀ k : Nat, Sm (fun w => by_ * ((sh1 kd kind bound by_ a k p).1 w - p.1 w)) a (a + k) + (sh1 kd kind bound by_ a k p).2 = p.2 ∧
    (∀ w, (sh1 kd kind bound by_ a k p).1 w = p.1 w ∨ (kd w = kind ∧ ¬ p.1 w = bound ∧ (sh1 kd kind bound by_ a k p).1 w = p.1 w + by_)) ∧
    (0 < (sh1 kd kind bound by_ a k p).2 → ∀ w, a ≤ w → w < a + k → kd w = kind → ¬ p.1 w = bound → (sh1 kd kind bound by_ a k p).1 w = p.1 w + by_)
  | 0 => ⟨by rw [show a + ((0 : Nat) : Int) = a by omega, Sm_self]; show 0 + p.2 = p.2; omega, fun w => Or.inl rfl, fun _ w h1 h2 => by omega⟩
  | k + 1 => by
    obtain ⟨i1, i2, i3⟩ := sh1_what (p := p) hb k
    have hi : (sh1 kd kind bound by_ a k p).1 (a + k) = p.1 (a + k) := sh1_hi k _ (Or.inr (Int.le_refl _))
    rw [show a + ((k + 1 : Nat) : Int) = a + k + 1 by omega, Sm_succ _ (by omega)]
    rw [sh1]
    split
    · rename_i h
      have e : ∀ j, a ≤ j → j < a + k → by_ * ((ab_u (sh1 kd kind bound by_ a k p).1 (a + k) ((sh1 kd kind bound by_ a k p).1 (a + k) + by_)) j - p.1 j) = by_ * ((sh1 kd kind bound by_ a k p).1 j - p.1 j) := fun j _ h2 => by rw [ab_u_ne (by omega)]
      refine ⟨?_, fun w => ?_, fun hz w h1 h2 h3 h4 => ?_⟩
      · show Sm (fun w => by_ * ((ab_u (sh1 kd kind bound by_ a k p).1 (a + k) ((sh1 kd kind bound by_ a k p).1 (a + k) + by_)) w - p.1 w)) a (a + k) + by_ * ((ab_u (sh1 kd kind bound by_ a k p).1 (a + k) ((sh1 kd kind bound by_ a k p).1 (a + k) + by_)) (a + k) - p.1 (a + k)) + ((sh1 kd kind bound by_ a k p).2 - 1) = p.2
        rw [Sm_congr e, ab_u_eq, hi, show p.1 (a + k) + by_ - p.1 (a + k) = by_ by omega]
        rcases hb with rfl | rfl <;> omega
      · show ab_u _ _ _ w = _ ∨ (_ ∧ _ ∧ ab_u _ _ _ w = _)
        by_cases hw : w = a + k
        · subst hw
          rw [ab_u_eq, hi]
          exact Or.inr ⟨h.2.1, by rw [← hi]; exact h.2.2, rfl⟩
        · rw [ab_u_ne hw]
          exact i2 w
      · show ab_u _ _ _ w = _
        by_cases hw : w = a + k
        · subst hw
          rw [ab_u_eq, hi]
        · rw [ab_u_ne hw]
          exact i3 h.1 w h1 (by omega) h3 h4
    · rename_i h
      refine ⟨?_, i2, fun hz w h1 h2 h3 h4 => ?_⟩
      · rw [hi]
        simp only [Int.sub_self, Int.mul_zero]
        omega
      · by_cases hw : w = a + k
        · subst hw
          exact absurd ⟨hz, h3, by rw [hi]; exact h4⟩ h
        · exact i3 hz w h1 (by omega) h3 h4
end SH
def sbd (d : Nat → Int → Int) (by_ k : Int) : Int := if 0 < by_ then d 11 k else d 9 k
/-- one round -/
def rnd (d : Nat → Int → Int) (by_ a b : Int) (p : (Int → Int) × Int) : (Int → Int) × Int :=
  sh1 (d 3) 0 (sbd d by_ 0) by_ a (b - a).toNat (sh1 (d 3) (if 0 < by_ then 1 else 2) (sbd d by_ (if 0 < by_ then 1 else 2)) by_ a (b - a).toNat (sh1 (d 3) (if 0 < by_ then 2 else 1) (sbd d by_ (if 0 < by_ then 2 else 1)) by_ a (b - a).toNat p))
def rnds (d : Nat → Int → Int) (by_ a b : Int) : Nat → (Int → Int) × Int → (Int → Int) × Int
  | 0, p => p
  | k + 1, p => rnd d by_ a b (rnds d by_ a b k p)
def na0 (d : Nat → Int → Int) : Int → Int := fun w => d 10 (d 3 w)
def sby (d : Nat → Int → Int) (a b : Int) : Int := if 0 < df d a b then 1 else -1
def sun (d : Nat → Int → Int) (a b : Int) : Int := if 0 ≤ df d a b then df d a b else - df d a b
/-- the widths of a line's spaces -/
def swF (d : Nat → Int → Int) (a b : Int) : Int → Int := if 0 < df d a b ∧ b = d 0 0 - 1 then na0 d else (rnds d (sby d a b) a b 40 (na0 d, sun d a b)).1
section RN
variable {d : Nat → Int → Int} {by_ a b : Int}
theorem rnd_agr {p q : (Int → Int) × Int} (hab : a ≤ b) (h : agr a b p q) : agr a b (rnd d by_ a b p) (rnd d by_ a b q) :=
  sh1_agr (sh1_agr (sh1_agr h _ (by omega)) _ (by omega)) _ (by omega)
theorem rnd_u {p : (Int → Int) × Int} : (0 ≤ p.2 → 0 ≤ (rnd d by_ a b p).2) ∧ (rnd d by_ a b p).2 ≤ p.2 := by
  unfold rnd
  generalize e1 : sh1 (d 3) (if 0 < by_ then 2 else 1) (sbd d by_ (if 0 < by_ then 2 else 1)) by_ a (b - a).toNat p = p1
  generalize e2 : sh1 (d 3) (if 0 < by_ then 1 else 2) (sbd d by_ (if 0 < by_ then 1 else 2)) by_ a (b - a).toNat p1 = p2
  have h1 := sh1_u (kd := d 3) (kind := if 0 < by_ then 2 else 1) (bound := sbd d by_ (if 0 < by_ then 2 else 1)) (by_ := by_) (a := a) (p := p) (b - a).toNat
  have h2 := sh1_u (kd := d 3) (kind := if 0 < by_ then 1 else 2) (bound := sbd d by_ (if 0 < by_ then 1 else 2)) (by_ := by_) (a := a) (p := p1) (b - a).toNat
  have h3 := sh1_u (kd := d 3) (kind := 0) (bound := sbd d by_ 0) (by_ := by_) (a := a) (p := p2) (b - a).toNat
  rw [e1] at h1
  rw [e2] at h2
  omega
theorem rnd_0 {p : (Int → Int) × Int} (h : p.2 ≤ 0) : rnd d by_ a b p = p := by
  have e : ∀ (kind bound : Int), sh1 (d 3) kind bound by_ a (b - a).toNat p = p := fun kind bound => by
    have := sh1_stop (kd := d 3) (kind := kind) (bound := bound) (by_ := by_) (a := a) (p := p) (k := 0) h (b - a).toNat
    rwa [Nat.zero_add] at this
  unfold rnd
  rw [e, e, e]
theorem rnds_stop {p : (Int → Int) × Int} {k : Nat} (h : (rnds d by_ a b k p).2 ≤ 0) : ∀ j : Nat, rnds d by_ a b (k + j) p = rnds d by_ a b k p
  | 0 => rfl
  | j + 1 => by
    rw [show k + (j + 1) = k + j + 1 by omega, rnds, rnds_stop h j, rnd_0 h]
theorem rnds_nn {p : (Int → Int) × Int} (h : 0 ≤ p.2) : ∀ k : Nat, 0 ≤ (rnds d by_ a b k p).2
  | 0 => h
  | k + 1 => by
    rw [rnds]
    exact rnd_u.1 (rnds_nn h k)
/-- what a round does -/
theorem rnd_what {p : (Int → Int) × Int} (hb : by_ = 1 ∨ by_ = -1) (hab : a ≤ b) (hk : ∀ w, a ≤ w → w < b → d 3 w = 0 ∨ d 3 w = 1 ∨ d 3 w = 2) :
    Sm (fun w => by_ * ((rnd d by_ a b p).1 w - p.1 w)) a b + (rnd d by_ a b p).2 = p.2 ∧
    (∀ w, a ≤ w → w < b → (rnd d by_ a b p).1 w = p.1 w ∨ (¬ p.1 w = sbd d by_ (d 3 w) ∧ (rnd d by_ a b p).1 w = p.1 w + by_)) ∧
    (0 < (rnd d by_ a b p).2 → ∀ w, a ≤ w → w < b → ¬ p.1 w = sbd d by_ (d 3 w) → (rnd d by_ a b p).1 w = p.1 w + by_) := by
  unfold rnd
  generalize e1 : sh1 (d 3) (if 0 < by_ then 2 else 1) (sbd d by_ (if 0 < by_ then 2 else 1)) by_ a (b - a).toNat p = p1
  generalize e2 : sh1 (d 3) (if 0 < by_ then 1 else 2) (sbd d by_ (if 0 < by_ then 1 else 2)) by_ a (b - a).toNat p1 = p2
  generalize e3 : sh1 (d 3) 0 (sbd d by_ 0) by_ a (b - a).toNat p2 = p3
  have u2 := (sh1_u (kd := d 3) (kind := if 0 < by_ then 1 else 2) (bound := sbd d by_ (if 0 < by_ then 1 else 2)) (by_ := by_) (a := a) (p := p1) (b - a).toNat).2
  have u3 := (sh1_u (kd := d 3) (kind := 0) (bound := sbd d by_ 0) (by_ := by_) (a := a) (p := p2) (b - a).toNat).2
  have w1 := sh1_what (kd := d 3) (kind := if 0 < by_ then 2 else 1) (bound := sbd d by_ (if 0 < by_ then 2 else 1)) (a := a) (p := p) hb (b - a).toNat
  have w2 := sh1_what (kd := d 3) (kind := if 0 < by_ then 1 else 2) (bound := sbd d by_ (if 0 < by_ then 1 else 2)) (a := a) (p := p1) hb (b - a).toNat
  have w3 := sh1_what (kd := d 3) (kind := 0) (bound := sbd d by_ 0) (a := a) (p := p2) hb (b - a).toNat
  rw [e1] at w1
  rw [e2] at u2 w2
  rw [e3] at u3 w3
  rw [show a + ((b - a).toNat : Int) = b by omega] at w1 w2 w3
  obtain ⟨a1, a2, a3⟩ := w1
  obtain ⟨b1, b2, b3⟩ := w2
  obtain ⟨c1, c2, c3⟩ := w3
  have hq : (if 0 < by_ then (2 : Int) else 1) = 2 ∧ (if 0 < by_ then (1 : Int) else 2) = 1 ∨ (if 0 < by_ then (2 : Int) else 1) = 1 ∧ (if 0 < by_ then (1 : Int) else 2) = 2 := by
    rcases hb with rfl | rfl
    · exact Or.inl ⟨rfl, rfl⟩
    · exact Or.inr ⟨rfl, rfl⟩
  refine ⟨?_, fun w h1 h2 => ?_, fun hz w h1 h2 h3 => ?_⟩
  · have e : Sm (fun w => by_ * (p3.1 w - p.1 w)) a b = Sm (fun w => by_ * (p1.1 w - p.1 w) + (by_ * (p2.1 w - p1.1 w) + by_ * (p3.1 w - p2.1 w))) a b := Sm_congr fun j _ _ => by
      rw [← Int.mul_add, ← Int.mul_add]
      congr 1
      omega
    rw [e, Sm_add2 (fun w => by_ * (p1.1 w - p.1 w)) (fun w => by_ * (p2.1 w - p1.1 w) + by_ * (p3.1 w - p2.1 w)), Sm_add2 (fun w => by_ * (p2.1 w - p1.1 w)) (fun w => by_ * (p3.1 w - p2.1 w))]
    omega
  · rcases a2 w with x1 | ⟨x1, x2, x3⟩
    · rcases b2 w with y1 | ⟨y1, y2, y3⟩
      · rcases c2 w with z1 | ⟨z1, z2, z3⟩
        · exact Or.inl (by rw [z1, y1, x1])
        · exact Or.inr ⟨by rw [z1, ← x1, ← y1]; exact z2, by rw [z3, y1, x1]⟩
      · rcases c2 w with z1 | ⟨z1, z2, z3⟩
        · exact Or.inr ⟨by rw [y1, ← x1]; exact y2, by rw [z1, y3, x1]⟩
        · omega
    · rcases b2 w with y1 | ⟨y1, y2, y3⟩
      · rcases c2 w with z1 | ⟨z1, z2, z3⟩
        · exact Or.inr ⟨by rw [x1]; exact x2, by rw [z1, y1, x3]⟩
        · omega
      · omega
  · have k := hk w h1 h2
    by_cases q0 : d 3 w = 0
    · have x1 : p1.1 w = p.1 w := by
        rcases a2 w with x | x
        · exact x
        · omega
      have y1 : p2.1 w = p1.1 w := by
        rcases b2 w with x | x
        · exact x
        · omega
      rw [c3 hz w h1 h2 q0 (by rw [y1, x1, ← q0]; exact h3), y1, x1]
    · have z1 : p3.1 w = p2.1 w := by
        rcases c2 w with x | x
        · exact x
        · exact absurd x.1 q0
      by_cases q1 : d 3 w = (if 0 < by_ then 2 else 1)
      · have y1 : p2.1 w = p1.1 w := by
          rcases b2 w with x | x
          · exact x
          · omega
        rw [z1, y1, a3 (by omega) w h1 h2 q1 (by rw [← q1]; exact h3)]
      · have q2 : d 3 w = (if 0 < by_ then 1 else 2) := by omega
        have x1 : p1.1 w = p.1 w := by
          rcases a2 w with x | x
          · exact x
          · omega
        rw [z1, b3 (by omega) w h1 h2 q2 (by rw [x1, ← q2]; exact h3), x1]
theorem rnds_what (hb : by_ = 1 ∨ by_ = -1) (hab : a ≤ b) (hk : ∀ w, a ≤ w → w < b → d 3 w = 0 ∨ d 3 w = 1 ∨ d 3 w = 2) (hc : ∀ w, a ≤ w → w < b → 0 ≤ by_ * (sbd d by_ (d 3 w) - na0 d w)) {u : Int} : ∀ k : Nat,
    Sm (fun w => by_ * ((rnds d by_ a b k (na0 d, u)).1 w - na0 d w)) a b + (rnds d by_ a b k (na0 d, u)).2 = u ∧
    (∀ w, a ≤ w → w < b → 0 ≤ by_ * ((rnds d by_ a b k (na0 d, u)).1 w - na0 d w) ∧ by_ * ((rnds d by_ a b k (na0 d, u)).1 w - na0 d w) ≤ by_ * (sbd d by_ (d 3 w) - na0 d w)) ∧
    (0 < (rnds d by_ a b k (na0 d, u)).2 → ∀ w, a ≤ w → w < b → (k : Int) ≤ by_ * ((rnds d by_ a b k (na0 d, u)).1 w - na0 d w) ∨ by_ * ((rnds d by_ a b k (na0 d, u)).1 w - na0 d w) = by_ * (sbd d by_ (d 3 w) - na0 d w))
  | 0 => by
    refine ⟨?_, fun w h1 h2 => ?_, fun _ w h1 h2 => Or.inl ?_⟩
    · have e : Sm (fun w => by_ * ((rnds d by_ a b 0 (na0 d, u)).1 w - na0 d w)) a b = Sm (fun _ => 0) a b := Sm_congr fun j _ _ => by
        show by_ * (na0 d j - na0 d j) = 0
        rw [Int.sub_self, Int.mul_zero]
      rw [e, Sm_const 0 hab]
      show 0 * (b - a) + u = u
      omega
    · show 0 ≤ by_ * (na0 d w - na0 d w) ∧ by_ * (na0 d w - na0 d w) ≤ _
      rw [Int.sub_self, Int.mul_zero]
      exact ⟨Int.le_refl 0, hc w h1 h2⟩
    · show ((0 : Nat) : Int) ≤ by_ * (na0 d w - na0 d w)
      rw [Int.sub_self, Int.mul_zero]
      exact Int.le_refl 0
  | k + 1 => by
    obtain ⟨i1, i2, i3⟩ := rnds_what hb hab hk hc (u := u) k
    obtain ⟨r1, r2, r3⟩ := rnd_what (p := rnds d by_ a b k (na0 d, u)) hb hab hk
    have ru := (rnd_u (d := d) (by_ := by_) (a := a) (b := b) (p := rnds d by_ a b k (na0 d, u))).2
    rw [rnds]
    generalize rnds d by_ a b k (na0 d, u) = p at i1 i2 i3 r1 r2 r3 ru ⊢
    generalize rnd d by_ a b p = q at r1 r2 r3 ru ⊢
    refine ⟨?_, fun w h1 h2 => ?_, fun hz w h1 h2 => ?_⟩
    · have e : Sm (fun w => by_ * (q.1 w - na0 d w)) a b = Sm (fun w => by_ * (q.1 w - p.1 w) + by_ * (p.1 w - na0 d w)) a b := Sm_congr fun j _ _ => by
        rw [← Int.mul_add]
        congr 1
        omega
      rw [e, Sm_add2 (fun w => by_ * (q.1 w - p.1 w)) (fun w => by_ * (p.1 w - na0 d w))]
      omega
    · have x := i2 w h1 h2
      rcases r2 w h1 h2 with y | ⟨y1, y2⟩
      · rw [y]
        exact x
      · rw [y2]
        rcases hb with rfl | rfl <;> omega
    · have x := i2 w h1 h2
      have z := i3 (by omega) w h1 h2
      by_cases hq : p.1 w = sbd d by_ (d 3 w)
      · rcases r2 w h1 h2 with y | ⟨y1, y2⟩
        · rw [y, hq]
          exact Or.inr rfl
        · exact absurd hq y1
      · rw [r3 hz w h1 h2 hq]
        rcases hb with rfl | rfl <;> omega
end RN
theorem sby_or (d : Nat → Int → Int) (a b : Int) : sby d a b = 1 ∨ sby d a b = -1 := by
  unfold sby
  split
  · exact Or.inl rfl
  · exact Or.inr rfl
theorem kd3 {d : Nat → Int → Int} (hp : PI d) {w : Int} (h0 : 0 ≤ w) (h1 : w < d 0 0) : d 3 w = 0 ∨ d 3 w = 1 ∨ d 3 w = 2 := by
  have := (hp.2.1 w h0 h1).2.2.1
  omega
/-- in a possible line all units are shared out in 40 rounds -/
theorem rnds_fin {d : Nat → Int → Int} {a b : Int} (hp : PI d) (h0 : 0 ≤ a) (h1 : a ≤ b) (h2 : b < d 0 0) (h : ps d a b = true) (hn : ¬ (0 < df d a b ∧ b = d 0 0 - 1)) : (rnds d (sby d a b) a b 40 (na0 d, sun d a b)).2 = 0 := by
  have hu : 0 ≤ sun d a b := by
    unfold sun
    split <;> omega
  have hnn := rnds_nn (d := d) (by_ := sby d a b) (a := a) (b := b) (p := (na0 d, sun d a b)) hu 40
  rcases Int.lt_or_le 0 (rnds d (sby d a b) a b 40 (na0 d, sun d a b)).2 with hz | hz
  · exfalso
    have hc : ∀ w, a ≤ w → w < b → 0 ≤ sby d a b * (sbd d (sby d a b) (d 3 w) - na0 d w) ∧ sby d a b * (sbd d (sby d a b) (d 3 w) - na0 d w) ≤ 39 := fun w q1 q2 => by
      have := kd_b hp (w := w) (by omega) (by omega)
      unfold sby sbd na0
      split
      · rw [if_pos (by omega)]
        omega
      · rw [if_neg (by omega)]
        omega
    obtain ⟨i1, i2, i3⟩ := rnds_what (sby_or d a b) h1 (fun w q1 q2 => kd3 hp (w := w) (by omega) (by omega)) (fun w q1 q2 => (hc w q1 q2).1) (u := sun d a b) 40
    have e : Sm (fun w => sby d a b * ((rnds d (sby d a b) a b 40 (na0 d, sun d a b)).1 w - na0 d w)) a b = Sm (fun w => sby d a b * (sbd d (sby d a b) (d 3 w) - na0 d w)) a b := Sm_congr fun w q1 q2 => by
      rcases i3 hz w q1 q2 with x | x
      · have := (i2 w q1 q2).2
        have := (hc w q1 q2).2
        omega
      · exact x
    have e2 : Sm (fun w => sby d a b * (sbd d (sby d a b) (d 3 w) - na0 d w)) a b = if 0 < df d a b then st d a b else sh d a b := by
      by_cases hd : 0 < df d a b
      · have es : sby d a b = 1 := if_pos hd
        rw [if_pos hd, es]
        unfold st
        exact Sm_congr fun w _ _ => by
          unfold sbd na0
          rw [if_pos (by omega)]
          omega
      · have es : sby d a b = -1 := if_neg hd
        rw [if_neg hd, es]
        unfold sh
        exact Sm_congr fun w _ _ => by
          unfold sbd na0
          rw [if_neg (by omega)]
          omega
    have e3 := ps_iff.mp h
    rw [e, e2] at i1
    have eu : sun d a b = if 0 ≤ df d a b then df d a b else - df d a b := rfl
    generalize (rnds d (sby d a b) a b 40 (na0 d, sun d a b)).2 = z at i1 hz
    split at eu <;> split at i1 <;> omega
  · omega
