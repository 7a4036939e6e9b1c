/-! MATHEMATICS 1: sums, the paragraph's view, lines -/
def sm (f : Int → Int) (a : Int) : Nat → Int
  | 0 => 0
  | k + 1 => sm f a k + f (a + (k : Int))
def Sm (f : Int → Int) (a b : Int) : Int := sm f a (b - a).toNat
theorem Sm_self (f : Int → Int) (a : Int) : Sm f a a = 0 := by
  unfold Sm
  rw [show (a - a).toNat = 0 by omega]
  rfl
theorem Sm_succ (f : Int → Int) {a b : Int} (h : a ≤ b) : Sm f a (b + 1) = Sm f a b + f b := by
  unfold Sm
  rw [show (b + 1 - a).toNat = (b - a).toNat + 1 by omega, sm, show a + ((b - a).toNat : Int) = b by omega]
theorem Sm_add (f : Int → Int) {a b : Int} (hab : a ≤ b) : ∀ (k : Nat), Sm f a (b + k) = Sm f a b + Sm f b (b + k)
  | 0 => by
    rw [show b + ((0 : Nat) : Int) = b by omega, Sm_self]
    omega
  | k + 1 => by
    rw [show b + ((k + 1 : Nat) : Int) = b + k + 1 by omega, Sm_succ f (by omega), Sm_succ f (by omega), Sm_add f hab k]
    omega
theorem Sm_split (f : Int → Int) {a b c : Int} (hab : a ≤ b) (hbc : b ≤ c) : Sm f a c = Sm f a b + Sm f b c := by
  have := Sm_add f hab (c - b).toNat
  rwa [show b + ((c - b).toNat : Int) = c by omega] at this
theorem sm_congr {f g : Int → Int} {a : Int} : ∀ (k : Nat), (∀ j : Int, a ≤ j → j < a + k → f j = g j) → sm f a k = sm g a k
  | 0, _ => rfl
  | k + 1, h => by
    rw [sm, sm, sm_congr k (fun j h1 h2 => h j h1 (by omega)), h (a + k) (by omega) (by omega)]
theorem Sm_congr {f g : Int → Int} {a b : Int} (h : ∀ j, a ≤ j → j < b → f j = g j) : Sm f a b = Sm g a b :=
  sm_congr _ (fun j h1 h2 => h j h1 (by omega))
theorem sm_sub (f g : Int → Int) (a : Int) : ∀ k, sm (fun w => f w - g w) a k = sm f a k - sm g a k
  | 0 => rfl
  | k + 1 => by
    rw [sm, sm, sm, sm_sub f g a k]
    omega
theorem Sm_sub (f g : Int → Int) (a b : Int) : Sm (fun w => f w - g w) a b = Sm f a b - Sm g a b := sm_sub f g a _
theorem sm_add2 (f g : Int → Int) (a : Int) : ∀ k, sm (fun w => f w + g w) a k = sm f a k + sm g a k
  | 0 => rfl
  | k + 1 => by
    rw [sm, sm, sm, sm_add2 f g a k]
    omega
theorem Sm_add2 (f g : Int → Int) (a b : Int) : Sm (fun w => f w + g w) a b = Sm f a b + Sm g a b := sm_add2 f g a _
theorem sm_le {f g : Int → Int} {a : Int} : ∀ (k : Nat), (∀ j : Int, a ≤ j → j < a + k → f j ≤ g j) → sm f a k ≤ sm g a k
  | 0, _ => Int.le_refl _
  | k + 1, h => by
    have h1 := sm_le k (fun j h1 h2 => h j h1 (by omega))
    have h2 := h (a + k) (by omega) (by omega)
    rw [sm, sm]
    omega
theorem Sm_le {f g : Int → Int} {a b : Int} (h : ∀ j, a ≤ j → j < b → f j ≤ g j) : Sm f a b ≤ Sm g a b :=
  sm_le _ (fun j h1 h2 => h j h1 (by omega))
theorem sm_const (c a : Int) : ∀ k : Nat, sm (fun _ => c) a k = c * k
  | 0 => by simp [sm]
  | k + 1 => by
    rw [sm, sm_const c a k, Int.natCast_succ, Int.mul_add, Int.mul_one]
theorem Sm_const (c : Int) {a b : Int} (h : a ≤ b) : Sm (fun _ => c) a b = c * (b - a) := by
  unfold Sm
  rw [sm_const, show ((b - a).toNat : Int) = b - a by omega]
theorem Sm_bound {f : Int → Int} {a b lo hi : Int} (hab : a ≤ b) (h : ∀ j, a ≤ j → j < b → lo ≤ f j ∧ f j ≤ hi) : lo * (b - a) ≤ Sm f a b ∧ Sm f a b ≤ hi * (b - a) := by
  rw [← Sm_const lo hab, ← Sm_const hi hab]
  exact ⟨Sm_le fun j h1 h2 => (h j h1 h2).1, Sm_le fun j h1 h2 => (h j h1 h2).2⟩
theorem Sm_b60 {f : Int → Int} {a b hi : Int} (ha : 0 ≤ a) (hab : a ≤ b) (hb : b ≤ 60) (hh : 0 ≤ hi) (h : ∀ j, a ≤ j → j < b → 0 ≤ f j ∧ f j ≤ hi) : 0 ≤ Sm f a b ∧ Sm f a b ≤ hi * 60 := by
  obtain ⟨h1, h2⟩ := Sm_bound hab h
  have h3 : hi * (b - a) ≤ hi * 60 := Int.mul_le_mul_of_nonneg_left (by omega) hh
  exact ⟨by omega, by omega⟩
/-- what is sound of a view d: 0 number of words, 1 widths, 2 sizes, 3 kinds, 4, 5 marks, 6 measure, 7 hang, 8 tolerance, 9, 10, 11 least, natural, greatest -/
def PI (d : Nat → Int → Int) : Prop := (0 ≤ d 0 0 ∧ d 0 0 ≤ 60) ∧ (∀ w, 0 ≤ w → w < d 0 0 → (0 ≤ d 1 w ∧ d 1 w ≤ 600) ∧ (1 ≤ d 2 w ∧ d 2 w ≤ 120) ∧ (0 ≤ d 3 w ∧ d 3 w ≤ 2) ∧ (0 ≤ d 4 w ∧ d 4 w ≤ 5) ∧ (0 ≤ d 5 w ∧ d 5 w ≤ 5)) ∧
  (10 ≤ d 6 0 ∧ d 6 0 ≤ 200) ∧ (0 ≤ d 7 0 ∧ d 7 0 ≤ 100) ∧ (0 ≤ d 8 0 ∧ d 8 0 ≤ 20) ∧ ∀ k, 0 ≤ k → k ≤ 2 → 1 ≤ d 9 k ∧ d 9 k ≤ d 10 k ∧ d 10 k ≤ d 11 k ∧ d 11 k ≤ 40
def hL (d : Nat → Int → Int) (a : Int) : Int := (d 4 a * d 7 0).tdiv 100
def hR (d : Nat → Int → Int) (b : Int) : Int := (d 5 b * d 7 0).tdiv 100
def nt (d : Nat → Int → Int) (a b : Int) : Int := Sm (d 1) a (b + 1) + Sm (fun w => d 10 (d 3 w)) a b - hL d a - hR d b
def df (d : Nat → Int → Int) (a b : Int) : Int := d 6 0 - nt d a b
def st (d : Nat → Int → Int) (a b : Int) : Int := Sm (fun w => d 11 (d 3 w) - d 10 (d 3 w)) a b
def sh (d : Nat → Int → Int) (a b : Int) : Int := Sm (fun w => d 10 (d 3 w) - d 9 (d 3 w)) a b
def ps (d : Nat → Int → Int) (a b : Int) : Bool := decide (- sh d a b ≤ df d a b ∧ (b = d 0 0 - 1 ∨ df d a b ≤ st d a b))
def rmm (d : Nat → Int → Int) (a b : Int) : Int := if 0 < df d a b then st d a b else sh d a b
def bd (d : Nat → Int → Int) (a b : Int) : Int := if df d a b = 0 ∨ (0 < df d a b ∧ b = d 0 0 - 1) then 0 else (100 * df d a b * df d a b).tdiv (rmm d a b * rmm d a b)
def dm (d : Nat → Int → Int) (a b : Int) : Int := (10 + bd d a b) * (10 + bd d a b) + (if ¬ b = d 0 0 - 1 ∧ d 2 b ≤ 2 then 100 else 0)
theorem tdiv100 {x : Int} (h : 0 ≤ x) (h2 : x ≤ 500) : 0 ≤ x.tdiv 100 ∧ x.tdiv 100 ≤ 5 := by
  rw [Int.tdiv_eq_ediv_of_nonneg h]
  omega
theorem mk5 {x y : Int} (hx : 0 ≤ x ∧ x ≤ 5) (hy : 0 ≤ y ∧ y ≤ 100) : 0 ≤ x * y ∧ x * y ≤ 500 := by
  have h1 := Int.mul_nonneg hx.1 hy.1
  have h2 : x * y ≤ 5 * 100 := Int.mul_le_mul hx.2 hy.2 hy.1 (by omega)
  omega
theorem hL_b {d : Nat → Int → Int} (hp : PI d) {a : Int} (h0 : 0 ≤ a) (h1 : a < d 0 0) : 0 ≤ hL d a ∧ hL d a ≤ 5 := by
  have h := mk5 (hp.2.1 a h0 h1).2.2.2.1 hp.2.2.2.1
  exact tdiv100 h.1 h.2
theorem hR_b {d : Nat → Int → Int} (hp : PI d) {a : Int} (h0 : 0 ≤ a) (h1 : a < d 0 0) : 0 ≤ hR d a ∧ hR d a ≤ 5 := by
  have h := mk5 (hp.2.1 a h0 h1).2.2.2.2 hp.2.2.2.1
  exact tdiv100 h.1 h.2
theorem wd_b {d : Nat → Int → Int} (hp : PI d) {a b : Int} (h0 : 0 ≤ a) (h1 : a ≤ b) (h2 : b ≤ d 0 0) : 0 ≤ Sm (d 1) a b ∧ Sm (d 1) a b ≤ 36000 := by
  have := Sm_b60 (f := d 1) (hi := 600) h0 h1 (by have := hp.1; omega) (by omega) (fun j q1 q2 => (hp.2.1 j (by omega) (by omega)).1)
  omega
theorem kd_b {d : Nat → Int → Int} (hp : PI d) {w : Int} (h0 : 0 ≤ w) (h1 : w < d 0 0) : 1 ≤ d 9 (d 3 w) ∧ d 9 (d 3 w) ≤ d 10 (d 3 w) ∧ d 10 (d 3 w) ≤ d 11 (d 3 w) ∧ d 11 (d 3 w) ≤ 40 := by
  have h := (hp.2.1 w h0 h1).2.2.1
  exact hp.2.2.2.2.2 (d 3 w) h.1 h.2
theorem na_b {d : Nat → Int → Int} (hp : PI d) {a b : Int} (h0 : 0 ≤ a) (h1 : a ≤ b) (h2 : b ≤ d 0 0) : 0 ≤ Sm (fun w => d 10 (d 3 w)) a b ∧ Sm (fun w => d 10 (d 3 w)) a b ≤ 2400 := by
  have := Sm_b60 (f := fun w => d 10 (d 3 w)) (hi := 40) h0 h1 (by have := hp.1; omega) (by omega) (fun j q1 q2 => by have := kd_b hp (w := j) (by omega) (by omega); omega)
  omega
theorem st_b {d : Nat → Int → Int} (hp : PI d) {a b : Int} (h0 : 0 ≤ a) (h1 : a ≤ b) (h2 : b ≤ d 0 0) : 0 ≤ st d a b ∧ st d a b ≤ 2340 := by
  have := Sm_b60 (f := fun w => d 11 (d 3 w) - d 10 (d 3 w)) (hi := 39) h0 h1 (by have := hp.1; omega) (by omega) (fun j q1 q2 => by have := kd_b hp (w := j) (by omega) (by omega); omega)
  unfold st
  omega
theorem sh_b {d : Nat → Int → Int} (hp : PI d) {a b : Int} (h0 : 0 ≤ a) (h1 : a ≤ b) (h2 : b ≤ d 0 0) : 0 ≤ sh d a b ∧ sh d a b ≤ 2340 := by
  have := Sm_b60 (f := fun w => d 10 (d 3 w) - d 9 (d 3 w)) (hi := 39) h0 h1 (by have := hp.1; omega) (by omega) (fun j q1 q2 => by have := kd_b hp (w := j) (by omega) (by omega); omega)
  unfold sh
  omega
theorem nt_b {d : Nat → Int → Int} (hp : PI d) {a b : Int} (h0 : 0 ≤ a) (h1 : a ≤ b) (h2 : b < d 0 0) : -10 ≤ nt d a b ∧ nt d a b ≤ 40000 := by
  have e1 := wd_b hp (a := a) (b := b + 1) h0 (by omega) (by omega)
  have e2 := na_b hp (a := a) (b := b) h0 h1 (by omega)
  have e3 := hL_b hp (a := a) h0 (by omega)
  have e4 := hR_b hp (a := b) (by omega) h2
  unfold nt
  omega
theorem df_b {d : Nat → Int → Int} (hp : PI d) {a b : Int} (h0 : 0 ≤ a) (h1 : a ≤ b) (h2 : b < d 0 0) : -40000 ≤ df d a b ∧ df d a b ≤ 300 := by
  have e1 := nt_b hp h0 h1 h2
  have e2 := hp.2.2.1
  unfold df
  omega
theorem sq_le {x r : Int} (h1 : -r ≤ x) (h2 : x ≤ r) : x * x ≤ r * r := by
  by_cases hx : 0 ≤ x
  · exact Int.mul_le_mul h2 h2 hx (by omega)
  · have : (-x) * (-x) ≤ r * r := Int.mul_le_mul (by omega) (by omega) (by omega) (by omega)
    rwa [Int.neg_mul_neg] at this
theorem sq_nn (x : Int) : 0 ≤ x * x := by
  by_cases hx : 0 ≤ x
  · exact Int.mul_nonneg hx hx
  · have : 0 ≤ (-x) * (-x) := Int.mul_nonneg (by omega) (by omega)
    rwa [Int.neg_mul_neg] at this
theorem ps_iff {d : Nat → Int → Int} {a b : Int} : ps d a b = true ↔ (- sh d a b ≤ df d a b ∧ (b = d 0 0 - 1 ∨ df d a b ≤ st d a b)) := by
  unfold ps
  exact decide_eq_true_iff
/-- in a possible line that isn't at rest, D lies within a room that isn't 0 -/
theorem rmm_b {d : Nat → Int → Int} (hp : PI d) {a b : Int} (h0 : 0 ≤ a) (h1 : a ≤ b) (h2 : b < d 0 0) (h : ps d a b = true) (hn : ¬ (df d a b = 0 ∨ (0 < df d a b ∧ b = d 0 0 - 1))) : 1 ≤ rmm d a b ∧ rmm d a b ≤ 2340 ∧ - rmm d a b ≤ df d a b ∧ df d a b ≤ rmm d a b := by
  have e1 := st_b hp (a := a) (b := b) h0 h1 (by omega)
  have e2 := sh_b hp (a := a) (b := b) h0 h1 (by omega)
  have e3 := ps_iff.mp h
  unfold rmm
  split <;> omega
theorem bd_b {d : Nat → Int → Int} (hp : PI d) {a b : Int} (h0 : 0 ≤ a) (h1 : a ≤ b) (h2 : b < d 0 0) (h : ps d a b = true) : 0 ≤ bd d a b ∧ bd d a b ≤ 100 := by
  unfold bd
  split
  · omega
  · rename_i hn
    obtain ⟨r1, r2, r3, r4⟩ := rmm_b hp h0 h1 h2 h hn
    have q1 := sq_le r3 r4
    have q2 := sq_nn (df d a b)
    have q3 : 1 * 1 ≤ rmm d a b * rmm d a b := Int.mul_le_mul r1 r1 (by omega) (by omega)
    have e : 100 * df d a b * df d a b = 100 * (df d a b * df d a b) := Int.mul_assoc _ _ _
    rw [e, Int.tdiv_eq_ediv_of_nonneg (by omega)]
    refine ⟨Int.ediv_nonneg (by omega) (by omega), ?_⟩
    exact Int.ediv_le_of_le_mul (by omega) (by omega)
theorem dm_b {d : Nat → Int → Int} (hp : PI d) {a b : Int} (h0 : 0 ≤ a) (h1 : a ≤ b) (h2 : b < d 0 0) (h : ps d a b = true) : 100 ≤ dm d a b ∧ dm d a b ≤ 12200 := by
  obtain ⟨q1, q2⟩ := bd_b hp h0 h1 h2 h
  have q3 : (10 + bd d a b) * (10 + bd d a b) ≤ 110 * 110 := Int.mul_le_mul (by omega) (by omega) (by omega) (by omega)
  have q4 : 10 * 10 ≤ (10 + bd d a b) * (10 + bd d a b) := Int.mul_le_mul (by omega) (by omega) (by omega) (by omega)
  unfold dm
  split <;> omega
/-- the product of a possible line's D stays an int -/
theorem sq_r {x r : Int} (h1 : -r ≤ x) (h2 : x ≤ r) (h3 : 0 ≤ r) (h4 : r ≤ 2340) : 0 ≤ 100 * x * x ∧ 100 * x * x ≤ 547560000 ∧ 0 ≤ r * r ∧ r * r ≤ 5475600 := by
  have q1 := sq_le h1 h2
  have q2 := sq_nn x
  have q3 : r * r ≤ 2340 * 2340 := Int.mul_le_mul h4 h4 h3 (by omega)
  have e : 100 * x * x = 100 * (x * x) := Int.mul_assoc _ _ _
  have q4 := sq_nn r
  rw [e]
  omega
/-- the last of the least: over the candidates c (below 0: none) at lo, lo + 1, .. -/
def am (c : Int → Int) (lo : Int) : Nat → Int × Int
  | 0 => (-1, -1)
  | k + 1 => if 0 ≤ c (lo + k) ∧ ((am c lo k).1 < 0 ∨ c (lo + k) ≤ (am c lo k).1) then (c (lo + k), lo + k) else am c lo k
theorem am_congr {c c2 : Int → Int} {lo : Int} : ∀ k : Nat, (∀ j, lo ≤ j → j < lo + k → c j = c2 j) → am c lo k = am c2 lo k
  | 0, _ => rfl
  | k + 1, h => by
    rw [am, am, am_congr k (fun j h1 h2 => h j h1 (by omega)), h (lo + k) (by omega) (by omega)]
theorem am_in {c : Int → Int} {lo : Int} : ∀ k : Nat, ((am c lo k).1 = -1 ∧ (am c lo k).2 = -1 ∧ ∀ j, lo ≤ j → j < lo + k → c j < 0) ∨ (0 ≤ (am c lo k).1 ∧ lo ≤ (am c lo k).2 ∧ (am c lo k).2 < lo + k ∧ c (am c lo k).2 = (am c lo k).1)
  | 0 => Or.inl ⟨rfl, rfl, fun j h1 h2 => by omega⟩
  | k + 1 => by
    have ih := am_in (c := c) (lo := lo) k
    rw [am]
    split
    · rename_i h
      exact Or.inr ⟨h.1, by dsimp only; omega, by dsimp only; omega, rfl⟩
    · rename_i h
      rcases ih with ⟨i1, i2, i3⟩ | ⟨i1, i2, i3, i4⟩
      · refine Or.inl ⟨i1, i2, fun j h1 h2 => ?_⟩
        by_cases hj : j = lo + k
        · subst hj
          rcases Int.lt_or_le (c (lo + k)) 0 with q | q
          · exact q
          · exact absurd ⟨q, Or.inl (by omega)⟩ h
        · exact i3 j h1 (by omega)
      · exact Or.inr ⟨i1, i2, by omega, i4⟩
def cd (d : Nat → Int → Int) (bs : Int → Int) (a b : Int) : Int := if 0 ≤ bs (b + 1) ∧ ps d a b = true then dm d a b + bs (b + 1) else -1
/-- the least demerits from a word on, and where its first line ends -/
def BW (d : Nat → Int → Int) (bs be : Int → Int) : Prop := bs (d 0 0) = 0 ∧ ∀ a, 0 ≤ a → a < d 0 0 → bs a = (am (cd d bs a) a (d 0 0 - a).toNat).1 ∧ (0 ≤ bs a → be a = (am (cd d bs a) a (d 0 0 - a).toNat).2)
