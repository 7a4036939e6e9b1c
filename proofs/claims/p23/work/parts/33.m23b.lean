/-! p23 MATHEMATICS 2: ranks, rivers -/
theorem Sm_lt {f g : Int → Int} {n i : Int} (h : ∀ j, 0 ≤ j → j < n → f j ≤ g j) (i0 : 0 ≤ i) (i1 : i < n) (hi : f i < g i) : Sm f 0 n < Sm g 0 n := by
  have a1 := Sm_split f (a := 0) (b := i + 1) (c := n) (by omega) (by omega)
  have b1 := Sm_split g (a := 0) (b := i + 1) (c := n) (by omega) (by omega)
  have a2 := Sm_succ f i0
  have b2 := Sm_succ g i0
  have c1 : Sm f 0 i ≤ Sm g 0 i := Sm_le fun j q1 q2 => h j q1 (by omega)
  have c2 : Sm f (i + 1) n ≤ Sm g (i + 1) n := Sm_le fun j q1 q2 => h j (by omega) q2
  omega
theorem Sm_zero {a b : Int} (h : a ≤ b) : Sm (fun _ => 0) a b = 0 := by
  rw [Sm_const 0 h]
  omega
theorem Sm_one {f : Int → Int} {c n : Int} (c0 : 0 ≤ c) (c1 : c < n) (h : ∀ j, 0 ≤ j → j < n → ¬ j = c → f j = 0) : Sm f 0 n = f c := by
  have a1 := Sm_split f (a := 0) (b := c + 1) (c := n) (by omega) (by omega)
  have a2 := Sm_succ f c0
  have e1 : Sm f 0 c = 0 := (Sm_congr fun j q1 q2 => h j q1 (by omega) (by omega)).trans (Sm_zero c0)
  have e2 : Sm f (c + 1) n = 0 := (Sm_congr fun j q1 q2 => h j (by omega) q2 (by omega)).trans (Sm_zero (by omega))
  omega
theorem Sm_swap (f : Int → Int → Int) {b : Int} (hb : 0 ≤ b) : ∀ a : Nat, Sm (fun i => Sm (fun j => f i j) 0 b) 0 a = Sm (fun j => Sm (fun i => f i j) 0 a) 0 b
  | 0 => by
    rw [show ((0 : Nat) : Int) = 0 from rfl, Sm_self, Sm_congr (g := fun _ => 0) (fun j _ _ => Sm_self _ 0), Sm_zero hb]
  | a + 1 => by
    rw [show ((a + 1 : Nat) : Int) = (a : Int) + 1 by omega, Sm_succ _ (by omega), Sm_swap f hb a, ← Sm_add2]
    exact Sm_congr fun j _ _ => (Sm_succ (fun i => f i j) (by omega)).symm
theorem Sm_tri : ∀ n : Nat, 2 * Sm (fun j => j) 0 n = (n : Int) * ((n : Int) - 1)
  | 0 => by
    rw [show ((0 : Nat) : Int) = 0 from rfl, Sm_self]
    rfl
  | n + 1 => by
    rw [show ((n + 1 : Nat) : Int) = (n : Int) + 1 by omega, Sm_succ _ (by omega), Int.mul_add, Sm_tri n, show (n : Int) + 1 - 1 = n by omega, Int.add_mul, Int.one_mul, Int.mul_sub, Int.mul_one]
    omega
theorem Sm_z {f : Int → Int} {n : Int} (h : ∀ j, 0 ≤ j → j < n → 0 ≤ f j) (hz : Sm f 0 n = 0) {k : Int} (k0 : 0 ≤ k) (k1 : k < n) : f k = 0 := by
  rcases Int.lt_or_le 0 (f k) with q | q
  · have := Sm_lt (f := fun _ => 0) (g := f) (n := n) h k0 k1 q
    rw [Sm_zero (by omega)] at this
    omega
  · have := h k k0 k1
    omega
section RK
variable {g : Int → Int} {nl : Int}
theorem wr_lt {i j : Int} (i0 : 0 ≤ i) (i1 : i < nl) (h : g j < g i ∨ (g i = g j ∧ i < j)) : wr g nl i < wr g nl j := by
  unfold wr
  refine Sm_lt (i := i) (fun x _ _ => ?_) i0 i1 ?_
  · by_cases q : g i < g x ∨ (g x = g i ∧ x < i)
    · rw [if_pos q, if_pos (by omega)]
      exact Int.le_refl _
    · rw [if_neg q]
      split <;> omega
  · rw [if_neg (by omega), if_pos h]
    omega
theorem wr_n {l : Int} (l0 : 0 ≤ l) (l1 : l < nl) : 0 ≤ wr g nl l ∧ wr g nl l < nl := by
  refine ⟨(wr_b g (by omega) l).1, ?_⟩
  have := Sm_lt (f := fun i => if g l < g i ∨ (g i = g l ∧ i < l) then (1 : Int) else 0) (g := fun _ => 1) (n := nl) (i := l) (fun j _ _ => by split <;> omega) l0 l1 (by rw [if_neg (by omega)]; omega)
  rw [Sm_const 1 (by omega)] at this
  unfold wr
  omega
theorem wr_inj {i j : Int} (i0 : 0 ≤ i) (i1 : i < nl) (j0 : 0 ≤ j) (j1 : j < nl) (h : wr g nl i = wr g nl j) : i = j := by
  rcases Int.lt_trichotomy i j with q | q | q
  · rcases Int.lt_or_le (g i) (g j) with z | z
    · have := wr_lt (nl := nl) (i := j) (j := i) j0 j1 (Or.inl z)
      omega
    · have := wr_lt (nl := nl) (i := i) (j := j) (g := g) i0 i1 (by omega)
      omega
  · exact q
  · rcases Int.lt_or_le (g j) (g i) with z | z
    · have := wr_lt (nl := nl) (i := i) (j := j) i0 i1 (Or.inl z)
      omega
    · have := wr_lt (nl := nl) (i := j) (j := i) (g := g) j0 j1 (by omega)
      omega
theorem wr_ex (hn : 0 ≤ nl) {k : Int} (k0 : 0 ≤ k) (k1 : k < nl) : ∃ v, 0 ≤ v ∧ v < nl ∧ wr g nl v = k := by
  have en : ((nl.toNat : Nat) : Int) = nl := by omega
  have hf : ∀ k v : Int, 0 ≤ (if wr g nl v = k then (1 : Int) else 0) ∧ (if wr g nl v = k then (1 : Int) else 0) ≤ 1 := fun k v => by split <;> omega
  have h1 : ∀ k, Sm (fun v => if wr g nl v = k then (1 : Int) else 0) 0 nl ≤ 1 := fun k => by
    rcases Int.lt_or_le 1 (Sm (fun v => if wr g nl v = k then (1 : Int) else 0) 0 nl) with q | q
    · obtain ⟨a, a0, a1, a2, a3⟩ := kth (hf k) nl.toNat 0 (Int.le_refl 0) (by rw [en]; omega)
      obtain ⟨b, b0, b1, b2, b3⟩ := kth (hf k) nl.toNat 1 (by omega) (by rw [en]; omega)
      have a4 : wr g nl a = k := by
        split at a2
        · assumption
        · omega
      have b4 : wr g nl b = k := by
        split at b2
        · assumption
        · omega
      have e := wr_inj a0 (by omega) b0 (by omega) (a4.trans b4.symm)
      rw [e, b3] at a3
      omega
    · exact q
  have h2 : Sm (fun k => Sm (fun v => if wr g nl v = k then (1 : Int) else 0) 0 nl) 0 nl = nl := by
    have := Sm_swap (fun k v => if wr g nl v = k then (1 : Int) else 0) hn nl.toNat
    rw [en] at this
    rw [this, Sm_congr (g := fun _ => 1) (fun v q1 q2 => ?_), Sm_const 1 hn]
    · omega
    · have w := wr_n (g := g) q1 q2
      rw [Sm_one w.1 w.2 (fun j _ _ q => if_neg (fun z => q z.symm)), if_pos rfl]
  have h3 : Sm (fun k => 1 - Sm (fun v => if wr g nl v = k then (1 : Int) else 0) 0 nl) 0 nl = 0 := by
    rw [Sm_sub (fun _ => 1) (fun k => Sm (fun v => if wr g nl v = k then (1 : Int) else 0) 0 nl), h2, Sm_const 1 hn]
    omega
  have h4 := Sm_z (fun j _ _ => by have := h1 j; omega) h3 k0 k1
  obtain ⟨v, v0, v1, v2, -⟩ := kth (hf k) nl.toNat 0 (Int.le_refl 0) (by rw [en]; omega)
  refine ⟨v, v0, by omega, ?_⟩
  split at v2
  · assumption
  · omega
/-- the line of a rank -/
def rkI (g : Int → Int) (nl k : Int) : Int := Sm (fun v => if wr g nl v = k then v else 0) 0 nl
theorem rkI_at {v k : Int} (v0 : 0 ≤ v) (v1 : v < nl) (h : wr g nl v = k) : rkI g nl k = v := by
  unfold rkI
  rw [Sm_one v0 v1 (fun j j0 j1 q => if_neg (fun z => q (wr_inj j0 j1 v0 v1 (z.trans h.symm)))), if_pos h]
theorem rkI_sum (hn : 0 ≤ nl) : 2 * Sm (rkI g nl) 0 nl = nl * (nl - 1) := by
  have en : ((nl.toNat : Nat) : Int) = nl := by omega
  have := Sm_swap (fun k v => if wr g nl v = k then v else 0) hn nl.toNat
  rw [en] at this
  have e : Sm (rkI g nl) 0 nl = Sm (fun v => v) 0 nl := by
    refine Eq.trans this (Sm_congr fun v q1 q2 => ?_)
    have w := wr_n (g := g) q1 q2
    rw [Sm_one w.1 w.2 (fun j _ _ q => if_neg (fun z => q z.symm)), if_pos rfl]
  have t := Sm_tri nl.toNat
  rw [en] at t
  rw [e, t]
theorem WRS_in (hn : 0 ≤ nl) {k r : Int} (k0 : 0 ≤ k) (k1 : k < nl) (h : WRS (wr g nl) nl k r) : (0 ≤ r ∧ r < nl) ∧ wr g nl r = k ∧ r = rkI g nl k := by
  obtain ⟨v, v0, v1, v2⟩ := wr_ex (g := g) hn k0 k1
  rcases h with h | ⟨-, h | h⟩
  · omega
  · exact ⟨⟨h.1, h.2.1⟩, h.2.2.1, (rkI_at h.1 h.2.1 h.2.2.1).symm⟩
  · exact absurd v2 (h.2 v v0 v1)
theorem WRS_out {r : Int} (hn : 0 ≤ nl) (h : WRS (wr g nl) nl nl r) : r = -1004 := by
  rcases h with h | ⟨-, h | h⟩
  · omega
  · have := wr_n (g := g) h.1 h.2.1
    omega
  · exact h.1
theorem WRS_neg {r : Int} (h : WRS (wr g nl) nl (-1) r) : r = -1002 := by
  rcases h with h | ⟨h, -⟩
  · exact h.2
  · omega
theorem wr_next {v r k : Int} (v0 : 0 ≤ v) (v1 : v < nl) (r0 : 0 ≤ r) (r1 : r < nl) (hv : wr g nl v = k) (hr : wr g nl r = k + 1) : g r ≤ g v := by
  rcases Int.lt_or_le (g v) (g r) with z | z
  · have := wr_lt (nl := nl) (i := r) (j := v) r0 r1 (Or.inl z)
    omega
  · exact z
end RK
theorem ei_same {sl ln gn : Int → Int} {v w : Int} (v0 : 0 ≤ v) (w0 : 0 ≤ w) (hv : ei sl ln gn v = 1) (hw : ei sl ln gn w = 1) (h : Sm (ei sl ln gn) 0 v = Sm (ei sl ln gn) 0 w) : v = w := by
  have key : ∀ a b : Int, 0 ≤ a → a < b → ei sl ln gn a = 1 → Sm (ei sl ln gn) 0 a < Sm (ei sl ln gn) 0 b := fun a b a0 ab ha => by
    have h1 := Sm_split (ei sl ln gn) (a := 0) (b := a + 1) (c := b) (by omega) (by omega)
    have h2 := Sm_succ (ei sl ln gn) a0
    have h3 := (Sm_bound (f := ei sl ln gn) (lo := 0) (hi := 1) (a := a + 1) (b := b) (by omega) (fun j _ _ => ei_b sl ln gn j)).1
    omega
  rcases Int.lt_trichotomy v w with q | q | q
  · have := key v w v0 q hv
    omega
  · exact q
  · have := key w v w0 q hw
    omega
/-- the search in the line above, at f .. f + y: the greatest length and its place -/
def UPp (lo sl mid ln : Int → Int) (t w f y ab up : Int) : Prop := (ab = 0 ∧ up = -1 ∧ ∀ v, f ≤ v → v < f + y → ¬ cnd lo sl mid t w v) ∨ (0 ≤ up ∧ up < y ∧ cnd lo sl mid t w (f + up) ∧ ab = ln (f + up) ∧ ∀ v, f ≤ v → v < f + y → cnd lo sl mid t w v → ln v ≤ ab ∧ (ln v = ab → f + up ≤ v))
theorem UP_0 (lo sl mid ln : Int → Int) (t w f : Int) : UPp lo sl mid ln t w f 0 0 (-1) := Or.inl ⟨rfl, rfl, fun v h1 h2 => by omega⟩
section UPs
variable {lo sl mid ln : Int → Int} {t w f y ab up : Int}
theorem UP_skip (h : UPp lo sl mid ln t w f y ab up) (hc : ¬ cnd lo sl mid t w (f + y)) : UPp lo sl mid ln t w f (y + 1) ab up := by
  have key : ∀ v, v < f + (y + 1) → cnd lo sl mid t w v → v < f + y := fun v h1 h2 => by
    rcases Int.lt_or_le v (f + y) with q | q
    · exact q
    · exact absurd ((show v = f + y by omega) ▸ h2) hc
  rcases h with ⟨h1, h2, h3⟩ | ⟨h1, h2, h3, h4, h5⟩
  · exact Or.inl ⟨h1, h2, fun v a b c => h3 v a (key v b c) c⟩
  · exact Or.inr ⟨h1, by omega, h3, h4, fun v a b c => h5 v a (key v b c) c⟩
theorem UP_old (h : UPp lo sl mid ln t w f y ab up) (h0 : 1 ≤ ln (f + y)) (hl : ln (f + y) ≤ ab) : UPp lo sl mid ln t w f (y + 1) ab up := by
  rcases h with ⟨h1, h2, h3⟩ | ⟨h1, h2, h3, h4, h5⟩
  · omega
  · refine Or.inr ⟨h1, by omega, h3, h4, fun v a b c => ?_⟩
    rcases Int.lt_or_le v (f + y) with q | q
    · exact h5 v a q c
    · have e : v = f + y := by omega
      subst e
      exact ⟨hl, fun _ => by omega⟩
theorem UP_new (h : UPp lo sl mid ln t w f y ab up) (hy : 0 ≤ y) (hc : cnd lo sl mid t w (f + y)) (hl : ab < ln (f + y)) : UPp lo sl mid ln t w f (y + 1) (ln (f + y)) y := by
  refine Or.inr ⟨hy, by omega, hc, rfl, fun v a b c => ?_⟩
  rcases Int.lt_or_le v (f + y) with q | q
  · rcases h with ⟨h1, h2, h3⟩ | ⟨h1, h2, h3, h4, h5⟩
    · exact absurd c (h3 v a q)
    · have := (h5 v a q c).1
      exact ⟨by omega, fun _ => by omega⟩
  · have e : v = f + y := by omega
    subst e
    exact ⟨Int.le_refl _, fun _ => Int.le_refl _⟩
theorem UP_b (h : UPp lo sl mid ln t w f y ab up) (hl : ∀ v, 0 ≤ ln v ∧ ln v ≤ 60) (hy : 0 ≤ y) : (0 ≤ ab ∧ ab ≤ 60) ∧ (-1 ≤ up ∧ (up < y ∨ up = -1)) ∧ (ab = 0 ∨ 0 ≤ up) := by
  rcases h with ⟨h1, h2, h3⟩ | ⟨h1, h2, h3, h4, h5⟩
  · omega
  · have := hl (f + up)
    omega
/-- behind the search: the length, and the space above -/
theorem UP_end {abv : Int → Int} {n : Int} (h : UPp lo sl mid ln t w f y ab up) (hin : ∀ v, cnd lo sl mid t w v → f ≤ v ∧ v < f + y) (hL : LNp lo sl mid ln abv t n) (w0 : 0 ≤ w) (w1 : w < n) (hs : ¬ sl w = -1) (hlo : ∀ v, 0 ≤ v → v < n → 0 ≤ lo v) :
    ln w = ab + 1 ∧ (ab = 0 ∨ (0 ≤ up ∧ abv w = f + up)) := by
  obtain ⟨a1, a2⟩ := hL w w0 w1 hs
  rcases h with ⟨h1, h2, h3⟩ | ⟨h1, h2, h3, h4, h5⟩
  · have e : abv w = -1 := AB_uniq a1 (Or.inl ⟨rfl, fun v c => h3 v (hin v c).1 (hin v c).2 c⟩)
    rw [if_pos e] at a2
    exact ⟨by omega, Or.inl h1⟩
  · have e : abv w = f + up := AB_uniq a1 (Or.inr ⟨h3, fun v c => by
      have := h5 v (hin v c).1 (hin v c).2 c
      rw [← h4]
      exact this⟩)
    have c0 := h3.1
    rw [if_neg (by omega), e, ← h4] at a2
    exact ⟨a2, Or.inr ⟨h1, e⟩⟩
end UPs
/-- the search in the line below -/
def DNp (lo sl mid : Int → Int) (t w f y be : Int) : Prop := (be = 0 ∧ ∀ u, f ≤ u → u < f + y → ¬ cnd lo sl mid t u w) ∨ (be = 1 ∧ ∃ u, f ≤ u ∧ u < f + y ∧ cnd lo sl mid t u w)
section DNs
variable {lo sl mid gn : Int → Int} {t w f y be : Int}
theorem DN_0 : DNp lo sl mid t w f 0 0 := Or.inl ⟨rfl, fun v h1 h2 => by omega⟩
theorem DN_skip (h : DNp lo sl mid t w f y be) (hc : ¬ cnd lo sl mid t (f + y) w) : DNp lo sl mid t w f (y + 1) be := by
  rcases h with ⟨h1, h2⟩ | ⟨h1, u, h2, h3, h4⟩
  · refine Or.inl ⟨h1, fun u a b c => ?_⟩
    rcases Int.lt_or_le u (f + y) with q | q
    · exact h2 u a q c
    · exact absurd ((show u = f + y by omega) ▸ c) hc
  · exact Or.inr ⟨h1, u, h2, by omega, h4⟩
theorem DN_new (hy : 0 ≤ y) (hc : cnd lo sl mid t (f + y) w) : DNp lo sl mid t w f (y + 1) 1 := Or.inr ⟨rfl, f + y, by omega, by omega, hc⟩
theorem DN_keep (h : DNp lo sl mid t w f y 1) : DNp lo sl mid t w f (y + 1) 1 := by
  rcases h with ⟨h1, h2⟩ | ⟨h1, u, h2, h3, h4⟩
  · omega
  · exact Or.inr ⟨rfl, u, h2, by omega, h4⟩
theorem DN_b (h : DNp lo sl mid t w f y be) : be = 0 ∨ be = 1 := by
  rcases h with h | h
  · exact Or.inl h.1
  · exact Or.inr h.1
theorem DN_end {n : Int} (h : DNp lo sl mid t w f y be) (hin : ∀ u, u < n → ¬ sl u = -1 → cnd lo sl mid t u w → f ≤ u ∧ u < f + y) (hu : ∀ u, f ≤ u → u < f + y → u < n ∧ ¬ sl u = -1) (hG : GOp lo sl mid gn t n) (w0 : 0 ≤ w) (w1 : w < n) : gn w = be := by
  obtain ⟨g1, g2⟩ := hG w w0 w1
  rcases h with ⟨h1, h2⟩ | ⟨h1, u, h2, h3, h4⟩
  · have : ¬ gn w = 1 := fun z => by
      obtain ⟨u, a, b, c⟩ := g2.mp z
      have q := hin u a b c
      exact h2 u q.1 q.2 c
    omega
  · have q := hu u h2 h3
    rw [h1]
    exact g2.mpr ⟨u, q.1, q.2, h4⟩
end DNs
