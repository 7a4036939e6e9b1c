/-! the reference's best ways -/
def BWq (d : Nat → Int → Int) (bs be : Int → Int) (a : Int) : Prop := bs (d 0 0) = 0 ∧ (∀ j, a < j → j < d 0 0 → bs j = (am (cd d bs j) j (d 0 0 - j).toNat).1 ∧ (0 ≤ bs j → be j = (am (cd d bs j) j (d 0 0 - j).toNat).2)) ∧ ∀ j, a < j → j ≤ d 0 0 → -1 ≤ bs j ∧ bs j ≤ 12200 * (d 0 0 - j)
theorem BWq_step {d : Nat → Int → Int} {f g be ge : Int → Int} {a : Int} (hp : PI d) (h0 : 0 ≤ a) (h1 : a < d 0 0) (h : BWq d f be a) (hg : ∀ j, ¬ j = a → g j = f j ∧ ge j = be j) (h2 : g a = (am (cd d f a) a (d 0 0 - a).toNat).1) (h3 : 0 ≤ g a → ge a = (am (cd d f a) a (d 0 0 - a).toNat).2) : BWq d g ge (a + (-1)) := by
  obtain ⟨b1, b2, b3⟩ := h
  have e : ∀ j, a ≤ j → am (cd d g j) j (d 0 0 - j).toNat = am (cd d f j) j (d 0 0 - j).toNat := fun j hj => am_congr _ fun i q1 q2 => cd_congr (hg (i + 1) (by omega)).1
  refine ⟨by rw [(hg _ (by omega)).1, b1], fun j q1 q2 => ?_, fun j q1 q2 => ?_⟩
  · by_cases hj : j = a
    · subst hj
      rw [e j (by omega)]
      exact ⟨h2, h3⟩
    · rw [e j (by omega), (hg j hj).1, (hg j hj).2]
      exact b2 j (by omega) q2
  · by_cases hj : j = a
    · subst hj
      rw [h2]
      rcases am_in (c := cd d f j) (lo := j) (d 0 0 - j).toNat with ⟨i1, -, -⟩ | ⟨i1, i2, i3, i4⟩
      · rw [i1]
        omega
      · have q := b3 ((am (cd d f j) j (d 0 0 - j).toNat).2 + 1) (by omega) (by omega)
        have q3 := cd_bnd (bs := f) hp h0 i2 (by omega) (M := 12200 * (d 0 0 - j) - 12200) (by omega) (by omega)
        rw [← i4]
        omega
    · rw [(hg j hj).1]
      exact b3 j (by omega) q2
theorem BWq_BW {d : Nat → Int → Int} {f be : Int → Int} (h : BWq d f be (-1)) : BW d f be := ⟨h.1, fun a q1 q2 => h.2.1 a (by omega) q2⟩
theorem BWq_BS {d : Nat → Int → Int} {f be : Int → Int} (hp : PI d) (h : BWq d f be (-1)) : BS d f := fun j q1 q2 => by
  have := h.2.2 j (by omega) q2
  have := hp.1
  omega
theorem bq_take {d : Nat → Int → Int} {f g be ge : Int → Int} {a b : Int} (q1 : a ≤ b) (q2 : ∀ j, ¬ j = a → g j = f j ∧ ge j = be j) (q3 : g a = (am (cd d f a) a (b - a).toNat).1) (hb : 0 ≤ g (b + 1)) (hp : ps d a b = true) (hd : 0 ≤ dm d a b) (h : g a < 0 ∨ dm d a b + g (b + 1) ≤ g a) : ab_u g a (dm d a b + g (b + 1)) a = (am (cd d f a) a (b + 1 - a).toNat).1 ∧ (0 ≤ ab_u g a (dm d a b + g (b + 1)) a → ab_u ge a b a = (am (cd d f a) a (b + 1 - a).toNat).2) := by
  have e0 := (q2 (b + 1) (by omega)).1
  have e : cd d f a b = dm d a b + g (b + 1) := by
    unfold cd
    rw [if_pos ⟨by omega, hp⟩, e0]
  rw [am_take q1 (by omega) (by omega), ab_u_eq, ab_u_eq]
  exact ⟨e.symm, fun _ => rfl⟩
theorem bq_skip {d : Nat → Int → Int} {f g be ge : Int → Int} {a b : Int} (q1 : a ≤ b) (q2 : ∀ j, ¬ j = a → g j = f j ∧ ge j = be j) (q3 : g a = (am (cd d f a) a (b - a).toNat).1 ∧ (0 ≤ g a → ge a = (am (cd d f a) a (b - a).toNat).2)) (h : g (b + 1) < 0 ∨ ¬ ps d a b = true ∨ (0 ≤ g a ∧ g a < dm d a b + g (b + 1))) : g a = (am (cd d f a) a (b + 1 - a).toNat).1 ∧ (0 ≤ g a → ge a = (am (cd d f a) a (b + 1 - a).toNat).2) := by
  have e0 := (q2 (b + 1) (by omega)).1
  rw [am_skip q1 ?_]
  · exact q3
  · rw [← q3.1]
    unfold cd
    split
    · rename_i z
      rcases h with h | h | h
      · omega
      · exact absurd z.2 h
      · exact Or.inr (by omega)
    · exact Or.inl (by omega)
