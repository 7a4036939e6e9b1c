/-! MATHEMATICS 4: rivers -/
def cnd (lo sl mid : Int → Int) (t w v : Int) : Prop := 0 ≤ v ∧ v < w ∧ lo v = lo w - 1 ∧ ¬ sl v = -1 ∧ -t ≤ mid v - mid w ∧ mid v - mid w ≤ t
/-- the near space above with the greatest length, of several the leftmost; -1: none -/
def AB (lo sl mid ln : Int → Int) (t w r : Int) : Prop := (r = -1 ∧ ∀ v, ¬ cnd lo sl mid t w v) ∨ (cnd lo sl mid t w r ∧ ∀ v, cnd lo sl mid t w v → ln v ≤ ln r ∧ (ln v = ln r → r ≤ v))
theorem AB_uniq {lo sl mid ln : Int → Int} {t w r q : Int} (h : AB lo sl mid ln t w r) (h2 : AB lo sl mid ln t w q) : r = q := by
  rcases h with ⟨a1, a2⟩ | ⟨a1, a2⟩ <;> rcases h2 with ⟨b1, b2⟩ | ⟨b1, b2⟩
  · omega
  · exact absurd b1 (a2 q)
  · exact absurd a1 (b2 r)
  · have x := a2 q b1
    have y := b2 r a1
    have z := x.2 (by omega)
    have z2 := y.2 (by omega)
    omega
theorem cnd_congr {lo lo2 sl sl2 mid mid2 : Int → Int} {t w v : Int} (h : ∀ j, 0 ≤ j → j ≤ w → lo j = lo2 j ∧ (sl j = -1 ↔ sl2 j = -1) ∧ (¬ sl j = -1 → mid j = mid2 j)) (hw : ¬ sl w = -1) : cnd lo sl mid t w v → cnd lo2 sl2 mid2 t w v := by
  rintro ⟨h1, h2, h3, h4, h5, h6⟩
  have a := h v h1 (by omega)
  have b := h w (by omega) (Int.le_refl w)
  have c := a.2.2 h4
  have e := b.2.2 hw
  refine ⟨h1, h2, by omega, fun z => h4 (a.2.1.mpr z), by omega, by omega⟩
theorem AB_congr {lo lo2 sl sl2 mid mid2 ln ln2 : Int → Int} {t w r : Int} (h0 : 0 ≤ w) (h : ∀ j, 0 ≤ j → j ≤ w → lo j = lo2 j ∧ (sl j = -1 ↔ sl2 j = -1) ∧ (¬ sl j = -1 → mid j = mid2 j)) (hl : ∀ j, 0 ≤ j → j < w → ¬ sl j = -1 → ln j = ln2 j) (hw : ¬ sl w = -1) (hA : AB lo sl mid ln t w r) : AB lo2 sl2 mid2 ln2 t w r := by
  have hf : ∀ v, cnd lo sl mid t w v → cnd lo2 sl2 mid2 t w v := fun v => cnd_congr h hw
  have hr : ∀ v, cnd lo2 sl2 mid2 t w v → cnd lo sl mid t w v := fun v => cnd_congr (fun j q1 q2 => by
    have a := h j q1 q2
    exact ⟨a.1.symm, a.2.1.symm, fun z => (a.2.2 (fun q => z (a.2.1.mp q))).symm⟩) (fun z => hw ((h w h0 (Int.le_refl w)).2.1.mpr z))
  rcases hA with ⟨a1, a2⟩ | ⟨a1, a2⟩
  · exact Or.inl ⟨a1, fun v hv => a2 v (hr v hv)⟩
  · refine Or.inr ⟨hf r a1, fun v hv => ?_⟩
    have x := hr v hv
    have y := a2 v x
    have e1 := hl v x.1 x.2.1 x.2.2.2.1
    have e2 := hl r a1.1 a1.2.1 a1.2.2.2.1
    omega
/-- the search so far: behind a -/
def ABp (lo sl mid ln : Int → Int) (t w a f : Int) : Prop := (f = -1 ∧ ∀ v, a < v → ¬ cnd lo sl mid t w v) ∨ (a < f ∧ cnd lo sl mid t w f ∧ ∀ v, a < v → cnd lo sl mid t w v → ln v ≤ ln f ∧ (ln v = ln f → f ≤ v))
theorem ABp_end {lo sl mid ln : Int → Int} {t w a f : Int} (h : ABp lo sl mid ln t w a f) (hn : ∀ v, v ≤ a → ¬ cnd lo sl mid t w v) : AB lo sl mid ln t w f := by
  have key : ∀ v, cnd lo sl mid t w v → a < v := fun v hv => by
    rcases Int.lt_or_le a v with q | q
    · exact q
    · exact absurd hv (hn v q)
  rcases h with ⟨h1, h2⟩ | ⟨h1, h2, h3⟩
  · exact Or.inl ⟨h1, fun v hv => h2 v (key v hv) hv⟩
  · exact Or.inr ⟨h2, fun v hv => h3 v (key v hv) hv⟩
theorem ABp_skip {lo sl mid ln : Int → Int} {t w a f : Int} (h : ABp lo sl mid ln t w a f) (hn : ¬ cnd lo sl mid t w a) : ABp lo sl mid ln t w (a + (-1)) f := by
  have key : ∀ v, a + (-1) < v → cnd lo sl mid t w v → a < v := fun v h1 hv => by
    rcases Int.lt_or_le a v with q | q
    · exact q
    · have e : v = a := by omega
      exact absurd (e ▸ hv) hn
  rcases h with ⟨h1, h2⟩ | ⟨h1, h2, h3⟩
  · exact Or.inl ⟨h1, fun v q hv => h2 v (key v q hv) hv⟩
  · exact Or.inr ⟨by omega, h2, fun v q hv => h3 v (key v q hv) hv⟩
theorem ABp_new {lo sl mid ln : Int → Int} {t w a f : Int} (h : ABp lo sl mid ln t w a f) (hc : cnd lo sl mid t w a) (hf : f = -1 ∨ ln f ≤ ln a) : ABp lo sl mid ln t w (a + (-1)) a := by
  have ha := hc.1
  refine Or.inr ⟨by omega, hc, fun v q hv => ?_⟩
  rcases Int.lt_or_le a v with q2 | q2
  · rcases h with ⟨h1, h2⟩ | ⟨h1, h2, h3⟩
    · exact absurd hv (h2 v q2)
    · have := h3 v q2 hv
      have := h2.1
      omega
  · have e : v = a := by omega
    subst e
    exact ⟨Int.le_refl _, fun _ => Int.le_refl _⟩
theorem ABp_old {lo sl mid ln : Int → Int} {t w a f : Int} (h : ABp lo sl mid ln t w a f) (hc : cnd lo sl mid t w a) (hf : ¬ f = -1) (hl : ln a < ln f) : ABp lo sl mid ln t w (a + (-1)) f := by
  rcases h with ⟨h1, h2⟩ | ⟨h1, h2, h3⟩
  · exact absurd h1 hf
  · refine Or.inr ⟨by omega, h2, fun v q hv => ?_⟩
    rcases Int.lt_or_le a v with q2 | q2
    · exact h3 v q2 hv
    · have e : v = a := by omega
      subst e
      exact ⟨by omega, fun z => by omega⟩
theorem ABp_0 {lo sl mid ln : Int → Int} {t w : Int} : ABp lo sl mid ln t w (w - 1) (-1) := Or.inl ⟨rfl, fun v h hc => by have := hc.2.1; omega⟩
theorem AB_lt {lo sl mid ln : Int → Int} {t w r : Int} (h : AB lo sl mid ln t w r) : r = -1 ∨ (0 ≤ r ∧ r < w ∧ lo r = lo w - 1 ∧ ¬ sl r = -1) := by
  rcases h with ⟨h1, -⟩ | ⟨h1, -⟩
  · exact Or.inl h1
  · exact Or.inr ⟨h1.1, h1.2.1, h1.2.2.1, h1.2.2.2.1⟩
/-- lengths and ways upwards of the spaces before w -/
def LNp (lo sl mid ln ab : Int → Int) (t w : Int) : Prop := ∀ v, 0 ≤ v → v < w → ¬ sl v = -1 → AB lo sl mid ln t v (ab v) ∧ ln v = (if ab v = -1 then 1 else ln (ab v) + 1)
theorem LNp_rng {lo sl mid ln ab : Int → Int} {t w : Int} (h : LNp lo sl mid ln ab t w) (hlo : ∀ v, 0 ≤ v → v < w → 0 ≤ lo v) : ∀ v, 0 ≤ v → v < w → ¬ sl v = -1 → 1 ≤ ln v ∧ ln v ≤ lo v + 1 := by
  have key : ∀ (k : Nat) (v : Int), v < k → 0 ≤ v → v < w → ¬ sl v = -1 → 1 ≤ ln v ∧ ln v ≤ lo v + 1 := by
    intro k
    induction k with
    | zero => intro v h1 h2; omega
    | succ k ih =>
      intro v h1 h2 h3 h4
      obtain ⟨a1, a2⟩ := h v h2 h3 h4
      have a3 := hlo v h2 h3
      rw [a2]
      rcases AB_lt a1 with q | ⟨q1, q2, q3, q4⟩
      · rw [if_pos q]
        omega
      · rw [if_neg (by omega)]
        have := ih (ab v) (by omega) q1 (by omega) q4
        omega
  exact fun v h2 h3 h4 => key (v + 1).toNat v (by omega) h2 h3 h4
theorem LNp_step {lo sl mid mid2 ln ln2 ab ab2 : Int → Int} {t w : Int} (h0 : 0 ≤ w) (h : LNp lo sl mid ln ab t w) (hm : ∀ j, 0 ≤ j → j < w → mid2 j = mid j) (hl : ∀ j, 0 ≤ j → j < w → ln2 j = ln j) (ha : ∀ j, 0 ≤ j → j < w → ab2 j = ab j)
    (hw : ¬ sl w = -1 → AB lo sl mid2 ln2 t w (ab2 w) ∧ ln2 w = (if ab2 w = -1 then 1 else ln2 (ab2 w) + 1)) : LNp lo sl mid2 ln2 ab2 t (w + 1) := by
  intro v h1 h2 h3
  by_cases hv : v = w
  · subst hv
    exact hw h3
  · obtain ⟨a1, a2⟩ := h v h1 (by omega) h3
    rw [ha v h1 (by omega), hl v h1 (by omega)]
    refine ⟨AB_congr h1 (fun j q1 q2 => ⟨rfl, Iff.rfl, fun _ => (hm j q1 (by omega)).symm⟩) (fun j q1 q2 _ => (hl j q1 (by omega)).symm) h3 a1, ?_⟩
    rw [a2]
    rcases AB_lt a1 with q | ⟨q1, q2, q3, q4⟩
    · rw [if_pos q, if_pos q]
    · rw [if_neg (by omega), if_neg (by omega), hl (ab v) q1 (by omega)]
/-- which spaces before n are gone on from by one before w -/
def GOp (lo sl mid gn : Int → Int) (t w : Int) : Prop := ∀ v, 0 ≤ v → v < w → (gn v = 0 ∨ gn v = 1) ∧ (gn v = 1 ↔ ∃ u, u < w ∧ ¬ sl u = -1 ∧ cnd lo sl mid t u v)
theorem GOp_step {lo sl mid mid2 gn gn2 : Int → Int} {t w : Int} (h0 : 0 ≤ w) (h : GOp lo sl mid gn t w) (hm : ∀ j, 0 ≤ j → j < w → mid2 j = mid j) (hw0 : gn2 w = 0)
    (h1 : ∀ v, 0 ≤ v → v < w → (¬ sl w = -1 ∧ cnd lo sl mid2 t w v) → gn2 v = 1) (h2 : ∀ v, 0 ≤ v → v < w → ¬ (¬ sl w = -1 ∧ cnd lo sl mid2 t w v) → gn2 v = gn v) : GOp lo sl mid2 gn2 t (w + 1) := by
  have cc : ∀ u v, u < w → ¬ sl u = -1 → (cnd lo sl mid t u v ↔ cnd lo sl mid2 t u v) := fun u v hu hs => ⟨cnd_congr (fun j q1 q2 => ⟨rfl, Iff.rfl, fun _ => (hm j q1 (by omega)).symm⟩) hs, cnd_congr (fun j q1 q2 => ⟨rfl, Iff.rfl, fun _ => hm j q1 (by omega)⟩) hs⟩
  intro v q1 q2
  by_cases hv : v = w
  · subst hv
    rw [hw0]
    refine ⟨Or.inl rfl, fun z => absurd z (by decide), fun ⟨u, z1, z2, z3⟩ => ?_⟩
    have := z3.2.1
    omega
  · have q3 : v < w := by omega
    obtain ⟨g1, g2⟩ := h v q1 q3
    by_cases hc : ¬ sl w = -1 ∧ cnd lo sl mid2 t w v
    · rw [h1 v q1 q3 hc]
      exact ⟨Or.inr rfl, fun _ => ⟨w, by omega, hc.1, hc.2⟩, fun _ => rfl⟩
    · rw [h2 v q1 q3 hc]
      refine ⟨g1, fun z => ?_, fun ⟨u, z1, z2, z3⟩ => ?_⟩
      · obtain ⟨u, z1, z2, z3⟩ := g2.mp z
        exact ⟨u, by omega, z2, (cc u v z1 z2).mp z3⟩
      · by_cases hu : u = w
        · subst hu
          exact absurd ⟨z2, z3⟩ hc
        · exact g2.mpr ⟨u, by omega, z2, (cc u v (by omega) z2).mpr z3⟩
/-- the greatest length -/
def GLp (sl ln : Int → Int) (w g : Int) : Prop := 0 ≤ g ∧ (∀ v, 0 ≤ v → v < w → ¬ sl v = -1 → ln v ≤ g) ∧ (g = 0 ∨ ∃ v, 0 ≤ v ∧ v < w ∧ ¬ sl v = -1 ∧ ln v = g)
theorem GLp_skip {sl ln ln2 : Int → Int} {w g : Int} (h : GLp sl ln w g) (hl : ∀ j, 0 ≤ j → j < w → ln2 j = ln j) (hw : sl w = -1) : GLp sl ln2 (w + 1) g := by
  obtain ⟨h1, h2, h3⟩ := h
  refine ⟨h1, fun v q1 q2 q3 => ?_, h3.imp id fun ⟨v, z1, z2, z3, z4⟩ => ⟨v, z1, by omega, z3, by rw [hl v z1 z2]; exact z4⟩⟩
  by_cases hv : v = w
  · exact absurd (hv ▸ hw) q3
  · rw [hl v q1 (by omega)]
    exact h2 v q1 (by omega) q3
theorem GLp_take {sl ln ln2 : Int → Int} {w g : Int} (h0 : 0 ≤ w) (h : GLp sl ln w g) (hl : ∀ j, 0 ≤ j → j < w → ln2 j = ln j) (hw : ¬ sl w = -1) : GLp sl ln2 (w + 1) (max g (ln2 w)) := by
  obtain ⟨h1, h2, h3⟩ := h
  refine ⟨by omega, fun v q1 q2 q3 => ?_, ?_⟩
  · by_cases hv : v = w
    · subst hv
      omega
    · rw [hl v q1 (by omega)]
      have := h2 v q1 (by omega) q3
      omega
  · by_cases hg : g ≤ ln2 w
    · exact Or.inr ⟨w, h0, by omega, hw, by omega⟩
    · rcases h3 with z | ⟨v, z1, z2, z3, z4⟩
      · exact Or.inl (by omega)
      · exact Or.inr ⟨v, z1, by omega, z3, by rw [hl v z1 z2]; omega⟩
/-- does a river end there? -/
def ei (sl ln gn : Int → Int) (v : Int) : Int := if ¬ sl v = -1 ∧ 3 ≤ ln v ∧ gn v = 0 then 1 else 0
def es (sl ln gn : Int → Int) (v : Int) : Int := if ¬ sl v = -1 ∧ 3 ≤ ln v ∧ gn v = 0 then ln v - 2 else 0
theorem ei_b (sl ln gn : Int → Int) (v : Int) : 0 ≤ ei sl ln gn v ∧ ei sl ln gn v ≤ 1 := by
  unfold ei
  split <;> omega
theorem Sei_b (sl ln gn : Int → Int) {w : Int} (h : 0 ≤ w) : 0 ≤ Sm (ei sl ln gn) 0 w ∧ Sm (ei sl ln gn) 0 w ≤ w := by
  have := Sm_bound (f := ei sl ln gn) (lo := 0) (hi := 1) h (fun j _ _ => ei_b sl ln gn j)
  omega
/-- the ends of the rivers, in their order -/
def ENp (sl ln gn en : Int → Int) (w : Int) : Prop := ∀ v, 0 ≤ v → v < w → ei sl ln gn v = 1 → en (Sm (ei sl ln gn) 0 v) = v
theorem ENp_take {sl ln gn en : Int → Int} {w : Int} (h0 : 0 ≤ w) (h : ENp sl ln gn en w) (he : ei sl ln gn w = 1) : ENp sl ln gn (ab_u en (Sm (ei sl ln gn) 0 w) w) (w + 1) := by
  intro v h1 h2 h3
  by_cases hv : v = w
  · subst hv
    exact ab_u_eq _ _ _
  · have e : Sm (ei sl ln gn) 0 w = Sm (ei sl ln gn) 0 (v + 1) + Sm (ei sl ln gn) (v + 1) w := Sm_split _ (by omega) (by omega)
    have e2 : 0 * (w - (v + 1)) ≤ Sm (ei sl ln gn) (v + 1) w := (Sm_bound (f := ei sl ln gn) (lo := 0) (hi := 1) (a := v + 1) (b := w) (by omega) (fun j _ _ => ei_b sl ln gn j)).1
    rw [Sm_succ _ h1, h3] at e
    rw [ab_u_ne (by omega)]
    exact h v h1 (by omega) h3
theorem ENp_skip {sl ln gn en : Int → Int} {w : Int} (h : ENp sl ln gn en w) (he : ei sl ln gn w = 0) : ENp sl ln gn en (w + 1) := by
  intro v h1 h2 h3
  by_cases hv : v = w
  · subst hv
    omega
  · exact h v h1 (by omega) h3
theorem GLp_b {sl ln : Int → Int} {w g M : Int} (h : GLp sl ln w g) (hM : 0 ≤ M) (hl : ∀ v, 0 ≤ ln v ∧ ln v ≤ M) : 0 ≤ g ∧ g ≤ M := by
  refine ⟨h.1, ?_⟩
  rcases h.2.2 with z | ⟨v, -, -, -, z⟩
  · omega
  · rw [← z]
    exact (hl v).2

set_option maxRecDepth 20000 in
theorem c_X5_spaceAbove_la (s : Nat → Int → Int) (w t : Int) (hw : 0 ≤ w ∧ w < 60) (hlo : ∀ v, 0 ≤ v → v ≤ w → 0 ≤ s 27 v ∧ s 27 v ≤ 60) (hmo : ∀ u v, 0 ≤ u → u ≤ v → v ≤ w → s 27 u ≤ s 27 v) (hsl : ∀ v, 0 ≤ v → v ≤ w → s 28 v = s 27 v ∨ s 28 v = -1) (hmid : ∀ v, 0 ≤ v → v ≤ w → -200000 ≤ s 33 v ∧ s 33 v ≤ 200000) (hln : ∀ v, 0 ≤ s 32 v ∧ s 32 v ≤ 60) (ht : 0 ≤ t ∧ t ≤ 40) : ab_Mt yX5_spaceAbove cX5_spaceAbove 9 (some .int) ({ frames := 1, cells := 0, slots := 0, locals := 21 } : Room) false 0 0 [.inr (some 31), .inr (some 25), .inl w, .inl t] (WW s) (fun r h2 => ∃ ab g, r = some (.inl ab) ∧ h2 = WW (ab_s s 35 g) ∧ AB (s 27) (s 28) (s 33) (s 32) t w ab ∧ (∀ v, cnd (s 27) (s 28) (s 33) t w v → g v = 1) ∧ ∀ v, ¬ cnd (s 27) (s 28) (s 33) t w v → g v = s 35 v) := by
  refine ab_mk RX5 false rfl pn_X5_spaceAbove (fun z => by cases z) (Nat.le_of_ble_eq_true rfl) (fun V hV => ?_)
  show V 0 [some (.inr (some 31)), some (.inr (some 25)), some (.inl w), some (.inl t), none, none, none, none, none] [] (WW s) 0 0
  have ml0 := hlo w (by omega) (by omega)
  refine rb_aload_n hV dX5_spaceAbove_0 rfl rfl ?_
  refine rb_get hV (v := .inr (some 27)) dX5_spaceAbove_1 ⟨RX1, TX1, 12, rfl, (Nat.le_of_ble_eq_true rfl), lf_X5_71⟩ (gw_25 _) rfl ?_
  refine rb_iload_n hV dX5_spaceAbove_4 rfl rfl ?_
  refine rb_callS hV (rest := []) dX5_spaceAbove_5 (c_X9_at s 27 _ (s 27) w (gw_27 _) (Nat.le_of_ble_eq_true rfl) (by omega)) lk_X5_38 rfl rfl ⟨rfl, rfl, (Nat.le_of_ble_eq_true rfl), (Nat.le_of_ble_eq_true rfl), (Nat.le_of_ble_eq_true rfl), (Nat.le_of_ble_eq_true rfl)⟩ (Nat.le_of_ble_eq_true rfl) (fun r9 h9 p9 => ?_)
  obtain ⟨rfl, rfl⟩ := p9
  show V 8 [some (.inr (some 31)), some (.inr (some 25)), some (.inl w), some (.inl t), none, none, none, none, none] [.inl (s 27 w)] (WW s) 0 0
  refine rb_iconst hV dX5_spaceAbove_8 ?_
  refine rb_isub hV dX5_spaceAbove_9 ?_
  refine rb_istore hV (L2 := [some (.inr (some 31)), some (.inr (some 25)), some (.inl w), some (.inl t), some (.inl ((s 27 w) - 1)), none, none, none, none]) dX5_spaceAbove_10 (Nat.le_of_ble_eq_true rfl) rfl ?_
  refine rb_iload hV dX5_spaceAbove_12 rfl ?_
  refine rb_if_ge hV (tgt := 19) dX5_spaceAbove_14 (by decide) (by first | assumption | (unfold ab_r at *; omega)) (fun c14 => ?_) (fun c14 => ?_)
  · refine rb_aload_n hV dX5_spaceAbove_19 rfl rfl ?_
    refine rb_get hV (v := .inr (some 33)) dX5_spaceAbove_20 ⟨RX5, TX5, 8, rfl, (Nat.le_of_ble_eq_true rfl), lf_X5_25⟩ (gw_31 _) rfl ?_
    refine rb_iload_n hV dX5_spaceAbove_23 rfl rfl ?_
    refine rb_callS hV (rest := []) dX5_spaceAbove_24 (c_X9_at s 33 _ (s 33) w (gw_33 _) (Nat.le_of_ble_eq_true rfl) (by omega)) lk_X5_38 rfl rfl ⟨rfl, rfl, (Nat.le_of_ble_eq_true rfl), (Nat.le_of_ble_eq_true rfl), (Nat.le_of_ble_eq_true rfl), (Nat.le_of_ble_eq_true rfl)⟩ (Nat.le_of_ble_eq_true rfl) (fun r9 h9 p9 => ?_)
    obtain ⟨rfl, rfl⟩ := p9
    show V 27 [some (.inr (some 31)), some (.inr (some 25)), some (.inl w), some (.inl t), some (.inl ((s 27 w) - 1)), none, none, none, none] [.inl (s 33 w)] (WW s) 0 0
    refine rb_istore hV (L2 := [some (.inr (some 31)), some (.inr (some 25)), some (.inl w), some (.inl t), some (.inl ((s 27 w) - 1)), some (.inl (s 33 w)), none, none, none]) dX5_spaceAbove_27 (Nat.le_of_ble_eq_true rfl) rfl ?_
    refine rb_iconst hV dX5_spaceAbove_29 ?_
    refine rb_istore hV (L2 := [some (.inr (some 31)), some (.inr (some 25)), some (.inl w), some (.inl t), some (.inl ((s 27 w) - 1)), some (.inl (s 33 w)), some (.inl (-1)), none, none]) dX5_spaceAbove_30 (Nat.le_of_ble_eq_true rfl) rfl ?_
    refine rb_iload_n hV dX5_spaceAbove_32 rfl rfl ?_
    refine rb_bipush hV dX5_spaceAbove_33 (by decide) ?_
    refine rb_mmin hV dX5_spaceAbove_35 lk_X5_74 ⟨(by unfold ab_r; omega), (by unfold ab_r; omega)⟩ (Nat.le_of_ble_eq_true rfl) (Nat.le_of_ble_eq_true rfl) ⟨(Nat.le_of_ble_eq_true rfl), (Nat.le_of_ble_eq_true rfl)⟩ ?_
    refine rb_iconst hV dX5_spaceAbove_38 ?_
    refine rb_isub hV dX5_spaceAbove_39 ?_
    refine rb_istore hV (L2 := [some (.inr (some 31)), some (.inr (some 25)), some (.inl w), some (.inl t), some (.inl ((s 27 w) - 1)), some (.inl (s 33 w)), some (.inl (-1)), some (.inl ((min w 60) - 1)), none]) dX5_spaceAbove_40 (Nat.le_of_ble_eq_true rfl) rfl ?_
    refine rb_heq (b := (ab_s s 35 (s 35))) (ab_s_id rfl).symm ?_
    have h42 : ∀ (n42 : Nat) (a : Int) (f : Int) (g : Int → Int), (-1 ≤ a ∧ a < w) → (ABp (s 27) (s 28) (s 33) (s 32) t w a f) → ((∀ v, a < v → cnd (s 27) (s 28) (s 33) t w v → g v = 1) ∧ ∀ v, (a < v → ¬ cnd (s 27) (s 28) (s 33) t w v) → g v = s 35 v) → ((a + 1).toNat) < n42 → V 42 [some (.inr (some 31)), some (.inr (some 25)), some (.inl w), some (.inl t), some (.inl ((s 27 w) - 1)), some (.inl (s 33 w)), some (.inl f), some (.inl a), none] [] (WW (ab_s s 35 g)) 0 0 := by
      intro n42
      induction n42 with
      | zero => intro a f g h1 h2 h3 hm; omega
      | succ n42 ih42 =>
        intro a f g h1 h2 h3 hm
        refine rb_iload hV dX5_spaceAbove_42 rfl ?_
        refine rb_if_lt hV (tgt := 146) dX5_spaceAbove_44 (by decide) (by first | assumption | (unfold ab_r at *; omega)) (fun c44 => ?_) (fun c44 => ?_)
        · refine rb_iload hV dX5_spaceAbove_146 rfl ?_
          refine rb_ret hV (r := some (.inl f)) dX5_spaceAbove_148 rfl ⟨(Nat.le_of_ble_eq_true rfl), (Nat.le_of_ble_eq_true rfl)⟩ trivial ?_
          have hno : ∀ v, v ≤ a → ¬ cnd (s 27) (s 28) (s 33) t w v := fun v q hc => by have := hc.1; have := hc.2.2.1; have := hmo v a hc.1 q (by omega); omega
          exact ⟨f, g, rfl, rfl, ABp_end h2 hno, fun v hc => h3.1 v (by rcases Int.lt_or_le a v with q | q; exact q; exact absurd hc (hno v q)) hc, fun v hc => h3.2 v (fun _ => hc)⟩
        · have ml := hlo a (by omega) (by omega)
          have ms := hsl a (by omega) (by omega)
          have mm := hmid a (by omega) (by omega)
          have mw := hmid w (by omega) (by omega)
          have mn := hln a
          refine rb_aload_n hV dX5_spaceAbove_47 rfl rfl ?_
          refine rb_get hV (v := .inr (some 27)) dX5_spaceAbove_48 ⟨RX1, TX1, 12, rfl, (Nat.le_of_ble_eq_true rfl), lf_X5_71⟩ (gw_25 _) rfl ?_
          refine rb_iload hV dX5_spaceAbove_51 rfl ?_
          refine rb_iald hV (f := (s 27)) dX5_spaceAbove_53 (gw_27 _) (Nat.le_of_ble_eq_true rfl) (by omega) ?_
          refine rb_iload hV dX5_spaceAbove_54 rfl ?_
          refine rb_icmp_lt hV (tgt := 146) dX5_spaceAbove_56 (by decide) ⟨(by first | assumption | (unfold ab_r at *; omega)), (by first | assumption | (unfold ab_r at *; omega))⟩ (fun c56 => ?_) (fun c56 => ?_)
          · refine rb_iload hV dX5_spaceAbove_146 rfl ?_
            refine rb_ret hV (r := some (.inl f)) dX5_spaceAbove_148 rfl ⟨(Nat.le_of_ble_eq_true rfl), (Nat.le_of_ble_eq_true rfl)⟩ trivial ?_
            have hno : ∀ v, v ≤ a → ¬ cnd (s 27) (s 28) (s 33) t w v := fun v q hc => by have := hc.1; have := hc.2.2.1; have := hmo v a hc.1 q (by omega); omega
            exact ⟨f, g, rfl, rfl, ABp_end h2 hno, fun v hc => h3.1 v (by rcases Int.lt_or_le a v with q | q; exact q; exact absurd hc (hno v q)) hc, fun v hc => h3.2 v (fun _ => hc)⟩
          · refine rb_aload_n hV dX5_spaceAbove_59 rfl rfl ?_
            refine rb_get hV (v := .inr (some 33)) dX5_spaceAbove_60 ⟨RX5, TX5, 8, rfl, (Nat.le_of_ble_eq_true rfl), lf_X5_25⟩ (gw_31 _) rfl ?_
            refine rb_iload hV dX5_spaceAbove_63 rfl ?_
            refine rb_iald hV (f := (s 33)) dX5_spaceAbove_65 (gw_33 _) (Nat.le_of_ble_eq_true rfl) (by omega) ?_
            refine rb_iload hV dX5_spaceAbove_66 rfl ?_
            refine rb_isub hV dX5_spaceAbove_68 ?_
            refine rb_mabs hV dX5_spaceAbove_69 lk_X5_77 (by first | assumption | (unfold ab_r at *; omega)) (Nat.le_of_ble_eq_true rfl) (Nat.le_of_ble_eq_true rfl) ⟨(Nat.le_of_ble_eq_true rfl), (Nat.le_of_ble_eq_true rfl)⟩ ?_
            by_cases e69 : 0 ≤ ((s 33 a) - (s 33 w))
            · rw [if_pos e69]
              refine rb_iload_n hV dX5_spaceAbove_72 rfl rfl ?_
              refine rb_icmp_gt hV (tgt := 80) dX5_spaceAbove_73 (by decide) ⟨(by first | assumption | (unfold ab_r at *; omega)), (by first | assumption | (unfold ab_r at *; omega))⟩ (fun c73 => ?_) (fun c73 => ?_)
              · have hnc : ¬ cnd (s 27) (s 28) (s 33) t w a := fun hc => by have := hc.2.2.2.2; omega
                refine rb_iconst hV dX5_spaceAbove_80 ?_
                refine rb_istore hV (L2 := [some (.inr (some 31)), some (.inr (some 25)), some (.inl w), some (.inl t), some (.inl ((s 27 w) - 1)), some (.inl (s 33 w)), some (.inl f), some (.inl a), some (.inl 0)]) dX5_spaceAbove_81 (Nat.le_of_ble_eq_true rfl) rfl ?_
                refine rb_iload hV dX5_spaceAbove_83 rfl ?_
                refine rb_if_eq hV (tgt := 140) dX5_spaceAbove_85 (by decide) (by first | assumption | (unfold ab_r at *; omega)) (fun _ => ?_) (fun z => absurd z (by decide))
                refine rb_iinc hV (L2 := [some (.inr (some 31)), some (.inr (some 25)), some (.inl w), some (.inl t), some (.inl ((s 27 w) - 1)), some (.inl (s 33 w)), some (.inl f), some (.inl (a + (-1))), some (.inl 0)]) dX5_spaceAbove_140 rfl rfl rfl ?_
                refine rb_goto hV (tgt := 42) dX5_spaceAbove_143 (by decide) ?_
                refine rb_weak hV (L2 := [some (.inr (some 31)), some (.inr (some 25)), some (.inl w), some (.inl t), some (.inl ((s 27 w) - 1)), some (.inl (s 33 w)), some (.inl f), some (.inl (a + (-1))), none]) ⟨rfl, ⟨rfl, ⟨rfl, ⟨rfl, ⟨rfl, ⟨rfl, ⟨rfl, ⟨rfl, trivial⟩⟩⟩⟩⟩⟩⟩⟩ ?_
                refine ih42 (a + (-1)) f (g) ?_ ?_ ?_ ?_
                · omega
                · exact ABp_skip h2 hnc
                · exact ⟨fun v q hc => by
                    by_cases e : v = a
                    · exact absurd (e ▸ hc) hnc
                    · exact h3.1 v (by omega) hc, fun v q => h3.2 v (fun z => q (by omega))⟩
                · omega
              · refine rb_iconst hV dX5_spaceAbove_76 ?_
                refine rb_goto hV (tgt := 81) dX5_spaceAbove_77 (by decide) ?_
                refine rb_istore hV (L2 := [some (.inr (some 31)), some (.inr (some 25)), some (.inl w), some (.inl t), some (.inl ((s 27 w) - 1)), some (.inl (s 33 w)), some (.inl f), some (.inl a), some (.inl 1)]) dX5_spaceAbove_81 (Nat.le_of_ble_eq_true rfl) rfl ?_
                refine rb_iload hV dX5_spaceAbove_83 rfl ?_
                refine rb_if_eq hV (tgt := 140) dX5_spaceAbove_85 (by decide) (by first | assumption | (unfold ab_r at *; omega)) (fun z => absurd z (by decide)) (fun _ => ?_)
                refine rb_aload_n hV dX5_spaceAbove_88 rfl rfl ?_
                refine rb_get hV (v := .inr (some 28)) dX5_spaceAbove_89 ⟨RX1, TX1, 12, rfl, (Nat.le_of_ble_eq_true rfl), lf_X5_54⟩ (gw_25 _) rfl ?_
                refine rb_iload hV dX5_spaceAbove_92 rfl ?_
                refine rb_iald hV (f := (s 28)) dX5_spaceAbove_94 (gw_28 _) (Nat.le_of_ble_eq_true rfl) (by omega) ?_
                refine rb_iload hV dX5_spaceAbove_95 rfl ?_
                refine rb_icmp_eq hV (tgt := 103) dX5_spaceAbove_97 (by decide) ⟨(by first | assumption | (unfold ab_r at *; omega)), (by first | assumption | (unfold ab_r at *; omega))⟩ (fun c97 => ?_) (fun c97 => ?_)
                · have hlw := hmo a w (by omega) (by omega) (by omega)
                  have hyc : cnd (s 27) (s 28) (s 33) t w a := ⟨by omega, by omega, by omega, by omega, by omega, by omega⟩
                  have hfl : f = -1 ∨ (0 ≤ f ∧ f < w) := by rcases h2 with q | q; exact Or.inl q.1; exact Or.inr ⟨q.2.1.1, q.2.1.2.1⟩
                  have mf := hln f
                  refine rb_aload_n hV dX5_spaceAbove_103 rfl rfl ?_
                  refine rb_get hV (v := .inr (some 35)) dX5_spaceAbove_104 ⟨RX5, TX5, 8, rfl, (Nat.le_of_ble_eq_true rfl), lf_X5_31⟩ (gw_31 _) rfl ?_
                  refine rb_iload hV dX5_spaceAbove_107 rfl ?_
                  refine rb_iconst hV dX5_spaceAbove_109 ?_
                  refine rb_zast hV (f := (g)) dX5_spaceAbove_110 (gw_35 _) (Nat.le_of_ble_eq_true rfl) (by omega) (by omega) rfl ((pw_35 _ _).trans (congrArg WW (ab_s_same _ 35 _ _))) ?_
                  refine rb_iload hV dX5_spaceAbove_111 rfl ?_
                  refine rb_iconst hV dX5_spaceAbove_113 ?_
                  refine rb_icmp_eq hV (tgt := 136) dX5_spaceAbove_114 (by decide) ⟨(by first | assumption | (unfold ab_r at *; omega)), (by first | assumption | (unfold ab_r at *; omega))⟩ (fun c114 => ?_) (fun c114 => ?_)
                  · refine rb_iload hV dX5_spaceAbove_136 rfl ?_
                    refine rb_istore hV (L2 := [some (.inr (some 31)), some (.inr (some 25)), some (.inl w), some (.inl t), some (.inl ((s 27 w) - 1)), some (.inl (s 33 w)), some (.inl a), some (.inl a), some (.inl 1)]) dX5_spaceAbove_138 (Nat.le_of_ble_eq_true rfl) rfl ?_
                    refine rb_iinc hV (L2 := [some (.inr (some 31)), some (.inr (some 25)), some (.inl w), some (.inl t), some (.inl ((s 27 w) - 1)), some (.inl (s 33 w)), some (.inl a), some (.inl (a + (-1))), some (.inl 1)]) dX5_spaceAbove_140 rfl rfl rfl ?_
                    refine rb_goto hV (tgt := 42) dX5_spaceAbove_143 (by decide) ?_
                    refine rb_weak hV (L2 := [some (.inr (some 31)), some (.inr (some 25)), some (.inl w), some (.inl t), some (.inl ((s 27 w) - 1)), some (.inl (s 33 w)), some (.inl a), some (.inl (a + (-1))), none]) ⟨rfl, ⟨rfl, ⟨rfl, ⟨rfl, ⟨rfl, ⟨rfl, ⟨rfl, ⟨rfl, trivial⟩⟩⟩⟩⟩⟩⟩⟩ ?_
                    refine ih42 (a + (-1)) a (ab_u (g) a 1) ?_ ?_ ?_ ?_
                    · omega
                    · exact ABp_new h2 hyc (by omega)
                    · exact ⟨fun v q hc => by
                        by_cases e : v = a
                        · rw [e, ab_u_eq]
                        · rw [ab_u_ne e]
                          exact h3.1 v (by omega) hc, fun v q => by
                        have hva : ¬ v = a := fun e => q (by omega) (by rw [e]; exact hyc)
                        rw [ab_u_ne hva]
                        exact h3.2 v (fun z => q (by omega))⟩
                    · omega
                  · refine rb_aload_n hV dX5_spaceAbove_117 rfl rfl ?_
                    refine rb_get hV (v := .inr (some 32)) dX5_spaceAbove_118 ⟨RX5, TX5, 8, rfl, (Nat.le_of_ble_eq_true rfl), lf_X5_21⟩ (gw_31 _) rfl ?_
                    refine rb_iload hV dX5_spaceAbove_121 rfl ?_
                    refine rb_iald hV (f := (s 32)) dX5_spaceAbove_123 (gw_32 _) (Nat.le_of_ble_eq_true rfl) (by omega) ?_
                    refine rb_aload_n hV dX5_spaceAbove_124 rfl rfl ?_
                    refine rb_get hV (v := .inr (some 32)) dX5_spaceAbove_125 ⟨RX5, TX5, 8, rfl, (Nat.le_of_ble_eq_true rfl), lf_X5_21⟩ (gw_31 _) rfl ?_
                    refine rb_iload hV dX5_spaceAbove_128 rfl ?_
                    refine rb_callS hV (rest := [.inl (s 32 a)]) dX5_spaceAbove_130 (c_X9_at (ab_s s 35 (ab_u (g) a 1)) 32 _ (s 32) f (gw_32 _) (Nat.le_of_ble_eq_true rfl) (by omega)) lk_X5_38 rfl rfl ⟨rfl, rfl, (Nat.le_of_ble_eq_true rfl), (Nat.le_of_ble_eq_true rfl), (Nat.le_of_ble_eq_true rfl), (Nat.le_of_ble_eq_true rfl)⟩ (Nat.le_of_ble_eq_true rfl) (fun r9 h9 p9 => ?_)
                    obtain ⟨rfl, rfl⟩ := p9
                    show V 133 [some (.inr (some 31)), some (.inr (some 25)), some (.inl w), some (.inl t), some (.inl ((s 27 w) - 1)), some (.inl (s 33 w)), some (.inl f), some (.inl a), some (.inl 1)] [.inl (s 32 f), .inl (s 32 a)] (WW (ab_s s 35 (ab_u (g) a 1))) 0 0
                    refine rb_icmp_lt hV (tgt := 140) dX5_spaceAbove_133 (by decide) ⟨(by first | assumption | (unfold ab_r at *; omega)), (by first | assumption | (unfold ab_r at *; omega))⟩ (fun c133 => ?_) (fun c133 => ?_)
                    · refine rb_iinc hV (L2 := [some (.inr (some 31)), some (.inr (some 25)), some (.inl w), some (.inl t), some (.inl ((s 27 w) - 1)), some (.inl (s 33 w)), some (.inl f), some (.inl (a + (-1))), some (.inl 1)]) dX5_spaceAbove_140 rfl rfl rfl ?_
                      refine rb_goto hV (tgt := 42) dX5_spaceAbove_143 (by decide) ?_
                      refine rb_weak hV (L2 := [some (.inr (some 31)), some (.inr (some 25)), some (.inl w), some (.inl t), some (.inl ((s 27 w) - 1)), some (.inl (s 33 w)), some (.inl f), some (.inl (a + (-1))), none]) ⟨rfl, ⟨rfl, ⟨rfl, ⟨rfl, ⟨rfl, ⟨rfl, ⟨rfl, ⟨rfl, trivial⟩⟩⟩⟩⟩⟩⟩⟩ ?_
                      refine ih42 (a + (-1)) f (ab_u (g) a 1) ?_ ?_ ?_ ?_
                      · omega
                      · exact ABp_old h2 hyc (by omega) (by omega)
                      · exact ⟨fun v q hc => by
                          by_cases e : v = a
                          · rw [e, ab_u_eq]
                          · rw [ab_u_ne e]
                            exact h3.1 v (by omega) hc, fun v q => by
                          have hva : ¬ v = a := fun e => q (by omega) (by rw [e]; exact hyc)
                          rw [ab_u_ne hva]
                          exact h3.2 v (fun z => q (by omega))⟩
                      · omega
                    · refine rb_iload hV dX5_spaceAbove_136 rfl ?_
                      refine rb_istore hV (L2 := [some (.inr (some 31)), some (.inr (some 25)), some (.inl w), some (.inl t), some (.inl ((s 27 w) - 1)), some (.inl (s 33 w)), some (.inl a), some (.inl a), some (.inl 1)]) dX5_spaceAbove_138 (Nat.le_of_ble_eq_true rfl) rfl ?_
                      refine rb_iinc hV (L2 := [some (.inr (some 31)), some (.inr (some 25)), some (.inl w), some (.inl t), some (.inl ((s 27 w) - 1)), some (.inl (s 33 w)), some (.inl a), some (.inl (a + (-1))), some (.inl 1)]) dX5_spaceAbove_140 rfl rfl rfl ?_
                      refine rb_goto hV (tgt := 42) dX5_spaceAbove_143 (by decide) ?_
                      refine rb_weak hV (L2 := [some (.inr (some 31)), some (.inr (some 25)), some (.inl w), some (.inl t), some (.inl ((s 27 w) - 1)), some (.inl (s 33 w)), some (.inl a), some (.inl (a + (-1))), none]) ⟨rfl, ⟨rfl, ⟨rfl, ⟨rfl, ⟨rfl, ⟨rfl, ⟨rfl, ⟨rfl, trivial⟩⟩⟩⟩⟩⟩⟩⟩ ?_
                      refine ih42 (a + (-1)) a (ab_u (g) a 1) ?_ ?_ ?_ ?_
                      · omega
                      · exact ABp_new h2 hyc (by omega)
                      · exact ⟨fun v q hc => by
                          by_cases e : v = a
                          · rw [e, ab_u_eq]
                          · rw [ab_u_ne e]
                            exact h3.1 v (by omega) hc, fun v q => by
                          have hva : ¬ v = a := fun e => q (by omega) (by rw [e]; exact hyc)
                          rw [ab_u_ne hva]
                          exact h3.2 v (fun z => q (by omega))⟩
                      · omega
                · have hnc : ¬ cnd (s 27) (s 28) (s 33) t w a := fun hc => by have := hc.2.2.2.1; have := hc.2.2.1; omega
                  refine rb_goto hV (tgt := 140) dX5_spaceAbove_100 (by decide) ?_
                  refine rb_iinc hV (L2 := [some (.inr (some 31)), some (.inr (some 25)), some (.inl w), some (.inl t), some (.inl ((s 27 w) - 1)), some (.inl (s 33 w)), some (.inl f), some (.inl (a + (-1))), some (.inl 1)]) dX5_spaceAbove_140 rfl rfl rfl ?_
                  refine rb_goto hV (tgt := 42) dX5_spaceAbove_143 (by decide) ?_
                  refine rb_weak hV (L2 := [some (.inr (some 31)), some (.inr (some 25)), some (.inl w), some (.inl t), some (.inl ((s 27 w) - 1)), some (.inl (s 33 w)), some (.inl f), some (.inl (a + (-1))), none]) ⟨rfl, ⟨rfl, ⟨rfl, ⟨rfl, ⟨rfl, ⟨rfl, ⟨rfl, ⟨rfl, trivial⟩⟩⟩⟩⟩⟩⟩⟩ ?_
                  refine ih42 (a + (-1)) f (g) ?_ ?_ ?_ ?_
                  · omega
                  · exact ABp_skip h2 hnc
                  · exact ⟨fun v q hc => by
                      by_cases e : v = a
                      · exact absurd (e ▸ hc) hnc
                      · exact h3.1 v (by omega) hc, fun v q => h3.2 v (fun z => q (by omega))⟩
                  · omega
            · rw [if_neg e69]
              refine rb_iload_n hV dX5_spaceAbove_72 rfl rfl ?_
              refine rb_icmp_gt hV (tgt := 80) dX5_spaceAbove_73 (by decide) ⟨(by first | assumption | (unfold ab_r at *; omega)), (by first | assumption | (unfold ab_r at *; omega))⟩ (fun c73 => ?_) (fun c73 => ?_)
              · have hnc : ¬ cnd (s 27) (s 28) (s 33) t w a := fun hc => by have := hc.2.2.2.2; omega
                refine rb_iconst hV dX5_spaceAbove_80 ?_
                refine rb_istore hV (L2 := [some (.inr (some 31)), some (.inr (some 25)), some (.inl w), some (.inl t), some (.inl ((s 27 w) - 1)), some (.inl (s 33 w)), some (.inl f), some (.inl a), some (.inl 0)]) dX5_spaceAbove_81 (Nat.le_of_ble_eq_true rfl) rfl ?_
                refine rb_iload hV dX5_spaceAbove_83 rfl ?_
                refine rb_if_eq hV (tgt := 140) dX5_spaceAbove_85 (by decide) (by first | assumption | (unfold ab_r at *; omega)) (fun _ => ?_) (fun z => absurd z (by decide))
                refine rb_iinc hV (L2 := [some (.inr (some 31)), some (.inr (some 25)), some (.inl w), some (.inl t), some (.inl ((s 27 w) - 1)), some (.inl (s 33 w)), some (.inl f), some (.inl (a + (-1))), some (.inl 0)]) dX5_spaceAbove_140 rfl rfl rfl ?_
                refine rb_goto hV (tgt := 42) dX5_spaceAbove_143 (by decide) ?_
                refine rb_weak hV (L2 := [some (.inr (some 31)), some (.inr (some 25)), some (.inl w), some (.inl t), some (.inl ((s 27 w) - 1)), some (.inl (s 33 w)), some (.inl f), some (.inl (a + (-1))), none]) ⟨rfl, ⟨rfl, ⟨rfl, ⟨rfl, ⟨rfl, ⟨rfl, ⟨rfl, ⟨rfl, trivial⟩⟩⟩⟩⟩⟩⟩⟩ ?_
                refine ih42 (a + (-1)) f (g) ?_ ?_ ?_ ?_
                · omega
                · exact ABp_skip h2 hnc
                · exact ⟨fun v q hc => by
                    by_cases e : v = a
                    · exact absurd (e ▸ hc) hnc
                    · exact h3.1 v (by omega) hc, fun v q => h3.2 v (fun z => q (by omega))⟩
                · omega
              · refine rb_iconst hV dX5_spaceAbove_76 ?_
                refine rb_goto hV (tgt := 81) dX5_spaceAbove_77 (by decide) ?_
                refine rb_istore hV (L2 := [some (.inr (some 31)), some (.inr (some 25)), some (.inl w), some (.inl t), some (.inl ((s 27 w) - 1)), some (.inl (s 33 w)), some (.inl f), some (.inl a), some (.inl 1)]) dX5_spaceAbove_81 (Nat.le_of_ble_eq_true rfl) rfl ?_
                refine rb_iload hV dX5_spaceAbove_83 rfl ?_
                refine rb_if_eq hV (tgt := 140) dX5_spaceAbove_85 (by decide) (by first | assumption | (unfold ab_r at *; omega)) (fun z => absurd z (by decide)) (fun _ => ?_)
                refine rb_aload_n hV dX5_spaceAbove_88 rfl rfl ?_
                refine rb_get hV (v := .inr (some 28)) dX5_spaceAbove_89 ⟨RX1, TX1, 12, rfl, (Nat.le_of_ble_eq_true rfl), lf_X5_54⟩ (gw_25 _) rfl ?_
                refine rb_iload hV dX5_spaceAbove_92 rfl ?_
                refine rb_iald hV (f := (s 28)) dX5_spaceAbove_94 (gw_28 _) (Nat.le_of_ble_eq_true rfl) (by omega) ?_
                refine rb_iload hV dX5_spaceAbove_95 rfl ?_
                refine rb_icmp_eq hV (tgt := 103) dX5_spaceAbove_97 (by decide) ⟨(by first | assumption | (unfold ab_r at *; omega)), (by first | assumption | (unfold ab_r at *; omega))⟩ (fun c97 => ?_) (fun c97 => ?_)
                · have hlw := hmo a w (by omega) (by omega) (by omega)
                  have hyc : cnd (s 27) (s 28) (s 33) t w a := ⟨by omega, by omega, by omega, by omega, by omega, by omega⟩
                  have hfl : f = -1 ∨ (0 ≤ f ∧ f < w) := by rcases h2 with q | q; exact Or.inl q.1; exact Or.inr ⟨q.2.1.1, q.2.1.2.1⟩
                  have mf := hln f
                  refine rb_aload_n hV dX5_spaceAbove_103 rfl rfl ?_
                  refine rb_get hV (v := .inr (some 35)) dX5_spaceAbove_104 ⟨RX5, TX5, 8, rfl, (Nat.le_of_ble_eq_true rfl), lf_X5_31⟩ (gw_31 _) rfl ?_
                  refine rb_iload hV dX5_spaceAbove_107 rfl ?_
                  refine rb_iconst hV dX5_spaceAbove_109 ?_
                  refine rb_zast hV (f := (g)) dX5_spaceAbove_110 (gw_35 _) (Nat.le_of_ble_eq_true rfl) (by omega) (by omega) rfl ((pw_35 _ _).trans (congrArg WW (ab_s_same _ 35 _ _))) ?_
                  refine rb_iload hV dX5_spaceAbove_111 rfl ?_
                  refine rb_iconst hV dX5_spaceAbove_113 ?_
                  refine rb_icmp_eq hV (tgt := 136) dX5_spaceAbove_114 (by decide) ⟨(by first | assumption | (unfold ab_r at *; omega)), (by first | assumption | (unfold ab_r at *; omega))⟩ (fun c114 => ?_) (fun c114 => ?_)
                  · refine rb_iload hV dX5_spaceAbove_136 rfl ?_
                    refine rb_istore hV (L2 := [some (.inr (some 31)), some (.inr (some 25)), some (.inl w), some (.inl t), some (.inl ((s 27 w) - 1)), some (.inl (s 33 w)), some (.inl a), some (.inl a), some (.inl 1)]) dX5_spaceAbove_138 (Nat.le_of_ble_eq_true rfl) rfl ?_
                    refine rb_iinc hV (L2 := [some (.inr (some 31)), some (.inr (some 25)), some (.inl w), some (.inl t), some (.inl ((s 27 w) - 1)), some (.inl (s 33 w)), some (.inl a), some (.inl (a + (-1))), some (.inl 1)]) dX5_spaceAbove_140 rfl rfl rfl ?_
                    refine rb_goto hV (tgt := 42) dX5_spaceAbove_143 (by decide) ?_
                    refine rb_weak hV (L2 := [some (.inr (some 31)), some (.inr (some 25)), some (.inl w), some (.inl t), some (.inl ((s 27 w) - 1)), some (.inl (s 33 w)), some (.inl a), some (.inl (a + (-1))), none]) ⟨rfl, ⟨rfl, ⟨rfl, ⟨rfl, ⟨rfl, ⟨rfl, ⟨rfl, ⟨rfl, trivial⟩⟩⟩⟩⟩⟩⟩⟩ ?_
                    refine ih42 (a + (-1)) a (ab_u (g) a 1) ?_ ?_ ?_ ?_
                    · omega
                    · exact ABp_new h2 hyc (by omega)
                    · exact ⟨fun v q hc => by
                        by_cases e : v = a
                        · rw [e, ab_u_eq]
                        · rw [ab_u_ne e]
                          exact h3.1 v (by omega) hc, fun v q => by
                        have hva : ¬ v = a := fun e => q (by omega) (by rw [e]; exact hyc)
                        rw [ab_u_ne hva]
                        exact h3.2 v (fun z => q (by omega))⟩
                    · omega
                  · refine rb_aload_n hV dX5_spaceAbove_117 rfl rfl ?_
                    refine rb_get hV (v := .inr (some 32)) dX5_spaceAbove_118 ⟨RX5, TX5, 8, rfl, (Nat.le_of_ble_eq_true rfl), lf_X5_21⟩ (gw_31 _) rfl ?_
                    refine rb_iload hV dX5_spaceAbove_121 rfl ?_
                    refine rb_iald hV (f := (s 32)) dX5_spaceAbove_123 (gw_32 _) (Nat.le_of_ble_eq_true rfl) (by omega) ?_
                    refine rb_aload_n hV dX5_spaceAbove_124 rfl rfl ?_
                    refine rb_get hV (v := .inr (some 32)) dX5_spaceAbove_125 ⟨RX5, TX5, 8, rfl, (Nat.le_of_ble_eq_true rfl), lf_X5_21⟩ (gw_31 _) rfl ?_
                    refine rb_iload hV dX5_spaceAbove_128 rfl ?_
                    refine rb_callS hV (rest := [.inl (s 32 a)]) dX5_spaceAbove_130 (c_X9_at (ab_s s 35 (ab_u (g) a 1)) 32 _ (s 32) f (gw_32 _) (Nat.le_of_ble_eq_true rfl) (by omega)) lk_X5_38 rfl rfl ⟨rfl, rfl, (Nat.le_of_ble_eq_true rfl), (Nat.le_of_ble_eq_true rfl), (Nat.le_of_ble_eq_true rfl), (Nat.le_of_ble_eq_true rfl)⟩ (Nat.le_of_ble_eq_true rfl) (fun r9 h9 p9 => ?_)
                    obtain ⟨rfl, rfl⟩ := p9
                    show V 133 [some (.inr (some 31)), some (.inr (some 25)), some (.inl w), some (.inl t), some (.inl ((s 27 w) - 1)), some (.inl (s 33 w)), some (.inl f), some (.inl a), some (.inl 1)] [.inl (s 32 f), .inl (s 32 a)] (WW (ab_s s 35 (ab_u (g) a 1))) 0 0
                    refine rb_icmp_lt hV (tgt := 140) dX5_spaceAbove_133 (by decide) ⟨(by first | assumption | (unfold ab_r at *; omega)), (by first | assumption | (unfold ab_r at *; omega))⟩ (fun c133 => ?_) (fun c133 => ?_)
                    · refine rb_iinc hV (L2 := [some (.inr (some 31)), some (.inr (some 25)), some (.inl w), some (.inl t), some (.inl ((s 27 w) - 1)), some (.inl (s 33 w)), some (.inl f), some (.inl (a + (-1))), some (.inl 1)]) dX5_spaceAbove_140 rfl rfl rfl ?_
                      refine rb_goto hV (tgt := 42) dX5_spaceAbove_143 (by decide) ?_
                      refine rb_weak hV (L2 := [some (.inr (some 31)), some (.inr (some 25)), some (.inl w), some (.inl t), some (.inl ((s 27 w) - 1)), some (.inl (s 33 w)), some (.inl f), some (.inl (a + (-1))), none]) ⟨rfl, ⟨rfl, ⟨rfl, ⟨rfl, ⟨rfl, ⟨rfl, ⟨rfl, ⟨rfl, trivial⟩⟩⟩⟩⟩⟩⟩⟩ ?_
                      refine ih42 (a + (-1)) f (ab_u (g) a 1) ?_ ?_ ?_ ?_
                      · omega
                      · exact ABp_old h2 hyc (by omega) (by omega)
                      · exact ⟨fun v q hc => by
                          by_cases e : v = a
                          · rw [e, ab_u_eq]
                          · rw [ab_u_ne e]
                            exact h3.1 v (by omega) hc, fun v q => by
                          have hva : ¬ v = a := fun e => q (by omega) (by rw [e]; exact hyc)
                          rw [ab_u_ne hva]
                          exact h3.2 v (fun z => q (by omega))⟩
                      · omega
                    · refine rb_iload hV dX5_spaceAbove_136 rfl ?_
                      refine rb_istore hV (L2 := [some (.inr (some 31)), some (.inr (some 25)), some (.inl w), some (.inl t), some (.inl ((s 27 w) - 1)), some (.inl (s 33 w)), some (.inl a), some (.inl a), some (.inl 1)]) dX5_spaceAbove_138 (Nat.le_of_ble_eq_true rfl) rfl ?_
                      refine rb_iinc hV (L2 := [some (.inr (some 31)), some (.inr (some 25)), some (.inl w), some (.inl t), some (.inl ((s 27 w) - 1)), some (.inl (s 33 w)), some (.inl a), some (.inl (a + (-1))), some (.inl 1)]) dX5_spaceAbove_140 rfl rfl rfl ?_
                      refine rb_goto hV (tgt := 42) dX5_spaceAbove_143 (by decide) ?_
                      refine rb_weak hV (L2 := [some (.inr (some 31)), some (.inr (some 25)), some (.inl w), some (.inl t), some (.inl ((s 27 w) - 1)), some (.inl (s 33 w)), some (.inl a), some (.inl (a + (-1))), none]) ⟨rfl, ⟨rfl, ⟨rfl, ⟨rfl, ⟨rfl, ⟨rfl, ⟨rfl, ⟨rfl, trivial⟩⟩⟩⟩⟩⟩⟩⟩ ?_
                      refine ih42 (a + (-1)) a (ab_u (g) a 1) ?_ ?_ ?_ ?_
                      · omega
                      · exact ABp_new h2 hyc (by omega)
                      · exact ⟨fun v q hc => by
                          by_cases e : v = a
                          · rw [e, ab_u_eq]
                          · rw [ab_u_ne e]
                            exact h3.1 v (by omega) hc, fun v q => by
                          have hva : ¬ v = a := fun e => q (by omega) (by rw [e]; exact hyc)
                          rw [ab_u_ne hva]
                          exact h3.2 v (fun z => q (by omega))⟩
                      · omega
                · have hnc : ¬ cnd (s 27) (s 28) (s 33) t w a := fun hc => by have := hc.2.2.2.1; have := hc.2.2.1; omega
                  refine rb_goto hV (tgt := 140) dX5_spaceAbove_100 (by decide) ?_
                  refine rb_iinc hV (L2 := [some (.inr (some 31)), some (.inr (some 25)), some (.inl w), some (.inl t), some (.inl ((s 27 w) - 1)), some (.inl (s 33 w)), some (.inl f), some (.inl (a + (-1))), some (.inl 1)]) dX5_spaceAbove_140 rfl rfl rfl ?_
                  refine rb_goto hV (tgt := 42) dX5_spaceAbove_143 (by decide) ?_
                  refine rb_weak hV (L2 := [some (.inr (some 31)), some (.inr (some 25)), some (.inl w), some (.inl t), some (.inl ((s 27 w) - 1)), some (.inl (s 33 w)), some (.inl f), some (.inl (a + (-1))), none]) ⟨rfl, ⟨rfl, ⟨rfl, ⟨rfl, ⟨rfl, ⟨rfl, ⟨rfl, ⟨rfl, trivial⟩⟩⟩⟩⟩⟩⟩⟩ ?_
                  refine ih42 (a + (-1)) f (g) ?_ ?_ ?_ ?_
                  · omega
                  · exact ABp_skip h2 hnc
                  · exact ⟨fun v q hc => by
                      by_cases e : v = a
                      · exact absurd (e ▸ hc) hnc
                      · exact h3.1 v (by omega) hc, fun v q => h3.2 v (fun z => q (by omega))⟩
                  · omega
    refine h42 _ ((min w 60) - 1) (-1) (s 35) ?_ ?_ ?_ (Nat.lt_succ_self _)
    · omega
    · rw [show min w 60 - 1 = w - 1 by omega]; exact ABp_0
    · exact ⟨fun v q hc => by have := hc.2.1; omega, fun v _ => rfl⟩
  · refine rb_iconst hV dX5_spaceAbove_17 ?_
    refine rb_ret hV (r := some (.inl (-1))) dX5_spaceAbove_18 rfl ⟨(Nat.le_of_ble_eq_true rfl), (Nat.le_of_ble_eq_true rfl)⟩ trivial ?_
    have hno : ∀ v, ¬ cnd (s 27) (s 28) (s 33) t w v := fun v hc => by have := hc.2.2.1; have := hlo v hc.1 (by have := hc.2.1; omega); omega
    exact ⟨-1, s 35, rfl, (ab_s_id rfl).symm ▸ rfl, Or.inl ⟨rfl, hno⟩, fun v hc => absurd hc (hno v), fun v _ => rfl⟩

set_option maxRecDepth 20000 in
theorem c_X5_collectEnds_la (s : Nat → Int → Int) (n : Int) (hn : 1 ≤ n ∧ n ≤ 60) (hln : ∀ v, 0 ≤ v → 0 ≤ s 32 v ∧ s 32 v ≤ 60) (hgo : ∀ v, 0 ≤ v → v < n - 1 → s 35 v = 0 ∨ s 35 v = 1) (hsl : ∀ v, 0 ≤ v → v < n - 1 → -1 ≤ s 28 v ∧ s 28 v ≤ 60) (hz : s 109 0 = 0 ∧ s 110 0 = 0) : ab_Mt yX5_collectEnds cX5_collectEnds 5 none ({ frames := 0, cells := 0, slots := 0, locals := 0 } : Room) false 0 0 [.inr (some 31), .inr (some 25), .inl n] (WW s) (fun r h2 => r = none ∧ ∃ en, h2 = WW (ab_s (ab_s (ab_s s 36 en) 109 (fun _ => Sm (ei (s 28) (s 32) (s 35)) 0 (n - 1))) 110 (fun _ => Sm (es (s 28) (s 32) (s 35)) 0 (n - 1))) ∧ ENp (s 28) (s 32) (s 35) en (n - 1)) := by
  refine ab_mk RX5 false rfl pn_X5_collectEnds (fun z => by cases z) (Nat.le_of_ble_eq_true rfl) (fun V hV => ?_)
  show V 0 [some (.inr (some 31)), some (.inr (some 25)), some (.inl n), none, none] [] (WW s) 0 0
  refine rb_iconst hV dX5_collectEnds_0 ?_
  refine rb_istore_n hV (L2 := [some (.inr (some 31)), some (.inr (some 25)), some (.inl n), some (.inl 0), none]) dX5_collectEnds_1 rfl (Nat.le_of_ble_eq_true rfl) rfl ?_
  refine rb_heq (b := (ab_s (ab_s (ab_s s 36 (s 36)) 109 (s 109)) 110 (s 110))) ((ab_s_id rfl).trans ((ab_s_id rfl).trans (ab_s_id rfl))).symm ?_
  have h2 : ∀ (n2 : Nat) (w : Int) (en : Int → Int) (am : Int) (str : Int), (0 ≤ w ∧ w ≤ n - 1) → (ENp (s 28) (s 32) (s 35) en w) → (am = Sm (ei (s 28) (s 32) (s 35)) 0 w ∧ str = Sm (es (s 28) (s 32) (s 35)) 0 w) → ((n - 1 - w).toNat) < n2 → V 2 [some (.inr (some 31)), some (.inr (some 25)), some (.inl n), some (.inl w), none] [] (WW (ab_s (ab_s (ab_s s 36 en) 109 (fun _ => am)) 110 (fun _ => str))) 0 0 := by
    intro n2
    induction n2 with
    | zero => intro w en am str h1 h2 h3 hm; omega
    | succ n2 ih2 =>
      intro w en am str h1 h2 h3 hm
      refine rb_iload_n hV dX5_collectEnds_2 rfl rfl ?_
      refine rb_iload_n hV dX5_collectEnds_3 rfl rfl ?_
      refine rb_iconst hV dX5_collectEnds_4 ?_
      refine rb_isub hV dX5_collectEnds_5 ?_
      refine rb_icmp_ge hV (tgt := 93) dX5_collectEnds_6 (by decide) ⟨(by first | assumption | (unfold ab_r at *; omega)), (by first | assumption | (unfold ab_r at *; omega))⟩ (fun c6 => ?_) (fun c6 => ?_)
      · refine rb_ret hV (r := none) dX5_collectEnds_93 rfl ⟨(Nat.le_of_ble_eq_true rfl), (Nat.le_of_ble_eq_true rfl)⟩ trivial ?_
        have e : w = n - 1 := by omega
        subst e
        exact ⟨rfl, en, by rw [← h3.1, ← h3.2], h2⟩
      · have ml := hln w (by omega)
        have mg := hgo w (by omega) (by omega)
        have ms := hsl w (by omega) (by omega)
        have hei := Sei_b (s 28) (s 32) (s 35) h1.1
        refine rb_aload_n hV dX5_collectEnds_9 rfl rfl ?_
        refine rb_get hV (v := .inr (some 32)) dX5_collectEnds_10 ⟨RX5, TX5, 8, rfl, (Nat.le_of_ble_eq_true rfl), lf_X5_21⟩ (gw_31 _) rfl ?_
        refine rb_iload_n hV dX5_collectEnds_13 rfl rfl ?_
        refine rb_iald hV (f := (s 32)) dX5_collectEnds_14 (gw_32 _) (Nat.le_of_ble_eq_true rfl) (by omega) ?_
        refine rb_iconst hV dX5_collectEnds_15 ?_
        refine rb_icmp_lt hV (tgt := 32) dX5_collectEnds_16 (by decide) ⟨(by first | assumption | (unfold ab_r at *; omega)), (by first | assumption | (unfold ab_r at *; omega))⟩ (fun c16 => ?_) (fun c16 => ?_)
        · refine rb_iconst hV dX5_collectEnds_32 ?_
          refine rb_istore hV (L2 := [some (.inr (some 31)), some (.inr (some 25)), some (.inl n), some (.inl w), some (.inl 0)]) dX5_collectEnds_33 (Nat.le_of_ble_eq_true rfl) rfl ?_
          refine rb_iload hV dX5_collectEnds_35 rfl ?_
          refine rb_if_eq hV (tgt := 87) dX5_collectEnds_37 (by decide) (by first | assumption | (unfold ab_r at *; omega)) (fun _ => ?_) (fun z => absurd z (by decide))
          have hE : ¬ (¬ s 28 w = -1 ∧ 3 ≤ s 32 w ∧ s 35 w = 0) := by omega
          refine rb_iinc hV (L2 := [some (.inr (some 31)), some (.inr (some 25)), some (.inl n), some (.inl (w + 1)), some (.inl 0)]) dX5_collectEnds_87 rfl rfl rfl ?_
          refine rb_goto hV (tgt := 2) dX5_collectEnds_90 (by decide) ?_
          refine rb_weak hV (L2 := [some (.inr (some 31)), some (.inr (some 25)), some (.inl n), some (.inl (w + 1)), none]) ⟨rfl, ⟨rfl, ⟨rfl, ⟨rfl, trivial⟩⟩⟩⟩ ?_
          refine ih2 (w + 1) (en) am str ?_ ?_ ?_ ?_
          · omega
          · exact ENp_skip h2 (if_neg hE)
          · rw [Sm_succ _ h1.1, Sm_succ _ h1.1, h3.1, h3.2, show ei (s 28) (s 32) (s 35) w = 0 from if_neg hE, show es (s 28) (s 32) (s 35) w = 0 from if_neg hE]; omega
          · omega
        · refine rb_aload_n hV dX5_collectEnds_19 rfl rfl ?_
          refine rb_get hV (v := .inr (some 35)) dX5_collectEnds_20 ⟨RX5, TX5, 8, rfl, (Nat.le_of_ble_eq_true rfl), lf_X5_31⟩ (gw_31 _) rfl ?_
          refine rb_iload_n hV dX5_collectEnds_23 rfl rfl ?_
          refine rb_zald hV (f := (s 35)) dX5_collectEnds_24 (gw_35 _) (Nat.le_of_ble_eq_true rfl) (by omega) ?_
          refine rb_if_ne hV (tgt := 32) dX5_collectEnds_25 (by decide) (by first | assumption | (unfold ab_r at *; omega)) (fun c25 => ?_) (fun c25 => ?_)
          · refine rb_iconst hV dX5_collectEnds_32 ?_
            refine rb_istore hV (L2 := [some (.inr (some 31)), some (.inr (some 25)), some (.inl n), some (.inl w), some (.inl 0)]) dX5_collectEnds_33 (Nat.le_of_ble_eq_true rfl) rfl ?_
            refine rb_iload hV dX5_collectEnds_35 rfl ?_
            refine rb_if_eq hV (tgt := 87) dX5_collectEnds_37 (by decide) (by first | assumption | (unfold ab_r at *; omega)) (fun _ => ?_) (fun z => absurd z (by decide))
            have hE : ¬ (¬ s 28 w = -1 ∧ 3 ≤ s 32 w ∧ s 35 w = 0) := by omega
            refine rb_iinc hV (L2 := [some (.inr (some 31)), some (.inr (some 25)), some (.inl n), some (.inl (w + 1)), some (.inl 0)]) dX5_collectEnds_87 rfl rfl rfl ?_
            refine rb_goto hV (tgt := 2) dX5_collectEnds_90 (by decide) ?_
            refine rb_weak hV (L2 := [some (.inr (some 31)), some (.inr (some 25)), some (.inl n), some (.inl (w + 1)), none]) ⟨rfl, ⟨rfl, ⟨rfl, ⟨rfl, trivial⟩⟩⟩⟩ ?_
            refine ih2 (w + 1) (en) am str ?_ ?_ ?_ ?_
            · omega
            · exact ENp_skip h2 (if_neg hE)
            · rw [Sm_succ _ h1.1, Sm_succ _ h1.1, h3.1, h3.2, show ei (s 28) (s 32) (s 35) w = 0 from if_neg hE, show es (s 28) (s 32) (s 35) w = 0 from if_neg hE]; omega
            · omega
          · refine rb_iconst hV dX5_collectEnds_28 ?_
            refine rb_goto hV (tgt := 33) dX5_collectEnds_29 (by decide) ?_
            refine rb_istore hV (L2 := [some (.inr (some 31)), some (.inr (some 25)), some (.inl n), some (.inl w), some (.inl 1)]) dX5_collectEnds_33 (Nat.le_of_ble_eq_true rfl) rfl ?_
            refine rb_iload hV dX5_collectEnds_35 rfl ?_
            refine rb_if_eq hV (tgt := 87) dX5_collectEnds_37 (by decide) (by first | assumption | (unfold ab_r at *; omega)) (fun z => absurd z (by decide)) (fun _ => ?_)
            refine rb_aload_n hV dX5_collectEnds_40 rfl rfl ?_
            refine rb_get hV (v := .inr (some 28)) dX5_collectEnds_41 ⟨RX1, TX1, 12, rfl, (Nat.le_of_ble_eq_true rfl), lf_X5_54⟩ (gw_25 _) rfl ?_
            refine rb_iload_n hV dX5_collectEnds_44 rfl rfl ?_
            refine rb_iald hV (f := (s 28)) dX5_collectEnds_45 (gw_28 _) (Nat.le_of_ble_eq_true rfl) (by omega) ?_
            refine rb_iconst hV dX5_collectEnds_46 ?_
            refine rb_icmp_eq hV (tgt := 87) dX5_collectEnds_47 (by decide) ⟨(by first | assumption | (unfold ab_r at *; omega)), (by first | assumption | (unfold ab_r at *; omega))⟩ (fun c47 => ?_) (fun c47 => ?_)
            · have hE : ¬ (¬ s 28 w = -1 ∧ 3 ≤ s 32 w ∧ s 35 w = 0) := by omega
              refine rb_iinc hV (L2 := [some (.inr (some 31)), some (.inr (some 25)), some (.inl n), some (.inl (w + 1)), some (.inl 1)]) dX5_collectEnds_87 rfl rfl rfl ?_
              refine rb_goto hV (tgt := 2) dX5_collectEnds_90 (by decide) ?_
              refine rb_weak hV (L2 := [some (.inr (some 31)), some (.inr (some 25)), some (.inl n), some (.inl (w + 1)), none]) ⟨rfl, ⟨rfl, ⟨rfl, ⟨rfl, trivial⟩⟩⟩⟩ ?_
              refine ih2 (w + 1) (en) am str ?_ ?_ ?_ ?_
              · omega
              · exact ENp_skip h2 (if_neg hE)
              · rw [Sm_succ _ h1.1, Sm_succ _ h1.1, h3.1, h3.2, show ei (s 28) (s 32) (s 35) w = 0 from if_neg hE, show es (s 28) (s 32) (s 35) w = 0 from if_neg hE]; omega
              · omega
            · have hE : ¬ s 28 w = -1 ∧ 3 ≤ s 32 w ∧ s 35 w = 0 := by omega
              refine rb_aload_n hV dX5_collectEnds_50 rfl rfl ?_
              refine rb_get hV (v := .inr (some 36)) dX5_collectEnds_51 ⟨RX5, TX5, 8, rfl, (Nat.le_of_ble_eq_true rfl), lf_X5_35⟩ (gw_31 _) rfl ?_
              refine rb_aload_n hV dX5_collectEnds_54 rfl rfl ?_
              refine rb_get hV (v := .inl am) dX5_collectEnds_55 ⟨RX5, TX5, 8, rfl, (Nat.le_of_ble_eq_true rfl), lf_X5_9⟩ (gw_31 _) rfl ?_
              refine rb_iload_n hV dX5_collectEnds_58 rfl rfl ?_
              refine rb_iast hV (f := (en)) dX5_collectEnds_59 (gw_36 _) (Nat.le_of_ble_eq_true rfl) (by omega) rfl ((pw_36 _ _).trans (congrArg WW ((ab_s_sw (by decide)).trans (congrArg (fun x => ab_s x 110 _) ((ab_s_sw (by decide)).trans (congrArg (fun x => ab_s x 109 _) (ab_s_same _ 36 _ _))))))) ?_
              refine rb_aload_n hV dX5_collectEnds_60 rfl rfl ?_
              refine rb_dup hV dX5_collectEnds_61 ?_
              refine rb_get hV (v := .inl am) dX5_collectEnds_62 ⟨RX5, TX5, 8, rfl, (Nat.le_of_ble_eq_true rfl), lf_X5_9⟩ (gw_31 _) rfl ?_
              refine rb_iconst hV dX5_collectEnds_65 ?_
              refine rb_iadd hV dX5_collectEnds_66 ?_
              refine rb_put hV (C := RX5) (T := TX5) (N := 8) (ci := 5) (j := 0) dX5_collectEnds_67 rfl (Nat.le_of_ble_eq_true rfl) lf_X5_9 rfl (gw_31 _) (Nat.le_of_ble_eq_true rfl) (ft_X5_0 _) ((pw_31_0 _ _).trans (congrArg WW ((ab_s_sw (by decide)).trans (congrArg (fun x => ab_s x 110 _) (ab_s_same _ 109 _ _))))) ?_
              refine rb_aload_n hV dX5_collectEnds_70 rfl rfl ?_
              refine rb_dup hV dX5_collectEnds_71 ?_
              refine rb_get hV (v := .inl str) dX5_collectEnds_72 ⟨RX5, TX5, 8, rfl, (Nat.le_of_ble_eq_true rfl), lf_X5_15⟩ (gw_31 _) rfl ?_
              refine rb_aload_n hV dX5_collectEnds_75 rfl rfl ?_
              refine rb_get hV (v := .inr (some 32)) dX5_collectEnds_76 ⟨RX5, TX5, 8, rfl, (Nat.le_of_ble_eq_true rfl), lf_X5_21⟩ (gw_31 _) rfl ?_
              refine rb_iload_n hV dX5_collectEnds_79 rfl rfl ?_
              refine rb_iald hV (f := (s 32)) dX5_collectEnds_80 (gw_32 _) (Nat.le_of_ble_eq_true rfl) (by omega) ?_
              refine rb_iconst hV dX5_collectEnds_81 ?_
              refine rb_isub hV dX5_collectEnds_82 ?_
              refine rb_iadd hV dX5_collectEnds_83 ?_
              refine rb_put hV (C := RX5) (T := TX5) (N := 8) (ci := 5) (j := 1) dX5_collectEnds_84 rfl (Nat.le_of_ble_eq_true rfl) lf_X5_15 rfl (gw_31 _) (Nat.le_of_ble_eq_true rfl) (ft_X5_1 _) ((pw_31_1 _ _).trans (congrArg WW (ab_s_same _ 110 _ _))) ?_
              refine rb_iinc hV (L2 := [some (.inr (some 31)), some (.inr (some 25)), some (.inl n), some (.inl (w + 1)), some (.inl 1)]) dX5_collectEnds_87 rfl rfl rfl ?_
              refine rb_goto hV (tgt := 2) dX5_collectEnds_90 (by decide) ?_
              refine rb_weak hV (L2 := [some (.inr (some 31)), some (.inr (some 25)), some (.inl n), some (.inl (w + 1)), none]) ⟨rfl, ⟨rfl, ⟨rfl, ⟨rfl, trivial⟩⟩⟩⟩ ?_
              refine ih2 (w + 1) (ab_u (en) am w) (am + 1) (str + ((s 32 w) - 2)) ?_ ?_ ?_ ?_
              · omega
              · rw [h3.1]; exact ENp_take h1.1 h2 (if_pos hE)
              · rw [Sm_succ _ h1.1, Sm_succ _ h1.1, h3.1, h3.2, show ei (s 28) (s 32) (s 35) w = 1 from if_pos hE, show es (s 28) (s 32) (s 35) w = _ from if_pos hE]; exact ⟨rfl, rfl⟩
              · omega
  refine h2 _ 0 (s 36) ((s 109) 0) ((s 110) 0) ?_ ?_ ?_ (Nat.lt_succ_self _)
  · omega
  · intro v q1 q2; omega
  · rw [Sm_self, Sm_self]; exact hz

set_option maxRecDepth 20000 in
theorem c_X5_spaceAbove_tr (s : Nat → Int → Int) (w t : Int) (hw : 0 ≤ w ∧ w < 60) (hlo : ∀ v, 0 ≤ v → v ≤ w → 0 ≤ s 39 v ∧ s 39 v ≤ 60) (hmo : ∀ u v, 0 ≤ u → u ≤ v → v ≤ w → s 39 u ≤ s 39 v) (hsl : ∀ v, 0 ≤ v → v ≤ w → s 40 v = s 39 v ∨ s 40 v = -1) (hmid : ∀ v, 0 ≤ v → v ≤ w → -200000 ≤ s 45 v ∧ s 45 v ≤ 200000) (hln : ∀ v, 0 ≤ s 44 v ∧ s 44 v ≤ 60) (ht : 0 ≤ t ∧ t ≤ 40) : ab_Mt yX5_spaceAbove cX5_spaceAbove 9 (some .int) ({ frames := 1, cells := 0, slots := 0, locals := 21 } : Room) false 0 0 [.inr (some 43), .inr (some 37), .inl w, .inl t] (WW s) (fun r h2 => ∃ ab g, r = some (.inl ab) ∧ h2 = WW (ab_s s 47 g) ∧ AB (s 39) (s 40) (s 45) (s 44) t w ab ∧ (∀ v, cnd (s 39) (s 40) (s 45) t w v → g v = 1) ∧ ∀ v, ¬ cnd (s 39) (s 40) (s 45) t w v → g v = s 47 v) := by
  refine ab_mk RX5 false rfl pn_X5_spaceAbove (fun z => by cases z) (Nat.le_of_ble_eq_true rfl) (fun V hV => ?_)
  show V 0 [some (.inr (some 43)), some (.inr (some 37)), some (.inl w), some (.inl t), none, none, none, none, none] [] (WW s) 0 0
  have ml0 := hlo w (by omega) (by omega)
  refine rb_aload_n hV dX5_spaceAbove_0 rfl rfl ?_
  refine rb_get hV (v := .inr (some 39)) dX5_spaceAbove_1 ⟨RX1, TX1, 12, rfl, (Nat.le_of_ble_eq_true rfl), lf_X5_71⟩ (gw_37 _) rfl ?_
  refine rb_iload_n hV dX5_spaceAbove_4 rfl rfl ?_
  refine rb_callS hV (rest := []) dX5_spaceAbove_5 (c_X9_at s 39 _ (s 39) w (gw_39 _) (Nat.le_of_ble_eq_true rfl) (by omega)) lk_X5_38 rfl rfl ⟨rfl, rfl, (Nat.le_of_ble_eq_true rfl), (Nat.le_of_ble_eq_true rfl), (Nat.le_of_ble_eq_true rfl), (Nat.le_of_ble_eq_true rfl)⟩ (Nat.le_of_ble_eq_true rfl) (fun r9 h9 p9 => ?_)
  obtain ⟨rfl, rfl⟩ := p9
  show V 8 [some (.inr (some 43)), some (.inr (some 37)), some (.inl w), some (.inl t), none, none, none, none, none] [.inl (s 39 w)] (WW s) 0 0
  refine rb_iconst hV dX5_spaceAbove_8 ?_
  refine rb_isub hV dX5_spaceAbove_9 ?_
  refine rb_istore hV (L2 := [some (.inr (some 43)), some (.inr (some 37)), some (.inl w), some (.inl t), some (.inl ((s 39 w) - 1)), none, none, none, none]) dX5_spaceAbove_10 (Nat.le_of_ble_eq_true rfl) rfl ?_
  refine rb_iload hV dX5_spaceAbove_12 rfl ?_
  refine rb_if_ge hV (tgt := 19) dX5_spaceAbove_14 (by decide) (by first | assumption | (unfold ab_r at *; omega)) (fun c14 => ?_) (fun c14 => ?_)
  · refine rb_aload_n hV dX5_spaceAbove_19 rfl rfl ?_
    refine rb_get hV (v := .inr (some 45)) dX5_spaceAbove_20 ⟨RX5, TX5, 8, rfl, (Nat.le_of_ble_eq_true rfl), lf_X5_25⟩ (gw_43 _) rfl ?_
    refine rb_iload_n hV dX5_spaceAbove_23 rfl rfl ?_
    refine rb_callS hV (rest := []) dX5_spaceAbove_24 (c_X9_at s 45 _ (s 45) w (gw_45 _) (Nat.le_of_ble_eq_true rfl) (by omega)) lk_X5_38 rfl rfl ⟨rfl, rfl, (Nat.le_of_ble_eq_true rfl), (Nat.le_of_ble_eq_true rfl), (Nat.le_of_ble_eq_true rfl), (Nat.le_of_ble_eq_true rfl)⟩ (Nat.le_of_ble_eq_true rfl) (fun r9 h9 p9 => ?_)
    obtain ⟨rfl, rfl⟩ := p9
    show V 27 [some (.inr (some 43)), some (.inr (some 37)), some (.inl w), some (.inl t), some (.inl ((s 39 w) - 1)), none, none, none, none] [.inl (s 45 w)] (WW s) 0 0
    refine rb_istore hV (L2 := [some (.inr (some 43)), some (.inr (some 37)), some (.inl w), some (.inl t), some (.inl ((s 39 w) - 1)), some (.inl (s 45 w)), none, none, none]) dX5_spaceAbove_27 (Nat.le_of_ble_eq_true rfl) rfl ?_
    refine rb_iconst hV dX5_spaceAbove_29 ?_
    refine rb_istore hV (L2 := [some (.inr (some 43)), some (.inr (some 37)), some (.inl w), some (.inl t), some (.inl ((s 39 w) - 1)), some (.inl (s 45 w)), some (.inl (-1)), none, none]) dX5_spaceAbove_30 (Nat.le_of_ble_eq_true rfl) rfl ?_
    refine rb_iload_n hV dX5_spaceAbove_32 rfl rfl ?_
    refine rb_bipush hV dX5_spaceAbove_33 (by decide) ?_
    refine rb_mmin hV dX5_spaceAbove_35 lk_X5_74 ⟨(by unfold ab_r; omega), (by unfold ab_r; omega)⟩ (Nat.le_of_ble_eq_true rfl) (Nat.le_of_ble_eq_true rfl) ⟨(Nat.le_of_ble_eq_true rfl), (Nat.le_of_ble_eq_true rfl)⟩ ?_
    refine rb_iconst hV dX5_spaceAbove_38 ?_
    refine rb_isub hV dX5_spaceAbove_39 ?_
    refine rb_istore hV (L2 := [some (.inr (some 43)), some (.inr (some 37)), some (.inl w), some (.inl t), some (.inl ((s 39 w) - 1)), some (.inl (s 45 w)), some (.inl (-1)), some (.inl ((min w 60) - 1)), none]) dX5_spaceAbove_40 (Nat.le_of_ble_eq_true rfl) rfl ?_
    refine rb_heq (b := (ab_s s 47 (s 47))) (ab_s_id rfl).symm ?_
    have h42 : ∀ (n42 : Nat) (a : Int) (f : Int) (g : Int → Int), (-1 ≤ a ∧ a < w) → (ABp (s 39) (s 40) (s 45) (s 44) t w a f) → ((∀ v, a < v → cnd (s 39) (s 40) (s 45) t w v → g v = 1) ∧ ∀ v, (a < v → ¬ cnd (s 39) (s 40) (s 45) t w v) → g v = s 47 v) → ((a + 1).toNat) < n42 → V 42 [some (.inr (some 43)), some (.inr (some 37)), some (.inl w), some (.inl t), some (.inl ((s 39 w) - 1)), some (.inl (s 45 w)), some (.inl f), some (.inl a), none] [] (WW (ab_s s 47 g)) 0 0 := by
      intro n42
      induction n42 with
      | zero => intro a f g h1 h2 h3 hm; omega
      | succ n42 ih42 =>
        intro a f g h1 h2 h3 hm
        refine rb_iload hV dX5_spaceAbove_42 rfl ?_
        refine rb_if_lt hV (tgt := 146) dX5_spaceAbove_44 (by decide) (by first | assumption | (unfold ab_r at *; omega)) (fun c44 => ?_) (fun c44 => ?_)
        · refine rb_iload hV dX5_spaceAbove_146 rfl ?_
          refine rb_ret hV (r := some (.inl f)) dX5_spaceAbove_148 rfl ⟨(Nat.le_of_ble_eq_true rfl), (Nat.le_of_ble_eq_true rfl)⟩ trivial ?_
          have hno : ∀ v, v ≤ a → ¬ cnd (s 39) (s 40) (s 45) t w v := fun v q hc => by have := hc.1; have := hc.2.2.1; have := hmo v a hc.1 q (by omega); omega
          exact ⟨f, g, rfl, rfl, ABp_end h2 hno, fun v hc => h3.1 v (by rcases Int.lt_or_le a v with q | q; exact q; exact absurd hc (hno v q)) hc, fun v hc => h3.2 v (fun _ => hc)⟩
        · have ml := hlo a (by omega) (by omega)
          have ms := hsl a (by omega) (by omega)
          have mm := hmid a (by omega) (by omega)
          have mw := hmid w (by omega) (by omega)
          have mn := hln a
          refine rb_aload_n hV dX5_spaceAbove_47 rfl rfl ?_
          refine rb_get hV (v := .inr (some 39)) dX5_spaceAbove_48 ⟨RX1, TX1, 12, rfl, (Nat.le_of_ble_eq_true rfl), lf_X5_71⟩ (gw_37 _) rfl ?_
          refine rb_iload hV dX5_spaceAbove_51 rfl ?_
          refine rb_iald hV (f := (s 39)) dX5_spaceAbove_53 (gw_39 _) (Nat.le_of_ble_eq_true rfl) (by omega) ?_
          refine rb_iload hV dX5_spaceAbove_54 rfl ?_
          refine rb_icmp_lt hV (tgt := 146) dX5_spaceAbove_56 (by decide) ⟨(by first | assumption | (unfold ab_r at *; omega)), (by first | assumption | (unfold ab_r at *; omega))⟩ (fun c56 => ?_) (fun c56 => ?_)
          · refine rb_iload hV dX5_spaceAbove_146 rfl ?_
            refine rb_ret hV (r := some (.inl f)) dX5_spaceAbove_148 rfl ⟨(Nat.le_of_ble_eq_true rfl), (Nat.le_of_ble_eq_true rfl)⟩ trivial ?_
            have hno : ∀ v, v ≤ a → ¬ cnd (s 39) (s 40) (s 45) t w v := fun v q hc => by have := hc.1; have := hc.2.2.1; have := hmo v a hc.1 q (by omega); omega
            exact ⟨f, g, rfl, rfl, ABp_end h2 hno, fun v hc => h3.1 v (by rcases Int.lt_or_le a v with q | q; exact q; exact absurd hc (hno v q)) hc, fun v hc => h3.2 v (fun _ => hc)⟩
          · refine rb_aload_n hV dX5_spaceAbove_59 rfl rfl ?_
            refine rb_get hV (v := .inr (some 45)) dX5_spaceAbove_60 ⟨RX5, TX5, 8, rfl, (Nat.le_of_ble_eq_true rfl), lf_X5_25⟩ (gw_43 _) rfl ?_
            refine rb_iload hV dX5_spaceAbove_63 rfl ?_
            refine rb_iald hV (f := (s 45)) dX5_spaceAbove_65 (gw_45 _) (Nat.le_of_ble_eq_true rfl) (by omega) ?_
            refine rb_iload hV dX5_spaceAbove_66 rfl ?_
            refine rb_isub hV dX5_spaceAbove_68 ?_
            refine rb_mabs hV dX5_spaceAbove_69 lk_X5_77 (by first | assumption | (unfold ab_r at *; omega)) (Nat.le_of_ble_eq_true rfl) (Nat.le_of_ble_eq_true rfl) ⟨(Nat.le_of_ble_eq_true rfl), (Nat.le_of_ble_eq_true rfl)⟩ ?_
            by_cases e69 : 0 ≤ ((s 45 a) - (s 45 w))
            · rw [if_pos e69]
              refine rb_iload_n hV dX5_spaceAbove_72 rfl rfl ?_
              refine rb_icmp_gt hV (tgt := 80) dX5_spaceAbove_73 (by decide) ⟨(by first | assumption | (unfold ab_r at *; omega)), (by first | assumption | (unfold ab_r at *; omega))⟩ (fun c73 => ?_) (fun c73 => ?_)
              · have hnc : ¬ cnd (s 39) (s 40) (s 45) t w a := fun hc => by have := hc.2.2.2.2; omega
                refine rb_iconst hV dX5_spaceAbove_80 ?_
                refine rb_istore hV (L2 := [some (.inr (some 43)), some (.inr (some 37)), some (.inl w), some (.inl t), some (.inl ((s 39 w) - 1)), some (.inl (s 45 w)), some (.inl f), some (.inl a), some (.inl 0)]) dX5_spaceAbove_81 (Nat.le_of_ble_eq_true rfl) rfl ?_
                refine rb_iload hV dX5_spaceAbove_83 rfl ?_
                refine rb_if_eq hV (tgt := 140) dX5_spaceAbove_85 (by decide) (by first | assumption | (unfold ab_r at *; omega)) (fun _ => ?_) (fun z => absurd z (by decide))
                refine rb_iinc hV (L2 := [some (.inr (some 43)), some (.inr (some 37)), some (.inl w), some (.inl t), some (.inl ((s 39 w) - 1)), some (.inl (s 45 w)), some (.inl f), some (.inl (a + (-1))), some (.inl 0)]) dX5_spaceAbove_140 rfl rfl rfl ?_
                refine rb_goto hV (tgt := 42) dX5_spaceAbove_143 (by decide) ?_
                refine rb_weak hV (L2 := [some (.inr (some 43)), some (.inr (some 37)), some (.inl w), some (.inl t), some (.inl ((s 39 w) - 1)), some (.inl (s 45 w)), some (.inl f), some (.inl (a + (-1))), none]) ⟨rfl, ⟨rfl, ⟨rfl, ⟨rfl, ⟨rfl, ⟨rfl, ⟨rfl, ⟨rfl, trivial⟩⟩⟩⟩⟩⟩⟩⟩ ?_
                refine ih42 (a + (-1)) f (g) ?_ ?_ ?_ ?_
                · omega
                · exact ABp_skip h2 hnc
                · exact ⟨fun v q hc => by
                    by_cases e : v = a
                    · exact absurd (e ▸ hc) hnc
                    · exact h3.1 v (by omega) hc, fun v q => h3.2 v (fun z => q (by omega))⟩
                · omega
              · refine rb_iconst hV dX5_spaceAbove_76 ?_
                refine rb_goto hV (tgt := 81) dX5_spaceAbove_77 (by decide) ?_
                refine rb_istore hV (L2 := [some (.inr (some 43)), some (.inr (some 37)), some (.inl w), some (.inl t), some (.inl ((s 39 w) - 1)), some (.inl (s 45 w)), some (.inl f), some (.inl a), some (.inl 1)]) dX5_spaceAbove_81 (Nat.le_of_ble_eq_true rfl) rfl ?_
                refine rb_iload hV dX5_spaceAbove_83 rfl ?_
                refine rb_if_eq hV (tgt := 140) dX5_spaceAbove_85 (by decide) (by first | assumption | (unfold ab_r at *; omega)) (fun z => absurd z (by decide)) (fun _ => ?_)
                refine rb_aload_n hV dX5_spaceAbove_88 rfl rfl ?_
                refine rb_get hV (v := .inr (some 40)) dX5_spaceAbove_89 ⟨RX1, TX1, 12, rfl, (Nat.le_of_ble_eq_true rfl), lf_X5_54⟩ (gw_37 _) rfl ?_
                refine rb_iload hV dX5_spaceAbove_92 rfl ?_
                refine rb_iald hV (f := (s 40)) dX5_spaceAbove_94 (gw_40 _) (Nat.le_of_ble_eq_true rfl) (by omega) ?_
                refine rb_iload hV dX5_spaceAbove_95 rfl ?_
                refine rb_icmp_eq hV (tgt := 103) dX5_spaceAbove_97 (by decide) ⟨(by first | assumption | (unfold ab_r at *; omega)), (by first | assumption | (unfold ab_r at *; omega))⟩ (fun c97 => ?_) (fun c97 => ?_)
                · have hlw := hmo a w (by omega) (by omega) (by omega)
                  have hyc : cnd (s 39) (s 40) (s 45) t w a := ⟨by omega, by omega, by omega, by omega, by omega, by omega⟩
                  have hfl : f = -1 ∨ (0 ≤ f ∧ f < w) := by rcases h2 with q | q; exact Or.inl q.1; exact Or.inr ⟨q.2.1.1, q.2.1.2.1⟩
                  have mf := hln f
                  refine rb_aload_n hV dX5_spaceAbove_103 rfl rfl ?_
                  refine rb_get hV (v := .inr (some 47)) dX5_spaceAbove_104 ⟨RX5, TX5, 8, rfl, (Nat.le_of_ble_eq_true rfl), lf_X5_31⟩ (gw_43 _) rfl ?_
                  refine rb_iload hV dX5_spaceAbove_107 rfl ?_
                  refine rb_iconst hV dX5_spaceAbove_109 ?_
                  refine rb_zast hV (f := (g)) dX5_spaceAbove_110 (gw_47 _) (Nat.le_of_ble_eq_true rfl) (by omega) (by omega) rfl ((pw_47 _ _).trans (congrArg WW (ab_s_same _ 47 _ _))) ?_
                  refine rb_iload hV dX5_spaceAbove_111 rfl ?_
                  refine rb_iconst hV dX5_spaceAbove_113 ?_
                  refine rb_icmp_eq hV (tgt := 136) dX5_spaceAbove_114 (by decide) ⟨(by first | assumption | (unfold ab_r at *; omega)), (by first | assumption | (unfold ab_r at *; omega))⟩ (fun c114 => ?_) (fun c114 => ?_)
                  · refine rb_iload hV dX5_spaceAbove_136 rfl ?_
                    refine rb_istore hV (L2 := [some (.inr (some 43)), some (.inr (some 37)), some (.inl w), some (.inl t), some (.inl ((s 39 w) - 1)), some (.inl (s 45 w)), some (.inl a), some (.inl a), some (.inl 1)]) dX5_spaceAbove_138 (Nat.le_of_ble_eq_true rfl) rfl ?_
                    refine rb_iinc hV (L2 := [some (.inr (some 43)), some (.inr (some 37)), some (.inl w), some (.inl t), some (.inl ((s 39 w) - 1)), some (.inl (s 45 w)), some (.inl a), some (.inl (a + (-1))), some (.inl 1)]) dX5_spaceAbove_140 rfl rfl rfl ?_
                    refine rb_goto hV (tgt := 42) dX5_spaceAbove_143 (by decide) ?_
                    refine rb_weak hV (L2 := [some (.inr (some 43)), some (.inr (some 37)), some (.inl w), some (.inl t), some (.inl ((s 39 w) - 1)), some (.inl (s 45 w)), some (.inl a), some (.inl (a + (-1))), none]) ⟨rfl, ⟨rfl, ⟨rfl, ⟨rfl, ⟨rfl, ⟨rfl, ⟨rfl, ⟨rfl, trivial⟩⟩⟩⟩⟩⟩⟩⟩ ?_
                    refine ih42 (a + (-1)) a (ab_u (g) a 1) ?_ ?_ ?_ ?_
                    · omega
                    · exact ABp_new h2 hyc (by omega)
                    · exact ⟨fun v q hc => by
                        by_cases e : v = a
                        · rw [e, ab_u_eq]
                        · rw [ab_u_ne e]
                          exact h3.1 v (by omega) hc, fun v q => by
                        have hva : ¬ v = a := fun e => q (by omega) (by rw [e]; exact hyc)
                        rw [ab_u_ne hva]
                        exact h3.2 v (fun z => q (by omega))⟩
                    · omega
                  · refine rb_aload_n hV dX5_spaceAbove_117 rfl rfl ?_
                    refine rb_get hV (v := .inr (some 44)) dX5_spaceAbove_118 ⟨RX5, TX5, 8, rfl, (Nat.le_of_ble_eq_true rfl), lf_X5_21⟩ (gw_43 _) rfl ?_
                    refine rb_iload hV dX5_spaceAbove_121 rfl ?_
                    refine rb_iald hV (f := (s 44)) dX5_spaceAbove_123 (gw_44 _) (Nat.le_of_ble_eq_true rfl) (by omega) ?_
                    refine rb_aload_n hV dX5_spaceAbove_124 rfl rfl ?_
                    refine rb_get hV (v := .inr (some 44)) dX5_spaceAbove_125 ⟨RX5, TX5, 8, rfl, (Nat.le_of_ble_eq_true rfl), lf_X5_21⟩ (gw_43 _) rfl ?_
                    refine rb_iload hV dX5_spaceAbove_128 rfl ?_
                    refine rb_callS hV (rest := [.inl (s 44 a)]) dX5_spaceAbove_130 (c_X9_at (ab_s s 47 (ab_u (g) a 1)) 44 _ (s 44) f (gw_44 _) (Nat.le_of_ble_eq_true rfl) (by omega)) lk_X5_38 rfl rfl ⟨rfl, rfl, (Nat.le_of_ble_eq_true rfl), (Nat.le_of_ble_eq_true rfl), (Nat.le_of_ble_eq_true rfl), (Nat.le_of_ble_eq_true rfl)⟩ (Nat.le_of_ble_eq_true rfl) (fun r9 h9 p9 => ?_)
                    obtain ⟨rfl, rfl⟩ := p9
                    show V 133 [some (.inr (some 43)), some (.inr (some 37)), some (.inl w), some (.inl t), some (.inl ((s 39 w) - 1)), some (.inl (s 45 w)), some (.inl f), some (.inl a), some (.inl 1)] [.inl (s 44 f), .inl (s 44 a)] (WW (ab_s s 47 (ab_u (g) a 1))) 0 0
                    refine rb_icmp_lt hV (tgt := 140) dX5_spaceAbove_133 (by decide) ⟨(by first | assumption | (unfold ab_r at *; omega)), (by first | assumption | (unfold ab_r at *; omega))⟩ (fun c133 => ?_) (fun c133 => ?_)
                    · refine rb_iinc hV (L2 := [some (.inr (some 43)), some (.inr (some 37)), some (.inl w), some (.inl t), some (.inl ((s 39 w) - 1)), some (.inl (s 45 w)), some (.inl f), some (.inl (a + (-1))), some (.inl 1)]) dX5_spaceAbove_140 rfl rfl rfl ?_
                      refine rb_goto hV (tgt := 42) dX5_spaceAbove_143 (by decide) ?_
                      refine rb_weak hV (L2 := [some (.inr (some 43)), some (.inr (some 37)), some (.inl w), some (.inl t), some (.inl ((s 39 w) - 1)), some (.inl (s 45 w)), some (.inl f), some (.inl (a + (-1))), none]) ⟨rfl, ⟨rfl, ⟨rfl, ⟨rfl, ⟨rfl, ⟨rfl, ⟨rfl, ⟨rfl, trivial⟩⟩⟩⟩⟩⟩⟩⟩ ?_
                      refine ih42 (a + (-1)) f (ab_u (g) a 1) ?_ ?_ ?_ ?_
                      · omega
                      · exact ABp_old h2 hyc (by omega) (by omega)
                      · exact ⟨fun v q hc => by
                          by_cases e : v = a
                          · rw [e, ab_u_eq]
                          · rw [ab_u_ne e]
                            exact h3.1 v (by omega) hc, fun v q => by
                          have hva : ¬ v = a := fun e => q (by omega) (by rw [e]; exact hyc)
                          rw [ab_u_ne hva]
                          exact h3.2 v (fun z => q (by omega))⟩
                      · omega
                    · refine rb_iload hV dX5_spaceAbove_136 rfl ?_
                      refine rb_istore hV (L2 := [some (.inr (some 43)), some (.inr (some 37)), some (.inl w), some (.inl t), some (.inl ((s 39 w) - 1)), some (.inl (s 45 w)), some (.inl a), some (.inl a), some (.inl 1)]) dX5_spaceAbove_138 (Nat.le_of_ble_eq_true rfl) rfl ?_
                      refine rb_iinc hV (L2 := [some (.inr (some 43)), some (.inr (some 37)), some (.inl w), some (.inl t), some (.inl ((s 39 w) - 1)), some (.inl (s 45 w)), some (.inl a), some (.inl (a + (-1))), some (.inl 1)]) dX5_spaceAbove_140 rfl rfl rfl ?_
                      refine rb_goto hV (tgt := 42) dX5_spaceAbove_143 (by decide) ?_
                      refine rb_weak hV (L2 := [some (.inr (some 43)), some (.inr (some 37)), some (.inl w), some (.inl t), some (.inl ((s 39 w) - 1)), some (.inl (s 45 w)), some (.inl a), some (.inl (a + (-1))), none]) ⟨rfl, ⟨rfl, ⟨rfl, ⟨rfl, ⟨rfl, ⟨rfl, ⟨rfl, ⟨rfl, trivial⟩⟩⟩⟩⟩⟩⟩⟩ ?_
                      refine ih42 (a + (-1)) a (ab_u (g) a 1) ?_ ?_ ?_ ?_
                      · omega
                      · exact ABp_new h2 hyc (by omega)
                      · exact ⟨fun v q hc => by
                          by_cases e : v = a
                          · rw [e, ab_u_eq]
                          · rw [ab_u_ne e]
                            exact h3.1 v (by omega) hc, fun v q => by
                          have hva : ¬ v = a := fun e => q (by omega) (by rw [e]; exact hyc)
                          rw [ab_u_ne hva]
                          exact h3.2 v (fun z => q (by omega))⟩
                      · omega
                · have hnc : ¬ cnd (s 39) (s 40) (s 45) t w a := fun hc => by have := hc.2.2.2.1; have := hc.2.2.1; omega
                  refine rb_goto hV (tgt := 140) dX5_spaceAbove_100 (by decide) ?_
                  refine rb_iinc hV (L2 := [some (.inr (some 43)), some (.inr (some 37)), some (.inl w), some (.inl t), some (.inl ((s 39 w) - 1)), some (.inl (s 45 w)), some (.inl f), some (.inl (a + (-1))), some (.inl 1)]) dX5_spaceAbove_140 rfl rfl rfl ?_
                  refine rb_goto hV (tgt := 42) dX5_spaceAbove_143 (by decide) ?_
                  refine rb_weak hV (L2 := [some (.inr (some 43)), some (.inr (some 37)), some (.inl w), some (.inl t), some (.inl ((s 39 w) - 1)), some (.inl (s 45 w)), some (.inl f), some (.inl (a + (-1))), none]) ⟨rfl, ⟨rfl, ⟨rfl, ⟨rfl, ⟨rfl, ⟨rfl, ⟨rfl, ⟨rfl, trivial⟩⟩⟩⟩⟩⟩⟩⟩ ?_
                  refine ih42 (a + (-1)) f (g) ?_ ?_ ?_ ?_
                  · omega
                  · exact ABp_skip h2 hnc
                  · exact ⟨fun v q hc => by
                      by_cases e : v = a
                      · exact absurd (e ▸ hc) hnc
                      · exact h3.1 v (by omega) hc, fun v q => h3.2 v (fun z => q (by omega))⟩
                  · omega
            · rw [if_neg e69]
              refine rb_iload_n hV dX5_spaceAbove_72 rfl rfl ?_
              refine rb_icmp_gt hV (tgt := 80) dX5_spaceAbove_73 (by decide) ⟨(by first | assumption | (unfold ab_r at *; omega)), (by first | assumption | (unfold ab_r at *; omega))⟩ (fun c73 => ?_) (fun c73 => ?_)
              · have hnc : ¬ cnd (s 39) (s 40) (s 45) t w a := fun hc => by have := hc.2.2.2.2; omega
                refine rb_iconst hV dX5_spaceAbove_80 ?_
                refine rb_istore hV (L2 := [some (.inr (some 43)), some (.inr (some 37)), some (.inl w), some (.inl t), some (.inl ((s 39 w) - 1)), some (.inl (s 45 w)), some (.inl f), some (.inl a), some (.inl 0)]) dX5_spaceAbove_81 (Nat.le_of_ble_eq_true rfl) rfl ?_
                refine rb_iload hV dX5_spaceAbove_83 rfl ?_
                refine rb_if_eq hV (tgt := 140) dX5_spaceAbove_85 (by decide) (by first | assumption | (unfold ab_r at *; omega)) (fun _ => ?_) (fun z => absurd z (by decide))
                refine rb_iinc hV (L2 := [some (.inr (some 43)), some (.inr (some 37)), some (.inl w), some (.inl t), some (.inl ((s 39 w) - 1)), some (.inl (s 45 w)), some (.inl f), some (.inl (a + (-1))), some (.inl 0)]) dX5_spaceAbove_140 rfl rfl rfl ?_
                refine rb_goto hV (tgt := 42) dX5_spaceAbove_143 (by decide) ?_
                refine rb_weak hV (L2 := [some (.inr (some 43)), some (.inr (some 37)), some (.inl w), some (.inl t), some (.inl ((s 39 w) - 1)), some (.inl (s 45 w)), some (.inl f), some (.inl (a + (-1))), none]) ⟨rfl, ⟨rfl, ⟨rfl, ⟨rfl, ⟨rfl, ⟨rfl, ⟨rfl, ⟨rfl, trivial⟩⟩⟩⟩⟩⟩⟩⟩ ?_
                refine ih42 (a + (-1)) f (g) ?_ ?_ ?_ ?_
                · omega
                · exact ABp_skip h2 hnc
                · exact ⟨fun v q hc => by
                    by_cases e : v = a
                    · exact absurd (e ▸ hc) hnc
                    · exact h3.1 v (by omega) hc, fun v q => h3.2 v (fun z => q (by omega))⟩
                · omega
              · refine rb_iconst hV dX5_spaceAbove_76 ?_
                refine rb_goto hV (tgt := 81) dX5_spaceAbove_77 (by decide) ?_
                refine rb_istore hV (L2 := [some (.inr (some 43)), some (.inr (some 37)), some (.inl w), some (.inl t), some (.inl ((s 39 w) - 1)), some (.inl (s 45 w)), some (.inl f), some (.inl a), some (.inl 1)]) dX5_spaceAbove_81 (Nat.le_of_ble_eq_true rfl) rfl ?_
                refine rb_iload hV dX5_spaceAbove_83 rfl ?_
                refine rb_if_eq hV (tgt := 140) dX5_spaceAbove_85 (by decide) (by first | assumption | (unfold ab_r at *; omega)) (fun z => absurd z (by decide)) (fun _ => ?_)
                refine rb_aload_n hV dX5_spaceAbove_88 rfl rfl ?_
                refine rb_get hV (v := .inr (some 40)) dX5_spaceAbove_89 ⟨RX1, TX1, 12, rfl, (Nat.le_of_ble_eq_true rfl), lf_X5_54⟩ (gw_37 _) rfl ?_
                refine rb_iload hV dX5_spaceAbove_92 rfl ?_
                refine rb_iald hV (f := (s 40)) dX5_spaceAbove_94 (gw_40 _) (Nat.le_of_ble_eq_true rfl) (by omega) ?_
                refine rb_iload hV dX5_spaceAbove_95 rfl ?_
                refine rb_icmp_eq hV (tgt := 103) dX5_spaceAbove_97 (by decide) ⟨(by first | assumption | (unfold ab_r at *; omega)), (by first | assumption | (unfold ab_r at *; omega))⟩ (fun c97 => ?_) (fun c97 => ?_)
                · have hlw := hmo a w (by omega) (by omega) (by omega)
                  have hyc : cnd (s 39) (s 40) (s 45) t w a := ⟨by omega, by omega, by omega, by omega, by omega, by omega⟩
                  have hfl : f = -1 ∨ (0 ≤ f ∧ f < w) := by rcases h2 with q | q; exact Or.inl q.1; exact Or.inr ⟨q.2.1.1, q.2.1.2.1⟩
                  have mf := hln f
                  refine rb_aload_n hV dX5_spaceAbove_103 rfl rfl ?_
                  refine rb_get hV (v := .inr (some 47)) dX5_spaceAbove_104 ⟨RX5, TX5, 8, rfl, (Nat.le_of_ble_eq_true rfl), lf_X5_31⟩ (gw_43 _) rfl ?_
                  refine rb_iload hV dX5_spaceAbove_107 rfl ?_
                  refine rb_iconst hV dX5_spaceAbove_109 ?_
                  refine rb_zast hV (f := (g)) dX5_spaceAbove_110 (gw_47 _) (Nat.le_of_ble_eq_true rfl) (by omega) (by omega) rfl ((pw_47 _ _).trans (congrArg WW (ab_s_same _ 47 _ _))) ?_
                  refine rb_iload hV dX5_spaceAbove_111 rfl ?_
                  refine rb_iconst hV dX5_spaceAbove_113 ?_
                  refine rb_icmp_eq hV (tgt := 136) dX5_spaceAbove_114 (by decide) ⟨(by first | assumption | (unfold ab_r at *; omega)), (by first | assumption | (unfold ab_r at *; omega))⟩ (fun c114 => ?_) (fun c114 => ?_)
                  · refine rb_iload hV dX5_spaceAbove_136 rfl ?_
                    refine rb_istore hV (L2 := [some (.inr (some 43)), some (.inr (some 37)), some (.inl w), some (.inl t), some (.inl ((s 39 w) - 1)), some (.inl (s 45 w)), some (.inl a), some (.inl a), some (.inl 1)]) dX5_spaceAbove_138 (Nat.le_of_ble_eq_true rfl) rfl ?_
                    refine rb_iinc hV (L2 := [some (.inr (some 43)), some (.inr (some 37)), some (.inl w), some (.inl t), some (.inl ((s 39 w) - 1)), some (.inl (s 45 w)), some (.inl a), some (.inl (a + (-1))), some (.inl 1)]) dX5_spaceAbove_140 rfl rfl rfl ?_
                    refine rb_goto hV (tgt := 42) dX5_spaceAbove_143 (by decide) ?_
                    refine rb_weak hV (L2 := [some (.inr (some 43)), some (.inr (some 37)), some (.inl w), some (.inl t), some (.inl ((s 39 w) - 1)), some (.inl (s 45 w)), some (.inl a), some (.inl (a + (-1))), none]) ⟨rfl, ⟨rfl, ⟨rfl, ⟨rfl, ⟨rfl, ⟨rfl, ⟨rfl, ⟨rfl, trivial⟩⟩⟩⟩⟩⟩⟩⟩ ?_
                    refine ih42 (a + (-1)) a (ab_u (g) a 1) ?_ ?_ ?_ ?_
                    · omega
                    · exact ABp_new h2 hyc (by omega)
                    · exact ⟨fun v q hc => by
                        by_cases e : v = a
                        · rw [e, ab_u_eq]
                        · rw [ab_u_ne e]
                          exact h3.1 v (by omega) hc, fun v q => by
                        have hva : ¬ v = a := fun e => q (by omega) (by rw [e]; exact hyc)
                        rw [ab_u_ne hva]
                        exact h3.2 v (fun z => q (by omega))⟩
                    · omega
                  · refine rb_aload_n hV dX5_spaceAbove_117 rfl rfl ?_
                    refine rb_get hV (v := .inr (some 44)) dX5_spaceAbove_118 ⟨RX5, TX5, 8, rfl, (Nat.le_of_ble_eq_true rfl), lf_X5_21⟩ (gw_43 _) rfl ?_
                    refine rb_iload hV dX5_spaceAbove_121 rfl ?_
                    refine rb_iald hV (f := (s 44)) dX5_spaceAbove_123 (gw_44 _) (Nat.le_of_ble_eq_true rfl) (by omega) ?_
                    refine rb_aload_n hV dX5_spaceAbove_124 rfl rfl ?_
                    refine rb_get hV (v := .inr (some 44)) dX5_spaceAbove_125 ⟨RX5, TX5, 8, rfl, (Nat.le_of_ble_eq_true rfl), lf_X5_21⟩ (gw_43 _) rfl ?_
                    refine rb_iload hV dX5_spaceAbove_128 rfl ?_
                    refine rb_callS hV (rest := [.inl (s 44 a)]) dX5_spaceAbove_130 (c_X9_at (ab_s s 47 (ab_u (g) a 1)) 44 _ (s 44) f (gw_44 _) (Nat.le_of_ble_eq_true rfl) (by omega)) lk_X5_38 rfl rfl ⟨rfl, rfl, (Nat.le_of_ble_eq_true rfl), (Nat.le_of_ble_eq_true rfl), (Nat.le_of_ble_eq_true rfl), (Nat.le_of_ble_eq_true rfl)⟩ (Nat.le_of_ble_eq_true rfl) (fun r9 h9 p9 => ?_)
                    obtain ⟨rfl, rfl⟩ := p9
                    show V 133 [some (.inr (some 43)), some (.inr (some 37)), some (.inl w), some (.inl t), some (.inl ((s 39 w) - 1)), some (.inl (s 45 w)), some (.inl f), some (.inl a), some (.inl 1)] [.inl (s 44 f), .inl (s 44 a)] (WW (ab_s s 47 (ab_u (g) a 1))) 0 0
                    refine rb_icmp_lt hV (tgt := 140) dX5_spaceAbove_133 (by decide) ⟨(by first | assumption | (unfold ab_r at *; omega)), (by first | assumption | (unfold ab_r at *; omega))⟩ (fun c133 => ?_) (fun c133 => ?_)
                    · refine rb_iinc hV (L2 := [some (.inr (some 43)), some (.inr (some 37)), some (.inl w), some (.inl t), some (.inl ((s 39 w) - 1)), some (.inl (s 45 w)), some (.inl f), some (.inl (a + (-1))), some (.inl 1)]) dX5_spaceAbove_140 rfl rfl rfl ?_
                      refine rb_goto hV (tgt := 42) dX5_spaceAbove_143 (by decide) ?_
                      refine rb_weak hV (L2 := [some (.inr (some 43)), some (.inr (some 37)), some (.inl w), some (.inl t), some (.inl ((s 39 w) - 1)), some (.inl (s 45 w)), some (.inl f), some (.inl (a + (-1))), none]) ⟨rfl, ⟨rfl, ⟨rfl, ⟨rfl, ⟨rfl, ⟨rfl, ⟨rfl, ⟨rfl, trivial⟩⟩⟩⟩⟩⟩⟩⟩ ?_
                      refine ih42 (a + (-1)) f (ab_u (g) a 1) ?_ ?_ ?_ ?_
                      · omega
                      · exact ABp_old h2 hyc (by omega) (by omega)
                      · exact ⟨fun v q hc => by
                          by_cases e : v = a
                          · rw [e, ab_u_eq]
                          · rw [ab_u_ne e]
                            exact h3.1 v (by omega) hc, fun v q => by
                          have hva : ¬ v = a := fun e => q (by omega) (by rw [e]; exact hyc)
                          rw [ab_u_ne hva]
                          exact h3.2 v (fun z => q (by omega))⟩
                      · omega
                    · refine rb_iload hV dX5_spaceAbove_136 rfl ?_
                      refine rb_istore hV (L2 := [some (.inr (some 43)), some (.inr (some 37)), some (.inl w), some (.inl t), some (.inl ((s 39 w) - 1)), some (.inl (s 45 w)), some (.inl a), some (.inl a), some (.inl 1)]) dX5_spaceAbove_138 (Nat.le_of_ble_eq_true rfl) rfl ?_
                      refine rb_iinc hV (L2 := [some (.inr (some 43)), some (.inr (some 37)), some (.inl w), some (.inl t), some (.inl ((s 39 w) - 1)), some (.inl (s 45 w)), some (.inl a), some (.inl (a + (-1))), some (.inl 1)]) dX5_spaceAbove_140 rfl rfl rfl ?_
                      refine rb_goto hV (tgt := 42) dX5_spaceAbove_143 (by decide) ?_
                      refine rb_weak hV (L2 := [some (.inr (some 43)), some (.inr (some 37)), some (.inl w), some (.inl t), some (.inl ((s 39 w) - 1)), some (.inl (s 45 w)), some (.inl a), some (.inl (a + (-1))), none]) ⟨rfl, ⟨rfl, ⟨rfl, ⟨rfl, ⟨rfl, ⟨rfl, ⟨rfl, ⟨rfl, trivial⟩⟩⟩⟩⟩⟩⟩⟩ ?_
                      refine ih42 (a + (-1)) a (ab_u (g) a 1) ?_ ?_ ?_ ?_
                      · omega
                      · exact ABp_new h2 hyc (by omega)
                      · exact ⟨fun v q hc => by
                          by_cases e : v = a
                          · rw [e, ab_u_eq]
                          · rw [ab_u_ne e]
                            exact h3.1 v (by omega) hc, fun v q => by
                          have hva : ¬ v = a := fun e => q (by omega) (by rw [e]; exact hyc)
                          rw [ab_u_ne hva]
                          exact h3.2 v (fun z => q (by omega))⟩
                      · omega
                · have hnc : ¬ cnd (s 39) (s 40) (s 45) t w a := fun hc => by have := hc.2.2.2.1; have := hc.2.2.1; omega
                  refine rb_goto hV (tgt := 140) dX5_spaceAbove_100 (by decide) ?_
                  refine rb_iinc hV (L2 := [some (.inr (some 43)), some (.inr (some 37)), some (.inl w), some (.inl t), some (.inl ((s 39 w) - 1)), some (.inl (s 45 w)), some (.inl f), some (.inl (a + (-1))), some (.inl 1)]) dX5_spaceAbove_140 rfl rfl rfl ?_
                  refine rb_goto hV (tgt := 42) dX5_spaceAbove_143 (by decide) ?_
                  refine rb_weak hV (L2 := [some (.inr (some 43)), some (.inr (some 37)), some (.inl w), some (.inl t), some (.inl ((s 39 w) - 1)), some (.inl (s 45 w)), some (.inl f), some (.inl (a + (-1))), none]) ⟨rfl, ⟨rfl, ⟨rfl, ⟨rfl, ⟨rfl, ⟨rfl, ⟨rfl, ⟨rfl, trivial⟩⟩⟩⟩⟩⟩⟩⟩ ?_
                  refine ih42 (a + (-1)) f (g) ?_ ?_ ?_ ?_
                  · omega
                  · exact ABp_skip h2 hnc
                  · exact ⟨fun v q hc => by
                      by_cases e : v = a
                      · exact absurd (e ▸ hc) hnc
                      · exact h3.1 v (by omega) hc, fun v q => h3.2 v (fun z => q (by omega))⟩
                  · omega
    refine h42 _ ((min w 60) - 1) (-1) (s 47) ?_ ?_ ?_ (Nat.lt_succ_self _)
    · omega
    · rw [show min w 60 - 1 = w - 1 by omega]; exact ABp_0
    · exact ⟨fun v q hc => by have := hc.2.1; omega, fun v _ => rfl⟩
  · refine rb_iconst hV dX5_spaceAbove_17 ?_
    refine rb_ret hV (r := some (.inl (-1))) dX5_spaceAbove_18 rfl ⟨(Nat.le_of_ble_eq_true rfl), (Nat.le_of_ble_eq_true rfl)⟩ trivial ?_
    have hno : ∀ v, ¬ cnd (s 39) (s 40) (s 45) t w v := fun v hc => by have := hc.2.2.1; have := hlo v hc.1 (by have := hc.2.1; omega); omega
    exact ⟨-1, s 47, rfl, (ab_s_id rfl).symm ▸ rfl, Or.inl ⟨rfl, hno⟩, fun v hc => absurd hc (hno v), fun v _ => rfl⟩

set_option maxRecDepth 20000 in
theorem c_X5_collectEnds_tr (s : Nat → Int → Int) (n : Int) (hn : 1 ≤ n ∧ n ≤ 60) (hln : ∀ v, 0 ≤ v → 0 ≤ s 44 v ∧ s 44 v ≤ 60) (hgo : ∀ v, 0 ≤ v → v < n - 1 → s 47 v = 0 ∨ s 47 v = 1) (hsl : ∀ v, 0 ≤ v → v < n - 1 → -1 ≤ s 40 v ∧ s 40 v ≤ 60) (hz : s 114 0 = 0 ∧ s 115 0 = 0) : ab_Mt yX5_collectEnds cX5_collectEnds 5 none ({ frames := 0, cells := 0, slots := 0, locals := 0 } : Room) false 0 0 [.inr (some 43), .inr (some 37), .inl n] (WW s) (fun r h2 => r = none ∧ ∃ en, h2 = WW (ab_s (ab_s (ab_s s 48 en) 114 (fun _ => Sm (ei (s 40) (s 44) (s 47)) 0 (n - 1))) 115 (fun _ => Sm (es (s 40) (s 44) (s 47)) 0 (n - 1))) ∧ ENp (s 40) (s 44) (s 47) en (n - 1)) := by
  refine ab_mk RX5 false rfl pn_X5_collectEnds (fun z => by cases z) (Nat.le_of_ble_eq_true rfl) (fun V hV => ?_)
  show V 0 [some (.inr (some 43)), some (.inr (some 37)), some (.inl n), none, none] [] (WW s) 0 0
  refine rb_iconst hV dX5_collectEnds_0 ?_
  refine rb_istore_n hV (L2 := [some (.inr (some 43)), some (.inr (some 37)), some (.inl n), some (.inl 0), none]) dX5_collectEnds_1 rfl (Nat.le_of_ble_eq_true rfl) rfl ?_
  refine rb_heq (b := (ab_s (ab_s (ab_s s 48 (s 48)) 114 (s 114)) 115 (s 115))) ((ab_s_id rfl).trans ((ab_s_id rfl).trans (ab_s_id rfl))).symm ?_
  have h2 : ∀ (n2 : Nat) (w : Int) (en : Int → Int) (am : Int) (str : Int), (0 ≤ w ∧ w ≤ n - 1) → (ENp (s 40) (s 44) (s 47) en w) → (am = Sm (ei (s 40) (s 44) (s 47)) 0 w ∧ str = Sm (es (s 40) (s 44) (s 47)) 0 w) → ((n - 1 - w).toNat) < n2 → V 2 [some (.inr (some 43)), some (.inr (some 37)), some (.inl n), some (.inl w), none] [] (WW (ab_s (ab_s (ab_s s 48 en) 114 (fun _ => am)) 115 (fun _ => str))) 0 0 := by
    intro n2
    induction n2 with
    | zero => intro w en am str h1 h2 h3 hm; omega
    | succ n2 ih2 =>
      intro w en am str h1 h2 h3 hm
      refine rb_iload_n hV dX5_collectEnds_2 rfl rfl ?_
      refine rb_iload_n hV dX5_collectEnds_3 rfl rfl ?_
      refine rb_iconst hV dX5_collectEnds_4 ?_
      refine rb_isub hV dX5_collectEnds_5 ?_
      refine rb_icmp_ge hV (tgt := 93) dX5_collectEnds_6 (by decide) ⟨(by first | assumption | (unfold ab_r at *; omega)), (by first | assumption | (unfold ab_r at *; omega))⟩ (fun c6 => ?_) (fun c6 => ?_)
      · refine rb_ret hV (r := none) dX5_collectEnds_93 rfl ⟨(Nat.le_of_ble_eq_true rfl), (Nat.le_of_ble_eq_true rfl)⟩ trivial ?_
        have e : w = n - 1 := by omega
        subst e
        exact ⟨rfl, en, by rw [← h3.1, ← h3.2], h2⟩
      · have ml := hln w (by omega)
        have mg := hgo w (by omega) (by omega)
        have ms := hsl w (by omega) (by omega)
        have hei := Sei_b (s 40) (s 44) (s 47) h1.1
        refine rb_aload_n hV dX5_collectEnds_9 rfl rfl ?_
        refine rb_get hV (v := .inr (some 44)) dX5_collectEnds_10 ⟨RX5, TX5, 8, rfl, (Nat.le_of_ble_eq_true rfl), lf_X5_21⟩ (gw_43 _) rfl ?_
        refine rb_iload_n hV dX5_collectEnds_13 rfl rfl ?_
        refine rb_iald hV (f := (s 44)) dX5_collectEnds_14 (gw_44 _) (Nat.le_of_ble_eq_true rfl) (by omega) ?_
        refine rb_iconst hV dX5_collectEnds_15 ?_
        refine rb_icmp_lt hV (tgt := 32) dX5_collectEnds_16 (by decide) ⟨(by first | assumption | (unfold ab_r at *; omega)), (by first | assumption | (unfold ab_r at *; omega))⟩ (fun c16 => ?_) (fun c16 => ?_)
        · refine rb_iconst hV dX5_collectEnds_32 ?_
          refine rb_istore hV (L2 := [some (.inr (some 43)), some (.inr (some 37)), some (.inl n), some (.inl w), some (.inl 0)]) dX5_collectEnds_33 (Nat.le_of_ble_eq_true rfl) rfl ?_
          refine rb_iload hV dX5_collectEnds_35 rfl ?_
          refine rb_if_eq hV (tgt := 87) dX5_collectEnds_37 (by decide) (by first | assumption | (unfold ab_r at *; omega)) (fun _ => ?_) (fun z => absurd z (by decide))
          have hE : ¬ (¬ s 40 w = -1 ∧ 3 ≤ s 44 w ∧ s 47 w = 0) := by omega
          refine rb_iinc hV (L2 := [some (.inr (some 43)), some (.inr (some 37)), some (.inl n), some (.inl (w + 1)), some (.inl 0)]) dX5_collectEnds_87 rfl rfl rfl ?_
          refine rb_goto hV (tgt := 2) dX5_collectEnds_90 (by decide) ?_
          refine rb_weak hV (L2 := [some (.inr (some 43)), some (.inr (some 37)), some (.inl n), some (.inl (w + 1)), none]) ⟨rfl, ⟨rfl, ⟨rfl, ⟨rfl, trivial⟩⟩⟩⟩ ?_
          refine ih2 (w + 1) (en) am str ?_ ?_ ?_ ?_
          · omega
          · exact ENp_skip h2 (if_neg hE)
          · rw [Sm_succ _ h1.1, Sm_succ _ h1.1, h3.1, h3.2, show ei (s 40) (s 44) (s 47) w = 0 from if_neg hE, show es (s 40) (s 44) (s 47) w = 0 from if_neg hE]; omega
          · omega
        · refine rb_aload_n hV dX5_collectEnds_19 rfl rfl ?_
          refine rb_get hV (v := .inr (some 47)) dX5_collectEnds_20 ⟨RX5, TX5, 8, rfl, (Nat.le_of_ble_eq_true rfl), lf_X5_31⟩ (gw_43 _) rfl ?_
          refine rb_iload_n hV dX5_collectEnds_23 rfl rfl ?_
          refine rb_zald hV (f := (s 47)) dX5_collectEnds_24 (gw_47 _) (Nat.le_of_ble_eq_true rfl) (by omega) ?_
          refine rb_if_ne hV (tgt := 32) dX5_collectEnds_25 (by decide) (by first | assumption | (unfold ab_r at *; omega)) (fun c25 => ?_) (fun c25 => ?_)
          · refine rb_iconst hV dX5_collectEnds_32 ?_
            refine rb_istore hV (L2 := [some (.inr (some 43)), some (.inr (some 37)), some (.inl n), some (.inl w), some (.inl 0)]) dX5_collectEnds_33 (Nat.le_of_ble_eq_true rfl) rfl ?_
            refine rb_iload hV dX5_collectEnds_35 rfl ?_
            refine rb_if_eq hV (tgt := 87) dX5_collectEnds_37 (by decide) (by first | assumption | (unfold ab_r at *; omega)) (fun _ => ?_) (fun z => absurd z (by decide))
            have hE : ¬ (¬ s 40 w = -1 ∧ 3 ≤ s 44 w ∧ s 47 w = 0) := by omega
            refine rb_iinc hV (L2 := [some (.inr (some 43)), some (.inr (some 37)), some (.inl n), some (.inl (w + 1)), some (.inl 0)]) dX5_collectEnds_87 rfl rfl rfl ?_
            refine rb_goto hV (tgt := 2) dX5_collectEnds_90 (by decide) ?_
            refine rb_weak hV (L2 := [some (.inr (some 43)), some (.inr (some 37)), some (.inl n), some (.inl (w + 1)), none]) ⟨rfl, ⟨rfl, ⟨rfl, ⟨rfl, trivial⟩⟩⟩⟩ ?_
            refine ih2 (w + 1) (en) am str ?_ ?_ ?_ ?_
            · omega
            · exact ENp_skip h2 (if_neg hE)
            · rw [Sm_succ _ h1.1, Sm_succ _ h1.1, h3.1, h3.2, show ei (s 40) (s 44) (s 47) w = 0 from if_neg hE, show es (s 40) (s 44) (s 47) w = 0 from if_neg hE]; omega
            · omega
          · refine rb_iconst hV dX5_collectEnds_28 ?_
            refine rb_goto hV (tgt := 33) dX5_collectEnds_29 (by decide) ?_
            refine rb_istore hV (L2 := [some (.inr (some 43)), some (.inr (some 37)), some (.inl n), some (.inl w), some (.inl 1)]) dX5_collectEnds_33 (Nat.le_of_ble_eq_true rfl) rfl ?_
            refine rb_iload hV dX5_collectEnds_35 rfl ?_
            refine rb_if_eq hV (tgt := 87) dX5_collectEnds_37 (by decide) (by first | assumption | (unfold ab_r at *; omega)) (fun z => absurd z (by decide)) (fun _ => ?_)
            refine rb_aload_n hV dX5_collectEnds_40 rfl rfl ?_
            refine rb_get hV (v := .inr (some 40)) dX5_collectEnds_41 ⟨RX1, TX1, 12, rfl, (Nat.le_of_ble_eq_true rfl), lf_X5_54⟩ (gw_37 _) rfl ?_
            refine rb_iload_n hV dX5_collectEnds_44 rfl rfl ?_
            refine rb_iald hV (f := (s 40)) dX5_collectEnds_45 (gw_40 _) (Nat.le_of_ble_eq_true rfl) (by omega) ?_
            refine rb_iconst hV dX5_collectEnds_46 ?_
            refine rb_icmp_eq hV (tgt := 87) dX5_collectEnds_47 (by decide) ⟨(by first | assumption | (unfold ab_r at *; omega)), (by first | assumption | (unfold ab_r at *; omega))⟩ (fun c47 => ?_) (fun c47 => ?_)
            · have hE : ¬ (¬ s 40 w = -1 ∧ 3 ≤ s 44 w ∧ s 47 w = 0) := by omega
              refine rb_iinc hV (L2 := [some (.inr (some 43)), some (.inr (some 37)), some (.inl n), some (.inl (w + 1)), some (.inl 1)]) dX5_collectEnds_87 rfl rfl rfl ?_
              refine rb_goto hV (tgt := 2) dX5_collectEnds_90 (by decide) ?_
              refine rb_weak hV (L2 := [some (.inr (some 43)), some (.inr (some 37)), some (.inl n), some (.inl (w + 1)), none]) ⟨rfl, ⟨rfl, ⟨rfl, ⟨rfl, trivial⟩⟩⟩⟩ ?_
              refine ih2 (w + 1) (en) am str ?_ ?_ ?_ ?_
              · omega
              · exact ENp_skip h2 (if_neg hE)
              · rw [Sm_succ _ h1.1, Sm_succ _ h1.1, h3.1, h3.2, show ei (s 40) (s 44) (s 47) w = 0 from if_neg hE, show es (s 40) (s 44) (s 47) w = 0 from if_neg hE]; omega
              · omega
            · have hE : ¬ s 40 w = -1 ∧ 3 ≤ s 44 w ∧ s 47 w = 0 := by omega
              refine rb_aload_n hV dX5_collectEnds_50 rfl rfl ?_
              refine rb_get hV (v := .inr (some 48)) dX5_collectEnds_51 ⟨RX5, TX5, 8, rfl, (Nat.le_of_ble_eq_true rfl), lf_X5_35⟩ (gw_43 _) rfl ?_
              refine rb_aload_n hV dX5_collectEnds_54 rfl rfl ?_
              refine rb_get hV (v := .inl am) dX5_collectEnds_55 ⟨RX5, TX5, 8, rfl, (Nat.le_of_ble_eq_true rfl), lf_X5_9⟩ (gw_43 _) rfl ?_
              refine rb_iload_n hV dX5_collectEnds_58 rfl rfl ?_
              refine rb_iast hV (f := (en)) dX5_collectEnds_59 (gw_48 _) (Nat.le_of_ble_eq_true rfl) (by omega) rfl ((pw_48 _ _).trans (congrArg WW ((ab_s_sw (by decide)).trans (congrArg (fun x => ab_s x 115 _) ((ab_s_sw (by decide)).trans (congrArg (fun x => ab_s x 114 _) (ab_s_same _ 48 _ _))))))) ?_
              refine rb_aload_n hV dX5_collectEnds_60 rfl rfl ?_
              refine rb_dup hV dX5_collectEnds_61 ?_
              refine rb_get hV (v := .inl am) dX5_collectEnds_62 ⟨RX5, TX5, 8, rfl, (Nat.le_of_ble_eq_true rfl), lf_X5_9⟩ (gw_43 _) rfl ?_
              refine rb_iconst hV dX5_collectEnds_65 ?_
              refine rb_iadd hV dX5_collectEnds_66 ?_
              refine rb_put hV (C := RX5) (T := TX5) (N := 8) (ci := 5) (j := 0) dX5_collectEnds_67 rfl (Nat.le_of_ble_eq_true rfl) lf_X5_9 rfl (gw_43 _) (Nat.le_of_ble_eq_true rfl) (ft_X5_0 _) ((pw_43_0 _ _).trans (congrArg WW ((ab_s_sw (by decide)).trans (congrArg (fun x => ab_s x 115 _) (ab_s_same _ 114 _ _))))) ?_
              refine rb_aload_n hV dX5_collectEnds_70 rfl rfl ?_
              refine rb_dup hV dX5_collectEnds_71 ?_
              refine rb_get hV (v := .inl str) dX5_collectEnds_72 ⟨RX5, TX5, 8, rfl, (Nat.le_of_ble_eq_true rfl), lf_X5_15⟩ (gw_43 _) rfl ?_
              refine rb_aload_n hV dX5_collectEnds_75 rfl rfl ?_
              refine rb_get hV (v := .inr (some 44)) dX5_collectEnds_76 ⟨RX5, TX5, 8, rfl, (Nat.le_of_ble_eq_true rfl), lf_X5_21⟩ (gw_43 _) rfl ?_
              refine rb_iload_n hV dX5_collectEnds_79 rfl rfl ?_
              refine rb_iald hV (f := (s 44)) dX5_collectEnds_80 (gw_44 _) (Nat.le_of_ble_eq_true rfl) (by omega) ?_
              refine rb_iconst hV dX5_collectEnds_81 ?_
              refine rb_isub hV dX5_collectEnds_82 ?_
              refine rb_iadd hV dX5_collectEnds_83 ?_
              refine rb_put hV (C := RX5) (T := TX5) (N := 8) (ci := 5) (j := 1) dX5_collectEnds_84 rfl (Nat.le_of_ble_eq_true rfl) lf_X5_15 rfl (gw_43 _) (Nat.le_of_ble_eq_true rfl) (ft_X5_1 _) ((pw_43_1 _ _).trans (congrArg WW (ab_s_same _ 115 _ _))) ?_
              refine rb_iinc hV (L2 := [some (.inr (some 43)), some (.inr (some 37)), some (.inl n), some (.inl (w + 1)), some (.inl 1)]) dX5_collectEnds_87 rfl rfl rfl ?_
              refine rb_goto hV (tgt := 2) dX5_collectEnds_90 (by decide) ?_
              refine rb_weak hV (L2 := [some (.inr (some 43)), some (.inr (some 37)), some (.inl n), some (.inl (w + 1)), none]) ⟨rfl, ⟨rfl, ⟨rfl, ⟨rfl, trivial⟩⟩⟩⟩ ?_
              refine ih2 (w + 1) (ab_u (en) am w) (am + 1) (str + ((s 44 w) - 2)) ?_ ?_ ?_ ?_
              · omega
              · rw [h3.1]; exact ENp_take h1.1 h2 (if_pos hE)
              · rw [Sm_succ _ h1.1, Sm_succ _ h1.1, h3.1, h3.2, show ei (s 40) (s 44) (s 47) w = 1 from if_pos hE, show es (s 40) (s 44) (s 47) w = _ from if_pos hE]; exact ⟨rfl, rfl⟩
              · omega
  refine h2 _ 0 (s 48) ((s 114) 0) ((s 115) 0) ?_ ?_ ?_ (Nat.lt_succ_self _)
  · omega
  · intro v q1 q2; omega
  · rw [Sm_self, Sm_self]; exact hz
