/-! MATHEMATICS 9: what stands in a layout is told by its breaks -/
theorem GLp_uniq {sl ln sl2 ln2 : Int → Int} {w g g2 : Int} (hs : ∀ v, 0 ≤ v → v < w → (sl v = -1 ↔ sl2 v = -1)) (hl : ∀ v, 0 ≤ v → v < w → ¬ sl v = -1 → ln v = ln2 v) (h : GLp sl ln w g) (h2 : GLp sl2 ln2 w g2) : g = g2 := by
  obtain ⟨a1, a2, a3⟩ := h
  obtain ⟨b1, b2, b3⟩ := h2
  have x : g ≤ g2 := by
    rcases a3 with z | ⟨v, q1, q2, q3, q4⟩
    · omega
    · have e := hl v q1 q2 q3
      have := b2 v q1 q2 (fun z => q3 ((hs v q1 q2).mpr z))
      omega
  have y : g2 ≤ g := by
    rcases b3 with z | ⟨v, q1, q2, q3, q4⟩
    · omega
    · have q5 : ¬ sl v = -1 := fun z => q3 ((hs v q1 q2).mp z)
      have e := hl v q1 q2 q5
      have := a2 v q1 q2 q5
      omega
  omega
theorem LNp_uniq {lo sl mid ln ab lo2 sl2 mid2 ln2 ab2 : Int → Int} {t w : Int} (hj : ∀ j, 0 ≤ j → j < w → lo j = lo2 j ∧ (sl j = -1 ↔ sl2 j = -1) ∧ (¬ sl j = -1 → mid j = mid2 j)) (h : LNp lo sl mid ln ab t w) (h2 : LNp lo2 sl2 mid2 ln2 ab2 t w) :
    ∀ v, 0 ≤ v → v < w → ¬ sl v = -1 → ab v = ab2 v ∧ ln v = ln2 v := by
  have key : ∀ (k : Nat) (v : Int), v < k → 0 ≤ v → v < w → ¬ sl v = -1 → ab v = ab2 v ∧ ln v = ln2 v := by
    intro k
    induction k with
    | zero => intro v h1 h2; omega
    | succ k ih =>
      intro v q0 q1 q2 q3
      obtain ⟨a1, a2⟩ := h v q1 q2 q3
      obtain ⟨b1, b2⟩ := h2 v q1 q2 (fun z => q3 ((hj v q1 q2).2.1.mpr z))
      have a3 := AB_congr q1 (fun j z1 z2 => hj j z1 (by omega)) (fun j z1 z2 z3 => (ih j (by omega) z1 (by omega) z3).2) q3 a1
      have e := AB_uniq a3 b1
      refine ⟨e, ?_⟩
      rw [a2, b2, ← e]
      rcases AB_lt a1 with q | ⟨c1, c2, c3, c4⟩
      · rw [if_pos q, if_pos q]
      · rw [if_neg (by omega), if_neg (by omega), (ih (ab v) (by omega) c1 (by omega) c4).2]
  exact fun v h1 h2 h3 => key (v + 1).toNat v (by omega) h1 h2 h3
theorem GOp_uniq {lo sl mid gn lo2 sl2 mid2 gn2 : Int → Int} {t w : Int} (hj : ∀ j, 0 ≤ j → j < w → lo j = lo2 j ∧ (sl j = -1 ↔ sl2 j = -1) ∧ (¬ sl j = -1 → mid j = mid2 j)) (h : GOp lo sl mid gn t w) (h2 : GOp lo2 sl2 mid2 gn2 t w) :
    ∀ v, 0 ≤ v → v < w → gn v = gn2 v := by
  intro v q1 q2
  obtain ⟨a1, a2⟩ := h v q1 q2
  obtain ⟨b1, b2⟩ := h2 v q1 q2
  have x : gn v = 1 → gn2 v = 1 := fun z => by
    obtain ⟨u, z1, z2, z3⟩ := a2.mp z
    have z4 := z3.2.1
    exact b2.mpr ⟨u, z1, fun y => z2 ((hj u (by omega) z1).2.1.mpr y), cnd_congr (fun j y1 y2 => hj j y1 (by omega)) z2 z3⟩
  have y : gn2 v = 1 → gn v = 1 := fun z => by
    obtain ⟨u, z1, z2, z3⟩ := b2.mp z
    have z4 := z3.2.1
    have z5 : ¬ sl u = -1 := fun y => z2 ((hj u (by omega) z1).2.1.mp y)
    refine a2.mpr ⟨u, z1, z5, cnd_congr (fun j y1 y2 => ?_) z2 z3⟩
    have o := hj j y1 (by omega)
    exact ⟨o.1.symm, o.2.1.symm, fun q => (o.2.2 (fun q2 => q (o.2.1.mp q2))).symm⟩
  rcases a1 with a | a <;> rcases b1 with b | b
  · rw [a, b]
  · have := y b
    omega
  · have := x a
    omega
  · rw [a, b]
/-- what two layouts with the same breaks have in common -/
def SAME (n nl : Int) (lo sl be sw mid gn abv ln lo2 sl2 be2 sw2 mid2 gn2 abv2 ln2 : Int → Int) : Prop :=
  ¬ nl = 0 → (∀ w, 0 ≤ w → w < n → lo w = lo2 w ∧ sl w = sl2 w ∧ be w = be2 w) ∧ ∀ w, 0 ≤ w → w < n - 1 → gn w = gn2 w ∧ (¬ sl w = -1 → sw w = sw2 w ∧ mid w = mid2 w ∧ abv w = abv2 w ∧ ln w = ln2 w)
theorem ST_uniq {d : Nat → Int → Int} {fw fw2 : Int → Int} {nl dem am str gl dem2 am2 str2 gl2 : Int} {sw lo sl be mid gn abv ln en sw2 lo2 sl2 be2 mid2 gn2 abv2 ln2 en2 : Int → Int} (hv : LV d fw nl) (hf : ∀ i, 0 ≤ i → i ≤ nl → fw i = fw2 i)
    (h : ST d fw nl dem am str gl sw lo sl be mid gn abv ln en) (h2 : ST d fw2 nl dem2 am2 str2 gl2 sw2 lo2 sl2 be2 mid2 gn2 abv2 ln2 en2) :
    dem = dem2 ∧ am = am2 ∧ str = str2 ∧ gl = gl2 ∧ SAME (d 0 0) nl lo sl be sw mid gn abv ln lo2 sl2 be2 sw2 mid2 gn2 abv2 ln2 := by
  obtain ⟨a1, a2, -, a4⟩ := h
  obtain ⟨b1, b2, -, b4⟩ := h2
  have hd : dem = dem2 := by
    rw [a1, b1]
    refine Sm_congr fun j q1 q2 => ?_
    unfold ldm
    rw [hf j q1 (by omega), hf (j + 1) (by omega) (by omega)]
  refine ⟨hd, ?_⟩
  rcases a4 with a4 | ⟨a5, a6, a7, a8, a9, -, a11, a12, a13⟩
  · rcases b4 with b4 | b4
    · refine ⟨by omega, by omega, by omega, fun z => absurd a4.1 z⟩
    · exact absurd a4.1 b4.1
  · rcases b4 with b4 | ⟨b5, b6, b7, b8, b9, -, b11, b12, b13⟩
    · exact absurd b4.1 a5
    · have hw : ∀ w, 0 ≤ w → w < d 0 0 → (lo w = lo2 w ∧ sl w = sl2 w ∧ be w = be2 w) ∧ (¬ sl w = -1 → sw w = sw2 w) := by
        intro w q1 q2
        obtain ⟨i, i0, i1, i2, i3⟩ := LV_line hv a5 q1 q2
        have e1 := hf i i0 (by omega)
        have e2 := hf (i + 1) (by omega) (by omega)
        obtain ⟨x1, x2, x3, x4⟩ := a2 i i0 i1 w i2 i3
        obtain ⟨y1, y2, y3, y4⟩ := b2 i i0 i1 w (by omega) (by omega)
        rw [← e1, ← e2] at y3 y4
        rw [← e2] at y2
        refine ⟨⟨x1.trans y1.symm, x2.trans y2.symm, x3.trans y3.symm⟩, fun z => ?_⟩
        have z2 : w < fw (i + 1) - 1 := by
          rcases Int.lt_or_le w (fw (i + 1) - 1) with q | q
          · exact q
          · exact absurd (x2.trans (if_neg (by omega))) z
        rw [x4 z2, y4 z2]
      have hm : ∀ w, 0 ≤ w → w < d 0 0 - 1 → ¬ sl w = -1 → mid w = mid2 w := fun w q1 q2 q3 => by
        rw [a6 w q1 q2, b6 w q1 q2, (hw w q1 (by omega)).1.2.2, (hw w q1 (by omega)).2 q3]
      have hj : ∀ j, 0 ≤ j → j < d 0 0 - 1 → lo j = lo2 j ∧ (sl j = -1 ↔ sl2 j = -1) ∧ (¬ sl j = -1 → mid j = mid2 j) := fun j q1 q2 => ⟨(hw j q1 (by omega)).1.1, by rw [(hw j q1 (by omega)).1.2.1], hm j q1 q2⟩
      have hl := LNp_uniq hj a7 b7
      have hg := GOp_uniq hj a8 b8
      have he : ∀ j, 0 ≤ j → j < d 0 0 - 1 → ei sl ln gn j = ei sl2 ln2 gn2 j ∧ es sl ln gn j = es sl2 ln2 gn2 j := fun j q1 q2 => by
        unfold ei es
        rw [hg j q1 q2, ← (hw j q1 (by omega)).1.2.1]
        by_cases z : sl j = -1
        · rw [if_neg (fun q => q.1 z), if_neg (fun q => q.1 z), if_neg (fun q => q.1 z), if_neg (fun q => q.1 z)]
          exact ⟨rfl, rfl⟩
        · rw [(hl j q1 q2 z).2]
          exact ⟨rfl, rfl⟩
      refine ⟨?_, ?_, GLp_uniq (fun v q1 q2 => (hj v q1 q2).2.1) (fun v q1 q2 q3 => (hl v q1 q2 q3).2) a9 b9, fun _ => ⟨fun w q1 q2 => (hw w q1 q2).1, fun w q1 q2 => ⟨hg w q1 q2, fun z => ⟨(hw w q1 (by omega)).2 z, hm w q1 q2 z, hl w q1 q2 z⟩⟩⟩⟩
      · rw [a12, b12]
        exact Sm_congr fun j q1 q2 => (he j q1 q2).1
      · rw [a13, b13]
        exact Sm_congr fun j q1 q2 => (he j q1 q2).2
/-- bounds of the sums -/
theorem ST_b {d : Nat → Int → Int} {fw : Int → Int} {nl dem am str gl : Int} {sw lo sl be mid gn abv ln en : Int → Int} (hp : PI d) (hv : LV d fw nl) (h : ST d fw nl dem am str gl sw lo sl be mid gn abv ln en) : (0 ≤ dem ∧ dem ≤ 732000) ∧ 0 ≤ str ∧ str ≤ 3480 := by
  refine ⟨?_, ?_⟩
  · rw [h.1]
    exact Sldm_b hp hv hv.1.1 (Int.le_refl _)
  · rcases h.2.2.2 with q | ⟨a5, a6, a7, a8, a9, a10, a11, a12, a13⟩
    · omega
    · have := Sm_b60 (f := es sl ln gn) (hi := 58) (a := 0) (b := d 0 0 - 1) (by omega) (by have := hv.1; omega) (by have := hp.1; omega) (by omega) (fun j q1 q2 => by
        have := a10 j
        unfold es
        split <;> omega)
      omega
