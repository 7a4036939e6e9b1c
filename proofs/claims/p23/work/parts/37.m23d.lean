/-! p23 MATHEMATICS 4: what the readers say of a line, a word, a space -/
theorem LN_line {s : Nat → Int → Int} (hx : XI s) {l A B : Int} (h0 : 0 ≤ l) (h1 : l < s 107 0) (hA : A = s 26 l) (hB : B = s 26 (l + 1) - 1) :
    (0 ≤ A ∧ A ≤ B ∧ B < s 103 0) ∧ ps (vX s) A B = true ∧ xline s l 0 = A ∧ xline s l 1 = B ∧ xline s l 2 = nt (vX s) A B ∧ xline s l 3 = df (vX s) A B ∧ xline s l 4 = bd (vX s) A B ∧ xline s l 5 = dm (vX s) A B ∧ xline s l 6 = hL (vX s) A ∧ xline s l 7 = hR (vX s) B ∧ xline s l 8 = lnW (vX s) A B (B + 1) ∧ xline s l 9 = -1002 ∧ xspace s l (B - A) 0 = -1001 := by
  subst hA hB
  obtain ⟨hp, hr, hbw, hv, hst, hz, hx1, hx2, hx3, hx4⟩ := id hx
  have q := hv.2.1 l h0 h1
  have e0 : vX s 0 0 = s 103 0 := rfl
  have hin : ¬ ¬ (0 ≤ l ∧ l < s 107 0) := fun z => z ⟨h0, h1⟩
  have g : ∀ k, xline s l k = if k = 0 then s 26 l else if k = 1 then s 26 (l + 1) - 1 else if k = 2 then nt (vX s) (s 26 l) (s 26 (l + 1) - 1) else if k = 3 then s 100 0 - nt (vX s) (s 26 l) (s 26 (l + 1) - 1) else if k = 4 then xb (vX s) (s 26 l) (s 26 (l + 1) - 1) else if k = 5 then xd (vX s) (s 26 l) (s 26 (l + 1) - 1)
    else if k = 6 then s 16 (s 26 l) else if k = 7 then s 17 (s 26 (l + 1) - 1) else if k = 8 then s 29 (s 26 (l + 1) - 1) + s 6 (s 26 (l + 1) - 1) - s 29 (s 26 l) - s 16 (s 26 l) - s 17 (s 26 (l + 1) - 1) else -1002 := fun k => if_neg hin
  have hL1 : s 16 (s 26 l) = hL (vX s) (s 26 l) := (hr.2 (s 26 l) (by omega) (by omega)).1
  have hR1 : s 17 (s 26 (l + 1) - 1) = hR (vX s) (s 26 (l + 1) - 1) := (hr.2 (s 26 (l + 1) - 1) (by omega) (by omega)).2
  have bA := (hst.2.1 l h0 h1 (s 26 l) (Int.le_refl _) q.2.1).2.2.1
  have bB := (hst.2.1 l h0 h1 (s 26 (l + 1) - 1) (by omega) (by omega)).2.2.1
  rw [bgF_0] at bA
  have hw := ln_bg (vX s) (a := s 26 l) (b := s 26 (l + 1) - 1) (w := s 26 (l + 1) - 1) (Int.le_refl _)
  have hw2 := (ln_b (vX s) (a := s 26 l) (b := s 26 (l + 1) - 1) (by omega)).2.1
  have e6 : vX s 1 (s 26 (l + 1) - 1) = s 6 (s 26 (l + 1) - 1) := rfl
  refine ⟨by omega, q.2.2.2, g 0, g 1, g 2, g 3, ?_, ?_, ?_, ?_, ?_, g 9, ?_⟩
  · rw [← ps_xb q.2.2.2]
    exact g 4
  · rw [← ps_xd q.2.2.2]
    exact g 5
  · rw [← hL1]
    exact g 6
  · rw [← hR1]
    exact g 7
  · refine (g 8).trans ?_
    show s 29 (s 26 (l + 1) - 1) + s 6 (s 26 (l + 1) - 1) - s 29 (s 26 l) - s 16 (s 26 l) - s 17 (s 26 (l + 1) - 1) = _
    omega
  · unfold xspace
    rw [if_neg hin, if_pos (by omega)]
theorem LN_word {s : Nat → Int → Int} (hx : XI s) {l A B : Int} (h0 : 0 ≤ l) (h1 : l < s 107 0) (hA : A = s 26 l) (hB : B = s 26 (l + 1) - 1) {w : Int} (w0 : A ≤ w) (w1 : w ≤ B) :
    xword s w 0 = vX s 1 w ∧ xword s w 1 = vX s 2 w ∧ xword s w 2 = vX s 3 w ∧ xword s w 3 = l ∧ xbegin s w = bgF (vX s) (swF (vX s) A B) A w ∧ (0 ≤ vX s 1 w ∧ vX s 1 w ≤ 600) ∧ (1 ≤ vX s 2 w ∧ vX s 2 w ≤ 120) ∧ (0 ≤ vX s 3 w ∧ vX s 3 w ≤ 2) ∧ -5 ≤ bgF (vX s) (swF (vX s) A B) A w ∧ bgF (vX s) (swF (vX s) A B) A w ≤ 38400 := by
  subst hA hB
  obtain ⟨hp, hr, hbw, hv, hst, hz, hx1, hx2, hx3, hx4⟩ := id hx
  have q := hv.2.1 l h0 h1
  have e0 : vX s 0 0 = s 103 0 := rfl
  have hin : ¬ ¬ (0 ≤ w ∧ w < s 103 0) := fun z => z ⟨by omega, by omega⟩
  have g : ∀ k, xword s w k = if k = 0 then s 6 w else if k = 1 then s 7 w else if k = 2 then s 8 w else if k = 3 then (if s 107 0 = 0 then -1004 else s 27 w) else -1002 := fun k => if_neg hin
  have z := hst.2.1 l h0 h1 w w0 (by omega)
  have p := hp.2.1 w (by omega) (by omega)
  have b := bgF_b hp q.1 (b := s 26 (l + 1) - 1) (by omega) w0 w1
  refine ⟨g 0, g 1, g 2, ?_, ?_, p.1, p.2.1, p.2.2.1, b⟩
  · refine (g 3).trans ?_
    show (if s 107 0 = 0 then -1004 else s 27 w) = l
    rw [if_neg (by omega), z.1]
  · unfold xbegin
    rw [if_neg hin, if_neg (by omega), z.2.2.1]
theorem LN_space {s : Nat → Int → Int} (hx : XI s) {l A B : Int} (h0 : 0 ≤ l) (h1 : l < s 107 0) (hA : A = s 26 l) (hB : B = s 26 (l + 1) - 1) {w : Int} (w0 : A ≤ w) (w1 : w < B) :
    (xspace s l (w - A) 0 = swF (vX s) A B w ∧ xspace s l (w - A) 1 = bgF (vX s) (swF (vX s) A B) A w + vX s 1 w ∧ xspace s l (w - A) 2 = vX s 3 w) ∧ (xspw s (vX s 3 w) 0 = vX s 9 (vX s 3 w) ∧ xspw s (vX s 3 w) 1 = vX s 10 (vX s 3 w) ∧ xspw s (vX s 3 w) 2 = vX s 11 (vX s 3 w)) ∧
    (1 ≤ vX s 9 (vX s 3 w) ∧ vX s 9 (vX s 3 w) ≤ vX s 10 (vX s 3 w) ∧ vX s 10 (vX s 3 w) ≤ vX s 11 (vX s 3 w) ∧ vX s 11 (vX s 3 w) ≤ 40) ∧ vX s 9 (vX s 3 w) ≤ swF (vX s) A B w ∧ swF (vX s) A B w ≤ vX s 11 (vX s 3 w) ∧ (0 < df (vX s) A B → vX s 10 (vX s 3 w) ≤ swF (vX s) A B w) ∧ (df (vX s) A B < 0 → swF (vX s) A B w ≤ vX s 10 (vX s 3 w)) ∧ (B = s 103 0 - 1 → 0 ≤ df (vX s) A B → swF (vX s) A B w = vX s 10 (vX s 3 w)) := by
  subst hA hB
  obtain ⟨hp, hr, hbw, hv, hst, hz, hx1, hx2, hx3, hx4⟩ := id hx
  have q := hv.2.1 l h0 h1
  have e0 : vX s 0 0 = s 103 0 := rfl
  have hin : ¬ ¬ (0 ≤ l ∧ l < s 107 0) := fun z => z ⟨h0, h1⟩
  have g : ∀ k, xspace s l (w - s 26 l) k = if k = 0 then s 30 (s 26 l + (w - s 26 l)) else if k = 1 then s 29 (s 26 l + (w - s 26 l)) + s 6 (s 26 l + (w - s 26 l)) else if k = 2 then s 8 (s 26 l + (w - s 26 l)) else if k = 3 then s 32 (s 26 l + (w - s 26 l)) else -1002 := fun k => by
    unfold xspace
    rw [if_neg hin, if_neg (by omega)]
  rw [show s 26 l + (w - s 26 l) = w by omega] at g
  have z := hst.2.1 l h0 h1 w w0 (by omega)
  have k := (hp.2.1 w (by omega) (by omega)).2.2.1
  have kk := hp.2.2.2.2.2 (vX s 3 w) k.1 k.2
  have f := (swF_f hp q.1 (show s 26 l ≤ s 26 (l + 1) - 1 by omega) (by omega) q.2.2.2).1 w w0 w1
  have hin2 : ¬ ¬ (0 ≤ vX s 3 w ∧ vX s 3 w < 3) := fun z => z ⟨by omega, by omega⟩
  have g2 : ∀ j, xspw s (vX s 3 w) j = if j = 0 then s 2 (vX s 3 w) else if j = 1 then s 3 (vX s 3 w) else if j = 2 then s 4 (vX s 3 w) else -1002 := fun j => if_neg hin2
  refine ⟨⟨(g 0).trans (z.2.2.2 w1), (g 1).trans (congrArg (fun x => x + s 6 w) z.2.2.1), g 2⟩, ⟨g2 0, g2 1, g2 2⟩, kk, f.1, f.2.1, f.2.2.1, f.2.2.2.1, f.2.2.2.2⟩
/-- a line as the rivers see it -/
theorem RV_line {s : Nat → Int → Int} (hx : XI s) {l : Int} (h0 : 0 ≤ l) (h1 : l < s 107 0) : xline s l 0 = s 26 l ∧ xline s l 1 = s 26 (l + 1) - 1 ∧ xline s l 4 = lbd (vX s) (s 26) l ∧ (0 ≤ s 26 l ∧ s 26 l < s 26 (l + 1) ∧ s 26 (l + 1) ≤ s 103 0) ∧ 0 ≤ lbd (vX s) (s 26) l ∧ lbd (vX s) (s 26) l ≤ 100 := by
  have z := LN_line hx h0 h1 rfl rfl
  have q := hx.2.2.2.1.2.1 l h0 h1
  exact ⟨z.2.2.1, z.2.2.2.1, z.2.2.2.2.2.2.1, ⟨q.1, q.2.1, q.2.2.1⟩, lbd_b hx.1 hx.2.2.2.1 h0 h1⟩
/-- a space as the rivers see it -/
theorem RV_space {s : Nat → Int → Int} (hx : XI s) {l y : Int} (h0 : 0 ≤ l) (h1 : l < s 107 0) (y0 : 0 ≤ y) (y1 : s 26 l + y < s 26 (l + 1) - 1) :
    ∃ b1 b0, xspace s l y 1 = b1 ∧ xspace s l y 0 = b0 ∧ xspace s l y 3 = s 32 (s 26 l + y) ∧ s 33 (s 26 l + y) = 2 * b1 + b0 ∧ (-100 ≤ b1 ∧ b1 ≤ 40000) ∧ (0 ≤ b0 ∧ b0 ≤ 40) ∧ s 27 (s 26 l + y) = l ∧ ¬ s 28 (s 26 l + y) = -1 ∧ (0 ≤ s 26 l + y ∧ s 26 l + y < s 103 0 - 1) ∧ 1 ≤ s 32 (s 26 l + y) ∧ s 32 (s 26 l + y) ≤ 60 := by
  obtain ⟨hp, hr, hbw, hv, hst, hz, hx1, hx2, hx3, hx4⟩ := id hx
  have q := hv.2.1 l h0 h1
  have e0 : vX s 0 0 = s 103 0 := rfl
  have w1 : s 26 l + y < s 103 0 - 1 := by omega
  have a := LN_space hx h0 h1 rfl rfl (w := s 26 l + y) (by omega) y1
  have b := LN_word hx h0 h1 rfl rfl (w := s 26 l + y) (by omega) (by omega)
  rw [show s 26 l + y - s 26 l = y by omega] at a
  have z := hst.2.1 l h0 h1 (s 26 l + y) (by omega) (by omega)
  have g3 : xspace s l y 3 = s 32 (s 26 l + y) := by
    unfold xspace
    rw [if_neg (fun z => z ⟨h0, h1⟩), if_neg (by omega)]
    rfl
  rcases hst.2.2.2 with t | ⟨t1, t2, t3, t4, t5, t6, t7, t8, t9⟩
  · omega
  · have hm : s 33 (s 26 l + y) = 2 * (s 29 (s 26 l + y) + vX s 1 (s 26 l + y)) + s 30 (s 26 l + y) := t2 (s 26 l + y) (by omega) w1
    rw [z.2.2.1, z.2.2.2 y1] at hm
    have hs : ¬ s 28 (s 26 l + y) = -1 := by
      rw [z.2.1, if_pos y1]
      omega
    have hlo : ∀ v, 0 ≤ v → v < s 103 0 - 1 → 0 ≤ s 27 v := fun v a b => ((LD_facts hp hv hst.2.1 t1).1 v a (by omega)).1
    have hln := LNp_rng t3 hlo (s 26 l + y) (by omega) w1 hs
    exact ⟨_, _, a.1.2.1, a.1.1, g3, hm, by omega, by omega, z.1, hs, by omega, hln.1, (t6 _).2⟩
