/-! the law: the readers of both -/
/-- what stands in both layouts -/
theorem REL_ST {s : Nat → Int → Int} (hr : REL s) {dem am str gl : Int} {gn abv en : Int → Int} (hm : MSs s dem am str gl gn abv en) : s 108 0 = dem ∧ s 109 0 = am ∧ s 110 0 = str ∧ s 111 0 = gl ∧ SAME (s 103 0) (s 107 0) (s 27) (s 28) (s 29) (s 30) (s 33) (s 35) (s 34) (s 32) (s 63) (slM s) (s 60) (s 61) (mdM s) gn abv (s 62) := by
  have h1 : ST (vM s) (s 59) (s 125 0) dem am str gl (s 61) (s 63) (slM s) (s 60) (mdM s) gn abv (s 62) en := hm.1
  rw [← hr.2.2.1, ← hr.2.2.2.2.1] at h1
  exact ST_rel hr.1.2.2.2.1 hr.2.2.2.2.2 hr.1.2.2.2.2.1 h1
theorem REL_MS {s : Nat → Int → Int} (hr : REL s) : ∃ dem am str gl gn abv en, MSs s dem am str gl gn abv en := hr.2.1.2.2.2.1
theorem REL_line {s : Nat → Int → Int} (hr : REL s) {l : Int} (h0 : 0 ≤ l) (h1 : l < s 107 0) : (s 26 l = s 59 l ∧ s 26 (l + 1) = s 59 (l + 1)) ∧ (0 ≤ s 26 l ∧ s 26 l < s 26 (l + 1) ∧ s 26 (l + 1) ≤ s 103 0) ∧ ps (vX s) (s 26 l) (s 26 (l + 1) - 1) = true := by
  have hf := hr.2.2.2.2.2 (by omega)
  have q := hr.1.2.2.2.1.2.1 l h0 h1
  exact ⟨⟨hf l h0 (by omega), hf (l + 1) (by omega) (by omega)⟩, ⟨q.1, q.2.1, q.2.2.1⟩, q.2.2.2⟩
theorem REL_word {s : Nat → Int → Int} (hr : REL s) (w k : Int) : xword s w k = yword s w k := by
  obtain ⟨⟨e0, e1, e2, e3, e4, e5⟩, -⟩ := V_of hr.2.2.1
  have el := hr.2.2.2.2.1
  obtain ⟨dem, am, str, gl, gn, abv, en, hm⟩ := REL_MS hr
  have hS := (REL_ST hr hm).2.2.2.2
  unfold xword yword
  rw [e0, e1, e2, e3, el]
  by_cases q : 0 ≤ w ∧ w < s 120 0
  · by_cases z : s 125 0 = 0
    · rw [if_pos z, if_pos z]
    · have h := (hS (by omega)).1 w q.1 (by omega)
      rw [if_neg z, if_neg z, h.1]
  · rw [if_pos q, if_pos q]
theorem REL_begin {s : Nat → Int → Int} (hr : REL s) (w : Int) : xbegin s w = ybegin s w := by
  obtain ⟨⟨e0, -⟩, -⟩ := V_of hr.2.2.1
  have el := hr.2.2.2.2.1
  obtain ⟨dem, am, str, gl, gn, abv, en, hm⟩ := REL_MS hr
  have hS := (REL_ST hr hm).2.2.2.2
  unfold xbegin ybegin
  rw [e0, el]
  by_cases q : 0 ≤ w ∧ w < s 120 0
  · by_cases z : s 125 0 = 0
    · rw [if_pos z, if_pos z]
    · have h := (hS (by omega)).1 w q.1 (by omega)
      rw [if_neg z, if_neg z, h.2.2]
  · rw [if_pos q, if_pos q]
theorem REL_spw {s : Nat → Int → Int} (hr : REL s) (k w : Int) : xspw s k w = yspw s k w := by
  obtain ⟨-, -, e9, e10, e11⟩ := V_of hr.2.2.1
  unfold xspw yspw
  rw [e9, e10, e11]
  by_cases q : 0 ≤ k ∧ k < 3
  · rw [if_neg (fun z => z q), if_neg (show ¬ ¬ (0 ≤ k ∧ k ≤ 2) by omega)]
    by_cases a0 : w = 0
    · subst a0
      rw [if_pos rfl, if_pos (by decide), Int.add_zero]
    · rw [if_neg a0]
      by_cases a1 : w = 1
      · subst a1
        rw [if_pos rfl, if_pos (by decide)]
      · rw [if_neg a1]
        by_cases a2 : w = 2
        · subst a2
          rw [if_pos rfl, if_pos (by decide)]
        · rw [if_neg a2, if_neg (show ¬ (0 ≤ w ∧ w ≤ 2) by omega)]
  · rw [if_pos q, if_pos (show ¬ (0 ≤ k ∧ k ≤ 2) by omega)]
theorem REL_lines {s : Nat → Int → Int} (hr : REL s) (l k : Int) : xline s l k = yline s l k := by
  obtain ⟨⟨e0, e1, e2, e3, e4, e5⟩, ⟨e6, e7, e8⟩, -⟩ := V_of hr.2.2.1
  have el := hr.2.2.2.2.1
  obtain ⟨dem, am, str, gl, gn, abv, en, hm⟩ := REL_MS hr
  have hS := (REL_ST hr hm).2.2.2.2
  by_cases q : 0 ≤ l ∧ l < s 107 0
  · obtain ⟨⟨f1, f2⟩, ⟨g1, g2, g3⟩, g4⟩ := REL_line hr q.1 q.2
    have hx := hr.1
    have hru := hx.2.1.2
    have a6 : s 16 (s 26 l) = hL (vX s) (s 26 l) := (hru (s 26 l) g1 (by omega)).1
    have a7 : s 17 (s 26 (l + 1) - 1) = hR (vX s) (s 26 (l + 1) - 1) := (hru (s 26 (l + 1) - 1) (by omega) (by omega)).2
    have a8 : s 29 (s 26 l) = - hL (vX s) (s 26 l) := by
      rw [(hx.2.2.2.2.1.2.1 l q.1 q.2 (s 26 l) (Int.le_refl _) g2).2.2.1, bgF_0]
    have a9 : s 29 (s 26 (l + 1) - 1) = s 60 (s 26 (l + 1) - 1) := ((hS (by omega)).1 (s 26 (l + 1) - 1) (by omega) (by omega)).2.2
    have b4 : xb (vX s) (s 26 l) (s 26 (l + 1) - 1) = bd (vX s) (s 26 l) (s 26 (l + 1) - 1) := ps_xb g4
    have b5 : xd (vX s) (s 26 l) (s 26 (l + 1) - 1) = dm (vX s) (s 26 l) (s 26 (l + 1) - 1) := ps_xd g4
    have b3 : s 100 0 - nt (vX s) (s 26 l) (s 26 (l + 1) - 1) = df (vX s) (s 26 l) (s 26 (l + 1) - 1) := rfl
    unfold xline yline
    rw [if_neg (fun z => z q), if_neg (show ¬ ¬ (0 ≤ l ∧ l < s 125 0) by omega), ← hr.2.2.1, ← f1, ← f2, b3, b4, b5, a6, a7, a8, a9, e1]
    by_cases z : k = 8
    · subst z
      rw [if_neg (by decide), if_neg (by decide), if_neg (by decide), if_neg (by decide), if_neg (by decide), if_neg (by decide), if_neg (by decide), if_neg (by decide), if_pos rfl, if_neg (by decide), if_neg (by decide), if_neg (by decide), if_neg (by decide), if_neg (by decide), if_neg (by decide), if_neg (by decide), if_neg (by decide), if_pos rfl]
      omega
    · rw [if_neg z, if_neg z]
  · unfold xline yline
    rw [if_pos q, if_pos (by omega)]
theorem REL_space {s : Nat → Int → Int} (hr : REL s) (l p k : Int) : xspace s l p k = yspace s l p k := by
  obtain ⟨⟨e0, e1, e2, e3, e4, e5⟩, -⟩ := V_of hr.2.2.1
  have el := hr.2.2.2.2.1
  obtain ⟨dem, am, str, gl, gn, abv, en, hm⟩ := REL_MS hr
  have hS := (REL_ST hr hm).2.2.2.2
  by_cases q : 0 ≤ l ∧ l < s 107 0
  · obtain ⟨⟨f1, f2⟩, ⟨g1, g2, g3⟩, g4⟩ := REL_line hr q.1 q.2
    by_cases q2 : p < 0 ∨ s 26 (l + 1) - 1 - s 26 l ≤ p
    · unfold xspace yspace
      rw [if_neg (fun z => z q), if_neg (show ¬ ¬ (0 ≤ l ∧ l < s 125 0) by omega), if_pos q2, ← f1, ← f2, if_pos (by omega)]
    · have hx := hr.1
      have hLD := hx.2.2.2.2.1.2.1 l q.1 q.2 (s 26 l + p) (by omega) (by omega)
      have hsl : ¬ s 28 (s 26 l + p) = -1 := by
        rw [hLD.2.1, if_pos (by omega)]
        omega
      have h := (hS (by omega)).1 (s 26 l + p) (by omega) (by omega)
      have h2 := ((hS (by omega)).2 (s 26 l + p) (by omega) (by omega)).2 hsl
      unfold xspace yspace
      rw [if_neg (fun z => z q), if_neg (show ¬ ¬ (0 ≤ l ∧ l < s 125 0) by omega), if_neg q2, ← f1, ← f2, if_neg (show ¬ ¬ (0 ≤ p ∧ p ≤ s 26 (l + 1) - 1 - s 26 l - 1) by omega), h2.1, h.2.2, h2.2.2.2, e1, e3]
  · unfold xspace yspace
    rw [if_pos q, if_pos (by omega)]
theorem REL_second {s : Nat → Int → Int} (hr : REL s) (l k : Int) : xsecond s l k = ysecond s l k := by
  have el := hr.2.2.2.2.1
  by_cases q : 0 ≤ l ∧ l < s 107 0
  · have es := REL_sec hr q.1 q.2
    obtain ⟨⟨f1, f2⟩, ⟨g1, g2, g3⟩, g4⟩ := REL_line hr q.1 q.2
    have hf := hr.2.2.2.2.2 (by omega)
    have b1 := BW_X hr.1
    have b2 := BW_M hr.2.1 hr.2.2.1
    unfold xsecond ysecond
    rw [if_neg (fun z => z q), if_neg (show ¬ ¬ (0 ≤ l ∧ l < s 125 0) by omega), ← hr.2.2.1, ← es]
    by_cases q2 : k < 0 ∨ 1 < k
    · rw [if_pos q2, if_pos (by omega)]
    · rw [if_neg q2, if_neg (show ¬ ¬ (0 ≤ k ∧ k ≤ 1) by omega)]
      by_cases q3 : sec (vX s) (s 19) (s 26) l = -1
      · rw [if_pos q3, if_pos (by omega)]
      · have ho := sec_ok q3
        have e0 : vX s 0 0 = s 103 0 := rfl
        rw [if_neg q3, if_neg (show ¬ sec (vX s) (s 19) (s 26) l < 0 by omega)]
        have e1 : Sm (ldm (vX s) (s 26)) 0 l = Sm (ldm (vX s) (s 59)) 0 l := Sm_congr fun j j0 j1 => by
          unfold ldm
          rw [hf j j0 (by omega), hf (j + 1) (by omega) (by omega)]
        have e2 : cd (vX s) (s 19) (s 26 l) (sec (vX s) (s 19) (s 26) l) = dm (vX s) (s 26 l) (sec (vX s) (s 19) (s 26) l) + s 19 (sec (vX s) (s 19) (s 26) l + 1) := if_pos ⟨ho.2.2.2, ho.2.2.1⟩
        have e3 : s 19 (sec (vX s) (s 19) (s 26) l + 1) = s 57 (sec (vX s) (s 19) (s 26) l + 1) := BW_bs b1 b2 _ (by omega) (by omega)
        have e4 : SDm (vX s) (s 57) (s 59) l = Sm (ldm (vX s) (s 26)) 0 l + cd (vX s) (s 19) (s 26 l) (sec (vX s) (s 19) (s 26) l) := by
          unfold SDm
          rw [e1, e2, e3, ← es, f1]
          omega
        rw [e4]
  · unfold xsecond ysecond
    rw [if_pos q, if_pos (by omega)]
theorem REL_count {s : Nat → Int → Int} (hr : REL s) {w v : Int} (h : YCT s w v) : xcount s w = v := by
  obtain ⟨⟨e0, -⟩, ⟨e6, e7, e8⟩, -⟩ := V_of hr.2.2.1
  have el := hr.2.2.2.2.1
  obtain ⟨dem, am, str, gl, gn, abv, en, hm, rfl⟩ := h
  obtain ⟨r1, r2, r3, r4, -⟩ := REL_ST hr hm
  have hx := hr.1
  have a2 : s 108 0 = Sm (ldm (vM s) (s 59)) 0 (s 125 0) := by
    have := hm.1.1
    rw [r1, this]
  have b1 := BW_X hx
  have b2 := BW_M hr.2.1 hr.2.2.1
  have hp : 0 ≤ s 103 0 ∧ s 103 0 ≤ 60 := hx.1.1
  have a3 : s 19 0 = s 57 0 := BW_bs b1 b2 0 (Int.le_refl 0) hp.1
  have i1 := hx.2.2.2.2.2.1
  have a4 : (if 0 < s 103 0 ∧ ¬ s 19 0 = -1 then s 19 0 else 0) = (if s 125 0 = 0 then 0 else s 57 0) := by
    by_cases q : 0 < s 103 0 ∧ ¬ s 19 0 = -1
    · rw [if_pos q, if_neg (fun z => i1.mp (by omega) q), a3]
    · rw [if_neg q, if_pos (by rw [← el]; exact i1.mpr q)]
  unfold xcount ycount
  rw [a4, a2, r2, r3, r4, e0, el, e6, e7, e8]
theorem REL_worst {s : Nat → Int → Int} (hr : REL s) {k v w : Int} (h : WRS (wr (lbd (vX s) (s 26)) (s 107 0)) (s 107 0) k v) (h2 : WRS (wr (lbd (vM s) (s 59)) (s 125 0)) (s 125 0) k w) : v = w := by
  rw [← hr.2.2.1, ← hr.2.2.2.2.1] at h2
  refine WRS_uniq (fun j j0 j1 => wr_congr (fun i i0 i1 => ?_) j0 j1) h h2
  obtain ⟨⟨f1, f2⟩, -⟩ := REL_line hr i0 i1
  unfold lbd
  rw [f1, f2]
theorem REL_river {s : Nat → Int → Int} (hr : REL s) {rv sp x y : Int} (h : RIV (s 103 0) (s 109 0) (s 27) (s 28) (s 32) (s 35) (s 34) (s 26) rv sp x) (h2 : YRV s rv sp y) : x = y := by
  obtain ⟨dem, am, str, gl, gn, abv, en, hm, h2⟩ := h2
  obtain ⟨r1, r2, r3, r4, hS⟩ := REL_ST hr hm
  have e0 : s 103 0 = s 120 0 := (V_of hr.2.2.1).1.1
  have el := hr.2.2.2.2.1
  have hx := hr.1
  rw [← e0] at h2
  rcases h with ⟨a, rfl⟩ | ⟨a, a2, rfl⟩ | ⟨a, a2, v, v0, v1, v2, v3, a3⟩
  · rcases h2 with ⟨b, rfl⟩ | ⟨b, b2, rfl⟩ | ⟨b, b2, _⟩
    · rfl
    · omega
    · omega
  · rcases h2 with ⟨b, rfl⟩ | ⟨b, b2, rfl⟩ | ⟨b, b2, _⟩
    · omega
    · rfl
    · omega
  · rcases h2 with ⟨b, rfl⟩ | ⟨b, b2, rfl⟩ | ⟨b, b2, w, w0, w1, w2, w3, b3⟩
    · omega
    · omega
    · have hnz : ¬ s 107 0 = 0 := fun z => by
        rcases hx.2.2.2.2.1.2.2.2 with q | q
        · have := q.2.1
          omega
        · exact q.1 z
      obtain ⟨hS1, hS2⟩ := hS hnz
      have hei : ∀ j, 0 ≤ j → j < s 103 0 - 1 → ei (s 28) (s 32) (s 35) j = ei (slM s) (s 62) gn j := fun j j0 j1 => by
        have p1 := hS1 j j0 (by omega)
        have p2 := hS2 j j0 j1
        unfold ei
        rw [p2.1, ← p1.2.1]
        by_cases z : s 28 j = -1
        · rw [if_neg (fun q => q.1 z), if_neg (fun q => q.1 z)]
        · rw [(p2.2 z).2.2.2]
      have hvw : v = w := by
        refine ei_inj (sl := slM s) (ln := s 62) (gn := gn) v0 w0 (by rw [← hei v v0 v1]; exact v2) w2 ?_
        rw [w3, ← v3]
        exact Sm_congr fun j j0 j1 => (hei j j0 (by omega)).symm
      subst hvw
      have hsl : ¬ s 28 v = -1 := (ei_1 v2).1
      have hln : s 32 v = s 62 v := ((hS2 v v0 v1).2 hsl).2.2.2
      rcases a3 with ⟨a3, rfl⟩ | ⟨a3, rfl⟩
      · rcases b3 with ⟨b3, rfl⟩ | ⟨b3, rfl⟩
        · rfl
        · omega
      · rcases b3 with ⟨b3, rfl⟩ | ⟨b3, rfl⟩
        · omega
        · have hLN : LNp (s 27) (s 28) (s 33) (s 32) (s 34) (2 * s 102 0) (s 103 0 - 1) := by
            rcases hx.2.2.2.2.1.2.2.2 with q | q
            · exact absurd q.1 hnz
            · exact q.2.2.1
          have hup : ∀ k : Nat, (k : Int) ≤ sp → upn (s 34) k v = upn abv k v := by
            intro k
            induction k with
            | zero => intro _; rfl
            | succ k ih =>
              intro hk
              have u := upn_ok hLN v0 v1 hsl k (by omega)
              show s 34 (upn (s 34) k v) = abv (upn abv k v)
              rw [← ih (by omega)]
              exact ((hS2 _ u.1.1 u.1.2).2 u.2.1).2.2.1
          have u := upn_ok hLN v0 v1 hsl sp.toNat (by omega)
          rw [← hup sp.toNat (by omega)]
          generalize upn (s 34) sp.toNat v = z at u ⊢
          obtain ⟨i, i0, i1, i2, i3⟩ := LV_line hx.2.2.2.1 hnz u.1.1 (show z < vX s 0 0 from (by have := u.1.2; show z < s 103 0; omega))
          have hlo : s 27 z = i := (hx.2.2.2.2.1.2.1 i i0 i1 z i2 i3).1
          have p1 := hS1 z u.1.1 (by have := u.1.2; omega)
          rw [← p1.1, hlo, hr.2.2.2.2.2 (by omega) i i0 (by omega)]
