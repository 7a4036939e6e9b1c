/-! p23 MATHEMATICS 5: the rivers, line by line -/
def RVH (s : Nat → Int → Int) (w most str riv : Int) : Prop := riv = Sm (ei (s 28) (s 32) (s 35)) 0 w ∧ str = Sm (es (s 28) (s 32) (s 35)) 0 w ∧ GLp (s 28) (s 32) w most
theorem RVH_0 (s : Nat → Int → Int) : RVH s 0 0 0 0 := ⟨(Sm_self _ 0).symm, (Sm_self _ 0).symm, Int.le_refl 0, fun v a b => by omega, Or.inl rfl⟩
theorem RVH_skip {s : Nat → Int → Int} {w most str riv : Int} (h : RVH s w most str riv) (w0 : 0 ≤ w) (hs : s 28 w = -1) : RVH s (w + 1) most str riv := by
  have e1 : ei (s 28) (s 32) (s 35) w = 0 := if_neg (fun z => z.1 hs)
  have e2 : es (s 28) (s 32) (s 35) w = 0 := if_neg (fun z => z.1 hs)
  refine ⟨?_, ?_, GLp_skip h.2.2 (fun _ _ _ => rfl) hs⟩
  · rw [Sm_succ _ w0, e1, h.1]
    omega
  · rw [Sm_succ _ w0, e2, h.2.1]
    omega
theorem RVH_no {s : Nat → Int → Int} {w most str riv : Int} (h : RVH s w most str riv) (w0 : 0 ≤ w) (hs : ¬ s 28 w = -1) (hn : ¬ (3 ≤ s 32 w ∧ s 35 w = 0)) : RVH s (w + 1) (max most (s 32 w)) str riv := by
  have e1 : ei (s 28) (s 32) (s 35) w = 0 := if_neg (fun z => hn z.2)
  have e2 : es (s 28) (s 32) (s 35) w = 0 := if_neg (fun z => hn z.2)
  refine ⟨?_, ?_, GLp_take w0 h.2.2 (fun _ _ _ => rfl) hs⟩
  · rw [Sm_succ _ w0, e1, h.1]
    omega
  · rw [Sm_succ _ w0, e2, h.2.1]
    omega
theorem RVH_yes {s : Nat → Int → Int} {w most str riv : Int} (h : RVH s w most str riv) (w0 : 0 ≤ w) (hs : ¬ s 28 w = -1) (hn : 3 ≤ s 32 w ∧ s 35 w = 0) : RVH s (w + 1) (max most (s 32 w)) (str + (s 32 w - 2)) (riv + 1) := by
  have e1 : ei (s 28) (s 32) (s 35) w = 1 := if_pos ⟨hs, hn⟩
  have e2 : es (s 28) (s 32) (s 35) w = s 32 w - 2 := if_pos ⟨hs, hn⟩
  refine ⟨?_, ?_, GLp_take w0 h.2.2 (fun _ _ _ => rfl) hs⟩
  · rw [Sm_succ _ w0, e1, h.1]
  · rw [Sm_succ _ w0, e2, h.2.1]
theorem RVH_fin {s : Nat → Int → Int} (hx : XI s) {most str riv : Int} (h : (s 107 0 = 0 ∧ RVH s 0 most str riv) ∨ (0 < s 107 0 ∧ RVH s (s 26 (s 107 0)) most str riv)) : riv = s 109 0 ∧ str = s 110 0 ∧ most = s 111 0 := by
  obtain ⟨hp, hr, hbw, hv, hst, hz, hx1, hx2, hx3, hx4⟩ := id hx
  rcases h with ⟨h0, h1, h2, h3⟩ | ⟨h0, h1, h2, h3⟩
  · rw [Sm_self] at h1 h2
    have hm : most = 0 := by
      rcases h3.2.2 with q | ⟨v, q1, q2, -⟩
      · exact q
      · omega
    rcases hst.2.2.2 with t | t
    · exact ⟨by rw [h1, t.2.1], by rw [h2, t.2.2.1], by rw [hm, t.2.2.2.1]⟩
    · exact absurd h0 t.1
  · rcases hst.2.2.2 with t | ⟨t1, t2, t3, t4, t5, t6, t7, t8, t9⟩
    · exact absurd t.1 (by omega)
    · have hn : s 26 (s 107 0) = s 103 0 := (hv.2.2 h0).2
      have q := hv.2.1 (s 107 0 - 1) (by omega) (by omega)
      have hnp : 0 ≤ s 103 0 - 1 := by
        have := hv.1
        have e0 : vX s 0 0 = s 103 0 := rfl
        omega
      rw [show s 107 0 - 1 + 1 = s 107 0 by omega, hn] at q
      have z := (hst.2.1 (s 107 0 - 1) (by omega) (by omega) (s 103 0 - 1) (by omega) (by rw [show s 107 0 - 1 + 1 = s 107 0 by omega, hn]; omega)).2.1
      rw [show s 107 0 - 1 + 1 = s 107 0 by omega, hn, if_neg (by omega)] at z
      have e1 : ei (s 28) (s 32) (s 35) (s 103 0 - 1) = 0 := if_neg (fun y => y.1 z)
      have e2 : es (s 28) (s 32) (s 35) (s 103 0 - 1) = 0 := if_neg (fun y => y.1 z)
      have s1 := Sm_succ (ei (s 28) (s 32) (s 35)) hnp
      have s2 := Sm_succ (es (s 28) (s 32) (s 35)) hnp
      rw [show s 103 0 - 1 + 1 = s 103 0 by omega] at s1 s2
      rw [hn] at h1 h2 h3
      have t8 : s 109 0 = Sm (ei (s 28) (s 32) (s 35)) 0 (s 103 0 - 1) := t8
      have t9 : s 110 0 = Sm (es (s 28) (s 32) (s 35)) 0 (s 103 0 - 1) := t9
      have t5 : GLp (s 28) (s 32) (s 103 0 - 1) (s 111 0) := t5
      have g := GLp_skip t5 (ln2 := s 32) (fun _ _ _ => rfl) z
      rw [show s 103 0 - 1 + 1 = s 103 0 by omega] at g
      exact ⟨by omega, by omega, GLp_uniq (fun _ _ _ => Iff.rfl) (fun _ _ _ _ => rfl) h3 g⟩
/-- where a space of a line stands -/
theorem RV_in {s : Nat → Int → Int} (hx : XI s) (hn : ¬ s 107 0 = 0) {v : Int} (v0 : 0 ≤ v) (v1 : v < s 103 0) (hs : ¬ s 28 v = -1) : (0 ≤ s 27 v ∧ s 27 v < s 107 0) ∧ s 26 (s 27 v) ≤ v ∧ v < s 26 (s 27 v + 1) - 1 := by
  obtain ⟨hp, hr, hbw, hv, hst, hz, hx1, hx2, hx3, hx4⟩ := id hx
  obtain ⟨i, i0, i1, i2, i3⟩ := LV_line hv hn v0 (show v < vX s 0 0 from v1)
  have z := hst.2.1 i i0 i1 v i2 i3
  rw [z.1]
  refine ⟨⟨i0, i1⟩, i2, ?_⟩
  rcases Int.lt_or_le v (s 26 (i + 1) - 1) with q | q
  · exact q
  · exact absurd (z.2.1.trans (if_neg (by omega))) hs
theorem RIV_no {n am : Int} {lo sl ln gn ab fw : Int → Int} {rv sp x : Int} (h : RIV n am lo sl ln gn ab fw rv sp x) (hn : ¬ (0 ≤ rv ∧ rv < am)) : x = -1001 := by
  rcases h with h | h | h
  · exact h.2
  · exact absurd h.1 hn
  · exact absurd h.1 hn
theorem RIV_at {n am : Int} {lo sl ln gn ab fw : Int → Int} {rv sp x w : Int} (h : RIV n am lo sl ln gn ab fw rv sp x) (w0 : 0 ≤ w) (w1 : w < n - 1) (hw : ei sl ln gn w = 1) (hr : rv = Sm (ei sl ln gn) 0 w) (ham : am = Sm (ei sl ln gn) 0 (n - 1)) :
    (sp < 0 → x = -1002) ∧ (0 ≤ sp → ¬ sp < ln w → x = -1004) ∧ (0 ≤ sp → sp < ln w → x = lo (upn ab sp.toNat w) * 100 + upn ab sp.toNat w - fw (lo (upn ab sp.toNat w))) := by
  have a := Sei_b sl ln gn w0
  have b := Sm_split (ei sl ln gn) (a := 0) (b := w + 1) (c := n - 1) (by omega) (by omega)
  have e := Sm_succ (ei sl ln gn) (a := 0) (b := w) w0
  have f := (Sm_bound (f := ei sl ln gn) (lo := 0) (hi := 1) (a := w + 1) (b := n - 1) (by omega) (fun j _ _ => ei_b sl ln gn j)).1
  rcases h with h | h | ⟨h1, h2, v, v0, v1, v2, v3, v4⟩
  · omega
  · exact ⟨fun _ => h.2.2, fun q => by omega, fun q => by omega⟩
  · have ev := ei_same v0 w0 v2 hw (by rw [v3, hr])
    subst ev
    refine ⟨fun q => by omega, fun _ q => ?_, fun _ q => ?_⟩
    · rcases v4 with y | y
      · exact y.2
      · exact absurd y.1 q
    · rcases v4 with y | y
      · exact absurd q y.1
      · exact y.2
