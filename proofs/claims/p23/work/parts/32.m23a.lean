/-! p23 MATHEMATICS 1: a line's spaces, the line word by word, the best way is the best -/
theorem swF_f {d : Nat → Int → Int} {a b : Int} (hp : PI d) (h0 : 0 ≤ a) (h1 : a ≤ b) (h2 : b < d 0 0) (h : ps d a b = true) :
    (∀ w, a ≤ w → w < b → d 9 (d 3 w) ≤ swF d a b w ∧ swF d a b w ≤ d 11 (d 3 w) ∧ (0 < df d a b → d 10 (d 3 w) ≤ swF d a b w) ∧ (df d a b < 0 → swF d a b w ≤ d 10 (d 3 w)) ∧ (b = d 0 0 - 1 → 0 ≤ df d a b → swF d a b w = d 10 (d 3 w))) ∧
    Sm (swF d a b) a b = Sm (na0 d) a b + (if 0 < df d a b ∧ b = d 0 0 - 1 then 0 else df d a b) := by
  by_cases hn : 0 < df d a b ∧ b = d 0 0 - 1
  · rw [swF_last hn, if_pos hn]
    refine ⟨fun w q1 q2 => ?_, by omega⟩
    have k := kd_b hp (w := w) (by omega) (by omega)
    unfold na0
    exact ⟨by omega, by omega, fun _ => by omega, fun _ => by omega, fun _ _ => by omega⟩
  · rw [swF_sh hn, if_neg hn]
    have hc : ∀ w, a ≤ w → w < b → 0 ≤ sby d a b * (sbd d (sby d a b) (d 3 w) - na0 d w) := fun w q1 q2 => by
      have := kd_b hp (w := w) (by omega) (by omega)
      unfold sby sbd na0
      split
      · rw [if_pos (by omega)]
        omega
      · rw [if_neg (by omega)]
        omega
    obtain ⟨i1, i2, -⟩ := rnds_what (sby_or d a b) h1 (fun w q1 q2 => kd3 hp (w := w) (by omega) (by omega)) hc (u := sun d a b) 40
    have fin := rnds_fin hp h0 h1 h2 h hn
    rw [fin] at i1
    have z : df d a b = 0 → (rnds d (sby d a b) a b 40 (na0 d, sun d a b)).1 = na0 d := fun e => by
      have e2 : sun d a b = 0 := by
        unfold sun
        split <;> omega
      have := rnds_stop (d := d) (by_ := sby d a b) (a := a) (b := b) (p := (na0 d, sun d a b)) (k := 0) (by show sun d a b ≤ 0; omega) 40
      rw [Nat.zero_add] at this
      rw [this]
      rfl
    generalize (rnds d (sby d a b) a b 40 (na0 d, sun d a b)).1 = R at i1 i2 z ⊢
    refine ⟨fun w q1 q2 => ?_, ?_⟩
    · have k := kd_b hp (w := w) (by omega) (by omega)
      have x := i2 w q1 q2
      by_cases hd : 0 < df d a b
      · have es : sby d a b = 1 := if_pos hd
        rw [es] at x
        unfold sbd na0 at x
        rw [if_pos (by omega)] at x
        exact ⟨by omega, by omega, fun _ => by omega, fun _ => by omega, fun q _ => absurd ⟨hd, q⟩ hn⟩
      · have es : sby d a b = -1 := if_neg hd
        rw [es] at x
        unfold sbd na0 at x
        rw [if_neg (by omega)] at x
        refine ⟨by omega, by omega, fun q => absurd q hd, fun _ => by omega, fun _ q => ?_⟩
        rw [z (by omega)]
        rfl
    · by_cases hd : 0 < df d a b
      · have es : sby d a b = 1 := if_pos hd
        have su : sun d a b = df d a b := if_pos (by omega)
        rw [es, su] at i1
        have e1 : Sm (fun w => 1 * (R w - na0 d w)) a b = Sm R a b - Sm (na0 d) a b := by
          rw [← Sm_sub]
          exact Sm_congr fun j _ _ => by omega
        omega
      · have es : sby d a b = -1 := if_neg hd
        have su : sun d a b = - df d a b := by
          unfold sun
          split <;> omega
        rw [es, su] at i1
        have e1 : Sm (fun w => -1 * (R w - na0 d w)) a b = Sm (na0 d) a b - Sm R a b := by
          rw [← Sm_sub]
          exact Sm_congr fun j _ _ => by omega
        omega
def mnb (w b : Int) : Int := if w ≤ b then w else b
/-- natural width, width, stretch and shrink of a line up to a word -/
def lnN (d : Nat → Int → Int) (a b w : Int) : Int := - hL d a - hR d b + Sm (d 1) a w + Sm (na0 d) a (mnb w b)
def lnW (d : Nat → Int → Int) (a b w : Int) : Int := - hL d a - hR d b + Sm (d 1) a w + Sm (swF d a b) a (mnb w b)
def lnT (d : Nat → Int → Int) (a b w : Int) : Int := Sm (fun v => d 11 (d 3 v) - d 10 (d 3 v)) a (mnb w b)
def lnS (d : Nat → Int → Int) (a b w : Int) : Int := Sm (fun v => d 10 (d 3 v) - d 9 (d 3 v)) a (mnb w b)
theorem ln_0 (d : Nat → Int → Int) {a b : Int} (h : a ≤ b) : lnN d a b a = - hL d a - hR d b ∧ lnW d a b a = - hL d a - hR d b ∧ lnT d a b a = 0 ∧ lnS d a b a = 0 := by
  unfold lnN lnW lnT lnS mnb
  rw [if_pos h, Sm_self, Sm_self, Sm_self, Sm_self, Sm_self]
  exact ⟨by omega, by omega, rfl, rfl⟩
theorem ln_s (d : Nat → Int → Int) {a b w : Int} (h : a ≤ w) (h2 : w < b) : lnN d a b (w + 1) = lnN d a b w + d 1 w + d 10 (d 3 w) ∧ lnW d a b (w + 1) = lnW d a b w + d 1 w + swF d a b w ∧ lnT d a b (w + 1) = lnT d a b w + (d 11 (d 3 w) - d 10 (d 3 w)) ∧ lnS d a b (w + 1) = lnS d a b w + (d 10 (d 3 w) - d 9 (d 3 w)) := by
  unfold lnN lnW lnT lnS mnb
  rw [if_pos (show w + 1 ≤ b by omega), if_pos (show w ≤ b by omega), Sm_succ _ h, Sm_succ _ h, Sm_succ _ h, Sm_succ _ h, Sm_succ _ h]
  unfold na0
  exact ⟨by omega, by omega, rfl, rfl⟩
theorem ln_b (d : Nat → Int → Int) {a b : Int} (h : a ≤ b) : lnN d a b (b + 1) = lnN d a b b + d 1 b ∧ lnW d a b (b + 1) = lnW d a b b + d 1 b ∧ lnT d a b (b + 1) = lnT d a b b ∧ lnS d a b (b + 1) = lnS d a b b := by
  unfold lnN lnW lnT lnS mnb
  rw [if_neg (show ¬ b + 1 ≤ b by omega), if_pos (Int.le_refl b), Sm_succ _ h]
  exact ⟨by omega, by omega, rfl, rfl⟩
theorem ln_e {d : Nat → Int → Int} {a b : Int} (hp : PI d) (h0 : 0 ≤ a) (h1 : a ≤ b) (h2 : b < d 0 0) (h : ps d a b = true) : lnN d a b (b + 1) = nt d a b ∧ lnW d a b (b + 1) = (if 0 < df d a b ∧ b = d 0 0 - 1 then d 6 0 - df d a b else d 6 0) ∧ lnT d a b (b + 1) = st d a b ∧ lnS d a b (b + 1) = sh d a b := by
  have z := (swF_f hp h0 h1 h2 h).2
  have e : nt d a b = - hL d a - hR d b + Sm (d 1) a (b + 1) + Sm (na0 d) a b := by
    unfold nt na0
    omega
  have e2 : df d a b = d 6 0 - nt d a b := rfl
  unfold lnN lnW lnT lnS mnb
  rw [if_neg (show ¬ b + 1 ≤ b by omega)]
  refine ⟨e.symm, ?_, rfl, rfl⟩
  by_cases q : 0 < df d a b ∧ b = d 0 0 - 1
  · rw [if_pos q] at z ⊢
    omega
  · rw [if_neg q] at z ⊢
    omega
theorem ln_bg (d : Nat → Int → Int) {a b w : Int} (h2 : w ≤ b) : lnW d a b w = bgF d (swF d a b) a w - hR d b := by
  unfold lnW bgF mnb
  rw [if_pos h2, Sm_add2]
  omega
theorem am_min {c : Int → Int} {lo : Int} : ∀ (k : Nat) (j : Int), lo ≤ j → j < lo + k → 0 ≤ c j → 0 ≤ (am c lo k).1 ∧ (am c lo k).1 ≤ c j
  | 0, j, h1, h2, h3 => by omega
  | k + 1, j, h1, h2, h3 => by
    rw [am]
    by_cases hj : j = lo + k
    · subst hj
      split
      · exact ⟨h3, Int.le_refl _⟩
      · rename_i h
        omega
    · have ih := am_min k j h1 (by omega) h3
      split
      · rename_i h
        show 0 ≤ c (lo + k) ∧ c (lo + k) ≤ c j
        omega
      · exact ih
theorem BW_le {d : Nat → Int → Int} {bs be : Int → Int} (h : BW d bs be) {a b : Int} (h0 : 0 ≤ a) (h1 : a ≤ b) (h2 : b < d 0 0) (hb : 0 ≤ bs (b + 1)) (hps : ps d a b = true) (hd : 0 ≤ dm d a b) : 0 ≤ bs a ∧ bs a ≤ dm d a b + bs (b + 1) := by
  have e : cd d bs a b = dm d a b + bs (b + 1) := if_pos ⟨hb, hps⟩
  have := am_min (c := cd d bs a) (lo := a) (d 0 0 - a).toNat b h1 (by omega) (by omega)
  rw [← (h.2 a h0 (by omega)).1, e] at this
  exact this
theorem BW_lay {d : Nat → Int → Int} {bs be fw : Int → Int} (hp : PI d) (h : BW d bs be) : ∀ l : Nat, (∀ i, 0 ≤ i → i < (l : Int) → 0 ≤ fw i ∧ fw i < fw (i + 1) ∧ fw (i + 1) ≤ d 0 0 ∧ ps d (fw i) (fw (i + 1) - 1) = true) → 0 ≤ bs (fw l) → 0 ≤ bs (fw 0) ∧ bs (fw 0) ≤ Sm (ldm d fw) 0 l + bs (fw l)
  | 0, _, hb => by
    rw [show ((0 : Nat) : Int) = 0 from rfl] at hb ⊢
    rw [Sm_self]
    omega
  | l + 1, hl, hb => by
    rw [show ((l + 1 : Nat) : Int) = (l : Int) + 1 by omega] at hb ⊢
    have q := hl l (by omega) (by omega)
    have q2 := (dm_b hp q.1 (show fw l ≤ fw (l + 1) - 1 by omega) (by omega) q.2.2.2).1
    have b1 := BW_le h q.1 (show fw l ≤ fw (l + 1) - 1 by omega) (by omega) (by rw [show fw (l + 1) - 1 + 1 = fw (l + 1) by omega]; exact hb) q.2.2.2 (by omega)
    rw [show fw (l + 1) - 1 + 1 = fw (l + 1) by omega] at b1
    have ih := BW_lay hp h l (fun i a b => hl i a (by omega)) b1.1
    rw [Sm_succ _ (by omega)]
    have e : ldm d fw l = dm d (fw l) (fw (l + 1) - 1) := rfl
    omega
theorem xcount_3 (s : Nat → Int → Int) : xcount s 3 = if 0 < s 103 0 ∧ ¬ s 19 0 = -1 then s 19 0 else 0 := rfl
theorem XI_opt {s : Nat → Int → Int} (hx : XI s) : xcount s 3 ≤ s 108 0 := by
  obtain ⟨hp, hr, hbw, hv, hst, hz, hx1, hx2, hx3, hx4⟩ := id hx
  have hd : s 108 0 = Sm (ldm (vX s) (s 26)) 0 (s 107 0) := hst.1
  have hnl : 0 ≤ s 107 0 ∧ s 107 0 ≤ s 103 0 := hv.1
  rw [xcount_3, hd]
  by_cases q : s 107 0 = 0
  · rw [q, Sm_self, if_neg (hz.mp q)]
    exact Int.le_refl 0
  · have q2 : 0 < s 103 0 ∧ ¬ s 19 0 = -1 := Classical.not_not.mp (fun z => q (hz.mpr z))
    obtain ⟨l1, l2⟩ := hv.2.2 (by omega)
    have l2 : s 26 (s 107 0) = s 103 0 := l2
    have hB := BWp_BW hbw
    have e : ((s 107 0).toNat : Int) = s 107 0 := by omega
    have z0 : s 19 (s 103 0) = 0 := hB.1
    have z := BW_lay (fw := s 26) hp hB (s 107 0).toNat (fun i a b => hv.2.1 i a (by omega)) (by rw [e, l2, z0]; exact Int.le_refl 0)
    rw [e, l1, l2, z0] at z
    rw [if_pos q2]
    omega
theorem BESTL_opt {s : Nat → Int → Int} (hx : XI s) (hb : BESTL s) : xcount s 3 = s 108 0 := by
  obtain ⟨hp, hr, hbw, hv, hst, hz, hx1, hx2, hx3, hx4⟩ := id hx
  have hd : s 108 0 = Sm (ldm (vX s) (s 26)) 0 (s 107 0) := hst.1
  have hn : 0 ≤ s 103 0 ∧ s 103 0 ≤ 60 := hp.1
  rw [xcount_3, hd]
  by_cases q : 0 < s 103 0 ∧ ¬ s 19 0 = -1
  · obtain ⟨f0, hgo⟩ := hb q
    have hB := BWp_BW hbw
    have b0 := BWp_BS hp hbw 0 (Int.le_refl 0) hn.1
    have g := (go_props hB (s 103 0 - 0).toNat 0 0 f0 (Int.le_refl 0) hn.1 (by omega) (by show s 103 0 - 0 ≤ _; omega) (Int.le_refl 0)).2.2.2.2.2
    have hgo : (s 107 0, s 26) = go (s 20) (vX s 0 0) (s 103 0 - 0).toNat 0 0 f0 := hgo
    rw [← hgo] at g
    rw [if_pos q]
    exact g.symm
  · rw [if_neg q, hz.mpr q, Sm_self]
theorem ps_dm_b {d : Nat → Int → Int} {a b : Int} (hp : PI d) (h0 : 0 ≤ a) (h1 : a ≤ b) (h2 : b < d 0 0) (h : ps d a b = true) : 0 ≤ dm d a b := by
  have := (dm_b hp h0 h1 h2 h).1
  omega
/-- a second choice -/
theorem XI_sec {s : Nat → Int → Int} (hx : XI s) {l : Int} (h0 : 0 ≤ l) (h1 : l < s 107 0) (hs : ¬ sec (vX s) (s 19) (s 26) l = -1) :
    ¬ sec (vX s) (s 19) (s 26) l = s 26 (l + 1) - 1 ∧ (0 ≤ s 26 l ∧ s 26 l ≤ sec (vX s) (s 19) (s 26) l ∧ sec (vX s) (s 19) (s 26) l < s 103 0) ∧ 0 ≤ s 19 (sec (vX s) (s 19) (s 26) l + 1) ∧
    cd (vX s) (s 19) (s 26 l) (sec (vX s) (s 19) (s 26) l) = dm (vX s) (s 26 l) (sec (vX s) (s 19) (s 26) l) + s 19 (sec (vX s) (s 19) (s 26) l + 1) ∧
    xcount s 3 ≤ Sm (ldm (vX s) (s 26)) 0 l + cd (vX s) (s 19) (s 26 l) (sec (vX s) (s 19) (s 26) l) ∧ Sm (ldm (vX s) (s 26)) 0 l + cd (vX s) (s 19) (s 26 l) (sec (vX s) (s 19) (s 26) l) ≤ 2000000 := by
  obtain ⟨hp, hr, hbw, hv, hst, hz, hx1, hx2, hx3, hx4⟩ := id hx
  have hok := sec_ok hs
  have hl := hv.2.1 l h0 h1
  have e0 : vX s 0 0 = s 103 0 := rfl
  have hne : ¬ sec (vX s) (s 19) (s 26) l = s 26 (l + 1) - 1 := by
    have hA := am_in (c := sc (vX s) (s 19) (s 26) l) (lo := s 26 l) (vX s 0 0 - s 26 l).toNat
    intro z
    unfold sec at z hs
    generalize am (sc (vX s) (s 19) (s 26) l) (s 26 l) (vX s 0 0 - s 26 l).toNat = M at hA z hs
    rcases hA with ⟨h1, h2, h3⟩ | ⟨h1, h2, h3, h4⟩
    · exact hs h2
    · rw [z] at h4
      unfold sc at h4
      rw [if_pos rfl] at h4
      omega
  generalize sec (vX s) (s 19) (s 26) l = q at hok hne ⊢
  have hq : q < s 103 0 := by omega
  have hB := BWp_BW hbw
  have ec : cd (vX s) (s 19) (s 26 l) q = dm (vX s) (s 26 l) q + s 19 (q + 1) := if_pos ⟨hok.2.2.2, hok.2.2.1⟩
  have hd := dm_b hp hl.1 hok.1 (by rw [e0]; exact hq) hok.2.2.1
  have b1 := BW_le hB hl.1 hok.1 (by rw [e0]; exact hq) hok.2.2.2 hok.2.2.1 (by omega)
  have el : ((l.toNat : Nat) : Int) = l := by omega
  have z := BW_lay (fw := s 26) hp hB l.toNat (fun i a b => hv.2.1 i a (by omega)) (by rw [el]; exact b1.1)
  obtain ⟨l1, l2⟩ := hv.2.2 (by omega)
  rw [el, l1] at z
  have q2 : 0 < s 103 0 ∧ ¬ s 19 0 = -1 := Classical.not_not.mp (fun y => absurd (hz.mpr y) (by omega))
  have sb := Sldm_b hp hv h0 (by omega : l ≤ s 107 0)
  have bb := BWp_BS hp hbw (q + 1) (by omega) (by rw [e0]; omega)
  rw [xcount_3, if_pos q2, ec]
  exact ⟨hne, ⟨hl.1, hok.1, hq⟩, hok.2.2.2, rfl, by omega, by omega⟩
/-- what stands after a second choice was taken -/
theorem XI_take {s s2 : Nat → Int → Int} (hx : XI s) {l : Int} (h0 : 0 ≤ l) (h1 : l < s 107 0) (hs : ¬ sec (vX s) (s 19) (s 26) l = -1) (hx2 : XI s2) (hk : KEEP LB s s2) (hgo : (s2 107 0, s2 26) = go (s 20) (s 103 0) (s 103 0 - (sec (vX s) (s 19) (s 26) l + 1)).toNat (l + 1) (sec (vX s) (s 19) (s 26) l + 1) (s 26)) :
    l < s2 107 0 ∧ s2 26 l = s 26 l ∧ s2 26 (l + 1) - 1 = sec (vX s) (s 19) (s 26) l ∧ s2 108 0 = Sm (ldm (vX s) (s 26)) 0 l + cd (vX s) (s 19) (s 26 l) (sec (vX s) (s 19) (s 26) l) ∧ xcount s2 3 = xcount s 3 := by
  have w := XI_sec hx h0 h1 hs
  have hB := BWp_BW hx.2.2.1
  have hgo : (s2 107 0, s2 26) = go (s 20) (vX s 0 0) (vX s 0 0 - (sec (vX s) (s 19) (s 26) l + 1)).toNat (l + 1) (sec (vX s) (s 19) (s 26) l + 1) (s 26) := hgo
  have e0 : vX s 0 0 = s 103 0 := rfl
  have g := go_props hB (vX s 0 0 - (sec (vX s) (s 19) (s 26) l + 1)).toNat (l + 1) (sec (vX s) (s 19) (s 26) l + 1) (s 26) (by omega) (by omega) w.2.2.1 (by omega) (by omega)
  rw [← hgo] at g
  have g1 : l + 1 ≤ s2 107 0 := g.1.1
  have g2 : ∀ j, j < l + 1 → s2 26 j = s 26 j := g.2.1
  have g3 : s2 26 (l + 1) = sec (vX s) (s 19) (s 26) l + 1 := g.2.2.1
  have gd := go_dem hB h0 (by omega) (by omega) w.2.2.1 hgo
  have hd : s2 108 0 = Sm (ldm (vX s2) (s2 26)) 0 (s2 107 0) := hx2.2.2.2.2.1.1
  rw [KEEP_vX hk (by decide), gd] at hd
  refine ⟨by omega, g2 l (by omega), by omega, by rw [hd, w.2.2.2.1]; omega, ?_⟩
  rw [xcount_3, xcount_3, hk 103 (by decide), hk 19 (by decide)]
theorem BR1_lt {d : Nat → Int → Int} {bs be fw fw2 : Int → Int} {nl S0 nl2 S2 : Int} (hp : PI d) (h : BW d bs be) (hv : LV d fw nl) (h1 : BR1 d bs be fw nl S0 fw2 nl2 S2) : S2 < S0 ∧ LV d fw2 nl2 := by
  obtain ⟨x, st, de, hx, ⟨g, e, c1, c2⟩, hgo, hlv, dem, am, gl, sw, lo, sl, bg, mid, gn, abv, ln, en, hst⟩ := h1
  rcases c2 with c2 | ⟨x0, x1, x2, x3, x4, x5, x6⟩
  · exact absurd c2.1 hx
  · obtain ⟨nl3, fw3, ft, am3, gl3, sw3, lo3, sl3, bg3, mid3, gn3, abv3, ln3, en3, w1, w2, w3, w4⟩ := c1 x x0 x1 x2
    have hn := hp.1
    have hnl := hv.1
    have ho := sec_ok x2
    have q1 := hv.2.1 x x0 x1
    have r := go_rel h h (d 0 0 - (sec d bs fw x + 1)).toNat (x + 1) (sec d bs fw x + 1) fw ft (by omega) (by omega) (by omega) ho.2.2.2 (fun j j0 j1 => (w1 j j0 (by omega)).symm)
    rw [← hgo, ← w2] at r
    have r1 : nl2 = nl3 := r.1
    have r2 : ∀ j, 0 ≤ j → j ≤ nl2 → fw2 j = fw3 j := r.2
    subst r1
    have u := (ST_rel hlv (fun _ => r2) hst w4).2.2.1
    exact ⟨by omega, hlv⟩
theorem BRN_lt {d : Nat → Int → Int} {bs be fw : Int → Int} {nl S0 : Int} (hp : PI d) (h : BW d bs be) (hv : LV d fw nl) : ∀ (k : Nat) (fw2 : Int → Int) (nl2 S2 : Int), BRN d bs be k fw nl S0 fw2 nl2 S2 → (k = 0 → S2 = S0) ∧ (0 < k → S2 < S0) ∧ LV d fw2 nl2 ∧ (nl = 0 → k = 0 ∧ nl2 = 0)
  | 0, fw2, nl2, S2, b => by
    obtain ⟨rfl, rfl, rfl⟩ := b
    exact ⟨fun _ => rfl, fun z => absurd z (by omega), hv, fun z => ⟨rfl, z⟩⟩
  | k + 1, fw2, nl2, S2, b => by
    obtain ⟨fw1, nl1, S1, b1, b2⟩ := b
    obtain ⟨i1, i2, i3, i4⟩ := BRN_lt hp h hv k fw1 nl1 S1 b1
    have q := BR1_lt hp h i3 b2
    have i5 : S1 ≤ S0 := by
      rcases Nat.eq_zero_or_pos k with z | z
      · rw [i1 z]
        exact Int.le_refl _
      · have := i2 z
        omega
    refine ⟨fun z => absurd z (by omega), fun _ => by omega, q.2, fun z => ?_⟩
    obtain ⟨x, st, de, hx, hc, -⟩ := b2
    have e := (i4 z).2
    rcases CAL_b hc with y | y
    · exact absurd y hx
    · omega
