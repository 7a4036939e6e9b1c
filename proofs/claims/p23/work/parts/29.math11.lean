/-! MATHEMATICS 11: both sides hold the same -/
theorem BW_uniq {d : Nat → Int → Int} {bs be bs2 be2 : Int → Int} (h : BW d bs be) (h2 : BW d bs2 be2) : ∀ (k : Nat) (a : Int), 0 ≤ a → a ≤ d 0 0 → d 0 0 - a ≤ k → bs a = bs2 a := by
  intro k
  induction k with
  | zero =>
    intro a a0 a1 a2
    have e : a = d 0 0 := by omega
    rw [e, h.1, h2.1]
  | succ k ih =>
    intro a a0 a1 a2
    by_cases q : a = d 0 0
    · rw [q, h.1, h2.1]
    · rw [(h.2 a a0 (by omega)).1, (h2.2 a a0 (by omega)).1, am_congr (c2 := cd d bs2 a) _ (fun j j1 j2 => cd_congr (ih (j + 1) (by omega) (by omega) (by omega)))]
theorem BW_bs {d : Nat → Int → Int} {bs be bs2 be2 : Int → Int} (h : BW d bs be) (h2 : BW d bs2 be2) : ∀ a, 0 ≤ a → a ≤ d 0 0 → bs a = bs2 a := fun a a0 a1 => BW_uniq h h2 (d 0 0 - a).toNat a a0 a1 (by omega)
theorem BW_be {d : Nat → Int → Int} {bs be bs2 be2 : Int → Int} (h : BW d bs be) (h2 : BW d bs2 be2) {a : Int} (a0 : 0 ≤ a) (a1 : a < d 0 0) (hb : 0 ≤ bs a) : be a = be2 a := by
  have e := BW_bs h h2
  rw [(h.2 a a0 a1).2 hb, (h2.2 a a0 a1).2 (by rw [← e a a0 (by omega)]; exact hb), am_congr (c2 := cd d bs2 a) _ (fun j j1 j2 => cd_congr (e (j + 1) (by omega) (by omega)))]
theorem go_rel {d : Nat → Int → Int} {bs be bs2 be2 : Int → Int} (h : BW d bs be) (h2 : BW d bs2 be2) : ∀ (m : Nat) (l w : Int) (fw fw2 : Int → Int), 0 ≤ l → 0 ≤ w → w ≤ d 0 0 → 0 ≤ bs w → (∀ j, 0 ≤ j → j < l → fw j = fw2 j) →
    (go be (d 0 0) m l w fw).1 = (go be2 (d 0 0) m l w fw2).1 ∧ ∀ j, 0 ≤ j → j ≤ (go be (d 0 0) m l w fw).1 → (go be (d 0 0) m l w fw).2 j = (go be2 (d 0 0) m l w fw2).2 j := by
  intro m
  have hend : ∀ (l : Int) (fw fw2 : Int → Int), (∀ j, 0 ≤ j → j < l → fw j = fw2 j) → ∀ j, 0 ≤ j → j ≤ l → ab_u fw l (d 0 0) j = ab_u fw2 l (d 0 0) j := fun l fw fw2 hf j j0 j1 => by
    by_cases q : j = l
    · rw [q, ab_u_eq, ab_u_eq]
    · rw [ab_u_ne q, ab_u_ne q]
      exact hf j j0 (by omega)
  induction m with
  | zero =>
    intro l w fw fw2 l0 w0 w1 hb hf
    exact ⟨rfl, hend l fw fw2 hf⟩
  | succ m ih =>
    intro l w fw fw2 l0 w0 w1 hb hf
    by_cases q : w < d 0 0
    · rw [go, go, if_pos q, if_pos q]
      obtain ⟨y1, y2, y3⟩ := BW_WY h w w0 q hb
      have e := BW_be h h2 w0 q hb
      rw [← e]
      refine ih (l + 1) (be w + 1) _ _ (by omega) (by omega) (by omega) y3 (fun j j0 j1 => ?_)
      by_cases q2 : j = l
      · rw [q2, ab_u_eq, ab_u_eq]
      · rw [ab_u_ne q2, ab_u_ne q2]
        exact hf j j0 (by omega)
    · rw [go_end (m + 1) (by omega), go_end (m + 1) (by omega)]
      exact ⟨rfl, hend l fw fw2 hf⟩
theorem sec_rel {d : Nat → Int → Int} {bs bs2 fw fw2 : Int → Int} {l : Int} (hb : ∀ a, 0 ≤ a → a ≤ d 0 0 → bs a = bs2 a) (h0 : 0 ≤ fw l) (h1 : fw l ≤ d 0 0) (e1 : fw l = fw2 l) (e2 : fw (l + 1) = fw2 (l + 1)) : sec d bs fw l = sec d bs2 fw2 l := by
  unfold sec
  rw [← e1, am_congr (c := sc d bs fw l) (c2 := sc d bs2 fw2 l) _ (fun j j1 j2 => ?_)]
  unfold sc
  rw [← e2, ← e1, cd_congr (hb (j + 1) (by omega) (by omega))]
theorem ST_rel {d : Nat → Int → Int} {fw fw2 : Int → Int} {nl dem am str gl dem2 am2 str2 gl2 : Int} {sw lo sl be mid gn abv ln en sw2 lo2 sl2 be2 mid2 gn2 abv2 ln2 en2 : Int → Int} (hv : LV d fw nl) (hf : 0 < nl → ∀ i, 0 ≤ i → i ≤ nl → fw i = fw2 i)
    (h : ST d fw nl dem am str gl sw lo sl be mid gn abv ln en) (h2 : ST d fw2 nl dem2 am2 str2 gl2 sw2 lo2 sl2 be2 mid2 gn2 abv2 ln2 en2) :
    dem = dem2 ∧ am = am2 ∧ str = str2 ∧ gl = gl2 ∧ SAME (d 0 0) nl lo sl be sw mid gn abv ln lo2 sl2 be2 sw2 mid2 gn2 abv2 ln2 := by
  by_cases q : nl = 0
  · have a := h.1
    have b := h2.1
    rw [q, Sm_self] at a b
    rcases h.2.2.2 with c | c
    · rcases h2.2.2.2 with e | e
      · exact ⟨by omega, by omega, by omega, by omega, fun z => absurd q z⟩
      · exact absurd q e.1
    · exact absurd q c.1
  · exact ST_uniq hv (hf (by have := hv.1; omega)) h h2
/-- the demerits of a layout that goes on behind line l -/
theorem go_dem {d : Nat → Int → Int} {bs be ft fw2 : Int → Int} {l q nl2 : Int} (h : BW d bs be) (l0 : 0 ≤ l) (hq : 0 ≤ q + 1) (hq1 : q + 1 ≤ d 0 0) (hb : 0 ≤ bs (q + 1)) (hg : (nl2, fw2) = go be (d 0 0) (d 0 0 - (q + 1)).toNat (l + 1) (q + 1) ft) : Sm (ldm d fw2) 0 nl2 = Sm (ldm d ft) 0 l + dm d (ft l) q + bs (q + 1) := by
  obtain ⟨⟨i1, i1b, i1c⟩, i2, i3, i4, i5, i6⟩ := go_props h (d 0 0 - (q + 1)).toNat (l + 1) (q + 1) ft hq hq1 hb (by omega) (by omega)
  rw [← hg] at i1 i1b i1c i2 i3 i4 i5 i6
  have i2 : ∀ j, j < l + 1 → fw2 j = ft j := i2
  have i3 : fw2 (l + 1) = q + 1 := i3
  have i6 : Sm (ldm d fw2) (l + 1) nl2 = bs (q + 1) := i6
  have i1 : l + 1 ≤ nl2 := i1
  rw [Sm_split (ldm d fw2) (a := 0) (b := l + 1) (c := nl2) (by omega) i1, i6, Sm_succ _ l0]
  have e1 : Sm (ldm d fw2) 0 l = Sm (ldm d ft) 0 l := Sm_congr fun j j0 j1 => by
    unfold ldm
    rw [i2 j (by omega), i2 (j + 1) (by omega)]
  have e2 : ldm d fw2 l = dm d (ft l) q := by
    unfold ldm
    rw [i2 l (by omega), i3, show q + 1 - 1 = q by omega]
  rw [e1, e2]
theorem WS_WSM {d : Nat → Int → Int} {bs be bs2 be2 fw fw2 : Int → Int} {nl l a b a2 : Int} (hp : PI d) (h : BW d bs be) (h2 : BW d bs2 be2) (hv : LV d fw nl) (hf : ∀ j, 0 ≤ j → j ≤ nl → fw j = fw2 j) (l0 : 0 ≤ l) (l1 : l < nl) (hs : ¬ sec d bs fw l = -1) (hw : WS d bs be fw l a b) (hm : WSM d bs2 be2 fw2 l a2) : a = a2 ∧ b = SDm d bs2 fw2 l := by
  have hbs := BW_bs h h2
  have q1 := hv.2.1 l l0 l1
  have hn := hp.1
  have hnl := hv.1
  have es : sec d bs fw l = sec d bs2 fw2 l := sec_rel hbs q1.1 (by omega) (hf l l0 (by omega)) (hf (l + 1) (by omega) (by omega))
  have ho := sec_ok hs
  obtain ⟨nl3, fw3, ft, am, gl, sw, lo, sl, bg, mid, gn, abv, ln, en, w1, w2, w3, w4⟩ := hw
  obtain ⟨nl4, fw4, ft4, sw4, lo4, bg4, ln4, dem4, am4, gl4, gn4, abv4, en4, m1, m2, m3, m4⟩ := hm
  rw [← es] at m2
  have hso : sec d bs fw l + 1 ≤ d 0 0 := by omega
  have g := go_rel h h2 (d 0 0 - (sec d bs fw l + 1)).toNat (l + 1) (sec d bs fw l + 1) ft ft4 (by omega) (by omega) hso ho.2.2.2 (fun j j0 j1 => by rw [w1 j j0 (by omega), m1 j j0 (by omega)]; exact hf j j0 (by omega))
  rw [← w2, ← m2] at g
  have g1 : nl3 = nl4 := g.1
  have g2 : ∀ j, 0 ≤ j → j ≤ nl3 → fw3 j = fw4 j := g.2
  subst g1
  have r := ST_rel w3 (fun _ => g2) w4 m4.1
  refine ⟨r.2.2.1, ?_⟩
  have e := go_dem h l0 (by omega) hso ho.2.2.2 w2
  rw [← w4.1] at e
  have e1 : Sm (ldm d ft) 0 l = Sm (ldm d fw2) 0 l := Sm_congr fun j j0 j1 => by
    unfold ldm
    rw [w1 j j0 (by omega), w1 (j + 1) (by omega) (by omega), hf j j0 (by omega), hf (j + 1) (by omega) (by omega)]
  unfold SDm
  rw [e, e1, ← es, w1 l l0 (by omega), hf l l0 (by omega), hbs (sec d bs fw l + 1) (by omega) hso]
def STc (d : Nat → Int → Int) (fw : Int → Int) (nl S : Int) : Prop := ∃ (dem am gl : Int) (sw lo sl bg mid gn abv ln en : Int → Int), ST d fw nl dem am S gl sw lo sl bg mid gn abv ln en
theorem CAL_BRK {d : Nat → Int → Int} {bs be bs2 be2 fw fw2 : Int → Int} {nl S x st de y : Int} (hp : PI d) (h : BW d bs be) (h2 : BW d bs2 be2) (hv : LV d fw nl) (hf : 0 < nl → ∀ j, 0 ≤ j → j ≤ nl → fw j = fw2 j) (hS : STc d fw nl S) (hc : CAL d bs be fw S nl x st de) (hk : BRK d bs2 be2 fw2 nl y) : x = y := by
  have hnl := hv.1
  have hbs := BW_bs h h2
  by_cases hz : nl = 0
  · rcases CAL_b hc with q | q
    · rcases BRK_x hk with q2 | q2
      · omega
      · omega
    · omega
  have hf := hf (by omega)
  have hse : ∀ i, 0 ≤ i → i < nl → sec d bs fw i = sec d bs2 fw2 i := fun i i0 i1 => by
    have q1 := hv.2.1 i i0 i1
    exact sec_rel hbs q1.1 (by omega) (hf i i0 (by omega)) (hf (i + 1) (by omega) (by omega))
  obtain ⟨g, e, c1, c2⟩ := hc
  obtain ⟨fo, st2, S2, ⟨g2, b1, b2⟩, hS2, hy⟩ := hk
  have hSS : S = S2 := by
    obtain ⟨dem, am, gl, sw, lo, sl, bg, mid, gn, abv, ln, en, z⟩ := hS
    obtain ⟨fw3, sw3, lo3, bg3, ln3, dem3, am3, gl3, gn3, abv3, en3, z1, z2⟩ := hS2
    exact (ST_rel hv (fun _ j j0 j1 => (hf j j0 j1).trans (z1 j j0 j1).symm) z z2.1).2.2.1
  have key : ∀ i, 0 ≤ i → i < nl → ¬ sec d bs fw i = -1 → g i = g2 i ∧ e i = SDm d bs2 fw2 i := fun i i0 i1 hs =>
    WS_WSM hp h h2 hv hf i0 i1 hs (c1 i i0 i1 hs) (b1 i i0 i1 (by rw [← hse i i0 i1]; exact hs))
  rcases c2 with ⟨x1, x2, x3⟩ | ⟨x1, x2, x3, x4, x5, x6, x7⟩
  · rcases hy with ⟨y1, y2, y3⟩ | ⟨y1, y2⟩
    · rcases b2 with ⟨z1, z2⟩ | ⟨z1, z2, z3, z4, z5⟩
      · omega
      · have hs : ¬ sec d bs fw fo = -1 := by rw [hse fo z1 z2]; exact z3
        have k := (key fo z1 z2 hs).1
        have := x3 fo z1 z2 hs
        omega
    · omega
  · rcases b2 with ⟨z1, z2⟩ | ⟨z1, z2, z3, z4, z5⟩
    · have := z2 x x1 x2
      rw [← hse x x1 x2] at this
      exact absurd this x3
    · have hs : ¬ sec d bs fw fo = -1 := by rw [hse fo z1 z2]; exact z3
      have kf := key fo z1 z2 hs
      have kx := key x x1 x2 x3
      have u := z5 x x1 x2 (by rw [← hse x x1 x2]; exact x3)
      have v := x7 fo z1 z2 hs
      have v2 := v.2 (by omega)
      have u2 := u.2 (by omega)
      have v3 := v2.2 (by omega)
      have u3 := u2.2 (by omega)
      rcases hy with ⟨y1, y2, y3⟩ | ⟨y1, y2⟩
      · omega
      · exact absurd ⟨z1, by omega⟩ y1
theorem BRN_rel {d : Nat → Int → Int} {bs be bs2 be2 : Int → Int} (hp : PI d) (h : BW d bs be) (h2 : BW d bs2 be2) {fw fw' : Int → Int} {nl S0 : Int} (hv : LV d fw nl) (hS : STc d fw nl S0) (hf : 0 < nl → ∀ j, 0 ≤ j → j ≤ nl → fw j = fw' j) :
    ∀ (k : Nat) (fw2 fw2' : Int → Int) (nl2 nl2' S2 : Int), BRN d bs be k fw nl S0 fw2 nl2 S2 → BRMN d bs2 be2 k fw' nl fw2' nl2' → nl2 = nl2' ∧ (0 < nl2 → ∀ j, 0 ≤ j → j ≤ nl2 → fw2 j = fw2' j) ∧ LV d fw2 nl2 ∧ STc d fw2 nl2 S2 := by
  intro k
  induction k with
  | zero =>
    intro fw2 fw2' nl2 nl2' S2 a b
    obtain ⟨a1, a2, a3⟩ := a
    obtain ⟨b1, b2⟩ := b
    subst a1 a2 a3 b1
    exact ⟨rfl, fun q j j0 j1 => (hf q j j0 j1).trans (b2 j j0 j1).symm, hv, hS⟩
  | succ k ih =>
    intro fw2 fw2' nl2 nl2' S2 a b
    obtain ⟨fw1, nl1, S1, a1, x, st, de, a2, a3, a4, a5, a6⟩ := a
    obtain ⟨fw1', nl1', x', fb, ft, f3, b1, b2, b3, b4, b5, b6, b7, b8⟩ := b
    obtain ⟨i1, i2, i3, i4⟩ := ih _ _ _ _ _ a1 b1
    subst i1
    have hx := (CAL_b a3).resolve_left a2
    have hnl := i3.1
    have i2 := i2 (by omega)
    have ex : x = x' := CAL_BRK hp h h2 i3 (fun _ j j0 j1 => (i2 j j0 j1).trans (b3 j j0 j1)) i4 a3 b4
    subst ex
    have q1 := i3.2.1 x hx.1 hx.2.1
    have es : sec d bs fw1 x = sec d bs2 fb x := sec_rel (BW_bs h h2) q1.1 (by omega) ((i2 x hx.1 (by omega)).trans (b3 x hx.1 (by omega))) ((i2 (x + 1) (by omega) (by omega)).trans (b3 (x + 1) (by omega) (by omega)))
    have ho := sec_ok hx.2.2
    rw [← es] at b6
    have g := go_rel h h2 (d 0 0 - (sec d bs fw1 x + 1)).toNat (x + 1) (sec d bs fw1 x + 1) fw1 ft (by omega) (by omega) (by omega) ho.2.2.2 (fun j j0 j1 => (i2 j j0 (by omega)).trans (b5 j j0 (by omega)).symm)
    rw [← a4, ← b6] at g
    have g1 : nl2 = nl2' := g.1
    subst g1
    exact ⟨rfl, fun _ j j0 j1 => ((g.2 j j0 j1 : fw2 j = f3 j)).trans (b8 j j0 j1).symm, a5, a6⟩
theorem BRN_pre {d : Nat → Int → Int} {bs be fw : Int → Int} {nl S0 : Int} {n : Nat} : ∀ (j : Nat) (fw2 : Int → Int) (nl2 S2 : Int), BRN d bs be (n + j) fw nl S0 fw2 nl2 S2 → ∃ fw3 nl3 S3, BRN d bs be n fw nl S0 fw3 nl3 S3
  | 0, fw2, nl2, S2, h => ⟨_, _, _, h⟩
  | j + 1, fw2, nl2, S2, h => by
    obtain ⟨fw1, nl1, S1, a1, a2⟩ := h
    exact BRN_pre j _ _ _ a1
theorem BRMN_pre {d : Nat → Int → Int} {bs be fw : Int → Int} {nl : Int} {n : Nat} : ∀ (j : Nat) (fw2 : Int → Int) (nl2 : Int), BRMN d bs be (n + j) fw nl fw2 nl2 → ∃ fw3 nl3, BRMN d bs be n fw nl fw3 nl3
  | 0, fw2, nl2, h => ⟨_, _, h⟩
  | j + 1, fw2, nl2, h => by
    obtain ⟨fw1, nl1, x, fb, ft, f3, a1, a2⟩ := h
    exact BRMN_pre j _ _ a1
/-- both break up the same number of times -/
theorem BR_num {d : Nat → Int → Int} {bs be bs2 be2 : Int → Int} (hp : PI d) (h : BW d bs be) (h2 : BW d bs2 be2) {fw fw' fw2 fw2' : Int → Int} {nl S0 nl2 nl2' S2 : Int} {n n2 : Int} (hv : LV d fw nl) (hS : STc d fw nl S0) (hf : 0 < nl → ∀ j, 0 ≤ j → j ≤ nl → fw j = fw' j)
    (hn : 0 ≤ n ∧ n ≤ 10) (hn2 : 0 ≤ n2 ∧ n2 ≤ 10) (ha : BRN d bs be n.toNat fw nl S0 fw2 nl2 S2) (hb : BRMN d bs2 be2 n2.toNat fw' nl fw2' nl2') (ea : n = 10 ∨ ∃ st de, CAL d bs be fw2 S2 nl2 (-1) st de) (eb : n2 = 10 ∨ ∃ fb, (∀ j, 0 ≤ j → j ≤ nl2' → fw2' j = fb j) ∧ BRK d bs2 be2 fb nl2' (-1)) : n = n2 := by
  rcases Int.lt_trichotomy n n2 with q | q | q
  · exfalso
    obtain ⟨st, de, ea⟩ := ea.resolve_left (by omega)
    rw [show n2.toNat = (n.toNat + 1) + (n2 - n - 1).toNat by omega] at hb
    obtain ⟨f5, l5, b⟩ := BRMN_pre _ _ _ hb
    obtain ⟨fw1', nl1', x', fb, ft, f3, b1, b2, b3, b4, b5⟩ := b
    obtain ⟨i1, i2, i3, i4⟩ := BRN_rel hp h h2 hv hS hf n.toNat _ _ _ _ _ ha b1
    subst i1
    have := CAL_BRK hp h h2 i3 (fun z j j0 j1 => (i2 z j j0 j1).trans (b3 j j0 j1)) i4 ea b4
    omega
  · exact q
  · exfalso
    obtain ⟨fb, eb1, eb2⟩ := eb.resolve_left (by omega)
    rw [show n.toNat = (n2.toNat + 1) + (n - n2 - 1).toNat by omega] at ha
    obtain ⟨f5, l5, s5, a⟩ := BRN_pre _ _ _ _ ha
    obtain ⟨fw1, nl1, S1, a1, x, st, de, a2, a3, a4⟩ := a
    obtain ⟨i1, i2, i3, i4⟩ := BRN_rel hp h h2 hv hS hf n2.toNat _ _ _ _ _ a1 hb
    subst i1
    have := CAL_BRK hp h h2 i3 (fun z j j0 j1 => (i2 z j j0 j1).trans (eb1 j j0 j1)) i4 a3 eb2
    omega
theorem WRS_uniq {g g2 : Int → Int} {nl k r r2 : Int} (hg : ∀ j, 0 ≤ j → j < nl → g j = g2 j) (h : WRS g nl k r) (h2 : WRS g2 nl k r2) : r = r2 := by
  rcases h with ⟨a1, a2⟩ | ⟨a1, a2⟩
  · rcases h2 with ⟨b1, b2⟩ | ⟨b1, b2⟩
    · omega
    · omega
  · rcases h2 with ⟨b1, b2⟩ | ⟨b1, b2⟩
    · omega
    · rcases a2 with ⟨c1, c2, c3, c4⟩ | ⟨c1, c2⟩
      · rcases b2 with ⟨e1, e2, e3, e4⟩ | ⟨e1, e2⟩
        · rcases Int.lt_trichotomy r r2 with q | q | q
          · exact absurd ((hg r c1 c2).symm.trans c3) (e4 r c1 q)
          · exact q
          · exact absurd ((hg r2 e1 e2).trans e3) (c4 r2 e1 q)
        · exact absurd ((hg r c1 c2).symm.trans c3) (e2 r c1 c2)
      · rcases b2 with ⟨e1, e2, e3, e4⟩ | ⟨e1, e2⟩
        · exact absurd ((hg r2 e1 e2).trans e3) (c2 r2 e1 e2)
        · omega
theorem wr_congr {g g2 : Int → Int} {nl l : Int} (hg : ∀ j, 0 ≤ j → j < nl → g j = g2 j) (l0 : 0 ≤ l) (l1 : l < nl) : wr g nl l = wr g2 nl l := by
  unfold wr
  refine Sm_congr fun j j0 j1 => ?_
  rw [hg j j0 j1, hg l l0 l1]
theorem ei_inj {sl ln gn : Int → Int} {v w : Int} (v0 : 0 ≤ v) (w0 : 0 ≤ w) (hv : ei sl ln gn v = 1) (hw : ei sl ln gn w = 1) (h : Sm (ei sl ln gn) 0 v = Sm (ei sl ln gn) 0 w) : v = w := by
  rcases Int.lt_trichotomy v w with q | q | q
  · have := (ei_rank v0 q hv).2
    omega
  · exact q
  · have := (ei_rank w0 q hw).2
    omega
