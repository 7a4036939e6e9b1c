/-! MATHEMATICS 11: both sides hold the same -/
theorem BW_uniq {d : Nat → Int → Int} {bs be bs2 be2 : Int → Int} (h : BW d bs be) (h2 : BW d bs2 be2) : ∀ (k : Nat) (a : Int), 0 ≤ a → a ≤ d 0 0 → d 0 0 - a ≤ k → bs a = bs2 a := by
  intro k
  induction k with
  | zero =>
    intro a a0 a1 a2
    have e : a = d 0 0 := by omega
    rw [e, h.1, h2.1]
  | succ k ih =>
    intro a a0 a1 a2
    by_cases q : a = d 0 0
    · rw [q, h.1, h2.1]
    · rw [(h.2 a a0 (by omega)).1, (h2.2 a a0 (by omega)).1, am_congr (c2 := cd d bs2 a) _ (fun j j1 j2 => cd_congr (ih (j + 1) (by omega) (by omega) (by omega)))]
theorem BW_bs {d : Nat → Int → Int} {bs be bs2 be2 : Int → Int} (h : BW d bs be) (h2 : BW d bs2 be2) : ∀ a, 0 ≤ a → a ≤ d 0 0 → bs a = bs2 a := fun a a0 a1 => BW_uniq h h2 (d 0 0 - a).toNat a a0 a1 (by omega)
theorem BW_be {d : Nat → Int → Int} {bs be bs2 be2 : Int → Int} (h : BW d bs be) (h2 : BW d bs2 be2) {a : Int} (a0 : 0 ≤ a) (a1 : a < d 0 0) (hb : 0 ≤ bs a) : be a = be2 a := by
  have e := BW_bs h h2
  rw [(h.2 a a0 a1).2 hb, (h2.2 a a0 a1).2 (by rw [← e a a0 (by omega)]; exact hb), am_congr (c2 := cd d bs2 a) _ (fun j j1 j2 => cd_congr (e (j + 1) (by omega) (by omega)))]
theorem go_rel {d : Nat → Int → Int} {bs be bs2 be2 : Int → Int} (h : BW d bs be) (h2 : BW d bs2 be2) : ∀ (m : Nat) (l w : Int) (fw fw2 : Int → Int), 0 ≤ l → 0 ≤ w → w ≤ d 0 0 → 0 ≤ bs w → (∀ j, 0 ≤ j → j < l → fw j = fw2 j) →
    (go be (d 0 0) m l w fw).1 = (go be2 (d 0 0) m l w fw2).1 ∧ ∀ j, 0 ≤ j → j ≤ (go be (d 0 0) m l w fw).1 → (go be (d 0 0) m l w fw).2 j = (go be2 (d 0 0) m l w fw2).2 j := by
  intro m
  have hend : ∀ (l : Int) (fw fw2 : Int → Int), (∀ j, 0 ≤ j → j < l → fw j = fw2 j) → ∀ j, 0 ≤ j → j ≤ l → ab_u fw l (d 0 0) j = ab_u fw2 l (d 0 0) j := fun l fw fw2 hf j j0 j1 => by
    by_cases q : j = l
    · rw [q, ab_u_eq, ab_u_eq]
    · rw [ab_u_ne q, ab_u_ne q]
      exact hf j j0 (by omega)
  induction m with
  | zero =>
    intro l w fw fw2 l0 w0 w1 hb hf
    exact ⟨rfl, hend l fw fw2 hf⟩
  | succ m ih =>
    intro l w fw fw2 l0 w0 w1 hb hf
    by_cases q : w < d 0 0
    · rw [go, go, if_pos q, if_pos q]
      obtain ⟨y1, y2, y3⟩ := BW_WY h w w0 q hb
      have e := BW_be h h2 w0 q hb
      rw [← e]
      refine ih (l + 1) (be w + 1) _ _ (by omega) (by omega) (by omega) y3 (fun j j0 j1 => ?_)
      by_cases q2 : j = l
      · rw [q2, ab_u_eq, ab_u_eq]
      · rw [ab_u_ne q2, ab_u_ne q2]
        exact hf j j0 (by omega)
    · rw [go_end (m + 1) (by omega), go_end (m + 1) (by omega)]
      exact ⟨rfl, hend l fw fw2 hf⟩
theorem sec_rel {d : Nat → Int → Int} {bs bs2 fw fw2 : Int → Int} {l : Int} (hb : ∀ a, 0 ≤ a → a ≤ d 0 0 → bs a = bs2 a) (h0 : 0 ≤ fw l) (h1 : fw l ≤ d 0 0) (e1 : fw l = fw2 l) (e2 : fw (l + 1) = fw2 (l + 1)) : sec d bs fw l = sec d bs2 fw2 l := by
  unfold sec
  rw [← e1, am_congr (c := sc d bs fw l) (c2 := sc d bs2 fw2 l) _ (fun j j1 j2 => ?_)]
  unfold sc
  rw [← e2, ← e1, cd_congr (hb (j + 1) (by omega) (by omega))]
theorem ST_rel {d : Nat → Int → Int} {fw fw2 : Int → Int} {nl dem am str gl dem2 am2 str2 gl2 : Int} {sw lo sl be mid gn abv ln en sw2 lo2 sl2 be2 mid2 gn2 abv2 ln2 en2 : Int → Int} (hv : LV d fw nl) (hf : 0 < nl → ∀ i, 0 ≤ i → i ≤ nl → fw i = fw2 i)
    (h : ST d fw nl dem am str gl sw lo sl be mid gn abv ln en) (h2 : ST d fw2 nl dem2 am2 str2 gl2 sw2 lo2 sl2 be2 mid2 gn2 abv2 ln2 en2) :
    dem = dem2 ∧ am = am2 ∧ str = str2 ∧ gl = gl2 ∧ SAME (d 0 0) nl lo sl be sw mid gn abv ln lo2 sl2 be2 sw2 mid2 gn2 abv2 ln2 := by
  by_cases q : nl = 0
  · have a := h.1
    have b := h2.1
    rw [q, Sm_self] at a b
    rcases h.2.2.2 with c | c
    · rcases h2.2.2.2 with e | e
      · exact ⟨by omega, by omega, by omega, by omega, fun z => absurd q z⟩
      · exact absurd q e.1
    · exact absurd q c.1
  · exact ST_uniq hv (hf (by have := hv.1; omega)) h h2
/-- the demerits of a layout that goes on behind line l -/
theorem go_dem {d : Nat → Int → Int} {bs be ft fw2 : Int → Int} {l q nl2 : Int} (h : BW d bs be) (l0 : 0 ≤ l) (hq : 0 ≤ q + 1) (hq1 : q + 1 ≤ d 0 0) (hb : 0 ≤ bs (q + 1)) (hg : (nl2, fw2) = go be (d 0 0) (d 0 0 - (q + 1)).toNat (l + 1) (q + 1) ft) : Sm (ldm d fw2) 0 nl2 = Sm (ldm d ft) 0 l + dm d (ft l) q + bs (q + 1) := by
  obtain ⟨⟨i1, i1b, i1c⟩, i2, i3, i4, i5, i6⟩ := go_props h (d 0 0 - (q + 1)).toNat (l + 1) (q + 1) ft hq hq1 hb (by omega) (by omega)
  rw [← hg] at i1 i1b i1c i2 i3 i4 i5 i6
  have i2 : ∀ j, j < l + 1 → fw2 j = ft j := i2
  have i3 : fw2 (l + 1) = q + 1 := i3
  have i6 : Sm (ldm d fw2) (l + 1) nl2 = bs (q + 1) := i6
  have i1 : l + 1 ≤ nl2 := i1
  rw [Sm_split (ldm d fw2) (a := 0) (b := l + 1) (c := nl2) (by omega) i1, i6, Sm_succ _ l0]
  have e1 : Sm (ldm d fw2) 0 l = Sm (ldm d ft) 0 l := Sm_congr fun j j0 j1 => by
    unfold ldm
    rw [i2 j (by omega), i2 (j + 1) (by omega)]
  have e2 : ldm d fw2 l = dm d (ft l) q := by
    unfold ldm
    rw [i2 l (by omega), i3, show q + 1 - 1 = q by omega]
  rw [e1, e2]
def STc (d : Nat → Int → Int) (fw : Int → Int) (nl S : Int) : Prop := ∃ (dem am gl : Int) (sw lo sl bg mid gn abv ln en : Int → Int), ST d fw nl dem am S gl sw lo sl bg mid gn abv ln en
theorem WRS_uniq {g g2 : Int → Int} {nl k r r2 : Int} (hg : ∀ j, 0 ≤ j → j < nl → g j = g2 j) (h : WRS g nl k r) (h2 : WRS g2 nl k r2) : r = r2 := by
  rcases h with ⟨a1, a2⟩ | ⟨a1, a2⟩
  · rcases h2 with ⟨b1, b2⟩ | ⟨b1, b2⟩
    · omega
    · omega
  · rcases h2 with ⟨b1, b2⟩ | ⟨b1, b2⟩
    · omega
    · rcases a2 with ⟨c1, c2, c3, c4⟩ | ⟨c1, c2⟩
      · rcases b2 with ⟨e1, e2, e3, e4⟩ | ⟨e1, e2⟩
        · rcases Int.lt_trichotomy r r2 with q | q | q
          · exact absurd ((hg r c1 c2).symm.trans c3) (e4 r c1 q)
          · exact q
          · exact absurd ((hg r2 e1 e2).trans e3) (c4 r2 e1 q)
        · exact absurd ((hg r c1 c2).symm.trans c3) (e2 r c1 c2)
      · rcases b2 with ⟨e1, e2, e3, e4⟩ | ⟨e1, e2⟩
        · exact absurd ((hg r2 e1 e2).trans e3) (c2 r2 e1 e2)
        · omega
theorem wr_congr {g g2 : Int → Int} {nl l : Int} (hg : ∀ j, 0 ≤ j → j < nl → g j = g2 j) (l0 : 0 ≤ l) (l1 : l < nl) : wr g nl l = wr g2 nl l := by
  unfold wr
  refine Sm_congr fun j j0 j1 => ?_
  rw [hg j j0 j1, hg l l0 l1]
