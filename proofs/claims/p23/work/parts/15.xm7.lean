/-! MATHEMATICS 5: what stands in a layout -/
def LDX (d : Nat → Int → Int) (fw : Int → Int) (nl : Int) (lo sl be sw : Int → Int) : Prop := ∀ i, 0 ≤ i → i < nl → ∀ w, fw i ≤ w → w < fw (i + 1) →
  lo w = i ∧ sl w = (if w < fw (i + 1) - 1 then i else -1) ∧ be w = bgF d (swF d (fw i) (fw (i + 1) - 1)) (fw i) w ∧ (w < fw (i + 1) - 1 → sw w = swF d (fw i) (fw (i + 1) - 1) w)
theorem fw_mono {d : Nat → Int → Int} {fw : Int → Int} {nl : Int} (h : LV d fw nl) {i : Int} (h0 : 0 ≤ i) : ∀ k : Nat, i + k ≤ nl → fw i + k ≤ fw (i + k)
  | 0, _ => by
    rw [show i + ((0 : Nat) : Int) = i by omega]
    omega
  | k + 1, hk => by
    have ih := fw_mono h h0 k (by omega)
    have q := (h.2.1 (i + k) (by omega) (by omega)).2.1
    rw [show i + ((k + 1 : Nat) : Int) = i + k + 1 by omega]
    omega
theorem fw_le {d : Nat → Int → Int} {fw : Int → Int} {nl : Int} (h : LV d fw nl) {i j : Int} (h0 : 0 ≤ i) (h1 : i ≤ j) (h2 : j ≤ nl) : fw i + (j - i) ≤ fw j := by
  have := fw_mono h h0 (j - i).toNat (by omega)
  rw [show i + ((j - i).toNat : Int) = j by omega] at this
  omega
/-- the line of a word -/
theorem line_of {fw : Int → Int} : ∀ (k : Nat) (w : Int), fw 0 ≤ w → w < fw k → ∃ i, 0 ≤ i ∧ i < k ∧ fw i ≤ w ∧ w < fw (i + 1)
  | 0, w, h1, h2 => by
    exact absurd h2 (by show ¬ w < fw ((0 : Nat) : Int); rw [show ((0 : Nat) : Int) = 0 from rfl]; omega)
  | k + 1, w, h1, h2 => by
    rcases Int.lt_or_le w (fw k) with q | q
    · obtain ⟨i, a, b, c, e⟩ := line_of k w h1 q
      exact ⟨i, a, by omega, c, e⟩
    · exact ⟨k, by omega, by omega, q, by rw [show (k : Int) + 1 = ((k + 1 : Nat) : Int) by omega]; exact h2⟩
theorem LV_line {d : Nat → Int → Int} {fw : Int → Int} {nl : Int} (h : LV d fw nl) (hn : ¬ nl = 0) {w : Int} (h0 : 0 ≤ w) (h1 : w < d 0 0) : ∃ i, 0 ≤ i ∧ i < nl ∧ fw i ≤ w ∧ w < fw (i + 1) := by
  have q := h.2.2 (by have := h.1; omega)
  have e : ((nl.toNat : Nat) : Int) = nl := by have := h.1; omega
  obtain ⟨i, a, b, c, f⟩ := line_of (fw := fw) nl.toNat w (by omega) (by rw [e]; omega)
  exact ⟨i, by omega, by omega, c, f⟩
theorem swF_b {d : Nat → Int → Int} {a b : Int} (hp : PI d) (h0 : 0 ≤ a) (h1 : a ≤ b) (h2 : b < d 0 0) : ∀ w, a ≤ w → w < b → 1 ≤ swF d a b w ∧ swF d a b w ≤ 40 := by
  intro w q1 q2
  have k := kd_b hp (w := w) (by omega) (by omega)
  by_cases hn : 0 < df d a b ∧ b = d 0 0 - 1
  · rw [swF_last hn]
    unfold na0
    omega
  · rw [swF_sh hn]
    have hc : ∀ w, a ≤ w → w < b → 0 ≤ sby d a b * (sbd d (sby d a b) (d 3 w) - na0 d w) := fun w q1 q2 => by
      have := kd_b hp (w := w) (by omega) (by omega)
      unfold sby sbd na0
      split
      · rw [if_pos (by omega)]
        omega
      · rw [if_neg (by omega)]
        omega
    have := (rnds_what (sby_or d a b) h1 (fun w q1 q2 => kd3 hp (w := w) (by omega) (by omega)) hc (u := sun d a b) 40).2.1 w q1 q2
    generalize (rnds d (sby d a b) a b 40 (na0 d, sun d a b)).1 w = z at this ⊢
    unfold sbd na0 at this
    rcases sby_or d a b with e | e
    · rw [e, if_pos (by omega)] at this
      omega
    · rw [e, if_neg (by omega)] at this
      omega
theorem bgF_b {d : Nat → Int → Int} {a b : Int} (hp : PI d) (h0 : 0 ≤ a) (h2 : b < d 0 0) {w : Int} (h3 : a ≤ w) (h4 : w ≤ b) : -5 ≤ bgF d (swF d a b) a w ∧ bgF d (swF d a b) a w ≤ 38400 := by
  have e1 := hL_b hp (a := a) h0 (by omega)
  have e2 := Sm_b60 (f := fun v => d 1 v + swF d a b v) (hi := 640) h0 h3 (by have := hp.1; omega) (by omega) (fun j q1 q2 => by
    have x := (hp.2.1 j (by omega) (by omega)).1
    have y := swF_b hp h0 (by omega) h2 j q1 (by omega)
    omega)
  unfold bgF
  omega
theorem bgF_congr {d : Nat → Int → Int} {f g : Int → Int} {a w : Int} (h : ∀ j, a ≤ j → j < w → f j = g j) : bgF d f a w = bgF d g a w := by
  unfold bgF
  rw [Sm_congr (f := fun v => d 1 v + f v) (g := fun v => d 1 v + g v) fun j q1 q2 => by rw [h j q1 q2]]
theorem LDX_step {d : Nat → Int → Int} {fw : Int → Int} {nl i : Int} {lo sl be sw lo1 sl1 be1 g : Int → Int} (hv : LV d fw nl) (h0 : 0 ≤ i) (h1 : i < nl) (h : LDX d fw i lo sl be sw)
    (hg1 : ∀ j, fw i ≤ j → j < fw (i + 1) - 1 → g j = swF d (fw i) (fw (i + 1) - 1) j) (hg2 : ∀ j, ¬ (fw i ≤ j ∧ j < fw (i + 1) - 1) → g j = sw j)
    (hq1 : ∀ j, fw i ≤ j → j ≤ fw (i + 1) - 1 → lo1 j = i ∧ sl1 j = (if j < fw (i + 1) - 1 then i else -1) ∧ be1 j = bgF d g (fw i) j) (hq2 : ∀ j, ¬ (fw i ≤ j ∧ j ≤ fw (i + 1) - 1) → lo1 j = lo j ∧ sl1 j = sl j ∧ be1 j = be j) : LDX d fw (i + 1) lo1 sl1 be1 g := by
  intro k k0 k1 w w0 w1
  by_cases hk : k = i
  · subst hk
    obtain ⟨a1, a2, a3⟩ := hq1 w w0 (by omega)
    exact ⟨a1, a2, by rw [a3]; exact bgF_congr fun j q1 q2 => hg1 j q1 (by omega), fun q => hg1 w w0 q⟩
  · have m := fw_le hv (i := k + 1) (j := i) (by omega) (by omega) (by omega)
    obtain ⟨a1, a2, a3⟩ := hq2 w (by omega)
    obtain ⟨b1, b2, b3, b4⟩ := h k k0 (by omega) w w0 w1
    exact ⟨by rw [a1, b1], by rw [a2, b2], by rw [a3, b3], fun q => by rw [hg2 w (by omega)]; exact b4 q⟩
theorem LD_facts {d : Nat → Int → Int} {fw : Int → Int} {nl : Int} {lo sl be sw : Int → Int} (hp : PI d) (hv : LV d fw nl) (h : LDX d fw nl lo sl be sw) (hn : ¬ nl = 0) :
    (∀ v, 0 ≤ v → v < d 0 0 → 0 ≤ lo v ∧ lo v ≤ 59) ∧ (∀ u v, 0 ≤ u → u ≤ v → v < d 0 0 → lo u ≤ lo v) ∧ (∀ v, 0 ≤ v → v < d 0 0 → sl v = lo v ∨ sl v = -1) ∧ (∀ v, 0 ≤ v → v < d 0 0 → -100 ≤ be v ∧ be v ≤ 90000) := by
  have hb := hp.1
  have hb2 := hv.1
  refine ⟨fun v q1 q2 => ?_, fun u v q1 q2 q3 => ?_, fun v q1 q2 => ?_, fun v q1 q2 => ?_⟩
  · obtain ⟨i, a, b, c, e⟩ := LV_line hv hn q1 q2
    rw [(h i a b v c e).1]
    omega
  · obtain ⟨i, a, b, c, e⟩ := LV_line hv hn (w := u) q1 (by omega)
    obtain ⟨j, a2, b2, c2, e2⟩ := LV_line hv hn (w := v) (by omega) q3
    rw [(h i a b u c e).1, (h j a2 b2 v c2 e2).1]
    rcases Int.lt_or_le j i with z | z
    · have := fw_le hv (i := j + 1) (j := i) (by omega) (by omega) (by omega)
      omega
    · exact z
  · obtain ⟨i, a, b, c, e⟩ := LV_line hv hn q1 q2
    rw [(h i a b v c e).1, (h i a b v c e).2.1]
    split
    · exact Or.inl rfl
    · exact Or.inr rfl
  · obtain ⟨i, a, b, c, e⟩ := LV_line hv hn q1 q2
    have l := hv.2.1 i a b
    rw [(h i a b v c e).2.2.1]
    have := bgF_b hp l.1 (b := fw (i + 1) - 1) (by omega) c (by omega)
    omega
/-- all that stands in a layout of the class -/
def ST (d : Nat → Int → Int) (fw : Int → Int) (nl dem am str gl : Int) (sw lo sl be mid gn abv ln en : Int → Int) : Prop :=
  dem = Sm (ldm d fw) 0 nl ∧ LDX d fw nl lo sl be sw ∧ (∀ v, -1000 ≤ sw v ∧ sw v ≤ 1000) ∧ RVX (d 0 0) nl (d 8 0) (d 1) lo sl be sw am str gl mid gn abv ln en

set_option maxRecDepth 20000 in
theorem c_X4_hasWord (s : Nat → Int → Int) (a : Int) (ha : ab_r a) (hn : 0 ≤ s 103 0 ∧ s 103 0 ≤ 60) : ab_Mt yX4_hasWord cX4_hasWord 2 (some .boolean) ({ frames := 0, cells := 0, slots := 0, locals := 0 } : Room) false 0 0 [.inr (some 5), .inl a] (WW s) (fun r h2 => r = some (.inl (if 0 ≤ a ∧ a < s 103 0 then 1 else 0)) ∧ h2 = WW s) := by
  refine ab_mk RX4 false rfl pn_X4_hasWord (fun z => by cases z) (Nat.le_of_ble_eq_true rfl) (fun V hV => ?_)
  show V 0 [some (.inr (some 5)), some (.inl a)] [] (WW s) 0 0
  refine rb_iload_n hV dX4_hasWord_0 rfl rfl ?_
  refine rb_if_lt hV (tgt := 16) dX4_hasWord_1 (by decide) (by first | assumption | (unfold ab_r at *; omega)) (fun c1 => ?_) (fun c1 => ?_)
  · refine rb_iconst hV dX4_hasWord_16 ?_
    refine rb_ret hV (r := some (.inl 0)) dX4_hasWord_17 rfl ⟨(Nat.le_of_ble_eq_true rfl), (Nat.le_of_ble_eq_true rfl)⟩ (by first | exact Or.inl rfl | exact Or.inr rfl | omega) ?_
    exact ⟨by first | (rw [if_pos (by omega)]; done) | (rw [if_neg (by omega)]; done), rfl⟩
  · refine rb_iload_n hV dX4_hasWord_4 rfl rfl ?_
    refine rb_aload_n hV dX4_hasWord_5 rfl rfl ?_
    refine rb_get hV (v := .inl (s 103 0)) dX4_hasWord_6 ⟨RX4, TX4, 6, rfl, (Nat.le_of_ble_eq_true rfl), lf_X4_9⟩ (gw_5 _) rfl ?_
    refine rb_icmp_ge hV (tgt := 16) dX4_hasWord_9 (by decide) ⟨(by first | assumption | (unfold ab_r at *; omega)), (by first | assumption | (unfold ab_r at *; omega))⟩ (fun c9 => ?_) (fun c9 => ?_)
    · refine rb_iconst hV dX4_hasWord_16 ?_
      refine rb_ret hV (r := some (.inl 0)) dX4_hasWord_17 rfl ⟨(Nat.le_of_ble_eq_true rfl), (Nat.le_of_ble_eq_true rfl)⟩ (by first | exact Or.inl rfl | exact Or.inr rfl | omega) ?_
      exact ⟨by first | (rw [if_pos (by omega)]; done) | (rw [if_neg (by omega)]; done), rfl⟩
    · refine rb_iconst hV dX4_hasWord_12 ?_
      refine rb_goto hV (tgt := 17) dX4_hasWord_13 (by decide) ?_
      refine rb_ret hV (r := some (.inl 1)) dX4_hasWord_17 rfl ⟨(Nat.le_of_ble_eq_true rfl), (Nat.le_of_ble_eq_true rfl)⟩ (by first | exact Or.inl rfl | exact Or.inr rfl | omega) ?_
      exact ⟨by first | (rw [if_pos (by omega)]; done) | (rw [if_neg (by omega)]; done), rfl⟩

set_option maxRecDepth 20000 in
theorem c_X1_settle_la (s : Nat → Int → Int) (hp : PI (vX s)) (hr : RU s) (hv : LV (vX s) (s 26) (s 107 0)) (hsw : ∀ v, -1000 ≤ s 30 v ∧ s 30 v ≤ 1000) (hln : ∀ v, 0 ≤ s 32 v ∧ s 32 v ≤ 60) : ab_Mt yX1_settle cX1_settle 4 none ({ frames := 3, cells := 0, slots := 0, locals := 75 } : Room) false 0 0 [.inr (some 25)] (WW s) (fun r h2 => r = none ∧ ∃ dem sw lo sl be am str gl mid gn abv ln en, h2 = WW (ab_s (ab_s (ab_s (ab_s (ab_s (ab_s (ab_s (ab_s (ab_s (ab_s (ab_s (ab_s (ab_s s 108 (fun _ => dem)) 30 sw) 27 lo) 28 sl) 29 be) 109 (fun _ => am)) 110 (fun _ => str)) 111 (fun _ => gl)) 33 mid) 35 gn) 34 abv) 32 ln) 36 en) ∧ ST (vX s) (s 26) (s 107 0) dem am str gl sw lo sl be mid gn abv ln en) := by
  refine ab_mk RX1 false rfl pn_X1_settle (fun z => by cases z) (Nat.le_of_ble_eq_true rfl) (fun V hV => ?_)
  show V 0 [some (.inr (some 25)), none, none, none] [] (WW s) 0 0
  have hn : 0 ≤ s 103 0 ∧ s 103 0 ≤ 60 := hp.1
  have hnl : 0 ≤ s 107 0 ∧ s 107 0 ≤ s 103 0 := hv.1
  refine rb_aload_n hV dX1_settle_0 rfl rfl ?_
  refine rb_iconst hV dX1_settle_1 ?_
  refine rb_put hV (C := RX1) (T := TX1) (N := 12) (ci := 1) (j := 5) dX1_settle_2 rfl (Nat.le_of_ble_eq_true rfl) lf_X1_31 rfl (gw_25 _) (Nat.le_of_ble_eq_true rfl) (ft_X1_5 _) (pw_25_5 _ _) ?_
  refine rb_iconst hV dX1_settle_5 ?_
  refine rb_istore_n hV (L2 := [some (.inr (some 25)), some (.inl 0), none, none]) dX1_settle_6 rfl (Nat.le_of_ble_eq_true rfl) rfl ?_
  refine rb_heq (b := (ab_s (ab_s (ab_s (ab_s (ab_s s 108 (fun _ => 0)) 30 (s 30)) 27 (s 27)) 28 (s 28)) 29 (s 29))) ((ab_s_id rfl).trans ((ab_s_id rfl).trans ((ab_s_id rfl).trans (ab_s_id rfl)))).symm ?_
  have h7 : ∀ (n7 : Nat) (i : Int) (dem : Int) (sw : Int → Int) (lo : Int → Int) (sl : Int → Int) (be : Int → Int), (0 ≤ i ∧ i ≤ s 107 0) → (dem = Sm (ldm (vX s) (s 26)) 0 i) → (LDX (vX s) (s 26) i lo sl be sw) → (∀ v, -1000 ≤ sw v ∧ sw v ≤ 1000) → ((s 107 0 - i).toNat) < n7 → V 7 [some (.inr (some 25)), some (.inl i), none, none] [] (WW (ab_s (ab_s (ab_s (ab_s (ab_s s 108 (fun _ => dem)) 30 sw) 27 lo) 28 sl) 29 be)) 0 0 := by
    intro n7
    induction n7 with
    | zero => intro i dem sw lo sl be h1 h2 h3 h4 hm; omega
    | succ n7 ih7 =>
      intro i dem sw lo sl be h1 h2 h3 h4 hm
      refine rb_iload_n hV dX1_settle_7 rfl rfl ?_
      refine rb_aload_n hV dX1_settle_8 rfl rfl ?_
      refine rb_get hV (v := .inl (s 107 0)) dX1_settle_9 ⟨RX1, TX1, 12, rfl, (Nat.le_of_ble_eq_true rfl), lf_X1_27⟩ (gw_25 _) rfl ?_
      refine rb_icmp_ge hV (tgt := 86) dX1_settle_12 (by decide) ⟨(by first | assumption | (unfold ab_r at *; omega)), (by first | assumption | (unfold ab_r at *; omega))⟩ (fun c12 => ?_) (fun c12 => ?_)
      · have e9 : i = s 107 0 := by omega
        have hLD := LD_facts hp hv (e9 ▸ h3)
        refine rb_aload_n hV dX1_settle_86 rfl rfl ?_
        refine rb_get hV (v := .inr (some 31)) dX1_settle_87 ⟨RX1, TX1, 12, rfl, (Nat.le_of_ble_eq_true rfl), lf_X1_53⟩ (gw_25 _) rfl ?_
        refine rb_aload_n hV dX1_settle_90 rfl rfl ?_
        refine rb_aload_n hV dX1_settle_91 rfl rfl ?_
        refine rb_get hV (v := .inr (some 5)) dX1_settle_92 ⟨RX1, TX1, 12, rfl, (Nat.le_of_ble_eq_true rfl), lf_X1_9⟩ (gw_25 _) rfl ?_
        refine rb_get hV (v := .inl (s 103 0)) dX1_settle_95 ⟨RX4, TX4, 6, rfl, (Nat.le_of_ble_eq_true rfl), lf_X1_85⟩ (gw_5 _) rfl ?_
        refine rb_aload_n hV dX1_settle_98 rfl rfl ?_
        refine rb_get hV (v := .inr (some 1)) dX1_settle_99 ⟨RX1, TX1, 12, rfl, (Nat.le_of_ble_eq_true rfl), lf_X1_15⟩ (gw_25 _) rfl ?_
        refine rb_get hV (v := .inl (s 102 0)) dX1_settle_102 ⟨RX6, TX6, 6, rfl, (Nat.le_of_ble_eq_true rfl), lf_X1_118⟩ (gw_1 _) rfl ?_
        refine rb_callV hV (rest := []) dX1_settle_105 (c_X5_find_la (ab_s (ab_s (ab_s (ab_s (ab_s s 108 (fun _ => dem)) 30 sw) 27 lo) 28 sl) 29 be) (s 102 0) (show 0 ≤ (s 103 0) ∧ (s 103 0) ≤ 60 by omega) hv.1 hLD h4 (fun v q1 q2 => (hp.2.1 v q1 q2).1) hln hp.2.2.2.2.1) lk_X1_123 rfl (Or.inl ⟨5, _, TX5, 8, gw_31 _, rfl⟩) rfl ⟨rfl, rfl, (Nat.le_of_ble_eq_true rfl), (Nat.le_of_ble_eq_true rfl), (Nat.le_of_ble_eq_true rfl), (Nat.le_of_ble_eq_true rfl)⟩ (Nat.le_of_ble_eq_true rfl) (fun r9 h9 p9 => ?_)
        obtain ⟨rfl, am, str, gl, mid, gn, abv, ln, en, rfl, hrv⟩ := p9
        show V 108 [some (.inr (some 25)), some (.inl i), none, none] [] (WW (ab_s (ab_s (ab_s (ab_s (ab_s (ab_s (ab_s (ab_s (ab_s (ab_s (ab_s (ab_s (ab_s s 108 (fun _ => dem)) 30 sw) 27 lo) 28 sl) 29 be) 109 (fun _ => am)) 110 (fun _ => str)) 111 (fun _ => gl)) 33 mid) 35 gn) 34 abv) 32 ln) 36 en)) 0 0
        refine rb_ret hV (r := none) dX1_settle_108 rfl ⟨(Nat.le_of_ble_eq_true rfl), (Nat.le_of_ble_eq_true rfl)⟩ trivial ?_
        exact ⟨rfl, _, _, _, _, _, _, _, _, _, _, _, _, _, rfl, e9 ▸ h2, e9 ▸ h3, h4, hrv⟩
      · have hli := hv.2.1 i h1.1 (by omega)
        have hli2 : s 26 (i + 1) ≤ s 103 0 := hli.2.2.1
        have hli3 := hli.2.1
        have hli1 := hli.1
        refine rb_aload_n hV dX1_settle_15 rfl rfl ?_
        refine rb_iload_n hV dX1_settle_16 rfl rfl ?_
        refine rb_callV hV (rest := []) dX1_settle_17 (c_X1_firstWord_la (ab_s (ab_s (ab_s (ab_s (ab_s s 108 (fun _ => dem)) 30 sw) 27 lo) 28 sl) 29 be) i (show 0 ≤ (s 107 0) ∧ (s 107 0) ≤ 60 by omega) (show 0 ≤ i ∧ i < (s 107 0) by omega)) lk_X1_70 rfl (Or.inl ⟨1, _, TX1, 12, gw_25 _, rfl⟩) rfl ⟨rfl, rfl, (Nat.le_of_ble_eq_true rfl), (Nat.le_of_ble_eq_true rfl), (Nat.le_of_ble_eq_true rfl), (Nat.le_of_ble_eq_true rfl)⟩ (Nat.le_of_ble_eq_true rfl) (fun r9 h9 p9 => ?_)
        obtain ⟨rfl, rfl⟩ := p9
        show V 20 [some (.inr (some 25)), some (.inl i), none, none] [.inl (s 26 i)] (WW (ab_s (ab_s (ab_s (ab_s (ab_s s 108 (fun _ => dem)) 30 sw) 27 lo) 28 sl) 29 be)) 0 0
        refine rb_istore_n hV (L2 := [some (.inr (some 25)), some (.inl i), some (.inl (s 26 i)), none]) dX1_settle_20 rfl (Nat.le_of_ble_eq_true rfl) rfl ?_
        refine rb_aload_n hV dX1_settle_21 rfl rfl ?_
        refine rb_iload_n hV dX1_settle_22 rfl rfl ?_
        refine rb_callV hV (rest := []) dX1_settle_23 (c_X1_lastWord_la (ab_s (ab_s (ab_s (ab_s (ab_s s 108 (fun _ => dem)) 30 sw) 27 lo) 28 sl) 29 be) i (show 0 ≤ (s 107 0) ∧ (s 107 0) ≤ 60 by omega) (show 0 ≤ i ∧ i < (s 107 0) by omega)) lk_X1_74 rfl (Or.inl ⟨1, _, TX1, 12, gw_25 _, rfl⟩) rfl ⟨rfl, rfl, (Nat.le_of_ble_eq_true rfl), (Nat.le_of_ble_eq_true rfl), (Nat.le_of_ble_eq_true rfl), (Nat.le_of_ble_eq_true rfl)⟩ (Nat.le_of_ble_eq_true rfl) (fun r9 h9 p9 => ?_)
        obtain ⟨rfl, rfl⟩ := p9
        show V 26 [some (.inr (some 25)), some (.inl i), some (.inl (s 26 i)), none] [.inl ((s 26 (i + 1)) - 1)] (WW (ab_s (ab_s (ab_s (ab_s (ab_s s 108 (fun _ => dem)) 30 sw) 27 lo) 28 sl) 29 be)) 0 0
        refine rb_istore_n hV (L2 := [some (.inr (some 25)), some (.inl i), some (.inl (s 26 i)), some (.inl ((s 26 (i + 1)) - 1))]) dX1_settle_26 rfl (Nat.le_of_ble_eq_true rfl) rfl ?_
        refine rb_aload_n hV dX1_settle_27 rfl rfl ?_
        refine rb_get hV (v := .inr (some 5)) dX1_settle_28 ⟨RX1, TX1, 12, rfl, (Nat.le_of_ble_eq_true rfl), lf_X1_9⟩ (gw_25 _) rfl ?_
        refine rb_iload_n hV dX1_settle_31 rfl rfl ?_
        refine rb_callV hV (rest := []) dX1_settle_32 (c_X4_hasWord (ab_s (ab_s (ab_s (ab_s (ab_s s 108 (fun _ => dem)) 30 sw) 27 lo) 28 sl) 29 be) (s 26 i) (by first | assumption | (unfold ab_r at *; omega)) (show 0 ≤ (s 103 0) ∧ (s 103 0) ≤ 60 by omega)) lk_X1_104 rfl (Or.inl ⟨4, _, TX4, 6, gw_5 _, rfl⟩) rfl ⟨rfl, rfl, (Nat.le_of_ble_eq_true rfl), (Nat.le_of_ble_eq_true rfl), (Nat.le_of_ble_eq_true rfl), (Nat.le_of_ble_eq_true rfl)⟩ (Nat.le_of_ble_eq_true rfl) (fun r9 h9 p9 => ?_)
        obtain ⟨rfl, rfl⟩ := p9
        show V 35 [some (.inr (some 25)), some (.inl i), some (.inl (s 26 i)), some (.inl ((s 26 (i + 1)) - 1))] [.inl (if 0 ≤ (s 26 i) ∧ (s 26 i) < (s 103 0) then 1 else 0)] (WW (ab_s (ab_s (ab_s (ab_s (ab_s s 108 (fun _ => dem)) 30 sw) 27 lo) 28 sl) 29 be)) 0 0
        rw [if_pos (show 0 ≤ (s 26 i) ∧ (s 26 i) < (s 103 0) by omega)]
        show V 35 [some (.inr (some 25)), some (.inl i), some (.inl (s 26 i)), some (.inl ((s 26 (i + 1)) - 1))] [.inl 1] (WW (ab_s (ab_s (ab_s (ab_s (ab_s s 108 (fun _ => dem)) 30 sw) 27 lo) 28 sl) 29 be)) 0 0
        refine rb_if_eq hV (tgt := 80) dX1_settle_35 (by decide) (by first | assumption | (unfold ab_r at *; omega)) (fun z => absurd z (by decide)) (fun _ => ?_)
        refine rb_aload_n hV dX1_settle_38 rfl rfl ?_
        refine rb_get hV (v := .inr (some 5)) dX1_settle_39 ⟨RX1, TX1, 12, rfl, (Nat.le_of_ble_eq_true rfl), lf_X1_9⟩ (gw_25 _) rfl ?_
        refine rb_iload_n hV dX1_settle_42 rfl rfl ?_
        refine rb_callV hV (rest := []) dX1_settle_43 (c_X4_hasWord (ab_s (ab_s (ab_s (ab_s (ab_s s 108 (fun _ => dem)) 30 sw) 27 lo) 28 sl) 29 be) ((s 26 (i + 1)) - 1) (by first | assumption | (unfold ab_r at *; omega)) (show 0 ≤ (s 103 0) ∧ (s 103 0) ≤ 60 by omega)) lk_X1_104 rfl (Or.inl ⟨4, _, TX4, 6, gw_5 _, rfl⟩) rfl ⟨rfl, rfl, (Nat.le_of_ble_eq_true rfl), (Nat.le_of_ble_eq_true rfl), (Nat.le_of_ble_eq_true rfl), (Nat.le_of_ble_eq_true rfl)⟩ (Nat.le_of_ble_eq_true rfl) (fun r9 h9 p9 => ?_)
        obtain ⟨rfl, rfl⟩ := p9
        show V 46 [some (.inr (some 25)), some (.inl i), some (.inl (s 26 i)), some (.inl ((s 26 (i + 1)) - 1))] [.inl (if 0 ≤ ((s 26 (i + 1)) - 1) ∧ ((s 26 (i + 1)) - 1) < (s 103 0) then 1 else 0)] (WW (ab_s (ab_s (ab_s (ab_s (ab_s s 108 (fun _ => dem)) 30 sw) 27 lo) 28 sl) 29 be)) 0 0
        rw [if_pos (show 0 ≤ ((s 26 (i + 1)) - 1) ∧ ((s 26 (i + 1)) - 1) < (s 103 0) by omega)]
        show V 46 [some (.inr (some 25)), some (.inl i), some (.inl (s 26 i)), some (.inl ((s 26 (i + 1)) - 1))] [.inl 1] (WW (ab_s (ab_s (ab_s (ab_s (ab_s s 108 (fun _ => dem)) 30 sw) 27 lo) 28 sl) 29 be)) 0 0
        refine rb_if_eq hV (tgt := 80) dX1_settle_46 (by decide) (by first | assumption | (unfold ab_r at *; omega)) (fun z => absurd z (by decide)) (fun _ => ?_)
        refine rb_aload_n hV dX1_settle_49 rfl rfl ?_
        refine rb_dup hV dX1_settle_50 ?_
        refine rb_get hV (v := .inl dem) dX1_settle_51 ⟨RX1, TX1, 12, rfl, (Nat.le_of_ble_eq_true rfl), lf_X1_31⟩ (gw_25 _) rfl ?_
        refine rb_aload_n hV dX1_settle_54 rfl rfl ?_
        refine rb_get hV (v := .inr (some 11)) dX1_settle_55 ⟨RX1, TX1, 12, rfl, (Nat.le_of_ble_eq_true rfl), lf_X1_19⟩ (gw_25 _) rfl ?_
        refine rb_iload_n hV dX1_settle_58 rfl rfl ?_
        refine rb_iload_n hV dX1_settle_59 rfl rfl ?_
        refine rb_callV hV (rest := [.inl dem, .inr (some 25)]) dX1_settle_60 (c_X2_demerits (ab_s (ab_s (ab_s (ab_s (ab_s s 108 (fun _ => dem)) 30 sw) 27 lo) 28 sl) 29 be) (s 26 i) ((s 26 (i + 1)) - 1) hp hr (show 0 ≤ (s 26 i) ∧ (s 26 i) ≤ ((s 26 (i + 1)) - 1) ∧ ((s 26 (i + 1)) - 1) < (s 103 0) by omega)) lk_X1_77 rfl (Or.inl ⟨2, _, TX2, 8, gw_11 _, rfl⟩) rfl ⟨rfl, rfl, (Nat.le_of_ble_eq_true rfl), (Nat.le_of_ble_eq_true rfl), (Nat.le_of_ble_eq_true rfl), (Nat.le_of_ble_eq_true rfl)⟩ (Nat.le_of_ble_eq_true rfl) (fun r9 h9 p9 => ?_)
        obtain ⟨rfl, rfl⟩ := p9
        show V 63 [some (.inr (some 25)), some (.inl i), some (.inl (s 26 i)), some (.inl ((s 26 (i + 1)) - 1))] [.inl (xd (vX s) (s 26 i) ((s 26 (i + 1)) - 1)), .inl dem, .inr (some 25)] (WW (ab_s (ab_s (ab_s (ab_s (ab_s s 108 (fun _ => dem)) 30 sw) 27 lo) 28 sl) 29 be)) 0 0
        refine rb_iadd hV dX1_settle_63 ?_
        refine rb_put hV (C := RX1) (T := TX1) (N := 12) (ci := 1) (j := 5) dX1_settle_64 rfl (Nat.le_of_ble_eq_true rfl) lf_X1_31 rfl (gw_25 _) (Nat.le_of_ble_eq_true rfl) (ft_X1_5 _) ((pw_25_5 _ _).trans (congrArg WW ((ab_s_sw (by decide)).trans (congrArg (fun x => ab_s x 29 _) ((ab_s_sw (by decide)).trans (congrArg (fun x => ab_s x 28 _) ((ab_s_sw (by decide)).trans (congrArg (fun x => ab_s x 27 _) ((ab_s_sw (by decide)).trans (congrArg (fun x => ab_s x 30 _) (ab_s_same _ 108 _ _))))))))))) ?_
        refine rb_aload_n hV dX1_settle_67 rfl rfl ?_
        refine rb_iload_n hV dX1_settle_68 rfl rfl ?_
        refine rb_iload_n hV dX1_settle_69 rfl rfl ?_
        refine rb_callV hV (rest := []) dX1_settle_70 (c_X1_shareOut_la (ab_s (ab_s (ab_s (ab_s (ab_s s 108 (fun _ => (dem + (xd (vX s) (s 26 i) ((s 26 (i + 1)) - 1))))) 30 sw) 27 lo) 28 sl) 29 be) (s 26 i) ((s 26 (i + 1)) - 1) hp hr (show 0 ≤ (s 26 i) ∧ (s 26 i) ≤ ((s 26 (i + 1)) - 1) ∧ ((s 26 (i + 1)) - 1) < (s 103 0) by omega)) lk_X1_110 rfl (Or.inl ⟨1, _, TX1, 12, gw_25 _, rfl⟩) rfl ⟨rfl, rfl, (Nat.le_of_ble_eq_true rfl), (Nat.le_of_ble_eq_true rfl), (Nat.le_of_ble_eq_true rfl), (Nat.le_of_ble_eq_true rfl)⟩ (Nat.le_of_ble_eq_true rfl) (fun r9 h9 p9 => ?_)
        obtain ⟨rfl, gw, rfl, hgw1, hgw2⟩ := p9
        refine rb_heq (b := (ab_s (ab_s (ab_s (ab_s (ab_s s 108 (fun _ => (dem + (xd (vX s) (s 26 i) ((s 26 (i + 1)) - 1))))) 30 gw) 27 lo) 28 sl) 29 be)) ((ab_s_sw (by decide)).trans (congrArg (fun x => ab_s x 29 _) ((ab_s_sw (by decide)).trans (congrArg (fun x => ab_s x 28 _) ((ab_s_sw (by decide)).trans (congrArg (fun x => ab_s x 27 _) (ab_s_same _ 30 _ _))))))) ?_
        show V 73 [some (.inr (some 25)), some (.inl i), some (.inl (s 26 i)), some (.inl ((s 26 (i + 1)) - 1))] [] (WW (ab_s (ab_s (ab_s (ab_s (ab_s s 108 (fun _ => (dem + (xd (vX s) (s 26 i) ((s 26 (i + 1)) - 1))))) 30 gw) 27 lo) 28 sl) 29 be)) 0 0
        refine rb_aload_n hV dX1_settle_73 rfl rfl ?_
        refine rb_iload_n hV dX1_settle_74 rfl rfl ?_
        refine rb_iload_n hV dX1_settle_75 rfl rfl ?_
        refine rb_iload_n hV dX1_settle_76 rfl rfl ?_
        refine rb_callV hV (rest := []) dX1_settle_77 (c_X1_placeWords_la (ab_s (ab_s (ab_s (ab_s (ab_s s 108 (fun _ => (dem + (xd (vX s) (s 26 i) ((s 26 (i + 1)) - 1))))) 30 gw) 27 lo) 28 sl) 29 be) i (s 26 i) ((s 26 (i + 1)) - 1) hp hr (show 0 ≤ (s 26 i) ∧ (s 26 i) ≤ ((s 26 (i + 1)) - 1) ∧ ((s 26 (i + 1)) - 1) < (s 103 0) by omega)) lk_X1_114 rfl (Or.inl ⟨1, _, TX1, 12, gw_25 _, rfl⟩) rfl ⟨rfl, rfl, (Nat.le_of_ble_eq_true rfl), (Nat.le_of_ble_eq_true rfl), (Nat.le_of_ble_eq_true rfl), (Nat.le_of_ble_eq_true rfl)⟩ (Nat.le_of_ble_eq_true rfl) (fun r9 h9 p9 => ?_)
        obtain ⟨rfl, lo1, sl1, be1, rfl, hpw1, hpw2⟩ := p9
        refine rb_heq (b := (ab_s (ab_s (ab_s (ab_s (ab_s s 108 (fun _ => (dem + (xd (vX s) (s 26 i) ((s 26 (i + 1)) - 1))))) 30 gw) 27 lo1) 28 sl1) 29 be1)) ((congrArg (fun x => ab_s x 29 _) ((congrArg (fun x => ab_s x 28 _) ((ab_s_sw (by decide)).trans (congrArg (fun x => ab_s x 29 _) ((ab_s_sw (by decide)).trans (congrArg (fun x => ab_s x 28 _) (ab_s_same _ 27 _ _)))))).trans ((ab_s_sw (by decide)).trans (congrArg (fun x => ab_s x 29 _) (ab_s_same _ 28 _ _))))).trans (ab_s_same _ 29 _ _)) ?_
        show V 80 [some (.inr (some 25)), some (.inl i), some (.inl (s 26 i)), some (.inl ((s 26 (i + 1)) - 1))] [] (WW (ab_s (ab_s (ab_s (ab_s (ab_s s 108 (fun _ => (dem + (xd (vX s) (s 26 i) ((s 26 (i + 1)) - 1))))) 30 gw) 27 lo1) 28 sl1) 29 be1)) 0 0
        refine rb_iinc hV (L2 := [some (.inr (some 25)), some (.inl (i + 1)), some (.inl (s 26 i)), some (.inl ((s 26 (i + 1)) - 1))]) dX1_settle_80 rfl rfl rfl ?_
        refine rb_goto hV (tgt := 7) dX1_settle_83 (by decide) ?_
        refine rb_weak hV (L2 := [some (.inr (some 25)), some (.inl (i + 1)), none, none]) ⟨rfl, ⟨rfl, trivial⟩⟩ ?_
        refine ih7 (i + 1) (dem + (xd (vX s) (s 26 i) ((s 26 (i + 1)) - 1))) (gw) (lo1) (sl1) (be1) ?_ ?_ ?_ ?_ ?_
        · omega
        · rw [h2, Sm_succ _ h1.1, ps_xd hli.2.2.2]; rfl
        · exact LDX_step hv h1.1 (by omega) h3 hgw1 hgw2 hpw1 hpw2
        · intro v
          by_cases q : s 26 i ≤ v ∧ v < s 26 (i + 1) - 1
          · rw [hgw1 v q.1 q.2]
            have := swF_b hp hli.1 (b := s 26 (i + 1) - 1) (by omega) (show s 26 (i + 1) - 1 < s 103 0 by omega) v q.1 q.2
            exact ⟨Int.le_trans (by decide) this.1, Int.le_trans this.2 (by decide)⟩
          · rw [hgw2 v q]
            exact h4 v
        · omega
  refine h7 _ 0 0 (s 30) (s 27) (s 28) (s 29) ?_ ?_ ?_ ?_ (Nat.lt_succ_self _)
  · omega
  · rw [Sm_self]
  · intro k q1 q2; omega
  · exact hsw

set_option maxRecDepth 20000 in
theorem c_X1_settle_tr (s : Nat → Int → Int) (hp : PI (vX s)) (hr : RU s) (hv : LV (vX s) (s 38) (s 112 0)) (hsw : ∀ v, -1000 ≤ s 42 v ∧ s 42 v ≤ 1000) (hln : ∀ v, 0 ≤ s 44 v ∧ s 44 v ≤ 60) : ab_Mt yX1_settle cX1_settle 4 none ({ frames := 3, cells := 0, slots := 0, locals := 75 } : Room) false 0 0 [.inr (some 37)] (WW s) (fun r h2 => r = none ∧ ∃ dem sw lo sl be am str gl mid gn abv ln en, h2 = WW (ab_s (ab_s (ab_s (ab_s (ab_s (ab_s (ab_s (ab_s (ab_s (ab_s (ab_s (ab_s (ab_s s 113 (fun _ => dem)) 42 sw) 39 lo) 40 sl) 41 be) 114 (fun _ => am)) 115 (fun _ => str)) 116 (fun _ => gl)) 45 mid) 47 gn) 46 abv) 44 ln) 48 en) ∧ ST (vX s) (s 38) (s 112 0) dem am str gl sw lo sl be mid gn abv ln en) := by
  refine ab_mk RX1 false rfl pn_X1_settle (fun z => by cases z) (Nat.le_of_ble_eq_true rfl) (fun V hV => ?_)
  show V 0 [some (.inr (some 37)), none, none, none] [] (WW s) 0 0
  have hn : 0 ≤ s 103 0 ∧ s 103 0 ≤ 60 := hp.1
  have hnl : 0 ≤ s 112 0 ∧ s 112 0 ≤ s 103 0 := hv.1
  refine rb_aload_n hV dX1_settle_0 rfl rfl ?_
  refine rb_iconst hV dX1_settle_1 ?_
  refine rb_put hV (C := RX1) (T := TX1) (N := 12) (ci := 1) (j := 5) dX1_settle_2 rfl (Nat.le_of_ble_eq_true rfl) lf_X1_31 rfl (gw_37 _) (Nat.le_of_ble_eq_true rfl) (ft_X1_5 _) (pw_37_5 _ _) ?_
  refine rb_iconst hV dX1_settle_5 ?_
  refine rb_istore_n hV (L2 := [some (.inr (some 37)), some (.inl 0), none, none]) dX1_settle_6 rfl (Nat.le_of_ble_eq_true rfl) rfl ?_
  refine rb_heq (b := (ab_s (ab_s (ab_s (ab_s (ab_s s 113 (fun _ => 0)) 42 (s 42)) 39 (s 39)) 40 (s 40)) 41 (s 41))) ((ab_s_id rfl).trans ((ab_s_id rfl).trans ((ab_s_id rfl).trans (ab_s_id rfl)))).symm ?_
  have h7 : ∀ (n7 : Nat) (i : Int) (dem : Int) (sw : Int → Int) (lo : Int → Int) (sl : Int → Int) (be : Int → Int), (0 ≤ i ∧ i ≤ s 112 0) → (dem = Sm (ldm (vX s) (s 38)) 0 i) → (LDX (vX s) (s 38) i lo sl be sw) → (∀ v, -1000 ≤ sw v ∧ sw v ≤ 1000) → ((s 112 0 - i).toNat) < n7 → V 7 [some (.inr (some 37)), some (.inl i), none, none] [] (WW (ab_s (ab_s (ab_s (ab_s (ab_s s 113 (fun _ => dem)) 42 sw) 39 lo) 40 sl) 41 be)) 0 0 := by
    intro n7
    induction n7 with
    | zero => intro i dem sw lo sl be h1 h2 h3 h4 hm; omega
    | succ n7 ih7 =>
      intro i dem sw lo sl be h1 h2 h3 h4 hm
      refine rb_iload_n hV dX1_settle_7 rfl rfl ?_
      refine rb_aload_n hV dX1_settle_8 rfl rfl ?_
      refine rb_get hV (v := .inl (s 112 0)) dX1_settle_9 ⟨RX1, TX1, 12, rfl, (Nat.le_of_ble_eq_true rfl), lf_X1_27⟩ (gw_37 _) rfl ?_
      refine rb_icmp_ge hV (tgt := 86) dX1_settle_12 (by decide) ⟨(by first | assumption | (unfold ab_r at *; omega)), (by first | assumption | (unfold ab_r at *; omega))⟩ (fun c12 => ?_) (fun c12 => ?_)
      · have e9 : i = s 112 0 := by omega
        have hLD := LD_facts hp hv (e9 ▸ h3)
        refine rb_aload_n hV dX1_settle_86 rfl rfl ?_
        refine rb_get hV (v := .inr (some 43)) dX1_settle_87 ⟨RX1, TX1, 12, rfl, (Nat.le_of_ble_eq_true rfl), lf_X1_53⟩ (gw_37 _) rfl ?_
        refine rb_aload_n hV dX1_settle_90 rfl rfl ?_
        refine rb_aload_n hV dX1_settle_91 rfl rfl ?_
        refine rb_get hV (v := .inr (some 5)) dX1_settle_92 ⟨RX1, TX1, 12, rfl, (Nat.le_of_ble_eq_true rfl), lf_X1_9⟩ (gw_37 _) rfl ?_
        refine rb_get hV (v := .inl (s 103 0)) dX1_settle_95 ⟨RX4, TX4, 6, rfl, (Nat.le_of_ble_eq_true rfl), lf_X1_85⟩ (gw_5 _) rfl ?_
        refine rb_aload_n hV dX1_settle_98 rfl rfl ?_
        refine rb_get hV (v := .inr (some 1)) dX1_settle_99 ⟨RX1, TX1, 12, rfl, (Nat.le_of_ble_eq_true rfl), lf_X1_15⟩ (gw_37 _) rfl ?_
        refine rb_get hV (v := .inl (s 102 0)) dX1_settle_102 ⟨RX6, TX6, 6, rfl, (Nat.le_of_ble_eq_true rfl), lf_X1_118⟩ (gw_1 _) rfl ?_
        refine rb_callV hV (rest := []) dX1_settle_105 (c_X5_find_tr (ab_s (ab_s (ab_s (ab_s (ab_s s 113 (fun _ => dem)) 42 sw) 39 lo) 40 sl) 41 be) (s 102 0) (show 0 ≤ (s 103 0) ∧ (s 103 0) ≤ 60 by omega) hv.1 hLD h4 (fun v q1 q2 => (hp.2.1 v q1 q2).1) hln hp.2.2.2.2.1) lk_X1_123 rfl (Or.inl ⟨5, _, TX5, 8, gw_43 _, rfl⟩) rfl ⟨rfl, rfl, (Nat.le_of_ble_eq_true rfl), (Nat.le_of_ble_eq_true rfl), (Nat.le_of_ble_eq_true rfl), (Nat.le_of_ble_eq_true rfl)⟩ (Nat.le_of_ble_eq_true rfl) (fun r9 h9 p9 => ?_)
        obtain ⟨rfl, am, str, gl, mid, gn, abv, ln, en, rfl, hrv⟩ := p9
        show V 108 [some (.inr (some 37)), some (.inl i), none, none] [] (WW (ab_s (ab_s (ab_s (ab_s (ab_s (ab_s (ab_s (ab_s (ab_s (ab_s (ab_s (ab_s (ab_s s 113 (fun _ => dem)) 42 sw) 39 lo) 40 sl) 41 be) 114 (fun _ => am)) 115 (fun _ => str)) 116 (fun _ => gl)) 45 mid) 47 gn) 46 abv) 44 ln) 48 en)) 0 0
        refine rb_ret hV (r := none) dX1_settle_108 rfl ⟨(Nat.le_of_ble_eq_true rfl), (Nat.le_of_ble_eq_true rfl)⟩ trivial ?_
        exact ⟨rfl, _, _, _, _, _, _, _, _, _, _, _, _, _, rfl, e9 ▸ h2, e9 ▸ h3, h4, hrv⟩
      · have hli := hv.2.1 i h1.1 (by omega)
        have hli2 : s 38 (i + 1) ≤ s 103 0 := hli.2.2.1
        have hli3 := hli.2.1
        have hli1 := hli.1
        refine rb_aload_n hV dX1_settle_15 rfl rfl ?_
        refine rb_iload_n hV dX1_settle_16 rfl rfl ?_
        refine rb_callV hV (rest := []) dX1_settle_17 (c_X1_firstWord_tr (ab_s (ab_s (ab_s (ab_s (ab_s s 113 (fun _ => dem)) 42 sw) 39 lo) 40 sl) 41 be) i (show 0 ≤ (s 112 0) ∧ (s 112 0) ≤ 60 by omega) (show 0 ≤ i ∧ i < (s 112 0) by omega)) lk_X1_70 rfl (Or.inl ⟨1, _, TX1, 12, gw_37 _, rfl⟩) rfl ⟨rfl, rfl, (Nat.le_of_ble_eq_true rfl), (Nat.le_of_ble_eq_true rfl), (Nat.le_of_ble_eq_true rfl), (Nat.le_of_ble_eq_true rfl)⟩ (Nat.le_of_ble_eq_true rfl) (fun r9 h9 p9 => ?_)
        obtain ⟨rfl, rfl⟩ := p9
        show V 20 [some (.inr (some 37)), some (.inl i), none, none] [.inl (s 38 i)] (WW (ab_s (ab_s (ab_s (ab_s (ab_s s 113 (fun _ => dem)) 42 sw) 39 lo) 40 sl) 41 be)) 0 0
        refine rb_istore_n hV (L2 := [some (.inr (some 37)), some (.inl i), some (.inl (s 38 i)), none]) dX1_settle_20 rfl (Nat.le_of_ble_eq_true rfl) rfl ?_
        refine rb_aload_n hV dX1_settle_21 rfl rfl ?_
        refine rb_iload_n hV dX1_settle_22 rfl rfl ?_
        refine rb_callV hV (rest := []) dX1_settle_23 (c_X1_lastWord_tr (ab_s (ab_s (ab_s (ab_s (ab_s s 113 (fun _ => dem)) 42 sw) 39 lo) 40 sl) 41 be) i (show 0 ≤ (s 112 0) ∧ (s 112 0) ≤ 60 by omega) (show 0 ≤ i ∧ i < (s 112 0) by omega)) lk_X1_74 rfl (Or.inl ⟨1, _, TX1, 12, gw_37 _, rfl⟩) rfl ⟨rfl, rfl, (Nat.le_of_ble_eq_true rfl), (Nat.le_of_ble_eq_true rfl), (Nat.le_of_ble_eq_true rfl), (Nat.le_of_ble_eq_true rfl)⟩ (Nat.le_of_ble_eq_true rfl) (fun r9 h9 p9 => ?_)
        obtain ⟨rfl, rfl⟩ := p9
        show V 26 [some (.inr (some 37)), some (.inl i), some (.inl (s 38 i)), none] [.inl ((s 38 (i + 1)) - 1)] (WW (ab_s (ab_s (ab_s (ab_s (ab_s s 113 (fun _ => dem)) 42 sw) 39 lo) 40 sl) 41 be)) 0 0
        refine rb_istore_n hV (L2 := [some (.inr (some 37)), some (.inl i), some (.inl (s 38 i)), some (.inl ((s 38 (i + 1)) - 1))]) dX1_settle_26 rfl (Nat.le_of_ble_eq_true rfl) rfl ?_
        refine rb_aload_n hV dX1_settle_27 rfl rfl ?_
        refine rb_get hV (v := .inr (some 5)) dX1_settle_28 ⟨RX1, TX1, 12, rfl, (Nat.le_of_ble_eq_true rfl), lf_X1_9⟩ (gw_37 _) rfl ?_
        refine rb_iload_n hV dX1_settle_31 rfl rfl ?_
        refine rb_callV hV (rest := []) dX1_settle_32 (c_X4_hasWord (ab_s (ab_s (ab_s (ab_s (ab_s s 113 (fun _ => dem)) 42 sw) 39 lo) 40 sl) 41 be) (s 38 i) (by first | assumption | (unfold ab_r at *; omega)) (show 0 ≤ (s 103 0) ∧ (s 103 0) ≤ 60 by omega)) lk_X1_104 rfl (Or.inl ⟨4, _, TX4, 6, gw_5 _, rfl⟩) rfl ⟨rfl, rfl, (Nat.le_of_ble_eq_true rfl), (Nat.le_of_ble_eq_true rfl), (Nat.le_of_ble_eq_true rfl), (Nat.le_of_ble_eq_true rfl)⟩ (Nat.le_of_ble_eq_true rfl) (fun r9 h9 p9 => ?_)
        obtain ⟨rfl, rfl⟩ := p9
        show V 35 [some (.inr (some 37)), some (.inl i), some (.inl (s 38 i)), some (.inl ((s 38 (i + 1)) - 1))] [.inl (if 0 ≤ (s 38 i) ∧ (s 38 i) < (s 103 0) then 1 else 0)] (WW (ab_s (ab_s (ab_s (ab_s (ab_s s 113 (fun _ => dem)) 42 sw) 39 lo) 40 sl) 41 be)) 0 0
        rw [if_pos (show 0 ≤ (s 38 i) ∧ (s 38 i) < (s 103 0) by omega)]
        show V 35 [some (.inr (some 37)), some (.inl i), some (.inl (s 38 i)), some (.inl ((s 38 (i + 1)) - 1))] [.inl 1] (WW (ab_s (ab_s (ab_s (ab_s (ab_s s 113 (fun _ => dem)) 42 sw) 39 lo) 40 sl) 41 be)) 0 0
        refine rb_if_eq hV (tgt := 80) dX1_settle_35 (by decide) (by first | assumption | (unfold ab_r at *; omega)) (fun z => absurd z (by decide)) (fun _ => ?_)
        refine rb_aload_n hV dX1_settle_38 rfl rfl ?_
        refine rb_get hV (v := .inr (some 5)) dX1_settle_39 ⟨RX1, TX1, 12, rfl, (Nat.le_of_ble_eq_true rfl), lf_X1_9⟩ (gw_37 _) rfl ?_
        refine rb_iload_n hV dX1_settle_42 rfl rfl ?_
        refine rb_callV hV (rest := []) dX1_settle_43 (c_X4_hasWord (ab_s (ab_s (ab_s (ab_s (ab_s s 113 (fun _ => dem)) 42 sw) 39 lo) 40 sl) 41 be) ((s 38 (i + 1)) - 1) (by first | assumption | (unfold ab_r at *; omega)) (show 0 ≤ (s 103 0) ∧ (s 103 0) ≤ 60 by omega)) lk_X1_104 rfl (Or.inl ⟨4, _, TX4, 6, gw_5 _, rfl⟩) rfl ⟨rfl, rfl, (Nat.le_of_ble_eq_true rfl), (Nat.le_of_ble_eq_true rfl), (Nat.le_of_ble_eq_true rfl), (Nat.le_of_ble_eq_true rfl)⟩ (Nat.le_of_ble_eq_true rfl) (fun r9 h9 p9 => ?_)
        obtain ⟨rfl, rfl⟩ := p9
        show V 46 [some (.inr (some 37)), some (.inl i), some (.inl (s 38 i)), some (.inl ((s 38 (i + 1)) - 1))] [.inl (if 0 ≤ ((s 38 (i + 1)) - 1) ∧ ((s 38 (i + 1)) - 1) < (s 103 0) then 1 else 0)] (WW (ab_s (ab_s (ab_s (ab_s (ab_s s 113 (fun _ => dem)) 42 sw) 39 lo) 40 sl) 41 be)) 0 0
        rw [if_pos (show 0 ≤ ((s 38 (i + 1)) - 1) ∧ ((s 38 (i + 1)) - 1) < (s 103 0) by omega)]
        show V 46 [some (.inr (some 37)), some (.inl i), some (.inl (s 38 i)), some (.inl ((s 38 (i + 1)) - 1))] [.inl 1] (WW (ab_s (ab_s (ab_s (ab_s (ab_s s 113 (fun _ => dem)) 42 sw) 39 lo) 40 sl) 41 be)) 0 0
        refine rb_if_eq hV (tgt := 80) dX1_settle_46 (by decide) (by first | assumption | (unfold ab_r at *; omega)) (fun z => absurd z (by decide)) (fun _ => ?_)
        refine rb_aload_n hV dX1_settle_49 rfl rfl ?_
        refine rb_dup hV dX1_settle_50 ?_
        refine rb_get hV (v := .inl dem) dX1_settle_51 ⟨RX1, TX1, 12, rfl, (Nat.le_of_ble_eq_true rfl), lf_X1_31⟩ (gw_37 _) rfl ?_
        refine rb_aload_n hV dX1_settle_54 rfl rfl ?_
        refine rb_get hV (v := .inr (some 11)) dX1_settle_55 ⟨RX1, TX1, 12, rfl, (Nat.le_of_ble_eq_true rfl), lf_X1_19⟩ (gw_37 _) rfl ?_
        refine rb_iload_n hV dX1_settle_58 rfl rfl ?_
        refine rb_iload_n hV dX1_settle_59 rfl rfl ?_
        refine rb_callV hV (rest := [.inl dem, .inr (some 37)]) dX1_settle_60 (c_X2_demerits (ab_s (ab_s (ab_s (ab_s (ab_s s 113 (fun _ => dem)) 42 sw) 39 lo) 40 sl) 41 be) (s 38 i) ((s 38 (i + 1)) - 1) hp hr (show 0 ≤ (s 38 i) ∧ (s 38 i) ≤ ((s 38 (i + 1)) - 1) ∧ ((s 38 (i + 1)) - 1) < (s 103 0) by omega)) lk_X1_77 rfl (Or.inl ⟨2, _, TX2, 8, gw_11 _, rfl⟩) rfl ⟨rfl, rfl, (Nat.le_of_ble_eq_true rfl), (Nat.le_of_ble_eq_true rfl), (Nat.le_of_ble_eq_true rfl), (Nat.le_of_ble_eq_true rfl)⟩ (Nat.le_of_ble_eq_true rfl) (fun r9 h9 p9 => ?_)
        obtain ⟨rfl, rfl⟩ := p9
        show V 63 [some (.inr (some 37)), some (.inl i), some (.inl (s 38 i)), some (.inl ((s 38 (i + 1)) - 1))] [.inl (xd (vX s) (s 38 i) ((s 38 (i + 1)) - 1)), .inl dem, .inr (some 37)] (WW (ab_s (ab_s (ab_s (ab_s (ab_s s 113 (fun _ => dem)) 42 sw) 39 lo) 40 sl) 41 be)) 0 0
        refine rb_iadd hV dX1_settle_63 ?_
        refine rb_put hV (C := RX1) (T := TX1) (N := 12) (ci := 1) (j := 5) dX1_settle_64 rfl (Nat.le_of_ble_eq_true rfl) lf_X1_31 rfl (gw_37 _) (Nat.le_of_ble_eq_true rfl) (ft_X1_5 _) ((pw_37_5 _ _).trans (congrArg WW ((ab_s_sw (by decide)).trans (congrArg (fun x => ab_s x 41 _) ((ab_s_sw (by decide)).trans (congrArg (fun x => ab_s x 40 _) ((ab_s_sw (by decide)).trans (congrArg (fun x => ab_s x 39 _) ((ab_s_sw (by decide)).trans (congrArg (fun x => ab_s x 42 _) (ab_s_same _ 113 _ _))))))))))) ?_
        refine rb_aload_n hV dX1_settle_67 rfl rfl ?_
        refine rb_iload_n hV dX1_settle_68 rfl rfl ?_
        refine rb_iload_n hV dX1_settle_69 rfl rfl ?_
        refine rb_callV hV (rest := []) dX1_settle_70 (c_X1_shareOut_tr (ab_s (ab_s (ab_s (ab_s (ab_s s 113 (fun _ => (dem + (xd (vX s) (s 38 i) ((s 38 (i + 1)) - 1))))) 42 sw) 39 lo) 40 sl) 41 be) (s 38 i) ((s 38 (i + 1)) - 1) hp hr (show 0 ≤ (s 38 i) ∧ (s 38 i) ≤ ((s 38 (i + 1)) - 1) ∧ ((s 38 (i + 1)) - 1) < (s 103 0) by omega)) lk_X1_110 rfl (Or.inl ⟨1, _, TX1, 12, gw_37 _, rfl⟩) rfl ⟨rfl, rfl, (Nat.le_of_ble_eq_true rfl), (Nat.le_of_ble_eq_true rfl), (Nat.le_of_ble_eq_true rfl), (Nat.le_of_ble_eq_true rfl)⟩ (Nat.le_of_ble_eq_true rfl) (fun r9 h9 p9 => ?_)
        obtain ⟨rfl, gw, rfl, hgw1, hgw2⟩ := p9
        refine rb_heq (b := (ab_s (ab_s (ab_s (ab_s (ab_s s 113 (fun _ => (dem + (xd (vX s) (s 38 i) ((s 38 (i + 1)) - 1))))) 42 gw) 39 lo) 40 sl) 41 be)) ((ab_s_sw (by decide)).trans (congrArg (fun x => ab_s x 41 _) ((ab_s_sw (by decide)).trans (congrArg (fun x => ab_s x 40 _) ((ab_s_sw (by decide)).trans (congrArg (fun x => ab_s x 39 _) (ab_s_same _ 42 _ _))))))) ?_
        show V 73 [some (.inr (some 37)), some (.inl i), some (.inl (s 38 i)), some (.inl ((s 38 (i + 1)) - 1))] [] (WW (ab_s (ab_s (ab_s (ab_s (ab_s s 113 (fun _ => (dem + (xd (vX s) (s 38 i) ((s 38 (i + 1)) - 1))))) 42 gw) 39 lo) 40 sl) 41 be)) 0 0
        refine rb_aload_n hV dX1_settle_73 rfl rfl ?_
        refine rb_iload_n hV dX1_settle_74 rfl rfl ?_
        refine rb_iload_n hV dX1_settle_75 rfl rfl ?_
        refine rb_iload_n hV dX1_settle_76 rfl rfl ?_
        refine rb_callV hV (rest := []) dX1_settle_77 (c_X1_placeWords_tr (ab_s (ab_s (ab_s (ab_s (ab_s s 113 (fun _ => (dem + (xd (vX s) (s 38 i) ((s 38 (i + 1)) - 1))))) 42 gw) 39 lo) 40 sl) 41 be) i (s 38 i) ((s 38 (i + 1)) - 1) hp hr (show 0 ≤ (s 38 i) ∧ (s 38 i) ≤ ((s 38 (i + 1)) - 1) ∧ ((s 38 (i + 1)) - 1) < (s 103 0) by omega)) lk_X1_114 rfl (Or.inl ⟨1, _, TX1, 12, gw_37 _, rfl⟩) rfl ⟨rfl, rfl, (Nat.le_of_ble_eq_true rfl), (Nat.le_of_ble_eq_true rfl), (Nat.le_of_ble_eq_true rfl), (Nat.le_of_ble_eq_true rfl)⟩ (Nat.le_of_ble_eq_true rfl) (fun r9 h9 p9 => ?_)
        obtain ⟨rfl, lo1, sl1, be1, rfl, hpw1, hpw2⟩ := p9
        refine rb_heq (b := (ab_s (ab_s (ab_s (ab_s (ab_s s 113 (fun _ => (dem + (xd (vX s) (s 38 i) ((s 38 (i + 1)) - 1))))) 42 gw) 39 lo1) 40 sl1) 41 be1)) ((congrArg (fun x => ab_s x 41 _) ((congrArg (fun x => ab_s x 40 _) ((ab_s_sw (by decide)).trans (congrArg (fun x => ab_s x 41 _) ((ab_s_sw (by decide)).trans (congrArg (fun x => ab_s x 40 _) (ab_s_same _ 39 _ _)))))).trans ((ab_s_sw (by decide)).trans (congrArg (fun x => ab_s x 41 _) (ab_s_same _ 40 _ _))))).trans (ab_s_same _ 41 _ _)) ?_
        show V 80 [some (.inr (some 37)), some (.inl i), some (.inl (s 38 i)), some (.inl ((s 38 (i + 1)) - 1))] [] (WW (ab_s (ab_s (ab_s (ab_s (ab_s s 113 (fun _ => (dem + (xd (vX s) (s 38 i) ((s 38 (i + 1)) - 1))))) 42 gw) 39 lo1) 40 sl1) 41 be1)) 0 0
        refine rb_iinc hV (L2 := [some (.inr (some 37)), some (.inl (i + 1)), some (.inl (s 38 i)), some (.inl ((s 38 (i + 1)) - 1))]) dX1_settle_80 rfl rfl rfl ?_
        refine rb_goto hV (tgt := 7) dX1_settle_83 (by decide) ?_
        refine rb_weak hV (L2 := [some (.inr (some 37)), some (.inl (i + 1)), none, none]) ⟨rfl, ⟨rfl, trivial⟩⟩ ?_
        refine ih7 (i + 1) (dem + (xd (vX s) (s 38 i) ((s 38 (i + 1)) - 1))) (gw) (lo1) (sl1) (be1) ?_ ?_ ?_ ?_ ?_
        · omega
        · rw [h2, Sm_succ _ h1.1, ps_xd hli.2.2.2]; rfl
        · exact LDX_step hv h1.1 (by omega) h3 hgw1 hgw2 hpw1 hpw2
        · intro v
          by_cases q : s 38 i ≤ v ∧ v < s 38 (i + 1) - 1
          · rw [hgw1 v q.1 q.2]
            have := swF_b hp hli.1 (b := s 38 (i + 1) - 1) (by omega) (show s 38 (i + 1) - 1 < s 103 0 by omega) v q.1 q.2
            exact ⟨Int.le_trans (by decide) this.1, Int.le_trans this.2 (by decide)⟩
          · rw [hgw2 v q]
            exact h4 v
        · omega
  refine h7 _ 0 0 (s 42) (s 39) (s 40) (s 41) ?_ ?_ ?_ ?_ (Nat.lt_succ_self _)
  · omega
  · rw [Sm_self]
  · intro k q1 q2; omega
  · exact hsw
