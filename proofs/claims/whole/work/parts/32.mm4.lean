/-! MATHEMATICS 10: what the reference's layout holds -/
def slF (fw lo : Int → Int) : Int → Int := fun w => if w < fw (lo w + 1) - 1 then lo w else -1
def mdF (wd bg sw : Int → Int) : Int → Int := fun w => 2 * (bg w + wd w) + sw w
def LDY (d : Nat → Int → Int) (fw : Int → Int) (nl : Int) (lo be sw : Int → Int) : Prop := ∀ i, 0 ≤ i → i < nl → ∀ w, fw i ≤ w → w < fw (i + 1) →
  lo w = i ∧ be w = bgF d (swF d (fw i) (fw (i + 1) - 1)) (fw i) w ∧ (w < fw (i + 1) - 1 → sw w = swF d (fw i) (fw (i + 1) - 1) w)
theorem LDY_X {d : Nat → Int → Int} {fw : Int → Int} {nl : Int} {lo be sw : Int → Int} (h : LDY d fw nl lo be sw) : LDX d fw nl lo (slF fw lo) be sw := fun i a b w c e => by
  obtain ⟨x1, x2, x3⟩ := h i a b w c e
  refine ⟨x1, ?_, x2, x3⟩
  unfold slF
  rw [x1]
theorem LDY_step {d : Nat → Int → Int} {fw : Int → Int} {nl i : Int} {lo be sw lo1 be1 g : Int → Int} (hv : LV d fw nl) (h0 : 0 ≤ i) (h1 : i < nl) (h : LDY d fw i lo be sw)
    (hg1 : ∀ j, fw i ≤ j → j < fw (i + 1) - 1 → g j = swF d (fw i) (fw (i + 1) - 1) j) (hg2 : ∀ j, ¬ (fw i ≤ j ∧ j ≤ fw (i + 1) - 1) → g j = sw j)
    (hq1 : ∀ j, fw i ≤ j → j ≤ fw (i + 1) - 1 → lo1 j = i ∧ be1 j = bgF d g (fw i) j) (hq2 : ∀ j, ¬ (fw i ≤ j ∧ j ≤ fw (i + 1) - 1) → lo1 j = lo j ∧ be1 j = be j) : LDY d fw (i + 1) lo1 be1 g := by
  intro k k0 k1 w w0 w1
  by_cases hk : k = i
  · subst hk
    obtain ⟨a1, a3⟩ := hq1 w w0 (by omega)
    exact ⟨a1, by rw [a3]; exact bgF_congr fun j q1 q2 => hg1 j q1 (by omega), fun q => hg1 w w0 q⟩
  · have m := fw_le hv (i := k + 1) (j := i) (by omega) (by omega) (by omega)
    obtain ⟨a1, a3⟩ := hq2 w (by omega)
    obtain ⟨b1, b3, b4⟩ := h k k0 (by omega) w w0 w1
    exact ⟨by rw [a1, b1], by rw [a3, b3], fun q => by rw [hg2 w (by omega)]; exact b4 q⟩
theorem LDY_f {d : Nat → Int → Int} {fw : Int → Int} {nl : Int} {lo be sw : Int → Int} (hp : PI d) (hv : LV d fw nl) (hn : 0 < nl) (h : LDY d fw nl lo be sw) : ∀ v, 0 ≤ v → v < d 0 0 → (0 ≤ lo v ∧ lo v < nl) ∧ (0 ≤ fw (lo v) ∧ fw (lo v) ≤ v) ∧ (v < fw (lo v + 1) ∧ fw (lo v + 1) ≤ d 0 0) ∧ (-100 ≤ be v ∧ be v ≤ 90000) := by
  intro v q1 q2
  obtain ⟨i, a, b, c, e⟩ := LV_line hv (by omega) q1 q2
  obtain ⟨x1, x2, x3⟩ := h i a b v c e
  have l := hv.2.1 i a b
  have := bgF_b hp l.1 (b := fw (i + 1) - 1) (by omega) c (by omega)
  rw [x1, x2]
  exact ⟨⟨a, b⟩, ⟨l.1, c⟩, ⟨e, l.2.2.1⟩, by omega⟩
/-- the search from left to right -/
def ABl (lo sl mid ln : Int → Int) (t w a f : Int) : Prop := (f = -1 ∧ ∀ v, v < a → ¬ cnd lo sl mid t w v) ∨ (f < a ∧ cnd lo sl mid t w f ∧ ∀ v, v < a → cnd lo sl mid t w v → ln v ≤ ln f ∧ (ln v = ln f → f ≤ v))
theorem ABl_end {lo sl mid ln : Int → Int} {t w a f : Int} (h : ABl lo sl mid ln t w a f) (hn : ∀ v, a ≤ v → ¬ cnd lo sl mid t w v) : AB lo sl mid ln t w f := by
  have key : ∀ v, cnd lo sl mid t w v → v < a := fun v hv => by
    rcases Int.lt_or_le v a with q | q
    · exact q
    · exact absurd hv (hn v q)
  rcases h with ⟨h1, h2⟩ | ⟨h1, h2, h3⟩
  · exact Or.inl ⟨h1, fun v hv => h2 v (key v hv) hv⟩
  · exact Or.inr ⟨h2, fun v hv => h3 v (key v hv) hv⟩
theorem ABl_skip {lo sl mid ln : Int → Int} {t w a f : Int} (h : ABl lo sl mid ln t w a f) (hn : ¬ cnd lo sl mid t w a) : ABl lo sl mid ln t w (a + 1) f := by
  have key : ∀ v, v < a + 1 → cnd lo sl mid t w v → v < a := fun v h1 hv => by
    rcases Int.lt_or_le v a with q | q
    · exact q
    · have e : v = a := by omega
      exact absurd (e ▸ hv) hn
  rcases h with ⟨h1, h2⟩ | ⟨h1, h2, h3⟩
  · exact Or.inl ⟨h1, fun v q hv => h2 v (key v q hv) hv⟩
  · exact Or.inr ⟨by omega, h2, fun v q hv => h3 v (key v q hv) hv⟩
theorem ABl_new {lo sl mid ln : Int → Int} {t w a f : Int} (h : ABl lo sl mid ln t w a f) (hc : cnd lo sl mid t w a) (hf : f = -1 ∨ ln f < ln a) : ABl lo sl mid ln t w (a + 1) a := by
  have ha := hc.1
  refine Or.inr ⟨by omega, hc, fun v q hv => ?_⟩
  rcases Int.lt_or_le v a with q2 | q2
  · rcases h with ⟨h1, h2⟩ | ⟨h1, h2, h3⟩
    · exact absurd hv (h2 v q2)
    · have := h3 v q2 hv
      have := h2.1
      omega
  · have e : v = a := by omega
    subst e
    exact ⟨Int.le_refl _, fun _ => Int.le_refl _⟩
theorem ABl_old {lo sl mid ln : Int → Int} {t w a f : Int} (h : ABl lo sl mid ln t w a f) (hc : cnd lo sl mid t w a) (hf : ¬ f = -1) (hl : ln a ≤ ln f) : ABl lo sl mid ln t w (a + 1) f := by
  rcases h with ⟨h1, h2⟩ | ⟨h1, h2, h3⟩
  · exact absurd h1 hf
  · refine Or.inr ⟨by omega, h2, fun v q hv => ?_⟩
    rcases Int.lt_or_le v a with q2 | q2
    · exact h3 v q2 hv
    · have e : v = a := by omega
      subst e
      exact ⟨hl, fun z => by omega⟩
theorem GOp_ex (lo sl mid : Int → Int) (t w : Int) : ∃ gn, GOp lo sl mid gn t w := by
  refine ⟨fun v => @ite Int (∃ u, u < w ∧ ¬ sl u = -1 ∧ cnd lo sl mid t u v) (Classical.propDecidable _) 1 0, fun v q1 q2 => ?_⟩
  dsimp only
  by_cases h : ∃ u, u < w ∧ ¬ sl u = -1 ∧ cnd lo sl mid t u v
  · rw [if_pos h]
    exact ⟨Or.inr rfl, fun _ => h, fun _ => rfl⟩
  · rw [if_neg h]
    exact ⟨Or.inl rfl, fun z => absurd z (by decide), fun z => absurd z h⟩
theorem GLp_ex (sl ln : Int → Int) : ∀ k : Nat, ∃ g, GLp sl ln k g
  | 0 => ⟨0, Int.le_refl 0, fun v a b => by omega, Or.inl rfl⟩
  | k + 1 => by
    obtain ⟨g, hg⟩ := GLp_ex sl ln k
    rw [show ((k + 1 : Nat) : Int) = (k : Int) + 1 by omega]
    by_cases h : sl k = -1
    · exact ⟨g, GLp_skip hg (fun _ _ _ => rfl) h⟩
    · exact ⟨_, GLp_take (by omega) hg (fun _ _ _ => rfl) h⟩
theorem ENp_ex (sl ln gn : Int → Int) : ∀ k : Nat, ∃ en, ENp sl ln gn en k
  | 0 => ⟨fun _ => 0, fun v a b => by omega⟩
  | k + 1 => by
    obtain ⟨en, h⟩ := ENp_ex sl ln gn k
    rw [show ((k + 1 : Nat) : Int) = (k : Int) + 1 by omega]
    have e := ei_b sl ln gn k
    by_cases q : ei sl ln gn k = 1
    · exact ⟨_, ENp_take (by omega) h q⟩
    · exact ⟨en, ENp_skip h (by omega)⟩
theorem RVX_ex {n nl t : Int} {wd lo sl be sw abv ln : Int → Int} (hn : 1 ≤ n) (hnl : ¬ nl = 0) (h : LNp lo sl (mdF wd be sw) ln abv (2 * t) (n - 1)) (hl : ∀ v, 0 ≤ ln v ∧ ln v ≤ 60) : ∃ am str gl gn en, RVX n nl t wd lo sl be sw am str gl (mdF wd be sw) gn abv ln en := by
  obtain ⟨gn, hg⟩ := GOp_ex lo sl (mdF wd be sw) (2 * t) (n - 1)
  obtain ⟨g, hgl⟩ := GLp_ex sl ln (n - 1).toNat
  obtain ⟨en, he⟩ := ENp_ex sl ln gn (n - 1).toNat
  rw [show ((n - 1).toNat : Int) = n - 1 by omega] at hgl he
  exact ⟨_, _, g, gn, en, Or.inr ⟨hnl, fun v _ _ => rfl, h, hg, hgl, hl, he, rfl, rfl⟩⟩
theorem LNp_mono {lo sl mid ln ab : Int → Int} {t w w2 : Int} (h : LNp lo sl mid ln ab t w) (hw : w2 ≤ w) : LNp lo sl mid ln ab t w2 := fun v a b c => h v a (by omega) c
/-- all that stands in a layout of the reference, with what it stands for -/
def MSX (d : Nat → Int → Int) (fw : Int → Int) (nl : Int) (sw lo bg ln : Int → Int) (dem am str gl : Int) (gn abv en : Int → Int) : Prop :=
  ST d fw nl dem am str gl sw lo (slF fw lo) bg (mdF (d 1) bg sw) gn abv ln en ∧ LDY d fw nl lo bg sw ∧ (¬ nl = 0 → ∀ v, 0 ≤ v → v < d 0 0 → slF fw lo v = -1 → ln v = 0)
def MST (d : Nat → Int → Int) (fw : Int → Int) (nl : Int) (sw lo bg ln : Int → Int) : Prop := ∃ dem am str gl gn abv en, MSX d fw nl sw lo bg ln dem am str gl gn abv en
theorem slF_no {fw lo : Int → Int} {w : Int} (h : ¬ w < fw (lo w + 1) - 1) : slF fw lo w = -1 := if_neg h
theorem slF_yes {fw lo : Int → Int} {w : Int} (h : w < fw (lo w + 1) - 1) : slF fw lo w = lo w := if_pos h

set_option maxRecDepth 20000 in
theorem c_X10_share (s : Nat → Int → Int) (a b kind t u : Int) (hp : PI (vM s)) (h : 0 ≤ a ∧ a ≤ b ∧ b ≤ s 120 0) (hkd : 0 ≤ kind ∧ kind ≤ 2) (ht : t = 1 ∨ t = -1) (hu : 0 ≤ u ∧ u ≤ 100000) (hW : ∀ w, a ≤ w → w < b → -1000 ≤ s 61 w ∧ s 61 w ≤ 1000) : ab_Mt yX10_share cX10_share 9 (some .int) ({ frames := 0, cells := 0, slots := 0, locals := 0 } : Room) false 0 0 [.inr (some 49), .inl a, .inl b, .inl kind, .inl u, .inl t] (WW s) (fun r h2 => r = some (.inl (sh1 (vM s 3) kind (sbd (vM s) t kind) t a (b - a).toNat (s 61, u)).2) ∧ h2 = WW (ab_s s 61 (sh1 (vM s 3) kind (sbd (vM s) t kind) t a (b - a).toNat (s 61, u)).1)) := by
  refine ab_mk RX10 false rfl pn_X10_share (fun z => by cases z) (Nat.le_of_ble_eq_true rfl) (fun V hV => ?_)
  show V 0 [some (.inr (some 49)), some (.inl a), some (.inl b), some (.inl kind), some (.inl u), some (.inl t), none, none, none] [] (WW s) 0 0
  have hn : 0 ≤ s 120 0 ∧ s 120 0 ≤ 60 := hp.1
  have hms : 10 ≤ s 117 0 ∧ s 117 0 ≤ 200 := hp.2.2.1
  refine rb_iload hV dX10_share_0 rfl ?_
  refine rb_istore hV (L2 := [some (.inr (some 49)), some (.inl a), some (.inl b), some (.inl kind), some (.inl u), some (.inl t), some (.inl u), none, none]) dX10_share_2 (Nat.le_of_ble_eq_true rfl) rfl ?_
  refine rb_aload_n hV dX10_share_4 rfl rfl ?_
  refine rb_get hV (v := .inr (some 50)) dX10_share_5 ⟨RX10, TX10, 24, rfl, (Nat.le_of_ble_eq_true rfl), lf_X10_19⟩ (gw_49 _) rfl ?_
  refine rb_iconst hV dX10_share_8 ?_
  refine rb_iload_n hV dX10_share_9 rfl rfl ?_
  refine rb_imul hV dX10_share_10 ?_
  refine rb_iload hV dX10_share_11 rfl ?_
  refine rb_if_le hV (tgt := 20) dX10_share_13 (by decide) (by unfold ab_r at *; omega) (fun c13 => ?_) (fun c13 => ?_)
  · have eb : sbd (vM s) t kind = s 50 (3 * kind + 0) := by
      rw [Int.add_zero]
      exact if_neg (by omega)
    refine rb_iconst hV dX10_share_20 ?_
    refine rb_iadd hV dX10_share_21 ?_
    refine rb_iald hV (f := (s 50)) dX10_share_22 (gw_50 _) (Nat.le_of_ble_eq_true rfl) (by omega) ?_
    refine rb_istore hV (L2 := [some (.inr (some 49)), some (.inl a), some (.inl b), some (.inl kind), some (.inl u), some (.inl t), some (.inl u), some (.inl (s 50 ((3 * kind) + 0))), none]) dX10_share_23 (Nat.le_of_ble_eq_true rfl) rfl ?_
    refine rb_iload_n hV dX10_share_25 rfl rfl ?_
    refine rb_istore hV (L2 := [some (.inr (some 49)), some (.inl a), some (.inl b), some (.inl kind), some (.inl u), some (.inl t), some (.inl u), some (.inl (s 50 ((3 * kind) + 0))), some (.inl a)]) dX10_share_26 (Nat.le_of_ble_eq_true rfl) rfl ?_
    refine rb_heq (b := (ab_s s 61 (s 61))) (ab_s_id rfl).symm ?_
    have h28 : ∀ (n28 : Nat) (le : Int) (w : Int) (g : Int → Int), (a ≤ w ∧ w ≤ b) → (g = (sh1 (vM s 3) kind (sbd (vM s) t kind) t a (w - a).toNat (s 61, u)).1 ∧ le = (sh1 (vM s 3) kind (sbd (vM s) t kind) t a (w - a).toNat (s 61, u)).2) → ((b - w).toNat) < n28 → V 28 [some (.inr (some 49)), some (.inl a), some (.inl b), some (.inl kind), some (.inl u), some (.inl t), some (.inl le), some (.inl (s 50 ((3 * kind) + 0))), some (.inl w)] [] (WW (ab_s s 61 g)) 0 0 := by
      intro n28
      induction n28 with
      | zero => intro le w g h1 h2 hm; omega
      | succ n28 ih28 =>
        intro le w g h1 h2 hm
        refine rb_iload hV dX10_share_28 rfl ?_
        refine rb_iload_n hV dX10_share_30 rfl rfl ?_
        refine rb_icmp_ge hV (tgt := 83) dX10_share_31 (by decide) ⟨(by unfold ab_r at *; omega), (by unfold ab_r at *; omega)⟩ (fun c31 => ?_) (fun c31 => ?_)
        · refine rb_iload hV dX10_share_83 rfl ?_
          refine rb_ret hV (r := some (.inl le)) dX10_share_85 rfl ⟨(Nat.le_of_ble_eq_true rfl), (Nat.le_of_ble_eq_true rfl)⟩ trivial ?_
          first
          | (have e : w = b := by omega
             subst e
             rw [← h2.1, ← h2.2]
             exact ⟨rfl, rfl⟩)
          | (rw [sh1_end h1.1 h1.2 (by rw [← h2.2]; omega), ← h2.1, ← h2.2]
             exact ⟨rfl, rfl⟩)
        · have hle := (sh1_u (kd := vM s 3) (kind := kind) (bound := sbd (vM s) t kind) (by_ := t) (a := a) (p := (s 61, u)) (w - a).toNat)
          have hle1 : 0 ≤ le ∧ le ≤ 100000 := by rw [h2.2]; exact ⟨hle.1 hu.1, Int.le_trans hle.2 hu.2⟩
          refine rb_iload hV dX10_share_34 rfl ?_
          refine rb_if_le hV (tgt := 83) dX10_share_36 (by decide) (by unfold ab_r at *; omega) (fun c36 => ?_) (fun c36 => ?_)
          · refine rb_iload hV dX10_share_83 rfl ?_
            refine rb_ret hV (r := some (.inl le)) dX10_share_85 rfl ⟨(Nat.le_of_ble_eq_true rfl), (Nat.le_of_ble_eq_true rfl)⟩ trivial ?_
            first
            | (have e : w = b := by omega
               subst e
               rw [← h2.1, ← h2.2]
               exact ⟨rfl, rfl⟩)
            | (rw [sh1_end h1.1 h1.2 (by rw [← h2.2]; omega), ← h2.1, ← h2.2]
               exact ⟨rfl, rfl⟩)
          · have hg1 : g w = s 61 w := by rw [h2.1]; exact sh1_hi (p := (s 61, u)) _ _ (Or.inr (by omega))
            have hg2 := hW w h1.1 (by omega)
            have hk8b : 0 ≤ s 53 w ∧ s 53 w ≤ 2 := (hp.2.1 w (by omega) (show w < s 120 0 by omega)).2.2.1
            refine rb_aload_n hV dX10_share_39 rfl rfl ?_
            refine rb_get hV (v := .inr (some 53)) dX10_share_40 ⟨RX10, TX10, 24, rfl, (Nat.le_of_ble_eq_true rfl), lf_X10_29⟩ (gw_49 _) rfl ?_
            refine rb_iload hV dX10_share_43 rfl ?_
            refine rb_iald hV (f := (s 53)) dX10_share_45 (gw_53 _) (Nat.le_of_ble_eq_true rfl) (by omega) ?_
            refine rb_iload_n hV dX10_share_46 rfl rfl ?_
            refine rb_icmp_ne hV (tgt := 77) dX10_share_47 (by decide) ⟨(by unfold ab_r at *; omega), (by unfold ab_r at *; omega)⟩ (fun c47 => ?_) (fun c47 => ?_)
            · refine rb_iinc hV (L2 := [some (.inr (some 49)), some (.inl a), some (.inl b), some (.inl kind), some (.inl u), some (.inl t), some (.inl le), some (.inl (s 50 ((3 * kind) + 0))), some (.inl (w + 1))]) dX10_share_77 rfl rfl rfl ?_
              refine rb_goto hV (tgt := 28) dX10_share_80 (by decide) ?_
              refine ih28 le (w + 1) (g) ?_ ?_ ?_
              · omega
              · rw [sh1_next h1.1, if_neg (by rw [← h2.1, ← h2.2]; show ¬ (0 < le ∧ s 53 w = kind ∧ ¬ g w = sbd (vM s) t kind); omega), ← h2.1, ← h2.2]; exact ⟨rfl, rfl⟩
              · omega
            · refine rb_aload_n hV dX10_share_50 rfl rfl ?_
              refine rb_get hV (v := .inr (some 61)) dX10_share_51 ⟨RX10, TX10, 24, rfl, (Nat.le_of_ble_eq_true rfl), lf_X10_54⟩ (gw_49 _) rfl ?_
              refine rb_iload hV dX10_share_54 rfl ?_
              refine rb_iald hV (f := (g)) dX10_share_56 (gw_61 _) (Nat.le_of_ble_eq_true rfl) (by omega) ?_
              refine rb_iload hV dX10_share_57 rfl ?_
              have hkb := hp.2.2.2.2.2 kind (by omega) (by omega)
              have hkb2 : 1 ≤ s 50 (3 * kind) ∧ s 50 (3 * kind + 2) ≤ 40 ∧ s 50 (3 * kind) ≤ s 50 (3 * kind + 2) := ⟨hkb.1, hkb.2.2.2, Int.le_trans hkb.2.1 hkb.2.2.1⟩
              have ea : s 50 (3 * kind + 0) = s 50 (3 * kind) := by rw [Int.add_zero]
              refine rb_icmp_eq hV (tgt := 77) dX10_share_59 (by decide) ⟨(by unfold ab_r at *; omega), (by unfold ab_r at *; omega)⟩ (fun c59 => ?_) (fun c59 => ?_)
              · refine rb_iinc hV (L2 := [some (.inr (some 49)), some (.inl a), some (.inl b), some (.inl kind), some (.inl u), some (.inl t), some (.inl le), some (.inl (s 50 ((3 * kind) + 0))), some (.inl (w + 1))]) dX10_share_77 rfl rfl rfl ?_
                refine rb_goto hV (tgt := 28) dX10_share_80 (by decide) ?_
                refine ih28 le (w + 1) (g) ?_ ?_ ?_
                · omega
                · rw [sh1_next h1.1, if_neg (by rw [← h2.1, ← h2.2]; show ¬ (0 < le ∧ s 53 w = kind ∧ ¬ g w = sbd (vM s) t kind); omega), ← h2.1, ← h2.2]; exact ⟨rfl, rfl⟩
                · omega
              · refine rb_aload_n hV dX10_share_62 rfl rfl ?_
                refine rb_get hV (v := .inr (some 61)) dX10_share_63 ⟨RX10, TX10, 24, rfl, (Nat.le_of_ble_eq_true rfl), lf_X10_54⟩ (gw_49 _) rfl ?_
                refine rb_iload hV dX10_share_66 rfl ?_
                refine rb_dup2 hV dX10_share_68 ?_
                refine rb_iald hV (f := (g)) dX10_share_69 (gw_61 _) (Nat.le_of_ble_eq_true rfl) (by omega) ?_
                refine rb_iload hV dX10_share_70 rfl ?_
                refine rb_iadd hV dX10_share_72 ?_
                refine rb_iast hV (f := (g)) dX10_share_73 (gw_61 _) (Nat.le_of_ble_eq_true rfl) (by omega) rfl ((pw_61 _ _).trans (congrArg WW (ab_s_same _ 61 _ _))) ?_
                refine rb_iinc hV (L2 := [some (.inr (some 49)), some (.inl a), some (.inl b), some (.inl kind), some (.inl u), some (.inl t), some (.inl (le + (-1))), some (.inl (s 50 ((3 * kind) + 0))), some (.inl w)]) dX10_share_74 rfl rfl rfl ?_
                refine rb_iinc hV (L2 := [some (.inr (some 49)), some (.inl a), some (.inl b), some (.inl kind), some (.inl u), some (.inl t), some (.inl (le + (-1))), some (.inl (s 50 ((3 * kind) + 0))), some (.inl (w + 1))]) dX10_share_77 rfl rfl rfl ?_
                refine rb_goto hV (tgt := 28) dX10_share_80 (by decide) ?_
                refine ih28 (le + (-1)) (w + 1) (ab_u (g) w (((g) w) + t)) ?_ ?_ ?_
                · omega
                · rw [sh1_next h1.1, if_pos (by rw [← h2.1, ← h2.2]; show (0 < le ∧ s 53 w = kind ∧ ¬ g w = sbd (vM s) t kind); omega), ← h2.1, ← h2.2]; exact ⟨rfl, rfl⟩
                · omega
    refine h28 _ u a (s 61) ?_ ?_ (Nat.lt_succ_self _)
    · omega
    · rw [show (a - a).toNat = 0 by omega]; exact ⟨rfl, rfl⟩
  · have eb : sbd (vM s) t kind = s 50 (3 * kind + 2) := if_pos (by omega)
    refine rb_iconst hV dX10_share_16 ?_
    refine rb_goto hV (tgt := 21) dX10_share_17 (by decide) ?_
    refine rb_iadd hV dX10_share_21 ?_
    refine rb_iald hV (f := (s 50)) dX10_share_22 (gw_50 _) (Nat.le_of_ble_eq_true rfl) (by omega) ?_
    refine rb_istore hV (L2 := [some (.inr (some 49)), some (.inl a), some (.inl b), some (.inl kind), some (.inl u), some (.inl t), some (.inl u), some (.inl (s 50 ((3 * kind) + 2))), none]) dX10_share_23 (Nat.le_of_ble_eq_true rfl) rfl ?_
    refine rb_iload_n hV dX10_share_25 rfl rfl ?_
    refine rb_istore hV (L2 := [some (.inr (some 49)), some (.inl a), some (.inl b), some (.inl kind), some (.inl u), some (.inl t), some (.inl u), some (.inl (s 50 ((3 * kind) + 2))), some (.inl a)]) dX10_share_26 (Nat.le_of_ble_eq_true rfl) rfl ?_
    refine rb_heq (b := (ab_s s 61 (s 61))) (ab_s_id rfl).symm ?_
    have h28 : ∀ (n28 : Nat) (le : Int) (w : Int) (g : Int → Int), (a ≤ w ∧ w ≤ b) → (g = (sh1 (vM s 3) kind (sbd (vM s) t kind) t a (w - a).toNat (s 61, u)).1 ∧ le = (sh1 (vM s 3) kind (sbd (vM s) t kind) t a (w - a).toNat (s 61, u)).2) → ((b - w).toNat) < n28 → V 28 [some (.inr (some 49)), some (.inl a), some (.inl b), some (.inl kind), some (.inl u), some (.inl t), some (.inl le), some (.inl (s 50 ((3 * kind) + 2))), some (.inl w)] [] (WW (ab_s s 61 g)) 0 0 := by
      intro n28
      induction n28 with
      | zero => intro le w g h1 h2 hm; omega
      | succ n28 ih28 =>
        intro le w g h1 h2 hm
        refine rb_iload hV dX10_share_28 rfl ?_
        refine rb_iload_n hV dX10_share_30 rfl rfl ?_
        refine rb_icmp_ge hV (tgt := 83) dX10_share_31 (by decide) ⟨(by unfold ab_r at *; omega), (by unfold ab_r at *; omega)⟩ (fun c31 => ?_) (fun c31 => ?_)
        · refine rb_iload hV dX10_share_83 rfl ?_
          refine rb_ret hV (r := some (.inl le)) dX10_share_85 rfl ⟨(Nat.le_of_ble_eq_true rfl), (Nat.le_of_ble_eq_true rfl)⟩ trivial ?_
          first
          | (have e : w = b := by omega
             subst e
             rw [← h2.1, ← h2.2]
             exact ⟨rfl, rfl⟩)
          | (rw [sh1_end h1.1 h1.2 (by rw [← h2.2]; omega), ← h2.1, ← h2.2]
             exact ⟨rfl, rfl⟩)
        · have hle := (sh1_u (kd := vM s 3) (kind := kind) (bound := sbd (vM s) t kind) (by_ := t) (a := a) (p := (s 61, u)) (w - a).toNat)
          have hle1 : 0 ≤ le ∧ le ≤ 100000 := by rw [h2.2]; exact ⟨hle.1 hu.1, Int.le_trans hle.2 hu.2⟩
          refine rb_iload hV dX10_share_34 rfl ?_
          refine rb_if_le hV (tgt := 83) dX10_share_36 (by decide) (by unfold ab_r at *; omega) (fun c36 => ?_) (fun c36 => ?_)
          · refine rb_iload hV dX10_share_83 rfl ?_
            refine rb_ret hV (r := some (.inl le)) dX10_share_85 rfl ⟨(Nat.le_of_ble_eq_true rfl), (Nat.le_of_ble_eq_true rfl)⟩ trivial ?_
            first
            | (have e : w = b := by omega
               subst e
               rw [← h2.1, ← h2.2]
               exact ⟨rfl, rfl⟩)
            | (rw [sh1_end h1.1 h1.2 (by rw [← h2.2]; omega), ← h2.1, ← h2.2]
               exact ⟨rfl, rfl⟩)
          · have hg1 : g w = s 61 w := by rw [h2.1]; exact sh1_hi (p := (s 61, u)) _ _ (Or.inr (by omega))
            have hg2 := hW w h1.1 (by omega)
            have hk8b : 0 ≤ s 53 w ∧ s 53 w ≤ 2 := (hp.2.1 w (by omega) (show w < s 120 0 by omega)).2.2.1
            refine rb_aload_n hV dX10_share_39 rfl rfl ?_
            refine rb_get hV (v := .inr (some 53)) dX10_share_40 ⟨RX10, TX10, 24, rfl, (Nat.le_of_ble_eq_true rfl), lf_X10_29⟩ (gw_49 _) rfl ?_
            refine rb_iload hV dX10_share_43 rfl ?_
            refine rb_iald hV (f := (s 53)) dX10_share_45 (gw_53 _) (Nat.le_of_ble_eq_true rfl) (by omega) ?_
            refine rb_iload_n hV dX10_share_46 rfl rfl ?_
            refine rb_icmp_ne hV (tgt := 77) dX10_share_47 (by decide) ⟨(by unfold ab_r at *; omega), (by unfold ab_r at *; omega)⟩ (fun c47 => ?_) (fun c47 => ?_)
            · refine rb_iinc hV (L2 := [some (.inr (some 49)), some (.inl a), some (.inl b), some (.inl kind), some (.inl u), some (.inl t), some (.inl le), some (.inl (s 50 ((3 * kind) + 2))), some (.inl (w + 1))]) dX10_share_77 rfl rfl rfl ?_
              refine rb_goto hV (tgt := 28) dX10_share_80 (by decide) ?_
              refine ih28 le (w + 1) (g) ?_ ?_ ?_
              · omega
              · rw [sh1_next h1.1, if_neg (by rw [← h2.1, ← h2.2]; show ¬ (0 < le ∧ s 53 w = kind ∧ ¬ g w = sbd (vM s) t kind); omega), ← h2.1, ← h2.2]; exact ⟨rfl, rfl⟩
              · omega
            · refine rb_aload_n hV dX10_share_50 rfl rfl ?_
              refine rb_get hV (v := .inr (some 61)) dX10_share_51 ⟨RX10, TX10, 24, rfl, (Nat.le_of_ble_eq_true rfl), lf_X10_54⟩ (gw_49 _) rfl ?_
              refine rb_iload hV dX10_share_54 rfl ?_
              refine rb_iald hV (f := (g)) dX10_share_56 (gw_61 _) (Nat.le_of_ble_eq_true rfl) (by omega) ?_
              refine rb_iload hV dX10_share_57 rfl ?_
              have hkb := hp.2.2.2.2.2 kind (by omega) (by omega)
              have hkb2 : 1 ≤ s 50 (3 * kind) ∧ s 50 (3 * kind + 2) ≤ 40 ∧ s 50 (3 * kind) ≤ s 50 (3 * kind + 2) := ⟨hkb.1, hkb.2.2.2, Int.le_trans hkb.2.1 hkb.2.2.1⟩
              have ea : s 50 (3 * kind + 0) = s 50 (3 * kind) := by rw [Int.add_zero]
              refine rb_icmp_eq hV (tgt := 77) dX10_share_59 (by decide) ⟨(by unfold ab_r at *; omega), (by unfold ab_r at *; omega)⟩ (fun c59 => ?_) (fun c59 => ?_)
              · refine rb_iinc hV (L2 := [some (.inr (some 49)), some (.inl a), some (.inl b), some (.inl kind), some (.inl u), some (.inl t), some (.inl le), some (.inl (s 50 ((3 * kind) + 2))), some (.inl (w + 1))]) dX10_share_77 rfl rfl rfl ?_
                refine rb_goto hV (tgt := 28) dX10_share_80 (by decide) ?_
                refine ih28 le (w + 1) (g) ?_ ?_ ?_
                · omega
                · rw [sh1_next h1.1, if_neg (by rw [← h2.1, ← h2.2]; show ¬ (0 < le ∧ s 53 w = kind ∧ ¬ g w = sbd (vM s) t kind); omega), ← h2.1, ← h2.2]; exact ⟨rfl, rfl⟩
                · omega
              · refine rb_aload_n hV dX10_share_62 rfl rfl ?_
                refine rb_get hV (v := .inr (some 61)) dX10_share_63 ⟨RX10, TX10, 24, rfl, (Nat.le_of_ble_eq_true rfl), lf_X10_54⟩ (gw_49 _) rfl ?_
                refine rb_iload hV dX10_share_66 rfl ?_
                refine rb_dup2 hV dX10_share_68 ?_
                refine rb_iald hV (f := (g)) dX10_share_69 (gw_61 _) (Nat.le_of_ble_eq_true rfl) (by omega) ?_
                refine rb_iload hV dX10_share_70 rfl ?_
                refine rb_iadd hV dX10_share_72 ?_
                refine rb_iast hV (f := (g)) dX10_share_73 (gw_61 _) (Nat.le_of_ble_eq_true rfl) (by omega) rfl ((pw_61 _ _).trans (congrArg WW (ab_s_same _ 61 _ _))) ?_
                refine rb_iinc hV (L2 := [some (.inr (some 49)), some (.inl a), some (.inl b), some (.inl kind), some (.inl u), some (.inl t), some (.inl (le + (-1))), some (.inl (s 50 ((3 * kind) + 2))), some (.inl w)]) dX10_share_74 rfl rfl rfl ?_
                refine rb_iinc hV (L2 := [some (.inr (some 49)), some (.inl a), some (.inl b), some (.inl kind), some (.inl u), some (.inl t), some (.inl (le + (-1))), some (.inl (s 50 ((3 * kind) + 2))), some (.inl (w + 1))]) dX10_share_77 rfl rfl rfl ?_
                refine rb_goto hV (tgt := 28) dX10_share_80 (by decide) ?_
                refine ih28 (le + (-1)) (w + 1) (ab_u (g) w (((g) w) + t)) ?_ ?_ ?_
                · omega
                · rw [sh1_next h1.1, if_pos (by rw [← h2.1, ← h2.2]; show (0 < le ∧ s 53 w = kind ∧ ¬ g w = sbd (vM s) t kind); omega), ← h2.1, ← h2.2]; exact ⟨rfl, rfl⟩
                · omega
    refine h28 _ u a (s 61) ?_ ?_ (Nat.lt_succ_self _)
    · omega
    · rw [show (a - a).toNat = 0 by omega]; exact ⟨rfl, rfl⟩

theorem rnds_z {d : Nat → Int → Int} {t a b : Int} {f : Int → Int} (k : Nat) : rnds d t a b k (f, 0) = (f, 0) := by
  have := rnds_stop (d := d) (by_ := t) (a := a) (b := b) (p := (f, 0)) (k := 0) (Int.le_refl 0) k
  rwa [Nat.zero_add] at this

set_option maxRecDepth 20000 in
theorem c_X10_layLine (s : Nat → Int → Int) (l : Int) (hp : PI (vM s)) (hv : LV (vM s) (s 59) (s 125 0)) (hl : 0 ≤ l ∧ l < s 125 0) : ab_Mt yX10_layLine cX10_layLine 9 none ({ frames := 3, cells := 0, slots := 0, locals := 71 } : Room) false 0 0 [.inr (some 49), .inl l] (WW s) (fun r h2 => r = none ∧ ∃ be g lo, h2 = WW (ab_s (ab_s (ab_s s 60 be) 61 g) 63 lo) ∧ (∀ j, (s 59 l) ≤ j → j < (s 59 (l + 1) - 1) → g j = swF (vM s) (s 59 l) (s 59 (l + 1) - 1) j) ∧ (∀ j, ¬ ((s 59 l) ≤ j ∧ j ≤ (s 59 (l + 1) - 1)) → g j = s 61 j) ∧ g (s 59 (l + 1) - 1) = 0 ∧ (∀ j, (s 59 l) ≤ j → j ≤ (s 59 (l + 1) - 1) → lo j = l ∧ be j = bgF (vM s) g (s 59 l) j) ∧ (∀ j, ¬ ((s 59 l) ≤ j ∧ j ≤ (s 59 (l + 1) - 1)) → lo j = s 63 j ∧ be j = s 60 j)) := by
  refine ab_mk RX10 false rfl pn_X10_layLine (fun z => by cases z) (Nat.le_of_ble_eq_true rfl) (fun V hV => ?_)
  show V 0 [some (.inr (some 49)), some (.inl l), none, none, none, none, none, none, none] [] (WW s) 0 0
  have hn : 0 ≤ s 120 0 ∧ s 120 0 ≤ 60 := hp.1
  have hms : 10 ≤ s 117 0 ∧ s 117 0 ≤ 200 := hp.2.2.1
  have e0 : vM s 0 0 = s 120 0 := rfl
  have hnl : 0 ≤ s 125 0 ∧ s 125 0 ≤ s 120 0 := hv.1
  have hl0 := hv.2.1 l (by omega) (by omega)
  have hl02 : s 59 (l + 1) ≤ s 120 0 := hl0.2.2.1
  have hl03 := hl0.2.1
  have hl01 : 0 ≤ s 59 l := hl0.1
  refine rb_aload_n hV dX10_layLine_0 rfl rfl ?_
  refine rb_get hV (v := .inr (some 59)) dX10_layLine_1 ⟨RX10, TX10, 24, rfl, (Nat.le_of_ble_eq_true rfl), lf_X10_48⟩ (gw_49 _) rfl ?_
  refine rb_iload_n hV dX10_layLine_4 rfl rfl ?_
  refine rb_iald hV (f := (s 59)) dX10_layLine_5 (gw_59 _) (Nat.le_of_ble_eq_true rfl) (by omega) ?_
  refine rb_istore_n hV (L2 := [some (.inr (some 49)), some (.inl l), some (.inl (s 59 l)), none, none, none, none, none, none]) dX10_layLine_6 rfl (Nat.le_of_ble_eq_true rfl) rfl ?_
  refine rb_aload_n hV dX10_layLine_7 rfl rfl ?_
  refine rb_iload_n hV dX10_layLine_8 rfl rfl ?_
  refine rb_callV hV (rest := []) dX10_layLine_9 (c_X10_lastOf s l (by omega)) lk_X10_192 rfl (Or.inl ⟨9, _, TX10, 24, gw_49 _, rfl⟩) rfl ⟨rfl, rfl, (Nat.le_of_ble_eq_true rfl), (Nat.le_of_ble_eq_true rfl), (Nat.le_of_ble_eq_true rfl), (Nat.le_of_ble_eq_true rfl)⟩ (Nat.le_of_ble_eq_true rfl) (fun r9 h9 p9 => ?_)
  obtain ⟨rfl, rfl⟩ := p9
  show V 12 [some (.inr (some 49)), some (.inl l), some (.inl (s 59 l)), none, none, none, none, none, none] [.inl ((s 59 (l + 1)) - 1)] (WW s) 0 0
  refine rb_istore_n hV (L2 := [some (.inr (some 49)), some (.inl l), some (.inl (s 59 l)), some (.inl ((s 59 (l + 1)) - 1)), none, none, none, none, none]) dX10_layLine_12 rfl (Nat.le_of_ble_eq_true rfl) rfl ?_
  refine rb_iload_n hV dX10_layLine_13 rfl rfl ?_
  refine rb_istore hV (L2 := [some (.inr (some 49)), some (.inl l), some (.inl (s 59 l)), some (.inl ((s 59 (l + 1)) - 1)), some (.inl (s 59 l)), none, none, none, none]) dX10_layLine_14 (Nat.le_of_ble_eq_true rfl) rfl ?_
  refine rb_heq (b := (ab_s (ab_s s 61 (s 61)) 63 (s 63))) ((ab_s_id rfl).trans (ab_s_id rfl)).symm ?_
  have h16 : ∀ (n16 : Nat) (w : Int) (g : Int → Int) (lo : Int → Int), ((s 59 l) ≤ w ∧ w ≤ (s 59 (l + 1) - 1) + 1) → (∀ j, (s 59 l) ≤ j → j < w → g j = (if j < (s 59 (l + 1) - 1) then na0 (vM s) j else 0) ∧ lo j = l) → (∀ j, ¬ ((s 59 l) ≤ j ∧ j < w) → g j = s 61 j ∧ lo j = s 63 j) → (((s 59 (l + 1) - 1) + 1 - w).toNat) < n16 → V 16 [some (.inr (some 49)), some (.inl l), some (.inl (s 59 l)), some (.inl ((s 59 (l + 1)) - 1)), some (.inl w), none, none, none, none] [] (WW (ab_s (ab_s s 61 g) 63 lo)) 0 0 := by
    intro n16
    induction n16 with
    | zero => intro w g lo h1 h2 h3 hm; omega
    | succ n16 ih16 =>
      intro w g lo h1 h2 h3 hm
      refine rb_iload hV dX10_layLine_16 rfl ?_
      refine rb_iload_n hV dX10_layLine_18 rfl rfl ?_
      refine rb_icmp_gt hV (tgt := 69) dX10_layLine_19 (by decide) ⟨(by unfold ab_r at *; omega), (by unfold ab_r at *; omega)⟩ (fun c19 => ?_) (fun c19 => ?_)
      · have hd := df_b hp hl01 (show (s 59 l) ≤ (s 59 (l + 1) - 1) by omega) (show (s 59 (l + 1) - 1) < s 120 0 by omega)
        refine rb_aload_n hV dX10_layLine_69 rfl rfl ?_
        refine rb_iload_n hV dX10_layLine_70 rfl rfl ?_
        refine rb_iload_n hV dX10_layLine_71 rfl rfl ?_
        refine rb_callV hV (rest := []) dX10_layLine_72 (c_X10_difference (ab_s (ab_s s 61 g) 63 lo) hp (s 59 l) ((s 59 (l + 1)) - 1) (by omega) (by omega) (show ((s 59 (l + 1)) - 1) < (s 120 0) by omega)) lk_X10_163 rfl (Or.inl ⟨9, _, TX10, 24, gw_49 _, rfl⟩) rfl ⟨rfl, rfl, (Nat.le_of_ble_eq_true rfl), (Nat.le_of_ble_eq_true rfl), (Nat.le_of_ble_eq_true rfl), (Nat.le_of_ble_eq_true rfl)⟩ (Nat.le_of_ble_eq_true rfl) (fun r9 h9 p9 => ?_)
        obtain ⟨rfl, rfl⟩ := p9
        show V 75 [some (.inr (some 49)), some (.inl l), some (.inl (s 59 l)), some (.inl ((s 59 (l + 1)) - 1)), some (.inl w), none, none, none, none] [.inl (df (vM s) (s 59 l) ((s 59 (l + 1)) - 1))] (WW (ab_s (ab_s s 61 g) 63 lo)) 0 0
        refine rb_istore hV (L2 := [some (.inr (some 49)), some (.inl l), some (.inl (s 59 l)), some (.inl ((s 59 (l + 1)) - 1)), some (.inl (df (vM s) (s 59 l) ((s 59 (l + 1)) - 1))), none, none, none, none]) dX10_layLine_75 (Nat.le_of_ble_eq_true rfl) rfl ?_
        refine rb_iload hV dX10_layLine_77 rfl ?_
        refine rb_if_ge hV (tgt := 88) dX10_layLine_79 (by decide) (by unfold ab_r at *; omega) (fun c79 => ?_) (fun c79 => ?_)
        · refine rb_aload_n hV dX10_layLine_88 rfl rfl ?_
          refine rb_iload_n hV dX10_layLine_89 rfl rfl ?_
          refine rb_callV hV (rest := []) dX10_layLine_90 (c_X10_isLast (ab_s (ab_s s 61 g) 63 lo) hp ((s 59 (l + 1)) - 1) (by unfold ab_r; omega)) lk_X10_166 rfl (Or.inl ⟨9, _, TX10, 24, gw_49 _, rfl⟩) rfl ⟨rfl, rfl, (Nat.le_of_ble_eq_true rfl), (Nat.le_of_ble_eq_true rfl), (Nat.le_of_ble_eq_true rfl), (Nat.le_of_ble_eq_true rfl)⟩ (Nat.le_of_ble_eq_true rfl) (fun r9 h9 p9 => ?_)
          obtain ⟨rfl, rfl⟩ := p9
          show V 93 [some (.inr (some 49)), some (.inl l), some (.inl (s 59 l)), some (.inl ((s 59 (l + 1)) - 1)), some (.inl (df (vM s) (s 59 l) ((s 59 (l + 1)) - 1))), none, none, none, none] [.inl (if ((s 59 (l + 1)) - 1) = (s 120 0) - 1 then 1 else 0)] (WW (ab_s (ab_s s 61 g) 63 lo)) 0 0
          by_cases e90 : ((s 59 (l + 1)) - 1) = (s 120 0) - 1
          · rw [if_pos e90]
            show V 93 [some (.inr (some 49)), some (.inl l), some (.inl (s 59 l)), some (.inl ((s 59 (l + 1)) - 1)), some (.inl (df (vM s) (s 59 l) ((s 59 (l + 1)) - 1))), none, none, none, none] [.inl 1] (WW (ab_s (ab_s s 61 g) 63 lo)) 0 0
            refine rb_if_eq hV (tgt := 100) dX10_layLine_93 (by decide) (by unfold ab_r at *; omega) (fun z => absurd z (by decide)) (fun _ => ?_)
            refine rb_iconst hV dX10_layLine_96 ?_
            refine rb_goto hV (tgt := 102) dX10_layLine_97 (by decide) ?_
            refine rb_istore hV (L2 := [some (.inr (some 49)), some (.inl l), some (.inl (s 59 l)), some (.inl ((s 59 (l + 1)) - 1)), some (.inl (df (vM s) (s 59 l) ((s 59 (l + 1)) - 1))), some (.inl 0), none, none, none]) dX10_layLine_102 (Nat.le_of_ble_eq_true rfl) rfl ?_
            refine rb_iload hV dX10_layLine_104 rfl ?_
            refine rb_if_ge hV (tgt := 113) dX10_layLine_106 (by decide) (by unfold ab_r at *; omega) (fun c106 => ?_) (fun c106 => absurd c106 (by omega))
            refine rb_iconst hV dX10_layLine_113 ?_
            refine rb_istore hV (L2 := [some (.inr (some 49)), some (.inl l), some (.inl (s 59 l)), some (.inl ((s 59 (l + 1)) - 1)), some (.inl (df (vM s) (s 59 l) ((s 59 (l + 1)) - 1))), some (.inl 0), some (.inl 1), none, none]) dX10_layLine_114 (Nat.le_of_ble_eq_true rfl) rfl ?_
            refine rb_iload hV dX10_layLine_116 rfl ?_
            refine rb_if_le hV (tgt := 181) dX10_layLine_118 (by decide) (by unfold ab_r at *; omega) (fun _ => ?_) (fun z => absurd z (by decide))
            refine rb_aload_n hV dX10_layLine_181 rfl rfl ?_
            refine rb_iload_n hV dX10_layLine_182 rfl rfl ?_
            refine rb_callV hV (rest := []) dX10_layLine_183 (c_X10_hangLeft (ab_s (ab_s s 61 g) 63 lo) hp (s 59 l) (show 0 ≤ s 59 l ∧ s 59 l < s 120 0 by omega)) lk_X10_154 rfl (Or.inl ⟨9, _, TX10, 24, gw_49 _, rfl⟩) rfl ⟨rfl, rfl, (Nat.le_of_ble_eq_true rfl), (Nat.le_of_ble_eq_true rfl), (Nat.le_of_ble_eq_true rfl), (Nat.le_of_ble_eq_true rfl)⟩ (Nat.le_of_ble_eq_true rfl) (fun r9 h9 p9 => ?_)
            obtain ⟨rfl, rfl⟩ := p9
            show V 186 [some (.inr (some 49)), some (.inl l), some (.inl (s 59 l)), some (.inl ((s 59 (l + 1)) - 1)), some (.inl (df (vM s) (s 59 l) ((s 59 (l + 1)) - 1))), some (.inl 0), some (.inl 1), none, none] [.inl (hL (vM s) (s 59 l))] (WW (ab_s (ab_s s 61 g) 63 lo)) 0 0
            refine rb_ineg hV dX10_layLine_186 ?_
            refine rb_istore hV (L2 := [some (.inr (some 49)), some (.inl l), some (.inl (s 59 l)), some (.inl ((s 59 (l + 1)) - 1)), some (.inl (df (vM s) (s 59 l) ((s 59 (l + 1)) - 1))), some (.inl 0), some (.inl 1), some (.inl (-(hL (vM s) (s 59 l)))), none]) dX10_layLine_187 (Nat.le_of_ble_eq_true rfl) rfl ?_
            refine rb_iload_n hV dX10_layLine_189 rfl rfl ?_
            refine rb_istore hV (L2 := [some (.inr (some 49)), some (.inl l), some (.inl (s 59 l)), some (.inl ((s 59 (l + 1)) - 1)), some (.inl (df (vM s) (s 59 l) ((s 59 (l + 1)) - 1))), some (.inl 0), some (.inl 1), some (.inl (-(hL (vM s) (s 59 l)))), some (.inl (s 59 l))]) dX10_layLine_190 (Nat.le_of_ble_eq_true rfl) rfl ?_
            refine rb_heq (b := (ab_s (ab_s (ab_s s 61 g) 63 lo) 60 (s 60))) (ab_s_id rfl).symm ?_
            have h192 : ∀ (n192 : Nat) (at_ : Int) (w : Int) (be : Int → Int), ((s 59 l) ≤ w ∧ w ≤ (s 59 (l + 1) - 1) + 1) → (at_ = bgF (vM s) g (s 59 l) w) → (∀ j, (s 59 l) ≤ j → j < w → be j = bgF (vM s) g (s 59 l) j) → (∀ j, ¬ ((s 59 l) ≤ j ∧ j < w) → be j = s 60 j) → (((s 59 (l + 1) - 1) + 1 - w).toNat) < n192 → V 192 [some (.inr (some 49)), some (.inl l), some (.inl (s 59 l)), some (.inl ((s 59 (l + 1)) - 1)), some (.inl (df (vM s) (s 59 l) ((s 59 (l + 1)) - 1))), some (.inl 0), some (.inl 1), some (.inl at_), some (.inl w)] [] (WW (ab_s (ab_s (ab_s s 61 g) 63 lo) 60 be)) 0 0 := by
              intro n192
              induction n192 with
              | zero => intro at_ w be g1 g2 g3 g4 hm; omega
              | succ n192 ih192 =>
                intro at_ w be g1 g2 g3 g4 hm
                refine rb_iload hV dX10_layLine_192 rfl ?_
                refine rb_iload_n hV dX10_layLine_194 rfl rfl ?_
                refine rb_icmp_gt hV (tgt := 233) dX10_layLine_195 (by decide) ⟨(by unfold ab_r at *; omega), (by unfold ab_r at *; omega)⟩ (fun c195 => ?_) (fun c195 => ?_)
                · refine rb_ret hV (r := none) dX10_layLine_233 rfl ⟨(Nat.le_of_ble_eq_true rfl), (Nat.le_of_ble_eq_true rfl)⟩ trivial ?_
                  have hS : ∀ j, (s 59 l) ≤ j → j < (s 59 (l + 1) - 1) → g j = swF (vM s) (s 59 l) (s 59 (l + 1) - 1) j := by
                    intro j j1 j2
                    refine ((h2 j j1 (by omega)).1).trans ((if_pos j2).trans ?_)
                    by_cases hd0 : 0 < df (vM s) (s 59 l) (s 59 (l + 1) - 1)
                    · rw [swF_last ⟨hd0, by show (s 59 (l + 1) - 1) = s 120 0 - 1; omega⟩]
                    · have hd1 : df (vM s) (s 59 l) (s 59 (l + 1) - 1) = 0 := by omega
                      rw [swF_sh (by show ¬ (0 < df (vM s) (s 59 l) (s 59 (l + 1) - 1) ∧ (s 59 (l + 1) - 1) = s 120 0 - 1); omega), show sun (vM s) (s 59 l) (s 59 (l + 1) - 1) = 0 from (if_pos (by omega)).trans hd1, rnds_z]
                  exact ⟨rfl, be, g, lo, rfl, hS, fun j hj => (h3 j (fun z => hj ⟨z.1, by omega⟩)).1, ((h2 (s 59 (l + 1) - 1) (by omega) (by omega)).1).trans (if_neg (by omega)), fun j j1 j2 => ⟨(h2 j j1 (by omega)).2, g3 j j1 (by omega)⟩, fun j hj => ⟨(h3 j (fun z => hj ⟨z.1, by omega⟩)).2, g4 j (fun z => hj ⟨z.1, by omega⟩)⟩⟩
                · refine rb_aload_n hV dX10_layLine_198 rfl rfl ?_
                  refine rb_get hV (v := .inr (some 60)) dX10_layLine_199 ⟨RX10, TX10, 24, rfl, (Nat.le_of_ble_eq_true rfl), lf_X10_51⟩ (gw_49 _) rfl ?_
                  refine rb_iload hV dX10_layLine_202 rfl ?_
                  refine rb_iload hV dX10_layLine_204 rfl ?_
                  refine rb_iast hV (f := (be)) dX10_layLine_206 (gw_60 _) (Nat.le_of_ble_eq_true rfl) (by omega) rfl ((pw_60 _ _).trans (congrArg WW (ab_s_same _ 60 _ _))) ?_
                  refine rb_iload hV dX10_layLine_207 rfl ?_
                  refine rb_aload_n hV dX10_layLine_209 rfl rfl ?_
                  refine rb_get hV (v := .inr (some 51)) dX10_layLine_210 ⟨RX10, TX10, 24, rfl, (Nat.le_of_ble_eq_true rfl), lf_X10_23⟩ (gw_49 _) rfl ?_
                  refine rb_iload hV dX10_layLine_213 rfl ?_
                  refine rb_iald hV (f := (s 51)) dX10_layLine_215 (gw_51 _) (Nat.le_of_ble_eq_true rfl) (by omega) ?_
                  refine rb_aload_n hV dX10_layLine_216 rfl rfl ?_
                  refine rb_get hV (v := .inr (some 61)) dX10_layLine_217 ⟨RX10, TX10, 24, rfl, (Nat.le_of_ble_eq_true rfl), lf_X10_54⟩ (gw_49 _) rfl ?_
                  refine rb_iload hV dX10_layLine_220 rfl ?_
                  refine rb_iald hV (f := (g)) dX10_layLine_222 (gw_61 _) (Nat.le_of_ble_eq_true rfl) (by omega) ?_
                  refine rb_iadd hV dX10_layLine_223 ?_
                  refine rb_iadd hV dX10_layLine_224 ?_
                  refine rb_istore hV (L2 := [some (.inr (some 49)), some (.inl l), some (.inl (s 59 l)), some (.inl ((s 59 (l + 1)) - 1)), some (.inl (df (vM s) (s 59 l) ((s 59 (l + 1)) - 1))), some (.inl 0), some (.inl 1), some (.inl (at_ + ((s 51 w) + ((g) w)))), some (.inl w)]) dX10_layLine_225 (Nat.le_of_ble_eq_true rfl) rfl ?_
                  refine rb_iinc hV (L2 := [some (.inr (some 49)), some (.inl l), some (.inl (s 59 l)), some (.inl ((s 59 (l + 1)) - 1)), some (.inl (df (vM s) (s 59 l) ((s 59 (l + 1)) - 1))), some (.inl 0), some (.inl 1), some (.inl (at_ + ((s 51 w) + ((g) w)))), some (.inl (w + 1))]) dX10_layLine_227 rfl rfl rfl ?_
                  refine rb_goto hV (tgt := 192) dX10_layLine_230 (by decide) ?_
                  refine ih192 (at_ + ((s 51 w) + ((g) w))) (w + 1) (ab_u (be) w at_) ?_ ?_ ?_ ?_ ?_
                  · omega
                  · rw [bgF_s _ _ g1.1, g2]; show _ + (s 51 w + _) = _ + s 51 w + _; omega
                  · intro j j1 j2
                    by_cases hj : j = w
                    · subst hj
                      rw [ab_u_eq]
                      exact g2
                    · rw [ab_u_ne hj]
                      exact g3 j j1 (by omega)
                  · intro j hj
                    rw [ab_u_ne (by omega)]
                    exact g4 j (by omega)
                  · omega
            refine h192 _ (-(hL (vM s) (s 59 l))) (s 59 l) (s 60) ?_ ?_ ?_ ?_ (Nat.lt_succ_self _)
            · omega
            · rw [bgF_0]
            · exact fun j j1 j2 => absurd j2 (by omega)
            · exact fun j _ => rfl
          · rw [if_neg e90]
            show V 93 [some (.inr (some 49)), some (.inl l), some (.inl (s 59 l)), some (.inl ((s 59 (l + 1)) - 1)), some (.inl (df (vM s) (s 59 l) ((s 59 (l + 1)) - 1))), none, none, none, none] [.inl 0] (WW (ab_s (ab_s s 61 g) 63 lo)) 0 0
            refine rb_if_eq hV (tgt := 100) dX10_layLine_93 (by decide) (by unfold ab_r at *; omega) (fun _ => ?_) (fun z => absurd z (by decide))
            refine rb_iload hV dX10_layLine_100 rfl ?_
            refine rb_istore hV (L2 := [some (.inr (some 49)), some (.inl l), some (.inl (s 59 l)), some (.inl ((s 59 (l + 1)) - 1)), some (.inl (df (vM s) (s 59 l) ((s 59 (l + 1)) - 1))), some (.inl (df (vM s) (s 59 l) ((s 59 (l + 1)) - 1))), none, none, none]) dX10_layLine_102 (Nat.le_of_ble_eq_true rfl) rfl ?_
            refine rb_iload hV dX10_layLine_104 rfl ?_
            refine rb_if_ge hV (tgt := 113) dX10_layLine_106 (by decide) (by unfold ab_r at *; omega) (fun c106 => ?_) (fun c106 => absurd c106 (by omega))
            refine rb_iconst hV dX10_layLine_113 ?_
            refine rb_istore hV (L2 := [some (.inr (some 49)), some (.inl l), some (.inl (s 59 l)), some (.inl ((s 59 (l + 1)) - 1)), some (.inl (df (vM s) (s 59 l) ((s 59 (l + 1)) - 1))), some (.inl (df (vM s) (s 59 l) ((s 59 (l + 1)) - 1))), some (.inl 1), none, none]) dX10_layLine_114 (Nat.le_of_ble_eq_true rfl) rfl ?_
            have h116 : ∀ (n116 : Nat) (r : Int) (u : Int) (q : Int → Int), (0 ≤ r ∧ r ≤ 40) → (agr (s 59 l) (s 59 (l + 1) - 1) (q, u) (rnds (vM s) 1 (s 59 l) (s 59 (l + 1) - 1) r.toNat (na0 (vM s), (df (vM s) (s 59 l) (s 59 (l + 1) - 1))))) → (∀ j, ¬ ((s 59 l) ≤ j ∧ j < (s 59 (l + 1) - 1)) → q j = g j) → (∀ j, (s 59 l) ≤ j → j < (s 59 (l + 1) - 1) → -3 * r ≤ q j ∧ q j ≤ 40 + 3 * r) → (0 ≤ u ∧ u ≤ (df (vM s) (s 59 l) (s 59 (l + 1) - 1))) → ((40 - r).toNat) < n116 → V 116 [some (.inr (some 49)), some (.inl l), some (.inl (s 59 l)), some (.inl ((s 59 (l + 1)) - 1)), some (.inl (df (vM s) (s 59 l) ((s 59 (l + 1)) - 1))), some (.inl u), some (.inl 1), none, none] [] (WW (ab_s (ab_s s 61 q) 63 lo)) 0 0 := by
              intro n116
              induction n116 with
              | zero => intro r u q h5 h6 h7 h8 h9 hm; omega
              | succ n116 ih116 =>
                intro r u q h5 h6 h7 h8 h9 hm
                refine rb_iload hV dX10_layLine_116 rfl ?_
                refine rb_if_le hV (tgt := 181) dX10_layLine_118 (by decide) (by unfold ab_r at *; omega) (fun c118 => ?_) (fun c118 => ?_)
                · refine rb_aload_n hV dX10_layLine_181 rfl rfl ?_
                  refine rb_iload_n hV dX10_layLine_182 rfl rfl ?_
                  refine rb_callV hV (rest := []) dX10_layLine_183 (c_X10_hangLeft (ab_s (ab_s s 61 q) 63 lo) hp (s 59 l) (show 0 ≤ s 59 l ∧ s 59 l < s 120 0 by omega)) lk_X10_154 rfl (Or.inl ⟨9, _, TX10, 24, gw_49 _, rfl⟩) rfl ⟨rfl, rfl, (Nat.le_of_ble_eq_true rfl), (Nat.le_of_ble_eq_true rfl), (Nat.le_of_ble_eq_true rfl), (Nat.le_of_ble_eq_true rfl)⟩ (Nat.le_of_ble_eq_true rfl) (fun r9 h9 p9 => ?_)
                  obtain ⟨rfl, rfl⟩ := p9
                  show V 186 [some (.inr (some 49)), some (.inl l), some (.inl (s 59 l)), some (.inl ((s 59 (l + 1)) - 1)), some (.inl (df (vM s) (s 59 l) ((s 59 (l + 1)) - 1))), some (.inl u), some (.inl 1), none, none] [.inl (hL (vM s) (s 59 l))] (WW (ab_s (ab_s s 61 q) 63 lo)) 0 0
                  refine rb_ineg hV dX10_layLine_186 ?_
                  refine rb_istore hV (L2 := [some (.inr (some 49)), some (.inl l), some (.inl (s 59 l)), some (.inl ((s 59 (l + 1)) - 1)), some (.inl (df (vM s) (s 59 l) ((s 59 (l + 1)) - 1))), some (.inl u), some (.inl 1), some (.inl (-(hL (vM s) (s 59 l)))), none]) dX10_layLine_187 (Nat.le_of_ble_eq_true rfl) rfl ?_
                  refine rb_iload_n hV dX10_layLine_189 rfl rfl ?_
                  refine rb_istore hV (L2 := [some (.inr (some 49)), some (.inl l), some (.inl (s 59 l)), some (.inl ((s 59 (l + 1)) - 1)), some (.inl (df (vM s) (s 59 l) ((s 59 (l + 1)) - 1))), some (.inl u), some (.inl 1), some (.inl (-(hL (vM s) (s 59 l)))), some (.inl (s 59 l))]) dX10_layLine_190 (Nat.le_of_ble_eq_true rfl) rfl ?_
                  refine rb_heq (b := (ab_s (ab_s (ab_s s 61 q) 63 lo) 60 (s 60))) (ab_s_id rfl).symm ?_
                  have h192 : ∀ (n192 : Nat) (at_ : Int) (w : Int) (be : Int → Int), ((s 59 l) ≤ w ∧ w ≤ (s 59 (l + 1) - 1) + 1) → (at_ = bgF (vM s) q (s 59 l) w) → (∀ j, (s 59 l) ≤ j → j < w → be j = bgF (vM s) q (s 59 l) j) → (∀ j, ¬ ((s 59 l) ≤ j ∧ j < w) → be j = s 60 j) → (((s 59 (l + 1) - 1) + 1 - w).toNat) < n192 → V 192 [some (.inr (some 49)), some (.inl l), some (.inl (s 59 l)), some (.inl ((s 59 (l + 1)) - 1)), some (.inl (df (vM s) (s 59 l) ((s 59 (l + 1)) - 1))), some (.inl u), some (.inl 1), some (.inl at_), some (.inl w)] [] (WW (ab_s (ab_s (ab_s s 61 q) 63 lo) 60 be)) 0 0 := by
                    intro n192
                    induction n192 with
                    | zero => intro at_ w be g1 g2 g3 g4 hm; omega
                    | succ n192 ih192 =>
                      intro at_ w be g1 g2 g3 g4 hm
                      refine rb_iload hV dX10_layLine_192 rfl ?_
                      refine rb_iload_n hV dX10_layLine_194 rfl rfl ?_
                      refine rb_icmp_gt hV (tgt := 233) dX10_layLine_195 (by decide) ⟨(by unfold ab_r at *; omega), (by unfold ab_r at *; omega)⟩ (fun c195 => ?_) (fun c195 => ?_)
                      · refine rb_ret hV (r := none) dX10_layLine_233 rfl ⟨(Nat.le_of_ble_eq_true rfl), (Nat.le_of_ble_eq_true rfl)⟩ trivial ?_
                        have hS : ∀ j, (s 59 l) ≤ j → j < (s 59 (l + 1) - 1) → q j = swF (vM s) (s 59 l) (s 59 (l + 1) - 1) j := by
                          intro j j1 j2
                          refine (h6.2 j j1 j2).trans ?_
                          by_cases hd0 : 0 < df (vM s) (s 59 l) (s 59 (l + 1) - 1)
                          · rw [swF_sh (by show ¬ (0 < df (vM s) (s 59 l) (s 59 (l + 1) - 1) ∧ (s 59 (l + 1) - 1) = s 120 0 - 1); omega), show sby (vM s) (s 59 l) (s 59 (l + 1) - 1) = 1 from if_pos hd0, show sun (vM s) (s 59 l) (s 59 (l + 1) - 1) = df (vM s) (s 59 l) (s 59 (l + 1) - 1) from if_pos (by omega), rnds_end h5.1 h5.2 (by rw [← h6.1]; show u ≤ 0; omega)]
                          · have hd1 : df (vM s) (s 59 l) (s 59 (l + 1) - 1) = 0 := by omega
                            rw [swF_sh (by show ¬ (0 < df (vM s) (s 59 l) (s 59 (l + 1) - 1) ∧ (s 59 (l + 1) - 1) = s 120 0 - 1); omega), show sun (vM s) (s 59 l) (s 59 (l + 1) - 1) = 0 from (if_pos (by omega)).trans hd1, hd1, rnds_z, rnds_z]
                        exact ⟨rfl, be, q, lo, rfl, hS, fun j hj => (h7 j (fun z => hj ⟨z.1, by omega⟩)).trans (h3 j (fun z => hj ⟨z.1, by omega⟩)).1, (h7 (s 59 (l + 1) - 1) (by omega)).trans (((h2 (s 59 (l + 1) - 1) (by omega) (by omega)).1).trans (if_neg (by omega))), fun j j1 j2 => ⟨(h2 j j1 (by omega)).2, g3 j j1 (by omega)⟩, fun j hj => ⟨(h3 j (fun z => hj ⟨z.1, by omega⟩)).2, g4 j (fun z => hj ⟨z.1, by omega⟩)⟩⟩
                      · refine rb_aload_n hV dX10_layLine_198 rfl rfl ?_
                        refine rb_get hV (v := .inr (some 60)) dX10_layLine_199 ⟨RX10, TX10, 24, rfl, (Nat.le_of_ble_eq_true rfl), lf_X10_51⟩ (gw_49 _) rfl ?_
                        refine rb_iload hV dX10_layLine_202 rfl ?_
                        refine rb_iload hV dX10_layLine_204 rfl ?_
                        refine rb_iast hV (f := (be)) dX10_layLine_206 (gw_60 _) (Nat.le_of_ble_eq_true rfl) (by omega) rfl ((pw_60 _ _).trans (congrArg WW (ab_s_same _ 60 _ _))) ?_
                        refine rb_iload hV dX10_layLine_207 rfl ?_
                        refine rb_aload_n hV dX10_layLine_209 rfl rfl ?_
                        refine rb_get hV (v := .inr (some 51)) dX10_layLine_210 ⟨RX10, TX10, 24, rfl, (Nat.le_of_ble_eq_true rfl), lf_X10_23⟩ (gw_49 _) rfl ?_
                        refine rb_iload hV dX10_layLine_213 rfl ?_
                        refine rb_iald hV (f := (s 51)) dX10_layLine_215 (gw_51 _) (Nat.le_of_ble_eq_true rfl) (by omega) ?_
                        refine rb_aload_n hV dX10_layLine_216 rfl rfl ?_
                        refine rb_get hV (v := .inr (some 61)) dX10_layLine_217 ⟨RX10, TX10, 24, rfl, (Nat.le_of_ble_eq_true rfl), lf_X10_54⟩ (gw_49 _) rfl ?_
                        refine rb_iload hV dX10_layLine_220 rfl ?_
                        refine rb_iald hV (f := (q)) dX10_layLine_222 (gw_61 _) (Nat.le_of_ble_eq_true rfl) (by omega) ?_
                        refine rb_iadd hV dX10_layLine_223 ?_
                        refine rb_iadd hV dX10_layLine_224 ?_
                        refine rb_istore hV (L2 := [some (.inr (some 49)), some (.inl l), some (.inl (s 59 l)), some (.inl ((s 59 (l + 1)) - 1)), some (.inl (df (vM s) (s 59 l) ((s 59 (l + 1)) - 1))), some (.inl u), some (.inl 1), some (.inl (at_ + ((s 51 w) + ((q) w)))), some (.inl w)]) dX10_layLine_225 (Nat.le_of_ble_eq_true rfl) rfl ?_
                        refine rb_iinc hV (L2 := [some (.inr (some 49)), some (.inl l), some (.inl (s 59 l)), some (.inl ((s 59 (l + 1)) - 1)), some (.inl (df (vM s) (s 59 l) ((s 59 (l + 1)) - 1))), some (.inl u), some (.inl 1), some (.inl (at_ + ((s 51 w) + ((q) w)))), some (.inl (w + 1))]) dX10_layLine_227 rfl rfl rfl ?_
                        refine rb_goto hV (tgt := 192) dX10_layLine_230 (by decide) ?_
                        refine ih192 (at_ + ((s 51 w) + ((q) w))) (w + 1) (ab_u (be) w at_) ?_ ?_ ?_ ?_ ?_
                        · omega
                        · rw [bgF_s _ _ g1.1, g2]; show _ + (s 51 w + _) = _ + s 51 w + _; omega
                        · intro j j1 j2
                          by_cases hj : j = w
                          · subst hj
                            rw [ab_u_eq]
                            exact g2
                          · rw [ab_u_ne hj]
                            exact g3 j j1 (by omega)
                        · intro j hj
                          rw [ab_u_ne (by omega)]
                          exact g4 j (by omega)
                        · omega
                  refine h192 _ (-(hL (vM s) (s 59 l))) (s 59 l) (s 60) ?_ ?_ ?_ ?_ (Nat.lt_succ_self _)
                  · omega
                  · rw [bgF_0]
                  · exact fun j j1 j2 => absurd j2 (by omega)
                  · exact fun j _ => rfl
                · have hr40 : r < 40 := by
                    rcases Int.lt_or_le r 40 with z | z
                    · exact z
                    · exfalso
                      have e40 : r = 40 := by omega
                      subst e40
                      have hf := rnds_fin hp hl01 (show (s 59 l) ≤ (s 59 (l + 1) - 1) by omega) (show (s 59 (l + 1) - 1) < s 120 0 by omega) hl0.2.2.2 (by show ¬ (0 < df (vM s) (s 59 l) (s 59 (l + 1) - 1) ∧ (s 59 (l + 1) - 1) = s 120 0 - 1); omega)
                      rw [show sby (vM s) (s 59 l) (s 59 (l + 1) - 1) = 1 from if_pos (by omega), show sun (vM s) (s 59 l) (s 59 (l + 1) - 1) = (df (vM s) (s 59 l) (s 59 (l + 1) - 1)) from if_pos (by omega)] at hf
                      have h61 : u = _ := h6.1
                      have h62 : u = 0 := h61.trans hf
                      omega
                  have hab : (s 59 l) ≤ (s 59 (l + 1) - 1) := by omega
                  have r0 : ∀ j, (s 59 l) ≤ j → j < (s 59 (l + 1) - 1) → -1000 ≤ q j ∧ q j ≤ 1000 := fun j j1 j2 => by have := h8 j j1 j2; omega
                  have h90 : 0 ≤ u ∧ u ≤ 100000 := by omega
                  refine rb_aload_n hV dX10_layLine_121 rfl rfl ?_
                  refine rb_iload_n hV dX10_layLine_122 rfl rfl ?_
                  refine rb_iload_n hV dX10_layLine_123 rfl rfl ?_
                  refine rb_iload hV dX10_layLine_124 rfl ?_
                  refine rb_if_ge hV (tgt := 133) dX10_layLine_126 (by decide) (by unfold ab_r at *; omega) (fun c126 => ?_) (fun c126 => absurd c126 (by omega))
                  refine rb_iconst hV dX10_layLine_133 ?_
                  refine rb_iload hV dX10_layLine_134 rfl ?_
                  refine rb_iload hV dX10_layLine_136 rfl ?_
                  refine rb_callV hV (rest := []) dX10_layLine_138 (c_X10_share (ab_s (ab_s s 61 q) 63 lo) (s 59 l) ((s 59 (l + 1)) - 1) 2 1 u hp (show 0 ≤ (s 59 l) ∧ (s 59 l) ≤ ((s 59 (l + 1)) - 1) ∧ ((s 59 (l + 1)) - 1) ≤ s 120 0 by omega) (by decide) (by decide) h90 r0) lk_X10_208 rfl (Or.inl ⟨9, _, TX10, 24, gw_49 _, rfl⟩) rfl ⟨rfl, rfl, (Nat.le_of_ble_eq_true rfl), (Nat.le_of_ble_eq_true rfl), (Nat.le_of_ble_eq_true rfl), (Nat.le_of_ble_eq_true rfl)⟩ (Nat.le_of_ble_eq_true rfl) (fun r9 h9 p9 => ?_)
                  obtain ⟨rfl, rfl⟩ := p9
                  refine rb_heq (b := (ab_s (ab_s s 61 (sh1 (vM s 3) 2 (sbd (vM s) 1 2) 1 (s 59 l) (((s 59 (l + 1)) - 1) - (s 59 l)).toNat ((q), u)).1) 63 lo)) ((ab_s_sw (by decide)).trans (congrArg (fun x => ab_s x 63 _) (ab_s_same _ 61 _ _))) ?_
                  show V 141 [some (.inr (some 49)), some (.inl l), some (.inl (s 59 l)), some (.inl ((s 59 (l + 1)) - 1)), some (.inl (df (vM s) (s 59 l) ((s 59 (l + 1)) - 1))), some (.inl u), some (.inl 1), none, none] [.inl ((sh1 (vM s 3) 2 (sbd (vM s) 1 2) 1 (s 59 l) (((s 59 (l + 1)) - 1) - (s 59 l)).toNat ((q), u)).2)] (WW (ab_s (ab_s s 61 (sh1 (vM s 3) 2 (sbd (vM s) 1 2) 1 (s 59 l) (((s 59 (l + 1)) - 1) - (s 59 l)).toNat ((q), u)).1) 63 lo)) 0 0
                  refine rb_istore hV (L2 := [some (.inr (some 49)), some (.inl l), some (.inl (s 59 l)), some (.inl ((s 59 (l + 1)) - 1)), some (.inl (df (vM s) (s 59 l) ((s 59 (l + 1)) - 1))), some (.inl ((sh1 (vM s 3) 2 (sbd (vM s) 1 2) 1 (s 59 l) (((s 59 (l + 1)) - 1) - (s 59 l)).toNat ((q), u)).2)), some (.inl 1), none, none]) dX10_layLine_141 (Nat.le_of_ble_eq_true rfl) rfl ?_
                  have u1 := sh1_un (kd := vM s 3) (kind := 2) (bound := sbd (vM s) 1 2) (t := 1) (a := (s 59 l)) (g := q) h90 ((s 59 (l + 1) - 1) - (s 59 l)).toNat
                  have r1 := sh1_rng (kd := vM s 3) (kind := 2) (bound := sbd (vM s) 1 2) (t := 1) (a := (s 59 l)) (b := (s 59 (l + 1) - 1)) (u := u) (by decide) h8 ((s 59 (l + 1) - 1) - (s 59 l)).toNat
                  refine rb_aload_n hV dX10_layLine_143 rfl rfl ?_
                  refine rb_iload_n hV dX10_layLine_144 rfl rfl ?_
                  refine rb_iload_n hV dX10_layLine_145 rfl rfl ?_
                  refine rb_iload hV dX10_layLine_146 rfl ?_
                  refine rb_if_ge hV (tgt := 155) dX10_layLine_148 (by decide) (by unfold ab_r at *; omega) (fun c148 => ?_) (fun c148 => absurd c148 (by omega))
                  refine rb_iconst hV dX10_layLine_155 ?_
                  refine rb_iload hV dX10_layLine_156 rfl ?_
                  refine rb_iload hV dX10_layLine_158 rfl ?_
                  refine rb_callV hV (rest := []) dX10_layLine_160 (c_X10_share (ab_s (ab_s s 61 (sh1 (vM s 3) 2 (sbd (vM s) 1 2) 1 (s 59 l) (((s 59 (l + 1)) - 1) - (s 59 l)).toNat ((q), u)).1) 63 lo) (s 59 l) ((s 59 (l + 1)) - 1) 1 1 ((sh1 (vM s 3) 2 (sbd (vM s) 1 2) 1 (s 59 l) (((s 59 (l + 1)) - 1) - (s 59 l)).toNat ((q), u)).2) hp (show 0 ≤ (s 59 l) ∧ (s 59 l) ≤ ((s 59 (l + 1)) - 1) ∧ ((s 59 (l + 1)) - 1) ≤ s 120 0 by omega) (by decide) (by decide) u1 (fun j j1 j2 => show -1000 ≤ (sh1 (vM s 3) 2 (sbd (vM s) 1 2) 1 (s 59 l) ((s 59 (l + 1) - 1) - (s 59 l)).toNat (q, u)).1 j ∧ (sh1 (vM s 3) 2 (sbd (vM s) 1 2) 1 (s 59 l) ((s 59 (l + 1) - 1) - (s 59 l)).toNat (q, u)).1 j ≤ 1000 by have := r1 j j1 j2; omega)) lk_X10_208 rfl (Or.inl ⟨9, _, TX10, 24, gw_49 _, rfl⟩) rfl ⟨rfl, rfl, (Nat.le_of_ble_eq_true rfl), (Nat.le_of_ble_eq_true rfl), (Nat.le_of_ble_eq_true rfl), (Nat.le_of_ble_eq_true rfl)⟩ (Nat.le_of_ble_eq_true rfl) (fun r9 h9 p9 => ?_)
                  obtain ⟨rfl, rfl⟩ := p9
                  refine rb_heq (b := (ab_s (ab_s s 61 (sh1 (vM s 3) 1 (sbd (vM s) 1 1) 1 (s 59 l) (((s 59 (l + 1)) - 1) - (s 59 l)).toNat ((sh1 (vM s 3) 2 (sbd (vM s) 1 2) 1 (s 59 l) (((s 59 (l + 1)) - 1) - (s 59 l)).toNat ((q), u)).1, ((sh1 (vM s 3) 2 (sbd (vM s) 1 2) 1 (s 59 l) (((s 59 (l + 1)) - 1) - (s 59 l)).toNat ((q), u)).2))).1) 63 lo)) ((ab_s_sw (by decide)).trans (congrArg (fun x => ab_s x 63 _) (ab_s_same _ 61 _ _))) ?_
                  show V 163 [some (.inr (some 49)), some (.inl l), some (.inl (s 59 l)), some (.inl ((s 59 (l + 1)) - 1)), some (.inl (df (vM s) (s 59 l) ((s 59 (l + 1)) - 1))), some (.inl ((sh1 (vM s 3) 2 (sbd (vM s) 1 2) 1 (s 59 l) (((s 59 (l + 1)) - 1) - (s 59 l)).toNat ((q), u)).2)), some (.inl 1), none, none] [.inl ((sh1 (vM s 3) 1 (sbd (vM s) 1 1) 1 (s 59 l) (((s 59 (l + 1)) - 1) - (s 59 l)).toNat ((sh1 (vM s 3) 2 (sbd (vM s) 1 2) 1 (s 59 l) (((s 59 (l + 1)) - 1) - (s 59 l)).toNat ((q), u)).1, ((sh1 (vM s 3) 2 (sbd (vM s) 1 2) 1 (s 59 l) (((s 59 (l + 1)) - 1) - (s 59 l)).toNat ((q), u)).2))).2)] (WW (ab_s (ab_s s 61 (sh1 (vM s 3) 1 (sbd (vM s) 1 1) 1 (s 59 l) (((s 59 (l + 1)) - 1) - (s 59 l)).toNat ((sh1 (vM s 3) 2 (sbd (vM s) 1 2) 1 (s 59 l) (((s 59 (l + 1)) - 1) - (s 59 l)).toNat ((q), u)).1, ((sh1 (vM s 3) 2 (sbd (vM s) 1 2) 1 (s 59 l) (((s 59 (l + 1)) - 1) - (s 59 l)).toNat ((q), u)).2))).1) 63 lo)) 0 0
                  refine rb_istore hV (L2 := [some (.inr (some 49)), some (.inl l), some (.inl (s 59 l)), some (.inl ((s 59 (l + 1)) - 1)), some (.inl (df (vM s) (s 59 l) ((s 59 (l + 1)) - 1))), some (.inl ((sh1 (vM s 3) 1 (sbd (vM s) 1 1) 1 (s 59 l) (((s 59 (l + 1)) - 1) - (s 59 l)).toNat ((sh1 (vM s 3) 2 (sbd (vM s) 1 2) 1 (s 59 l) (((s 59 (l + 1)) - 1) - (s 59 l)).toNat ((q), u)).1, ((sh1 (vM s 3) 2 (sbd (vM s) 1 2) 1 (s 59 l) (((s 59 (l + 1)) - 1) - (s 59 l)).toNat ((q), u)).2))).2)), some (.inl 1), none, none]) dX10_layLine_163 (Nat.le_of_ble_eq_true rfl) rfl ?_
                  have u2 := sh1_un (kd := vM s 3) (kind := 1) (bound := sbd (vM s) 1 1) (t := 1) (a := (s 59 l)) (g := (sh1 (vM s 3) 2 (sbd (vM s) 1 2) 1 (s 59 l) ((s 59 (l + 1) - 1) - (s 59 l)).toNat (q, u)).1) u1 ((s 59 (l + 1) - 1) - (s 59 l)).toNat
                  have r2 := sh1_rng (kd := vM s 3) (kind := 1) (bound := sbd (vM s) 1 1) (t := 1) (a := (s 59 l)) (b := (s 59 (l + 1) - 1)) (u := (sh1 (vM s 3) 2 (sbd (vM s) 1 2) 1 (s 59 l) ((s 59 (l + 1) - 1) - (s 59 l)).toNat (q, u)).2) (g := (sh1 (vM s 3) 2 (sbd (vM s) 1 2) 1 (s 59 l) ((s 59 (l + 1) - 1) - (s 59 l)).toNat (q, u)).1) (by decide) r1 ((s 59 (l + 1) - 1) - (s 59 l)).toNat
                  refine rb_aload_n hV dX10_layLine_165 rfl rfl ?_
                  refine rb_iload_n hV dX10_layLine_166 rfl rfl ?_
                  refine rb_iload_n hV dX10_layLine_167 rfl rfl ?_
                  refine rb_iconst hV dX10_layLine_168 ?_
                  refine rb_iload hV dX10_layLine_169 rfl ?_
                  refine rb_iload hV dX10_layLine_171 rfl ?_
                  refine rb_callV hV (rest := []) dX10_layLine_173 (c_X10_share (ab_s (ab_s s 61 (sh1 (vM s 3) 1 (sbd (vM s) 1 1) 1 (s 59 l) (((s 59 (l + 1)) - 1) - (s 59 l)).toNat ((sh1 (vM s 3) 2 (sbd (vM s) 1 2) 1 (s 59 l) (((s 59 (l + 1)) - 1) - (s 59 l)).toNat ((q), u)).1, ((sh1 (vM s 3) 2 (sbd (vM s) 1 2) 1 (s 59 l) (((s 59 (l + 1)) - 1) - (s 59 l)).toNat ((q), u)).2))).1) 63 lo) (s 59 l) ((s 59 (l + 1)) - 1) 0 1 ((sh1 (vM s 3) 1 (sbd (vM s) 1 1) 1 (s 59 l) (((s 59 (l + 1)) - 1) - (s 59 l)).toNat ((sh1 (vM s 3) 2 (sbd (vM s) 1 2) 1 (s 59 l) (((s 59 (l + 1)) - 1) - (s 59 l)).toNat ((q), u)).1, ((sh1 (vM s 3) 2 (sbd (vM s) 1 2) 1 (s 59 l) (((s 59 (l + 1)) - 1) - (s 59 l)).toNat ((q), u)).2))).2) hp (show 0 ≤ (s 59 l) ∧ (s 59 l) ≤ ((s 59 (l + 1)) - 1) ∧ ((s 59 (l + 1)) - 1) ≤ s 120 0 by omega) (by decide) (by decide) u2 (fun j j1 j2 => show -1000 ≤ (sh1 (vM s 3) 1 (sbd (vM s) 1 1) 1 (s 59 l) ((s 59 (l + 1) - 1) - (s 59 l)).toNat ((sh1 (vM s 3) 2 (sbd (vM s) 1 2) 1 (s 59 l) ((s 59 (l + 1) - 1) - (s 59 l)).toNat (q, u)).1, (sh1 (vM s 3) 2 (sbd (vM s) 1 2) 1 (s 59 l) ((s 59 (l + 1) - 1) - (s 59 l)).toNat (q, u)).2)).1 j ∧ (sh1 (vM s 3) 1 (sbd (vM s) 1 1) 1 (s 59 l) ((s 59 (l + 1) - 1) - (s 59 l)).toNat ((sh1 (vM s 3) 2 (sbd (vM s) 1 2) 1 (s 59 l) ((s 59 (l + 1) - 1) - (s 59 l)).toNat (q, u)).1, (sh1 (vM s 3) 2 (sbd (vM s) 1 2) 1 (s 59 l) ((s 59 (l + 1) - 1) - (s 59 l)).toNat (q, u)).2)).1 j ≤ 1000 by have := r2 j j1 j2; omega)) lk_X10_208 rfl (Or.inl ⟨9, _, TX10, 24, gw_49 _, rfl⟩) rfl ⟨rfl, rfl, (Nat.le_of_ble_eq_true rfl), (Nat.le_of_ble_eq_true rfl), (Nat.le_of_ble_eq_true rfl), (Nat.le_of_ble_eq_true rfl)⟩ (Nat.le_of_ble_eq_true rfl) (fun r9 h9 p9 => ?_)
                  obtain ⟨rfl, rfl⟩ := p9
                  refine rb_heq (b := (ab_s (ab_s s 61 (sh1 (vM s 3) 0 (sbd (vM s) 1 0) 1 (s 59 l) (((s 59 (l + 1)) - 1) - (s 59 l)).toNat ((sh1 (vM s 3) 1 (sbd (vM s) 1 1) 1 (s 59 l) (((s 59 (l + 1)) - 1) - (s 59 l)).toNat ((sh1 (vM s 3) 2 (sbd (vM s) 1 2) 1 (s 59 l) (((s 59 (l + 1)) - 1) - (s 59 l)).toNat ((q), u)).1, ((sh1 (vM s 3) 2 (sbd (vM s) 1 2) 1 (s 59 l) (((s 59 (l + 1)) - 1) - (s 59 l)).toNat ((q), u)).2))).1, ((sh1 (vM s 3) 1 (sbd (vM s) 1 1) 1 (s 59 l) (((s 59 (l + 1)) - 1) - (s 59 l)).toNat ((sh1 (vM s 3) 2 (sbd (vM s) 1 2) 1 (s 59 l) (((s 59 (l + 1)) - 1) - (s 59 l)).toNat ((q), u)).1, ((sh1 (vM s 3) 2 (sbd (vM s) 1 2) 1 (s 59 l) (((s 59 (l + 1)) - 1) - (s 59 l)).toNat ((q), u)).2))).2))).1) 63 lo)) ((ab_s_sw (by decide)).trans (congrArg (fun x => ab_s x 63 _) (ab_s_same _ 61 _ _))) ?_
                  show V 176 [some (.inr (some 49)), some (.inl l), some (.inl (s 59 l)), some (.inl ((s 59 (l + 1)) - 1)), some (.inl (df (vM s) (s 59 l) ((s 59 (l + 1)) - 1))), some (.inl ((sh1 (vM s 3) 1 (sbd (vM s) 1 1) 1 (s 59 l) (((s 59 (l + 1)) - 1) - (s 59 l)).toNat ((sh1 (vM s 3) 2 (sbd (vM s) 1 2) 1 (s 59 l) (((s 59 (l + 1)) - 1) - (s 59 l)).toNat ((q), u)).1, ((sh1 (vM s 3) 2 (sbd (vM s) 1 2) 1 (s 59 l) (((s 59 (l + 1)) - 1) - (s 59 l)).toNat ((q), u)).2))).2)), some (.inl 1), none, none] [.inl ((sh1 (vM s 3) 0 (sbd (vM s) 1 0) 1 (s 59 l) (((s 59 (l + 1)) - 1) - (s 59 l)).toNat ((sh1 (vM s 3) 1 (sbd (vM s) 1 1) 1 (s 59 l) (((s 59 (l + 1)) - 1) - (s 59 l)).toNat ((sh1 (vM s 3) 2 (sbd (vM s) 1 2) 1 (s 59 l) (((s 59 (l + 1)) - 1) - (s 59 l)).toNat ((q), u)).1, ((sh1 (vM s 3) 2 (sbd (vM s) 1 2) 1 (s 59 l) (((s 59 (l + 1)) - 1) - (s 59 l)).toNat ((q), u)).2))).1, ((sh1 (vM s 3) 1 (sbd (vM s) 1 1) 1 (s 59 l) (((s 59 (l + 1)) - 1) - (s 59 l)).toNat ((sh1 (vM s 3) 2 (sbd (vM s) 1 2) 1 (s 59 l) (((s 59 (l + 1)) - 1) - (s 59 l)).toNat ((q), u)).1, ((sh1 (vM s 3) 2 (sbd (vM s) 1 2) 1 (s 59 l) (((s 59 (l + 1)) - 1) - (s 59 l)).toNat ((q), u)).2))).2))).2)] (WW (ab_s (ab_s s 61 (sh1 (vM s 3) 0 (sbd (vM s) 1 0) 1 (s 59 l) (((s 59 (l + 1)) - 1) - (s 59 l)).toNat ((sh1 (vM s 3) 1 (sbd (vM s) 1 1) 1 (s 59 l) (((s 59 (l + 1)) - 1) - (s 59 l)).toNat ((sh1 (vM s 3) 2 (sbd (vM s) 1 2) 1 (s 59 l) (((s 59 (l + 1)) - 1) - (s 59 l)).toNat ((q), u)).1, ((sh1 (vM s 3) 2 (sbd (vM s) 1 2) 1 (s 59 l) (((s 59 (l + 1)) - 1) - (s 59 l)).toNat ((q), u)).2))).1, ((sh1 (vM s 3) 1 (sbd (vM s) 1 1) 1 (s 59 l) (((s 59 (l + 1)) - 1) - (s 59 l)).toNat ((sh1 (vM s 3) 2 (sbd (vM s) 1 2) 1 (s 59 l) (((s 59 (l + 1)) - 1) - (s 59 l)).toNat ((q), u)).1, ((sh1 (vM s 3) 2 (sbd (vM s) 1 2) 1 (s 59 l) (((s 59 (l + 1)) - 1) - (s 59 l)).toNat ((q), u)).2))).2))).1) 63 lo)) 0 0
                  refine rb_istore hV (L2 := [some (.inr (some 49)), some (.inl l), some (.inl (s 59 l)), some (.inl ((s 59 (l + 1)) - 1)), some (.inl (df (vM s) (s 59 l) ((s 59 (l + 1)) - 1))), some (.inl ((sh1 (vM s 3) 0 (sbd (vM s) 1 0) 1 (s 59 l) (((s 59 (l + 1)) - 1) - (s 59 l)).toNat ((sh1 (vM s 3) 1 (sbd (vM s) 1 1) 1 (s 59 l) (((s 59 (l + 1)) - 1) - (s 59 l)).toNat ((sh1 (vM s 3) 2 (sbd (vM s) 1 2) 1 (s 59 l) (((s 59 (l + 1)) - 1) - (s 59 l)).toNat ((q), u)).1, ((sh1 (vM s 3) 2 (sbd (vM s) 1 2) 1 (s 59 l) (((s 59 (l + 1)) - 1) - (s 59 l)).toNat ((q), u)).2))).1, ((sh1 (vM s 3) 1 (sbd (vM s) 1 1) 1 (s 59 l) (((s 59 (l + 1)) - 1) - (s 59 l)).toNat ((sh1 (vM s 3) 2 (sbd (vM s) 1 2) 1 (s 59 l) (((s 59 (l + 1)) - 1) - (s 59 l)).toNat ((q), u)).1, ((sh1 (vM s 3) 2 (sbd (vM s) 1 2) 1 (s 59 l) (((s 59 (l + 1)) - 1) - (s 59 l)).toNat ((q), u)).2))).2))).2)), some (.inl 1), none, none]) dX10_layLine_176 (Nat.le_of_ble_eq_true rfl) rfl ?_
                  refine rb_goto hV (tgt := 116) dX10_layLine_178 (by decide) ?_
                  refine ih116 (r + 1) ((sh1 (vM s 3) 0 (sbd (vM s) 1 0) 1 (s 59 l) (((s 59 (l + 1)) - 1) - (s 59 l)).toNat ((sh1 (vM s 3) 1 (sbd (vM s) 1 1) 1 (s 59 l) (((s 59 (l + 1)) - 1) - (s 59 l)).toNat ((sh1 (vM s 3) 2 (sbd (vM s) 1 2) 1 (s 59 l) (((s 59 (l + 1)) - 1) - (s 59 l)).toNat ((q), u)).1, ((sh1 (vM s 3) 2 (sbd (vM s) 1 2) 1 (s 59 l) (((s 59 (l + 1)) - 1) - (s 59 l)).toNat ((q), u)).2))).1, ((sh1 (vM s 3) 1 (sbd (vM s) 1 1) 1 (s 59 l) (((s 59 (l + 1)) - 1) - (s 59 l)).toNat ((sh1 (vM s 3) 2 (sbd (vM s) 1 2) 1 (s 59 l) (((s 59 (l + 1)) - 1) - (s 59 l)).toNat ((q), u)).1, ((sh1 (vM s 3) 2 (sbd (vM s) 1 2) 1 (s 59 l) (((s 59 (l + 1)) - 1) - (s 59 l)).toNat ((q), u)).2))).2))).2) ((sh1 (vM s 3) 0 (sbd (vM s) 1 0) 1 (s 59 l) (((s 59 (l + 1)) - 1) - (s 59 l)).toNat ((sh1 (vM s 3) 1 (sbd (vM s) 1 1) 1 (s 59 l) (((s 59 (l + 1)) - 1) - (s 59 l)).toNat ((sh1 (vM s 3) 2 (sbd (vM s) 1 2) 1 (s 59 l) (((s 59 (l + 1)) - 1) - (s 59 l)).toNat ((q), u)).1, ((sh1 (vM s 3) 2 (sbd (vM s) 1 2) 1 (s 59 l) (((s 59 (l + 1)) - 1) - (s 59 l)).toNat ((q), u)).2))).1, ((sh1 (vM s 3) 1 (sbd (vM s) 1 1) 1 (s 59 l) (((s 59 (l + 1)) - 1) - (s 59 l)).toNat ((sh1 (vM s 3) 2 (sbd (vM s) 1 2) 1 (s 59 l) (((s 59 (l + 1)) - 1) - (s 59 l)).toNat ((q), u)).1, ((sh1 (vM s 3) 2 (sbd (vM s) 1 2) 1 (s 59 l) (((s 59 (l + 1)) - 1) - (s 59 l)).toNat ((q), u)).2))).2))).1) ?_ ?_ ?_ ?_ ?_ ?_
                  · omega
                  · exact rnd_agr_s (d := vM s) (t := 1) hab h5.1 h6
                  · exact sh1_out hab (sh1_out hab (sh1_out hab h7))
                  · exact fun j j1 j2 => by have := sh1_rng (kd := vM s 3) (kind := 0) (bound := sbd (vM s) 1 0) (t := 1) (a := (s 59 l)) (b := (s 59 (l + 1) - 1)) (u := (sh1 (vM s 3) 1 (sbd (vM s) 1 1) 1 (s 59 l) ((s 59 (l + 1) - 1) - (s 59 l)).toNat ((sh1 (vM s 3) 2 (sbd (vM s) 1 2) 1 (s 59 l) ((s 59 (l + 1) - 1) - (s 59 l)).toNat (q, u)).1, (sh1 (vM s 3) 2 (sbd (vM s) 1 2) 1 (s 59 l) ((s 59 (l + 1) - 1) - (s 59 l)).toNat (q, u)).2)).2) (g := (sh1 (vM s 3) 1 (sbd (vM s) 1 1) 1 (s 59 l) ((s 59 (l + 1) - 1) - (s 59 l)).toNat ((sh1 (vM s 3) 2 (sbd (vM s) 1 2) 1 (s 59 l) ((s 59 (l + 1) - 1) - (s 59 l)).toNat (q, u)).1, (sh1 (vM s 3) 2 (sbd (vM s) 1 2) 1 (s 59 l) ((s 59 (l + 1) - 1) - (s 59 l)).toNat (q, u)).2)).1) (by decide) r2 ((s 59 (l + 1) - 1) - (s 59 l)).toNat j j1 j2; omega
                  · exact sh1_un (kd := vM s 3) (sh1_un (kd := vM s 3) (sh1_un (kd := vM s 3) h9 _) _) _
                  · omega
            refine h116 _ 0 (df (vM s) (s 59 l) ((s 59 (l + 1)) - 1)) (g) ?_ ?_ ?_ ?_ ?_ (Nat.lt_succ_self _)
            · omega
            · exact ⟨rfl, fun j j1 j2 => ((h2 j j1 (by omega)).1).trans (if_pos j2)⟩
            · exact fun j _ => rfl
            · exact fun j j1 j2 => by have := kd_b hp (w := j) (by omega) (show j < s 120 0 by omega); rw [(h2 j j1 (by omega)).1, if_pos j2]; unfold na0; omega
            · omega
        · refine rb_iload hV dX10_layLine_82 rfl ?_
          refine rb_ineg hV dX10_layLine_84 ?_
          refine rb_goto hV (tgt := 102) dX10_layLine_85 (by decide) ?_
          refine rb_istore hV (L2 := [some (.inr (some 49)), some (.inl l), some (.inl (s 59 l)), some (.inl ((s 59 (l + 1)) - 1)), some (.inl (df (vM s) (s 59 l) ((s 59 (l + 1)) - 1))), some (.inl (-(df (vM s) (s 59 l) ((s 59 (l + 1)) - 1)))), none, none, none]) dX10_layLine_102 (Nat.le_of_ble_eq_true rfl) rfl ?_
          refine rb_iload hV dX10_layLine_104 rfl ?_
          refine rb_if_ge hV (tgt := 113) dX10_layLine_106 (by decide) (by unfold ab_r at *; omega) (fun c106 => absurd c106 (by omega)) (fun c106 => ?_)
          refine rb_iconst hV dX10_layLine_109 ?_
          refine rb_goto hV (tgt := 114) dX10_layLine_110 (by decide) ?_
          refine rb_istore hV (L2 := [some (.inr (some 49)), some (.inl l), some (.inl (s 59 l)), some (.inl ((s 59 (l + 1)) - 1)), some (.inl (df (vM s) (s 59 l) ((s 59 (l + 1)) - 1))), some (.inl (-(df (vM s) (s 59 l) ((s 59 (l + 1)) - 1)))), some (.inl (-1)), none, none]) dX10_layLine_114 (Nat.le_of_ble_eq_true rfl) rfl ?_
          have h116 : ∀ (n116 : Nat) (r : Int) (u : Int) (q : Int → Int), (0 ≤ r ∧ r ≤ 40) → (agr (s 59 l) (s 59 (l + 1) - 1) (q, u) (rnds (vM s) (-1) (s 59 l) (s 59 (l + 1) - 1) r.toNat (na0 (vM s), (-df (vM s) (s 59 l) (s 59 (l + 1) - 1))))) → (∀ j, ¬ ((s 59 l) ≤ j ∧ j < (s 59 (l + 1) - 1)) → q j = g j) → (∀ j, (s 59 l) ≤ j → j < (s 59 (l + 1) - 1) → -3 * r ≤ q j ∧ q j ≤ 40 + 3 * r) → (0 ≤ u ∧ u ≤ (-df (vM s) (s 59 l) (s 59 (l + 1) - 1))) → ((40 - r).toNat) < n116 → V 116 [some (.inr (some 49)), some (.inl l), some (.inl (s 59 l)), some (.inl ((s 59 (l + 1)) - 1)), some (.inl (df (vM s) (s 59 l) ((s 59 (l + 1)) - 1))), some (.inl u), some (.inl (-1)), none, none] [] (WW (ab_s (ab_s s 61 q) 63 lo)) 0 0 := by
            intro n116
            induction n116 with
            | zero => intro r u q h5 h6 h7 h8 h9 hm; omega
            | succ n116 ih116 =>
              intro r u q h5 h6 h7 h8 h9 hm
              refine rb_iload hV dX10_layLine_116 rfl ?_
              refine rb_if_le hV (tgt := 181) dX10_layLine_118 (by decide) (by unfold ab_r at *; omega) (fun c118 => ?_) (fun c118 => ?_)
              · refine rb_aload_n hV dX10_layLine_181 rfl rfl ?_
                refine rb_iload_n hV dX10_layLine_182 rfl rfl ?_
                refine rb_callV hV (rest := []) dX10_layLine_183 (c_X10_hangLeft (ab_s (ab_s s 61 q) 63 lo) hp (s 59 l) (show 0 ≤ s 59 l ∧ s 59 l < s 120 0 by omega)) lk_X10_154 rfl (Or.inl ⟨9, _, TX10, 24, gw_49 _, rfl⟩) rfl ⟨rfl, rfl, (Nat.le_of_ble_eq_true rfl), (Nat.le_of_ble_eq_true rfl), (Nat.le_of_ble_eq_true rfl), (Nat.le_of_ble_eq_true rfl)⟩ (Nat.le_of_ble_eq_true rfl) (fun r9 h9 p9 => ?_)
                obtain ⟨rfl, rfl⟩ := p9
                show V 186 [some (.inr (some 49)), some (.inl l), some (.inl (s 59 l)), some (.inl ((s 59 (l + 1)) - 1)), some (.inl (df (vM s) (s 59 l) ((s 59 (l + 1)) - 1))), some (.inl u), some (.inl (-1)), none, none] [.inl (hL (vM s) (s 59 l))] (WW (ab_s (ab_s s 61 q) 63 lo)) 0 0
                refine rb_ineg hV dX10_layLine_186 ?_
                refine rb_istore hV (L2 := [some (.inr (some 49)), some (.inl l), some (.inl (s 59 l)), some (.inl ((s 59 (l + 1)) - 1)), some (.inl (df (vM s) (s 59 l) ((s 59 (l + 1)) - 1))), some (.inl u), some (.inl (-1)), some (.inl (-(hL (vM s) (s 59 l)))), none]) dX10_layLine_187 (Nat.le_of_ble_eq_true rfl) rfl ?_
                refine rb_iload_n hV dX10_layLine_189 rfl rfl ?_
                refine rb_istore hV (L2 := [some (.inr (some 49)), some (.inl l), some (.inl (s 59 l)), some (.inl ((s 59 (l + 1)) - 1)), some (.inl (df (vM s) (s 59 l) ((s 59 (l + 1)) - 1))), some (.inl u), some (.inl (-1)), some (.inl (-(hL (vM s) (s 59 l)))), some (.inl (s 59 l))]) dX10_layLine_190 (Nat.le_of_ble_eq_true rfl) rfl ?_
                refine rb_heq (b := (ab_s (ab_s (ab_s s 61 q) 63 lo) 60 (s 60))) (ab_s_id rfl).symm ?_
                have h192 : ∀ (n192 : Nat) (at_ : Int) (w : Int) (be : Int → Int), ((s 59 l) ≤ w ∧ w ≤ (s 59 (l + 1) - 1) + 1) → (at_ = bgF (vM s) q (s 59 l) w) → (∀ j, (s 59 l) ≤ j → j < w → be j = bgF (vM s) q (s 59 l) j) → (∀ j, ¬ ((s 59 l) ≤ j ∧ j < w) → be j = s 60 j) → (((s 59 (l + 1) - 1) + 1 - w).toNat) < n192 → V 192 [some (.inr (some 49)), some (.inl l), some (.inl (s 59 l)), some (.inl ((s 59 (l + 1)) - 1)), some (.inl (df (vM s) (s 59 l) ((s 59 (l + 1)) - 1))), some (.inl u), some (.inl (-1)), some (.inl at_), some (.inl w)] [] (WW (ab_s (ab_s (ab_s s 61 q) 63 lo) 60 be)) 0 0 := by
                  intro n192
                  induction n192 with
                  | zero => intro at_ w be g1 g2 g3 g4 hm; omega
                  | succ n192 ih192 =>
                    intro at_ w be g1 g2 g3 g4 hm
                    refine rb_iload hV dX10_layLine_192 rfl ?_
                    refine rb_iload_n hV dX10_layLine_194 rfl rfl ?_
                    refine rb_icmp_gt hV (tgt := 233) dX10_layLine_195 (by decide) ⟨(by unfold ab_r at *; omega), (by unfold ab_r at *; omega)⟩ (fun c195 => ?_) (fun c195 => ?_)
                    · refine rb_ret hV (r := none) dX10_layLine_233 rfl ⟨(Nat.le_of_ble_eq_true rfl), (Nat.le_of_ble_eq_true rfl)⟩ trivial ?_
                      have hS : ∀ j, (s 59 l) ≤ j → j < (s 59 (l + 1) - 1) → q j = swF (vM s) (s 59 l) (s 59 (l + 1) - 1) j := by
                        intro j j1 j2
                        refine (h6.2 j j1 j2).trans ?_
                        rw [swF_sh (by show ¬ (0 < df (vM s) (s 59 l) (s 59 (l + 1) - 1) ∧ (s 59 (l + 1) - 1) = s 120 0 - 1); omega), show sby (vM s) (s 59 l) (s 59 (l + 1) - 1) = (-1) from if_neg (by omega), show sun (vM s) (s 59 l) (s 59 (l + 1) - 1) = -df (vM s) (s 59 l) (s 59 (l + 1) - 1) from if_neg (by omega), rnds_end h5.1 h5.2 (by rw [← h6.1]; show u ≤ 0; omega)]
                      exact ⟨rfl, be, q, lo, rfl, hS, fun j hj => (h7 j (fun z => hj ⟨z.1, by omega⟩)).trans (h3 j (fun z => hj ⟨z.1, by omega⟩)).1, (h7 (s 59 (l + 1) - 1) (by omega)).trans (((h2 (s 59 (l + 1) - 1) (by omega) (by omega)).1).trans (if_neg (by omega))), fun j j1 j2 => ⟨(h2 j j1 (by omega)).2, g3 j j1 (by omega)⟩, fun j hj => ⟨(h3 j (fun z => hj ⟨z.1, by omega⟩)).2, g4 j (fun z => hj ⟨z.1, by omega⟩)⟩⟩
                    · refine rb_aload_n hV dX10_layLine_198 rfl rfl ?_
                      refine rb_get hV (v := .inr (some 60)) dX10_layLine_199 ⟨RX10, TX10, 24, rfl, (Nat.le_of_ble_eq_true rfl), lf_X10_51⟩ (gw_49 _) rfl ?_
                      refine rb_iload hV dX10_layLine_202 rfl ?_
                      refine rb_iload hV dX10_layLine_204 rfl ?_
                      refine rb_iast hV (f := (be)) dX10_layLine_206 (gw_60 _) (Nat.le_of_ble_eq_true rfl) (by omega) rfl ((pw_60 _ _).trans (congrArg WW (ab_s_same _ 60 _ _))) ?_
                      refine rb_iload hV dX10_layLine_207 rfl ?_
                      refine rb_aload_n hV dX10_layLine_209 rfl rfl ?_
                      refine rb_get hV (v := .inr (some 51)) dX10_layLine_210 ⟨RX10, TX10, 24, rfl, (Nat.le_of_ble_eq_true rfl), lf_X10_23⟩ (gw_49 _) rfl ?_
                      refine rb_iload hV dX10_layLine_213 rfl ?_
                      refine rb_iald hV (f := (s 51)) dX10_layLine_215 (gw_51 _) (Nat.le_of_ble_eq_true rfl) (by omega) ?_
                      refine rb_aload_n hV dX10_layLine_216 rfl rfl ?_
                      refine rb_get hV (v := .inr (some 61)) dX10_layLine_217 ⟨RX10, TX10, 24, rfl, (Nat.le_of_ble_eq_true rfl), lf_X10_54⟩ (gw_49 _) rfl ?_
                      refine rb_iload hV dX10_layLine_220 rfl ?_
                      refine rb_iald hV (f := (q)) dX10_layLine_222 (gw_61 _) (Nat.le_of_ble_eq_true rfl) (by omega) ?_
                      refine rb_iadd hV dX10_layLine_223 ?_
                      refine rb_iadd hV dX10_layLine_224 ?_
                      refine rb_istore hV (L2 := [some (.inr (some 49)), some (.inl l), some (.inl (s 59 l)), some (.inl ((s 59 (l + 1)) - 1)), some (.inl (df (vM s) (s 59 l) ((s 59 (l + 1)) - 1))), some (.inl u), some (.inl (-1)), some (.inl (at_ + ((s 51 w) + ((q) w)))), some (.inl w)]) dX10_layLine_225 (Nat.le_of_ble_eq_true rfl) rfl ?_
                      refine rb_iinc hV (L2 := [some (.inr (some 49)), some (.inl l), some (.inl (s 59 l)), some (.inl ((s 59 (l + 1)) - 1)), some (.inl (df (vM s) (s 59 l) ((s 59 (l + 1)) - 1))), some (.inl u), some (.inl (-1)), some (.inl (at_ + ((s 51 w) + ((q) w)))), some (.inl (w + 1))]) dX10_layLine_227 rfl rfl rfl ?_
                      refine rb_goto hV (tgt := 192) dX10_layLine_230 (by decide) ?_
                      refine ih192 (at_ + ((s 51 w) + ((q) w))) (w + 1) (ab_u (be) w at_) ?_ ?_ ?_ ?_ ?_
                      · omega
                      · rw [bgF_s _ _ g1.1, g2]; show _ + (s 51 w + _) = _ + s 51 w + _; omega
                      · intro j j1 j2
                        by_cases hj : j = w
                        · subst hj
                          rw [ab_u_eq]
                          exact g2
                        · rw [ab_u_ne hj]
                          exact g3 j j1 (by omega)
                      · intro j hj
                        rw [ab_u_ne (by omega)]
                        exact g4 j (by omega)
                      · omega
                refine h192 _ (-(hL (vM s) (s 59 l))) (s 59 l) (s 60) ?_ ?_ ?_ ?_ (Nat.lt_succ_self _)
                · omega
                · rw [bgF_0]
                · exact fun j j1 j2 => absurd j2 (by omega)
                · exact fun j _ => rfl
              · have hr40 : r < 40 := by
                  rcases Int.lt_or_le r 40 with z | z
                  · exact z
                  · exfalso
                    have e40 : r = 40 := by omega
                    subst e40
                    have hf := rnds_fin hp hl01 (show (s 59 l) ≤ (s 59 (l + 1) - 1) by omega) (show (s 59 (l + 1) - 1) < s 120 0 by omega) hl0.2.2.2 (by show ¬ (0 < df (vM s) (s 59 l) (s 59 (l + 1) - 1) ∧ (s 59 (l + 1) - 1) = s 120 0 - 1); omega)
                    rw [show sby (vM s) (s 59 l) (s 59 (l + 1) - 1) = (-1) from if_neg (by omega), show sun (vM s) (s 59 l) (s 59 (l + 1) - 1) = (-df (vM s) (s 59 l) (s 59 (l + 1) - 1)) from if_neg (by omega)] at hf
                    have h61 : u = _ := h6.1
                    have h62 : u = 0 := h61.trans hf
                    omega
                have hab : (s 59 l) ≤ (s 59 (l + 1) - 1) := by omega
                have r0 : ∀ j, (s 59 l) ≤ j → j < (s 59 (l + 1) - 1) → -1000 ≤ q j ∧ q j ≤ 1000 := fun j j1 j2 => by have := h8 j j1 j2; omega
                have h90 : 0 ≤ u ∧ u ≤ 100000 := by omega
                refine rb_aload_n hV dX10_layLine_121 rfl rfl ?_
                refine rb_iload_n hV dX10_layLine_122 rfl rfl ?_
                refine rb_iload_n hV dX10_layLine_123 rfl rfl ?_
                refine rb_iload hV dX10_layLine_124 rfl ?_
                refine rb_if_ge hV (tgt := 133) dX10_layLine_126 (by decide) (by unfold ab_r at *; omega) (fun c126 => absurd c126 (by omega)) (fun c126 => ?_)
                refine rb_iconst hV dX10_layLine_129 ?_
                refine rb_goto hV (tgt := 134) dX10_layLine_130 (by decide) ?_
                refine rb_iload hV dX10_layLine_134 rfl ?_
                refine rb_iload hV dX10_layLine_136 rfl ?_
                refine rb_callV hV (rest := []) dX10_layLine_138 (c_X10_share (ab_s (ab_s s 61 q) 63 lo) (s 59 l) ((s 59 (l + 1)) - 1) 1 (-1) u hp (show 0 ≤ (s 59 l) ∧ (s 59 l) ≤ ((s 59 (l + 1)) - 1) ∧ ((s 59 (l + 1)) - 1) ≤ s 120 0 by omega) (by decide) (by decide) h90 r0) lk_X10_208 rfl (Or.inl ⟨9, _, TX10, 24, gw_49 _, rfl⟩) rfl ⟨rfl, rfl, (Nat.le_of_ble_eq_true rfl), (Nat.le_of_ble_eq_true rfl), (Nat.le_of_ble_eq_true rfl), (Nat.le_of_ble_eq_true rfl)⟩ (Nat.le_of_ble_eq_true rfl) (fun r9 h9 p9 => ?_)
                obtain ⟨rfl, rfl⟩ := p9
                refine rb_heq (b := (ab_s (ab_s s 61 (sh1 (vM s 3) 1 (sbd (vM s) (-1) 1) (-1) (s 59 l) (((s 59 (l + 1)) - 1) - (s 59 l)).toNat ((q), u)).1) 63 lo)) ((ab_s_sw (by decide)).trans (congrArg (fun x => ab_s x 63 _) (ab_s_same _ 61 _ _))) ?_
                show V 141 [some (.inr (some 49)), some (.inl l), some (.inl (s 59 l)), some (.inl ((s 59 (l + 1)) - 1)), some (.inl (df (vM s) (s 59 l) ((s 59 (l + 1)) - 1))), some (.inl u), some (.inl (-1)), none, none] [.inl ((sh1 (vM s 3) 1 (sbd (vM s) (-1) 1) (-1) (s 59 l) (((s 59 (l + 1)) - 1) - (s 59 l)).toNat ((q), u)).2)] (WW (ab_s (ab_s s 61 (sh1 (vM s 3) 1 (sbd (vM s) (-1) 1) (-1) (s 59 l) (((s 59 (l + 1)) - 1) - (s 59 l)).toNat ((q), u)).1) 63 lo)) 0 0
                refine rb_istore hV (L2 := [some (.inr (some 49)), some (.inl l), some (.inl (s 59 l)), some (.inl ((s 59 (l + 1)) - 1)), some (.inl (df (vM s) (s 59 l) ((s 59 (l + 1)) - 1))), some (.inl ((sh1 (vM s 3) 1 (sbd (vM s) (-1) 1) (-1) (s 59 l) (((s 59 (l + 1)) - 1) - (s 59 l)).toNat ((q), u)).2)), some (.inl (-1)), none, none]) dX10_layLine_141 (Nat.le_of_ble_eq_true rfl) rfl ?_
                have u1 := sh1_un (kd := vM s 3) (kind := 1) (bound := sbd (vM s) (-1) 1) (t := (-1)) (a := (s 59 l)) (g := q) h90 ((s 59 (l + 1) - 1) - (s 59 l)).toNat
                have r1 := sh1_rng (kd := vM s 3) (kind := 1) (bound := sbd (vM s) (-1) 1) (t := (-1)) (a := (s 59 l)) (b := (s 59 (l + 1) - 1)) (u := u) (by decide) h8 ((s 59 (l + 1) - 1) - (s 59 l)).toNat
                refine rb_aload_n hV dX10_layLine_143 rfl rfl ?_
                refine rb_iload_n hV dX10_layLine_144 rfl rfl ?_
                refine rb_iload_n hV dX10_layLine_145 rfl rfl ?_
                refine rb_iload hV dX10_layLine_146 rfl ?_
                refine rb_if_ge hV (tgt := 155) dX10_layLine_148 (by decide) (by unfold ab_r at *; omega) (fun c148 => absurd c148 (by omega)) (fun c148 => ?_)
                refine rb_iconst hV dX10_layLine_151 ?_
                refine rb_goto hV (tgt := 156) dX10_layLine_152 (by decide) ?_
                refine rb_iload hV dX10_layLine_156 rfl ?_
                refine rb_iload hV dX10_layLine_158 rfl ?_
                refine rb_callV hV (rest := []) dX10_layLine_160 (c_X10_share (ab_s (ab_s s 61 (sh1 (vM s 3) 1 (sbd (vM s) (-1) 1) (-1) (s 59 l) (((s 59 (l + 1)) - 1) - (s 59 l)).toNat ((q), u)).1) 63 lo) (s 59 l) ((s 59 (l + 1)) - 1) 2 (-1) ((sh1 (vM s 3) 1 (sbd (vM s) (-1) 1) (-1) (s 59 l) (((s 59 (l + 1)) - 1) - (s 59 l)).toNat ((q), u)).2) hp (show 0 ≤ (s 59 l) ∧ (s 59 l) ≤ ((s 59 (l + 1)) - 1) ∧ ((s 59 (l + 1)) - 1) ≤ s 120 0 by omega) (by decide) (by decide) u1 (fun j j1 j2 => show -1000 ≤ (sh1 (vM s 3) 1 (sbd (vM s) (-1) 1) (-1) (s 59 l) ((s 59 (l + 1) - 1) - (s 59 l)).toNat (q, u)).1 j ∧ (sh1 (vM s 3) 1 (sbd (vM s) (-1) 1) (-1) (s 59 l) ((s 59 (l + 1) - 1) - (s 59 l)).toNat (q, u)).1 j ≤ 1000 by have := r1 j j1 j2; omega)) lk_X10_208 rfl (Or.inl ⟨9, _, TX10, 24, gw_49 _, rfl⟩) rfl ⟨rfl, rfl, (Nat.le_of_ble_eq_true rfl), (Nat.le_of_ble_eq_true rfl), (Nat.le_of_ble_eq_true rfl), (Nat.le_of_ble_eq_true rfl)⟩ (Nat.le_of_ble_eq_true rfl) (fun r9 h9 p9 => ?_)
                obtain ⟨rfl, rfl⟩ := p9
                refine rb_heq (b := (ab_s (ab_s s 61 (sh1 (vM s 3) 2 (sbd (vM s) (-1) 2) (-1) (s 59 l) (((s 59 (l + 1)) - 1) - (s 59 l)).toNat ((sh1 (vM s 3) 1 (sbd (vM s) (-1) 1) (-1) (s 59 l) (((s 59 (l + 1)) - 1) - (s 59 l)).toNat ((q), u)).1, ((sh1 (vM s 3) 1 (sbd (vM s) (-1) 1) (-1) (s 59 l) (((s 59 (l + 1)) - 1) - (s 59 l)).toNat ((q), u)).2))).1) 63 lo)) ((ab_s_sw (by decide)).trans (congrArg (fun x => ab_s x 63 _) (ab_s_same _ 61 _ _))) ?_
                show V 163 [some (.inr (some 49)), some (.inl l), some (.inl (s 59 l)), some (.inl ((s 59 (l + 1)) - 1)), some (.inl (df (vM s) (s 59 l) ((s 59 (l + 1)) - 1))), some (.inl ((sh1 (vM s 3) 1 (sbd (vM s) (-1) 1) (-1) (s 59 l) (((s 59 (l + 1)) - 1) - (s 59 l)).toNat ((q), u)).2)), some (.inl (-1)), none, none] [.inl ((sh1 (vM s 3) 2 (sbd (vM s) (-1) 2) (-1) (s 59 l) (((s 59 (l + 1)) - 1) - (s 59 l)).toNat ((sh1 (vM s 3) 1 (sbd (vM s) (-1) 1) (-1) (s 59 l) (((s 59 (l + 1)) - 1) - (s 59 l)).toNat ((q), u)).1, ((sh1 (vM s 3) 1 (sbd (vM s) (-1) 1) (-1) (s 59 l) (((s 59 (l + 1)) - 1) - (s 59 l)).toNat ((q), u)).2))).2)] (WW (ab_s (ab_s s 61 (sh1 (vM s 3) 2 (sbd (vM s) (-1) 2) (-1) (s 59 l) (((s 59 (l + 1)) - 1) - (s 59 l)).toNat ((sh1 (vM s 3) 1 (sbd (vM s) (-1) 1) (-1) (s 59 l) (((s 59 (l + 1)) - 1) - (s 59 l)).toNat ((q), u)).1, ((sh1 (vM s 3) 1 (sbd (vM s) (-1) 1) (-1) (s 59 l) (((s 59 (l + 1)) - 1) - (s 59 l)).toNat ((q), u)).2))).1) 63 lo)) 0 0
                refine rb_istore hV (L2 := [some (.inr (some 49)), some (.inl l), some (.inl (s 59 l)), some (.inl ((s 59 (l + 1)) - 1)), some (.inl (df (vM s) (s 59 l) ((s 59 (l + 1)) - 1))), some (.inl ((sh1 (vM s 3) 2 (sbd (vM s) (-1) 2) (-1) (s 59 l) (((s 59 (l + 1)) - 1) - (s 59 l)).toNat ((sh1 (vM s 3) 1 (sbd (vM s) (-1) 1) (-1) (s 59 l) (((s 59 (l + 1)) - 1) - (s 59 l)).toNat ((q), u)).1, ((sh1 (vM s 3) 1 (sbd (vM s) (-1) 1) (-1) (s 59 l) (((s 59 (l + 1)) - 1) - (s 59 l)).toNat ((q), u)).2))).2)), some (.inl (-1)), none, none]) dX10_layLine_163 (Nat.le_of_ble_eq_true rfl) rfl ?_
                have u2 := sh1_un (kd := vM s 3) (kind := 2) (bound := sbd (vM s) (-1) 2) (t := (-1)) (a := (s 59 l)) (g := (sh1 (vM s 3) 1 (sbd (vM s) (-1) 1) (-1) (s 59 l) ((s 59 (l + 1) - 1) - (s 59 l)).toNat (q, u)).1) u1 ((s 59 (l + 1) - 1) - (s 59 l)).toNat
                have r2 := sh1_rng (kd := vM s 3) (kind := 2) (bound := sbd (vM s) (-1) 2) (t := (-1)) (a := (s 59 l)) (b := (s 59 (l + 1) - 1)) (u := (sh1 (vM s 3) 1 (sbd (vM s) (-1) 1) (-1) (s 59 l) ((s 59 (l + 1) - 1) - (s 59 l)).toNat (q, u)).2) (g := (sh1 (vM s 3) 1 (sbd (vM s) (-1) 1) (-1) (s 59 l) ((s 59 (l + 1) - 1) - (s 59 l)).toNat (q, u)).1) (by decide) r1 ((s 59 (l + 1) - 1) - (s 59 l)).toNat
                refine rb_aload_n hV dX10_layLine_165 rfl rfl ?_
                refine rb_iload_n hV dX10_layLine_166 rfl rfl ?_
                refine rb_iload_n hV dX10_layLine_167 rfl rfl ?_
                refine rb_iconst hV dX10_layLine_168 ?_
                refine rb_iload hV dX10_layLine_169 rfl ?_
                refine rb_iload hV dX10_layLine_171 rfl ?_
                refine rb_callV hV (rest := []) dX10_layLine_173 (c_X10_share (ab_s (ab_s s 61 (sh1 (vM s 3) 2 (sbd (vM s) (-1) 2) (-1) (s 59 l) (((s 59 (l + 1)) - 1) - (s 59 l)).toNat ((sh1 (vM s 3) 1 (sbd (vM s) (-1) 1) (-1) (s 59 l) (((s 59 (l + 1)) - 1) - (s 59 l)).toNat ((q), u)).1, ((sh1 (vM s 3) 1 (sbd (vM s) (-1) 1) (-1) (s 59 l) (((s 59 (l + 1)) - 1) - (s 59 l)).toNat ((q), u)).2))).1) 63 lo) (s 59 l) ((s 59 (l + 1)) - 1) 0 (-1) ((sh1 (vM s 3) 2 (sbd (vM s) (-1) 2) (-1) (s 59 l) (((s 59 (l + 1)) - 1) - (s 59 l)).toNat ((sh1 (vM s 3) 1 (sbd (vM s) (-1) 1) (-1) (s 59 l) (((s 59 (l + 1)) - 1) - (s 59 l)).toNat ((q), u)).1, ((sh1 (vM s 3) 1 (sbd (vM s) (-1) 1) (-1) (s 59 l) (((s 59 (l + 1)) - 1) - (s 59 l)).toNat ((q), u)).2))).2) hp (show 0 ≤ (s 59 l) ∧ (s 59 l) ≤ ((s 59 (l + 1)) - 1) ∧ ((s 59 (l + 1)) - 1) ≤ s 120 0 by omega) (by decide) (by decide) u2 (fun j j1 j2 => show -1000 ≤ (sh1 (vM s 3) 2 (sbd (vM s) (-1) 2) (-1) (s 59 l) ((s 59 (l + 1) - 1) - (s 59 l)).toNat ((sh1 (vM s 3) 1 (sbd (vM s) (-1) 1) (-1) (s 59 l) ((s 59 (l + 1) - 1) - (s 59 l)).toNat (q, u)).1, (sh1 (vM s 3) 1 (sbd (vM s) (-1) 1) (-1) (s 59 l) ((s 59 (l + 1) - 1) - (s 59 l)).toNat (q, u)).2)).1 j ∧ (sh1 (vM s 3) 2 (sbd (vM s) (-1) 2) (-1) (s 59 l) ((s 59 (l + 1) - 1) - (s 59 l)).toNat ((sh1 (vM s 3) 1 (sbd (vM s) (-1) 1) (-1) (s 59 l) ((s 59 (l + 1) - 1) - (s 59 l)).toNat (q, u)).1, (sh1 (vM s 3) 1 (sbd (vM s) (-1) 1) (-1) (s 59 l) ((s 59 (l + 1) - 1) - (s 59 l)).toNat (q, u)).2)).1 j ≤ 1000 by have := r2 j j1 j2; omega)) lk_X10_208 rfl (Or.inl ⟨9, _, TX10, 24, gw_49 _, rfl⟩) rfl ⟨rfl, rfl, (Nat.le_of_ble_eq_true rfl), (Nat.le_of_ble_eq_true rfl), (Nat.le_of_ble_eq_true rfl), (Nat.le_of_ble_eq_true rfl)⟩ (Nat.le_of_ble_eq_true rfl) (fun r9 h9 p9 => ?_)
                obtain ⟨rfl, rfl⟩ := p9
                refine rb_heq (b := (ab_s (ab_s s 61 (sh1 (vM s 3) 0 (sbd (vM s) (-1) 0) (-1) (s 59 l) (((s 59 (l + 1)) - 1) - (s 59 l)).toNat ((sh1 (vM s 3) 2 (sbd (vM s) (-1) 2) (-1) (s 59 l) (((s 59 (l + 1)) - 1) - (s 59 l)).toNat ((sh1 (vM s 3) 1 (sbd (vM s) (-1) 1) (-1) (s 59 l) (((s 59 (l + 1)) - 1) - (s 59 l)).toNat ((q), u)).1, ((sh1 (vM s 3) 1 (sbd (vM s) (-1) 1) (-1) (s 59 l) (((s 59 (l + 1)) - 1) - (s 59 l)).toNat ((q), u)).2))).1, ((sh1 (vM s 3) 2 (sbd (vM s) (-1) 2) (-1) (s 59 l) (((s 59 (l + 1)) - 1) - (s 59 l)).toNat ((sh1 (vM s 3) 1 (sbd (vM s) (-1) 1) (-1) (s 59 l) (((s 59 (l + 1)) - 1) - (s 59 l)).toNat ((q), u)).1, ((sh1 (vM s 3) 1 (sbd (vM s) (-1) 1) (-1) (s 59 l) (((s 59 (l + 1)) - 1) - (s 59 l)).toNat ((q), u)).2))).2))).1) 63 lo)) ((ab_s_sw (by decide)).trans (congrArg (fun x => ab_s x 63 _) (ab_s_same _ 61 _ _))) ?_
                show V 176 [some (.inr (some 49)), some (.inl l), some (.inl (s 59 l)), some (.inl ((s 59 (l + 1)) - 1)), some (.inl (df (vM s) (s 59 l) ((s 59 (l + 1)) - 1))), some (.inl ((sh1 (vM s 3) 2 (sbd (vM s) (-1) 2) (-1) (s 59 l) (((s 59 (l + 1)) - 1) - (s 59 l)).toNat ((sh1 (vM s 3) 1 (sbd (vM s) (-1) 1) (-1) (s 59 l) (((s 59 (l + 1)) - 1) - (s 59 l)).toNat ((q), u)).1, ((sh1 (vM s 3) 1 (sbd (vM s) (-1) 1) (-1) (s 59 l) (((s 59 (l + 1)) - 1) - (s 59 l)).toNat ((q), u)).2))).2)), some (.inl (-1)), none, none] [.inl ((sh1 (vM s 3) 0 (sbd (vM s) (-1) 0) (-1) (s 59 l) (((s 59 (l + 1)) - 1) - (s 59 l)).toNat ((sh1 (vM s 3) 2 (sbd (vM s) (-1) 2) (-1) (s 59 l) (((s 59 (l + 1)) - 1) - (s 59 l)).toNat ((sh1 (vM s 3) 1 (sbd (vM s) (-1) 1) (-1) (s 59 l) (((s 59 (l + 1)) - 1) - (s 59 l)).toNat ((q), u)).1, ((sh1 (vM s 3) 1 (sbd (vM s) (-1) 1) (-1) (s 59 l) (((s 59 (l + 1)) - 1) - (s 59 l)).toNat ((q), u)).2))).1, ((sh1 (vM s 3) 2 (sbd (vM s) (-1) 2) (-1) (s 59 l) (((s 59 (l + 1)) - 1) - (s 59 l)).toNat ((sh1 (vM s 3) 1 (sbd (vM s) (-1) 1) (-1) (s 59 l) (((s 59 (l + 1)) - 1) - (s 59 l)).toNat ((q), u)).1, ((sh1 (vM s 3) 1 (sbd (vM s) (-1) 1) (-1) (s 59 l) (((s 59 (l + 1)) - 1) - (s 59 l)).toNat ((q), u)).2))).2))).2)] (WW (ab_s (ab_s s 61 (sh1 (vM s 3) 0 (sbd (vM s) (-1) 0) (-1) (s 59 l) (((s 59 (l + 1)) - 1) - (s 59 l)).toNat ((sh1 (vM s 3) 2 (sbd (vM s) (-1) 2) (-1) (s 59 l) (((s 59 (l + 1)) - 1) - (s 59 l)).toNat ((sh1 (vM s 3) 1 (sbd (vM s) (-1) 1) (-1) (s 59 l) (((s 59 (l + 1)) - 1) - (s 59 l)).toNat ((q), u)).1, ((sh1 (vM s 3) 1 (sbd (vM s) (-1) 1) (-1) (s 59 l) (((s 59 (l + 1)) - 1) - (s 59 l)).toNat ((q), u)).2))).1, ((sh1 (vM s 3) 2 (sbd (vM s) (-1) 2) (-1) (s 59 l) (((s 59 (l + 1)) - 1) - (s 59 l)).toNat ((sh1 (vM s 3) 1 (sbd (vM s) (-1) 1) (-1) (s 59 l) (((s 59 (l + 1)) - 1) - (s 59 l)).toNat ((q), u)).1, ((sh1 (vM s 3) 1 (sbd (vM s) (-1) 1) (-1) (s 59 l) (((s 59 (l + 1)) - 1) - (s 59 l)).toNat ((q), u)).2))).2))).1) 63 lo)) 0 0
                refine rb_istore hV (L2 := [some (.inr (some 49)), some (.inl l), some (.inl (s 59 l)), some (.inl ((s 59 (l + 1)) - 1)), some (.inl (df (vM s) (s 59 l) ((s 59 (l + 1)) - 1))), some (.inl ((sh1 (vM s 3) 0 (sbd (vM s) (-1) 0) (-1) (s 59 l) (((s 59 (l + 1)) - 1) - (s 59 l)).toNat ((sh1 (vM s 3) 2 (sbd (vM s) (-1) 2) (-1) (s 59 l) (((s 59 (l + 1)) - 1) - (s 59 l)).toNat ((sh1 (vM s 3) 1 (sbd (vM s) (-1) 1) (-1) (s 59 l) (((s 59 (l + 1)) - 1) - (s 59 l)).toNat ((q), u)).1, ((sh1 (vM s 3) 1 (sbd (vM s) (-1) 1) (-1) (s 59 l) (((s 59 (l + 1)) - 1) - (s 59 l)).toNat ((q), u)).2))).1, ((sh1 (vM s 3) 2 (sbd (vM s) (-1) 2) (-1) (s 59 l) (((s 59 (l + 1)) - 1) - (s 59 l)).toNat ((sh1 (vM s 3) 1 (sbd (vM s) (-1) 1) (-1) (s 59 l) (((s 59 (l + 1)) - 1) - (s 59 l)).toNat ((q), u)).1, ((sh1 (vM s 3) 1 (sbd (vM s) (-1) 1) (-1) (s 59 l) (((s 59 (l + 1)) - 1) - (s 59 l)).toNat ((q), u)).2))).2))).2)), some (.inl (-1)), none, none]) dX10_layLine_176 (Nat.le_of_ble_eq_true rfl) rfl ?_
                refine rb_goto hV (tgt := 116) dX10_layLine_178 (by decide) ?_
                refine ih116 (r + 1) ((sh1 (vM s 3) 0 (sbd (vM s) (-1) 0) (-1) (s 59 l) (((s 59 (l + 1)) - 1) - (s 59 l)).toNat ((sh1 (vM s 3) 2 (sbd (vM s) (-1) 2) (-1) (s 59 l) (((s 59 (l + 1)) - 1) - (s 59 l)).toNat ((sh1 (vM s 3) 1 (sbd (vM s) (-1) 1) (-1) (s 59 l) (((s 59 (l + 1)) - 1) - (s 59 l)).toNat ((q), u)).1, ((sh1 (vM s 3) 1 (sbd (vM s) (-1) 1) (-1) (s 59 l) (((s 59 (l + 1)) - 1) - (s 59 l)).toNat ((q), u)).2))).1, ((sh1 (vM s 3) 2 (sbd (vM s) (-1) 2) (-1) (s 59 l) (((s 59 (l + 1)) - 1) - (s 59 l)).toNat ((sh1 (vM s 3) 1 (sbd (vM s) (-1) 1) (-1) (s 59 l) (((s 59 (l + 1)) - 1) - (s 59 l)).toNat ((q), u)).1, ((sh1 (vM s 3) 1 (sbd (vM s) (-1) 1) (-1) (s 59 l) (((s 59 (l + 1)) - 1) - (s 59 l)).toNat ((q), u)).2))).2))).2) ((sh1 (vM s 3) 0 (sbd (vM s) (-1) 0) (-1) (s 59 l) (((s 59 (l + 1)) - 1) - (s 59 l)).toNat ((sh1 (vM s 3) 2 (sbd (vM s) (-1) 2) (-1) (s 59 l) (((s 59 (l + 1)) - 1) - (s 59 l)).toNat ((sh1 (vM s 3) 1 (sbd (vM s) (-1) 1) (-1) (s 59 l) (((s 59 (l + 1)) - 1) - (s 59 l)).toNat ((q), u)).1, ((sh1 (vM s 3) 1 (sbd (vM s) (-1) 1) (-1) (s 59 l) (((s 59 (l + 1)) - 1) - (s 59 l)).toNat ((q), u)).2))).1, ((sh1 (vM s 3) 2 (sbd (vM s) (-1) 2) (-1) (s 59 l) (((s 59 (l + 1)) - 1) - (s 59 l)).toNat ((sh1 (vM s 3) 1 (sbd (vM s) (-1) 1) (-1) (s 59 l) (((s 59 (l + 1)) - 1) - (s 59 l)).toNat ((q), u)).1, ((sh1 (vM s 3) 1 (sbd (vM s) (-1) 1) (-1) (s 59 l) (((s 59 (l + 1)) - 1) - (s 59 l)).toNat ((q), u)).2))).2))).1) ?_ ?_ ?_ ?_ ?_ ?_
                · omega
                · exact rnd_agr_s (d := vM s) (t := (-1)) hab h5.1 h6
                · exact sh1_out hab (sh1_out hab (sh1_out hab h7))
                · exact fun j j1 j2 => by have := sh1_rng (kd := vM s 3) (kind := 0) (bound := sbd (vM s) (-1) 0) (t := (-1)) (a := (s 59 l)) (b := (s 59 (l + 1) - 1)) (u := (sh1 (vM s 3) 2 (sbd (vM s) (-1) 2) (-1) (s 59 l) ((s 59 (l + 1) - 1) - (s 59 l)).toNat ((sh1 (vM s 3) 1 (sbd (vM s) (-1) 1) (-1) (s 59 l) ((s 59 (l + 1) - 1) - (s 59 l)).toNat (q, u)).1, (sh1 (vM s 3) 1 (sbd (vM s) (-1) 1) (-1) (s 59 l) ((s 59 (l + 1) - 1) - (s 59 l)).toNat (q, u)).2)).2) (g := (sh1 (vM s 3) 2 (sbd (vM s) (-1) 2) (-1) (s 59 l) ((s 59 (l + 1) - 1) - (s 59 l)).toNat ((sh1 (vM s 3) 1 (sbd (vM s) (-1) 1) (-1) (s 59 l) ((s 59 (l + 1) - 1) - (s 59 l)).toNat (q, u)).1, (sh1 (vM s 3) 1 (sbd (vM s) (-1) 1) (-1) (s 59 l) ((s 59 (l + 1) - 1) - (s 59 l)).toNat (q, u)).2)).1) (by decide) r2 ((s 59 (l + 1) - 1) - (s 59 l)).toNat j j1 j2; omega
                · exact sh1_un (kd := vM s 3) (sh1_un (kd := vM s 3) (sh1_un (kd := vM s 3) h9 _) _) _
                · omega
          refine h116 _ 0 (-(df (vM s) (s 59 l) ((s 59 (l + 1)) - 1))) (g) ?_ ?_ ?_ ?_ ?_ (Nat.lt_succ_self _)
          · omega
          · exact ⟨rfl, fun j j1 j2 => ((h2 j j1 (by omega)).1).trans (if_pos j2)⟩
          · exact fun j _ => rfl
          · exact fun j j1 j2 => by have := kd_b hp (w := j) (by omega) (show j < s 120 0 by omega); rw [(h2 j j1 (by omega)).1, if_pos j2]; unfold na0; omega
          · omega
      · have hk8b : 0 ≤ s 53 w ∧ s 53 w ≤ 2 := (hp.2.1 w (by omega) (show w < s 120 0 by omega)).2.2.1
        refine rb_aload_n hV dX10_layLine_22 rfl rfl ?_
        refine rb_get hV (v := .inr (some 61)) dX10_layLine_23 ⟨RX10, TX10, 24, rfl, (Nat.le_of_ble_eq_true rfl), lf_X10_54⟩ (gw_49 _) rfl ?_
        refine rb_iload hV dX10_layLine_26 rfl ?_
        refine rb_iload hV dX10_layLine_28 rfl ?_
        refine rb_iload_n hV dX10_layLine_30 rfl rfl ?_
        refine rb_icmp_ge hV (tgt := 53) dX10_layLine_31 (by decide) ⟨(by unfold ab_r at *; omega), (by unfold ab_r at *; omega)⟩ (fun c31 => ?_) (fun c31 => ?_)
        · refine rb_iconst hV dX10_layLine_53 ?_
          refine rb_iast hV (f := (g)) dX10_layLine_54 (gw_61 _) (Nat.le_of_ble_eq_true rfl) (by omega) rfl ((pw_61 _ _).trans (congrArg WW ((ab_s_sw (by decide)).trans (congrArg (fun x => ab_s x 63 _) (ab_s_same _ 61 _ _))))) ?_
          refine rb_aload_n hV dX10_layLine_55 rfl rfl ?_
          refine rb_get hV (v := .inr (some 63)) dX10_layLine_56 ⟨RX10, TX10, 24, rfl, (Nat.le_of_ble_eq_true rfl), lf_X10_60⟩ (gw_49 _) rfl ?_
          refine rb_iload hV dX10_layLine_59 rfl ?_
          refine rb_iload_n hV dX10_layLine_61 rfl rfl ?_
          refine rb_iast hV (f := (lo)) dX10_layLine_62 (gw_63 _) (Nat.le_of_ble_eq_true rfl) (by omega) rfl ((pw_63 _ _).trans (congrArg WW (ab_s_same _ 63 _ _))) ?_
          refine rb_iinc hV (L2 := [some (.inr (some 49)), some (.inl l), some (.inl (s 59 l)), some (.inl ((s 59 (l + 1)) - 1)), some (.inl (w + 1)), none, none, none, none]) dX10_layLine_63 rfl rfl rfl ?_
          refine rb_goto hV (tgt := 16) dX10_layLine_66 (by decide) ?_
          refine ih16 (w + 1) (ab_u (g) w 0) (ab_u (lo) w l) ?_ ?_ ?_ ?_
          · omega
          · intro j j1 j2
            by_cases hj : j = w
            · subst hj
              rw [ab_u_eq, ab_u_eq]
              exact ⟨(if_neg (by omega)).symm, rfl⟩
            · rw [ab_u_ne hj, ab_u_ne hj]
              exact h2 j j1 (by omega)
          · intro j hj
            rw [ab_u_ne (by omega), ab_u_ne (by omega)]
            exact h3 j (by omega)
          · omega
        · refine rb_aload_n hV dX10_layLine_34 rfl rfl ?_
          refine rb_get hV (v := .inr (some 50)) dX10_layLine_35 ⟨RX10, TX10, 24, rfl, (Nat.le_of_ble_eq_true rfl), lf_X10_19⟩ (gw_49 _) rfl ?_
          refine rb_iconst hV dX10_layLine_38 ?_
          refine rb_aload_n hV dX10_layLine_39 rfl rfl ?_
          refine rb_get hV (v := .inr (some 53)) dX10_layLine_40 ⟨RX10, TX10, 24, rfl, (Nat.le_of_ble_eq_true rfl), lf_X10_29⟩ (gw_49 _) rfl ?_
          refine rb_iload hV dX10_layLine_43 rfl ?_
          refine rb_iald hV (f := (s 53)) dX10_layLine_45 (gw_53 _) (Nat.le_of_ble_eq_true rfl) (by omega) ?_
          refine rb_imul hV dX10_layLine_46 ?_
          refine rb_iconst hV dX10_layLine_47 ?_
          refine rb_iadd hV dX10_layLine_48 ?_
          refine rb_iald hV (f := (s 50)) dX10_layLine_49 (gw_50 _) (Nat.le_of_ble_eq_true rfl) (by omega) ?_
          refine rb_goto hV (tgt := 54) dX10_layLine_50 (by decide) ?_
          refine rb_iast hV (f := (g)) dX10_layLine_54 (gw_61 _) (Nat.le_of_ble_eq_true rfl) (by omega) rfl ((pw_61 _ _).trans (congrArg WW ((ab_s_sw (by decide)).trans (congrArg (fun x => ab_s x 63 _) (ab_s_same _ 61 _ _))))) ?_
          refine rb_aload_n hV dX10_layLine_55 rfl rfl ?_
          refine rb_get hV (v := .inr (some 63)) dX10_layLine_56 ⟨RX10, TX10, 24, rfl, (Nat.le_of_ble_eq_true rfl), lf_X10_60⟩ (gw_49 _) rfl ?_
          refine rb_iload hV dX10_layLine_59 rfl ?_
          refine rb_iload_n hV dX10_layLine_61 rfl rfl ?_
          refine rb_iast hV (f := (lo)) dX10_layLine_62 (gw_63 _) (Nat.le_of_ble_eq_true rfl) (by omega) rfl ((pw_63 _ _).trans (congrArg WW (ab_s_same _ 63 _ _))) ?_
          refine rb_iinc hV (L2 := [some (.inr (some 49)), some (.inl l), some (.inl (s 59 l)), some (.inl ((s 59 (l + 1)) - 1)), some (.inl (w + 1)), none, none, none, none]) dX10_layLine_63 rfl rfl rfl ?_
          refine rb_goto hV (tgt := 16) dX10_layLine_66 (by decide) ?_
          refine ih16 (w + 1) (ab_u (g) w (s 50 ((3 * (s 53 w)) + 1))) (ab_u (lo) w l) ?_ ?_ ?_ ?_
          · omega
          · intro j j1 j2
            by_cases hj : j = w
            · subst hj
              rw [ab_u_eq, ab_u_eq]
              exact ⟨(if_pos (by omega)).symm, rfl⟩
            · rw [ab_u_ne hj, ab_u_ne hj]
              exact h2 j j1 (by omega)
          · intro j hj
            rw [ab_u_ne (by omega), ab_u_ne (by omega)]
            exact h3 j (by omega)
          · omega
  refine h16 _ (s 59 l) (s 61) (s 63) ?_ ?_ ?_ (Nat.lt_succ_self _)
  · omega
  · exact fun j j1 j2 => absurd j2 (by omega)
  · exact fun j _ => ⟨rfl, rfl⟩
