/-! the reference's best ways -/
def BWq (d : Nat → Int → Int) (bs be : Int → Int) (a : Int) : Prop := bs (d 0 0) = 0 ∧ (∀ j, a < j → j < d 0 0 → bs j = (am (cd d bs j) j (d 0 0 - j).toNat).1 ∧ (0 ≤ bs j → be j = (am (cd d bs j) j (d 0 0 - j).toNat).2)) ∧ ∀ j, a < j → j ≤ d 0 0 → -1 ≤ bs j ∧ bs j ≤ 12200 * (d 0 0 - j)
theorem BWq_step {d : Nat → Int → Int} {f g be ge : Int → Int} {a : Int} (hp : PI d) (h0 : 0 ≤ a) (h1 : a < d 0 0) (h : BWq d f be a) (hg : ∀ j, ¬ j = a → g j = f j ∧ ge j = be j) (h2 : g a = (am (cd d f a) a (d 0 0 - a).toNat).1) (h3 : 0 ≤ g a → ge a = (am (cd d f a) a (d 0 0 - a).toNat).2) : BWq d g ge (a + (-1)) := by
  obtain ⟨b1, b2, b3⟩ := h
  have e : ∀ j, a ≤ j → am (cd d g j) j (d 0 0 - j).toNat = am (cd d f j) j (d 0 0 - j).toNat := fun j hj => am_congr _ fun i q1 q2 => cd_congr (hg (i + 1) (by omega)).1
  refine ⟨by rw [(hg _ (by omega)).1, b1], fun j q1 q2 => ?_, fun j q1 q2 => ?_⟩
  · by_cases hj : j = a
    · subst hj
      rw [e j (by omega)]
      exact ⟨h2, h3⟩
    · rw [e j (by omega), (hg j hj).1, (hg j hj).2]
      exact b2 j (by omega) q2
  · by_cases hj : j = a
    · subst hj
      rw [h2]
      rcases am_in (c := cd d f j) (lo := j) (d 0 0 - j).toNat with ⟨i1, -, -⟩ | ⟨i1, i2, i3, i4⟩
      · rw [i1]
        omega
      · have q := b3 ((am (cd d f j) j (d 0 0 - j).toNat).2 + 1) (by omega) (by omega)
        have q3 := cd_bnd (bs := f) hp h0 i2 (by omega) (M := 12200 * (d 0 0 - j) - 12200) (by omega) (by omega)
        rw [← i4]
        omega
    · rw [(hg j hj).1]
      exact b3 j (by omega) q2
theorem BWq_BW {d : Nat → Int → Int} {f be : Int → Int} (h : BWq d f be (-1)) : BW d f be := ⟨h.1, fun a q1 q2 => h.2.1 a (by omega) q2⟩
theorem BWq_BS {d : Nat → Int → Int} {f be : Int → Int} (hp : PI d) (h : BWq d f be (-1)) : BS d f := fun j q1 q2 => by
  have := h.2.2 j (by omega) q2
  have := hp.1
  omega
theorem bq_take {d : Nat → Int → Int} {f g be ge : Int → Int} {a b : Int} (q1 : a ≤ b) (q2 : ∀ j, ¬ j = a → g j = f j ∧ ge j = be j) (q3 : g a = (am (cd d f a) a (b - a).toNat).1) (hb : 0 ≤ g (b + 1)) (hp : ps d a b = true) (hd : 0 ≤ dm d a b) (h : g a < 0 ∨ dm d a b + g (b + 1) ≤ g a) : ab_u g a (dm d a b + g (b + 1)) a = (am (cd d f a) a (b + 1 - a).toNat).1 ∧ (0 ≤ ab_u g a (dm d a b + g (b + 1)) a → ab_u ge a b a = (am (cd d f a) a (b + 1 - a).toNat).2) := by
  have e0 := (q2 (b + 1) (by omega)).1
  have e : cd d f a b = dm d a b + g (b + 1) := by
    unfold cd
    rw [if_pos ⟨by omega, hp⟩, e0]
  rw [am_take q1 (by omega) (by omega), ab_u_eq, ab_u_eq]
  exact ⟨e.symm, fun _ => rfl⟩
theorem bq_skip {d : Nat → Int → Int} {f g be ge : Int → Int} {a b : Int} (q1 : a ≤ b) (q2 : ∀ j, ¬ j = a → g j = f j ∧ ge j = be j) (q3 : g a = (am (cd d f a) a (b - a).toNat).1 ∧ (0 ≤ g a → ge a = (am (cd d f a) a (b - a).toNat).2)) (h : g (b + 1) < 0 ∨ ¬ ps d a b = true ∨ (0 ≤ g a ∧ g a < dm d a b + g (b + 1))) : g a = (am (cd d f a) a (b + 1 - a).toNat).1 ∧ (0 ≤ g a → ge a = (am (cd d f a) a (b + 1 - a).toNat).2) := by
  have e0 := (q2 (b + 1) (by omega)).1
  rw [am_skip q1 ?_]
  · exact q3
  · rw [← q3.1]
    unfold cd
    split
    · rename_i z
      rcases h with h | h | h
      · omega
      · exact absurd z.2 h
      · exact Or.inr (by omega)
    · exact Or.inl (by omega)

theorem bq_hb {d : Nat → Int → Int} {f g be ge : Int → Int} {a b : Int} (hp : PI d) (h0 : 0 ≤ a) (q1 : a ≤ b) (qn : b < d 0 0) (h : BWq d f be a) (q2 : ∀ j, ¬ j = a → g j = f j ∧ ge j = be j) (q3 : g a = (am (cd d f a) a (b - a).toNat).1) : (-1 ≤ g (b + 1) ∧ g (b + 1) ≤ 732000) ∧ (-1 ≤ g a ∧ g a ≤ 744200) := by
  have hn := hp.1
  have hall : ∀ j, a < j → j ≤ d 0 0 → -1 ≤ g j ∧ g j ≤ 732000 := fun j j1 j2 => by
    rw [(q2 j (by omega)).1]
    have := h.2.2 j j1 j2
    omega
  refine ⟨hall (b + 1) (by omega) (by omega), ?_⟩
  rw [q3]
  rcases am_in (c := cd d f a) (lo := a) (b - a).toNat with ⟨i1, -, -⟩ | ⟨i1, i2, i3, i4⟩
  · rw [i1]
    omega
  · have e2 := h.2.2 ((am (cd d f a) a (b - a).toNat).2 + 1) (by omega) (by omega)
    have := cd_bnd (bs := f) (M := 732000) hp h0 i2 (by omega) (by omega) (by omega)
    rw [← i4]
    omega
def SDm (d : Nat → Int → Int) (bs fw : Int → Int) (l : Int) : Int := Sm (ldm d fw) 0 l + dm d (fw l) (sec d bs fw l) + bs (sec d bs fw l + 1)

set_option maxRecDepth 20000 in
theorem c_X10_findWays (s : Nat → Int → Int) (hp : PI (vM s)) : ab_Mt yX10_findWays cX10_findWays 4 none ({ frames := 5, cells := 0, slots := 0, locals := 118 } : Room) false 0 0 [.inr (some 49)] (WW s) (fun r h2 => r = none ∧ ∃ f57 f58, h2 = WW (ab_s (ab_s s 57 f57) 58 f58) ∧ BWq (vM s) f57 f58 (-1)) := by
  refine ab_mk RX10 false rfl pn_X10_findWays (fun z => by cases z) (Nat.le_of_ble_eq_true rfl) (fun V hV => ?_)
  show V 0 [some (.inr (some 49)), none, none, none] [] (WW s) 0 0
  have hn : 0 ≤ s 120 0 ∧ s 120 0 ≤ 60 := hp.1
  have hms : 10 ≤ s 117 0 ∧ s 117 0 ≤ 200 := hp.2.2.1
  have e0 : vM s 0 0 = s 120 0 := rfl
  refine rb_aload_n hV dX10_findWays_0 rfl rfl ?_
  refine rb_get hV (v := .inr (some 57)) dX10_findWays_1 ⟨RX10, TX10, 24, rfl, (Nat.le_of_ble_eq_true rfl), lf_X10_42⟩ (gw_49 _) rfl ?_
  refine rb_aload_n hV dX10_findWays_4 rfl rfl ?_
  refine rb_get hV (v := .inl (s 120 0)) dX10_findWays_5 ⟨RX10, TX10, 24, rfl, (Nat.le_of_ble_eq_true rfl), lf_X10_90⟩ (gw_49 _) rfl ?_
  refine rb_iconst hV dX10_findWays_8 ?_
  refine rb_iast hV (f := (s 57)) dX10_findWays_9 (gw_57 _) (Nat.le_of_ble_eq_true rfl) (by omega) rfl (pw_57 _ _) ?_
  refine rb_aload_n hV dX10_findWays_10 rfl rfl ?_
  refine rb_get hV (v := .inl (s 120 0)) dX10_findWays_11 ⟨RX10, TX10, 24, rfl, (Nat.le_of_ble_eq_true rfl), lf_X10_90⟩ (gw_49 _) rfl ?_
  refine rb_iconst hV dX10_findWays_14 ?_
  refine rb_isub hV dX10_findWays_15 ?_
  refine rb_istore_n hV (L2 := [some (.inr (some 49)), some (.inl ((s 120 0) - 1)), none, none]) dX10_findWays_16 rfl (Nat.le_of_ble_eq_true rfl) rfl ?_
  refine rb_heq (b := (ab_s (ab_s s 57 (ab_u (s 57) (s 120 0) 0)) 58 (s 58))) (ab_s_id rfl).symm ?_
  have h17 : ∀ (n17 : Nat) (a : Int) (f57 : Int → Int) (f58 : Int → Int), (-1 ≤ a ∧ a < s 120 0) → (BWq (vM s) f57 f58 a) → ((a + 1).toNat) < n17 → V 17 [some (.inr (some 49)), some (.inl a), none, none] [] (WW (ab_s (ab_s s 57 f57) 58 f58)) 0 0 := by
    intro n17
    induction n17 with
    | zero => intro a f57 f58 h1 h2 hm; omega
    | succ n17 ih17 =>
      intro a f57 f58 h1 h2 hm
      refine rb_iload_n hV dX10_findWays_17 rfl rfl ?_
      refine rb_if_lt hV (tgt := 119) dX10_findWays_18 (by decide) (by unfold ab_r at *; omega) (fun c18 => ?_) (fun c18 => ?_)
      · refine rb_ret hV (r := none) dX10_findWays_119 rfl ⟨(Nat.le_of_ble_eq_true rfl), (Nat.le_of_ble_eq_true rfl)⟩ trivial ?_
        have e : a = -1 := by omega
        exact ⟨rfl, f57, f58, rfl, e ▸ h2⟩
      · refine rb_aload_n hV dX10_findWays_21 rfl rfl ?_
        refine rb_get hV (v := .inr (some 57)) dX10_findWays_22 ⟨RX10, TX10, 24, rfl, (Nat.le_of_ble_eq_true rfl), lf_X10_42⟩ (gw_49 _) rfl ?_
        refine rb_iload_n hV dX10_findWays_25 rfl rfl ?_
        refine rb_iconst hV dX10_findWays_26 ?_
        refine rb_iast hV (f := (f57)) dX10_findWays_27 (gw_57 _) (Nat.le_of_ble_eq_true rfl) (by omega) rfl ((pw_57 _ _).trans (congrArg WW ((ab_s_sw (by decide)).trans (congrArg (fun x => ab_s x 58 _) (ab_s_same _ 57 _ _))))) ?_
        refine rb_iload_n hV dX10_findWays_28 rfl rfl ?_
        refine rb_istore_n hV (L2 := [some (.inr (some 49)), some (.inl a), some (.inl a), none]) dX10_findWays_29 rfl (Nat.le_of_ble_eq_true rfl) rfl ?_
        have h30 : ∀ (n30 : Nat) (b : Int) (g57 : Int → Int) (g58 : Int → Int), (a ≤ b ∧ b ≤ s 120 0) → (∀ j, ¬ j = a → g57 j = f57 j ∧ g58 j = f58 j) → (g57 a = (am (cd (vM s) f57 a) a (b - a).toNat).1 ∧ (0 ≤ g57 a → g58 a = (am (cd (vM s) f57 a) a (b - a).toNat).2)) → ((s 120 0 - b).toNat) < n30 → V 30 [some (.inr (some 49)), some (.inl a), some (.inl b), none] [] (WW (ab_s (ab_s s 57 g57) 58 g58)) 0 0 := by
          intro n30
          induction n30 with
          | zero => intro b g57 g58 q1 q2 q3 hm; omega
          | succ n30 ih30 =>
            intro b g57 g58 q1 q2 q3 hm
            refine rb_iload_n hV dX10_findWays_30 rfl rfl ?_
            refine rb_aload_n hV dX10_findWays_31 rfl rfl ?_
            refine rb_get hV (v := .inl (s 120 0)) dX10_findWays_32 ⟨RX10, TX10, 24, rfl, (Nat.le_of_ble_eq_true rfl), lf_X10_90⟩ (gw_49 _) rfl ?_
            refine rb_icmp_ge hV (tgt := 113) dX10_findWays_35 (by decide) ⟨(by unfold ab_r at *; omega), (by unfold ab_r at *; omega)⟩ (fun c35 => ?_) (fun c35 => ?_)
            · refine rb_iinc hV (L2 := [some (.inr (some 49)), some (.inl (a + (-1))), some (.inl b), none]) dX10_findWays_113 rfl rfl rfl ?_
              refine rb_goto hV (tgt := 17) dX10_findWays_116 (by decide) ?_
              refine rb_weak hV (L2 := [some (.inr (some 49)), some (.inl (a + (-1))), none, none]) ⟨rfl, ⟨rfl, trivial⟩⟩ ?_
              refine ih17 (a + (-1)) (g57) (g58) ?_ ?_ ?_
              · omega
              · exact BWq_step hp (by omega) h1.2 h2 q2 (by rw [q3.1, show b = s 120 0 by omega]; rfl) (fun z => by rw [q3.2 z, show b = s 120 0 by omega]; rfl)
              · omega
            · have hB := bq_hb hp (by omega) q1.1 (show b < s 120 0 by omega) h2 q2 q3.1
              refine rb_aload_n hV dX10_findWays_38 rfl rfl ?_
              refine rb_get hV (v := .inr (some 57)) dX10_findWays_39 ⟨RX10, TX10, 24, rfl, (Nat.le_of_ble_eq_true rfl), lf_X10_42⟩ (gw_49 _) rfl ?_
              refine rb_iload_n hV dX10_findWays_42 rfl rfl ?_
              refine rb_iconst hV dX10_findWays_43 ?_
              refine rb_iadd hV dX10_findWays_44 ?_
              refine rb_iald hV (f := (g57)) dX10_findWays_45 (gw_57 _) (Nat.le_of_ble_eq_true rfl) (by omega) ?_
              refine rb_if_lt hV (tgt := 107) dX10_findWays_46 (by decide) (by unfold ab_r at *; omega) (fun c46 => ?_) (fun c46 => ?_)
              · refine rb_iinc hV (L2 := [some (.inr (some 49)), some (.inl a), some (.inl (b + 1)), none]) dX10_findWays_107 rfl rfl rfl ?_
                refine rb_goto hV (tgt := 30) dX10_findWays_110 (by decide) ?_
                refine ih30 (b + 1) (g57) (g58) ?_ ?_ ?_ ?_
                · omega
                · exact q2
                · exact bq_skip q1.1 q2 q3 (Or.inl (by omega))
                · omega
              · refine rb_aload_n hV dX10_findWays_49 rfl rfl ?_
                refine rb_iload_n hV dX10_findWays_50 rfl rfl ?_
                refine rb_iload_n hV dX10_findWays_51 rfl rfl ?_
                refine rb_callV hV (rest := []) dX10_findWays_52 (c_X10_isPossible (ab_s (ab_s s 57 g57) 58 g58) hp a b (by omega) (by omega) (show b < (s 120 0) by omega)) lk_X10_172 rfl (Or.inl ⟨9, _, TX10, 24, gw_49 _, rfl⟩) rfl ⟨rfl, rfl, (Nat.le_of_ble_eq_true rfl), (Nat.le_of_ble_eq_true rfl), (Nat.le_of_ble_eq_true rfl), (Nat.le_of_ble_eq_true rfl)⟩ (Nat.le_of_ble_eq_true rfl) (fun r9 h9 p9 => ?_)
                obtain ⟨rfl, rfl⟩ := p9
                show V 55 [some (.inr (some 49)), some (.inl a), some (.inl b), none] [.inl (if ps (vM s) a b = true then 1 else 0)] (WW (ab_s (ab_s s 57 g57) 58 g58)) 0 0
                by_cases e52 : ps (vM s) a b = true
                · rw [if_pos e52]
                  show V 55 [some (.inr (some 49)), some (.inl a), some (.inl b), none] [.inl 1] (WW (ab_s (ab_s s 57 g57) 58 g58)) 0 0
                  refine rb_if_eq hV (tgt := 107) dX10_findWays_55 (by decide) (by unfold ab_r at *; omega) (fun z => absurd z (by decide)) (fun _ => ?_)
                  have hD := dm_b hp (by omega) q1.1 (show b < s 120 0 by omega) e52
                  refine rb_aload_n hV dX10_findWays_58 rfl rfl ?_
                  refine rb_iload_n hV dX10_findWays_59 rfl rfl ?_
                  refine rb_iload_n hV dX10_findWays_60 rfl rfl ?_
                  refine rb_callV hV (rest := []) dX10_findWays_61 (c_X10_demerits (ab_s (ab_s s 57 g57) 58 g58) hp a b (by omega) (by omega) (show b < (s 120 0) by omega) e52) lk_X10_176 rfl (Or.inl ⟨9, _, TX10, 24, gw_49 _, rfl⟩) rfl ⟨rfl, rfl, (Nat.le_of_ble_eq_true rfl), (Nat.le_of_ble_eq_true rfl), (Nat.le_of_ble_eq_true rfl), (Nat.le_of_ble_eq_true rfl)⟩ (Nat.le_of_ble_eq_true rfl) (fun r9 h9 p9 => ?_)
                  obtain ⟨rfl, rfl⟩ := p9
                  show V 64 [some (.inr (some 49)), some (.inl a), some (.inl b), none] [.inl (dm (vM s) a b)] (WW (ab_s (ab_s s 57 g57) 58 g58)) 0 0
                  refine rb_aload_n hV dX10_findWays_64 rfl rfl ?_
                  refine rb_get hV (v := .inr (some 57)) dX10_findWays_65 ⟨RX10, TX10, 24, rfl, (Nat.le_of_ble_eq_true rfl), lf_X10_42⟩ (gw_49 _) rfl ?_
                  refine rb_iload_n hV dX10_findWays_68 rfl rfl ?_
                  refine rb_iconst hV dX10_findWays_69 ?_
                  refine rb_iadd hV dX10_findWays_70 ?_
                  refine rb_iald hV (f := (g57)) dX10_findWays_71 (gw_57 _) (Nat.le_of_ble_eq_true rfl) (by omega) ?_
                  refine rb_iadd hV dX10_findWays_72 ?_
                  refine rb_istore_n hV (L2 := [some (.inr (some 49)), some (.inl a), some (.inl b), some (.inl ((dm (vM s) a b) + ((g57) (b + 1))))]) dX10_findWays_73 rfl (Nat.le_of_ble_eq_true rfl) rfl ?_
                  refine rb_aload_n hV dX10_findWays_74 rfl rfl ?_
                  refine rb_get hV (v := .inr (some 57)) dX10_findWays_75 ⟨RX10, TX10, 24, rfl, (Nat.le_of_ble_eq_true rfl), lf_X10_42⟩ (gw_49 _) rfl ?_
                  refine rb_iload_n hV dX10_findWays_78 rfl rfl ?_
                  refine rb_iald hV (f := (g57)) dX10_findWays_79 (gw_57 _) (Nat.le_of_ble_eq_true rfl) (by omega) ?_
                  refine rb_if_lt hV (tgt := 93) dX10_findWays_80 (by decide) (by unfold ab_r at *; omega) (fun c80 => ?_) (fun c80 => ?_)
                  · refine rb_aload_n hV dX10_findWays_93 rfl rfl ?_
                    refine rb_get hV (v := .inr (some 57)) dX10_findWays_94 ⟨RX10, TX10, 24, rfl, (Nat.le_of_ble_eq_true rfl), lf_X10_42⟩ (gw_49 _) rfl ?_
                    refine rb_iload_n hV dX10_findWays_97 rfl rfl ?_
                    refine rb_iload_n hV dX10_findWays_98 rfl rfl ?_
                    refine rb_iast hV (f := (g57)) dX10_findWays_99 (gw_57 _) (Nat.le_of_ble_eq_true rfl) (by omega) rfl ((pw_57 _ _).trans (congrArg WW ((ab_s_sw (by decide)).trans (congrArg (fun x => ab_s x 58 _) (ab_s_same _ 57 _ _))))) ?_
                    refine rb_aload_n hV dX10_findWays_100 rfl rfl ?_
                    refine rb_get hV (v := .inr (some 58)) dX10_findWays_101 ⟨RX10, TX10, 24, rfl, (Nat.le_of_ble_eq_true rfl), lf_X10_45⟩ (gw_49 _) rfl ?_
                    refine rb_iload_n hV dX10_findWays_104 rfl rfl ?_
                    refine rb_iload_n hV dX10_findWays_105 rfl rfl ?_
                    refine rb_iast hV (f := (g58)) dX10_findWays_106 (gw_58 _) (Nat.le_of_ble_eq_true rfl) (by omega) rfl ((pw_58 _ _).trans (congrArg WW (ab_s_same _ 58 _ _))) ?_
                    refine rb_iinc hV (L2 := [some (.inr (some 49)), some (.inl a), some (.inl (b + 1)), some (.inl ((dm (vM s) a b) + ((g57) (b + 1))))]) dX10_findWays_107 rfl rfl rfl ?_
                    refine rb_goto hV (tgt := 30) dX10_findWays_110 (by decide) ?_
                    refine rb_weak hV (L2 := [some (.inr (some 49)), some (.inl a), some (.inl (b + 1)), none]) ⟨rfl, ⟨rfl, ⟨rfl, trivial⟩⟩⟩ ?_
                    refine ih30 (b + 1) (ab_u (g57) a ((dm (vM s) a b) + ((g57) (b + 1)))) (ab_u (g58) a b) ?_ ?_ ?_ ?_
                    · omega
                    · exact fun j hj => ⟨(if_neg hj).trans (q2 j hj).1, (if_neg hj).trans (q2 j hj).2⟩
                    · exact bq_take q1.1 q2 q3.1 (by omega) e52 (by omega) (by omega)
                    · omega
                  · refine rb_iload_n hV dX10_findWays_83 rfl rfl ?_
                    refine rb_aload_n hV dX10_findWays_84 rfl rfl ?_
                    refine rb_get hV (v := .inr (some 57)) dX10_findWays_85 ⟨RX10, TX10, 24, rfl, (Nat.le_of_ble_eq_true rfl), lf_X10_42⟩ (gw_49 _) rfl ?_
                    refine rb_iload_n hV dX10_findWays_88 rfl rfl ?_
                    refine rb_iald hV (f := (g57)) dX10_findWays_89 (gw_57 _) (Nat.le_of_ble_eq_true rfl) (by omega) ?_
                    refine rb_icmp_gt hV (tgt := 107) dX10_findWays_90 (by decide) ⟨(by unfold ab_r at *; omega), (by unfold ab_r at *; omega)⟩ (fun c90 => ?_) (fun c90 => ?_)
                    · refine rb_iinc hV (L2 := [some (.inr (some 49)), some (.inl a), some (.inl (b + 1)), some (.inl ((dm (vM s) a b) + ((g57) (b + 1))))]) dX10_findWays_107 rfl rfl rfl ?_
                      refine rb_goto hV (tgt := 30) dX10_findWays_110 (by decide) ?_
                      refine rb_weak hV (L2 := [some (.inr (some 49)), some (.inl a), some (.inl (b + 1)), none]) ⟨rfl, ⟨rfl, ⟨rfl, trivial⟩⟩⟩ ?_
                      refine ih30 (b + 1) (g57) (g58) ?_ ?_ ?_ ?_
                      · omega
                      · exact q2
                      · exact bq_skip q1.1 q2 q3 (Or.inr (Or.inr (by omega)))
                      · omega
                    · refine rb_aload_n hV dX10_findWays_93 rfl rfl ?_
                      refine rb_get hV (v := .inr (some 57)) dX10_findWays_94 ⟨RX10, TX10, 24, rfl, (Nat.le_of_ble_eq_true rfl), lf_X10_42⟩ (gw_49 _) rfl ?_
                      refine rb_iload_n hV dX10_findWays_97 rfl rfl ?_
                      refine rb_iload_n hV dX10_findWays_98 rfl rfl ?_
                      refine rb_iast hV (f := (g57)) dX10_findWays_99 (gw_57 _) (Nat.le_of_ble_eq_true rfl) (by omega) rfl ((pw_57 _ _).trans (congrArg WW ((ab_s_sw (by decide)).trans (congrArg (fun x => ab_s x 58 _) (ab_s_same _ 57 _ _))))) ?_
                      refine rb_aload_n hV dX10_findWays_100 rfl rfl ?_
                      refine rb_get hV (v := .inr (some 58)) dX10_findWays_101 ⟨RX10, TX10, 24, rfl, (Nat.le_of_ble_eq_true rfl), lf_X10_45⟩ (gw_49 _) rfl ?_
                      refine rb_iload_n hV dX10_findWays_104 rfl rfl ?_
                      refine rb_iload_n hV dX10_findWays_105 rfl rfl ?_
                      refine rb_iast hV (f := (g58)) dX10_findWays_106 (gw_58 _) (Nat.le_of_ble_eq_true rfl) (by omega) rfl ((pw_58 _ _).trans (congrArg WW (ab_s_same _ 58 _ _))) ?_
                      refine rb_iinc hV (L2 := [some (.inr (some 49)), some (.inl a), some (.inl (b + 1)), some (.inl ((dm (vM s) a b) + ((g57) (b + 1))))]) dX10_findWays_107 rfl rfl rfl ?_
                      refine rb_goto hV (tgt := 30) dX10_findWays_110 (by decide) ?_
                      refine rb_weak hV (L2 := [some (.inr (some 49)), some (.inl a), some (.inl (b + 1)), none]) ⟨rfl, ⟨rfl, ⟨rfl, trivial⟩⟩⟩ ?_
                      refine ih30 (b + 1) (ab_u (g57) a ((dm (vM s) a b) + ((g57) (b + 1)))) (ab_u (g58) a b) ?_ ?_ ?_ ?_
                      · omega
                      · exact fun j hj => ⟨(if_neg hj).trans (q2 j hj).1, (if_neg hj).trans (q2 j hj).2⟩
                      · exact bq_take q1.1 q2 q3.1 (by omega) e52 (by omega) (by omega)
                      · omega
                · rw [if_neg e52]
                  show V 55 [some (.inr (some 49)), some (.inl a), some (.inl b), none] [.inl 0] (WW (ab_s (ab_s s 57 g57) 58 g58)) 0 0
                  refine rb_if_eq hV (tgt := 107) dX10_findWays_55 (by decide) (by unfold ab_r at *; omega) (fun _ => ?_) (fun z => absurd z (by decide))
                  refine rb_iinc hV (L2 := [some (.inr (some 49)), some (.inl a), some (.inl (b + 1)), none]) dX10_findWays_107 rfl rfl rfl ?_
                  refine rb_goto hV (tgt := 30) dX10_findWays_110 (by decide) ?_
                  refine ih30 (b + 1) (g57) (g58) ?_ ?_ ?_ ?_
                  · omega
                  · exact q2
                  · exact bq_skip q1.1 q2 q3 (Or.inr (Or.inl e52))
                  · omega
        refine h30 _ a (ab_u (f57) a (-1)) (f58) ?_ ?_ ?_ (Nat.lt_succ_self _)
        · omega
        · exact fun j hj => ⟨if_neg hj, rfl⟩
        · rw [am_0]; exact ⟨if_pos rfl, fun z => by rw [ab_u_eq] at z; omega⟩
  refine h17 _ ((s 120 0) - 1) (ab_u (s 57) (s 120 0) 0) (s 58) ?_ ?_ (Nat.lt_succ_self _)
  · omega
  · exact ⟨if_pos rfl, fun j j1 j2 => absurd (show s 120 0 ≤ j by omega) (show ¬ s 120 0 ≤ j from Int.not_le.mpr j2), fun j j1 j2 => by
      have e : j = s 120 0 := by omega
      subst e
      rw [show ab_u (s 57) (s 120 0) 0 (s 120 0) = 0 from if_pos rfl]
      omega⟩

set_option maxRecDepth 20000 in
theorem c_X10_hasWay (s : Nat → Int → Int) (hw : 0 ≤ s 120 0 ∧ s 120 0 ≤ 60) (hb : -1 ≤ s 57 0 ∧ s 57 0 ≤ 732000) : ab_Mt yX10_hasWay cX10_hasWay 1 (some .boolean) ({ frames := 0, cells := 0, slots := 0, locals := 0 } : Room) false 0 0 [.inr (some 49)] (WW s) (fun r h2 => r = some (.inl (if 0 < s 120 0 ∧ 0 ≤ s 57 0 then 1 else 0)) ∧ h2 = WW s) := by
  refine ab_mk RX10 false rfl pn_X10_hasWay (fun z => by cases z) (Nat.le_of_ble_eq_true rfl) (fun V hV => ?_)
  show V 0 [some (.inr (some 49))] [] (WW s) 0 0
  refine rb_aload_n hV dX10_hasWay_0 rfl rfl ?_
  refine rb_get hV (v := .inl (s 120 0)) dX10_hasWay_1 ⟨RX10, TX10, 24, rfl, (Nat.le_of_ble_eq_true rfl), lf_X10_90⟩ (gw_49 _) rfl ?_
  refine rb_if_le hV (tgt := 20) dX10_hasWay_4 (by decide) (by unfold ab_r at *; omega) (fun c4 => ?_) (fun c4 => ?_)
  · refine rb_iconst hV dX10_hasWay_20 ?_
    refine rb_ret hV (r := some (.inl 0)) dX10_hasWay_21 rfl ⟨(Nat.le_of_ble_eq_true rfl), (Nat.le_of_ble_eq_true rfl)⟩ (by first | exact Or.inl rfl | exact Or.inr rfl | omega) ?_
    exact ⟨congrArg (fun z : Int => some (Sum.inl z)) (if_neg (by omega)).symm, rfl⟩
  · refine rb_aload_n hV dX10_hasWay_7 rfl rfl ?_
    refine rb_get hV (v := .inr (some 57)) dX10_hasWay_8 ⟨RX10, TX10, 24, rfl, (Nat.le_of_ble_eq_true rfl), lf_X10_42⟩ (gw_49 _) rfl ?_
    refine rb_iconst hV dX10_hasWay_11 ?_
    refine rb_iald hV (f := (s 57)) dX10_hasWay_12 (gw_57 _) (Nat.le_of_ble_eq_true rfl) (by omega) ?_
    refine rb_if_lt hV (tgt := 20) dX10_hasWay_13 (by decide) (by unfold ab_r at *; omega) (fun c13 => ?_) (fun c13 => ?_)
    · refine rb_iconst hV dX10_hasWay_20 ?_
      refine rb_ret hV (r := some (.inl 0)) dX10_hasWay_21 rfl ⟨(Nat.le_of_ble_eq_true rfl), (Nat.le_of_ble_eq_true rfl)⟩ (by first | exact Or.inl rfl | exact Or.inr rfl | omega) ?_
      exact ⟨congrArg (fun z : Int => some (Sum.inl z)) (if_neg (by omega)).symm, rfl⟩
    · refine rb_iconst hV dX10_hasWay_16 ?_
      refine rb_goto hV (tgt := 21) dX10_hasWay_17 (by decide) ?_
      refine rb_ret hV (r := some (.inl 1)) dX10_hasWay_21 rfl ⟨(Nat.le_of_ble_eq_true rfl), (Nat.le_of_ble_eq_true rfl)⟩ (by first | exact Or.inl rfl | exact Or.inr rfl | omega) ?_
      exact ⟨congrArg (fun z : Int => some (Sum.inl z)) (if_pos (by omega)).symm, rfl⟩

set_option maxRecDepth 20000 in
theorem c_X10_lastOf (s : Nat → Int → Int) (l : Int) (hl : 0 ≤ l ∧ l < 60) : ab_Mt yX10_lastOf cX10_lastOf 2 (some .int) ({ frames := 0, cells := 0, slots := 0, locals := 0 } : Room) false 0 0 [.inr (some 49), .inl l] (WW s) (fun r h2 => r = some (.inl (s 59 (l + 1) - 1)) ∧ h2 = WW s) := by
  refine ab_mk RX10 false rfl pn_X10_lastOf (fun z => by cases z) (Nat.le_of_ble_eq_true rfl) (fun V hV => ?_)
  show V 0 [some (.inr (some 49)), some (.inl l)] [] (WW s) 0 0
  refine rb_aload_n hV dX10_lastOf_0 rfl rfl ?_
  refine rb_get hV (v := .inr (some 59)) dX10_lastOf_1 ⟨RX10, TX10, 24, rfl, (Nat.le_of_ble_eq_true rfl), lf_X10_48⟩ (gw_49 _) rfl ?_
  refine rb_iload_n hV dX10_lastOf_4 rfl rfl ?_
  refine rb_iconst hV dX10_lastOf_5 ?_
  refine rb_iadd hV dX10_lastOf_6 ?_
  refine rb_iald hV (f := (s 59)) dX10_lastOf_7 (gw_59 _) (Nat.le_of_ble_eq_true rfl) (by omega) ?_
  refine rb_iconst hV dX10_lastOf_8 ?_
  refine rb_isub hV dX10_lastOf_9 ?_
  refine rb_ret hV (r := some (.inl ((s 59 (l + 1)) - 1))) dX10_lastOf_10 rfl ⟨(Nat.le_of_ble_eq_true rfl), (Nat.le_of_ble_eq_true rfl)⟩ trivial ?_
  exact ⟨rfl, rfl⟩

set_option maxRecDepth 20000 in
theorem c_X10_demeritsBefore (s : Nat → Int → Int) (l : Int) (hp : PI (vM s)) (hv : LV (vM s) (s 59) (s 125 0)) (hl : 0 ≤ l ∧ l ≤ s 125 0) : ab_Mt yX10_demeritsBefore cX10_demeritsBefore 4 (some .int) ({ frames := 5, cells := 0, slots := 0, locals := 118 } : Room) false 0 0 [.inr (some 49), .inl l] (WW s) (fun r h2 => r = some (.inl (Sm (ldm (vM s) (s 59)) 0 l)) ∧ h2 = WW s) := by
  refine ab_mk RX10 false rfl pn_X10_demeritsBefore (fun z => by cases z) (Nat.le_of_ble_eq_true rfl) (fun V hV => ?_)
  show V 0 [some (.inr (some 49)), some (.inl l), none, none] [] (WW s) 0 0
  have hn : 0 ≤ s 120 0 ∧ s 120 0 ≤ 60 := hp.1
  have hms : 10 ≤ s 117 0 ∧ s 117 0 ≤ 200 := hp.2.2.1
  have e0 : vM s 0 0 = s 120 0 := rfl
  have hnl : 0 ≤ s 125 0 ∧ s 125 0 ≤ s 120 0 := hv.1
  refine rb_iconst hV dX10_demeritsBefore_0 ?_
  refine rb_istore_n hV (L2 := [some (.inr (some 49)), some (.inl l), some (.inl 0), none]) dX10_demeritsBefore_1 rfl (Nat.le_of_ble_eq_true rfl) rfl ?_
  refine rb_iconst hV dX10_demeritsBefore_2 ?_
  refine rb_istore_n hV (L2 := [some (.inr (some 49)), some (.inl l), some (.inl 0), some (.inl 0)]) dX10_demeritsBefore_3 rfl (Nat.le_of_ble_eq_true rfl) rfl ?_
  have h4 : ∀ (n4 : Nat) (sum : Int) (i : Int), (0 ≤ i ∧ i ≤ l) → (sum = Sm (ldm (vM s) (s 59)) 0 i) → ((l - i).toNat) < n4 → V 4 [some (.inr (some 49)), some (.inl l), some (.inl sum), some (.inl i)] [] (WW s) 0 0 := by
    intro n4
    induction n4 with
    | zero => intro sum i h1 h2 hm; omega
    | succ n4 ih4 =>
      intro sum i h1 h2 hm
      refine rb_iload_n hV dX10_demeritsBefore_4 rfl rfl ?_
      refine rb_iload_n hV dX10_demeritsBefore_5 rfl rfl ?_
      refine rb_icmp_ge hV (tgt := 33) dX10_demeritsBefore_6 (by decide) ⟨(by unfold ab_r at *; omega), (by unfold ab_r at *; omega)⟩ (fun c6 => ?_) (fun c6 => ?_)
      · refine rb_iload_n hV dX10_demeritsBefore_33 rfl rfl ?_
        refine rb_ret hV (r := some (.inl sum)) dX10_demeritsBefore_34 rfl ⟨(Nat.le_of_ble_eq_true rfl), (Nat.le_of_ble_eq_true rfl)⟩ trivial ?_
        have e : i = l := by omega
        exact ⟨congrArg (fun z : Int => some (Sum.inl z)) (h2.trans (by rw [e])), rfl⟩
      · have hli := hv.2.1 i (by omega) (by omega)
        have hli2 : s 59 (i + 1) ≤ s 120 0 := hli.2.2.1
        have hli3 := hli.2.1
        have hli1 : 0 ≤ s 59 i := hli.1
        refine rb_iload_n hV dX10_demeritsBefore_9 rfl rfl ?_
        refine rb_aload_n hV dX10_demeritsBefore_10 rfl rfl ?_
        refine rb_aload_n hV dX10_demeritsBefore_11 rfl rfl ?_
        refine rb_get hV (v := .inr (some 59)) dX10_demeritsBefore_12 ⟨RX10, TX10, 24, rfl, (Nat.le_of_ble_eq_true rfl), lf_X10_48⟩ (gw_49 _) rfl ?_
        refine rb_iload_n hV dX10_demeritsBefore_15 rfl rfl ?_
        refine rb_iald hV (f := (s 59)) dX10_demeritsBefore_16 (gw_59 _) (Nat.le_of_ble_eq_true rfl) (by omega) ?_
        refine rb_aload_n hV dX10_demeritsBefore_17 rfl rfl ?_
        refine rb_iload_n hV dX10_demeritsBefore_18 rfl rfl ?_
        refine rb_callV hV (rest := [.inl (s 59 i), .inr (some 49), .inl sum]) dX10_demeritsBefore_19 (c_X10_lastOf s i (by omega)) lk_X10_192 rfl (Or.inl ⟨9, _, TX10, 24, gw_49 _, rfl⟩) rfl ⟨rfl, rfl, (Nat.le_of_ble_eq_true rfl), (Nat.le_of_ble_eq_true rfl), (Nat.le_of_ble_eq_true rfl), (Nat.le_of_ble_eq_true rfl)⟩ (Nat.le_of_ble_eq_true rfl) (fun r9 h9 p9 => ?_)
        obtain ⟨rfl, rfl⟩ := p9
        show V 22 [some (.inr (some 49)), some (.inl l), some (.inl sum), some (.inl i)] [.inl ((s 59 (i + 1)) - 1), .inl (s 59 i), .inr (some 49), .inl sum] (WW s) 0 0
        refine rb_callV hV (rest := [.inl sum]) dX10_demeritsBefore_22 (c_X10_demerits s hp (s 59 i) ((s 59 (i + 1)) - 1) (by omega) (by omega) (by omega) hli.2.2.2) lk_X10_176 rfl (Or.inl ⟨9, _, TX10, 24, gw_49 _, rfl⟩) rfl ⟨rfl, rfl, (Nat.le_of_ble_eq_true rfl), (Nat.le_of_ble_eq_true rfl), (Nat.le_of_ble_eq_true rfl), (Nat.le_of_ble_eq_true rfl)⟩ (Nat.le_of_ble_eq_true rfl) (fun r9 h9 p9 => ?_)
        obtain ⟨rfl, rfl⟩ := p9
        show V 25 [some (.inr (some 49)), some (.inl l), some (.inl sum), some (.inl i)] [.inl (dm (vM s) (s 59 i) ((s 59 (i + 1)) - 1)), .inl sum] (WW s) 0 0
        refine rb_iadd hV dX10_demeritsBefore_25 ?_
        refine rb_istore_n hV (L2 := [some (.inr (some 49)), some (.inl l), some (.inl (sum + (dm (vM s) (s 59 i) ((s 59 (i + 1)) - 1)))), some (.inl i)]) dX10_demeritsBefore_26 rfl (Nat.le_of_ble_eq_true rfl) rfl ?_
        refine rb_iinc hV (L2 := [some (.inr (some 49)), some (.inl l), some (.inl (sum + (dm (vM s) (s 59 i) ((s 59 (i + 1)) - 1)))), some (.inl (i + 1))]) dX10_demeritsBefore_27 rfl rfl rfl ?_
        refine rb_goto hV (tgt := 4) dX10_demeritsBefore_30 (by decide) ?_
        refine ih4 (sum + (dm (vM s) (s 59 i) ((s 59 (i + 1)) - 1))) (i + 1) ?_ ?_ ?_
        · omega
        · rw [h2, Sm_succ _ h1.1]; rfl
        · omega
  refine h4 _ 0 0 ?_ ?_ (Nat.lt_succ_self _)
  · omega
  · rw [Sm_self]

set_option maxRecDepth 20000 in
theorem c_X10_secondOf (s : Nat → Int → Int) (l : Int) (hp : PI (vM s)) (hv : LV (vM s) (s 59) (s 125 0)) (hb : BS (vM s) (s 57)) (hl : 0 ≤ l ∧ l < s 125 0) : ab_Mt yX10_secondOf cX10_secondOf 7 (some .int) ({ frames := 5, cells := 0, slots := 0, locals := 118 } : Room) false 0 0 [.inr (some 49), .inl l] (WW s) (fun r h2 => r = some (.inl (sec (vM s) (s 57) (s 59) l)) ∧ h2 = WW s) := by
  refine ab_mk RX10 false rfl pn_X10_secondOf (fun z => by cases z) (Nat.le_of_ble_eq_true rfl) (fun V hV => ?_)
  show V 0 [some (.inr (some 49)), some (.inl l), none, none, none, none, none] [] (WW s) 0 0
  have hn : 0 ≤ s 120 0 ∧ s 120 0 ≤ 60 := hp.1
  have hms : 10 ≤ s 117 0 ∧ s 117 0 ≤ 200 := hp.2.2.1
  have e0 : vM s 0 0 = s 120 0 := rfl
  have hnl : 0 ≤ s 125 0 ∧ s 125 0 ≤ s 120 0 := hv.1
  have hl0 := hv.2.1 l (by omega) (by omega)
  have hl02 : s 59 (l + 1) ≤ s 120 0 := hl0.2.2.1
  have hl03 := hl0.2.1
  have hl01 : 0 ≤ s 59 l := hl0.1
  refine rb_aload_n hV dX10_secondOf_0 rfl rfl ?_
  refine rb_get hV (v := .inr (some 59)) dX10_secondOf_1 ⟨RX10, TX10, 24, rfl, (Nat.le_of_ble_eq_true rfl), lf_X10_48⟩ (gw_49 _) rfl ?_
  refine rb_iload_n hV dX10_secondOf_4 rfl rfl ?_
  refine rb_iald hV (f := (s 59)) dX10_secondOf_5 (gw_59 _) (Nat.le_of_ble_eq_true rfl) (by omega) ?_
  refine rb_istore_n hV (L2 := [some (.inr (some 49)), some (.inl l), some (.inl (s 59 l)), none, none, none, none]) dX10_secondOf_6 rfl (Nat.le_of_ble_eq_true rfl) rfl ?_
  refine rb_iconst hV dX10_secondOf_7 ?_
  refine rb_istore_n hV (L2 := [some (.inr (some 49)), some (.inl l), some (.inl (s 59 l)), some (.inl (-1)), none, none, none]) dX10_secondOf_8 rfl (Nat.le_of_ble_eq_true rfl) rfl ?_
  refine rb_iconst hV dX10_secondOf_9 ?_
  refine rb_istore hV (L2 := [some (.inr (some 49)), some (.inl l), some (.inl (s 59 l)), some (.inl (-1)), some (.inl 0), none, none]) dX10_secondOf_10 (Nat.le_of_ble_eq_true rfl) rfl ?_
  refine rb_iload_n hV dX10_secondOf_12 rfl rfl ?_
  refine rb_istore hV (L2 := [some (.inr (some 49)), some (.inl l), some (.inl (s 59 l)), some (.inl (-1)), some (.inl 0), some (.inl (s 59 l)), none]) dX10_secondOf_13 (Nat.le_of_ble_eq_true rfl) rfl ?_
  have h15 : ∀ (n15 : Nat) (f : Int) (le : Int) (b : Int), (s 59 l ≤ b ∧ b ≤ s 120 0) → (f = (am (sc (vM s) (s 57) (s 59) l) (s 59 l) (b - s 59 l).toNat).2) → ((f = -1 → le = 0) ∧ (¬ f = -1 → le = (am (sc (vM s) (s 57) (s 59) l) (s 59 l) (b - s 59 l).toNat).1)) → ((s 120 0 - b).toNat) < n15 → V 15 [some (.inr (some 49)), some (.inl l), some (.inl (s 59 l)), some (.inl f), some (.inl le), some (.inl b), none] [] (WW s) 0 0 := by
    intro n15
    induction n15 with
    | zero => intro f le b h1 h2 h3 hm; omega
    | succ n15 ih15 =>
      intro f le b h1 h2 h3 hm
      refine rb_iload hV dX10_secondOf_15 rfl ?_
      refine rb_aload_n hV dX10_secondOf_17 rfl rfl ?_
      refine rb_get hV (v := .inl (s 120 0)) dX10_secondOf_18 ⟨RX10, TX10, 24, rfl, (Nat.le_of_ble_eq_true rfl), lf_X10_90⟩ (gw_49 _) rfl ?_
      refine rb_icmp_ge hV (tgt := 99) dX10_secondOf_21 (by decide) ⟨(by unfold ab_r at *; omega), (by unfold ab_r at *; omega)⟩ (fun c21 => ?_) (fun c21 => ?_)
      · refine rb_iload_n hV dX10_secondOf_99 rfl rfl ?_
        refine rb_ret hV (r := some (.inl f)) dX10_secondOf_100 rfl ⟨(Nat.le_of_ble_eq_true rfl), (Nat.le_of_ble_eq_true rfl)⟩ trivial ?_
        have e : b = s 120 0 := by omega
        exact ⟨congrArg (fun z : Int => some (Sum.inl z)) (h2.trans (by rw [e]; rfl)), rfl⟩
      · have hA := am_in (c := sc (vM s) (s 57) (s 59) l) (lo := s 59 l) (b - s 59 l).toNat
        have hAb := am_bnd (c := sc (vM s) (s 57) (s 59) l) (lo := s 59 l) (M := 744200) (by omega) (b - s 59 l).toNat (fun j q1 q2 => (sc_bnd hp hb hl0.1 q1 (by show j < s 120 0; omega)).2)
        have hbb : -1 ≤ s 57 (b + 1) ∧ s 57 (b + 1) ≤ 732000 := hb (b + 1) (by omega) (by show b + 1 ≤ s 120 0; omega)
        refine rb_iload hV dX10_secondOf_24 rfl ?_
        refine rb_aload_n hV dX10_secondOf_26 rfl rfl ?_
        refine rb_iload_n hV dX10_secondOf_27 rfl rfl ?_
        refine rb_callV hV (rest := [.inl b]) dX10_secondOf_28 (c_X10_lastOf s l (by omega)) lk_X10_192 rfl (Or.inl ⟨9, _, TX10, 24, gw_49 _, rfl⟩) rfl ⟨rfl, rfl, (Nat.le_of_ble_eq_true rfl), (Nat.le_of_ble_eq_true rfl), (Nat.le_of_ble_eq_true rfl), (Nat.le_of_ble_eq_true rfl)⟩ (Nat.le_of_ble_eq_true rfl) (fun r9 h9 p9 => ?_)
        obtain ⟨rfl, rfl⟩ := p9
        show V 31 [some (.inr (some 49)), some (.inl l), some (.inl (s 59 l)), some (.inl f), some (.inl le), some (.inl b), none] [.inl ((s 59 (l + 1)) - 1), .inl b] (WW s) 0 0
        refine rb_icmp_eq hV (tgt := 93) dX10_secondOf_31 (by decide) ⟨(by unfold ab_r at *; omega), (by unfold ab_r at *; omega)⟩ (fun c31 => ?_) (fun c31 => ?_)
        · refine rb_iinc hV (L2 := [some (.inr (some 49)), some (.inl l), some (.inl (s 59 l)), some (.inl f), some (.inl le), some (.inl (b + 1)), none]) dX10_secondOf_93 rfl rfl rfl ?_
          refine rb_goto hV (tgt := 15) dX10_secondOf_96 (by decide) ?_
          refine ih15 f le (b + 1) ?_ ?_ ?_ ?_
          · omega
          · exact (sec_skip hA h1.1 hl01 h2 h3 (show sc (vM s) (s 57) (s 59) l b = -1 from if_pos (by omega)) (Or.inl rfl)).1
          · exact (sec_skip hA h1.1 hl01 h2 h3 (show sc (vM s) (s 57) (s 59) l b = -1 from if_pos (by omega)) (Or.inl rfl)).2
          · omega
        · refine rb_aload_n hV dX10_secondOf_34 rfl rfl ?_
          refine rb_get hV (v := .inr (some 57)) dX10_secondOf_35 ⟨RX10, TX10, 24, rfl, (Nat.le_of_ble_eq_true rfl), lf_X10_42⟩ (gw_49 _) rfl ?_
          refine rb_iload hV dX10_secondOf_38 rfl ?_
          refine rb_iconst hV dX10_secondOf_40 ?_
          refine rb_iadd hV dX10_secondOf_41 ?_
          refine rb_iald hV (f := (s 57)) dX10_secondOf_42 (gw_57 _) (Nat.le_of_ble_eq_true rfl) (by omega) ?_
          refine rb_if_lt hV (tgt := 93) dX10_secondOf_43 (by decide) (by unfold ab_r at *; omega) (fun c43 => ?_) (fun c43 => ?_)
          · refine rb_iinc hV (L2 := [some (.inr (some 49)), some (.inl l), some (.inl (s 59 l)), some (.inl f), some (.inl le), some (.inl (b + 1)), none]) dX10_secondOf_93 rfl rfl rfl ?_
            refine rb_goto hV (tgt := 15) dX10_secondOf_96 (by decide) ?_
            refine ih15 f le (b + 1) ?_ ?_ ?_ ?_
            · omega
            · exact (sec_skip hA h1.1 hl01 h2 h3 (show sc (vM s) (s 57) (s 59) l b = -1 from (if_neg (by omega)).trans (if_neg (fun q => by have := q.1; omega))) (Or.inl rfl)).1
            · exact (sec_skip hA h1.1 hl01 h2 h3 (show sc (vM s) (s 57) (s 59) l b = -1 from (if_neg (by omega)).trans (if_neg (fun q => by have := q.1; omega))) (Or.inl rfl)).2
            · omega
          · refine rb_aload_n hV dX10_secondOf_46 rfl rfl ?_
            refine rb_iload_n hV dX10_secondOf_47 rfl rfl ?_
            refine rb_iload hV dX10_secondOf_48 rfl ?_
            refine rb_callV hV (rest := []) dX10_secondOf_50 (c_X10_isPossible s hp (s 59 l) b (by omega) (by omega) (by omega)) lk_X10_172 rfl (Or.inl ⟨9, _, TX10, 24, gw_49 _, rfl⟩) rfl ⟨rfl, rfl, (Nat.le_of_ble_eq_true rfl), (Nat.le_of_ble_eq_true rfl), (Nat.le_of_ble_eq_true rfl), (Nat.le_of_ble_eq_true rfl)⟩ (Nat.le_of_ble_eq_true rfl) (fun r9 h9 p9 => ?_)
            obtain ⟨rfl, rfl⟩ := p9
            show V 53 [some (.inr (some 49)), some (.inl l), some (.inl (s 59 l)), some (.inl f), some (.inl le), some (.inl b), none] [.inl (if ps (vM s) (s 59 l) b = true then 1 else 0)] (WW s) 0 0
            by_cases e50 : ps (vM s) (s 59 l) b = true
            · rw [if_pos e50]
              show V 53 [some (.inr (some 49)), some (.inl l), some (.inl (s 59 l)), some (.inl f), some (.inl le), some (.inl b), none] [.inl 1] (WW s) 0 0
              refine rb_if_eq hV (tgt := 93) dX10_secondOf_53 (by decide) (by unfold ab_r at *; omega) (fun z => absurd z (by decide)) (fun _ => ?_)
              have hD := dm_b hp hl01 h1.1 (show b < s 120 0 by omega) e50
              refine rb_aload_n hV dX10_secondOf_56 rfl rfl ?_
              refine rb_iload_n hV dX10_secondOf_57 rfl rfl ?_
              refine rb_iload hV dX10_secondOf_58 rfl ?_
              refine rb_callV hV (rest := []) dX10_secondOf_60 (c_X10_demerits s hp (s 59 l) b (by omega) (by omega) (by omega) e50) lk_X10_176 rfl (Or.inl ⟨9, _, TX10, 24, gw_49 _, rfl⟩) rfl ⟨rfl, rfl, (Nat.le_of_ble_eq_true rfl), (Nat.le_of_ble_eq_true rfl), (Nat.le_of_ble_eq_true rfl), (Nat.le_of_ble_eq_true rfl)⟩ (Nat.le_of_ble_eq_true rfl) (fun r9 h9 p9 => ?_)
              obtain ⟨rfl, rfl⟩ := p9
              show V 63 [some (.inr (some 49)), some (.inl l), some (.inl (s 59 l)), some (.inl f), some (.inl le), some (.inl b), none] [.inl (dm (vM s) (s 59 l) b)] (WW s) 0 0
              refine rb_aload_n hV dX10_secondOf_63 rfl rfl ?_
              refine rb_get hV (v := .inr (some 57)) dX10_secondOf_64 ⟨RX10, TX10, 24, rfl, (Nat.le_of_ble_eq_true rfl), lf_X10_42⟩ (gw_49 _) rfl ?_
              refine rb_iload hV dX10_secondOf_67 rfl ?_
              refine rb_iconst hV dX10_secondOf_69 ?_
              refine rb_iadd hV dX10_secondOf_70 ?_
              refine rb_iald hV (f := (s 57)) dX10_secondOf_71 (gw_57 _) (Nat.le_of_ble_eq_true rfl) (by omega) ?_
              refine rb_iadd hV dX10_secondOf_72 ?_
              refine rb_istore hV (L2 := [some (.inr (some 49)), some (.inl l), some (.inl (s 59 l)), some (.inl f), some (.inl le), some (.inl b), some (.inl ((dm (vM s) (s 59 l) b) + (s 57 (b + 1))))]) dX10_secondOf_73 (Nat.le_of_ble_eq_true rfl) rfl ?_
              refine rb_iload_n hV dX10_secondOf_75 rfl rfl ?_
              refine rb_if_lt hV (tgt := 86) dX10_secondOf_76 (by decide) (by unfold ab_r at *; omega) (fun c76 => ?_) (fun c76 => ?_)
              · refine rb_iload hV dX10_secondOf_86 rfl ?_
                refine rb_istore_n hV (L2 := [some (.inr (some 49)), some (.inl l), some (.inl (s 59 l)), some (.inl b), some (.inl le), some (.inl b), some (.inl ((dm (vM s) (s 59 l) b) + (s 57 (b + 1))))]) dX10_secondOf_88 rfl (Nat.le_of_ble_eq_true rfl) rfl ?_
                refine rb_iload hV dX10_secondOf_89 rfl ?_
                refine rb_istore hV (L2 := [some (.inr (some 49)), some (.inl l), some (.inl (s 59 l)), some (.inl b), some (.inl ((dm (vM s) (s 59 l) b) + (s 57 (b + 1)))), some (.inl b), some (.inl ((dm (vM s) (s 59 l) b) + (s 57 (b + 1))))]) dX10_secondOf_91 (Nat.le_of_ble_eq_true rfl) rfl ?_
                refine rb_iinc hV (L2 := [some (.inr (some 49)), some (.inl l), some (.inl (s 59 l)), some (.inl b), some (.inl ((dm (vM s) (s 59 l) b) + (s 57 (b + 1)))), some (.inl (b + 1)), some (.inl ((dm (vM s) (s 59 l) b) + (s 57 (b + 1))))]) dX10_secondOf_93 rfl rfl rfl ?_
                refine rb_goto hV (tgt := 15) dX10_secondOf_96 (by decide) ?_
                refine rb_weak hV (L2 := [some (.inr (some 49)), some (.inl l), some (.inl (s 59 l)), some (.inl b), some (.inl ((dm (vM s) (s 59 l) b) + (s 57 (b + 1)))), some (.inl (b + 1)), none]) ⟨rfl, ⟨rfl, ⟨rfl, ⟨rfl, ⟨rfl, ⟨rfl, trivial⟩⟩⟩⟩⟩⟩ ?_
                refine ih15 b ((dm (vM s) (s 59 l) b) + (s 57 (b + 1))) (b + 1) ?_ ?_ ?_ ?_
                · omega
                · exact (sec_take hA h1.1 hl01 h2 h3 ((if_neg (by omega)).trans (if_pos ⟨by omega, e50⟩)) (by omega) (by omega)).1
                · exact (sec_take hA h1.1 hl01 h2 h3 ((if_neg (by omega)).trans (if_pos ⟨by omega, e50⟩)) (by omega) (by omega)).2
                · omega
              · refine rb_iload hV dX10_secondOf_79 rfl ?_
                refine rb_iload hV dX10_secondOf_81 rfl ?_
                refine rb_icmp_gt hV (tgt := 93) dX10_secondOf_83 (by decide) ⟨(by unfold ab_r at *; omega), (by unfold ab_r at *; omega)⟩ (fun c83 => ?_) (fun c83 => ?_)
                · refine rb_iinc hV (L2 := [some (.inr (some 49)), some (.inl l), some (.inl (s 59 l)), some (.inl f), some (.inl le), some (.inl (b + 1)), some (.inl ((dm (vM s) (s 59 l) b) + (s 57 (b + 1))))]) dX10_secondOf_93 rfl rfl rfl ?_
                  refine rb_goto hV (tgt := 15) dX10_secondOf_96 (by decide) ?_
                  refine rb_weak hV (L2 := [some (.inr (some 49)), some (.inl l), some (.inl (s 59 l)), some (.inl f), some (.inl le), some (.inl (b + 1)), none]) ⟨rfl, ⟨rfl, ⟨rfl, ⟨rfl, ⟨rfl, ⟨rfl, trivial⟩⟩⟩⟩⟩⟩ ?_
                  refine ih15 f le (b + 1) ?_ ?_ ?_ ?_
                  · omega
                  · exact (sec_skip hA h1.1 hl01 h2 h3 ((if_neg (by omega)).trans (if_pos ⟨by omega, e50⟩)) (by omega)).1
                  · exact (sec_skip hA h1.1 hl01 h2 h3 ((if_neg (by omega)).trans (if_pos ⟨by omega, e50⟩)) (by omega)).2
                  · omega
                · refine rb_iload hV dX10_secondOf_86 rfl ?_
                  refine rb_istore_n hV (L2 := [some (.inr (some 49)), some (.inl l), some (.inl (s 59 l)), some (.inl b), some (.inl le), some (.inl b), some (.inl ((dm (vM s) (s 59 l) b) + (s 57 (b + 1))))]) dX10_secondOf_88 rfl (Nat.le_of_ble_eq_true rfl) rfl ?_
                  refine rb_iload hV dX10_secondOf_89 rfl ?_
                  refine rb_istore hV (L2 := [some (.inr (some 49)), some (.inl l), some (.inl (s 59 l)), some (.inl b), some (.inl ((dm (vM s) (s 59 l) b) + (s 57 (b + 1)))), some (.inl b), some (.inl ((dm (vM s) (s 59 l) b) + (s 57 (b + 1))))]) dX10_secondOf_91 (Nat.le_of_ble_eq_true rfl) rfl ?_
                  refine rb_iinc hV (L2 := [some (.inr (some 49)), some (.inl l), some (.inl (s 59 l)), some (.inl b), some (.inl ((dm (vM s) (s 59 l) b) + (s 57 (b + 1)))), some (.inl (b + 1)), some (.inl ((dm (vM s) (s 59 l) b) + (s 57 (b + 1))))]) dX10_secondOf_93 rfl rfl rfl ?_
                  refine rb_goto hV (tgt := 15) dX10_secondOf_96 (by decide) ?_
                  refine rb_weak hV (L2 := [some (.inr (some 49)), some (.inl l), some (.inl (s 59 l)), some (.inl b), some (.inl ((dm (vM s) (s 59 l) b) + (s 57 (b + 1)))), some (.inl (b + 1)), none]) ⟨rfl, ⟨rfl, ⟨rfl, ⟨rfl, ⟨rfl, ⟨rfl, trivial⟩⟩⟩⟩⟩⟩ ?_
                  refine ih15 b ((dm (vM s) (s 59 l) b) + (s 57 (b + 1))) (b + 1) ?_ ?_ ?_ ?_
                  · omega
                  · exact (sec_take hA h1.1 hl01 h2 h3 ((if_neg (by omega)).trans (if_pos ⟨by omega, e50⟩)) (by omega) (by omega)).1
                  · exact (sec_take hA h1.1 hl01 h2 h3 ((if_neg (by omega)).trans (if_pos ⟨by omega, e50⟩)) (by omega) (by omega)).2
                  · omega
            · rw [if_neg e50]
              show V 53 [some (.inr (some 49)), some (.inl l), some (.inl (s 59 l)), some (.inl f), some (.inl le), some (.inl b), none] [.inl 0] (WW s) 0 0
              refine rb_if_eq hV (tgt := 93) dX10_secondOf_53 (by decide) (by unfold ab_r at *; omega) (fun _ => ?_) (fun z => absurd z (by decide))
              refine rb_iinc hV (L2 := [some (.inr (some 49)), some (.inl l), some (.inl (s 59 l)), some (.inl f), some (.inl le), some (.inl (b + 1)), none]) dX10_secondOf_93 rfl rfl rfl ?_
              refine rb_goto hV (tgt := 15) dX10_secondOf_96 (by decide) ?_
              refine ih15 f le (b + 1) ?_ ?_ ?_ ?_
              · omega
              · exact (sec_skip hA h1.1 hl01 h2 h3 (show sc (vM s) (s 57) (s 59) l b = -1 from (if_neg (by omega)).trans (if_neg (fun q => e50 q.2))) (Or.inl rfl)).1
              · exact (sec_skip hA h1.1 hl01 h2 h3 (show sc (vM s) (s 57) (s 59) l b = -1 from (if_neg (by omega)).trans (if_neg (fun q => e50 q.2))) (Or.inl rfl)).2
              · omega
  refine h15 _ (-1) 0 (s 59 l) ?_ ?_ ?_ (Nat.lt_succ_self _)
  · omega
  · rw [am_0]
  · rw [am_0]; exact ⟨fun _ => rfl, fun z => absurd rfl z⟩

set_option maxRecDepth 20000 in
theorem c_X10_secondDemerits (s : Nat → Int → Int) (l : Int) (hp : PI (vM s)) (hv : LV (vM s) (s 59) (s 125 0)) (hb : BS (vM s) (s 57)) (hl : 0 ≤ l ∧ l < s 125 0) (hs : ¬ sec (vM s) (s 57) (s 59) l = -1) : ab_Mt yX10_secondDemerits cX10_secondDemerits 3 (some .int) ({ frames := 6, cells := 0, slots := 0, locals := 144 } : Room) false 0 0 [.inr (some 49), .inl l] (WW s) (fun r h2 => r = some (.inl (SDm (vM s) (s 57) (s 59) l)) ∧ h2 = WW s) := by
  refine ab_mk RX10 false rfl pn_X10_secondDemerits (fun z => by cases z) (Nat.le_of_ble_eq_true rfl) (fun V hV => ?_)
  show V 0 [some (.inr (some 49)), some (.inl l), none] [] (WW s) 0 0
  have hn : 0 ≤ s 120 0 ∧ s 120 0 ≤ 60 := hp.1
  have hms : 10 ≤ s 117 0 ∧ s 117 0 ≤ 200 := hp.2.2.1
  have e0 : vM s 0 0 = s 120 0 := rfl
  have hnl : 0 ≤ s 125 0 ∧ s 125 0 ≤ s 120 0 := hv.1
  have hl0 := hv.2.1 l (by omega) (by omega)
  have hl02 : s 59 (l + 1) ≤ s 120 0 := hl0.2.2.1
  have hl03 := hl0.2.1
  have hl01 : 0 ≤ s 59 l := hl0.1
  have hok := sec_ok hs
  have hok1 := hok.1
  have hok2 : sec (vM s) (s 57) (s 59) l < s 120 0 := by have := hok.2.1; omega
  refine rb_aload_n hV dX10_secondDemerits_0 rfl rfl ?_
  refine rb_iload_n hV dX10_secondDemerits_1 rfl rfl ?_
  refine rb_callV hV (rest := []) dX10_secondDemerits_2 (c_X10_secondOf s l hp hv hb (show 0 ≤ l ∧ l < (s 125 0) by omega)) lk_X10_195 rfl (Or.inl ⟨9, _, TX10, 24, gw_49 _, rfl⟩) rfl ⟨rfl, rfl, (Nat.le_of_ble_eq_true rfl), (Nat.le_of_ble_eq_true rfl), (Nat.le_of_ble_eq_true rfl), (Nat.le_of_ble_eq_true rfl)⟩ (Nat.le_of_ble_eq_true rfl) (fun r9 h9 p9 => ?_)
  obtain ⟨rfl, rfl⟩ := p9
  show V 5 [some (.inr (some 49)), some (.inl l), none] [.inl (sec (vM s) (s 57) (s 59) l)] (WW s) 0 0
  refine rb_istore_n hV (L2 := [some (.inr (some 49)), some (.inl l), some (.inl (sec (vM s) (s 57) (s 59) l))]) dX10_secondDemerits_5 rfl (Nat.le_of_ble_eq_true rfl) rfl ?_
  refine rb_aload_n hV dX10_secondDemerits_6 rfl rfl ?_
  refine rb_iload_n hV dX10_secondDemerits_7 rfl rfl ?_
  refine rb_callV hV (rest := []) dX10_secondDemerits_8 (c_X10_demeritsBefore s l hp hv (show 0 ≤ l ∧ l ≤ (s 125 0) by omega)) lk_X10_198 rfl (Or.inl ⟨9, _, TX10, 24, gw_49 _, rfl⟩) rfl ⟨rfl, rfl, (Nat.le_of_ble_eq_true rfl), (Nat.le_of_ble_eq_true rfl), (Nat.le_of_ble_eq_true rfl), (Nat.le_of_ble_eq_true rfl)⟩ (Nat.le_of_ble_eq_true rfl) (fun r9 h9 p9 => ?_)
  obtain ⟨rfl, rfl⟩ := p9
  show V 11 [some (.inr (some 49)), some (.inl l), some (.inl (sec (vM s) (s 57) (s 59) l))] [.inl (Sm (ldm (vM s) (s 59)) 0 l)] (WW s) 0 0
  refine rb_aload_n hV dX10_secondDemerits_11 rfl rfl ?_
  refine rb_aload_n hV dX10_secondDemerits_12 rfl rfl ?_
  refine rb_get hV (v := .inr (some 59)) dX10_secondDemerits_13 ⟨RX10, TX10, 24, rfl, (Nat.le_of_ble_eq_true rfl), lf_X10_48⟩ (gw_49 _) rfl ?_
  refine rb_iload_n hV dX10_secondDemerits_16 rfl rfl ?_
  refine rb_iald hV (f := (s 59)) dX10_secondDemerits_17 (gw_59 _) (Nat.le_of_ble_eq_true rfl) (by omega) ?_
  refine rb_iload_n hV dX10_secondDemerits_18 rfl rfl ?_
  refine rb_callV hV (rest := [.inl (Sm (ldm (vM s) (s 59)) 0 l)]) dX10_secondDemerits_19 (c_X10_demerits s hp (s 59 l) (sec (vM s) (s 57) (s 59) l) (by omega) (by omega) (by omega) hok.2.2.1) lk_X10_176 rfl (Or.inl ⟨9, _, TX10, 24, gw_49 _, rfl⟩) rfl ⟨rfl, rfl, (Nat.le_of_ble_eq_true rfl), (Nat.le_of_ble_eq_true rfl), (Nat.le_of_ble_eq_true rfl), (Nat.le_of_ble_eq_true rfl)⟩ (Nat.le_of_ble_eq_true rfl) (fun r9 h9 p9 => ?_)
  obtain ⟨rfl, rfl⟩ := p9
  show V 22 [some (.inr (some 49)), some (.inl l), some (.inl (sec (vM s) (s 57) (s 59) l))] [.inl (dm (vM s) (s 59 l) (sec (vM s) (s 57) (s 59) l)), .inl (Sm (ldm (vM s) (s 59)) 0 l)] (WW s) 0 0
  refine rb_iadd hV dX10_secondDemerits_22 ?_
  refine rb_aload_n hV dX10_secondDemerits_23 rfl rfl ?_
  refine rb_get hV (v := .inr (some 57)) dX10_secondDemerits_24 ⟨RX10, TX10, 24, rfl, (Nat.le_of_ble_eq_true rfl), lf_X10_42⟩ (gw_49 _) rfl ?_
  refine rb_iload_n hV dX10_secondDemerits_27 rfl rfl ?_
  refine rb_iconst hV dX10_secondDemerits_28 ?_
  refine rb_iadd hV dX10_secondDemerits_29 ?_
  refine rb_iald hV (f := (s 57)) dX10_secondDemerits_30 (gw_57 _) (Nat.le_of_ble_eq_true rfl) (by omega) ?_
  refine rb_iadd hV dX10_secondDemerits_31 ?_
  refine rb_ret hV (r := some (.inl (((Sm (ldm (vM s) (s 59)) 0 l) + (dm (vM s) (s 59 l) (sec (vM s) (s 57) (s 59) l))) + (s 57 ((sec (vM s) (s 57) (s 59) l) + 1))))) dX10_secondDemerits_32 rfl ⟨(Nat.le_of_ble_eq_true rfl), (Nat.le_of_ble_eq_true rfl)⟩ trivial ?_
  exact ⟨rfl, rfl⟩

set_option maxRecDepth 20000 in
theorem c_X10_noLine (s : Nat → Int → Int) (l : Int) (hl : ab_r l) (hn : 0 ≤ s 125 0 ∧ s 125 0 ≤ 60) : ab_Mt yX10_noLine cX10_noLine 2 (some .boolean) ({ frames := 1, cells := 0, slots := 0, locals := 22 } : Room) false 0 0 [.inr (some 49), .inl l] (WW s) (fun r h2 => r = some (.inl (if ¬ (0 ≤ l ∧ l < s 125 0) then 1 else 0)) ∧ h2 = WW s) := by
  refine ab_mk RX10 false rfl pn_X10_noLine (fun z => by cases z) (Nat.le_of_ble_eq_true rfl) (fun V hV => ?_)
  show V 0 [some (.inr (some 49)), some (.inl l)] [] (WW s) 0 0
  refine rb_iload_n hV dX10_noLine_0 rfl rfl ?_
  refine rb_iconst hV dX10_noLine_1 ?_
  refine rb_aload_n hV dX10_noLine_2 rfl rfl ?_
  refine rb_get hV (v := .inl (s 125 0)) dX10_noLine_3 ⟨RX10, TX10, 24, rfl, (Nat.le_of_ble_eq_true rfl), lf_X10_147⟩ (gw_49 _) rfl ?_
  refine rb_iconst hV dX10_noLine_6 ?_
  refine rb_isub hV dX10_noLine_7 ?_
  refine rb_callS hV (rest := []) dX10_noLine_8 (c_X10_in s l 0 ((s 125 0) - 1) (by unfold ab_r at *; omega) (by unfold ab_r at *; omega) (by unfold ab_r at *; omega)) lk_X10_69 rfl rfl ⟨rfl, rfl, (Nat.le_of_ble_eq_true rfl), (Nat.le_of_ble_eq_true rfl), (Nat.le_of_ble_eq_true rfl), (Nat.le_of_ble_eq_true rfl)⟩ (Nat.le_of_ble_eq_true rfl) (fun r9 h9 p9 => ?_)
  obtain ⟨rfl, rfl⟩ := p9
  show V 11 [some (.inr (some 49)), some (.inl l)] [.inl (if 0 ≤ l ∧ l ≤ ((s 125 0) - 1) then 1 else 0)] (WW s) 0 0
  by_cases e8 : 0 ≤ l ∧ l ≤ ((s 125 0) - 1)
  · rw [if_pos e8]
    show V 11 [some (.inr (some 49)), some (.inl l)] [.inl 1] (WW s) 0 0
    refine rb_if_ne hV (tgt := 18) dX10_noLine_11 (by decide) (by unfold ab_r at *; omega) (fun _ => ?_) (fun z => absurd z (by decide))
    refine rb_iconst hV dX10_noLine_18 ?_
    refine rb_ret hV (r := some (.inl 0)) dX10_noLine_19 rfl ⟨(Nat.le_of_ble_eq_true rfl), (Nat.le_of_ble_eq_true rfl)⟩ (by first | exact Or.inl rfl | exact Or.inr rfl | omega) ?_
    exact ⟨congrArg (fun z : Int => some (Sum.inl z)) (if_neg (by omega)).symm, rfl⟩
  · rw [if_neg e8]
    show V 11 [some (.inr (some 49)), some (.inl l)] [.inl 0] (WW s) 0 0
    refine rb_if_ne hV (tgt := 18) dX10_noLine_11 (by decide) (by unfold ab_r at *; omega) (fun z => absurd z (by decide)) (fun _ => ?_)
    refine rb_iconst hV dX10_noLine_14 ?_
    refine rb_goto hV (tgt := 19) dX10_noLine_15 (by decide) ?_
    refine rb_ret hV (r := some (.inl 1)) dX10_noLine_19 rfl ⟨(Nat.le_of_ble_eq_true rfl), (Nat.le_of_ble_eq_true rfl)⟩ (by first | exact Or.inl rfl | exact Or.inr rfl | omega) ?_
    exact ⟨congrArg (fun z : Int => some (Sum.inl z)) (if_pos (by omega)).symm, rfl⟩

set_option maxRecDepth 20000 in
theorem c_X10_noWord (s : Nat → Int → Int) (l : Int) (hl : ab_r l) (hn : 0 ≤ s 120 0 ∧ s 120 0 ≤ 60) : ab_Mt yX10_noWord cX10_noWord 2 (some .boolean) ({ frames := 1, cells := 0, slots := 0, locals := 22 } : Room) false 0 0 [.inr (some 49), .inl l] (WW s) (fun r h2 => r = some (.inl (if ¬ (0 ≤ l ∧ l < s 120 0) then 1 else 0)) ∧ h2 = WW s) := by
  refine ab_mk RX10 false rfl pn_X10_noWord (fun z => by cases z) (Nat.le_of_ble_eq_true rfl) (fun V hV => ?_)
  show V 0 [some (.inr (some 49)), some (.inl l)] [] (WW s) 0 0
  refine rb_iload_n hV dX10_noWord_0 rfl rfl ?_
  refine rb_iconst hV dX10_noWord_1 ?_
  refine rb_aload_n hV dX10_noWord_2 rfl rfl ?_
  refine rb_get hV (v := .inl (s 120 0)) dX10_noWord_3 ⟨RX10, TX10, 24, rfl, (Nat.le_of_ble_eq_true rfl), lf_X10_90⟩ (gw_49 _) rfl ?_
  refine rb_iconst hV dX10_noWord_6 ?_
  refine rb_isub hV dX10_noWord_7 ?_
  refine rb_callS hV (rest := []) dX10_noWord_8 (c_X10_in s l 0 ((s 120 0) - 1) (by unfold ab_r at *; omega) (by unfold ab_r at *; omega) (by unfold ab_r at *; omega)) lk_X10_69 rfl rfl ⟨rfl, rfl, (Nat.le_of_ble_eq_true rfl), (Nat.le_of_ble_eq_true rfl), (Nat.le_of_ble_eq_true rfl), (Nat.le_of_ble_eq_true rfl)⟩ (Nat.le_of_ble_eq_true rfl) (fun r9 h9 p9 => ?_)
  obtain ⟨rfl, rfl⟩ := p9
  show V 11 [some (.inr (some 49)), some (.inl l)] [.inl (if 0 ≤ l ∧ l ≤ ((s 120 0) - 1) then 1 else 0)] (WW s) 0 0
  by_cases e8 : 0 ≤ l ∧ l ≤ ((s 120 0) - 1)
  · rw [if_pos e8]
    show V 11 [some (.inr (some 49)), some (.inl l)] [.inl 1] (WW s) 0 0
    refine rb_if_ne hV (tgt := 18) dX10_noWord_11 (by decide) (by unfold ab_r at *; omega) (fun _ => ?_) (fun z => absurd z (by decide))
    refine rb_iconst hV dX10_noWord_18 ?_
    refine rb_ret hV (r := some (.inl 0)) dX10_noWord_19 rfl ⟨(Nat.le_of_ble_eq_true rfl), (Nat.le_of_ble_eq_true rfl)⟩ (by first | exact Or.inl rfl | exact Or.inr rfl | omega) ?_
    exact ⟨congrArg (fun z : Int => some (Sum.inl z)) (if_neg (by omega)).symm, rfl⟩
  · rw [if_neg e8]
    show V 11 [some (.inr (some 49)), some (.inl l)] [.inl 0] (WW s) 0 0
    refine rb_if_ne hV (tgt := 18) dX10_noWord_11 (by decide) (by unfold ab_r at *; omega) (fun z => absurd z (by decide)) (fun _ => ?_)
    refine rb_iconst hV dX10_noWord_14 ?_
    refine rb_goto hV (tgt := 19) dX10_noWord_15 (by decide) ?_
    refine rb_ret hV (r := some (.inl 1)) dX10_noWord_19 rfl ⟨(Nat.le_of_ble_eq_true rfl), (Nat.le_of_ble_eq_true rfl)⟩ (by first | exact Or.inl rfl | exact Or.inr rfl | omega) ?_
    exact ⟨congrArg (fun z : Int => some (Sum.inl z)) (if_pos (by omega)).symm, rfl⟩
