def RVX (n nl t : Int) (wd lo sl be sw : Int → Int) (am str gl : Int) (mid gn abv ln en : Int → Int) : Prop :=
  (nl = 0 ∧ am = 0 ∧ str = 0 ∧ gl = 0 ∧ ∀ v, 0 ≤ ln v ∧ ln v ≤ 60) ∨ (¬ nl = 0 ∧ (∀ v, 0 ≤ v → v < n - 1 → mid v = 2 * (be v + wd v) + sw v) ∧ LNp lo sl mid ln abv (2 * t) (n - 1) ∧ GOp lo sl mid gn (2 * t) (n - 1) ∧ GLp sl ln (n - 1) gl ∧ (∀ v, 0 ≤ ln v ∧ ln v ≤ 60) ∧ ENp sl ln gn en (n - 1) ∧ am = Sm (ei sl ln gn) 0 (n - 1) ∧ str = Sm (es sl ln gn) 0 (n - 1))

set_option maxRecDepth 20000 in
theorem c_X5_find_la (s : Nat → Int → Int) (t : Int) (hn : 0 ≤ s 103 0 ∧ s 103 0 ≤ 60) (hnl : 0 ≤ s 107 0 ∧ s 107 0 ≤ s 103 0) (hld : ¬ s 107 0 = 0 → (∀ v, 0 ≤ v → v < s 103 0 → 0 ≤ s 27 v ∧ s 27 v ≤ 59) ∧ (∀ u v, 0 ≤ u → u ≤ v → v < s 103 0 → s 27 u ≤ s 27 v) ∧ (∀ v, 0 ≤ v → v < s 103 0 → s 28 v = s 27 v ∨ s 28 v = -1) ∧ (∀ v, 0 ≤ v → v < s 103 0 → -100 ≤ s 29 v ∧ s 29 v ≤ 90000)) (hsw : ∀ v, -1000 ≤ s 30 v ∧ s 30 v ≤ 1000) (hwd : ∀ v, 0 ≤ v → v < s 103 0 → 0 ≤ s 6 v ∧ s 6 v ≤ 600) (hln : ∀ v, 0 ≤ s 32 v ∧ s 32 v ≤ 60) (ht : 0 ≤ t ∧ t ≤ 20) : ab_Mt yX5_find cX5_find 5 none ({ frames := 2, cells := 0, slots := 0, locals := 49 } : Room) false 0 0 [.inr (some 31), .inr (some 25), .inl (s 103 0), .inl t] (WW s) (fun r h2 => r = none ∧ ∃ am str gl mid gn abv ln en, h2 = WW (ab_s (ab_s (ab_s (ab_s (ab_s (ab_s (ab_s (ab_s s 109 (fun _ => am)) 110 (fun _ => str)) 111 (fun _ => gl)) 33 mid) 35 gn) 34 abv) 32 ln) 36 en) ∧ RVX (s 103 0) (s 107 0) t (s 6) (s 27) (s 28) (s 29) (s 30) am str gl mid gn abv ln en) := by
  refine ab_mk RX5 false rfl pn_X5_find (fun z => by cases z) (Nat.le_of_ble_eq_true rfl) (fun V hV => ?_)
  show V 0 [some (.inr (some 31)), some (.inr (some 25)), some (.inl (s 103 0)), some (.inl t), none] [] (WW s) 0 0
  refine rb_aload_n hV dX5_find_0 rfl rfl ?_
  refine rb_iconst hV dX5_find_1 ?_
  refine rb_put hV (C := RX5) (T := TX5) (N := 8) (ci := 5) (j := 0) dX5_find_2 rfl (Nat.le_of_ble_eq_true rfl) lf_X5_9 rfl (gw_31 _) (Nat.le_of_ble_eq_true rfl) (ft_X5_0 _) (pw_31_0 _ _) ?_
  refine rb_aload_n hV dX5_find_5 rfl rfl ?_
  refine rb_iconst hV dX5_find_6 ?_
  refine rb_put hV (C := RX5) (T := TX5) (N := 8) (ci := 5) (j := 1) dX5_find_7 rfl (Nat.le_of_ble_eq_true rfl) lf_X5_15 rfl (gw_31 _) (Nat.le_of_ble_eq_true rfl) (ft_X5_1 _) (pw_31_1 _ _) ?_
  refine rb_aload_n hV dX5_find_10 rfl rfl ?_
  refine rb_iconst hV dX5_find_11 ?_
  refine rb_put hV (C := RX5) (T := TX5) (N := 8) (ci := 5) (j := 2) dX5_find_12 rfl (Nat.le_of_ble_eq_true rfl) lf_X5_18 rfl (gw_31 _) (Nat.le_of_ble_eq_true rfl) (ft_X5_2 _) (pw_31_2 _ _) ?_
  refine rb_aload_n hV dX5_find_15 rfl rfl ?_
  refine rb_get hV (v := .inl (s 107 0)) dX5_find_16 ⟨RX1, TX1, 12, rfl, (Nat.le_of_ble_eq_true rfl), lf_X5_42⟩ (gw_25 _) rfl ?_
  refine rb_if_ne hV (tgt := 23) dX5_find_19 (by decide) (by first | assumption | (unfold ab_r at *; omega)) (fun c19 => ?_) (fun c19 => ?_)
  · obtain ⟨hlo, hmo, hsl, hbe⟩ := hld c19
    refine rb_iconst hV dX5_find_23 ?_
    refine rb_istore hV (L2 := [some (.inr (some 31)), some (.inr (some 25)), some (.inl (s 103 0)), some (.inl t), some (.inl 0)]) dX5_find_24 (Nat.le_of_ble_eq_true rfl) rfl ?_
    refine rb_heq (b := (ab_s (ab_s (ab_s (ab_s (ab_s (ab_s (ab_s s 109 (fun _ => 0)) 110 (fun _ => 0)) 111 (fun _ => 0)) 33 (s 33)) 35 (s 35)) 34 (s 34)) 32 (s 32))) ((ab_s_id rfl).trans ((ab_s_id rfl).trans ((ab_s_id rfl).trans (ab_s_id rfl)))).symm ?_
    have h26 : ∀ (n26 : Nat) (w : Int) (gl : Int) (mid : Int → Int) (gn : Int → Int) (abv : Int → Int) (ln : Int → Int), (0 ≤ w ∧ w ≤ s 103 0 - 1) → (∀ v, 0 ≤ v → v < w → mid v = 2 * (s 29 v + s 6 v) + s 30 v) → (LNp (s 27) (s 28) mid ln abv (2 * t) w) → (GOp (s 27) (s 28) mid gn (2 * t) w) → (GLp (s 28) ln w gl) → (∀ v, 0 ≤ ln v ∧ ln v ≤ 60) → ((s 103 0 - 1 - w).toNat) < n26 → V 26 [some (.inr (some 31)), some (.inr (some 25)), some (.inl (s 103 0)), some (.inl t), some (.inl w)] [] (WW (ab_s (ab_s (ab_s (ab_s (ab_s (ab_s (ab_s s 109 (fun _ => 0)) 110 (fun _ => 0)) 111 (fun _ => gl)) 33 mid) 35 gn) 34 abv) 32 ln)) 0 0 := by
      intro n26
      induction n26 with
      | zero => intro w gl mid gn abv ln h1 h2 h3 h4 h5 h6 hm; omega
      | succ n26 ih26 =>
        intro w gl mid gn abv ln h1 h2 h3 h4 h5 h6 hm
        refine rb_iload hV dX5_find_26 rfl ?_
        refine rb_iload_n hV dX5_find_28 rfl rfl ?_
        refine rb_iconst hV dX5_find_29 ?_
        refine rb_isub hV dX5_find_30 ?_
        refine rb_icmp_ge hV (tgt := 155) dX5_find_31 (by decide) ⟨(by first | assumption | (unfold ab_r at *; omega)), (by first | assumption | (unfold ab_r at *; omega))⟩ (fun c31 => ?_) (fun c31 => ?_)
        · have e9 : w = s 103 0 - 1 := by omega
          refine rb_aload_n hV dX5_find_155 rfl rfl ?_
          refine rb_aload_n hV dX5_find_156 rfl rfl ?_
          refine rb_iload_n hV dX5_find_157 rfl rfl ?_
          refine rb_callV hV (rest := []) dX5_find_158 (c_X5_collectEnds_la (ab_s (ab_s (ab_s (ab_s (ab_s (ab_s (ab_s s 109 (fun _ => 0)) 110 (fun _ => 0)) 111 (fun _ => gl)) 33 mid) 35 gn) 34 abv) 32 ln) (s 103 0) (show 1 ≤ s 103 0 ∧ s 103 0 ≤ 60 by omega) (fun v _ => h6 v) (fun v q1 q2 => (h4 v q1 (show v < w by rw [e9]; exact q2)).1) (fun v q1 q2 => by have := hlo v q1 (by omega); show -1 ≤ s 28 v ∧ s 28 v ≤ 60; rcases hsl v q1 (by omega) with z | z <;> omega) ⟨rfl, rfl⟩) lk_X5_67 rfl (Or.inl ⟨5, _, TX5, 8, gw_31 _, rfl⟩) rfl ⟨rfl, rfl, (Nat.le_of_ble_eq_true rfl), (Nat.le_of_ble_eq_true rfl), (Nat.le_of_ble_eq_true rfl), (Nat.le_of_ble_eq_true rfl)⟩ (Nat.le_of_ble_eq_true rfl) (fun r9 h9 p9 => ?_)
          obtain ⟨rfl, en, rfl, hen⟩ := p9
          refine rb_heq (b := (ab_s (ab_s (ab_s (ab_s (ab_s (ab_s (ab_s (ab_s s 109 (fun _ => Sm (ei (s 28) (ln) (gn)) 0 ((s 103 0) - 1))) 110 (fun _ => Sm (es (s 28) (ln) (gn)) 0 ((s 103 0) - 1))) 111 (fun _ => gl)) 33 mid) 35 gn) 34 abv) 32 ln) 36 en)) ((congrArg (fun x => ab_s x 110 _) ((ab_s_sw (by decide)).trans (congrArg (fun x => ab_s x 36 _) ((ab_s_sw (by decide)).trans (congrArg (fun x => ab_s x 32 _) ((ab_s_sw (by decide)).trans (congrArg (fun x => ab_s x 34 _) ((ab_s_sw (by decide)).trans (congrArg (fun x => ab_s x 35 _) ((ab_s_sw (by decide)).trans (congrArg (fun x => ab_s x 33 _) ((ab_s_sw (by decide)).trans (congrArg (fun x => ab_s x 111 _) ((ab_s_sw (by decide)).trans (congrArg (fun x => ab_s x 110 _) (ab_s_same _ 109 _ _)))))))))))))))).trans ((ab_s_sw (by decide)).trans (congrArg (fun x => ab_s x 36 _) ((ab_s_sw (by decide)).trans (congrArg (fun x => ab_s x 32 _) ((ab_s_sw (by decide)).trans (congrArg (fun x => ab_s x 34 _) ((ab_s_sw (by decide)).trans (congrArg (fun x => ab_s x 35 _) ((ab_s_sw (by decide)).trans (congrArg (fun x => ab_s x 33 _) ((ab_s_sw (by decide)).trans (congrArg (fun x => ab_s x 111 _) (ab_s_same _ 110 _ _)))))))))))))) ?_
          show V 161 [some (.inr (some 31)), some (.inr (some 25)), some (.inl (s 103 0)), some (.inl t), some (.inl w)] [] (WW (ab_s (ab_s (ab_s (ab_s (ab_s (ab_s (ab_s (ab_s s 109 (fun _ => Sm (ei (s 28) (ln) (gn)) 0 ((s 103 0) - 1))) 110 (fun _ => Sm (es (s 28) (ln) (gn)) 0 ((s 103 0) - 1))) 111 (fun _ => gl)) 33 mid) 35 gn) 34 abv) 32 ln) 36 en)) 0 0
          refine rb_ret hV (r := none) dX5_find_161 rfl ⟨(Nat.le_of_ble_eq_true rfl), (Nat.le_of_ble_eq_true rfl)⟩ trivial ?_
          have e : w = s 103 0 - 1 := by omega
          subst e
          exact ⟨rfl, _, _, _, _, _, _, _, _, rfl, Or.inr ⟨c19, h2, h3, h4, h5, h6, hen, rfl, rfl⟩⟩
        · have hw1 := hlo w (by omega) (by omega)
          have hw2 := hsl w (by omega) (by omega)
          have hrng := LNp_rng h3 (fun v q1 q2 => (hlo v q1 (by omega)).1)
          refine rb_aload_n hV dX5_find_34 rfl rfl ?_
          refine rb_get hV (v := .inr (some 33)) dX5_find_35 ⟨RX5, TX5, 8, rfl, (Nat.le_of_ble_eq_true rfl), lf_X5_25⟩ (gw_31 _) rfl ?_
          refine rb_iload hV dX5_find_38 rfl ?_
          refine rb_iconst hV dX5_find_40 ?_
          refine rb_aload_n hV dX5_find_41 rfl rfl ?_
          refine rb_iload hV dX5_find_42 rfl ?_
          refine rb_callV hV (rest := [.inl 2, .inl w, .inr (some 33)]) dX5_find_44 (c_X1_endOf_la (ab_s (ab_s (ab_s (ab_s (ab_s (ab_s (ab_s s 109 (fun _ => 0)) 110 (fun _ => 0)) 111 (fun _ => gl)) 33 mid) 35 gn) 34 abv) 32 ln) w (by omega)) lk_X5_47 rfl (Or.inl ⟨1, _, TX1, 12, gw_25 _, rfl⟩) rfl ⟨rfl, rfl, (Nat.le_of_ble_eq_true rfl), (Nat.le_of_ble_eq_true rfl), (Nat.le_of_ble_eq_true rfl), (Nat.le_of_ble_eq_true rfl)⟩ (Nat.le_of_ble_eq_true rfl) (fun r9 h9 p9 => ?_)
          obtain ⟨rfl, rfl⟩ := p9
          show V 47 [some (.inr (some 31)), some (.inr (some 25)), some (.inl (s 103 0)), some (.inl t), some (.inl w)] [.inl ((s 29 w) + (s 6 w)), .inl 2, .inl w, .inr (some 33)] (WW (ab_s (ab_s (ab_s (ab_s (ab_s (ab_s (ab_s s 109 (fun _ => 0)) 110 (fun _ => 0)) 111 (fun _ => gl)) 33 mid) 35 gn) 34 abv) 32 ln)) 0 0
          refine rb_imul hV dX5_find_47 ?_
          refine rb_aload_n hV dX5_find_48 rfl rfl ?_
          refine rb_get hV (v := .inr (some 30)) dX5_find_49 ⟨RX1, TX1, 12, rfl, (Nat.le_of_ble_eq_true rfl), lf_X5_51⟩ (gw_25 _) rfl ?_
          refine rb_iload hV dX5_find_52 rfl ?_
          refine rb_iald hV (f := (s 30)) dX5_find_54 (gw_30 _) (Nat.le_of_ble_eq_true rfl) (by omega) ?_
          refine rb_iadd hV dX5_find_55 ?_
          refine rb_iast hV (f := (mid)) dX5_find_56 (gw_33 _) (Nat.le_of_ble_eq_true rfl) (by omega) rfl ((pw_33 _ _).trans (congrArg WW ((ab_s_sw (by decide)).trans (congrArg (fun x => ab_s x 32 _) ((ab_s_sw (by decide)).trans (congrArg (fun x => ab_s x 34 _) ((ab_s_sw (by decide)).trans (congrArg (fun x => ab_s x 35 _) (ab_s_same _ 33 _ _))))))))) ?_
          refine rb_aload_n hV dX5_find_57 rfl rfl ?_
          refine rb_get hV (v := .inr (some 35)) dX5_find_58 ⟨RX5, TX5, 8, rfl, (Nat.le_of_ble_eq_true rfl), lf_X5_31⟩ (gw_31 _) rfl ?_
          refine rb_iload hV dX5_find_61 rfl ?_
          refine rb_iconst hV dX5_find_63 ?_
          refine rb_zast hV (f := (gn)) dX5_find_64 (gw_35 _) (Nat.le_of_ble_eq_true rfl) (by omega) (by omega) rfl ((pw_35 _ _).trans (congrArg WW ((ab_s_sw (by decide)).trans (congrArg (fun x => ab_s x 32 _) ((ab_s_sw (by decide)).trans (congrArg (fun x => ab_s x 34 _) (ab_s_same _ 35 _ _))))))) ?_
          refine rb_aload_n hV dX5_find_65 rfl rfl ?_
          refine rb_get hV (v := .inr (some 28)) dX5_find_66 ⟨RX1, TX1, 12, rfl, (Nat.le_of_ble_eq_true rfl), lf_X5_54⟩ (gw_25 _) rfl ?_
          refine rb_iload hV dX5_find_69 rfl ?_
          refine rb_iald hV (f := (s 28)) dX5_find_71 (gw_28 _) (Nat.le_of_ble_eq_true rfl) (by omega) ?_
          refine rb_iconst hV dX5_find_72 ?_
          refine rb_icmp_eq hV (tgt := 149) dX5_find_73 (by decide) ⟨(by first | assumption | (unfold ab_r at *; omega)), (by first | assumption | (unfold ab_r at *; omega))⟩ (fun c73 => ?_) (fun c73 => ?_)
          · refine rb_iinc hV (L2 := [some (.inr (some 31)), some (.inr (some 25)), some (.inl (s 103 0)), some (.inl t), some (.inl (w + 1))]) dX5_find_149 rfl rfl rfl ?_
            refine rb_goto hV (tgt := 26) dX5_find_152 (by decide) ?_
            refine ih26 (w + 1) gl (ab_u (mid) w ((2 * ((s 29 w) + (s 6 w))) + (s 30 w))) (ab_u (gn) w 0) (abv) (ln) ?_ ?_ ?_ ?_ ?_ ?_ ?_
            · omega
            · intro v q1 q2
              by_cases e : v = w
              · rw [e, ab_u_eq]
              · rw [ab_u_ne e]
                exact h2 v q1 (by omega)
            · exact LNp_step h1.1 h3 (fun j _ q => ab_u_ne (by omega)) (fun j _ _ => rfl) (fun j _ _ => rfl) (fun z => absurd c73 z)
            · exact GOp_step h1.1 h4 (fun j _ q => ab_u_ne (by omega)) (ab_u_eq _ _ _) (fun v _ _ z => absurd c73 z.1) (fun v _ q _ => ab_u_ne (by omega))
            · exact GLp_skip h5 (fun j _ _ => rfl) c73
            · exact h6
            · omega
          · have hmm : ∀ v, 0 ≤ v → v ≤ w → -200000 ≤ ab_u mid w (2 * (s 29 w + s 6 w) + s 30 w) v ∧ ab_u mid w (2 * (s 29 w + s 6 w) + s 30 w) v ≤ 200000 := fun v q1 q2 => by
              have b1 := hbe v q1 (by omega)
              have b2 := hsw v
              have b3 := hwd v q1 (by omega)
              by_cases e : v = w
              · rw [e] at b1 b2 b3 ⊢
                rw [ab_u_eq]
                omega
              · rw [ab_u_ne e, h2 v q1 (by omega)]
                omega
            refine rb_aload_n hV dX5_find_76 rfl rfl ?_
            refine rb_get hV (v := .inr (some 34)) dX5_find_77 ⟨RX5, TX5, 8, rfl, (Nat.le_of_ble_eq_true rfl), lf_X5_28⟩ (gw_31 _) rfl ?_
            refine rb_iload hV dX5_find_80 rfl ?_
            refine rb_aload_n hV dX5_find_82 rfl rfl ?_
            refine rb_aload_n hV dX5_find_83 rfl rfl ?_
            refine rb_iload hV dX5_find_84 rfl ?_
            refine rb_iconst hV dX5_find_86 ?_
            refine rb_iload_n hV dX5_find_87 rfl rfl ?_
            refine rb_imul hV dX5_find_88 ?_
            refine rb_callV hV (rest := [.inl w, .inr (some 34)]) dX5_find_89 (c_X5_spaceAbove_la (ab_s (ab_s (ab_s (ab_s (ab_s (ab_s (ab_s s 109 (fun _ => 0)) 110 (fun _ => 0)) 111 (fun _ => gl)) 33 (ab_u (mid) w ((2 * ((s 29 w) + (s 6 w))) + (s 30 w)))) 35 (ab_u (gn) w 0)) 34 abv) 32 ln) w (2 * t) (by omega) (fun v q1 q2 => by have := hlo v q1 (by omega); exact ⟨this.1, by show s 27 v ≤ 60; omega⟩) (fun u v q1 q2 q3 => hmo u v q1 q2 (by omega)) (fun v q1 q2 => hsl v q1 (by omega)) hmm h6 (by omega)) lk_X5_57 rfl (Or.inl ⟨5, _, TX5, 8, gw_31 _, rfl⟩) rfl ⟨rfl, rfl, (Nat.le_of_ble_eq_true rfl), (Nat.le_of_ble_eq_true rfl), (Nat.le_of_ble_eq_true rfl), (Nat.le_of_ble_eq_true rfl)⟩ (Nat.le_of_ble_eq_true rfl) (fun r9 h9 p9 => ?_)
            obtain ⟨a1, g1, rfl, rfl, hAB, hg1, hg2⟩ := p9
            show V 92 [some (.inr (some 31)), some (.inr (some 25)), some (.inl (s 103 0)), some (.inl t), some (.inl w)] [.inl a1, .inl w, .inr (some 34)] (WW (ab_s (ab_s (ab_s (ab_s (ab_s (ab_s (ab_s s 109 (fun _ => 0)) 110 (fun _ => 0)) 111 (fun _ => gl)) 33 (ab_u (mid) w ((2 * ((s 29 w) + (s 6 w))) + (s 30 w)))) 35 g1) 34 abv) 32 ln)) 0 0
            refine rb_iast hV (f := (abv)) dX5_find_92 (gw_34 _) (Nat.le_of_ble_eq_true rfl) (by omega) rfl ((pw_34 _ _).trans (congrArg WW ((ab_s_sw (by decide)).trans (congrArg (fun x => ab_s x 32 _) (ab_s_same _ 34 _ _))))) ?_
            have ea : ab_u abv w a1 w = a1 := ab_u_eq _ _ _
            have ea2 : ln (ab_u abv w a1 w) = ln a1 := by rw [ea]
            have hlt : a1 = -1 ∨ (0 ≤ a1 ∧ a1 < w ∧ s 27 a1 = s 27 w - 1 ∧ ¬ s 28 a1 = -1) := AB_lt hAB
            have hra := hrng a1
            have h61 := h6 a1
            have hgl := GLp_b h5 (by omega) h6
            refine rb_aload_n hV dX5_find_93 rfl rfl ?_
            refine rb_get hV (v := .inr (some 32)) dX5_find_94 ⟨RX5, TX5, 8, rfl, (Nat.le_of_ble_eq_true rfl), lf_X5_21⟩ (gw_31 _) rfl ?_
            refine rb_iload hV dX5_find_97 rfl ?_
            refine rb_aload_n hV dX5_find_99 rfl rfl ?_
            refine rb_get hV (v := .inr (some 34)) dX5_find_100 ⟨RX5, TX5, 8, rfl, (Nat.le_of_ble_eq_true rfl), lf_X5_28⟩ (gw_31 _) rfl ?_
            refine rb_iload hV dX5_find_103 rfl ?_
            refine rb_iald hV (f := (ab_u (abv) w a1)) dX5_find_105 (gw_34 _) (Nat.le_of_ble_eq_true rfl) (by omega) ?_
            refine rb_iconst hV dX5_find_106 ?_
            refine rb_icmp_ne hV (tgt := 114) dX5_find_107 (by decide) ⟨(by first | assumption | (unfold ab_r at *; omega)), (by first | assumption | (unfold ab_r at *; omega))⟩ (fun c107 => ?_) (fun c107 => ?_)
            · refine rb_aload_n hV dX5_find_114 rfl rfl ?_
              refine rb_get hV (v := .inr (some 32)) dX5_find_115 ⟨RX5, TX5, 8, rfl, (Nat.le_of_ble_eq_true rfl), lf_X5_21⟩ (gw_31 _) rfl ?_
              refine rb_aload_n hV dX5_find_118 rfl rfl ?_
              refine rb_get hV (v := .inr (some 34)) dX5_find_119 ⟨RX5, TX5, 8, rfl, (Nat.le_of_ble_eq_true rfl), lf_X5_28⟩ (gw_31 _) rfl ?_
              refine rb_iload hV dX5_find_122 rfl ?_
              refine rb_iald hV (f := (ab_u (abv) w a1)) dX5_find_124 (gw_34 _) (Nat.le_of_ble_eq_true rfl) (by omega) ?_
              refine rb_callS hV (rest := [.inl w, .inr (some 32)]) dX5_find_125 (c_X9_at (ab_s (ab_s (ab_s (ab_s (ab_s (ab_s (ab_s s 109 (fun _ => 0)) 110 (fun _ => 0)) 111 (fun _ => gl)) 33 (ab_u (mid) w ((2 * ((s 29 w) + (s 6 w))) + (s 30 w)))) 35 g1) 34 (ab_u (abv) w a1)) 32 ln) 32 _ (ln) ((ab_u (abv) w a1) w) (gw_32 _) (Nat.le_of_ble_eq_true rfl) (by omega)) lk_X5_38 rfl rfl ⟨rfl, rfl, (Nat.le_of_ble_eq_true rfl), (Nat.le_of_ble_eq_true rfl), (Nat.le_of_ble_eq_true rfl), (Nat.le_of_ble_eq_true rfl)⟩ (Nat.le_of_ble_eq_true rfl) (fun r9 h9 p9 => ?_)
              obtain ⟨rfl, rfl⟩ := p9
              show V 128 [some (.inr (some 31)), some (.inr (some 25)), some (.inl (s 103 0)), some (.inl t), some (.inl w)] [.inl ((ln) ((ab_u (abv) w a1) w)), .inl w, .inr (some 32)] (WW (ab_s (ab_s (ab_s (ab_s (ab_s (ab_s (ab_s s 109 (fun _ => 0)) 110 (fun _ => 0)) 111 (fun _ => gl)) 33 (ab_u (mid) w ((2 * ((s 29 w) + (s 6 w))) + (s 30 w)))) 35 g1) 34 (ab_u (abv) w a1)) 32 ln)) 0 0
              refine rb_iconst hV dX5_find_128 ?_
              refine rb_iadd hV dX5_find_129 ?_
              refine rb_iast hV (f := (ln)) dX5_find_130 (gw_32 _) (Nat.le_of_ble_eq_true rfl) (by omega) rfl ((pw_32 _ _).trans (congrArg WW (ab_s_same _ 32 _ _))) ?_
              have eln := h6 w
              have ev1 : ∀ q, ab_u ln w q w = q := fun q => ab_u_eq _ _ _
              refine rb_aload_n hV dX5_find_131 rfl rfl ?_
              refine rb_aload_n hV dX5_find_132 rfl rfl ?_
              refine rb_get hV (v := .inl gl) dX5_find_133 ⟨RX5, TX5, 8, rfl, (Nat.le_of_ble_eq_true rfl), lf_X5_18⟩ (gw_31 _) rfl ?_
              refine rb_aload_n hV dX5_find_136 rfl rfl ?_
              refine rb_get hV (v := .inr (some 32)) dX5_find_137 ⟨RX5, TX5, 8, rfl, (Nat.le_of_ble_eq_true rfl), lf_X5_21⟩ (gw_31 _) rfl ?_
              refine rb_iload hV dX5_find_140 rfl ?_
              refine rb_iald hV (f := (ab_u (ln) w (((ln) ((ab_u (abv) w a1) w)) + 1))) dX5_find_142 (gw_32 _) (Nat.le_of_ble_eq_true rfl) (by omega) ?_
              refine rb_mmax hV dX5_find_143 lk_X5_61 ⟨(by unfold ab_r; omega), (by rw [ev1]; unfold ab_r; omega)⟩ (Nat.le_of_ble_eq_true rfl) (Nat.le_of_ble_eq_true rfl) ⟨(Nat.le_of_ble_eq_true rfl), (Nat.le_of_ble_eq_true rfl)⟩ ?_
              refine rb_put hV (C := RX5) (T := TX5) (N := 8) (ci := 5) (j := 2) dX5_find_146 rfl (Nat.le_of_ble_eq_true rfl) lf_X5_18 rfl (gw_31 _) (Nat.le_of_ble_eq_true rfl) (ft_X5_2 _) ((pw_31_2 _ _).trans (congrArg WW ((ab_s_sw (by decide)).trans (congrArg (fun x => ab_s x 32 _) ((ab_s_sw (by decide)).trans (congrArg (fun x => ab_s x 34 _) ((ab_s_sw (by decide)).trans (congrArg (fun x => ab_s x 35 _) ((ab_s_sw (by decide)).trans (congrArg (fun x => ab_s x 33 _) (ab_s_same _ 111 _ _))))))))))) ?_
              refine rb_iinc hV (L2 := [some (.inr (some 31)), some (.inr (some 25)), some (.inl (s 103 0)), some (.inl t), some (.inl (w + 1))]) dX5_find_149 rfl rfl rfl ?_
              refine rb_goto hV (tgt := 26) dX5_find_152 (by decide) ?_
              refine ih26 (w + 1) (max gl ((ab_u (ln) w (((ln) ((ab_u (abv) w a1) w)) + 1)) w)) (ab_u (mid) w ((2 * ((s 29 w) + (s 6 w))) + (s 30 w))) (g1) (ab_u (abv) w a1) (ab_u (ln) w (((ln) ((ab_u (abv) w a1) w)) + 1)) ?_ ?_ ?_ ?_ ?_ ?_ ?_
              · omega
              · intro v q1 q2
                by_cases e : v = w
                · rw [e, ab_u_eq]
                · rw [ab_u_ne e]
                  exact h2 v q1 (by omega)
              · exact LNp_step h1.1 h3 (fun j _ q => ab_u_ne (by omega)) (fun j _ q => ab_u_ne (by omega)) (fun j _ q => ab_u_ne (by omega)) (fun z => by
                  rw [ab_u_eq, ab_u_eq]
                  refine ⟨AB_congr h1.1 (fun j _ _ => ⟨rfl, Iff.rfl, fun _ => rfl⟩) (fun j _ q _ => (ab_u_ne (by omega)).symm) c73 hAB, ?_⟩
                  rw [if_neg (by omega), ab_u_ne (by omega)]
                  try rfl)
              · exact GOp_step h1.1 h4 (fun j _ q => ab_u_ne (by omega)) ((hg2 w (fun z => by have := z.2.1; omega)).trans (ab_u_eq _ _ _)) (fun v _ _ z => hg1 v z.2) (fun v _ q z => (hg2 v (fun q2 => z ⟨c73, q2⟩)).trans (ab_u_ne (by omega)))
              · exact GLp_take h1.1 h5 (fun j _ q => ab_u_ne (by omega)) c73
              · intro v
                by_cases e : v = w
                · rw [e, ab_u_eq]
                  omega
                · rw [ab_u_ne e]
                  exact h6 v
              · omega
            · refine rb_iconst hV dX5_find_110 ?_
              refine rb_goto hV (tgt := 130) dX5_find_111 (by decide) ?_
              refine rb_iast hV (f := (ln)) dX5_find_130 (gw_32 _) (Nat.le_of_ble_eq_true rfl) (by omega) rfl ((pw_32 _ _).trans (congrArg WW (ab_s_same _ 32 _ _))) ?_
              have eln := h6 w
              have ev1 : ∀ q, ab_u ln w q w = q := fun q => ab_u_eq _ _ _
              refine rb_aload_n hV dX5_find_131 rfl rfl ?_
              refine rb_aload_n hV dX5_find_132 rfl rfl ?_
              refine rb_get hV (v := .inl gl) dX5_find_133 ⟨RX5, TX5, 8, rfl, (Nat.le_of_ble_eq_true rfl), lf_X5_18⟩ (gw_31 _) rfl ?_
              refine rb_aload_n hV dX5_find_136 rfl rfl ?_
              refine rb_get hV (v := .inr (some 32)) dX5_find_137 ⟨RX5, TX5, 8, rfl, (Nat.le_of_ble_eq_true rfl), lf_X5_21⟩ (gw_31 _) rfl ?_
              refine rb_iload hV dX5_find_140 rfl ?_
              refine rb_iald hV (f := (ab_u (ln) w 1)) dX5_find_142 (gw_32 _) (Nat.le_of_ble_eq_true rfl) (by omega) ?_
              refine rb_mmax hV dX5_find_143 lk_X5_61 ⟨(by unfold ab_r; omega), (by rw [ev1]; unfold ab_r; omega)⟩ (Nat.le_of_ble_eq_true rfl) (Nat.le_of_ble_eq_true rfl) ⟨(Nat.le_of_ble_eq_true rfl), (Nat.le_of_ble_eq_true rfl)⟩ ?_
              refine rb_put hV (C := RX5) (T := TX5) (N := 8) (ci := 5) (j := 2) dX5_find_146 rfl (Nat.le_of_ble_eq_true rfl) lf_X5_18 rfl (gw_31 _) (Nat.le_of_ble_eq_true rfl) (ft_X5_2 _) ((pw_31_2 _ _).trans (congrArg WW ((ab_s_sw (by decide)).trans (congrArg (fun x => ab_s x 32 _) ((ab_s_sw (by decide)).trans (congrArg (fun x => ab_s x 34 _) ((ab_s_sw (by decide)).trans (congrArg (fun x => ab_s x 35 _) ((ab_s_sw (by decide)).trans (congrArg (fun x => ab_s x 33 _) (ab_s_same _ 111 _ _))))))))))) ?_
              refine rb_iinc hV (L2 := [some (.inr (some 31)), some (.inr (some 25)), some (.inl (s 103 0)), some (.inl t), some (.inl (w + 1))]) dX5_find_149 rfl rfl rfl ?_
              refine rb_goto hV (tgt := 26) dX5_find_152 (by decide) ?_
              refine ih26 (w + 1) (max gl ((ab_u (ln) w 1) w)) (ab_u (mid) w ((2 * ((s 29 w) + (s 6 w))) + (s 30 w))) (g1) (ab_u (abv) w a1) (ab_u (ln) w 1) ?_ ?_ ?_ ?_ ?_ ?_ ?_
              · omega
              · intro v q1 q2
                by_cases e : v = w
                · rw [e, ab_u_eq]
                · rw [ab_u_ne e]
                  exact h2 v q1 (by omega)
              · exact LNp_step h1.1 h3 (fun j _ q => ab_u_ne (by omega)) (fun j _ q => ab_u_ne (by omega)) (fun j _ q => ab_u_ne (by omega)) (fun z => by
                  rw [ab_u_eq, ab_u_eq]
                  refine ⟨AB_congr h1.1 (fun j _ _ => ⟨rfl, Iff.rfl, fun _ => rfl⟩) (fun j _ q _ => (ab_u_ne (by omega)).symm) c73 hAB, ?_⟩
                  rw [if_pos (by omega)])
              · exact GOp_step h1.1 h4 (fun j _ q => ab_u_ne (by omega)) ((hg2 w (fun z => by have := z.2.1; omega)).trans (ab_u_eq _ _ _)) (fun v _ _ z => hg1 v z.2) (fun v _ q z => (hg2 v (fun q2 => z ⟨c73, q2⟩)).trans (ab_u_ne (by omega)))
              · exact GLp_take h1.1 h5 (fun j _ q => ab_u_ne (by omega)) c73
              · intro v
                by_cases e : v = w
                · rw [e, ab_u_eq]
                  omega
                · rw [ab_u_ne e]
                  exact h6 v
              · omega
    refine h26 _ 0 0 (s 33) (s 35) (s 34) (s 32) ?_ ?_ ?_ ?_ ?_ ?_ (Nat.lt_succ_self _)
    · omega
    · intro v q1 q2; omega
    · intro v q1 q2; omega
    · intro v q1 q2; omega
    · exact ⟨Int.le_refl 0, fun v q1 q2 => by omega, Or.inl rfl⟩
    · exact hln
  · refine rb_heq (b := (ab_s (ab_s (ab_s (ab_s (ab_s (ab_s (ab_s (ab_s s 109 (fun _ => 0)) 110 (fun _ => 0)) 111 (fun _ => 0)) 33 (s 33)) 35 (s 35)) 34 (s 34)) 32 (s 32)) 36 (s 36))) ((ab_s_id rfl).trans ((ab_s_id rfl).trans ((ab_s_id rfl).trans ((ab_s_id rfl).trans (ab_s_id rfl))))).symm ?_
    refine rb_ret hV (r := none) dX5_find_22 rfl ⟨(Nat.le_of_ble_eq_true rfl), (Nat.le_of_ble_eq_true rfl)⟩ trivial ?_
    exact ⟨rfl, _, _, _, _, _, _, _, _, rfl, Or.inl ⟨c19, rfl, rfl, rfl, hln⟩⟩

set_option maxRecDepth 20000 in
theorem c_X5_find_tr (s : Nat → Int → Int) (t : Int) (hn : 0 ≤ s 103 0 ∧ s 103 0 ≤ 60) (hnl : 0 ≤ s 112 0 ∧ s 112 0 ≤ s 103 0) (hld : ¬ s 112 0 = 0 → (∀ v, 0 ≤ v → v < s 103 0 → 0 ≤ s 39 v ∧ s 39 v ≤ 59) ∧ (∀ u v, 0 ≤ u → u ≤ v → v < s 103 0 → s 39 u ≤ s 39 v) ∧ (∀ v, 0 ≤ v → v < s 103 0 → s 40 v = s 39 v ∨ s 40 v = -1) ∧ (∀ v, 0 ≤ v → v < s 103 0 → -100 ≤ s 41 v ∧ s 41 v ≤ 90000)) (hsw : ∀ v, -1000 ≤ s 42 v ∧ s 42 v ≤ 1000) (hwd : ∀ v, 0 ≤ v → v < s 103 0 → 0 ≤ s 6 v ∧ s 6 v ≤ 600) (hln : ∀ v, 0 ≤ s 44 v ∧ s 44 v ≤ 60) (ht : 0 ≤ t ∧ t ≤ 20) : ab_Mt yX5_find cX5_find 5 none ({ frames := 2, cells := 0, slots := 0, locals := 49 } : Room) false 0 0 [.inr (some 43), .inr (some 37), .inl (s 103 0), .inl t] (WW s) (fun r h2 => r = none ∧ ∃ am str gl mid gn abv ln en, h2 = WW (ab_s (ab_s (ab_s (ab_s (ab_s (ab_s (ab_s (ab_s s 114 (fun _ => am)) 115 (fun _ => str)) 116 (fun _ => gl)) 45 mid) 47 gn) 46 abv) 44 ln) 48 en) ∧ RVX (s 103 0) (s 112 0) t (s 6) (s 39) (s 40) (s 41) (s 42) am str gl mid gn abv ln en) := by
  refine ab_mk RX5 false rfl pn_X5_find (fun z => by cases z) (Nat.le_of_ble_eq_true rfl) (fun V hV => ?_)
  show V 0 [some (.inr (some 43)), some (.inr (some 37)), some (.inl (s 103 0)), some (.inl t), none] [] (WW s) 0 0
  refine rb_aload_n hV dX5_find_0 rfl rfl ?_
  refine rb_iconst hV dX5_find_1 ?_
  refine rb_put hV (C := RX5) (T := TX5) (N := 8) (ci := 5) (j := 0) dX5_find_2 rfl (Nat.le_of_ble_eq_true rfl) lf_X5_9 rfl (gw_43 _) (Nat.le_of_ble_eq_true rfl) (ft_X5_0 _) (pw_43_0 _ _) ?_
  refine rb_aload_n hV dX5_find_5 rfl rfl ?_
  refine rb_iconst hV dX5_find_6 ?_
  refine rb_put hV (C := RX5) (T := TX5) (N := 8) (ci := 5) (j := 1) dX5_find_7 rfl (Nat.le_of_ble_eq_true rfl) lf_X5_15 rfl (gw_43 _) (Nat.le_of_ble_eq_true rfl) (ft_X5_1 _) (pw_43_1 _ _) ?_
  refine rb_aload_n hV dX5_find_10 rfl rfl ?_
  refine rb_iconst hV dX5_find_11 ?_
  refine rb_put hV (C := RX5) (T := TX5) (N := 8) (ci := 5) (j := 2) dX5_find_12 rfl (Nat.le_of_ble_eq_true rfl) lf_X5_18 rfl (gw_43 _) (Nat.le_of_ble_eq_true rfl) (ft_X5_2 _) (pw_43_2 _ _) ?_
  refine rb_aload_n hV dX5_find_15 rfl rfl ?_
  refine rb_get hV (v := .inl (s 112 0)) dX5_find_16 ⟨RX1, TX1, 12, rfl, (Nat.le_of_ble_eq_true rfl), lf_X5_42⟩ (gw_37 _) rfl ?_
  refine rb_if_ne hV (tgt := 23) dX5_find_19 (by decide) (by first | assumption | (unfold ab_r at *; omega)) (fun c19 => ?_) (fun c19 => ?_)
  · obtain ⟨hlo, hmo, hsl, hbe⟩ := hld c19
    refine rb_iconst hV dX5_find_23 ?_
    refine rb_istore hV (L2 := [some (.inr (some 43)), some (.inr (some 37)), some (.inl (s 103 0)), some (.inl t), some (.inl 0)]) dX5_find_24 (Nat.le_of_ble_eq_true rfl) rfl ?_
    refine rb_heq (b := (ab_s (ab_s (ab_s (ab_s (ab_s (ab_s (ab_s s 114 (fun _ => 0)) 115 (fun _ => 0)) 116 (fun _ => 0)) 45 (s 45)) 47 (s 47)) 46 (s 46)) 44 (s 44))) ((ab_s_id rfl).trans ((ab_s_id rfl).trans ((ab_s_id rfl).trans (ab_s_id rfl)))).symm ?_
    have h26 : ∀ (n26 : Nat) (w : Int) (gl : Int) (mid : Int → Int) (gn : Int → Int) (abv : Int → Int) (ln : Int → Int), (0 ≤ w ∧ w ≤ s 103 0 - 1) → (∀ v, 0 ≤ v → v < w → mid v = 2 * (s 41 v + s 6 v) + s 42 v) → (LNp (s 39) (s 40) mid ln abv (2 * t) w) → (GOp (s 39) (s 40) mid gn (2 * t) w) → (GLp (s 40) ln w gl) → (∀ v, 0 ≤ ln v ∧ ln v ≤ 60) → ((s 103 0 - 1 - w).toNat) < n26 → V 26 [some (.inr (some 43)), some (.inr (some 37)), some (.inl (s 103 0)), some (.inl t), some (.inl w)] [] (WW (ab_s (ab_s (ab_s (ab_s (ab_s (ab_s (ab_s s 114 (fun _ => 0)) 115 (fun _ => 0)) 116 (fun _ => gl)) 45 mid) 47 gn) 46 abv) 44 ln)) 0 0 := by
      intro n26
      induction n26 with
      | zero => intro w gl mid gn abv ln h1 h2 h3 h4 h5 h6 hm; omega
      | succ n26 ih26 =>
        intro w gl mid gn abv ln h1 h2 h3 h4 h5 h6 hm
        refine rb_iload hV dX5_find_26 rfl ?_
        refine rb_iload_n hV dX5_find_28 rfl rfl ?_
        refine rb_iconst hV dX5_find_29 ?_
        refine rb_isub hV dX5_find_30 ?_
        refine rb_icmp_ge hV (tgt := 155) dX5_find_31 (by decide) ⟨(by first | assumption | (unfold ab_r at *; omega)), (by first | assumption | (unfold ab_r at *; omega))⟩ (fun c31 => ?_) (fun c31 => ?_)
        · have e9 : w = s 103 0 - 1 := by omega
          refine rb_aload_n hV dX5_find_155 rfl rfl ?_
          refine rb_aload_n hV dX5_find_156 rfl rfl ?_
          refine rb_iload_n hV dX5_find_157 rfl rfl ?_
          refine rb_callV hV (rest := []) dX5_find_158 (c_X5_collectEnds_tr (ab_s (ab_s (ab_s (ab_s (ab_s (ab_s (ab_s s 114 (fun _ => 0)) 115 (fun _ => 0)) 116 (fun _ => gl)) 45 mid) 47 gn) 46 abv) 44 ln) (s 103 0) (show 1 ≤ s 103 0 ∧ s 103 0 ≤ 60 by omega) (fun v _ => h6 v) (fun v q1 q2 => (h4 v q1 (show v < w by rw [e9]; exact q2)).1) (fun v q1 q2 => by have := hlo v q1 (by omega); show -1 ≤ s 40 v ∧ s 40 v ≤ 60; rcases hsl v q1 (by omega) with z | z <;> omega) ⟨rfl, rfl⟩) lk_X5_67 rfl (Or.inl ⟨5, _, TX5, 8, gw_43 _, rfl⟩) rfl ⟨rfl, rfl, (Nat.le_of_ble_eq_true rfl), (Nat.le_of_ble_eq_true rfl), (Nat.le_of_ble_eq_true rfl), (Nat.le_of_ble_eq_true rfl)⟩ (Nat.le_of_ble_eq_true rfl) (fun r9 h9 p9 => ?_)
          obtain ⟨rfl, en, rfl, hen⟩ := p9
          refine rb_heq (b := (ab_s (ab_s (ab_s (ab_s (ab_s (ab_s (ab_s (ab_s s 114 (fun _ => Sm (ei (s 40) (ln) (gn)) 0 ((s 103 0) - 1))) 115 (fun _ => Sm (es (s 40) (ln) (gn)) 0 ((s 103 0) - 1))) 116 (fun _ => gl)) 45 mid) 47 gn) 46 abv) 44 ln) 48 en)) ((congrArg (fun x => ab_s x 115 _) ((ab_s_sw (by decide)).trans (congrArg (fun x => ab_s x 48 _) ((ab_s_sw (by decide)).trans (congrArg (fun x => ab_s x 44 _) ((ab_s_sw (by decide)).trans (congrArg (fun x => ab_s x 46 _) ((ab_s_sw (by decide)).trans (congrArg (fun x => ab_s x 47 _) ((ab_s_sw (by decide)).trans (congrArg (fun x => ab_s x 45 _) ((ab_s_sw (by decide)).trans (congrArg (fun x => ab_s x 116 _) ((ab_s_sw (by decide)).trans (congrArg (fun x => ab_s x 115 _) (ab_s_same _ 114 _ _)))))))))))))))).trans ((ab_s_sw (by decide)).trans (congrArg (fun x => ab_s x 48 _) ((ab_s_sw (by decide)).trans (congrArg (fun x => ab_s x 44 _) ((ab_s_sw (by decide)).trans (congrArg (fun x => ab_s x 46 _) ((ab_s_sw (by decide)).trans (congrArg (fun x => ab_s x 47 _) ((ab_s_sw (by decide)).trans (congrArg (fun x => ab_s x 45 _) ((ab_s_sw (by decide)).trans (congrArg (fun x => ab_s x 116 _) (ab_s_same _ 115 _ _)))))))))))))) ?_
          show V 161 [some (.inr (some 43)), some (.inr (some 37)), some (.inl (s 103 0)), some (.inl t), some (.inl w)] [] (WW (ab_s (ab_s (ab_s (ab_s (ab_s (ab_s (ab_s (ab_s s 114 (fun _ => Sm (ei (s 40) (ln) (gn)) 0 ((s 103 0) - 1))) 115 (fun _ => Sm (es (s 40) (ln) (gn)) 0 ((s 103 0) - 1))) 116 (fun _ => gl)) 45 mid) 47 gn) 46 abv) 44 ln) 48 en)) 0 0
          refine rb_ret hV (r := none) dX5_find_161 rfl ⟨(Nat.le_of_ble_eq_true rfl), (Nat.le_of_ble_eq_true rfl)⟩ trivial ?_
          have e : w = s 103 0 - 1 := by omega
          subst e
          exact ⟨rfl, _, _, _, _, _, _, _, _, rfl, Or.inr ⟨c19, h2, h3, h4, h5, h6, hen, rfl, rfl⟩⟩
        · have hw1 := hlo w (by omega) (by omega)
          have hw2 := hsl w (by omega) (by omega)
          have hrng := LNp_rng h3 (fun v q1 q2 => (hlo v q1 (by omega)).1)
          refine rb_aload_n hV dX5_find_34 rfl rfl ?_
          refine rb_get hV (v := .inr (some 45)) dX5_find_35 ⟨RX5, TX5, 8, rfl, (Nat.le_of_ble_eq_true rfl), lf_X5_25⟩ (gw_43 _) rfl ?_
          refine rb_iload hV dX5_find_38 rfl ?_
          refine rb_iconst hV dX5_find_40 ?_
          refine rb_aload_n hV dX5_find_41 rfl rfl ?_
          refine rb_iload hV dX5_find_42 rfl ?_
          refine rb_callV hV (rest := [.inl 2, .inl w, .inr (some 45)]) dX5_find_44 (c_X1_endOf_tr (ab_s (ab_s (ab_s (ab_s (ab_s (ab_s (ab_s s 114 (fun _ => 0)) 115 (fun _ => 0)) 116 (fun _ => gl)) 45 mid) 47 gn) 46 abv) 44 ln) w (by omega)) lk_X5_47 rfl (Or.inl ⟨1, _, TX1, 12, gw_37 _, rfl⟩) rfl ⟨rfl, rfl, (Nat.le_of_ble_eq_true rfl), (Nat.le_of_ble_eq_true rfl), (Nat.le_of_ble_eq_true rfl), (Nat.le_of_ble_eq_true rfl)⟩ (Nat.le_of_ble_eq_true rfl) (fun r9 h9 p9 => ?_)
          obtain ⟨rfl, rfl⟩ := p9
          show V 47 [some (.inr (some 43)), some (.inr (some 37)), some (.inl (s 103 0)), some (.inl t), some (.inl w)] [.inl ((s 41 w) + (s 6 w)), .inl 2, .inl w, .inr (some 45)] (WW (ab_s (ab_s (ab_s (ab_s (ab_s (ab_s (ab_s s 114 (fun _ => 0)) 115 (fun _ => 0)) 116 (fun _ => gl)) 45 mid) 47 gn) 46 abv) 44 ln)) 0 0
          refine rb_imul hV dX5_find_47 ?_
          refine rb_aload_n hV dX5_find_48 rfl rfl ?_
          refine rb_get hV (v := .inr (some 42)) dX5_find_49 ⟨RX1, TX1, 12, rfl, (Nat.le_of_ble_eq_true rfl), lf_X5_51⟩ (gw_37 _) rfl ?_
          refine rb_iload hV dX5_find_52 rfl ?_
          refine rb_iald hV (f := (s 42)) dX5_find_54 (gw_42 _) (Nat.le_of_ble_eq_true rfl) (by omega) ?_
          refine rb_iadd hV dX5_find_55 ?_
          refine rb_iast hV (f := (mid)) dX5_find_56 (gw_45 _) (Nat.le_of_ble_eq_true rfl) (by omega) rfl ((pw_45 _ _).trans (congrArg WW ((ab_s_sw (by decide)).trans (congrArg (fun x => ab_s x 44 _) ((ab_s_sw (by decide)).trans (congrArg (fun x => ab_s x 46 _) ((ab_s_sw (by decide)).trans (congrArg (fun x => ab_s x 47 _) (ab_s_same _ 45 _ _))))))))) ?_
          refine rb_aload_n hV dX5_find_57 rfl rfl ?_
          refine rb_get hV (v := .inr (some 47)) dX5_find_58 ⟨RX5, TX5, 8, rfl, (Nat.le_of_ble_eq_true rfl), lf_X5_31⟩ (gw_43 _) rfl ?_
          refine rb_iload hV dX5_find_61 rfl ?_
          refine rb_iconst hV dX5_find_63 ?_
          refine rb_zast hV (f := (gn)) dX5_find_64 (gw_47 _) (Nat.le_of_ble_eq_true rfl) (by omega) (by omega) rfl ((pw_47 _ _).trans (congrArg WW ((ab_s_sw (by decide)).trans (congrArg (fun x => ab_s x 44 _) ((ab_s_sw (by decide)).trans (congrArg (fun x => ab_s x 46 _) (ab_s_same _ 47 _ _))))))) ?_
          refine rb_aload_n hV dX5_find_65 rfl rfl ?_
          refine rb_get hV (v := .inr (some 40)) dX5_find_66 ⟨RX1, TX1, 12, rfl, (Nat.le_of_ble_eq_true rfl), lf_X5_54⟩ (gw_37 _) rfl ?_
          refine rb_iload hV dX5_find_69 rfl ?_
          refine rb_iald hV (f := (s 40)) dX5_find_71 (gw_40 _) (Nat.le_of_ble_eq_true rfl) (by omega) ?_
          refine rb_iconst hV dX5_find_72 ?_
          refine rb_icmp_eq hV (tgt := 149) dX5_find_73 (by decide) ⟨(by first | assumption | (unfold ab_r at *; omega)), (by first | assumption | (unfold ab_r at *; omega))⟩ (fun c73 => ?_) (fun c73 => ?_)
          · refine rb_iinc hV (L2 := [some (.inr (some 43)), some (.inr (some 37)), some (.inl (s 103 0)), some (.inl t), some (.inl (w + 1))]) dX5_find_149 rfl rfl rfl ?_
            refine rb_goto hV (tgt := 26) dX5_find_152 (by decide) ?_
            refine ih26 (w + 1) gl (ab_u (mid) w ((2 * ((s 41 w) + (s 6 w))) + (s 42 w))) (ab_u (gn) w 0) (abv) (ln) ?_ ?_ ?_ ?_ ?_ ?_ ?_
            · omega
            · intro v q1 q2
              by_cases e : v = w
              · rw [e, ab_u_eq]
              · rw [ab_u_ne e]
                exact h2 v q1 (by omega)
            · exact LNp_step h1.1 h3 (fun j _ q => ab_u_ne (by omega)) (fun j _ _ => rfl) (fun j _ _ => rfl) (fun z => absurd c73 z)
            · exact GOp_step h1.1 h4 (fun j _ q => ab_u_ne (by omega)) (ab_u_eq _ _ _) (fun v _ _ z => absurd c73 z.1) (fun v _ q _ => ab_u_ne (by omega))
            · exact GLp_skip h5 (fun j _ _ => rfl) c73
            · exact h6
            · omega
          · have hmm : ∀ v, 0 ≤ v → v ≤ w → -200000 ≤ ab_u mid w (2 * (s 41 w + s 6 w) + s 42 w) v ∧ ab_u mid w (2 * (s 41 w + s 6 w) + s 42 w) v ≤ 200000 := fun v q1 q2 => by
              have b1 := hbe v q1 (by omega)
              have b2 := hsw v
              have b3 := hwd v q1 (by omega)
              by_cases e : v = w
              · rw [e] at b1 b2 b3 ⊢
                rw [ab_u_eq]
                omega
              · rw [ab_u_ne e, h2 v q1 (by omega)]
                omega
            refine rb_aload_n hV dX5_find_76 rfl rfl ?_
            refine rb_get hV (v := .inr (some 46)) dX5_find_77 ⟨RX5, TX5, 8, rfl, (Nat.le_of_ble_eq_true rfl), lf_X5_28⟩ (gw_43 _) rfl ?_
            refine rb_iload hV dX5_find_80 rfl ?_
            refine rb_aload_n hV dX5_find_82 rfl rfl ?_
            refine rb_aload_n hV dX5_find_83 rfl rfl ?_
            refine rb_iload hV dX5_find_84 rfl ?_
            refine rb_iconst hV dX5_find_86 ?_
            refine rb_iload_n hV dX5_find_87 rfl rfl ?_
            refine rb_imul hV dX5_find_88 ?_
            refine rb_callV hV (rest := [.inl w, .inr (some 46)]) dX5_find_89 (c_X5_spaceAbove_tr (ab_s (ab_s (ab_s (ab_s (ab_s (ab_s (ab_s s 114 (fun _ => 0)) 115 (fun _ => 0)) 116 (fun _ => gl)) 45 (ab_u (mid) w ((2 * ((s 41 w) + (s 6 w))) + (s 42 w)))) 47 (ab_u (gn) w 0)) 46 abv) 44 ln) w (2 * t) (by omega) (fun v q1 q2 => by have := hlo v q1 (by omega); exact ⟨this.1, by show s 39 v ≤ 60; omega⟩) (fun u v q1 q2 q3 => hmo u v q1 q2 (by omega)) (fun v q1 q2 => hsl v q1 (by omega)) hmm h6 (by omega)) lk_X5_57 rfl (Or.inl ⟨5, _, TX5, 8, gw_43 _, rfl⟩) rfl ⟨rfl, rfl, (Nat.le_of_ble_eq_true rfl), (Nat.le_of_ble_eq_true rfl), (Nat.le_of_ble_eq_true rfl), (Nat.le_of_ble_eq_true rfl)⟩ (Nat.le_of_ble_eq_true rfl) (fun r9 h9 p9 => ?_)
            obtain ⟨a1, g1, rfl, rfl, hAB, hg1, hg2⟩ := p9
            show V 92 [some (.inr (some 43)), some (.inr (some 37)), some (.inl (s 103 0)), some (.inl t), some (.inl w)] [.inl a1, .inl w, .inr (some 46)] (WW (ab_s (ab_s (ab_s (ab_s (ab_s (ab_s (ab_s s 114 (fun _ => 0)) 115 (fun _ => 0)) 116 (fun _ => gl)) 45 (ab_u (mid) w ((2 * ((s 41 w) + (s 6 w))) + (s 42 w)))) 47 g1) 46 abv) 44 ln)) 0 0
            refine rb_iast hV (f := (abv)) dX5_find_92 (gw_46 _) (Nat.le_of_ble_eq_true rfl) (by omega) rfl ((pw_46 _ _).trans (congrArg WW ((ab_s_sw (by decide)).trans (congrArg (fun x => ab_s x 44 _) (ab_s_same _ 46 _ _))))) ?_
            have ea : ab_u abv w a1 w = a1 := ab_u_eq _ _ _
            have ea2 : ln (ab_u abv w a1 w) = ln a1 := by rw [ea]
            have hlt : a1 = -1 ∨ (0 ≤ a1 ∧ a1 < w ∧ s 39 a1 = s 39 w - 1 ∧ ¬ s 40 a1 = -1) := AB_lt hAB
            have hra := hrng a1
            have h61 := h6 a1
            have hgl := GLp_b h5 (by omega) h6
            refine rb_aload_n hV dX5_find_93 rfl rfl ?_
            refine rb_get hV (v := .inr (some 44)) dX5_find_94 ⟨RX5, TX5, 8, rfl, (Nat.le_of_ble_eq_true rfl), lf_X5_21⟩ (gw_43 _) rfl ?_
            refine rb_iload hV dX5_find_97 rfl ?_
            refine rb_aload_n hV dX5_find_99 rfl rfl ?_
            refine rb_get hV (v := .inr (some 46)) dX5_find_100 ⟨RX5, TX5, 8, rfl, (Nat.le_of_ble_eq_true rfl), lf_X5_28⟩ (gw_43 _) rfl ?_
            refine rb_iload hV dX5_find_103 rfl ?_
            refine rb_iald hV (f := (ab_u (abv) w a1)) dX5_find_105 (gw_46 _) (Nat.le_of_ble_eq_true rfl) (by omega) ?_
            refine rb_iconst hV dX5_find_106 ?_
            refine rb_icmp_ne hV (tgt := 114) dX5_find_107 (by decide) ⟨(by first | assumption | (unfold ab_r at *; omega)), (by first | assumption | (unfold ab_r at *; omega))⟩ (fun c107 => ?_) (fun c107 => ?_)
            · refine rb_aload_n hV dX5_find_114 rfl rfl ?_
              refine rb_get hV (v := .inr (some 44)) dX5_find_115 ⟨RX5, TX5, 8, rfl, (Nat.le_of_ble_eq_true rfl), lf_X5_21⟩ (gw_43 _) rfl ?_
              refine rb_aload_n hV dX5_find_118 rfl rfl ?_
              refine rb_get hV (v := .inr (some 46)) dX5_find_119 ⟨RX5, TX5, 8, rfl, (Nat.le_of_ble_eq_true rfl), lf_X5_28⟩ (gw_43 _) rfl ?_
              refine rb_iload hV dX5_find_122 rfl ?_
              refine rb_iald hV (f := (ab_u (abv) w a1)) dX5_find_124 (gw_46 _) (Nat.le_of_ble_eq_true rfl) (by omega) ?_
              refine rb_callS hV (rest := [.inl w, .inr (some 44)]) dX5_find_125 (c_X9_at (ab_s (ab_s (ab_s (ab_s (ab_s (ab_s (ab_s s 114 (fun _ => 0)) 115 (fun _ => 0)) 116 (fun _ => gl)) 45 (ab_u (mid) w ((2 * ((s 41 w) + (s 6 w))) + (s 42 w)))) 47 g1) 46 (ab_u (abv) w a1)) 44 ln) 44 _ (ln) ((ab_u (abv) w a1) w) (gw_44 _) (Nat.le_of_ble_eq_true rfl) (by omega)) lk_X5_38 rfl rfl ⟨rfl, rfl, (Nat.le_of_ble_eq_true rfl), (Nat.le_of_ble_eq_true rfl), (Nat.le_of_ble_eq_true rfl), (Nat.le_of_ble_eq_true rfl)⟩ (Nat.le_of_ble_eq_true rfl) (fun r9 h9 p9 => ?_)
              obtain ⟨rfl, rfl⟩ := p9
              show V 128 [some (.inr (some 43)), some (.inr (some 37)), some (.inl (s 103 0)), some (.inl t), some (.inl w)] [.inl ((ln) ((ab_u (abv) w a1) w)), .inl w, .inr (some 44)] (WW (ab_s (ab_s (ab_s (ab_s (ab_s (ab_s (ab_s s 114 (fun _ => 0)) 115 (fun _ => 0)) 116 (fun _ => gl)) 45 (ab_u (mid) w ((2 * ((s 41 w) + (s 6 w))) + (s 42 w)))) 47 g1) 46 (ab_u (abv) w a1)) 44 ln)) 0 0
              refine rb_iconst hV dX5_find_128 ?_
              refine rb_iadd hV dX5_find_129 ?_
              refine rb_iast hV (f := (ln)) dX5_find_130 (gw_44 _) (Nat.le_of_ble_eq_true rfl) (by omega) rfl ((pw_44 _ _).trans (congrArg WW (ab_s_same _ 44 _ _))) ?_
              have eln := h6 w
              have ev1 : ∀ q, ab_u ln w q w = q := fun q => ab_u_eq _ _ _
              refine rb_aload_n hV dX5_find_131 rfl rfl ?_
              refine rb_aload_n hV dX5_find_132 rfl rfl ?_
              refine rb_get hV (v := .inl gl) dX5_find_133 ⟨RX5, TX5, 8, rfl, (Nat.le_of_ble_eq_true rfl), lf_X5_18⟩ (gw_43 _) rfl ?_
              refine rb_aload_n hV dX5_find_136 rfl rfl ?_
              refine rb_get hV (v := .inr (some 44)) dX5_find_137 ⟨RX5, TX5, 8, rfl, (Nat.le_of_ble_eq_true rfl), lf_X5_21⟩ (gw_43 _) rfl ?_
              refine rb_iload hV dX5_find_140 rfl ?_
              refine rb_iald hV (f := (ab_u (ln) w (((ln) ((ab_u (abv) w a1) w)) + 1))) dX5_find_142 (gw_44 _) (Nat.le_of_ble_eq_true rfl) (by omega) ?_
              refine rb_mmax hV dX5_find_143 lk_X5_61 ⟨(by unfold ab_r; omega), (by rw [ev1]; unfold ab_r; omega)⟩ (Nat.le_of_ble_eq_true rfl) (Nat.le_of_ble_eq_true rfl) ⟨(Nat.le_of_ble_eq_true rfl), (Nat.le_of_ble_eq_true rfl)⟩ ?_
              refine rb_put hV (C := RX5) (T := TX5) (N := 8) (ci := 5) (j := 2) dX5_find_146 rfl (Nat.le_of_ble_eq_true rfl) lf_X5_18 rfl (gw_43 _) (Nat.le_of_ble_eq_true rfl) (ft_X5_2 _) ((pw_43_2 _ _).trans (congrArg WW ((ab_s_sw (by decide)).trans (congrArg (fun x => ab_s x 44 _) ((ab_s_sw (by decide)).trans (congrArg (fun x => ab_s x 46 _) ((ab_s_sw (by decide)).trans (congrArg (fun x => ab_s x 47 _) ((ab_s_sw (by decide)).trans (congrArg (fun x => ab_s x 45 _) (ab_s_same _ 116 _ _))))))))))) ?_
              refine rb_iinc hV (L2 := [some (.inr (some 43)), some (.inr (some 37)), some (.inl (s 103 0)), some (.inl t), some (.inl (w + 1))]) dX5_find_149 rfl rfl rfl ?_
              refine rb_goto hV (tgt := 26) dX5_find_152 (by decide) ?_
              refine ih26 (w + 1) (max gl ((ab_u (ln) w (((ln) ((ab_u (abv) w a1) w)) + 1)) w)) (ab_u (mid) w ((2 * ((s 41 w) + (s 6 w))) + (s 42 w))) (g1) (ab_u (abv) w a1) (ab_u (ln) w (((ln) ((ab_u (abv) w a1) w)) + 1)) ?_ ?_ ?_ ?_ ?_ ?_ ?_
              · omega
              · intro v q1 q2
                by_cases e : v = w
                · rw [e, ab_u_eq]
                · rw [ab_u_ne e]
                  exact h2 v q1 (by omega)
              · exact LNp_step h1.1 h3 (fun j _ q => ab_u_ne (by omega)) (fun j _ q => ab_u_ne (by omega)) (fun j _ q => ab_u_ne (by omega)) (fun z => by
                  rw [ab_u_eq, ab_u_eq]
                  refine ⟨AB_congr h1.1 (fun j _ _ => ⟨rfl, Iff.rfl, fun _ => rfl⟩) (fun j _ q _ => (ab_u_ne (by omega)).symm) c73 hAB, ?_⟩
                  rw [if_neg (by omega), ab_u_ne (by omega)]
                  try rfl)
              · exact GOp_step h1.1 h4 (fun j _ q => ab_u_ne (by omega)) ((hg2 w (fun z => by have := z.2.1; omega)).trans (ab_u_eq _ _ _)) (fun v _ _ z => hg1 v z.2) (fun v _ q z => (hg2 v (fun q2 => z ⟨c73, q2⟩)).trans (ab_u_ne (by omega)))
              · exact GLp_take h1.1 h5 (fun j _ q => ab_u_ne (by omega)) c73
              · intro v
                by_cases e : v = w
                · rw [e, ab_u_eq]
                  omega
                · rw [ab_u_ne e]
                  exact h6 v
              · omega
            · refine rb_iconst hV dX5_find_110 ?_
              refine rb_goto hV (tgt := 130) dX5_find_111 (by decide) ?_
              refine rb_iast hV (f := (ln)) dX5_find_130 (gw_44 _) (Nat.le_of_ble_eq_true rfl) (by omega) rfl ((pw_44 _ _).trans (congrArg WW (ab_s_same _ 44 _ _))) ?_
              have eln := h6 w
              have ev1 : ∀ q, ab_u ln w q w = q := fun q => ab_u_eq _ _ _
              refine rb_aload_n hV dX5_find_131 rfl rfl ?_
              refine rb_aload_n hV dX5_find_132 rfl rfl ?_
              refine rb_get hV (v := .inl gl) dX5_find_133 ⟨RX5, TX5, 8, rfl, (Nat.le_of_ble_eq_true rfl), lf_X5_18⟩ (gw_43 _) rfl ?_
              refine rb_aload_n hV dX5_find_136 rfl rfl ?_
              refine rb_get hV (v := .inr (some 44)) dX5_find_137 ⟨RX5, TX5, 8, rfl, (Nat.le_of_ble_eq_true rfl), lf_X5_21⟩ (gw_43 _) rfl ?_
              refine rb_iload hV dX5_find_140 rfl ?_
              refine rb_iald hV (f := (ab_u (ln) w 1)) dX5_find_142 (gw_44 _) (Nat.le_of_ble_eq_true rfl) (by omega) ?_
              refine rb_mmax hV dX5_find_143 lk_X5_61 ⟨(by unfold ab_r; omega), (by rw [ev1]; unfold ab_r; omega)⟩ (Nat.le_of_ble_eq_true rfl) (Nat.le_of_ble_eq_true rfl) ⟨(Nat.le_of_ble_eq_true rfl), (Nat.le_of_ble_eq_true rfl)⟩ ?_
              refine rb_put hV (C := RX5) (T := TX5) (N := 8) (ci := 5) (j := 2) dX5_find_146 rfl (Nat.le_of_ble_eq_true rfl) lf_X5_18 rfl (gw_43 _) (Nat.le_of_ble_eq_true rfl) (ft_X5_2 _) ((pw_43_2 _ _).trans (congrArg WW ((ab_s_sw (by decide)).trans (congrArg (fun x => ab_s x 44 _) ((ab_s_sw (by decide)).trans (congrArg (fun x => ab_s x 46 _) ((ab_s_sw (by decide)).trans (congrArg (fun x => ab_s x 47 _) ((ab_s_sw (by decide)).trans (congrArg (fun x => ab_s x 45 _) (ab_s_same _ 116 _ _))))))))))) ?_
              refine rb_iinc hV (L2 := [some (.inr (some 43)), some (.inr (some 37)), some (.inl (s 103 0)), some (.inl t), some (.inl (w + 1))]) dX5_find_149 rfl rfl rfl ?_
              refine rb_goto hV (tgt := 26) dX5_find_152 (by decide) ?_
              refine ih26 (w + 1) (max gl ((ab_u (ln) w 1) w)) (ab_u (mid) w ((2 * ((s 41 w) + (s 6 w))) + (s 42 w))) (g1) (ab_u (abv) w a1) (ab_u (ln) w 1) ?_ ?_ ?_ ?_ ?_ ?_ ?_
              · omega
              · intro v q1 q2
                by_cases e : v = w
                · rw [e, ab_u_eq]
                · rw [ab_u_ne e]
                  exact h2 v q1 (by omega)
              · exact LNp_step h1.1 h3 (fun j _ q => ab_u_ne (by omega)) (fun j _ q => ab_u_ne (by omega)) (fun j _ q => ab_u_ne (by omega)) (fun z => by
                  rw [ab_u_eq, ab_u_eq]
                  refine ⟨AB_congr h1.1 (fun j _ _ => ⟨rfl, Iff.rfl, fun _ => rfl⟩) (fun j _ q _ => (ab_u_ne (by omega)).symm) c73 hAB, ?_⟩
                  rw [if_pos (by omega)])
              · exact GOp_step h1.1 h4 (fun j _ q => ab_u_ne (by omega)) ((hg2 w (fun z => by have := z.2.1; omega)).trans (ab_u_eq _ _ _)) (fun v _ _ z => hg1 v z.2) (fun v _ q z => (hg2 v (fun q2 => z ⟨c73, q2⟩)).trans (ab_u_ne (by omega)))
              · exact GLp_take h1.1 h5 (fun j _ q => ab_u_ne (by omega)) c73
              · intro v
                by_cases e : v = w
                · rw [e, ab_u_eq]
                  omega
                · rw [ab_u_ne e]
                  exact h6 v
              · omega
    refine h26 _ 0 0 (s 45) (s 47) (s 46) (s 44) ?_ ?_ ?_ ?_ ?_ ?_ (Nat.lt_succ_self _)
    · omega
    · intro v q1 q2; omega
    · intro v q1 q2; omega
    · intro v q1 q2; omega
    · exact ⟨Int.le_refl 0, fun v q1 q2 => by omega, Or.inl rfl⟩
    · exact hln
  · refine rb_heq (b := (ab_s (ab_s (ab_s (ab_s (ab_s (ab_s (ab_s (ab_s s 114 (fun _ => 0)) 115 (fun _ => 0)) 116 (fun _ => 0)) 45 (s 45)) 47 (s 47)) 46 (s 46)) 44 (s 44)) 48 (s 48))) ((ab_s_id rfl).trans ((ab_s_id rfl).trans ((ab_s_id rfl).trans ((ab_s_id rfl).trans (ab_s_id rfl))))).symm ?_
    refine rb_ret hV (r := none) dX5_find_22 rfl ⟨(Nat.le_of_ble_eq_true rfl), (Nat.le_of_ble_eq_true rfl)⟩ trivial ?_
    exact ⟨rfl, _, _, _, _, _, _, _, _, rfl, Or.inl ⟨c19, rfl, rfl, rfl, hln⟩⟩
