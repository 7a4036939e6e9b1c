/-! the reference: layouts -/
set_option maxRecDepth 20000 in
theorem c_X10_layOut (s : Nat → Int → Int) (hp : PI (vM s)) (hv : LV (vM s) (s 59) (s 125 0)) (hz : 0 < s 125 0) (hsw : ∀ v, -1000 ≤ s 61 v ∧ s 61 v ≤ 1000) (hln : ∀ v, 0 ≤ s 62 v ∧ s 62 v ≤ 60) : ab_Mt yX10_layOut cX10_layOut 3 none ({ frames := 4, cells := 0, slots := 0, locals := 99 } : Room) false 0 0 [.inr (some 49)] (WW s) (fun r h2 => r = none ∧ ∃ bg sw lo ln, h2 = WW (ab_s (ab_s (ab_s (ab_s s 60 bg) 61 sw) 63 lo) 62 ln) ∧ (∀ v, -1000 ≤ sw v ∧ sw v ≤ 1000) ∧ MST (vM s) (s 59) (s 125 0) sw lo bg ln) := by
  refine ab_mk RX10 false rfl pn_X10_layOut (fun z => by cases z) (Nat.le_of_ble_eq_true rfl) (fun V hV => ?_)
  show V 0 [some (.inr (some 49)), none, none] [] (WW s) 0 0
  have hn : 0 ≤ s 120 0 ∧ s 120 0 ≤ 60 := hp.1
  have hms : 10 ≤ s 117 0 ∧ s 117 0 ≤ 200 := hp.2.2.1
  have e0 : vM s 0 0 = s 120 0 := rfl
  have hnl : 0 ≤ s 125 0 ∧ s 125 0 ≤ s 120 0 := hv.1
  refine rb_iconst hV dX10_layOut_0 ?_
  refine rb_istore_n hV (L2 := [some (.inr (some 49)), some (.inl 0), none]) dX10_layOut_1 rfl (Nat.le_of_ble_eq_true rfl) rfl ?_
  refine rb_heq (b := (ab_s (ab_s (ab_s s 60 (s 60)) 61 (s 61)) 63 (s 63))) ((ab_s_id rfl).trans ((ab_s_id rfl).trans (ab_s_id rfl))).symm ?_
  have h2 : ∀ (n2 : Nat) (i : Int) (bg : Int → Int) (sw : Int → Int) (lo : Int → Int), (0 ≤ i ∧ i ≤ s 125 0) → (LDY (vM s) (s 59) i lo bg sw) → (∀ v, -1000 ≤ sw v ∧ sw v ≤ 1000) → ((s 125 0 - i).toNat) < n2 → V 2 [some (.inr (some 49)), some (.inl i), none] [] (WW (ab_s (ab_s (ab_s s 60 bg) 61 sw) 63 lo)) 0 0 := by
    intro n2
    induction n2 with
    | zero => intro i bg sw lo h1 h2 h3 hm; omega
    | succ n2 ih2 =>
      intro i bg sw lo h1 h2 h3 hm
      refine rb_iload_n hV dX10_layOut_2 rfl rfl ?_
      refine rb_aload_n hV dX10_layOut_3 rfl rfl ?_
      refine rb_get hV (v := .inl (s 125 0)) dX10_layOut_4 ⟨RX10, TX10, 24, rfl, (Nat.le_of_ble_eq_true rfl), lf_X10_147⟩ (gw_49 _) rfl ?_
      refine rb_icmp_ge hV (tgt := 21) dX10_layOut_7 (by decide) ⟨(by unfold ab_r at *; omega), (by unfold ab_r at *; omega)⟩ (fun c7 => ?_) (fun c7 => ?_)
      · have hld : LDY (vM s) (s 59) (s 125 0) lo bg sw := by
          rw [show s 125 0 = i by omega]
          exact h2
        refine rb_iconst hV dX10_layOut_21 ?_
        refine rb_istore_n hV (L2 := [some (.inr (some 49)), some (.inl 0), none]) dX10_layOut_22 rfl (Nat.le_of_ble_eq_true rfl) rfl ?_
        refine rb_heq (b := (ab_s (ab_s (ab_s (ab_s s 60 bg) 61 sw) 63 lo) 62 (s 62))) (ab_s_id rfl).symm ?_
        have h23 : ∀ (n23 : Nat) (w : Int) (ln : Int → Int), (0 ≤ w ∧ w ≤ s 120 0) → (∃ abv, LNp lo (slF (s 59) lo) (mdF (s 51) bg sw) ln abv (2 * s 119 0) w) → (∀ v, 0 ≤ ln v ∧ ln v ≤ 60) → (∀ v, 0 ≤ v → v < w → (slF (s 59) lo) v = -1 → ln v = 0) → ((s 120 0 - w).toNat) < n23 → V 23 [some (.inr (some 49)), some (.inl w), none] [] (WW (ab_s (ab_s (ab_s (ab_s s 60 bg) 61 sw) 63 lo) 62 ln)) 0 0 := by
          intro n23
          induction n23 with
          | zero => intro w ln g1 g2 g3 g4 hm; omega
          | succ n23 ih23 =>
            intro w ln g1 g2 g3 g4 hm
            refine rb_iload_n hV dX10_layOut_23 rfl rfl ?_
            refine rb_aload_n hV dX10_layOut_24 rfl rfl ?_
            refine rb_get hV (v := .inl (s 120 0)) dX10_layOut_25 ⟨RX10, TX10, 24, rfl, (Nat.le_of_ble_eq_true rfl), lf_X10_90⟩ (gw_49 _) rfl ?_
            refine rb_icmp_ge hV (tgt := 89) dX10_layOut_28 (by decide) ⟨(by unfold ab_r at *; omega), (by unfold ab_r at *; omega)⟩ (fun c28 => ?_) (fun c28 => ?_)
            · refine rb_ret hV (r := none) dX10_layOut_89 rfl ⟨(Nat.le_of_ble_eq_true rfl), (Nat.le_of_ble_eq_true rfl)⟩ trivial ?_
              obtain ⟨abv, hL⟩ := g2
              obtain ⟨am, str, gl, gn, en, hR⟩ := RVX_ex (n := s 120 0) (nl := s 125 0) (t := s 119 0) (wd := s 51) (by omega) (by omega) (LNp_mono hL (by omega)) g3
              exact ⟨rfl, _, _, _, _, rfl, h3, _, am, str, gl, gn, abv, en, ⟨rfl, LDY_X hld, h3, hR⟩, hld, fun _ v a b c => g4 v a (by have b2 : v < s 120 0 := b; omega) c⟩
            · have hlm : LM (ab_s (ab_s (ab_s (ab_s s 60 bg) 61 sw) 63 lo) 62 ln) := ⟨hp, hv, hz, hld, h3, g3⟩
              have hf : (0 ≤ lo w ∧ lo w < s 125 0) ∧ (0 ≤ s 59 (lo w) ∧ s 59 (lo w) ≤ w) ∧ (w < s 59 (lo w + 1) ∧ s 59 (lo w + 1) ≤ s 120 0) ∧ _ := LM_f hlm g1.1 (show w < s 120 0 by omega)
              have hf1 := hf.2.2.1
              refine rb_aload_n hV dX10_layOut_31 rfl rfl ?_
              refine rb_iload_n hV dX10_layOut_32 rfl rfl ?_
              refine rb_callV hV (rest := []) dX10_layOut_33 (c_X10_hasSpace (ab_s (ab_s (ab_s (ab_s s 60 bg) 61 sw) 63 lo) 62 ln) w (by omega) (show 0 ≤ lo w ∧ lo w < 60 by omega) (show ab_r (s 59 (lo w + 1) - 1) by unfold ab_r; omega)) lk_X10_215 rfl (Or.inl ⟨9, _, TX10, 24, gw_49 _, rfl⟩) rfl ⟨rfl, rfl, (Nat.le_of_ble_eq_true rfl), (Nat.le_of_ble_eq_true rfl), (Nat.le_of_ble_eq_true rfl), (Nat.le_of_ble_eq_true rfl)⟩ (Nat.le_of_ble_eq_true rfl) (fun r9 h9 p9 => ?_)
              obtain ⟨rfl, rfl⟩ := p9
              show V 36 [some (.inr (some 49)), some (.inl w), none] [.inl (if w < (s 59 (((lo) w) + 1)) - 1 then 1 else 0)] (WW (ab_s (ab_s (ab_s (ab_s s 60 bg) 61 sw) 63 lo) 62 ln)) 0 0
              by_cases e33 : w < (s 59 (((lo) w) + 1)) - 1
              · rw [if_pos e33]
                show V 36 [some (.inr (some 49)), some (.inl w), none] [.inl 1] (WW (ab_s (ab_s (ab_s (ab_s s 60 bg) 61 sw) 63 lo) 62 ln)) 0 0
                refine rb_if_eq hV (tgt := 47) dX10_layOut_36 (by decide) (by unfold ab_r at *; omega) (fun z => absurd z (by decide)) (fun _ => ?_)
                have hsl : ¬ slM (ab_s (ab_s (ab_s (ab_s s 60 bg) 61 sw) 63 lo) 62 ln) w = -1 := slM_yes hf.1.1 e33
                refine rb_aload_n hV dX10_layOut_39 rfl rfl ?_
                refine rb_iload_n hV dX10_layOut_40 rfl rfl ?_
                refine rb_callV hV (rest := []) dX10_layOut_41 (c_X10_above (ab_s (ab_s (ab_s (ab_s s 60 bg) 61 sw) 63 lo) 62 ln) w hlm (show 0 ≤ w ∧ w < s 120 0 by omega) hsl) lk_X10_227 rfl (Or.inl ⟨9, _, TX10, 24, gw_49 _, rfl⟩) rfl ⟨rfl, rfl, (Nat.le_of_ble_eq_true rfl), (Nat.le_of_ble_eq_true rfl), (Nat.le_of_ble_eq_true rfl), (Nat.le_of_ble_eq_true rfl)⟩ (Nat.le_of_ble_eq_true rfl) (fun r9 h9 p9 => ?_)
                obtain ⟨x9, rfl, rfl, hab9⟩ := p9
                have hlt : x9 = -1 ∨ (0 ≤ x9 ∧ x9 < w ∧ lo x9 = lo w - 1 ∧ ¬ (slF (s 59) lo) x9 = -1) := AB_lt hab9
                have hrg : 0 ≤ x9 → 1 ≤ ln x9 ∧ ln x9 ≤ lo w := fun z => by
                  obtain ⟨abv, hL⟩ := g2
                  have h4 := hlt.resolve_left (by omega)
                  have := LNp_rng hL (fun v q1 q2 => (LM_f hlm q1 (show v < s 120 0 by omega)).1.1) x9 h4.1 h4.2.1 h4.2.2.2
                  omega
                show V 44 [some (.inr (some 49)), some (.inl w), none] [.inl x9] (WW (ab_s (ab_s (ab_s (ab_s s 60 bg) 61 sw) 63 lo) 62 ln)) 0 0
                refine rb_goto hV (tgt := 48) dX10_layOut_44 (by decide) ?_
                refine rb_istore_n hV (L2 := [some (.inr (some 49)), some (.inl w), some (.inl x9)]) dX10_layOut_48 rfl (Nat.le_of_ble_eq_true rfl) rfl ?_
                refine rb_aload_n hV dX10_layOut_49 rfl rfl ?_
                refine rb_get hV (v := .inr (some 62)) dX10_layOut_50 ⟨RX10, TX10, 24, rfl, (Nat.le_of_ble_eq_true rfl), lf_X10_57⟩ (gw_49 _) rfl ?_
                refine rb_iload_n hV dX10_layOut_53 rfl rfl ?_
                refine rb_aload_n hV dX10_layOut_54 rfl rfl ?_
                refine rb_iload_n hV dX10_layOut_55 rfl rfl ?_
                refine rb_callV hV (rest := [.inl w, .inr (some 62)]) dX10_layOut_56 (c_X10_hasSpace (ab_s (ab_s (ab_s (ab_s s 60 bg) 61 sw) 63 lo) 62 ln) w (by omega) (show 0 ≤ lo w ∧ lo w < 60 by omega) (show ab_r (s 59 (lo w + 1) - 1) by unfold ab_r; omega)) lk_X10_215 rfl (Or.inl ⟨9, _, TX10, 24, gw_49 _, rfl⟩) rfl ⟨rfl, rfl, (Nat.le_of_ble_eq_true rfl), (Nat.le_of_ble_eq_true rfl), (Nat.le_of_ble_eq_true rfl), (Nat.le_of_ble_eq_true rfl)⟩ (Nat.le_of_ble_eq_true rfl) (fun r9 h9 p9 => ?_)
                obtain ⟨rfl, rfl⟩ := p9
                show V 59 [some (.inr (some 49)), some (.inl w), some (.inl x9)] [.inl (if w < (s 59 (((lo) w) + 1)) - 1 then 1 else 0), .inl w, .inr (some 62)] (WW (ab_s (ab_s (ab_s (ab_s s 60 bg) 61 sw) 63 lo) 62 ln)) 0 0
                rw [if_pos (show w < (s 59 (((lo) w) + 1)) - 1 by omega)]
                show V 59 [some (.inr (some 49)), some (.inl w), some (.inl x9)] [.inl 1, .inl w, .inr (some 62)] (WW (ab_s (ab_s (ab_s (ab_s s 60 bg) 61 sw) 63 lo) 62 ln)) 0 0
                refine rb_if_ne hV (tgt := 66) dX10_layOut_59 (by decide) (by unfold ab_r at *; omega) (fun _ => ?_) (fun z => absurd z (by decide))
                refine rb_iload_n hV dX10_layOut_66 rfl rfl ?_
                refine rb_if_ge hV (tgt := 74) dX10_layOut_67 (by decide) (by unfold ab_r at *; omega) (fun c67 => ?_) (fun c67 => ?_)
                · refine rb_aload_n hV dX10_layOut_74 rfl rfl ?_
                  refine rb_get hV (v := .inr (some 62)) dX10_layOut_75 ⟨RX10, TX10, 24, rfl, (Nat.le_of_ble_eq_true rfl), lf_X10_57⟩ (gw_49 _) rfl ?_
                  refine rb_iload_n hV dX10_layOut_78 rfl rfl ?_
                  refine rb_iald hV (f := (ln)) dX10_layOut_79 (gw_62 _) (Nat.le_of_ble_eq_true rfl) (by omega) ?_
                  refine rb_iconst hV dX10_layOut_80 ?_
                  refine rb_iadd hV dX10_layOut_81 ?_
                  refine rb_iast hV (f := (ln)) dX10_layOut_82 (gw_62 _) (Nat.le_of_ble_eq_true rfl) (by omega) rfl ((pw_62 _ _).trans (congrArg WW (ab_s_same _ 62 _ _))) ?_
                  refine rb_iinc hV (L2 := [some (.inr (some 49)), some (.inl (w + 1)), some (.inl x9)]) dX10_layOut_83 rfl rfl rfl ?_
                  refine rb_goto hV (tgt := 23) dX10_layOut_86 (by decide) ?_
                  refine rb_weak hV (L2 := [some (.inr (some 49)), some (.inl (w + 1)), none]) ⟨rfl, ⟨rfl, trivial⟩⟩ ?_
                  refine ih23 (w + 1) (ab_u (ln) w (((ln) x9) + 1)) ?_ ?_ ?_ ?_ ?_
                  · omega
                  · obtain ⟨abv, hL⟩ := g2
                    exact ⟨ab_u abv w x9, LNp_step g1.1 hL (fun _ _ _ => rfl) (fun j _ q => ab_u_ne (by omega)) (fun j _ q => ab_u_ne (by omega)) (fun z => by
                      rw [ab_u_eq, ab_u_eq]
                      refine ⟨AB_congr g1.1 (fun j _ _ => ⟨rfl, Iff.rfl, fun _ => rfl⟩) (fun j _ q _ => (ab_u_ne (by omega)).symm) z hab9, ?_⟩
                      rw [if_neg (by omega), ab_u_ne (by omega)])⟩
                  · intro v
                    by_cases e : v = w
                    · rw [e, ab_u_eq]
                      omega
                    · rw [ab_u_ne e]
                      exact g3 v
                  · intro v q1 q2 q3
                    by_cases e : v = w
                    · subst e
                      exact absurd q3 hsl
                    · rw [ab_u_ne e]
                      exact g4 v q1 (by omega) q3
                  · omega
                · refine rb_iconst hV dX10_layOut_70 ?_
                  refine rb_goto hV (tgt := 82) dX10_layOut_71 (by decide) ?_
                  refine rb_iast hV (f := (ln)) dX10_layOut_82 (gw_62 _) (Nat.le_of_ble_eq_true rfl) (by omega) rfl ((pw_62 _ _).trans (congrArg WW (ab_s_same _ 62 _ _))) ?_
                  refine rb_iinc hV (L2 := [some (.inr (some 49)), some (.inl (w + 1)), some (.inl x9)]) dX10_layOut_83 rfl rfl rfl ?_
                  refine rb_goto hV (tgt := 23) dX10_layOut_86 (by decide) ?_
                  refine rb_weak hV (L2 := [some (.inr (some 49)), some (.inl (w + 1)), none]) ⟨rfl, ⟨rfl, trivial⟩⟩ ?_
                  refine ih23 (w + 1) (ab_u (ln) w 1) ?_ ?_ ?_ ?_ ?_
                  · omega
                  · obtain ⟨abv, hL⟩ := g2
                    exact ⟨ab_u abv w x9, LNp_step g1.1 hL (fun _ _ _ => rfl) (fun j _ q => ab_u_ne (by omega)) (fun j _ q => ab_u_ne (by omega)) (fun z => by
                      rw [ab_u_eq, ab_u_eq]
                      refine ⟨AB_congr g1.1 (fun j _ _ => ⟨rfl, Iff.rfl, fun _ => rfl⟩) (fun j _ q _ => (ab_u_ne (by omega)).symm) z hab9, ?_⟩
                      rw [if_pos (by omega)])⟩
                  · intro v
                    by_cases e : v = w
                    · rw [e, ab_u_eq]
                      omega
                    · rw [ab_u_ne e]
                      exact g3 v
                  · intro v q1 q2 q3
                    by_cases e : v = w
                    · subst e
                      exact absurd q3 hsl
                    · rw [ab_u_ne e]
                      exact g4 v q1 (by omega) q3
                  · omega
              · rw [if_neg e33]
                show V 36 [some (.inr (some 49)), some (.inl w), none] [.inl 0] (WW (ab_s (ab_s (ab_s (ab_s s 60 bg) 61 sw) 63 lo) 62 ln)) 0 0
                refine rb_if_eq hV (tgt := 47) dX10_layOut_36 (by decide) (by unfold ab_r at *; omega) (fun _ => ?_) (fun z => absurd z (by decide))
                refine rb_iconst hV dX10_layOut_47 ?_
                refine rb_istore_n hV (L2 := [some (.inr (some 49)), some (.inl w), some (.inl (-1))]) dX10_layOut_48 rfl (Nat.le_of_ble_eq_true rfl) rfl ?_
                refine rb_aload_n hV dX10_layOut_49 rfl rfl ?_
                refine rb_get hV (v := .inr (some 62)) dX10_layOut_50 ⟨RX10, TX10, 24, rfl, (Nat.le_of_ble_eq_true rfl), lf_X10_57⟩ (gw_49 _) rfl ?_
                refine rb_iload_n hV dX10_layOut_53 rfl rfl ?_
                refine rb_aload_n hV dX10_layOut_54 rfl rfl ?_
                refine rb_iload_n hV dX10_layOut_55 rfl rfl ?_
                refine rb_callV hV (rest := [.inl w, .inr (some 62)]) dX10_layOut_56 (c_X10_hasSpace (ab_s (ab_s (ab_s (ab_s s 60 bg) 61 sw) 63 lo) 62 ln) w (by omega) (show 0 ≤ lo w ∧ lo w < 60 by omega) (show ab_r (s 59 (lo w + 1) - 1) by unfold ab_r; omega)) lk_X10_215 rfl (Or.inl ⟨9, _, TX10, 24, gw_49 _, rfl⟩) rfl ⟨rfl, rfl, (Nat.le_of_ble_eq_true rfl), (Nat.le_of_ble_eq_true rfl), (Nat.le_of_ble_eq_true rfl), (Nat.le_of_ble_eq_true rfl)⟩ (Nat.le_of_ble_eq_true rfl) (fun r9 h9 p9 => ?_)
                obtain ⟨rfl, rfl⟩ := p9
                show V 59 [some (.inr (some 49)), some (.inl w), some (.inl (-1))] [.inl (if w < (s 59 (((lo) w) + 1)) - 1 then 1 else 0), .inl w, .inr (some 62)] (WW (ab_s (ab_s (ab_s (ab_s s 60 bg) 61 sw) 63 lo) 62 ln)) 0 0
                rw [if_neg (show ¬ (w < (s 59 (((lo) w) + 1)) - 1) by omega)]
                show V 59 [some (.inr (some 49)), some (.inl w), some (.inl (-1))] [.inl 0, .inl w, .inr (some 62)] (WW (ab_s (ab_s (ab_s (ab_s s 60 bg) 61 sw) 63 lo) 62 ln)) 0 0
                refine rb_if_ne hV (tgt := 66) dX10_layOut_59 (by decide) (by unfold ab_r at *; omega) (fun z => absurd z (by decide)) (fun _ => ?_)
                refine rb_iconst hV dX10_layOut_62 ?_
                refine rb_goto hV (tgt := 82) dX10_layOut_63 (by decide) ?_
                refine rb_iast hV (f := (ln)) dX10_layOut_82 (gw_62 _) (Nat.le_of_ble_eq_true rfl) (by omega) rfl ((pw_62 _ _).trans (congrArg WW (ab_s_same _ 62 _ _))) ?_
                refine rb_iinc hV (L2 := [some (.inr (some 49)), some (.inl (w + 1)), some (.inl (-1))]) dX10_layOut_83 rfl rfl rfl ?_
                refine rb_goto hV (tgt := 23) dX10_layOut_86 (by decide) ?_
                refine rb_weak hV (L2 := [some (.inr (some 49)), some (.inl (w + 1)), none]) ⟨rfl, ⟨rfl, trivial⟩⟩ ?_
                refine ih23 (w + 1) (ab_u (ln) w 0) ?_ ?_ ?_ ?_ ?_
                · omega
                · obtain ⟨abv, hL⟩ := g2
                  exact ⟨abv, LNp_step g1.1 hL (fun _ _ _ => rfl) (fun j _ q => ab_u_ne (by omega)) (fun _ _ _ => rfl) (fun z => absurd (slF_no e33) z)⟩
                · intro v
                  by_cases e : v = w
                  · rw [e, ab_u_eq]
                    omega
                  · rw [ab_u_ne e]
                    exact g3 v
                · intro v q1 q2 q3
                  by_cases e : v = w
                  · rw [e, ab_u_eq]
                  · rw [ab_u_ne e]
                    exact g4 v q1 (by omega) q3
                · omega
        refine h23 _ 0 (s 62) ?_ ?_ ?_ ?_ (Nat.lt_succ_self _)
        · omega
        · exact ⟨fun _ => 0, fun v q1 q2 => by omega⟩
        · exact hln
        · intro v q1 q2; omega
      · have hli := hv.2.1 i h1.1 (by omega)
        have hli2 : s 59 (i + 1) ≤ s 120 0 := hli.2.2.1
        have hli3 := hli.2.1
        have hli1 := hli.1
        refine rb_aload_n hV dX10_layOut_10 rfl rfl ?_
        refine rb_iload_n hV dX10_layOut_11 rfl rfl ?_
        refine rb_callV hV (rest := []) dX10_layOut_12 (c_X10_layLine (ab_s (ab_s (ab_s s 60 bg) 61 sw) 63 lo) i hp hv (show 0 ≤ i ∧ i < s 125 0 by omega)) lk_X10_224 rfl (Or.inl ⟨9, _, TX10, 24, gw_49 _, rfl⟩) rfl ⟨rfl, rfl, (Nat.le_of_ble_eq_true rfl), (Nat.le_of_ble_eq_true rfl), (Nat.le_of_ble_eq_true rfl), (Nat.le_of_ble_eq_true rfl)⟩ (Nat.le_of_ble_eq_true rfl) (fun r9 h9 p9 => ?_)
        obtain ⟨rfl, be1, gw, lo1, rfl, hgw1, hgw2, hgw3, hpw1, hpw2⟩ := p9
        refine rb_heq (b := (ab_s (ab_s (ab_s s 60 be1) 61 gw) 63 lo1)) ((congrArg (fun x => ab_s x 63 _) ((congrArg (fun x => ab_s x 61 _) ((ab_s_sw (by decide)).trans (congrArg (fun x => ab_s x 63 _) ((ab_s_sw (by decide)).trans (congrArg (fun x => ab_s x 61 _) (ab_s_same _ 60 _ _)))))).trans ((ab_s_sw (by decide)).trans (congrArg (fun x => ab_s x 63 _) (ab_s_same _ 61 _ _))))).trans (ab_s_same _ 63 _ _)) ?_
        show V 15 [some (.inr (some 49)), some (.inl i), none] [] (WW (ab_s (ab_s (ab_s s 60 be1) 61 gw) 63 lo1)) 0 0
        refine rb_iinc hV (L2 := [some (.inr (some 49)), some (.inl (i + 1)), none]) dX10_layOut_15 rfl rfl rfl ?_
        refine rb_goto hV (tgt := 2) dX10_layOut_18 (by decide) ?_
        refine ih2 (i + 1) (be1) (gw) (lo1) ?_ ?_ ?_ ?_
        · omega
        · exact LDY_step hv h1.1 (by omega) h2 hgw1 hgw2 hpw1 hpw2
        · intro v
          by_cases q : s 59 i ≤ v ∧ v < s 59 (i + 1) - 1
          · rw [hgw1 v q.1 q.2]
            have := swF_b hp hli.1 (b := s 59 (i + 1) - 1) (by omega) (show s 59 (i + 1) - 1 < s 120 0 by omega) v q.1 q.2
            exact ⟨Int.le_trans (by decide) this.1, Int.le_trans this.2 (by decide)⟩
          · by_cases q2 : v = s 59 (i + 1) - 1
            · rw [q2, show gw (s 59 (i + 1) - 1) = 0 from hgw3]
              omega
            · rw [hgw2 v (by show ¬ (s 59 i ≤ v ∧ v ≤ s 59 (i + 1) - 1); omega)]
              exact h3 v
        · omega
  refine h2 _ 0 (s 60) (s 61) (s 63) ?_ ?_ ?_ (Nat.lt_succ_self _)
  · omega
  · intro k q1 q2; omega
  · exact hsw

set_option maxRecDepth 20000 in
theorem c_X10_goOn (s : Nat → Int → Int) (l0 w0 : Int) (hp : PI (vM s)) (hbw : BW (vM s) (s 57) (s 58)) (h : 0 ≤ w0 ∧ w0 ≤ s 120 0 ∧ 0 ≤ s 57 w0) (hl : 0 ≤ l0 ∧ l0 ≤ w0) (hLV : LV (vM s) (go (s 58) (s 120 0) (s 120 0 - w0).toNat l0 w0 (s 59)).2 (go (s 58) (s 120 0) (s 120 0 - w0).toNat l0 w0 (s 59)).1) (hz : 0 < (go (s 58) (s 120 0) (s 120 0 - w0).toNat l0 w0 (s 59)).1) (hsw : ∀ v, -1000 ≤ s 61 v ∧ s 61 v ≤ 1000) (hln : ∀ v, 0 ≤ s 62 v ∧ s 62 v ≤ 60) : ab_Mt yX10_goOn cX10_goOn 4 none ({ frames := 5, cells := 0, slots := 0, locals := 121 } : Room) false 0 0 [.inr (some 49), .inl l0, .inl w0] (WW s) (fun r h2 => r = none ∧ ∃ nl fw bg sw lo ln, h2 = WW (ab_s (ab_s (ab_s (ab_s (ab_s (ab_s s 125 (fun _ => nl)) 59 fw) 60 bg) 61 sw) 63 lo) 62 ln) ∧ (nl, fw) = (go (s 58) (s 120 0) (s 120 0 - w0).toNat l0 w0 (s 59)) ∧ MST (vM s) fw nl sw lo bg ln) := by
  refine ab_mk RX10 false rfl pn_X10_goOn (fun z => by cases z) (Nat.le_of_ble_eq_true rfl) (fun V hV => ?_)
  show V 0 [some (.inr (some 49)), some (.inl l0), some (.inl w0), none] [] (WW s) 0 0
  have hn : 0 ≤ s 120 0 ∧ s 120 0 ≤ 60 := hp.1
  have hms : 10 ≤ s 117 0 ∧ s 117 0 ≤ 200 := hp.2.2.1
  refine rb_iload_n hV dX10_goOn_0 rfl rfl ?_
  refine rb_istore_n hV (L2 := [some (.inr (some 49)), some (.inl l0), some (.inl w0), some (.inl w0)]) dX10_goOn_1 rfl (Nat.le_of_ble_eq_true rfl) rfl ?_
  refine rb_aload_n hV dX10_goOn_2 rfl rfl ?_
  refine rb_iload_n hV dX10_goOn_3 rfl rfl ?_
  refine rb_put hV (C := RX10) (T := TX10) (N := 24) (ci := 9) (j := 17) dX10_goOn_4 rfl (Nat.le_of_ble_eq_true rfl) lf_X10_147 rfl (gw_49 _) (Nat.le_of_ble_eq_true rfl) (ft_X10_17 _) (pw_49_17 _ _) ?_
  refine rb_heq (b := (ab_s (ab_s s 125 (fun _ => l0)) 59 (s 59))) (ab_s_id rfl).symm ?_
  have h7 : ∀ (n7 : Nat) (w : Int) (i : Int) (f : Int → Int), (0 ≤ w ∧ w ≤ s 120 0 ∧ 0 ≤ s 57 w ∧ 0 ≤ i ∧ i ≤ w) → (go (s 58) (s 120 0) (s 120 0 - w).toNat i w f = (go (s 58) (s 120 0) (s 120 0 - w0).toNat l0 w0 (s 59))) → ((s 120 0 - w).toNat) < n7 → V 7 [some (.inr (some 49)), some (.inl l0), some (.inl w0), some (.inl w)] [] (WW (ab_s (ab_s s 125 (fun _ => i)) 59 f)) 0 0 := by
    intro n7
    induction n7 with
    | zero => intro w i f h1 h2 hm; omega
    | succ n7 ih7 =>
      intro w i f h1 h2 hm
      refine rb_iload_n hV dX10_goOn_7 rfl rfl ?_
      refine rb_aload_n hV dX10_goOn_8 rfl rfl ?_
      refine rb_get hV (v := .inl (s 120 0)) dX10_goOn_9 ⟨RX10, TX10, 24, rfl, (Nat.le_of_ble_eq_true rfl), lf_X10_90⟩ (gw_49 _) rfl ?_
      refine rb_icmp_ge hV (tgt := 47) dX10_goOn_12 (by decide) ⟨(by unfold ab_r at *; omega), (by unfold ab_r at *; omega)⟩ (fun c12 => ?_) (fun c12 => ?_)
      · rw [go_end _ (by omega)] at h2
        rw [← h2] at hLV hz
        refine rb_aload_n hV dX10_goOn_47 rfl rfl ?_
        refine rb_get hV (v := .inr (some 59)) dX10_goOn_48 ⟨RX10, TX10, 24, rfl, (Nat.le_of_ble_eq_true rfl), lf_X10_48⟩ (gw_49 _) rfl ?_
        refine rb_aload_n hV dX10_goOn_51 rfl rfl ?_
        refine rb_get hV (v := .inl i) dX10_goOn_52 ⟨RX10, TX10, 24, rfl, (Nat.le_of_ble_eq_true rfl), lf_X10_147⟩ (gw_49 _) rfl ?_
        refine rb_aload_n hV dX10_goOn_55 rfl rfl ?_
        refine rb_get hV (v := .inl (s 120 0)) dX10_goOn_56 ⟨RX10, TX10, 24, rfl, (Nat.le_of_ble_eq_true rfl), lf_X10_90⟩ (gw_49 _) rfl ?_
        refine rb_iast hV (f := (f)) dX10_goOn_59 (gw_59 _) (Nat.le_of_ble_eq_true rfl) (by omega) rfl ((pw_59 _ _).trans (congrArg WW (ab_s_same _ 59 _ _))) ?_
        refine rb_aload_n hV dX10_goOn_60 rfl rfl ?_
        refine rb_callV hV (rest := []) dX10_goOn_61 (c_X10_layOut (ab_s (ab_s s 125 (fun _ => i)) 59 (ab_u (f) i (s 120 0))) hp hLV hz hsw hln) lk_X10_179 rfl (Or.inl ⟨9, _, TX10, 24, gw_49 _, rfl⟩) rfl ⟨rfl, rfl, (Nat.le_of_ble_eq_true rfl), (Nat.le_of_ble_eq_true rfl), (Nat.le_of_ble_eq_true rfl), (Nat.le_of_ble_eq_true rfl)⟩ (Nat.le_of_ble_eq_true rfl) (fun r9 h9 p9 => ?_)
        obtain ⟨rfl, bg, sw, lo, ln, rfl, hsb, hms⟩ := p9
        show V 64 [some (.inr (some 49)), some (.inl l0), some (.inl w0), some (.inl w)] [] (WW (ab_s (ab_s (ab_s (ab_s (ab_s (ab_s s 125 (fun _ => i)) 59 (ab_u (f) i (s 120 0))) 60 bg) 61 sw) 63 lo) 62 ln)) 0 0
        refine rb_ret hV (r := none) dX10_goOn_64 rfl ⟨(Nat.le_of_ble_eq_true rfl), (Nat.le_of_ble_eq_true rfl)⟩ trivial ?_
        exact ⟨rfl, _, _, _, _, _, _, rfl, h2, hms⟩
      · have hy := BW_WY hbw w h1.1 (show w < s 120 0 by omega) h1.2.2.1
        have hy3 : 0 ≤ s 57 (s 58 w + 1) := hy.2.2
        have hy2 : s 58 w < s 120 0 := hy.2.1
        have hy1 : w ≤ s 58 w := hy.1
        refine rb_aload_n hV dX10_goOn_15 rfl rfl ?_
        refine rb_get hV (v := .inr (some 59)) dX10_goOn_16 ⟨RX10, TX10, 24, rfl, (Nat.le_of_ble_eq_true rfl), lf_X10_48⟩ (gw_49 _) rfl ?_
        refine rb_aload_n hV dX10_goOn_19 rfl rfl ?_
        refine rb_get hV (v := .inl i) dX10_goOn_20 ⟨RX10, TX10, 24, rfl, (Nat.le_of_ble_eq_true rfl), lf_X10_147⟩ (gw_49 _) rfl ?_
        refine rb_iload_n hV dX10_goOn_23 rfl rfl ?_
        refine rb_iast hV (f := (f)) dX10_goOn_24 (gw_59 _) (Nat.le_of_ble_eq_true rfl) (by omega) rfl ((pw_59 _ _).trans (congrArg WW (ab_s_same _ 59 _ _))) ?_
        refine rb_aload_n hV dX10_goOn_25 rfl rfl ?_
        refine rb_get hV (v := .inr (some 58)) dX10_goOn_26 ⟨RX10, TX10, 24, rfl, (Nat.le_of_ble_eq_true rfl), lf_X10_45⟩ (gw_49 _) rfl ?_
        refine rb_iload_n hV dX10_goOn_29 rfl rfl ?_
        refine rb_iald hV (f := (s 58)) dX10_goOn_30 (gw_58 _) (Nat.le_of_ble_eq_true rfl) (by omega) ?_
        refine rb_iconst hV dX10_goOn_31 ?_
        refine rb_iadd hV dX10_goOn_32 ?_
        refine rb_istore_n hV (L2 := [some (.inr (some 49)), some (.inl l0), some (.inl w0), some (.inl ((s 58 w) + 1))]) dX10_goOn_33 rfl (Nat.le_of_ble_eq_true rfl) rfl ?_
        refine rb_aload_n hV dX10_goOn_34 rfl rfl ?_
        refine rb_dup hV dX10_goOn_35 ?_
        refine rb_get hV (v := .inl i) dX10_goOn_36 ⟨RX10, TX10, 24, rfl, (Nat.le_of_ble_eq_true rfl), lf_X10_147⟩ (gw_49 _) rfl ?_
        refine rb_iconst hV dX10_goOn_39 ?_
        refine rb_iadd hV dX10_goOn_40 ?_
        refine rb_put hV (C := RX10) (T := TX10) (N := 24) (ci := 9) (j := 17) dX10_goOn_41 rfl (Nat.le_of_ble_eq_true rfl) lf_X10_147 rfl (gw_49 _) (Nat.le_of_ble_eq_true rfl) (ft_X10_17 _) ((pw_49_17 _ _).trans (congrArg WW ((ab_s_sw (by decide)).trans (congrArg (fun x => ab_s x 59 _) (ab_s_same _ 125 _ _))))) ?_
        refine rb_goto hV (tgt := 7) dX10_goOn_44 (by decide) ?_
        refine ih7 ((s 58 w) + 1) (i + 1) (ab_u (f) i w) ?_ ?_ ?_
        · omega
        · exact (go_step (BW_WY hbw) h1.1 (show w < s 120 0 by omega) h1.2.2.1).symm.trans h2
        · omega
  refine h7 _ w0 l0 (s 59) ?_ ?_ (Nat.lt_succ_self _)
  · omega
  · rfl

theorem BW_best {d : Nat → Int → Int} {bs be fw : Int → Int} (hp : PI d) (h : BW d bs be) (hn : 0 < d 0 0) (hb : 0 ≤ bs 0) : LV d (go be (d 0 0) (d 0 0 - 0).toNat 0 0 fw).2 (go be (d 0 0) (d 0 0 - 0).toNat 0 0 fw).1 :=
  go_LV h (Int.le_refl 0) hp.1.1 hb (Int.le_refl 0) (Int.le_refl 0) (Or.inr ⟨rfl, hn⟩) (fun i q1 q2 => by omega) (fun q => by omega)
theorem BW_pos {d : Nat → Int → Int} {bs be fw : Int → Int} (hp : PI d) (h : BW d bs be) (hn : 0 < d 0 0) (hb : 0 ≤ bs 0) : 0 < (go be (d 0 0) (d 0 0 - 0).toNat 0 0 fw).1 :=
  (go_props h (d 0 0 - 0).toNat 0 0 fw (Int.le_refl 0) hp.1.1 hb (by omega) (Int.le_refl 0)).1.2.2 hn
theorem BW_end {d : Nat → Int → Int} {bs be fw fw0 : Int → Int} {nl l q : Int} (h : BW d bs be) (hv : LV d fw nl) (h0 : 0 ≤ l) (h1 : l < nl) (hq : fw l ≤ q ∧ q < d 0 0 ∧ ps d (fw l) q = true ∧ 0 ≤ bs (q + 1)) (hf : ∀ j, 0 ≤ j → j ≤ l → fw0 j = fw j) : LV d (go be (d 0 0) (d 0 0 - (q + 1)).toNat (l + 1) (q + 1) fw0).2 (go be (d 0 0) (d 0 0 - (q + 1)).toNat (l + 1) (q + 1) fw0).1 ∧ l < (go be (d 0 0) (d 0 0 - (q + 1)).toNat (l + 1) (q + 1) fw0).1 := by
  have hz := hv.2.2 (by omega)
  have m := fw_le hv (i := 0) (j := l) (Int.le_refl 0) h0 (by omega)
  refine ⟨go_LV h (by omega) (by omega) hq.2.2.2 (by omega) (by omega) (Or.inl (by omega)) (fun i q1 q2 => ?_) (fun _ => by rw [hf 0 (Int.le_refl 0) h0]; exact hz.1), ?_⟩
  · have a := hv.2.1 i q1 (by omega)
    rw [hf i q1 (by omega)]
    by_cases e : i + 1 = l + 1
    · rw [if_pos e, show i = l by omega, show q + 1 - 1 = q by omega]
      have a2 := hv.2.1 l h0 h1
      exact ⟨a2.1, by omega, by omega, hq.2.2.1⟩
    · rw [if_neg e, hf (i + 1) (by omega) (by omega)]
      exact a
  · have := (go_props h (d 0 0 - (q + 1)).toNat (l + 1) (q + 1) fw0 (by omega) (by omega) hq.2.2.2 (by omega) (by omega)).1.1
    omega
theorem MST_0 {d : Nat → Int → Int} (fw : Int → Int) {sw lo bg ln : Int → Int} (h1 : ∀ v, -1000 ≤ sw v ∧ sw v ≤ 1000) (h2 : ∀ v, 0 ≤ ln v ∧ ln v ≤ 60) : MST d fw 0 sw lo bg ln :=
  ⟨_, 0, 0, 0, fun _ => 0, fun _ => 0, fun _ => 0, ⟨rfl, fun i a b => by omega, h1, Or.inl ⟨rfl, rfl, rfl, rfl, h2⟩⟩, fun i a b => by omega, fun z => absurd rfl z⟩
/-- what the reference holds -/
def MI (s : Nat → Int → Int) : Prop := PI (vM s) ∧ BWq (vM s) (s 57) (s 58) (-1) ∧ LV (vM s) (s 59) (s 125 0) ∧ MST (vM s) (s 59) (s 125 0) (s 61) (s 63) (s 60) (s 62) ∧ (s 125 0 = 0 ↔ ¬ (0 < s 120 0 ∧ 0 ≤ s 57 0)) ∧ (0 ≤ s 121 0 ∧ s 121 0 ≤ 120) ∧ ∀ v, 0 ≤ s 56 v ∧ s 56 v < 65536
def MP (s : Nat → Int → Int) : Prop := PI (vM s) ∧ (∀ v, -1000 ≤ s 61 v ∧ s 61 v ≤ 1000) ∧ (∀ v, 0 ≤ s 62 v ∧ s 62 v ≤ 60) ∧ (0 ≤ s 121 0 ∧ s 121 0 ≤ 120) ∧ ∀ v, 0 ≤ s 56 v ∧ s 56 v < 65536
theorem MST_b {d : Nat → Int → Int} {fw : Int → Int} {nl : Int} {sw lo bg ln : Int → Int} (h : MST d fw nl sw lo bg ln) : (∀ v, -1000 ≤ sw v ∧ sw v ≤ 1000) ∧ ∀ v, 0 ≤ ln v ∧ ln v ≤ 60 := by
  obtain ⟨dem, am, str, gl, gn, abv, en, h1, h2, h3⟩ := h
  exact ⟨h1.2.2.1, RVX_ln h1.2.2.2⟩
theorem MI_MP {s : Nat → Int → Int} (h : MI s) : MP s := ⟨h.1, (MST_b h.2.2.2.1).1, (MST_b h.2.2.2.1).2, h.2.2.2.2.2⟩
def MBEST (s : Nat → Int → Int) : Prop := (0 < s 120 0 ∧ 0 ≤ s 57 0) → ∃ f0, (s 125 0, s 59) = go (s 58) (s 120 0) (s 120 0 - 0).toNat 0 0 f0
def MBk : List Nat := [57, 58, 125, 59, 60, 61, 63, 62]
def LBM : List Nat := [125, 59, 60, 61, 63, 62]

set_option maxRecDepth 20000 in
theorem c_X10_layAnew (s : Nat → Int → Int) (hx : MP s) : ab_Mt yX10_layAnew cX10_layAnew 1 none ({ frames := 6, cells := 0, slots := 0, locals := 144 } : Room) false 0 0 [.inr (some 49)] (WW s) (fun r h2 => ∃ s2, r = none ∧ h2 = WW s2 ∧ MI s2 ∧ MBEST s2 ∧ KEEP MBk s s2) := by
  refine ab_mk RX10 false rfl pn_X10_layAnew (fun z => by cases z) (Nat.le_of_ble_eq_true rfl) (fun V hV => ?_)
  show V 0 [some (.inr (some 49))] [] (WW s) 0 0
  have hp := hx.1
  have hn : 0 ≤ s 120 0 ∧ s 120 0 ≤ 60 := hp.1
  have hms : 10 ≤ s 117 0 ∧ s 117 0 ≤ 200 := hp.2.2.1
  refine rb_aload_n hV dX10_layAnew_0 rfl rfl ?_
  refine rb_callV hV (rest := []) dX10_layAnew_1 (c_X10_findWays s hp) lk_X10_182 rfl (Or.inl ⟨9, _, TX10, 24, gw_49 _, rfl⟩) rfl ⟨rfl, rfl, (Nat.le_of_ble_eq_true rfl), (Nat.le_of_ble_eq_true rfl), (Nat.le_of_ble_eq_true rfl), (Nat.le_of_ble_eq_true rfl)⟩ (Nat.le_of_ble_eq_true rfl) (fun r9 h9 p9 => ?_)
  obtain ⟨rfl, bs, bes, rfl, hbw⟩ := p9
  show V 4 [some (.inr (some 49))] [] (WW (ab_s (ab_s s 57 bs) 58 bes)) 0 0
  refine rb_aload_n hV dX10_layAnew_4 rfl rfl ?_
  refine rb_iconst hV dX10_layAnew_5 ?_
  refine rb_put hV (C := RX10) (T := TX10) (N := 24) (ci := 9) (j := 17) dX10_layAnew_6 rfl (Nat.le_of_ble_eq_true rfl) lf_X10_147 rfl (gw_49 _) (Nat.le_of_ble_eq_true rfl) (ft_X10_17 _) (pw_49_17 _ _) ?_
  refine rb_aload_n hV dX10_layAnew_9 rfl rfl ?_
  refine rb_callV hV (rest := []) dX10_layAnew_10 (c_X10_hasWay (ab_s (ab_s (ab_s s 57 bs) 58 bes) 125 (fun _ => 0)) (show 0 ≤ (s 120 0) ∧ (s 120 0) ≤ 60 by omega) (show -1 ≤ bs 0 ∧ bs 0 ≤ 732000 from BWq_BS hp hbw 0 (Int.le_refl 0) hp.1.1)) lk_X10_185 rfl (Or.inl ⟨9, _, TX10, 24, gw_49 _, rfl⟩) rfl ⟨rfl, rfl, (Nat.le_of_ble_eq_true rfl), (Nat.le_of_ble_eq_true rfl), (Nat.le_of_ble_eq_true rfl), (Nat.le_of_ble_eq_true rfl)⟩ (Nat.le_of_ble_eq_true rfl) (fun r9 h9 p9 => ?_)
  obtain ⟨rfl, rfl⟩ := p9
  show V 13 [some (.inr (some 49))] [.inl (if 0 < (s 120 0) ∧ 0 ≤ (bs) 0 then 1 else 0)] (WW (ab_s (ab_s (ab_s s 57 bs) 58 bes) 125 (fun _ => 0))) 0 0
  by_cases e10 : 0 < (s 120 0) ∧ 0 ≤ (bs) 0
  · rw [if_pos e10]
    show V 13 [some (.inr (some 49))] [.inl 1] (WW (ab_s (ab_s (ab_s s 57 bs) 58 bes) 125 (fun _ => 0))) 0 0
    refine rb_if_eq hV (tgt := 22) dX10_layAnew_13 (by decide) (by unfold ab_r at *; omega) (fun z => absurd z (by decide)) (fun _ => ?_)
    have hLV := BW_best (fw := s 59) hp (BWq_BW hbw) (show 0 < vM s 0 0 from e10.1) e10.2
    have hz1 : 0 < (go bes (s 120 0) (s 120 0 - 0).toNat 0 0 (s 59)).1 := BW_pos (fw := s 59) hp (BWq_BW hbw) (show 0 < vM s 0 0 from e10.1) e10.2
    refine rb_aload_n hV dX10_layAnew_16 rfl rfl ?_
    refine rb_iconst hV dX10_layAnew_17 ?_
    refine rb_iconst hV dX10_layAnew_18 ?_
    refine rb_callV hV (rest := []) dX10_layAnew_19 (c_X10_goOn (ab_s (ab_s (ab_s s 57 bs) 58 bes) 125 (fun _ => 0)) 0 0 hp (BWq_BW hbw) ⟨Int.le_refl 0, hn.1, e10.2⟩ ⟨Int.le_refl 0, Int.le_refl 0⟩ hLV hz1 hx.2.1 hx.2.2.1) lk_X10_189 rfl (Or.inl ⟨9, _, TX10, 24, gw_49 _, rfl⟩) rfl ⟨rfl, rfl, (Nat.le_of_ble_eq_true rfl), (Nat.le_of_ble_eq_true rfl), (Nat.le_of_ble_eq_true rfl), (Nat.le_of_ble_eq_true rfl)⟩ (Nat.le_of_ble_eq_true rfl) (fun r9 h9 p9 => ?_)
    obtain ⟨rfl, nl, fw, bg, sw, lo, ln, rfl, hgo, hms⟩ := p9
    replace hgo : (nl, fw) = (go (bes) (s 120 0) ((s 120 0) - 0).toNat 0 0 (s 59)) := hgo
    refine rb_heq (b := (ab_s (ab_s (ab_s (ab_s (ab_s (ab_s (ab_s (ab_s s 57 bs) 58 bes) 125 (fun _ => nl)) 59 fw) 60 bg) 61 sw) 63 lo) 62 ln)) (congrArg (fun x => ab_s x 62 _) (congrArg (fun x => ab_s x 63 _) (congrArg (fun x => ab_s x 61 _) (congrArg (fun x => ab_s x 60 _) (congrArg (fun x => ab_s x 59 _) (ab_s_same _ 125 _ _)))))) ?_
    show V 22 [some (.inr (some 49))] [] (WW (ab_s (ab_s (ab_s (ab_s (ab_s (ab_s (ab_s (ab_s s 57 bs) 58 bes) 125 (fun _ => nl)) 59 fw) 60 bg) 61 sw) 63 lo) 62 ln)) 0 0
    refine rb_ret hV (r := none) dX10_layAnew_22 rfl ⟨(Nat.le_of_ble_eq_true rfl), (Nat.le_of_ble_eq_true rfl)⟩ trivial ?_
    have hnz : nl = (go bes (s 120 0) (s 120 0 - 0).toNat 0 0 (s 59)).1 := congrArg Prod.fst hgo
    have hfz : fw = (go bes (s 120 0) (s 120 0 - 0).toNat 0 0 (s 59)).2 := congrArg Prod.snd hgo
    exact ⟨_, rfl, rfl, ⟨hp, hbw, by show LV (vM s) fw nl; rw [hnz, hfz]; exact hLV, hms, ⟨fun z => by have z2 : nl = 0 := z; omega, fun z => absurd e10 z⟩, hx.2.2.2⟩, fun _ => ⟨_, hgo⟩, (fun j hj => ((ab_keep hj (by decide)).trans ((ab_keep hj (by decide)).trans ((ab_keep hj (by decide)).trans ((ab_keep hj (by decide)).trans ((ab_keep hj (by decide)).trans ((ab_keep hj (by decide)).trans ((ab_keep hj (by decide)).trans ((ab_keep hj (by decide)).trans rfl)))))))))⟩
  · rw [if_neg e10]
    show V 13 [some (.inr (some 49))] [.inl 0] (WW (ab_s (ab_s (ab_s s 57 bs) 58 bes) 125 (fun _ => 0))) 0 0
    refine rb_if_eq hV (tgt := 22) dX10_layAnew_13 (by decide) (by unfold ab_r at *; omega) (fun _ => ?_) (fun z => absurd z (by decide))
    refine rb_ret hV (r := none) dX10_layAnew_22 rfl ⟨(Nat.le_of_ble_eq_true rfl), (Nat.le_of_ble_eq_true rfl)⟩ trivial ?_
    exact ⟨_, rfl, rfl, ⟨hp, hbw, LV_0 _ hp, MST_0 _ hx.2.1 hx.2.2.1, ⟨fun _ => e10, fun _ => rfl⟩, hx.2.2.2⟩, fun z => absurd z e10, (fun j hj => ((ab_keep hj (by decide)).trans ((ab_keep hj (by decide)).trans ((ab_keep hj (by decide)).trans rfl))))⟩

set_option maxRecDepth 20000 in
theorem c_X10_layBest (s : Nat → Int → Int) (hx : MI s) : ab_Mt yX10_layBest cX10_layBest 1 (some .int) ({ frames := 6, cells := 0, slots := 0, locals := 144 } : Room) false 0 0 [.inr (some 49)] (WW s) (fun r h2 => (¬ (0 < s 120 0 ∧ 0 ≤ s 57 0) ∧ RO s (-1004) r h2) ∨ ((0 < s 120 0 ∧ 0 ≤ s 57 0) ∧ ∃ s2, r = some (.inl (s2 125 0)) ∧ h2 = WW s2 ∧ MI s2 ∧ MBEST s2 ∧ KEEP LBM s s2)) := by
  refine ab_mk RX10 false rfl pn_X10_layBest (fun z => by cases z) (Nat.le_of_ble_eq_true rfl) (fun V hV => ?_)
  show V 0 [some (.inr (some 49))] [] (WW s) 0 0
  obtain ⟨hp, hbw, hv, hms0, hz0, hx3, hx4⟩ := id hx
  have hn : 0 ≤ s 120 0 ∧ s 120 0 ≤ 60 := hp.1
  have hnl : 0 ≤ s 125 0 ∧ s 125 0 ≤ s 120 0 := hv.1
  have hb := BWq_BS hp hbw
  have hsw := (MST_b hms0).1
  have hln := (MST_b hms0).2
  refine rb_aload_n hV dX10_layBest_0 rfl rfl ?_
  refine rb_callV hV (rest := []) dX10_layBest_1 (c_X10_hasWay s (show 0 ≤ (s 120 0) ∧ (s 120 0) ≤ 60 by omega) (hb 0 (Int.le_refl 0) hp.1.1)) lk_X10_185 rfl (Or.inl ⟨9, _, TX10, 24, gw_49 _, rfl⟩) rfl ⟨rfl, rfl, (Nat.le_of_ble_eq_true rfl), (Nat.le_of_ble_eq_true rfl), (Nat.le_of_ble_eq_true rfl), (Nat.le_of_ble_eq_true rfl)⟩ (Nat.le_of_ble_eq_true rfl) (fun r9 h9 p9 => ?_)
  obtain ⟨rfl, rfl⟩ := p9
  show V 4 [some (.inr (some 49))] [.inl (if 0 < (s 120 0) ∧ 0 ≤ (s 57) 0 then 1 else 0)] (WW s) 0 0
  by_cases e1 : 0 < (s 120 0) ∧ 0 ≤ (s 57) 0
  · rw [if_pos e1]
    show V 4 [some (.inr (some 49))] [.inl 1] (WW s) 0 0
    refine rb_if_ne hV (tgt := 11) dX10_layBest_4 (by decide) (by unfold ab_r at *; omega) (fun _ => ?_) (fun z => absurd z (by decide))
    have hLV := BW_best (fw := s 59) hp (BWq_BW hbw) (show 0 < vM s 0 0 from e1.1) e1.2
    have hz1 : 0 < (go (s 58) (s 120 0) (s 120 0 - 0).toNat 0 0 (s 59)).1 := BW_pos (fw := s 59) hp (BWq_BW hbw) (show 0 < vM s 0 0 from e1.1) e1.2
    refine rb_aload_n hV dX10_layBest_11 rfl rfl ?_
    refine rb_iconst hV dX10_layBest_12 ?_
    refine rb_iconst hV dX10_layBest_13 ?_
    refine rb_callV hV (rest := []) dX10_layBest_14 (c_X10_goOn s 0 0 hp (BWq_BW hbw) ⟨Int.le_refl 0, hn.1, e1.2⟩ ⟨Int.le_refl 0, Int.le_refl 0⟩ hLV hz1 hsw hln) lk_X10_189 rfl (Or.inl ⟨9, _, TX10, 24, gw_49 _, rfl⟩) rfl ⟨rfl, rfl, (Nat.le_of_ble_eq_true rfl), (Nat.le_of_ble_eq_true rfl), (Nat.le_of_ble_eq_true rfl), (Nat.le_of_ble_eq_true rfl)⟩ (Nat.le_of_ble_eq_true rfl) (fun r9 h9 p9 => ?_)
    obtain ⟨rfl, nl, fw, bg, sw, lo, ln, rfl, hgo, hms⟩ := p9
    replace hgo : (nl, fw) = (go (s 58) (s 120 0) ((s 120 0) - 0).toNat 0 0 (s 59)) := hgo
    show V 17 [some (.inr (some 49))] [] (WW (ab_s (ab_s (ab_s (ab_s (ab_s (ab_s s 125 (fun _ => nl)) 59 fw) 60 bg) 61 sw) 63 lo) 62 ln)) 0 0
    refine rb_aload_n hV dX10_layBest_17 rfl rfl ?_
    refine rb_get hV (v := .inl nl) dX10_layBest_18 ⟨RX10, TX10, 24, rfl, (Nat.le_of_ble_eq_true rfl), lf_X10_147⟩ (gw_49 _) rfl ?_
    refine rb_ret hV (r := some (.inl nl)) dX10_layBest_21 rfl ⟨(Nat.le_of_ble_eq_true rfl), (Nat.le_of_ble_eq_true rfl)⟩ trivial ?_
    have hnz : nl = (go (s 58) (s 120 0) (s 120 0 - 0).toNat 0 0 (s 59)).1 := congrArg Prod.fst hgo
    have hfz : fw = (go (s 58) (s 120 0) (s 120 0 - 0).toNat 0 0 (s 59)).2 := congrArg Prod.snd hgo
    exact Or.inr ⟨e1, _, rfl, rfl, ⟨hp, hbw, by show LV (vM s) fw nl; rw [hnz, hfz]; exact hLV, hms, ⟨fun z => by have z2 : nl = 0 := z; omega, fun z => absurd e1 z⟩, hx3, hx4⟩, fun _ => ⟨_, hgo⟩, (fun j hj => ((ab_keep hj (by decide)).trans ((ab_keep hj (by decide)).trans ((ab_keep hj (by decide)).trans ((ab_keep hj (by decide)).trans ((ab_keep hj (by decide)).trans ((ab_keep hj (by decide)).trans rfl)))))))⟩
  · rw [if_neg e1]
    show V 4 [some (.inr (some 49))] [.inl 0] (WW s) 0 0
    refine rb_if_ne hV (tgt := 11) dX10_layBest_4 (by decide) (by unfold ab_r at *; omega) (fun z => absurd z (by decide)) (fun _ => ?_)
    refine rb_sipush hV dX10_layBest_7 (by decide) ?_
    refine rb_ret hV (r := some (.inl (-1004))) dX10_layBest_10 rfl ⟨(Nat.le_of_ble_eq_true rfl), (Nat.le_of_ble_eq_true rfl)⟩ trivial ?_
    exact Or.inl ⟨e1, rfl, rfl⟩

set_option maxRecDepth 20000 in
theorem c_X10_takesSecond (s : Nat → Int → Int) (l : Int) (hx : MI s) (hl : 0 ≤ l ∧ l < s 125 0) (hs : ¬ (sec (vM s) (s 57) (s 59) l) = -1) : ab_Mt yX10_takesSecond cX10_takesSecond 2 none ({ frames := 6, cells := 0, slots := 0, locals := 144 } : Room) false 0 0 [.inr (some 49), .inl l] (WW s) (fun r h2 => ∃ s2, r = none ∧ h2 = WW s2 ∧ MI s2 ∧ KEEP LBM s s2 ∧ (s2 125 0, s2 59) = go (s 58) (s 120 0) (s 120 0 - ((sec (vM s) (s 57) (s 59) l) + 1)).toNat (l + 1) ((sec (vM s) (s 57) (s 59) l) + 1) (s 59)) := by
  refine ab_mk RX10 false rfl pn_X10_takesSecond (fun z => by cases z) (Nat.le_of_ble_eq_true rfl) (fun V hV => ?_)
  show V 0 [some (.inr (some 49)), some (.inl l)] [] (WW s) 0 0
  obtain ⟨hp, hbw, hv, hms0, hz0, hx3, hx4⟩ := id hx
  have hn : 0 ≤ s 120 0 ∧ s 120 0 ≤ 60 := hp.1
  have hnl : 0 ≤ s 125 0 ∧ s 125 0 ≤ s 120 0 := hv.1
  have hb := BWq_BS hp hbw
  have hsw := (MST_b hms0).1
  have hln := (MST_b hms0).2
  have hl0 := hv.2.1 l (by omega) (by omega)
  have hl02 : s 59 (l + 1) ≤ s 120 0 := hl0.2.2.1
  have hl03 := hl0.2.1
  have hl01 : 0 ≤ s 59 l := hl0.1
  refine rb_aload_n hV dX10_takesSecond_0 rfl rfl ?_
  refine rb_iload_n hV dX10_takesSecond_1 rfl rfl ?_
  refine rb_iconst hV dX10_takesSecond_2 ?_
  refine rb_iadd hV dX10_takesSecond_3 ?_
  refine rb_aload_n hV dX10_takesSecond_4 rfl rfl ?_
  refine rb_iload_n hV dX10_takesSecond_5 rfl rfl ?_
  refine rb_callV hV (rest := [.inl (l + 1), .inr (some 49)]) dX10_takesSecond_6 (c_X10_secondOf s l hp hv hb (show 0 ≤ l ∧ l < (s 125 0) by omega)) lk_X10_195 rfl (Or.inl ⟨9, _, TX10, 24, gw_49 _, rfl⟩) rfl ⟨rfl, rfl, (Nat.le_of_ble_eq_true rfl), (Nat.le_of_ble_eq_true rfl), (Nat.le_of_ble_eq_true rfl), (Nat.le_of_ble_eq_true rfl)⟩ (Nat.le_of_ble_eq_true rfl) (fun r9 h9 p9 => ?_)
  obtain ⟨rfl, rfl⟩ := p9
  show V 9 [some (.inr (some 49)), some (.inl l)] [.inl (sec (vM s) (s 57) (s 59) l), .inl (l + 1), .inr (some 49)] (WW s) 0 0
  have hok := sec_ok hs
  have hok2 : (sec (vM s) (s 57) (s 59) l) < s 120 0 := by have e0 : vM s 0 0 = s 120 0 := rfl; have := hok.2.1; have := hl01; omega
  have hE := BW_end (fw0 := s 59) (BWq_BW hbw) hv hl.1 hl.2 ⟨hok.1, hok2, hok.2.2.1, hok.2.2.2⟩ (fun _ _ _ => rfl)
  have hE2 : l < (go (s 58) (s 120 0) (s 120 0 - ((sec (vM s) (s 57) (s 59) l) + 1)).toNat (l + 1) ((sec (vM s) (s 57) (s 59) l) + 1) (s 59)).1 := hE.2
  have hm0 : s 59 0 + (l - 0) ≤ s 59 l := fw_le hv (Int.le_refl 0) hl.1 (by omega)
  have hz00 : s 59 0 = 0 := (hv.2.2 (by omega)).1
  have hok1 := hok.1
  refine rb_iconst hV dX10_takesSecond_9 ?_
  refine rb_iadd hV dX10_takesSecond_10 ?_
  refine rb_callV hV (rest := []) dX10_takesSecond_11 (c_X10_goOn s (l + 1) ((sec (vM s) (s 57) (s 59) l) + 1) hp (BWq_BW hbw) (show 0 ≤ (sec (vM s) (s 57) (s 59) l) + 1 ∧ (sec (vM s) (s 57) (s 59) l) + 1 ≤ s 120 0 ∧ 0 ≤ s 57 ((sec (vM s) (s 57) (s 59) l) + 1) from ⟨by omega, by omega, hok.2.2.2⟩) (show 0 ≤ l + 1 ∧ l + 1 ≤ (sec (vM s) (s 57) (s 59) l) + 1 by omega) hE.1 (by show 0 < (go (s 58) (s 120 0) (s 120 0 - ((sec (vM s) (s 57) (s 59) l) + 1)).toNat (l + 1) ((sec (vM s) (s 57) (s 59) l) + 1) (s 59)).1; omega) hsw hln) lk_X10_189 rfl (Or.inl ⟨9, _, TX10, 24, gw_49 _, rfl⟩) rfl ⟨rfl, rfl, (Nat.le_of_ble_eq_true rfl), (Nat.le_of_ble_eq_true rfl), (Nat.le_of_ble_eq_true rfl), (Nat.le_of_ble_eq_true rfl)⟩ (Nat.le_of_ble_eq_true rfl) (fun r9 h9 p9 => ?_)
  obtain ⟨rfl, nl, fw, bg, sw, lo, ln, rfl, hgo, hms⟩ := p9
  replace hgo : (nl, fw) = (go (s 58) (s 120 0) ((s 120 0) - ((sec (vM s) (s 57) (s 59) l) + 1)).toNat (l + 1) ((sec (vM s) (s 57) (s 59) l) + 1) (s 59)) := hgo
  show V 14 [some (.inr (some 49)), some (.inl l)] [] (WW (ab_s (ab_s (ab_s (ab_s (ab_s (ab_s s 125 (fun _ => nl)) 59 fw) 60 bg) 61 sw) 63 lo) 62 ln)) 0 0
  refine rb_ret hV (r := none) dX10_takesSecond_14 rfl ⟨(Nat.le_of_ble_eq_true rfl), (Nat.le_of_ble_eq_true rfl)⟩ trivial ?_
  have hnz : nl = (go (s 58) (s 120 0) (s 120 0 - ((sec (vM s) (s 57) (s 59) l) + 1)).toNat (l + 1) ((sec (vM s) (s 57) (s 59) l) + 1) (s 59)).1 := congrArg Prod.fst hgo
  have hfz : fw = (go (s 58) (s 120 0) (s 120 0 - ((sec (vM s) (s 57) (s 59) l) + 1)).toNat (l + 1) ((sec (vM s) (s 57) (s 59) l) + 1) (s 59)).2 := congrArg Prod.snd hgo
  exact ⟨_, rfl, rfl, ⟨hp, hbw, by show LV (vM s) fw nl; rw [hnz, hfz]; exact hE.1, hms, ⟨fun z => by have z2 : nl = 0 := z; omega, fun z => by have z2 := hz0.mpr z; omega⟩, hx3, hx4⟩, (fun j hj => ((ab_keep hj (by decide)).trans ((ab_keep hj (by decide)).trans ((ab_keep hj (by decide)).trans ((ab_keep hj (by decide)).trans ((ab_keep hj (by decide)).trans ((ab_keep hj (by decide)).trans rfl))))))), hgo⟩

set_option maxRecDepth 20000 in
theorem c_X10_takeSecond (s : Nat → Int → Int) (l : Int) (hl00 : ab_r l) (hx : MI s) : ab_Mt yX10_takeSecond cX10_takeSecond 2 (some .int) ({ frames := 7, cells := 0, slots := 0, locals := 165 } : Room) false 0 0 [.inr (some 49), .inl l] (WW s) (fun r h2 => (¬ (0 ≤ l ∧ l < s 125 0) ∧ RO s (-1001) r h2) ∨ ((0 ≤ l ∧ l < s 125 0) ∧ (sec (vM s) (s 57) (s 59) l) = -1 ∧ RO s (-1004) r h2) ∨ ((0 ≤ l ∧ l < s 125 0) ∧ ¬ (sec (vM s) (s 57) (s 59) l) = -1 ∧ ∃ s2, r = some (.inl (s2 125 0)) ∧ h2 = WW s2 ∧ MI s2 ∧ KEEP LBM s s2 ∧ (s2 125 0, s2 59) = go (s 58) (s 120 0) (s 120 0 - ((sec (vM s) (s 57) (s 59) l) + 1)).toNat (l + 1) ((sec (vM s) (s 57) (s 59) l) + 1) (s 59))) := by
  refine ab_mk RX10 false rfl pn_X10_takeSecond (fun z => by cases z) (Nat.le_of_ble_eq_true rfl) (fun V hV => ?_)
  show V 0 [some (.inr (some 49)), some (.inl l)] [] (WW s) 0 0
  obtain ⟨hp, hbw, hv, hms0, hz0, hx3, hx4⟩ := id hx
  have hn : 0 ≤ s 120 0 ∧ s 120 0 ≤ 60 := hp.1
  have hnl : 0 ≤ s 125 0 ∧ s 125 0 ≤ s 120 0 := hv.1
  have hb := BWq_BS hp hbw
  have hsw := (MST_b hms0).1
  have hln := (MST_b hms0).2
  refine rb_aload_n hV dX10_takeSecond_0 rfl rfl ?_
  refine rb_iload_n hV dX10_takeSecond_1 rfl rfl ?_
  refine rb_callV hV (rest := []) dX10_takeSecond_2 (c_X10_noLine s l (by unfold ab_r at *; omega) (show 0 ≤ (s 125 0) ∧ (s 125 0) ≤ 60 by omega)) lk_X10_201 rfl (Or.inl ⟨9, _, TX10, 24, gw_49 _, rfl⟩) rfl ⟨rfl, rfl, (Nat.le_of_ble_eq_true rfl), (Nat.le_of_ble_eq_true rfl), (Nat.le_of_ble_eq_true rfl), (Nat.le_of_ble_eq_true rfl)⟩ (Nat.le_of_ble_eq_true rfl) (fun r9 h9 p9 => ?_)
  obtain ⟨rfl, rfl⟩ := p9
  show V 5 [some (.inr (some 49)), some (.inl l)] [.inl (if ¬ (0 ≤ l ∧ l < (s 125 0)) then 1 else 0)] (WW s) 0 0
  by_cases e2 : ¬ (0 ≤ l ∧ l < (s 125 0))
  · rw [if_pos e2]
    show V 5 [some (.inr (some 49)), some (.inl l)] [.inl 1] (WW s) 0 0
    refine rb_if_eq hV (tgt := 12) dX10_takeSecond_5 (by decide) (by unfold ab_r at *; omega) (fun z => absurd z (by decide)) (fun _ => ?_)
    refine rb_sipush hV dX10_takeSecond_8 (by decide) ?_
    refine rb_ret hV (r := some (.inl (-1001))) dX10_takeSecond_11 rfl ⟨(Nat.le_of_ble_eq_true rfl), (Nat.le_of_ble_eq_true rfl)⟩ trivial ?_
    exact Or.inl ⟨e2, rfl, rfl⟩
  · rw [if_neg e2]
    show V 5 [some (.inr (some 49)), some (.inl l)] [.inl 0] (WW s) 0 0
    refine rb_if_eq hV (tgt := 12) dX10_takeSecond_5 (by decide) (by unfold ab_r at *; omega) (fun _ => ?_) (fun z => absurd z (by decide))
    have hl : 0 ≤ l ∧ l < s 125 0 := by omega
    refine rb_aload_n hV dX10_takeSecond_12 rfl rfl ?_
    refine rb_iload_n hV dX10_takeSecond_13 rfl rfl ?_
    refine rb_callV hV (rest := []) dX10_takeSecond_14 (c_X10_secondOf s l hp hv hb (show 0 ≤ l ∧ l < (s 125 0) by omega)) lk_X10_195 rfl (Or.inl ⟨9, _, TX10, 24, gw_49 _, rfl⟩) rfl ⟨rfl, rfl, (Nat.le_of_ble_eq_true rfl), (Nat.le_of_ble_eq_true rfl), (Nat.le_of_ble_eq_true rfl), (Nat.le_of_ble_eq_true rfl)⟩ (Nat.le_of_ble_eq_true rfl) (fun r9 h9 p9 => ?_)
    obtain ⟨rfl, rfl⟩ := p9
    show V 17 [some (.inr (some 49)), some (.inl l)] [.inl (sec (vM s) (s 57) (s 59) l)] (WW s) 0 0
    have hsq : (sec (vM s) (s 57) (s 59) l) = -1 ∨ (0 ≤ (sec (vM s) (s 57) (s 59) l) ∧ (sec (vM s) (s 57) (s 59) l) < s 120 0) := by
      by_cases hq : (sec (vM s) (s 57) (s 59) l) = -1
      · exact Or.inl hq
      · have ho := sec_ok hq
        have hl0 := (hv.2.1 l hl.1 hl.2)
        have e0 : vM s 0 0 = s 120 0 := rfl
        have e1 := hl0.1
        have e2 := hl0.2.1
        have e3 := hl0.2.2.1
        exact Or.inr ⟨by omega, by omega⟩
    refine rb_if_ge hV (tgt := 24) dX10_takeSecond_17 (by decide) (by unfold ab_r at *; omega) (fun c17 => ?_) (fun c17 => ?_)
    · have hs : ¬ (sec (vM s) (s 57) (s 59) l) = -1 := by omega
      refine rb_aload_n hV dX10_takeSecond_24 rfl rfl ?_
      refine rb_iload_n hV dX10_takeSecond_25 rfl rfl ?_
      refine rb_callV hV (rest := []) dX10_takeSecond_26 (c_X10_takesSecond s l hx (by omega) hs) lk_X10_204 rfl (Or.inl ⟨9, _, TX10, 24, gw_49 _, rfl⟩) rfl ⟨rfl, rfl, (Nat.le_of_ble_eq_true rfl), (Nat.le_of_ble_eq_true rfl), (Nat.le_of_ble_eq_true rfl), (Nat.le_of_ble_eq_true rfl)⟩ (Nat.le_of_ble_eq_true rfl) (fun r9 h9 p9 => ?_)
      obtain ⟨s2, rfl, rfl, hmi, hkeep, hgo⟩ := p9
      show V 29 [some (.inr (some 49)), some (.inl l)] [] (WW s2) 0 0
      refine rb_aload_n hV dX10_takeSecond_29 rfl rfl ?_
      refine rb_get hV (v := .inl (s2 125 0)) dX10_takeSecond_30 ⟨RX10, TX10, 24, rfl, (Nat.le_of_ble_eq_true rfl), lf_X10_147⟩ (gw_49 _) rfl ?_
      refine rb_ret hV (r := some (.inl (s2 125 0))) dX10_takeSecond_33 rfl ⟨(Nat.le_of_ble_eq_true rfl), (Nat.le_of_ble_eq_true rfl)⟩ trivial ?_
      exact Or.inr (Or.inr ⟨hl, hs, s2, rfl, rfl, hmi, hkeep, hgo⟩)
    · refine rb_sipush hV dX10_takeSecond_20 (by decide) ?_
      refine rb_ret hV (r := some (.inl (-1004))) dX10_takeSecond_23 rfl ⟨(Nat.le_of_ble_eq_true rfl), (Nat.le_of_ble_eq_true rfl)⟩ trivial ?_
      exact Or.inr (Or.inl ⟨hl, by omega, rfl, rfl⟩)
