/-! p23: the law looks at the rivers -/

set_option maxHeartbeats 4000000 in
set_option maxRecDepth 20000 in
theorem c_L_rivers (s : Nat → Int → Int) (hx : XI s) : ab_Mt yL_rivers cL_rivers 16 (some .boolean) ({ frames := 4, cells := 0, slots := 0, locals := 97 } : Room) false 0 0 [.inr (some 0)] (WW s) (fun r h2 => r = some (.inl 1) ∧ h2 = WW s) := by
  refine ab_mk RL false rfl pn_L_rivers (fun z => by cases z) (Nat.le_of_ble_eq_true rfl) (fun V hV => ?_)
  show V 0 [some (.inr (some 0)), none, none, none, none, none, none, none, none, none, none, none, none, none, none, none] [] (WW s) 0 0
  obtain ⟨hp, hr, hbw, hv, hst, hz, hx1, hx2, hx3, hx4⟩ := id hx
  have hn : 0 ≤ s 103 0 ∧ s 103 0 ≤ 60 := hp.1
  have hnl : 0 ≤ s 107 0 ∧ s 107 0 ≤ s 103 0 := hv.1
  have hb := BWp_BS hp hbw
  refine rb_aload_n hV dL_rivers_0 rfl rfl ?_
  refine rb_iconst hV dL_rivers_1 ?_
  refine rb_callV hV (rest := []) dL_rivers_2 (c_X9_count s 1 (by unfold ab_r at *; omega) hx) lk_L_36 rfl (Or.inl ⟨8, _, TX9, 8, gw_0 _, rfl⟩) rfl ⟨rfl, rfl, (Nat.le_of_ble_eq_true rfl), (Nat.le_of_ble_eq_true rfl), (Nat.le_of_ble_eq_true rfl), (Nat.le_of_ble_eq_true rfl)⟩ (Nat.le_of_ble_eq_true rfl) (fun r9 h9 p9 => ?_)
  obtain ⟨rfl, rfl⟩ : r9 = some (.inl (s 107 0)) ∧ h9 = WW s := ⟨p9.1.trans (congrArg (fun z : Int => (some (Sum.inl z) : Option ab_V)) rfl), p9.2⟩
  show V 5 [some (.inr (some 0)), none, none, none, none, none, none, none, none, none, none, none, none, none, none, none] [.inl (s 107 0)] (WW s) 0 0
  refine rb_istore_n hV (L2 := [some (.inr (some 0)), some (.inl (s 107 0)), none, none, none, none, none, none, none, none, none, none, none, none, none, none]) dL_rivers_5 rfl (Nat.le_of_ble_eq_true rfl) rfl ?_
  refine rb_iconst hV dL_rivers_6 ?_
  refine rb_istore_n hV (L2 := [some (.inr (some 0)), some (.inl (s 107 0)), some (.inl 0), none, none, none, none, none, none, none, none, none, none, none, none, none]) dL_rivers_7 rfl (Nat.le_of_ble_eq_true rfl) rfl ?_
  refine rb_iconst hV dL_rivers_8 ?_
  refine rb_istore_n hV (L2 := [some (.inr (some 0)), some (.inl (s 107 0)), some (.inl 0), some (.inl 0), none, none, none, none, none, none, none, none, none, none, none, none]) dL_rivers_9 rfl (Nat.le_of_ble_eq_true rfl) rfl ?_
  refine rb_iconst hV dL_rivers_10 ?_
  refine rb_istore hV (L2 := [some (.inr (some 0)), some (.inl (s 107 0)), some (.inl 0), some (.inl 0), some (.inl 0), none, none, none, none, none, none, none, none, none, none, none]) dL_rivers_11 (Nat.le_of_ble_eq_true rfl) rfl ?_
  refine rb_iconst hV dL_rivers_13 ?_
  refine rb_aload_n hV dL_rivers_14 rfl rfl ?_
  refine rb_bipush hV dL_rivers_15 (by decide) ?_
  refine rb_callV hV (rest := [.inl 2]) dL_rivers_17 (c_X9_count s 9 (by unfold ab_r at *; omega) hx) lk_L_36 rfl (Or.inl ⟨8, _, TX9, 8, gw_0 _, rfl⟩) rfl ⟨rfl, rfl, (Nat.le_of_ble_eq_true rfl), (Nat.le_of_ble_eq_true rfl), (Nat.le_of_ble_eq_true rfl), (Nat.le_of_ble_eq_true rfl)⟩ (Nat.le_of_ble_eq_true rfl) (fun r9 h9 p9 => ?_)
  obtain ⟨rfl, rfl⟩ : r9 = some (.inl (s 102 0)) ∧ h9 = WW s := ⟨p9.1.trans (congrArg (fun z : Int => (some (Sum.inl z) : Option ab_V)) rfl), p9.2⟩
  show V 20 [some (.inr (some 0)), some (.inl (s 107 0)), some (.inl 0), some (.inl 0), some (.inl 0), none, none, none, none, none, none, none, none, none, none, none] [.inl (s 102 0), .inl 2] (WW s) 0 0
  refine rb_imul hV dL_rivers_20 ?_
  refine rb_istore hV (L2 := [some (.inr (some 0)), some (.inl (s 107 0)), some (.inl 0), some (.inl 0), some (.inl 0), some (.inl (2 * (s 102 0))), none, none, none, none, none, none, none, none, none, none]) dL_rivers_21 (Nat.le_of_ble_eq_true rfl) rfl ?_
  refine rb_iconst hV dL_rivers_23 ?_
  refine rb_istore hV (L2 := [some (.inr (some 0)), some (.inl (s 107 0)), some (.inl 0), some (.inl 0), some (.inl 0), some (.inl (2 * (s 102 0))), some (.inl 0), none, none, none, none, none, none, none, none, none]) dL_rivers_24 (Nat.le_of_ble_eq_true rfl) rfl ?_
  have h26 : ∀ (n26 : Nat) (most : Int) (str : Int) (riv : Int) (line : Int), (0 ≤ line ∧ line ≤ s 107 0) → (line = 0 ∧ RVH s 0 most str riv ∨ 0 < line ∧ RVH s (s 26 line) most str riv) → ((s 107 0 - line).toNat) < n26 → V 26 [some (.inr (some 0)), some (.inl (s 107 0)), some (.inl most), some (.inl str), some (.inl riv), some (.inl (2 * (s 102 0))), some (.inl line), none, none, none, none, none, none, none, none, none] [] (WW s) 0 0 := by
    intro n26
    induction n26 with
    | zero => intro most str riv line hl0 hri hm; omega
    | succ n26 ih26 =>
      intro most str riv line hl0 hri hm
      refine rb_iload hV dL_rivers_26 rfl ?_
      refine rb_iload_n hV dL_rivers_28 rfl rfl ?_
      refine rb_icmp_ge hV (tgt := 497) dL_rivers_29 (by decide) ⟨(by unfold ab_r at *; omega), (by unfold ab_r at *; omega)⟩ (fun c29 => ?_) (fun c29 => ?_)
      · have hle : line = s 107 0 := by omega
        obtain ⟨f1, f2, f3⟩ := RVH_fin hx (show (s 107 0 = 0 ∧ RVH s 0 most str riv) ∨ (0 < s 107 0 ∧ RVH s (s 26 (s 107 0)) most str riv) by rw [← hle]; exact hri)
        have hstb := ST_b hp hv hst
        have hpb : 0 ≤ s 107 0 * (s 107 0 - 1) ∧ s 107 0 * (s 107 0 - 1) ≤ 3600 := by
          have q := rkI_sum (g := lbd (vX s) (s 26)) hnl.1
          have q1 := Sm_b60 (f := rkI (lbd (vX s) (s 26)) (s 107 0)) (hi := 60) (Int.le_refl 0) hnl.1 (by omega) (by omega) (fun j j0 j1 => by
            obtain ⟨v, v0, v1, v2⟩ := wr_ex (g := lbd (vX s) (s 26)) hnl.1 j0 j1
            rw [rkI_at v0 v1 v2]
            omega)
          have q2 : s 107 0 * (s 107 0 - 1) ≤ 60 * 60 := by
            rcases Int.lt_or_le 0 (s 107 0) with z | z
            · exact Int.mul_le_mul (by omega) (by omega) (by omega) (by omega)
            · rw [show s 107 0 = 0 by omega]
              decide
          omega
        have hamb : (0 ≤ s 109 0 ∧ s 109 0 ≤ 60) ∧ 0 ≤ s 111 0 ∧ s 111 0 ≤ 60 := by
          rcases hst.2.2.2 with q | ⟨t1, t2, t3, t4, t5, t6, t7, t8, t9⟩
          · omega
          · have q0 : 0 ≤ s 103 0 - 1 := by omega
            have q1 := Sei_b (s 28) (s 32) (s 35) q0
            have t8 : s 109 0 = Sm (ei (s 28) (s 32) (s 35)) 0 (s 103 0 - 1) := t8
            have q2 := GLp_b t5 (show (0 : Int) ≤ 60 by omega) t6
            omega
        refine rb_sipush hV dL_rivers_497 (by decide) ?_
        refine rb_istore hV (L2 := [some (.inr (some 0)), some (.inl (s 107 0)), some (.inl most), some (.inl str), some (.inl riv), some (.inl (2 * (s 102 0))), some (.inl 1000), none, none, none, none, none, none, none, none, none]) dL_rivers_500 (Nat.le_of_ble_eq_true rfl) rfl ?_
        refine rb_iconst hV dL_rivers_502 ?_
        refine rb_istore hV (L2 := [some (.inr (some 0)), some (.inl (s 107 0)), some (.inl most), some (.inl str), some (.inl riv), some (.inl (2 * (s 102 0))), some (.inl 1000), some (.inl 0), none, none, none, none, none, none, none, none]) dL_rivers_503 (Nat.le_of_ble_eq_true rfl) rfl ?_
        refine rb_iconst hV dL_rivers_505 ?_
        refine rb_istore hV (L2 := [some (.inr (some 0)), some (.inl (s 107 0)), some (.inl most), some (.inl str), some (.inl riv), some (.inl (2 * (s 102 0))), some (.inl 1000), some (.inl 0), some (.inl 0), none, none, none, none, none, none, none]) dL_rivers_506 (Nat.le_of_ble_eq_true rfl) rfl ?_
        have h508 : ∀ (n508 : Nat) (before : Int) (seen : Int) (k : Int), (0 ≤ k ∧ k ≤ s 107 0) → (seen = Sm (rkI (lbd (vX s) (s 26)) (s 107 0)) 0 k) → (k = 0 ∧ before = 1000 ∨ 0 < k ∧ ∃ v, (0 ≤ v ∧ v < s 107 0) ∧ wr (lbd (vX s) (s 26)) (s 107 0) v = k - 1 ∧ before = lbd (vX s) (s 26) v) → ((s 107 0 - k).toNat) < n508 → V 508 [some (.inr (some 0)), some (.inl (s 107 0)), some (.inl most), some (.inl str), some (.inl riv), some (.inl (2 * (s 102 0))), some (.inl before), some (.inl seen), some (.inl k), none, none, none, none, none, none, none] [] (WW s) 0 0 := by
          intro n508
          induction n508 with
          | zero => intro before seen k hk0 hsn hbf hm; omega
          | succ n508 ih508 =>
            intro before seen k hk0 hsn hbf hm
            have hbb : 0 ≤ before ∧ before ≤ 1000 := by
              rcases hbf with q | ⟨-, v, q1, -, q2⟩
              · omega
              · have := lbd_b hp hv q1.1 q1.2
                omega
            refine rb_iload hV dL_rivers_508 rfl ?_
            refine rb_iload_n hV dL_rivers_510 rfl rfl ?_
            refine rb_icmp_ge hV (tgt := 569) dL_rivers_511 (by decide) ⟨(by unfold ab_r at *; omega), (by unfold ab_r at *; omega)⟩ (fun c511 => ?_) (fun c511 => ?_)
            · have hke : k = s 107 0 := by omega
              rw [hke] at hsn
              have hq : seen = (s 107 0 * (s 107 0 - 1)).tdiv 2 := by
                have q := rkI_sum (g := lbd (vX s) (s 26)) hnl.1
                rw [Int.tdiv_eq_ediv_of_nonneg hpb.1]
                omega
              have hsb : 0 ≤ seen ∧ seen ≤ 3600 := by
                have q := rkI_sum (g := lbd (vX s) (s 26)) hnl.1
                omega
              refine rb_iload hV dL_rivers_569 rfl ?_
              refine rb_iload_n hV dL_rivers_571 rfl rfl ?_
              refine rb_iload_n hV dL_rivers_572 rfl rfl ?_
              refine rb_iconst hV dL_rivers_573 ?_
              refine rb_isub hV dL_rivers_574 ?_
              refine rb_imul hV dL_rivers_575 ?_
              refine rb_iconst hV dL_rivers_576 ?_
              refine rb_idiv hV dL_rivers_577 ⟨(by unfold ab_r at *; omega), (by unfold ab_r at *; omega)⟩ (by decide) ?_
              refine rb_icmp_ne hV (tgt := 661) dL_rivers_578 (by decide) ⟨(by unfold ab_r at *; omega), (by unfold ab_r at *; omega)⟩ (fun c578 => absurd c578 (by omega)) (fun c578 => ?_)
              refine rb_aload_n hV dL_rivers_581 rfl rfl ?_
              refine rb_iload_n hV dL_rivers_582 rfl rfl ?_
              refine rb_callV hV (rest := []) dL_rivers_583 (c_X9_worst s (s 107 0) (by unfold ab_r at *; omega) hx) lk_L_65 rfl (Or.inl ⟨8, _, TX9, 8, gw_0 _, rfl⟩) rfl ⟨rfl, rfl, (Nat.le_of_ble_eq_true rfl), (Nat.le_of_ble_eq_true rfl), (Nat.le_of_ble_eq_true rfl), (Nat.le_of_ble_eq_true rfl)⟩ (Nat.le_of_ble_eq_true rfl) (fun r9 h9 p9 => ?_)
              obtain ⟨v583, rfl, rfl, hw583⟩ := p9
              have h583 := WRS_out hnl.1 hw583
              show V 586 [some (.inr (some 0)), some (.inl (s 107 0)), some (.inl most), some (.inl str), some (.inl riv), some (.inl (2 * (s 102 0))), some (.inl before), some (.inl seen), some (.inl k), none, none, none, none, none, none, none] [.inl v583] (WW s) 0 0
              refine rb_sipush hV dL_rivers_586 (by decide) ?_
              refine rb_icmp_ne hV (tgt := 661) dL_rivers_589 (by decide) ⟨(by unfold ab_r at *; omega), (by unfold ab_r at *; omega)⟩ (fun c589 => absurd c589 (by omega)) (fun c589 => ?_)
              refine rb_aload_n hV dL_rivers_592 rfl rfl ?_
              refine rb_iconst hV dL_rivers_593 ?_
              refine rb_callV hV (rest := []) dL_rivers_594 (c_X9_worst s (-1) (by unfold ab_r at *; omega) hx) lk_L_65 rfl (Or.inl ⟨8, _, TX9, 8, gw_0 _, rfl⟩) rfl ⟨rfl, rfl, (Nat.le_of_ble_eq_true rfl), (Nat.le_of_ble_eq_true rfl), (Nat.le_of_ble_eq_true rfl), (Nat.le_of_ble_eq_true rfl)⟩ (Nat.le_of_ble_eq_true rfl) (fun r9 h9 p9 => ?_)
              obtain ⟨v594, rfl, rfl, hw594⟩ := p9
              have h594 := WRS_neg hw594
              show V 597 [some (.inr (some 0)), some (.inl (s 107 0)), some (.inl most), some (.inl str), some (.inl riv), some (.inl (2 * (s 102 0))), some (.inl before), some (.inl seen), some (.inl k), none, none, none, none, none, none, none] [.inl v594] (WW s) 0 0
              refine rb_sipush hV dL_rivers_597 (by decide) ?_
              refine rb_icmp_ne hV (tgt := 661) dL_rivers_600 (by decide) ⟨(by unfold ab_r at *; omega), (by unfold ab_r at *; omega)⟩ (fun c600 => absurd c600 (by omega)) (fun c600 => ?_)
              refine rb_aload_n hV dL_rivers_603 rfl rfl ?_
              refine rb_iconst hV dL_rivers_604 ?_
              refine rb_callV hV (rest := []) dL_rivers_605 (c_X9_count s 4 (by unfold ab_r at *; omega) hx) lk_L_36 rfl (Or.inl ⟨8, _, TX9, 8, gw_0 _, rfl⟩) rfl ⟨rfl, rfl, (Nat.le_of_ble_eq_true rfl), (Nat.le_of_ble_eq_true rfl), (Nat.le_of_ble_eq_true rfl), (Nat.le_of_ble_eq_true rfl)⟩ (Nat.le_of_ble_eq_true rfl) (fun r9 h9 p9 => ?_)
              obtain ⟨rfl, rfl⟩ : r9 = some (.inl (s 109 0)) ∧ h9 = WW s := ⟨p9.1.trans (congrArg (fun z : Int => (some (Sum.inl z) : Option ab_V)) rfl), p9.2⟩
              show V 608 [some (.inr (some 0)), some (.inl (s 107 0)), some (.inl most), some (.inl str), some (.inl riv), some (.inl (2 * (s 102 0))), some (.inl before), some (.inl seen), some (.inl k), none, none, none, none, none, none, none] [.inl (s 109 0)] (WW s) 0 0
              refine rb_iload hV dL_rivers_608 rfl ?_
              refine rb_icmp_ne hV (tgt := 661) dL_rivers_610 (by decide) ⟨(by unfold ab_r at *; omega), (by unfold ab_r at *; omega)⟩ (fun c610 => absurd c610 (by omega)) (fun c610 => ?_)
              refine rb_aload_n hV dL_rivers_613 rfl rfl ?_
              refine rb_iconst hV dL_rivers_614 ?_
              refine rb_callV hV (rest := []) dL_rivers_615 (c_X9_count s 5 (by unfold ab_r at *; omega) hx) lk_L_36 rfl (Or.inl ⟨8, _, TX9, 8, gw_0 _, rfl⟩) rfl ⟨rfl, rfl, (Nat.le_of_ble_eq_true rfl), (Nat.le_of_ble_eq_true rfl), (Nat.le_of_ble_eq_true rfl), (Nat.le_of_ble_eq_true rfl)⟩ (Nat.le_of_ble_eq_true rfl) (fun r9 h9 p9 => ?_)
              obtain ⟨rfl, rfl⟩ : r9 = some (.inl (s 111 0)) ∧ h9 = WW s := ⟨p9.1.trans (congrArg (fun z : Int => (some (Sum.inl z) : Option ab_V)) rfl), p9.2⟩
              show V 618 [some (.inr (some 0)), some (.inl (s 107 0)), some (.inl most), some (.inl str), some (.inl riv), some (.inl (2 * (s 102 0))), some (.inl before), some (.inl seen), some (.inl k), none, none, none, none, none, none, none] [.inl (s 111 0)] (WW s) 0 0
              refine rb_iload_n hV dL_rivers_618 rfl rfl ?_
              refine rb_icmp_ne hV (tgt := 661) dL_rivers_619 (by decide) ⟨(by unfold ab_r at *; omega), (by unfold ab_r at *; omega)⟩ (fun c619 => absurd c619 (by omega)) (fun c619 => ?_)
              refine rb_aload_n hV dL_rivers_622 rfl rfl ?_
              refine rb_bipush hV dL_rivers_623 (by decide) ?_
              refine rb_callV hV (rest := []) dL_rivers_625 (c_X9_count s 6 (by unfold ab_r at *; omega) hx) lk_L_36 rfl (Or.inl ⟨8, _, TX9, 8, gw_0 _, rfl⟩) rfl ⟨rfl, rfl, (Nat.le_of_ble_eq_true rfl), (Nat.le_of_ble_eq_true rfl), (Nat.le_of_ble_eq_true rfl), (Nat.le_of_ble_eq_true rfl)⟩ (Nat.le_of_ble_eq_true rfl) (fun r9 h9 p9 => ?_)
              obtain ⟨rfl, rfl⟩ : r9 = some (.inl (s 110 0)) ∧ h9 = WW s := ⟨p9.1.trans (congrArg (fun z : Int => (some (Sum.inl z) : Option ab_V)) rfl), p9.2⟩
              show V 628 [some (.inr (some 0)), some (.inl (s 107 0)), some (.inl most), some (.inl str), some (.inl riv), some (.inl (2 * (s 102 0))), some (.inl before), some (.inl seen), some (.inl k), none, none, none, none, none, none, none] [.inl (s 110 0)] (WW s) 0 0
              refine rb_iload_n hV dL_rivers_628 rfl rfl ?_
              refine rb_icmp_ne hV (tgt := 661) dL_rivers_629 (by decide) ⟨(by unfold ab_r at *; omega), (by unfold ab_r at *; omega)⟩ (fun c629 => absurd c629 (by omega)) (fun c629 => ?_)
              refine rb_aload_n hV dL_rivers_632 rfl rfl ?_
              refine rb_iload hV dL_rivers_633 rfl ?_
              refine rb_iconst hV dL_rivers_635 ?_
              refine rb_callV hV (rest := []) dL_rivers_636 (c_X9_river s riv 0 (by unfold ab_r at *; omega) (by unfold ab_r at *; omega) hx) lk_L_62 rfl (Or.inl ⟨8, _, TX9, 8, gw_0 _, rfl⟩) rfl ⟨rfl, rfl, (Nat.le_of_ble_eq_true rfl), (Nat.le_of_ble_eq_true rfl), (Nat.le_of_ble_eq_true rfl), (Nat.le_of_ble_eq_true rfl)⟩ (Nat.le_of_ble_eq_true rfl) (fun r9 h9 p9 => ?_)
              obtain ⟨v636, rfl, rfl, hr636⟩ := p9
              have h636 := RIV_no hr636 (by omega)
              show V 639 [some (.inr (some 0)), some (.inl (s 107 0)), some (.inl most), some (.inl str), some (.inl riv), some (.inl (2 * (s 102 0))), some (.inl before), some (.inl seen), some (.inl k), none, none, none, none, none, none, none] [.inl v636] (WW s) 0 0
              refine rb_sipush hV dL_rivers_639 (by decide) ?_
              refine rb_icmp_ne hV (tgt := 661) dL_rivers_642 (by decide) ⟨(by unfold ab_r at *; omega), (by unfold ab_r at *; omega)⟩ (fun c642 => absurd c642 (by omega)) (fun c642 => ?_)
              refine rb_aload_n hV dL_rivers_645 rfl rfl ?_
              refine rb_iconst hV dL_rivers_646 ?_
              refine rb_iconst hV dL_rivers_647 ?_
              refine rb_callV hV (rest := []) dL_rivers_648 (c_X9_river s (-1) 0 (by unfold ab_r at *; omega) (by unfold ab_r at *; omega) hx) lk_L_62 rfl (Or.inl ⟨8, _, TX9, 8, gw_0 _, rfl⟩) rfl ⟨rfl, rfl, (Nat.le_of_ble_eq_true rfl), (Nat.le_of_ble_eq_true rfl), (Nat.le_of_ble_eq_true rfl), (Nat.le_of_ble_eq_true rfl)⟩ (Nat.le_of_ble_eq_true rfl) (fun r9 h9 p9 => ?_)
              obtain ⟨v648, rfl, rfl, hr648⟩ := p9
              have h648 := RIV_no hr648 (by omega)
              show V 651 [some (.inr (some 0)), some (.inl (s 107 0)), some (.inl most), some (.inl str), some (.inl riv), some (.inl (2 * (s 102 0))), some (.inl before), some (.inl seen), some (.inl k), none, none, none, none, none, none, none] [.inl v648] (WW s) 0 0
              refine rb_sipush hV dL_rivers_651 (by decide) ?_
              refine rb_icmp_ne hV (tgt := 661) dL_rivers_654 (by decide) ⟨(by unfold ab_r at *; omega), (by unfold ab_r at *; omega)⟩ (fun c654 => absurd c654 (by omega)) (fun c654 => ?_)
              refine rb_iconst hV dL_rivers_657 ?_
              refine rb_goto hV (tgt := 662) dL_rivers_658 (by decide) ?_
              refine rb_ret hV (r := some (.inl 1)) dL_rivers_662 rfl ⟨(Nat.le_of_ble_eq_true rfl), (Nat.le_of_ble_eq_true rfl)⟩ (by first | exact Or.inl rfl | exact Or.inr rfl | omega) ?_
              exact ⟨rfl, rfl⟩
            · refine rb_aload_n hV dL_rivers_514 rfl rfl ?_
              refine rb_iload hV dL_rivers_515 rfl ?_
              refine rb_callV hV (rest := []) dL_rivers_517 (c_X9_worst s k (by unfold ab_r at *; omega) hx) lk_L_65 rfl (Or.inl ⟨8, _, TX9, 8, gw_0 _, rfl⟩) rfl ⟨rfl, rfl, (Nat.le_of_ble_eq_true rfl), (Nat.le_of_ble_eq_true rfl), (Nat.le_of_ble_eq_true rfl), (Nat.le_of_ble_eq_true rfl)⟩ (Nat.le_of_ble_eq_true rfl) (fun r9 h9 p9 => ?_)
              obtain ⟨its, rfl, rfl, hw0⟩ := p9
              obtain ⟨hw1, hw2, hw3⟩ := WRS_in hnl.1 hk0.1 (by omega) hw0
              have ri := RV_line hx hw1.1 hw1.2
              have rb := ri.2.2.2.2
              have hle : lbd (vX s) (s 26) its ≤ before := by
                rcases hbf with q | ⟨q0, v, q1, q2, q3⟩
                · omega
                · rw [q3]
                  exact wr_next q1.1 q1.2 hw1.1 hw1.2 q2 (by rw [hw2]; omega)
              show V 520 [some (.inr (some 0)), some (.inl (s 107 0)), some (.inl most), some (.inl str), some (.inl riv), some (.inl (2 * (s 102 0))), some (.inl before), some (.inl seen), some (.inl k), none, none, none, none, none, none, none] [.inl its] (WW s) 0 0
              refine rb_istore hV (L2 := [some (.inr (some 0)), some (.inl (s 107 0)), some (.inl most), some (.inl str), some (.inl riv), some (.inl (2 * (s 102 0))), some (.inl before), some (.inl seen), some (.inl k), some (.inl its), none, none, none, none, none, none]) dL_rivers_520 (Nat.le_of_ble_eq_true rfl) rfl ?_
              refine rb_iload hV dL_rivers_522 rfl ?_
              refine rb_if_lt hV (tgt := 545) dL_rivers_524 (by decide) (by unfold ab_r at *; omega) (fun c524 => absurd c524 (by omega)) (fun c524 => ?_)
              refine rb_iload hV dL_rivers_527 rfl ?_
              refine rb_iload_n hV dL_rivers_529 rfl rfl ?_
              refine rb_icmp_ge hV (tgt := 545) dL_rivers_530 (by decide) ⟨(by unfold ab_r at *; omega), (by unfold ab_r at *; omega)⟩ (fun c530 => absurd c530 (by omega)) (fun c530 => ?_)
              refine rb_aload_n hV dL_rivers_533 rfl rfl ?_
              refine rb_iload hV dL_rivers_534 rfl ?_
              refine rb_iconst hV dL_rivers_536 ?_
              refine rb_callV hV (rest := []) dL_rivers_537 (c_X9_line s its 4 (by unfold ab_r at *; omega) (by unfold ab_r at *; omega) hx) lk_L_43 rfl (Or.inl ⟨8, _, TX9, 8, gw_0 _, rfl⟩) rfl ⟨rfl, rfl, (Nat.le_of_ble_eq_true rfl), (Nat.le_of_ble_eq_true rfl), (Nat.le_of_ble_eq_true rfl), (Nat.le_of_ble_eq_true rfl)⟩ (Nat.le_of_ble_eq_true rfl) (fun r9 h9 p9 => ?_)
              obtain ⟨rfl, rfl⟩ : r9 = some (.inl (lbd (vX s) (s 26) its)) ∧ h9 = WW s := ⟨p9.1.trans (congrArg (fun z : Int => (some (Sum.inl z) : Option ab_V)) ri.2.2.1), p9.2⟩
              show V 540 [some (.inr (some 0)), some (.inl (s 107 0)), some (.inl most), some (.inl str), some (.inl riv), some (.inl (2 * (s 102 0))), some (.inl before), some (.inl seen), some (.inl k), some (.inl its), none, none, none, none, none, none] [.inl (lbd (vX s) (s 26) its)] (WW s) 0 0
              refine rb_iload hV dL_rivers_540 rfl ?_
              refine rb_icmp_le hV (tgt := 547) dL_rivers_542 (by decide) ⟨(by unfold ab_r at *; omega), (by unfold ab_r at *; omega)⟩ (fun c542 => ?_) (fun c542 => absurd c542 (by omega))
              refine rb_aload_n hV dL_rivers_547 rfl rfl ?_
              refine rb_iload hV dL_rivers_548 rfl ?_
              refine rb_iconst hV dL_rivers_550 ?_
              refine rb_callV hV (rest := []) dL_rivers_551 (c_X9_line s its 4 (by unfold ab_r at *; omega) (by unfold ab_r at *; omega) hx) lk_L_43 rfl (Or.inl ⟨8, _, TX9, 8, gw_0 _, rfl⟩) rfl ⟨rfl, rfl, (Nat.le_of_ble_eq_true rfl), (Nat.le_of_ble_eq_true rfl), (Nat.le_of_ble_eq_true rfl), (Nat.le_of_ble_eq_true rfl)⟩ (Nat.le_of_ble_eq_true rfl) (fun r9 h9 p9 => ?_)
              obtain ⟨rfl, rfl⟩ : r9 = some (.inl (lbd (vX s) (s 26) its)) ∧ h9 = WW s := ⟨p9.1.trans (congrArg (fun z : Int => (some (Sum.inl z) : Option ab_V)) ri.2.2.1), p9.2⟩
              show V 554 [some (.inr (some 0)), some (.inl (s 107 0)), some (.inl most), some (.inl str), some (.inl riv), some (.inl (2 * (s 102 0))), some (.inl before), some (.inl seen), some (.inl k), some (.inl its), none, none, none, none, none, none] [.inl (lbd (vX s) (s 26) its)] (WW s) 0 0
              refine rb_istore hV (L2 := [some (.inr (some 0)), some (.inl (s 107 0)), some (.inl most), some (.inl str), some (.inl riv), some (.inl (2 * (s 102 0))), some (.inl (lbd (vX s) (s 26) its)), some (.inl seen), some (.inl k), some (.inl its), none, none, none, none, none, none]) dL_rivers_554 (Nat.le_of_ble_eq_true rfl) rfl ?_
              refine rb_iload hV dL_rivers_556 rfl ?_
              refine rb_iload hV dL_rivers_558 rfl ?_
              refine rb_iadd hV dL_rivers_560 ?_
              refine rb_istore hV (L2 := [some (.inr (some 0)), some (.inl (s 107 0)), some (.inl most), some (.inl str), some (.inl riv), some (.inl (2 * (s 102 0))), some (.inl (lbd (vX s) (s 26) its)), some (.inl (seen + its)), some (.inl k), some (.inl its), none, none, none, none, none, none]) dL_rivers_561 (Nat.le_of_ble_eq_true rfl) rfl ?_
              refine rb_iinc hV (L2 := [some (.inr (some 0)), some (.inl (s 107 0)), some (.inl most), some (.inl str), some (.inl riv), some (.inl (2 * (s 102 0))), some (.inl (lbd (vX s) (s 26) its)), some (.inl (seen + its)), some (.inl (k + 1)), some (.inl its), none, none, none, none, none, none]) dL_rivers_563 rfl rfl rfl ?_
              refine rb_goto hV (tgt := 508) dL_rivers_566 (by decide) ?_
              refine rb_weak hV (L2 := [some (.inr (some 0)), some (.inl (s 107 0)), some (.inl most), some (.inl str), some (.inl riv), some (.inl (2 * (s 102 0))), some (.inl (lbd (vX s) (s 26) its)), some (.inl (seen + its)), some (.inl (k + 1)), none, none, none, none, none, none, none]) ⟨rfl, ⟨rfl, ⟨rfl, ⟨rfl, ⟨rfl, ⟨rfl, ⟨rfl, ⟨rfl, ⟨rfl, trivial⟩⟩⟩⟩⟩⟩⟩⟩⟩ ?_
              refine ih508 (lbd (vX s) (s 26) its) (seen + its) (k + 1) ?_ ?_ ?_ ?_
              · omega
              · rw [Sm_succ _ hk0.1, hsn, ← hw3]
              · exact Or.inr ⟨by omega, its, hw1, by rw [hw2]; omega, rfl⟩
              · omega
        refine h508 _ 1000 0 0 ?_ ?_ ?_ (Nat.lt_succ_self _)
        · omega
        · exact (Sm_self _ 0).symm
        · exact Or.inl ⟨rfl, rfl⟩
      · obtain ⟨t1, t2, t3, t4, t5, t6, t7, t8, t9⟩ := hst.2.2.2.resolve_left (fun q => absurd q.1 (by omega))
        have t3 : LNp (s 27) (s 28) (s 33) (s 32) (s 34) (2 * s 102 0) (s 103 0 - 1) := t3
        have t4 : GOp (s 27) (s 28) (s 33) (s 35) (2 * s 102 0) (s 103 0 - 1) := t4
        have t8 : s 109 0 = Sm (ei (s 28) (s 32) (s 35)) 0 (s 103 0 - 1) := t8
        have rl := RV_line hx hl0.1 (show line < s 107 0 by omega)
        have bl := rl.2.2.2.1
        have hR0 : RVH s (s 26 line) most str riv := by
          rcases hri with q | q
          · rw [q.1, (hv.2.2 (by omega)).1]
            exact q.2
          · exact q.2
        have hB : s 28 (s 26 (line + 1) - 1) = -1 := by
          have q := (hst.2.1 line hl0.1 (by omega) (s 26 (line + 1) - 1) (by omega) (by omega)).2.1
          rw [q, if_neg (by omega)]
        have hlo : ∀ v, 0 ≤ v → v < s 103 0 - 1 → 0 ≤ s 27 v := fun v a b => ((LD_facts hp hv hst.2.1 t1).1 v a (by show v < s 103 0; omega)).1
        have bt : 0 ≤ s 102 0 ∧ s 102 0 ≤ 20 := hp.2.2.2.2.1
        refine rb_aload_n hV dL_rivers_32 rfl rfl ?_
        refine rb_iload hV dL_rivers_33 rfl ?_
        refine rb_iconst hV dL_rivers_35 ?_
        refine rb_callV hV (rest := []) dL_rivers_36 (c_X9_line s line 1 (by unfold ab_r at *; omega) (by unfold ab_r at *; omega) hx) lk_L_43 rfl (Or.inl ⟨8, _, TX9, 8, gw_0 _, rfl⟩) rfl ⟨rfl, rfl, (Nat.le_of_ble_eq_true rfl), (Nat.le_of_ble_eq_true rfl), (Nat.le_of_ble_eq_true rfl), (Nat.le_of_ble_eq_true rfl)⟩ (Nat.le_of_ble_eq_true rfl) (fun r9 h9 p9 => ?_)
        obtain ⟨rfl, rfl⟩ : r9 = some (.inl (s 26 (line + 1) - 1)) ∧ h9 = WW s := ⟨p9.1.trans (congrArg (fun z : Int => (some (Sum.inl z) : Option ab_V)) rl.2.1), p9.2⟩
        show V 39 [some (.inr (some 0)), some (.inl (s 107 0)), some (.inl most), some (.inl str), some (.inl riv), some (.inl (2 * (s 102 0))), some (.inl line), none, none, none, none, none, none, none, none, none] [.inl (s 26 (line + 1) - 1)] (WW s) 0 0
        refine rb_aload_n hV dL_rivers_39 rfl rfl ?_
        refine rb_iload hV dL_rivers_40 rfl ?_
        refine rb_iconst hV dL_rivers_42 ?_
        refine rb_callV hV (rest := [.inl (s 26 (line + 1) - 1)]) dL_rivers_43 (c_X9_line s line 0 (by unfold ab_r at *; omega) (by unfold ab_r at *; omega) hx) lk_L_43 rfl (Or.inl ⟨8, _, TX9, 8, gw_0 _, rfl⟩) rfl ⟨rfl, rfl, (Nat.le_of_ble_eq_true rfl), (Nat.le_of_ble_eq_true rfl), (Nat.le_of_ble_eq_true rfl), (Nat.le_of_ble_eq_true rfl)⟩ (Nat.le_of_ble_eq_true rfl) (fun r9 h9 p9 => ?_)
        obtain ⟨rfl, rfl⟩ : r9 = some (.inl (s 26 line)) ∧ h9 = WW s := ⟨p9.1.trans (congrArg (fun z : Int => (some (Sum.inl z) : Option ab_V)) rl.1), p9.2⟩
        show V 46 [some (.inr (some 0)), some (.inl (s 107 0)), some (.inl most), some (.inl str), some (.inl riv), some (.inl (2 * (s 102 0))), some (.inl line), none, none, none, none, none, none, none, none, none] [.inl (s 26 line), .inl (s 26 (line + 1) - 1)] (WW s) 0 0
        refine rb_isub hV dL_rivers_46 ?_
        refine rb_istore hV (L2 := [some (.inr (some 0)), some (.inl (s 107 0)), some (.inl most), some (.inl str), some (.inl riv), some (.inl (2 * (s 102 0))), some (.inl line), some (.inl ((s 26 (line + 1) - 1) - (s 26 line))), none, none, none, none, none, none, none, none]) dL_rivers_47 (Nat.le_of_ble_eq_true rfl) rfl ?_
        refine rb_iconst hV dL_rivers_49 ?_
        refine rb_istore hV (L2 := [some (.inr (some 0)), some (.inl (s 107 0)), some (.inl most), some (.inl str), some (.inl riv), some (.inl (2 * (s 102 0))), some (.inl line), some (.inl ((s 26 (line + 1) - 1) - (s 26 line))), some (.inl 0), none, none, none, none, none, none, none]) dL_rivers_50 (Nat.le_of_ble_eq_true rfl) rfl ?_
        have h52 : ∀ (n52 : Nat) (most : Int) (str : Int) (riv : Int) (x : Int), (0 ≤ x ∧ x ≤ s 26 (line + 1) - 1 - s 26 line) → (RVH s (s 26 line + x) most str riv) → ((s 26 (line + 1) - 1 - s 26 line - x).toNat) < n52 → V 52 [some (.inr (some 0)), some (.inl (s 107 0)), some (.inl most), some (.inl str), some (.inl riv), some (.inl (2 * (s 102 0))), some (.inl line), some (.inl ((s 26 (line + 1) - 1) - (s 26 line))), some (.inl x), none, none, none, none, none, none, none] [] (WW s) 0 0 := by
          intro n52
          induction n52 with
          | zero => intro most str riv x hx0 hR hm; omega
          | succ n52 ih52 =>
            intro most str riv x hx0 hR hm
            refine rb_iload hV dL_rivers_52 rfl ?_
            refine rb_iload hV dL_rivers_54 rfl ?_
            refine rb_icmp_ge hV (tgt := 491) dL_rivers_56 (by decide) ⟨(by unfold ab_r at *; omega), (by unfold ab_r at *; omega)⟩ (fun c56 => ?_) (fun c56 => ?_)
            · rw [show s 26 line + x = s 26 (line + 1) - 1 by omega] at hR
              refine rb_iinc hV (L2 := [some (.inr (some 0)), some (.inl (s 107 0)), some (.inl most), some (.inl str), some (.inl riv), some (.inl (2 * (s 102 0))), some (.inl (line + 1)), some (.inl ((s 26 (line + 1) - 1) - (s 26 line))), some (.inl x), none, none, none, none, none, none, none]) dL_rivers_491 rfl rfl rfl ?_
              refine rb_goto hV (tgt := 26) dL_rivers_494 (by decide) ?_
              refine rb_weak hV (L2 := [some (.inr (some 0)), some (.inl (s 107 0)), some (.inl most), some (.inl str), some (.inl riv), some (.inl (2 * (s 102 0))), some (.inl (line + 1)), none, none, none, none, none, none, none, none, none]) ⟨rfl, ⟨rfl, ⟨rfl, ⟨rfl, ⟨rfl, ⟨rfl, ⟨rfl, trivial⟩⟩⟩⟩⟩⟩⟩ ?_
              refine ih26 most str riv (line + 1) ?_ ?_ ?_
              · omega
              · refine Or.inr ⟨by omega, ?_⟩
                have q := RVH_skip hR (by omega) hB
                rw [show s 26 (line + 1) - 1 + 1 = s 26 (line + 1) by omega] at q
                exact q
              · omega
            · obtain ⟨b1, b0, q1, q0, q3, qm, bb1, bb0, qlo, qsl, qw, qln, qln2⟩ := RV_space hx hl0.1 (show line < s 107 0 by omega) hx0.1 (show s 26 line + x < s 26 (line + 1) - 1 by omega)
              refine rb_iconst hV dL_rivers_59 ?_
              refine rb_aload_n hV dL_rivers_60 rfl rfl ?_
              refine rb_iload hV dL_rivers_61 rfl ?_
              refine rb_iload hV dL_rivers_63 rfl ?_
              refine rb_iconst hV dL_rivers_65 ?_
              refine rb_callV hV (rest := [.inl 2]) dL_rivers_66 (c_X9_space s line x 1 (by unfold ab_r at *; omega) (by unfold ab_r at *; omega) (by unfold ab_r at *; omega) hx) lk_L_49 rfl (Or.inl ⟨8, _, TX9, 8, gw_0 _, rfl⟩) rfl ⟨rfl, rfl, (Nat.le_of_ble_eq_true rfl), (Nat.le_of_ble_eq_true rfl), (Nat.le_of_ble_eq_true rfl), (Nat.le_of_ble_eq_true rfl)⟩ (Nat.le_of_ble_eq_true rfl) (fun r9 h9 p9 => ?_)
              obtain ⟨rfl, rfl⟩ : r9 = some (.inl b1) ∧ h9 = WW s := ⟨p9.1.trans (congrArg (fun z : Int => (some (Sum.inl z) : Option ab_V)) q1), p9.2⟩
              show V 69 [some (.inr (some 0)), some (.inl (s 107 0)), some (.inl most), some (.inl str), some (.inl riv), some (.inl (2 * (s 102 0))), some (.inl line), some (.inl ((s 26 (line + 1) - 1) - (s 26 line))), some (.inl x), none, none, none, none, none, none, none] [.inl b1, .inl 2] (WW s) 0 0
              refine rb_imul hV dL_rivers_69 ?_
              refine rb_aload_n hV dL_rivers_70 rfl rfl ?_
              refine rb_iload hV dL_rivers_71 rfl ?_
              refine rb_iload hV dL_rivers_73 rfl ?_
              refine rb_iconst hV dL_rivers_75 ?_
              refine rb_callV hV (rest := [.inl (2 * b1)]) dL_rivers_76 (c_X9_space s line x 0 (by unfold ab_r at *; omega) (by unfold ab_r at *; omega) (by unfold ab_r at *; omega) hx) lk_L_49 rfl (Or.inl ⟨8, _, TX9, 8, gw_0 _, rfl⟩) rfl ⟨rfl, rfl, (Nat.le_of_ble_eq_true rfl), (Nat.le_of_ble_eq_true rfl), (Nat.le_of_ble_eq_true rfl), (Nat.le_of_ble_eq_true rfl)⟩ (Nat.le_of_ble_eq_true rfl) (fun r9 h9 p9 => ?_)
              obtain ⟨rfl, rfl⟩ : r9 = some (.inl b0) ∧ h9 = WW s := ⟨p9.1.trans (congrArg (fun z : Int => (some (Sum.inl z) : Option ab_V)) q0), p9.2⟩
              show V 79 [some (.inr (some 0)), some (.inl (s 107 0)), some (.inl most), some (.inl str), some (.inl riv), some (.inl (2 * (s 102 0))), some (.inl line), some (.inl ((s 26 (line + 1) - 1) - (s 26 line))), some (.inl x), none, none, none, none, none, none, none] [.inl b0, .inl (2 * b1)] (WW s) 0 0
              refine rb_iadd hV dL_rivers_79 ?_
              refine rb_istore hV (L2 := [some (.inr (some 0)), some (.inl (s 107 0)), some (.inl most), some (.inl str), some (.inl riv), some (.inl (2 * (s 102 0))), some (.inl line), some (.inl ((s 26 (line + 1) - 1) - (s 26 line))), some (.inl x), some (.inl ((2 * b1) + b0)), none, none, none, none, none, none]) dL_rivers_80 (Nat.le_of_ble_eq_true rfl) rfl ?_
              refine rb_iconst hV dL_rivers_82 ?_
              refine rb_istore hV (L2 := [some (.inr (some 0)), some (.inl (s 107 0)), some (.inl most), some (.inl str), some (.inl riv), some (.inl (2 * (s 102 0))), some (.inl line), some (.inl ((s 26 (line + 1) - 1) - (s 26 line))), some (.inl x), some (.inl ((2 * b1) + b0)), some (.inl 0), none, none, none, none, none]) dL_rivers_83 (Nat.le_of_ble_eq_true rfl) rfl ?_
              refine rb_iconst hV dL_rivers_85 ?_
              refine rb_istore hV (L2 := [some (.inr (some 0)), some (.inl (s 107 0)), some (.inl most), some (.inl str), some (.inl riv), some (.inl (2 * (s 102 0))), some (.inl line), some (.inl ((s 26 (line + 1) - 1) - (s 26 line))), some (.inl x), some (.inl ((2 * b1) + b0)), some (.inl 0), some (.inl (-1)), none, none, none, none]) dL_rivers_86 (Nat.le_of_ble_eq_true rfl) rfl ?_
              refine rb_iconst hV dL_rivers_88 ?_
              refine rb_istore hV (L2 := [some (.inr (some 0)), some (.inl (s 107 0)), some (.inl most), some (.inl str), some (.inl riv), some (.inl (2 * (s 102 0))), some (.inl line), some (.inl ((s 26 (line + 1) - 1) - (s 26 line))), some (.inl x), some (.inl ((2 * b1) + b0)), some (.inl 0), some (.inl (-1)), some (.inl 0), none, none, none]) dL_rivers_89 (Nat.le_of_ble_eq_true rfl) rfl ?_
              have pwu : s 26 line + x < 60 := by omega
              have j250 : ∀ (above : Int) (up : Int), (s 32 (s 26 line + x) = above + 1 ∧ (0 ≤ above ∧ above ≤ 60) ∧ (-1 ≤ up ∧ up ≤ 60) ∧ (above = 0 ∨ 0 ≤ up ∧ s 34 (s 26 line + x) = s 26 (line - 1) + up)) → V 250 [some (.inr (some 0)), some (.inl (s 107 0)), some (.inl most), some (.inl str), some (.inl riv), some (.inl (2 * (s 102 0))), some (.inl line), some (.inl ((s 26 (line + 1) - 1) - (s 26 line))), some (.inl x), some (.inl ((2 * b1) + b0)), some (.inl above), some (.inl up), some (.inl 0), none, none, none] [] (WW s) 0 0 := by
                intro above up hU
                have j348 : ∀ (below : Int), (s 35 (s 26 line + x) = below ∧ (below = 0 ∨ below = 1)) → V 348 [some (.inr (some 0)), some (.inl (s 107 0)), some (.inl most), some (.inl str), some (.inl riv), some (.inl (2 * (s 102 0))), some (.inl line), some (.inl ((s 26 (line + 1) - 1) - (s 26 line))), some (.inl x), some (.inl ((2 * b1) + b0)), some (.inl above), some (.inl up), some (.inl below), none, none, none] [] (WW s) 0 0 := by
                  intro below hgn
                  refine rb_aload_n hV dL_rivers_348 rfl rfl ?_
                  refine rb_iload hV dL_rivers_349 rfl ?_
                  refine rb_iload hV dL_rivers_351 rfl ?_
                  refine rb_iconst hV dL_rivers_353 ?_
                  refine rb_callV hV (rest := []) dL_rivers_354 (c_X9_space s line x 3 (by unfold ab_r at *; omega) (by unfold ab_r at *; omega) (by unfold ab_r at *; omega) hx) lk_L_49 rfl (Or.inl ⟨8, _, TX9, 8, gw_0 _, rfl⟩) rfl ⟨rfl, rfl, (Nat.le_of_ble_eq_true rfl), (Nat.le_of_ble_eq_true rfl), (Nat.le_of_ble_eq_true rfl), (Nat.le_of_ble_eq_true rfl)⟩ (Nat.le_of_ble_eq_true rfl) (fun r9 h9 p9 => ?_)
                  obtain ⟨rfl, rfl⟩ : r9 = some (.inl (s 32 (s 26 line + x))) ∧ h9 = WW s := ⟨p9.1.trans (congrArg (fun z : Int => (some (Sum.inl z) : Option ab_V)) q3), p9.2⟩
                  show V 357 [some (.inr (some 0)), some (.inl (s 107 0)), some (.inl most), some (.inl str), some (.inl riv), some (.inl (2 * (s 102 0))), some (.inl line), some (.inl ((s 26 (line + 1) - 1) - (s 26 line))), some (.inl x), some (.inl ((2 * b1) + b0)), some (.inl above), some (.inl up), some (.inl below), none, none, none] [.inl (s 32 (s 26 line + x))] (WW s) 0 0
                  refine rb_istore hV (L2 := [some (.inr (some 0)), some (.inl (s 107 0)), some (.inl most), some (.inl str), some (.inl riv), some (.inl (2 * (s 102 0))), some (.inl line), some (.inl ((s 26 (line + 1) - 1) - (s 26 line))), some (.inl x), some (.inl ((2 * b1) + b0)), some (.inl above), some (.inl up), some (.inl below), some (.inl (s 32 (s 26 line + x))), none, none]) dL_rivers_357 (Nat.le_of_ble_eq_true rfl) rfl ?_
                  refine rb_iload hV dL_rivers_359 rfl ?_
                  refine rb_iload hV dL_rivers_361 rfl ?_
                  refine rb_iconst hV dL_rivers_363 ?_
                  refine rb_iadd hV dL_rivers_364 ?_
                  refine rb_icmp_eq hV (tgt := 370) dL_rivers_365 (by decide) ⟨(by unfold ab_r at *; omega), (by unfold ab_r at *; omega)⟩ (fun c365 => ?_) (fun c365 => absurd c365 (by omega))
                  have j382 : ∀ (mo : Int), (mo = max most (s 32 (s 26 line + x))) → V 382 [some (.inr (some 0)), some (.inl (s 107 0)), some (.inl most), some (.inl str), some (.inl riv), some (.inl (2 * (s 102 0))), some (.inl line), some (.inl ((s 26 (line + 1) - 1) - (s 26 line))), some (.inl x), some (.inl ((2 * b1) + b0)), some (.inl above), some (.inl up), some (.inl below), some (.inl (s 32 (s 26 line + x))), none, none] [.inl mo] (WW s) 0 0 := by
                    intro mo hmo
                    refine rb_istore_n hV (L2 := [some (.inr (some 0)), some (.inl (s 107 0)), some (.inl mo), some (.inl str), some (.inl riv), some (.inl (2 * (s 102 0))), some (.inl line), some (.inl ((s 26 (line + 1) - 1) - (s 26 line))), some (.inl x), some (.inl ((2 * b1) + b0)), some (.inl above), some (.inl up), some (.inl below), some (.inl (s 32 (s 26 line + x))), none, none]) dL_rivers_382 rfl (Nat.le_of_ble_eq_true rfl) rfl ?_
                    refine rb_iload hV dL_rivers_383 rfl ?_
                    refine rb_iconst hV dL_rivers_385 ?_
                    refine rb_icmp_lt hV (tgt := 485) dL_rivers_386 (by decide) ⟨(by unfold ab_r at *; omega), (by unfold ab_r at *; omega)⟩ (fun c386 => ?_) (fun c386 => ?_)
                    · refine rb_iinc hV (L2 := [some (.inr (some 0)), some (.inl (s 107 0)), some (.inl mo), some (.inl str), some (.inl riv), some (.inl (2 * (s 102 0))), some (.inl line), some (.inl ((s 26 (line + 1) - 1) - (s 26 line))), some (.inl (x + 1)), some (.inl ((2 * b1) + b0)), some (.inl above), some (.inl up), some (.inl below), some (.inl (s 32 (s 26 line + x))), none, none]) dL_rivers_485 rfl rfl rfl ?_
                      refine rb_goto hV (tgt := 52) dL_rivers_488 (by decide) ?_
                      refine rb_weak hV (L2 := [some (.inr (some 0)), some (.inl (s 107 0)), some (.inl mo), some (.inl str), some (.inl riv), some (.inl (2 * (s 102 0))), some (.inl line), some (.inl ((s 26 (line + 1) - 1) - (s 26 line))), some (.inl (x + 1)), none, none, none, none, none, none, none]) ⟨rfl, ⟨rfl, ⟨rfl, ⟨rfl, ⟨rfl, ⟨rfl, ⟨rfl, ⟨rfl, ⟨rfl, trivial⟩⟩⟩⟩⟩⟩⟩⟩⟩ ?_
                      refine ih52 mo str riv (x + 1) ?_ ?_ ?_
                      · omega
                      · rw [← Int.add_assoc, hmo]
                        exact RVH_no hR (by omega) qsl (by omega)
                      · omega
                    · refine rb_iload hV dL_rivers_389 rfl ?_
                      refine rb_if_ne hV (tgt := 485) dL_rivers_391 (by decide) (by unfold ab_r at *; omega) (fun c391 => ?_) (fun c391 => ?_)
                      · refine rb_iinc hV (L2 := [some (.inr (some 0)), some (.inl (s 107 0)), some (.inl mo), some (.inl str), some (.inl riv), some (.inl (2 * (s 102 0))), some (.inl line), some (.inl ((s 26 (line + 1) - 1) - (s 26 line))), some (.inl (x + 1)), some (.inl ((2 * b1) + b0)), some (.inl above), some (.inl up), some (.inl below), some (.inl (s 32 (s 26 line + x))), none, none]) dL_rivers_485 rfl rfl rfl ?_
                        refine rb_goto hV (tgt := 52) dL_rivers_488 (by decide) ?_
                        refine rb_weak hV (L2 := [some (.inr (some 0)), some (.inl (s 107 0)), some (.inl mo), some (.inl str), some (.inl riv), some (.inl (2 * (s 102 0))), some (.inl line), some (.inl ((s 26 (line + 1) - 1) - (s 26 line))), some (.inl (x + 1)), none, none, none, none, none, none, none]) ⟨rfl, ⟨rfl, ⟨rfl, ⟨rfl, ⟨rfl, ⟨rfl, ⟨rfl, ⟨rfl, ⟨rfl, trivial⟩⟩⟩⟩⟩⟩⟩⟩⟩ ?_
                        refine ih52 mo str riv (x + 1) ?_ ?_ ?_
                        · omega
                        · rw [← Int.add_assoc, hmo]
                          exact RVH_no hR (by omega) qsl (by omega)
                        · omega
                      · refine rb_iload_n hV dL_rivers_394 rfl rfl ?_
                        refine rb_iload hV dL_rivers_395 rfl ?_
                        refine rb_iconst hV dL_rivers_397 ?_
                        refine rb_isub hV dL_rivers_398 ?_
                        refine rb_iadd hV dL_rivers_399 ?_
                        refine rb_istore_n hV (L2 := [some (.inr (some 0)), some (.inl (s 107 0)), some (.inl mo), some (.inl (str + ((s 32 (s 26 line + x)) - 2))), some (.inl riv), some (.inl (2 * (s 102 0))), some (.inl line), some (.inl ((s 26 (line + 1) - 1) - (s 26 line))), some (.inl x), some (.inl ((2 * b1) + b0)), some (.inl above), some (.inl up), some (.inl below), some (.inl (s 32 (s 26 line + x))), none, none]) dL_rivers_400 rfl (Nat.le_of_ble_eq_true rfl) rfl ?_
                        have he : ei (s 28) (s 32) (s 35) (s 26 line + x) = 1 := if_pos ⟨qsl, by omega, by omega⟩
                        have hrb := Sei_b (s 28) (s 32) (s 35) (w := (s 26 line + x)) (by omega)
                        have hrv := hR.1
                        have hU2 : 0 ≤ up ∧ s 34 (s 26 line + x) = s 26 (line - 1) + up := by
                          rcases hU.2.2.2 with q | q
                          · omega
                          · exact q
                        have hab := (AB_lt (t3 (s 26 line + x) (by omega) qw.2 qsl).1).resolve_left (fun q => by
                          have q2 := (t3 (s 26 line + x) (by omega) qw.2 qsl).2
                          rw [if_pos q] at q2
                          omega)
                        refine rb_aload_n hV dL_rivers_401 rfl rfl ?_
                        refine rb_iload hV dL_rivers_402 rfl ?_
                        refine rb_iconst hV dL_rivers_404 ?_
                        refine rb_callV hV (rest := []) dL_rivers_405 (c_X9_river s riv 0 (by unfold ab_r at *; omega) (by unfold ab_r at *; omega) hx) lk_L_62 rfl (Or.inl ⟨8, _, TX9, 8, gw_0 _, rfl⟩) rfl ⟨rfl, rfl, (Nat.le_of_ble_eq_true rfl), (Nat.le_of_ble_eq_true rfl), (Nat.le_of_ble_eq_true rfl), (Nat.le_of_ble_eq_true rfl)⟩ (Nat.le_of_ble_eq_true rfl) (fun r9 h9 p9 => ?_)
                        obtain ⟨v405, rfl, rfl, hr405⟩ := p9
                        have h405 := (RIV_at hr405 (by omega) (by omega) he hrv t8).2.2 (by omega) (by omega)
                        replace h405 : v405 = s 27 (s 26 line + x) * 100 + (s 26 line + x) - s 26 (s 27 (s 26 line + x)) := h405
                        rw [qlo] at h405
                        show V 408 [some (.inr (some 0)), some (.inl (s 107 0)), some (.inl mo), some (.inl (str + ((s 32 (s 26 line + x)) - 2))), some (.inl riv), some (.inl (2 * (s 102 0))), some (.inl line), some (.inl ((s 26 (line + 1) - 1) - (s 26 line))), some (.inl x), some (.inl ((2 * b1) + b0)), some (.inl above), some (.inl up), some (.inl below), some (.inl (s 32 (s 26 line + x))), none, none] [.inl v405] (WW s) 0 0
                        refine rb_bipush hV dL_rivers_408 (by decide) ?_
                        refine rb_iload hV dL_rivers_410 rfl ?_
                        refine rb_imul hV dL_rivers_412 ?_
                        refine rb_iload hV dL_rivers_413 rfl ?_
                        refine rb_iadd hV dL_rivers_415 ?_
                        refine rb_icmp_ne hV (tgt := 480) dL_rivers_416 (by decide) ⟨(by unfold ab_r at *; omega), (by unfold ab_r at *; omega)⟩ (fun c416 => absurd c416 (by omega)) (fun c416 => ?_)
                        refine rb_aload_n hV dL_rivers_419 rfl rfl ?_
                        refine rb_iload hV dL_rivers_420 rfl ?_
                        refine rb_iconst hV dL_rivers_422 ?_
                        refine rb_callV hV (rest := []) dL_rivers_423 (c_X9_river s riv 1 (by unfold ab_r at *; omega) (by unfold ab_r at *; omega) hx) lk_L_62 rfl (Or.inl ⟨8, _, TX9, 8, gw_0 _, rfl⟩) rfl ⟨rfl, rfl, (Nat.le_of_ble_eq_true rfl), (Nat.le_of_ble_eq_true rfl), (Nat.le_of_ble_eq_true rfl), (Nat.le_of_ble_eq_true rfl)⟩ (Nat.le_of_ble_eq_true rfl) (fun r9 h9 p9 => ?_)
                        obtain ⟨v423, rfl, rfl, hr423⟩ := p9
                        have h423 := (RIV_at hr423 (by omega) (by omega) he hrv t8).2.2 (by omega) (by omega)
                        replace h423 : v423 = s 27 (s 34 (s 26 line + x)) * 100 + s 34 (s 26 line + x) - s 26 (s 27 (s 34 (s 26 line + x))) := h423
                        have h427 : s 27 (s 34 (s 26 line + x)) = line - 1 := by
                          have q := hab.2.2.1
                          omega
                        rw [h427, hU2.2] at h423
                        show V 426 [some (.inr (some 0)), some (.inl (s 107 0)), some (.inl mo), some (.inl (str + ((s 32 (s 26 line + x)) - 2))), some (.inl riv), some (.inl (2 * (s 102 0))), some (.inl line), some (.inl ((s 26 (line + 1) - 1) - (s 26 line))), some (.inl x), some (.inl ((2 * b1) + b0)), some (.inl above), some (.inl up), some (.inl below), some (.inl (s 32 (s 26 line + x))), none, none] [.inl v423] (WW s) 0 0
                        refine rb_bipush hV dL_rivers_426 (by decide) ?_
                        refine rb_iload hV dL_rivers_428 rfl ?_
                        refine rb_imul hV dL_rivers_430 ?_
                        refine rb_bipush hV dL_rivers_431 (by decide) ?_
                        refine rb_isub hV dL_rivers_433 ?_
                        refine rb_iload hV dL_rivers_434 rfl ?_
                        refine rb_iadd hV dL_rivers_436 ?_
                        refine rb_icmp_ne hV (tgt := 480) dL_rivers_437 (by decide) ⟨(by unfold ab_r at *; omega), (by unfold ab_r at *; omega)⟩ (fun c437 => absurd c437 (by omega)) (fun c437 => ?_)
                        refine rb_aload_n hV dL_rivers_440 rfl rfl ?_
                        refine rb_iload hV dL_rivers_441 rfl ?_
                        refine rb_iload hV dL_rivers_443 rfl ?_
                        refine rb_iconst hV dL_rivers_445 ?_
                        refine rb_isub hV dL_rivers_446 ?_
                        refine rb_callV hV (rest := []) dL_rivers_447 (c_X9_river s riv ((s 32 (s 26 line + x)) - 1) (by unfold ab_r at *; omega) (by unfold ab_r at *; omega) hx) lk_L_62 rfl (Or.inl ⟨8, _, TX9, 8, gw_0 _, rfl⟩) rfl ⟨rfl, rfl, (Nat.le_of_ble_eq_true rfl), (Nat.le_of_ble_eq_true rfl), (Nat.le_of_ble_eq_true rfl), (Nat.le_of_ble_eq_true rfl)⟩ (Nat.le_of_ble_eq_true rfl) (fun r9 h9 p9 => ?_)
                        obtain ⟨v447, rfl, rfl, hr447⟩ := p9
                        have h447 := (RIV_at hr447 (by omega) (by omega) he hrv t8).2.2 (by omega) (by omega)
                        obtain ⟨u1, u2, u3, u4⟩ := upn_ok t3 (show 0 ≤ (s 26 line + x) by omega) qw.2 qsl (s 32 (s 26 line + x) - 1).toNat (by omega)
                        have u5 := RV_in hx t1 u1.1 (by omega) u2
                        have u7 := (RV_line hx u5.1.1 u5.1.2).2.2.2.1
                        have u6 : 0 ≤ v447 ∧ v447 ≤ 7000 := by omega
                        show V 450 [some (.inr (some 0)), some (.inl (s 107 0)), some (.inl mo), some (.inl (str + ((s 32 (s 26 line + x)) - 2))), some (.inl riv), some (.inl (2 * (s 102 0))), some (.inl line), some (.inl ((s 26 (line + 1) - 1) - (s 26 line))), some (.inl x), some (.inl ((2 * b1) + b0)), some (.inl above), some (.inl up), some (.inl below), some (.inl (s 32 (s 26 line + x))), none, none] [.inl v447] (WW s) 0 0
                        refine rb_if_lt hV (tgt := 480) dL_rivers_450 (by decide) (by unfold ab_r at *; omega) (fun c450 => absurd c450 (by omega)) (fun c450 => ?_)
                        refine rb_aload_n hV dL_rivers_453 rfl rfl ?_
                        refine rb_iload hV dL_rivers_454 rfl ?_
                        refine rb_iload hV dL_rivers_456 rfl ?_
                        refine rb_callV hV (rest := []) dL_rivers_458 (c_X9_river s riv (s 32 (s 26 line + x)) (by unfold ab_r at *; omega) (by unfold ab_r at *; omega) hx) lk_L_62 rfl (Or.inl ⟨8, _, TX9, 8, gw_0 _, rfl⟩) rfl ⟨rfl, rfl, (Nat.le_of_ble_eq_true rfl), (Nat.le_of_ble_eq_true rfl), (Nat.le_of_ble_eq_true rfl), (Nat.le_of_ble_eq_true rfl)⟩ (Nat.le_of_ble_eq_true rfl) (fun r9 h9 p9 => ?_)
                        obtain ⟨v458, rfl, rfl, hr458⟩ := p9
                        have h458 := (RIV_at hr458 (by omega) (by omega) he hrv t8).2.1 (by omega) (by omega)
                        show V 461 [some (.inr (some 0)), some (.inl (s 107 0)), some (.inl mo), some (.inl (str + ((s 32 (s 26 line + x)) - 2))), some (.inl riv), some (.inl (2 * (s 102 0))), some (.inl line), some (.inl ((s 26 (line + 1) - 1) - (s 26 line))), some (.inl x), some (.inl ((2 * b1) + b0)), some (.inl above), some (.inl up), some (.inl below), some (.inl (s 32 (s 26 line + x))), none, none] [.inl v458] (WW s) 0 0
                        refine rb_sipush hV dL_rivers_461 (by decide) ?_
                        refine rb_icmp_ne hV (tgt := 480) dL_rivers_464 (by decide) ⟨(by unfold ab_r at *; omega), (by unfold ab_r at *; omega)⟩ (fun c464 => absurd c464 (by omega)) (fun c464 => ?_)
                        refine rb_aload_n hV dL_rivers_467 rfl rfl ?_
                        refine rb_iload hV dL_rivers_468 rfl ?_
                        refine rb_iconst hV dL_rivers_470 ?_
                        refine rb_callV hV (rest := []) dL_rivers_471 (c_X9_river s riv (-1) (by unfold ab_r at *; omega) (by unfold ab_r at *; omega) hx) lk_L_62 rfl (Or.inl ⟨8, _, TX9, 8, gw_0 _, rfl⟩) rfl ⟨rfl, rfl, (Nat.le_of_ble_eq_true rfl), (Nat.le_of_ble_eq_true rfl), (Nat.le_of_ble_eq_true rfl), (Nat.le_of_ble_eq_true rfl)⟩ (Nat.le_of_ble_eq_true rfl) (fun r9 h9 p9 => ?_)
                        obtain ⟨v471, rfl, rfl, hr471⟩ := p9
                        have h471 := (RIV_at hr471 (by omega) (by omega) he hrv t8).1 (by omega)
                        show V 474 [some (.inr (some 0)), some (.inl (s 107 0)), some (.inl mo), some (.inl (str + ((s 32 (s 26 line + x)) - 2))), some (.inl riv), some (.inl (2 * (s 102 0))), some (.inl line), some (.inl ((s 26 (line + 1) - 1) - (s 26 line))), some (.inl x), some (.inl ((2 * b1) + b0)), some (.inl above), some (.inl up), some (.inl below), some (.inl (s 32 (s 26 line + x))), none, none] [.inl v471] (WW s) 0 0
                        refine rb_sipush hV dL_rivers_474 (by decide) ?_
                        refine rb_icmp_eq hV (tgt := 482) dL_rivers_477 (by decide) ⟨(by unfold ab_r at *; omega), (by unfold ab_r at *; omega)⟩ (fun c477 => ?_) (fun c477 => absurd c477 (by omega))
                        refine rb_iinc hV (L2 := [some (.inr (some 0)), some (.inl (s 107 0)), some (.inl mo), some (.inl (str + ((s 32 (s 26 line + x)) - 2))), some (.inl (riv + 1)), some (.inl (2 * (s 102 0))), some (.inl line), some (.inl ((s 26 (line + 1) - 1) - (s 26 line))), some (.inl x), some (.inl ((2 * b1) + b0)), some (.inl above), some (.inl up), some (.inl below), some (.inl (s 32 (s 26 line + x))), none, none]) dL_rivers_482 rfl rfl rfl ?_
                        refine rb_iinc hV (L2 := [some (.inr (some 0)), some (.inl (s 107 0)), some (.inl mo), some (.inl (str + ((s 32 (s 26 line + x)) - 2))), some (.inl (riv + 1)), some (.inl (2 * (s 102 0))), some (.inl line), some (.inl ((s 26 (line + 1) - 1) - (s 26 line))), some (.inl (x + 1)), some (.inl ((2 * b1) + b0)), some (.inl above), some (.inl up), some (.inl below), some (.inl (s 32 (s 26 line + x))), none, none]) dL_rivers_485 rfl rfl rfl ?_
                        refine rb_goto hV (tgt := 52) dL_rivers_488 (by decide) ?_
                        refine rb_weak hV (L2 := [some (.inr (some 0)), some (.inl (s 107 0)), some (.inl mo), some (.inl (str + ((s 32 (s 26 line + x)) - 2))), some (.inl (riv + 1)), some (.inl (2 * (s 102 0))), some (.inl line), some (.inl ((s 26 (line + 1) - 1) - (s 26 line))), some (.inl (x + 1)), none, none, none, none, none, none, none]) ⟨rfl, ⟨rfl, ⟨rfl, ⟨rfl, ⟨rfl, ⟨rfl, ⟨rfl, ⟨rfl, ⟨rfl, trivial⟩⟩⟩⟩⟩⟩⟩⟩⟩ ?_
                        refine ih52 mo (str + ((s 32 (s 26 line + x)) - 2)) (riv + 1) (x + 1) ?_ ?_ ?_
                        · omega
                        · rw [← Int.add_assoc, hmo]
                          exact RVH_yes hR (by omega) qsl ⟨by omega, by omega⟩
                        · omega
                  have hmb := GLp_b hR.2.2 (show (0 : Int) ≤ 60 by omega) t6
                  refine rb_iload hV dL_rivers_370 rfl ?_
                  refine rb_iload_n hV dL_rivers_372 rfl rfl ?_
                  refine rb_icmp_le hV (tgt := 381) dL_rivers_373 (by decide) ⟨(by unfold ab_r at *; omega), (by unfold ab_r at *; omega)⟩ (fun c373 => ?_) (fun c373 => ?_)
                  · refine rb_iload_n hV dL_rivers_381 rfl rfl ?_
                    refine j382 most ?_
                    · omega
                  · refine rb_iload hV dL_rivers_376 rfl ?_
                    refine rb_goto hV (tgt := 382) dL_rivers_378 (by decide) ?_
                    refine j382 (s 32 (s 26 line + x)) ?_
                    · omega
                refine rb_iconst hV dL_rivers_250 ?_
                refine rb_istore hV (L2 := [some (.inr (some 0)), some (.inl (s 107 0)), some (.inl most), some (.inl str), some (.inl riv), some (.inl (2 * (s 102 0))), some (.inl line), some (.inl ((s 26 (line + 1) - 1) - (s 26 line))), some (.inl x), some (.inl ((2 * b1) + b0)), some (.inl above), some (.inl up), some (.inl 0), some (.inl 0), none, none]) dL_rivers_251 (Nat.le_of_ble_eq_true rfl) rfl ?_
                have h253 : ∀ (n253 : Nat) (below : Int) (y : Int), (0 ≤ y ∧ (¬ line + 1 < s 107 0 → y = 0) ∧ (line + 1 < s 107 0 → y ≤ s 26 (line + 1 + 1) - 1 - s 26 (line + 1))) → (DNp (s 27) (s 28) (s 33) (2 * s 102 0) (s 26 line + x) (s 26 (line + 1)) y below) → ((s 103 0 - y).toNat) < n253 → V 253 [some (.inr (some 0)), some (.inl (s 107 0)), some (.inl most), some (.inl str), some (.inl riv), some (.inl (2 * (s 102 0))), some (.inl line), some (.inl ((s 26 (line + 1) - 1) - (s 26 line))), some (.inl x), some (.inl ((2 * b1) + b0)), some (.inl above), some (.inl up), some (.inl below), some (.inl y), none, none] [] (WW s) 0 0 := by
                  intro n253
                  induction n253 with
                  | zero => intro below y hy0 hdn hm; omega
                  | succ n253 ih253 =>
                    intro below y hy0 hdn hm
                    have hbb := DN_b hdn
                    refine rb_iload hV dL_rivers_253 rfl ?_
                    refine rb_iconst hV dL_rivers_255 ?_
                    refine rb_iadd hV dL_rivers_256 ?_
                    refine rb_iload_n hV dL_rivers_257 rfl rfl ?_
                    refine rb_icmp_ge hV (tgt := 348) dL_rivers_258 (by decide) ⟨(by unfold ab_r at *; omega), (by unfold ab_r at *; omega)⟩ (fun c258 => ?_) (fun c258 => ?_)
                    · refine rb_weak hV (L2 := [some (.inr (some 0)), some (.inl (s 107 0)), some (.inl most), some (.inl str), some (.inl riv), some (.inl (2 * (s 102 0))), some (.inl line), some (.inl ((s 26 (line + 1) - 1) - (s 26 line))), some (.inl x), some (.inl ((2 * b1) + b0)), some (.inl above), some (.inl up), some (.inl below), none, none, none]) ⟨rfl, ⟨rfl, ⟨rfl, ⟨rfl, ⟨rfl, ⟨rfl, ⟨rfl, ⟨rfl, ⟨rfl, ⟨rfl, ⟨rfl, ⟨rfl, ⟨rfl, trivial⟩⟩⟩⟩⟩⟩⟩⟩⟩⟩⟩⟩⟩ ?_
                      refine j348 below ?_
                      · have hin : ∀ u, u < s 103 0 - 1 → ¬ s 28 u = -1 → cnd (s 27) (s 28) (s 33) (2 * s 102 0) u (s 26 line + x) → s 26 (line + 1) ≤ u ∧ u < s 26 (line + 1) + y := fun u a b c => by
                          have r := RV_in hx t1 (by have := c.1; have := c.2.1; omega) (by omega) b
                          have r1 := c.2.2.1
                          rw [show s 27 u = line + 1 by omega] at r
                          omega
                        have hu : ∀ u, s 26 (line + 1) ≤ u → u < s 26 (line + 1) + y → u < s 103 0 - 1 ∧ ¬ s 28 u = -1 := fun u a b => by
                          have hc : line + 1 < s 107 0 := by omega
                          obtain ⟨c1, c0, p1, p0, p3, pm, bc1, bc0, plo, psl, pw, pln, pln2⟩ := RV_space hx (l := line + 1) (y := u - s 26 (line + 1)) (by omega) hc (by omega) (by omega)
                          rw [show s 26 (line + 1) + (u - s 26 (line + 1)) = u by omega] at pw psl
                          exact ⟨pw.2, psl⟩
                        exact ⟨DN_end hdn hin hu t4 (by omega) qw.2, hbb⟩
                    · have rd := RV_line hx (l := line + 1) (by omega) (by omega)
                      have bd2 := rd.2.2.2.1
                      refine rb_iload hV dL_rivers_261 rfl ?_
                      refine rb_aload_n hV dL_rivers_263 rfl rfl ?_
                      refine rb_iload hV dL_rivers_264 rfl ?_
                      refine rb_iconst hV dL_rivers_266 ?_
                      refine rb_iadd hV dL_rivers_267 ?_
                      refine rb_iconst hV dL_rivers_268 ?_
                      refine rb_callV hV (rest := [.inl y]) dL_rivers_269 (c_X9_line s (line + 1) 1 (by unfold ab_r at *; omega) (by unfold ab_r at *; omega) hx) lk_L_43 rfl (Or.inl ⟨8, _, TX9, 8, gw_0 _, rfl⟩) rfl ⟨rfl, rfl, (Nat.le_of_ble_eq_true rfl), (Nat.le_of_ble_eq_true rfl), (Nat.le_of_ble_eq_true rfl), (Nat.le_of_ble_eq_true rfl)⟩ (Nat.le_of_ble_eq_true rfl) (fun r9 h9 p9 => ?_)
                      obtain ⟨rfl, rfl⟩ : r9 = some (.inl (s 26 (line + 1 + 1) - 1)) ∧ h9 = WW s := ⟨p9.1.trans (congrArg (fun z : Int => (some (Sum.inl z) : Option ab_V)) rd.2.1), p9.2⟩
                      show V 272 [some (.inr (some 0)), some (.inl (s 107 0)), some (.inl most), some (.inl str), some (.inl riv), some (.inl (2 * (s 102 0))), some (.inl line), some (.inl ((s 26 (line + 1) - 1) - (s 26 line))), some (.inl x), some (.inl ((2 * b1) + b0)), some (.inl above), some (.inl up), some (.inl below), some (.inl y), none, none] [.inl (s 26 (line + 1 + 1) - 1), .inl y] (WW s) 0 0
                      refine rb_aload_n hV dL_rivers_272 rfl rfl ?_
                      refine rb_iload hV dL_rivers_273 rfl ?_
                      refine rb_iconst hV dL_rivers_275 ?_
                      refine rb_iadd hV dL_rivers_276 ?_
                      refine rb_iconst hV dL_rivers_277 ?_
                      refine rb_callV hV (rest := [.inl (s 26 (line + 1 + 1) - 1), .inl y]) dL_rivers_278 (c_X9_line s (line + 1) 0 (by unfold ab_r at *; omega) (by unfold ab_r at *; omega) hx) lk_L_43 rfl (Or.inl ⟨8, _, TX9, 8, gw_0 _, rfl⟩) rfl ⟨rfl, rfl, (Nat.le_of_ble_eq_true rfl), (Nat.le_of_ble_eq_true rfl), (Nat.le_of_ble_eq_true rfl), (Nat.le_of_ble_eq_true rfl)⟩ (Nat.le_of_ble_eq_true rfl) (fun r9 h9 p9 => ?_)
                      obtain ⟨rfl, rfl⟩ : r9 = some (.inl (s 26 (line + 1))) ∧ h9 = WW s := ⟨p9.1.trans (congrArg (fun z : Int => (some (Sum.inl z) : Option ab_V)) rd.1), p9.2⟩
                      show V 281 [some (.inr (some 0)), some (.inl (s 107 0)), some (.inl most), some (.inl str), some (.inl riv), some (.inl (2 * (s 102 0))), some (.inl line), some (.inl ((s 26 (line + 1) - 1) - (s 26 line))), some (.inl x), some (.inl ((2 * b1) + b0)), some (.inl above), some (.inl up), some (.inl below), some (.inl y), none, none] [.inl (s 26 (line + 1)), .inl (s 26 (line + 1 + 1) - 1), .inl y] (WW s) 0 0
                      refine rb_isub hV dL_rivers_281 ?_
                      refine rb_icmp_ge hV (tgt := 348) dL_rivers_282 (by decide) ⟨(by unfold ab_r at *; omega), (by unfold ab_r at *; omega)⟩ (fun c282 => ?_) (fun c282 => ?_)
                      · refine rb_weak hV (L2 := [some (.inr (some 0)), some (.inl (s 107 0)), some (.inl most), some (.inl str), some (.inl riv), some (.inl (2 * (s 102 0))), some (.inl line), some (.inl ((s 26 (line + 1) - 1) - (s 26 line))), some (.inl x), some (.inl ((2 * b1) + b0)), some (.inl above), some (.inl up), some (.inl below), none, none, none]) ⟨rfl, ⟨rfl, ⟨rfl, ⟨rfl, ⟨rfl, ⟨rfl, ⟨rfl, ⟨rfl, ⟨rfl, ⟨rfl, ⟨rfl, ⟨rfl, ⟨rfl, trivial⟩⟩⟩⟩⟩⟩⟩⟩⟩⟩⟩⟩⟩ ?_
                        refine j348 below ?_
                        · have hin : ∀ u, u < s 103 0 - 1 → ¬ s 28 u = -1 → cnd (s 27) (s 28) (s 33) (2 * s 102 0) u (s 26 line + x) → s 26 (line + 1) ≤ u ∧ u < s 26 (line + 1) + y := fun u a b c => by
                            have r := RV_in hx t1 (by have := c.1; have := c.2.1; omega) (by omega) b
                            have r1 := c.2.2.1
                            rw [show s 27 u = line + 1 by omega] at r
                            omega
                          have hu : ∀ u, s 26 (line + 1) ≤ u → u < s 26 (line + 1) + y → u < s 103 0 - 1 ∧ ¬ s 28 u = -1 := fun u a b => by
                            have hc : line + 1 < s 107 0 := by omega
                            obtain ⟨c1, c0, p1, p0, p3, pm, bc1, bc0, plo, psl, pw, pln, pln2⟩ := RV_space hx (l := line + 1) (y := u - s 26 (line + 1)) (by omega) hc (by omega) (by omega)
                            rw [show s 26 (line + 1) + (u - s 26 (line + 1)) = u by omega] at pw psl
                            exact ⟨pw.2, psl⟩
                          exact ⟨DN_end hdn hin hu t4 (by omega) qw.2, hbb⟩
                      · obtain ⟨c1, c0, p1, p0, p3, pm, bc1, bc0, plo, psl, pw, pln, pln2⟩ := RV_space hx (l := line + 1) (y := y) (by omega) (by omega) hy0.1 (by omega)
                        refine rb_iconst hV dL_rivers_285 ?_
                        refine rb_aload_n hV dL_rivers_286 rfl rfl ?_
                        refine rb_iload hV dL_rivers_287 rfl ?_
                        refine rb_iconst hV dL_rivers_289 ?_
                        refine rb_iadd hV dL_rivers_290 ?_
                        refine rb_iload hV dL_rivers_291 rfl ?_
                        refine rb_iconst hV dL_rivers_293 ?_
                        refine rb_callV hV (rest := [.inl 2]) dL_rivers_294 (c_X9_space s (line + 1) y 1 (by unfold ab_r at *; omega) (by unfold ab_r at *; omega) (by unfold ab_r at *; omega) hx) lk_L_49 rfl (Or.inl ⟨8, _, TX9, 8, gw_0 _, rfl⟩) rfl ⟨rfl, rfl, (Nat.le_of_ble_eq_true rfl), (Nat.le_of_ble_eq_true rfl), (Nat.le_of_ble_eq_true rfl), (Nat.le_of_ble_eq_true rfl)⟩ (Nat.le_of_ble_eq_true rfl) (fun r9 h9 p9 => ?_)
                        obtain ⟨rfl, rfl⟩ : r9 = some (.inl c1) ∧ h9 = WW s := ⟨p9.1.trans (congrArg (fun z : Int => (some (Sum.inl z) : Option ab_V)) p1), p9.2⟩
                        show V 297 [some (.inr (some 0)), some (.inl (s 107 0)), some (.inl most), some (.inl str), some (.inl riv), some (.inl (2 * (s 102 0))), some (.inl line), some (.inl ((s 26 (line + 1) - 1) - (s 26 line))), some (.inl x), some (.inl ((2 * b1) + b0)), some (.inl above), some (.inl up), some (.inl below), some (.inl y), none, none] [.inl c1, .inl 2] (WW s) 0 0
                        refine rb_imul hV dL_rivers_297 ?_
                        refine rb_aload_n hV dL_rivers_298 rfl rfl ?_
                        refine rb_iload hV dL_rivers_299 rfl ?_
                        refine rb_iconst hV dL_rivers_301 ?_
                        refine rb_iadd hV dL_rivers_302 ?_
                        refine rb_iload hV dL_rivers_303 rfl ?_
                        refine rb_iconst hV dL_rivers_305 ?_
                        refine rb_callV hV (rest := [.inl (2 * c1)]) dL_rivers_306 (c_X9_space s (line + 1) y 0 (by unfold ab_r at *; omega) (by unfold ab_r at *; omega) (by unfold ab_r at *; omega) hx) lk_L_49 rfl (Or.inl ⟨8, _, TX9, 8, gw_0 _, rfl⟩) rfl ⟨rfl, rfl, (Nat.le_of_ble_eq_true rfl), (Nat.le_of_ble_eq_true rfl), (Nat.le_of_ble_eq_true rfl), (Nat.le_of_ble_eq_true rfl)⟩ (Nat.le_of_ble_eq_true rfl) (fun r9 h9 p9 => ?_)
                        obtain ⟨rfl, rfl⟩ : r9 = some (.inl c0) ∧ h9 = WW s := ⟨p9.1.trans (congrArg (fun z : Int => (some (Sum.inl z) : Option ab_V)) p0), p9.2⟩
                        show V 309 [some (.inr (some 0)), some (.inl (s 107 0)), some (.inl most), some (.inl str), some (.inl riv), some (.inl (2 * (s 102 0))), some (.inl line), some (.inl ((s 26 (line + 1) - 1) - (s 26 line))), some (.inl x), some (.inl ((2 * b1) + b0)), some (.inl above), some (.inl up), some (.inl below), some (.inl y), none, none] [.inl c0, .inl (2 * c1)] (WW s) 0 0
                        refine rb_iadd hV dL_rivers_309 ?_
                        refine rb_iload hV dL_rivers_310 rfl ?_
                        refine rb_isub hV dL_rivers_312 ?_
                        refine rb_istore hV (L2 := [some (.inr (some 0)), some (.inl (s 107 0)), some (.inl most), some (.inl str), some (.inl riv), some (.inl (2 * (s 102 0))), some (.inl line), some (.inl ((s 26 (line + 1) - 1) - (s 26 line))), some (.inl x), some (.inl ((2 * b1) + b0)), some (.inl above), some (.inl up), some (.inl below), some (.inl y), some (.inl (((2 * c1) + c0) - ((2 * b1) + b0))), none]) dL_rivers_313 (Nat.le_of_ble_eq_true rfl) rfl ?_
                        refine rb_iload hV dL_rivers_315 rfl ?_
                        refine rb_if_ne hV (tgt := 335) dL_rivers_317 (by decide) (by unfold ab_r at *; omega) (fun c317 => ?_) (fun c317 => ?_)
                        · refine rb_iconst hV dL_rivers_335 ?_
                          refine rb_goto hV (tgt := 340) dL_rivers_336 (by decide) ?_
                          refine rb_istore hV (L2 := [some (.inr (some 0)), some (.inl (s 107 0)), some (.inl most), some (.inl str), some (.inl riv), some (.inl (2 * (s 102 0))), some (.inl line), some (.inl ((s 26 (line + 1) - 1) - (s 26 line))), some (.inl x), some (.inl ((2 * b1) + b0)), some (.inl above), some (.inl up), some (.inl 1), some (.inl y), some (.inl (((2 * c1) + c0) - ((2 * b1) + b0))), none]) dL_rivers_340 (Nat.le_of_ble_eq_true rfl) rfl ?_
                          refine rb_iinc hV (L2 := [some (.inr (some 0)), some (.inl (s 107 0)), some (.inl most), some (.inl str), some (.inl riv), some (.inl (2 * (s 102 0))), some (.inl line), some (.inl ((s 26 (line + 1) - 1) - (s 26 line))), some (.inl x), some (.inl ((2 * b1) + b0)), some (.inl above), some (.inl up), some (.inl 1), some (.inl (y + 1)), some (.inl (((2 * c1) + c0) - ((2 * b1) + b0))), none]) dL_rivers_342 rfl rfl rfl ?_
                          refine rb_goto hV (tgt := 253) dL_rivers_345 (by decide) ?_
                          refine rb_weak hV (L2 := [some (.inr (some 0)), some (.inl (s 107 0)), some (.inl most), some (.inl str), some (.inl riv), some (.inl (2 * (s 102 0))), some (.inl line), some (.inl ((s 26 (line + 1) - 1) - (s 26 line))), some (.inl x), some (.inl ((2 * b1) + b0)), some (.inl above), some (.inl up), some (.inl 1), some (.inl (y + 1)), none, none]) ⟨rfl, ⟨rfl, ⟨rfl, ⟨rfl, ⟨rfl, ⟨rfl, ⟨rfl, ⟨rfl, ⟨rfl, ⟨rfl, ⟨rfl, ⟨rfl, ⟨rfl, ⟨rfl, trivial⟩⟩⟩⟩⟩⟩⟩⟩⟩⟩⟩⟩⟩⟩ ?_
                          refine ih253 1 (y + 1) ?_ ?_ ?_
                          · exact ⟨by omega, fun q => by omega, fun _ => by omega⟩
                          · have q : below = 1 := by omega
                            rw [q] at hdn
                            exact DN_keep hdn
                          · omega
                        · refine rb_iload hV dL_rivers_320 rfl ?_
                          refine rb_iload hV dL_rivers_322 rfl ?_
                          refine rb_icmp_gt hV (tgt := 339) dL_rivers_324 (by decide) ⟨(by unfold ab_r at *; omega), (by unfold ab_r at *; omega)⟩ (fun c324 => ?_) (fun c324 => ?_)
                          · refine rb_iconst hV dL_rivers_339 ?_
                            refine rb_istore hV (L2 := [some (.inr (some 0)), some (.inl (s 107 0)), some (.inl most), some (.inl str), some (.inl riv), some (.inl (2 * (s 102 0))), some (.inl line), some (.inl ((s 26 (line + 1) - 1) - (s 26 line))), some (.inl x), some (.inl ((2 * b1) + b0)), some (.inl above), some (.inl up), some (.inl 0), some (.inl y), some (.inl (((2 * c1) + c0) - ((2 * b1) + b0))), none]) dL_rivers_340 (Nat.le_of_ble_eq_true rfl) rfl ?_
                            refine rb_iinc hV (L2 := [some (.inr (some 0)), some (.inl (s 107 0)), some (.inl most), some (.inl str), some (.inl riv), some (.inl (2 * (s 102 0))), some (.inl line), some (.inl ((s 26 (line + 1) - 1) - (s 26 line))), some (.inl x), some (.inl ((2 * b1) + b0)), some (.inl above), some (.inl up), some (.inl 0), some (.inl (y + 1)), some (.inl (((2 * c1) + c0) - ((2 * b1) + b0))), none]) dL_rivers_342 rfl rfl rfl ?_
                            refine rb_goto hV (tgt := 253) dL_rivers_345 (by decide) ?_
                            refine rb_weak hV (L2 := [some (.inr (some 0)), some (.inl (s 107 0)), some (.inl most), some (.inl str), some (.inl riv), some (.inl (2 * (s 102 0))), some (.inl line), some (.inl ((s 26 (line + 1) - 1) - (s 26 line))), some (.inl x), some (.inl ((2 * b1) + b0)), some (.inl above), some (.inl up), some (.inl 0), some (.inl (y + 1)), none, none]) ⟨rfl, ⟨rfl, ⟨rfl, ⟨rfl, ⟨rfl, ⟨rfl, ⟨rfl, ⟨rfl, ⟨rfl, ⟨rfl, ⟨rfl, ⟨rfl, ⟨rfl, ⟨rfl, trivial⟩⟩⟩⟩⟩⟩⟩⟩⟩⟩⟩⟩⟩⟩ ?_
                            refine ih253 0 (y + 1) ?_ ?_ ?_
                            · exact ⟨by omega, fun q => by omega, fun _ => by omega⟩
                            · have q : below = 0 := by omega
                              rw [q] at hdn
                              exact DN_skip hdn (fun q => by have q1 := q.2.2.2.2; omega)
                            · omega
                          · refine rb_iload hV dL_rivers_327 rfl ?_
                            refine rb_iload hV dL_rivers_329 rfl ?_
                            refine rb_ineg hV dL_rivers_331 ?_
                            refine rb_icmp_lt hV (tgt := 339) dL_rivers_332 (by decide) ⟨(by unfold ab_r at *; omega), (by unfold ab_r at *; omega)⟩ (fun c332 => ?_) (fun c332 => ?_)
                            · refine rb_iconst hV dL_rivers_339 ?_
                              refine rb_istore hV (L2 := [some (.inr (some 0)), some (.inl (s 107 0)), some (.inl most), some (.inl str), some (.inl riv), some (.inl (2 * (s 102 0))), some (.inl line), some (.inl ((s 26 (line + 1) - 1) - (s 26 line))), some (.inl x), some (.inl ((2 * b1) + b0)), some (.inl above), some (.inl up), some (.inl 0), some (.inl y), some (.inl (((2 * c1) + c0) - ((2 * b1) + b0))), none]) dL_rivers_340 (Nat.le_of_ble_eq_true rfl) rfl ?_
                              refine rb_iinc hV (L2 := [some (.inr (some 0)), some (.inl (s 107 0)), some (.inl most), some (.inl str), some (.inl riv), some (.inl (2 * (s 102 0))), some (.inl line), some (.inl ((s 26 (line + 1) - 1) - (s 26 line))), some (.inl x), some (.inl ((2 * b1) + b0)), some (.inl above), some (.inl up), some (.inl 0), some (.inl (y + 1)), some (.inl (((2 * c1) + c0) - ((2 * b1) + b0))), none]) dL_rivers_342 rfl rfl rfl ?_
                              refine rb_goto hV (tgt := 253) dL_rivers_345 (by decide) ?_
                              refine rb_weak hV (L2 := [some (.inr (some 0)), some (.inl (s 107 0)), some (.inl most), some (.inl str), some (.inl riv), some (.inl (2 * (s 102 0))), some (.inl line), some (.inl ((s 26 (line + 1) - 1) - (s 26 line))), some (.inl x), some (.inl ((2 * b1) + b0)), some (.inl above), some (.inl up), some (.inl 0), some (.inl (y + 1)), none, none]) ⟨rfl, ⟨rfl, ⟨rfl, ⟨rfl, ⟨rfl, ⟨rfl, ⟨rfl, ⟨rfl, ⟨rfl, ⟨rfl, ⟨rfl, ⟨rfl, ⟨rfl, ⟨rfl, trivial⟩⟩⟩⟩⟩⟩⟩⟩⟩⟩⟩⟩⟩⟩ ?_
                              refine ih253 0 (y + 1) ?_ ?_ ?_
                              · exact ⟨by omega, fun q => by omega, fun _ => by omega⟩
                              · have q : below = 0 := by omega
                                rw [q] at hdn
                                exact DN_skip hdn (fun q => by have q1 := q.2.2.2.2; omega)
                              · omega
                            · refine rb_iconst hV dL_rivers_335 ?_
                              refine rb_goto hV (tgt := 340) dL_rivers_336 (by decide) ?_
                              refine rb_istore hV (L2 := [some (.inr (some 0)), some (.inl (s 107 0)), some (.inl most), some (.inl str), some (.inl riv), some (.inl (2 * (s 102 0))), some (.inl line), some (.inl ((s 26 (line + 1) - 1) - (s 26 line))), some (.inl x), some (.inl ((2 * b1) + b0)), some (.inl above), some (.inl up), some (.inl 1), some (.inl y), some (.inl (((2 * c1) + c0) - ((2 * b1) + b0))), none]) dL_rivers_340 (Nat.le_of_ble_eq_true rfl) rfl ?_
                              refine rb_iinc hV (L2 := [some (.inr (some 0)), some (.inl (s 107 0)), some (.inl most), some (.inl str), some (.inl riv), some (.inl (2 * (s 102 0))), some (.inl line), some (.inl ((s 26 (line + 1) - 1) - (s 26 line))), some (.inl x), some (.inl ((2 * b1) + b0)), some (.inl above), some (.inl up), some (.inl 1), some (.inl (y + 1)), some (.inl (((2 * c1) + c0) - ((2 * b1) + b0))), none]) dL_rivers_342 rfl rfl rfl ?_
                              refine rb_goto hV (tgt := 253) dL_rivers_345 (by decide) ?_
                              refine rb_weak hV (L2 := [some (.inr (some 0)), some (.inl (s 107 0)), some (.inl most), some (.inl str), some (.inl riv), some (.inl (2 * (s 102 0))), some (.inl line), some (.inl ((s 26 (line + 1) - 1) - (s 26 line))), some (.inl x), some (.inl ((2 * b1) + b0)), some (.inl above), some (.inl up), some (.inl 1), some (.inl (y + 1)), none, none]) ⟨rfl, ⟨rfl, ⟨rfl, ⟨rfl, ⟨rfl, ⟨rfl, ⟨rfl, ⟨rfl, ⟨rfl, ⟨rfl, ⟨rfl, ⟨rfl, ⟨rfl, ⟨rfl, trivial⟩⟩⟩⟩⟩⟩⟩⟩⟩⟩⟩⟩⟩⟩ ?_
                              refine ih253 1 (y + 1) ?_ ?_ ?_
                              · exact ⟨by omega, fun q => by omega, fun _ => by omega⟩
                              · exact DN_new hy0.1 ⟨by omega, by omega, by omega, qsl, by omega, by omega⟩
                              · omega
                refine h253 _ 0 0 ?_ ?_ (Nat.lt_succ_self _)
                · refine ⟨by omega, fun _ => rfl, fun q => ?_⟩
                  have r1 := (RV_line hx (l := line + 1) (by omega) (by omega)).2.2.2.1
                  omega
                · exact DN_0
              refine rb_iconst hV dL_rivers_91 ?_
              refine rb_istore hV (L2 := [some (.inr (some 0)), some (.inl (s 107 0)), some (.inl most), some (.inl str), some (.inl riv), some (.inl (2 * (s 102 0))), some (.inl line), some (.inl ((s 26 (line + 1) - 1) - (s 26 line))), some (.inl x), some (.inl ((2 * b1) + b0)), some (.inl 0), some (.inl (-1)), some (.inl 0), some (.inl 0), none, none]) dL_rivers_92 (Nat.le_of_ble_eq_true rfl) rfl ?_
              have h94 : ∀ (n94 : Nat) (above : Int) (up : Int) (y : Int), (0 ≤ y ∧ (line = 0 → y = 0) ∧ (0 < line → y ≤ s 26 line - 1 - s 26 (line - 1))) → (UPp (s 27) (s 28) (s 33) (s 32) (2 * s 102 0) (s 26 line + x) (s 26 (line - 1)) y above up) → ((s 103 0 - y).toNat) < n94 → V 94 [some (.inr (some 0)), some (.inl (s 107 0)), some (.inl most), some (.inl str), some (.inl riv), some (.inl (2 * (s 102 0))), some (.inl line), some (.inl ((s 26 (line + 1) - 1) - (s 26 line))), some (.inl x), some (.inl ((2 * b1) + b0)), some (.inl above), some (.inl up), some (.inl 0), some (.inl y), none, none] [] (WW s) 0 0 := by
                intro n94
                induction n94 with
                | zero => intro above up y hy0 hup hm; omega
                | succ n94 ih94 =>
                  intro above up y hy0 hup hm
                  have hub := UP_b hup t6 hy0.1
                  refine rb_iload hV dL_rivers_94 rfl ?_
                  refine rb_if_le hV (tgt := 250) dL_rivers_96 (by decide) (by unfold ab_r at *; omega) (fun c96 => ?_) (fun c96 => ?_)
                  · refine rb_weak hV (L2 := [some (.inr (some 0)), some (.inl (s 107 0)), some (.inl most), some (.inl str), some (.inl riv), some (.inl (2 * (s 102 0))), some (.inl line), some (.inl ((s 26 (line + 1) - 1) - (s 26 line))), some (.inl x), some (.inl ((2 * b1) + b0)), some (.inl above), some (.inl up), some (.inl 0), none, none, none]) ⟨rfl, ⟨rfl, ⟨rfl, ⟨rfl, ⟨rfl, ⟨rfl, ⟨rfl, ⟨rfl, ⟨rfl, ⟨rfl, ⟨rfl, ⟨rfl, ⟨rfl, trivial⟩⟩⟩⟩⟩⟩⟩⟩⟩⟩⟩⟩⟩ ?_
                    refine j250 above up ?_
                    · have hin : ∀ v, cnd (s 27) (s 28) (s 33) (2 * s 102 0) (s 26 line + x) v → s 26 (line - 1) ≤ v ∧ v < s 26 (line - 1) + y := fun v c => by
                        have r := RV_in hx t1 c.1 (by have := c.2.1; omega) c.2.2.2.1
                        rw [c.2.2.1, qlo] at r
                        have r2 := r.1
                        rw [show line - 1 + 1 = line by omega] at r
                        omega
                      have z := UP_end hup hin t3 (by omega) qw.2 qsl hlo
                      have zb := UP_b hup t6 hy0.1
                      have za := pwu
                      exact ⟨z.1, by omega, by omega, z.2⟩
                  · have ru := RV_line hx (l := line - 1) (by omega) (by omega)
                    have bu := ru.2.2.2.1
                    rw [show line - 1 + 1 = line by omega] at ru bu
                    refine rb_iload hV dL_rivers_99 rfl ?_
                    refine rb_aload_n hV dL_rivers_101 rfl rfl ?_
                    refine rb_iload hV dL_rivers_102 rfl ?_
                    refine rb_iconst hV dL_rivers_104 ?_
                    refine rb_isub hV dL_rivers_105 ?_
                    refine rb_iconst hV dL_rivers_106 ?_
                    refine rb_callV hV (rest := [.inl y]) dL_rivers_107 (c_X9_line s (line - 1) 1 (by unfold ab_r at *; omega) (by unfold ab_r at *; omega) hx) lk_L_43 rfl (Or.inl ⟨8, _, TX9, 8, gw_0 _, rfl⟩) rfl ⟨rfl, rfl, (Nat.le_of_ble_eq_true rfl), (Nat.le_of_ble_eq_true rfl), (Nat.le_of_ble_eq_true rfl), (Nat.le_of_ble_eq_true rfl)⟩ (Nat.le_of_ble_eq_true rfl) (fun r9 h9 p9 => ?_)
                    obtain ⟨rfl, rfl⟩ : r9 = some (.inl (s 26 line - 1)) ∧ h9 = WW s := ⟨p9.1.trans (congrArg (fun z : Int => (some (Sum.inl z) : Option ab_V)) ru.2.1), p9.2⟩
                    show V 110 [some (.inr (some 0)), some (.inl (s 107 0)), some (.inl most), some (.inl str), some (.inl riv), some (.inl (2 * (s 102 0))), some (.inl line), some (.inl ((s 26 (line + 1) - 1) - (s 26 line))), some (.inl x), some (.inl ((2 * b1) + b0)), some (.inl above), some (.inl up), some (.inl 0), some (.inl y), none, none] [.inl (s 26 line - 1), .inl y] (WW s) 0 0
                    refine rb_aload_n hV dL_rivers_110 rfl rfl ?_
                    refine rb_iload hV dL_rivers_111 rfl ?_
                    refine rb_iconst hV dL_rivers_113 ?_
                    refine rb_isub hV dL_rivers_114 ?_
                    refine rb_iconst hV dL_rivers_115 ?_
                    refine rb_callV hV (rest := [.inl (s 26 line - 1), .inl y]) dL_rivers_116 (c_X9_line s (line - 1) 0 (by unfold ab_r at *; omega) (by unfold ab_r at *; omega) hx) lk_L_43 rfl (Or.inl ⟨8, _, TX9, 8, gw_0 _, rfl⟩) rfl ⟨rfl, rfl, (Nat.le_of_ble_eq_true rfl), (Nat.le_of_ble_eq_true rfl), (Nat.le_of_ble_eq_true rfl), (Nat.le_of_ble_eq_true rfl)⟩ (Nat.le_of_ble_eq_true rfl) (fun r9 h9 p9 => ?_)
                    obtain ⟨rfl, rfl⟩ : r9 = some (.inl (s 26 (line - 1))) ∧ h9 = WW s := ⟨p9.1.trans (congrArg (fun z : Int => (some (Sum.inl z) : Option ab_V)) ru.1), p9.2⟩
                    show V 119 [some (.inr (some 0)), some (.inl (s 107 0)), some (.inl most), some (.inl str), some (.inl riv), some (.inl (2 * (s 102 0))), some (.inl line), some (.inl ((s 26 (line + 1) - 1) - (s 26 line))), some (.inl x), some (.inl ((2 * b1) + b0)), some (.inl above), some (.inl up), some (.inl 0), some (.inl y), none, none] [.inl (s 26 (line - 1)), .inl (s 26 line - 1), .inl y] (WW s) 0 0
                    refine rb_isub hV dL_rivers_119 ?_
                    refine rb_icmp_ge hV (tgt := 250) dL_rivers_120 (by decide) ⟨(by unfold ab_r at *; omega), (by unfold ab_r at *; omega)⟩ (fun c120 => ?_) (fun c120 => ?_)
                    · refine rb_weak hV (L2 := [some (.inr (some 0)), some (.inl (s 107 0)), some (.inl most), some (.inl str), some (.inl riv), some (.inl (2 * (s 102 0))), some (.inl line), some (.inl ((s 26 (line + 1) - 1) - (s 26 line))), some (.inl x), some (.inl ((2 * b1) + b0)), some (.inl above), some (.inl up), some (.inl 0), none, none, none]) ⟨rfl, ⟨rfl, ⟨rfl, ⟨rfl, ⟨rfl, ⟨rfl, ⟨rfl, ⟨rfl, ⟨rfl, ⟨rfl, ⟨rfl, ⟨rfl, ⟨rfl, trivial⟩⟩⟩⟩⟩⟩⟩⟩⟩⟩⟩⟩⟩ ?_
                      refine j250 above up ?_
                      · have hin : ∀ v, cnd (s 27) (s 28) (s 33) (2 * s 102 0) (s 26 line + x) v → s 26 (line - 1) ≤ v ∧ v < s 26 (line - 1) + y := fun v c => by
                          have r := RV_in hx t1 c.1 (by have := c.2.1; omega) c.2.2.2.1
                          rw [c.2.2.1, qlo] at r
                          have r2 := r.1
                          rw [show line - 1 + 1 = line by omega] at r
                          omega
                        have z := UP_end hup hin t3 (by omega) qw.2 qsl hlo
                        have zb := UP_b hup t6 hy0.1
                        have za := pwu
                        exact ⟨z.1, by omega, by omega, z.2⟩
                    · obtain ⟨c1, c0, p1, p0, p3, pm, bc1, bc0, plo, psl, pw, pln, pln2⟩ := RV_space hx (l := line - 1) (y := y) (by omega) (by omega) hy0.1 (by rw [show line - 1 + 1 = line by omega]; omega)
                      refine rb_iconst hV dL_rivers_123 ?_
                      refine rb_aload_n hV dL_rivers_124 rfl rfl ?_
                      refine rb_iload hV dL_rivers_125 rfl ?_
                      refine rb_iconst hV dL_rivers_127 ?_
                      refine rb_isub hV dL_rivers_128 ?_
                      refine rb_iload hV dL_rivers_129 rfl ?_
                      refine rb_iconst hV dL_rivers_131 ?_
                      refine rb_callV hV (rest := [.inl 2]) dL_rivers_132 (c_X9_space s (line - 1) y 1 (by unfold ab_r at *; omega) (by unfold ab_r at *; omega) (by unfold ab_r at *; omega) hx) lk_L_49 rfl (Or.inl ⟨8, _, TX9, 8, gw_0 _, rfl⟩) rfl ⟨rfl, rfl, (Nat.le_of_ble_eq_true rfl), (Nat.le_of_ble_eq_true rfl), (Nat.le_of_ble_eq_true rfl), (Nat.le_of_ble_eq_true rfl)⟩ (Nat.le_of_ble_eq_true rfl) (fun r9 h9 p9 => ?_)
                      obtain ⟨rfl, rfl⟩ : r9 = some (.inl c1) ∧ h9 = WW s := ⟨p9.1.trans (congrArg (fun z : Int => (some (Sum.inl z) : Option ab_V)) p1), p9.2⟩
                      show V 135 [some (.inr (some 0)), some (.inl (s 107 0)), some (.inl most), some (.inl str), some (.inl riv), some (.inl (2 * (s 102 0))), some (.inl line), some (.inl ((s 26 (line + 1) - 1) - (s 26 line))), some (.inl x), some (.inl ((2 * b1) + b0)), some (.inl above), some (.inl up), some (.inl 0), some (.inl y), none, none] [.inl c1, .inl 2] (WW s) 0 0
                      refine rb_imul hV dL_rivers_135 ?_
                      refine rb_aload_n hV dL_rivers_136 rfl rfl ?_
                      refine rb_iload hV dL_rivers_137 rfl ?_
                      refine rb_iconst hV dL_rivers_139 ?_
                      refine rb_isub hV dL_rivers_140 ?_
                      refine rb_iload hV dL_rivers_141 rfl ?_
                      refine rb_iconst hV dL_rivers_143 ?_
                      refine rb_callV hV (rest := [.inl (2 * c1)]) dL_rivers_144 (c_X9_space s (line - 1) y 0 (by unfold ab_r at *; omega) (by unfold ab_r at *; omega) (by unfold ab_r at *; omega) hx) lk_L_49 rfl (Or.inl ⟨8, _, TX9, 8, gw_0 _, rfl⟩) rfl ⟨rfl, rfl, (Nat.le_of_ble_eq_true rfl), (Nat.le_of_ble_eq_true rfl), (Nat.le_of_ble_eq_true rfl), (Nat.le_of_ble_eq_true rfl)⟩ (Nat.le_of_ble_eq_true rfl) (fun r9 h9 p9 => ?_)
                      obtain ⟨rfl, rfl⟩ : r9 = some (.inl c0) ∧ h9 = WW s := ⟨p9.1.trans (congrArg (fun z : Int => (some (Sum.inl z) : Option ab_V)) p0), p9.2⟩
                      show V 147 [some (.inr (some 0)), some (.inl (s 107 0)), some (.inl most), some (.inl str), some (.inl riv), some (.inl (2 * (s 102 0))), some (.inl line), some (.inl ((s 26 (line + 1) - 1) - (s 26 line))), some (.inl x), some (.inl ((2 * b1) + b0)), some (.inl above), some (.inl up), some (.inl 0), some (.inl y), none, none] [.inl c0, .inl (2 * c1)] (WW s) 0 0
                      refine rb_iadd hV dL_rivers_147 ?_
                      refine rb_iload hV dL_rivers_148 rfl ?_
                      refine rb_isub hV dL_rivers_150 ?_
                      refine rb_istore hV (L2 := [some (.inr (some 0)), some (.inl (s 107 0)), some (.inl most), some (.inl str), some (.inl riv), some (.inl (2 * (s 102 0))), some (.inl line), some (.inl ((s 26 (line + 1) - 1) - (s 26 line))), some (.inl x), some (.inl ((2 * b1) + b0)), some (.inl above), some (.inl up), some (.inl 0), some (.inl y), some (.inl (((2 * c1) + c0) - ((2 * b1) + b0))), none]) dL_rivers_151 (Nat.le_of_ble_eq_true rfl) rfl ?_
                      have j173 : ∀ (is : Int), (is = 1 ∧ cnd (s 27) (s 28) (s 33) (2 * s 102 0) (s 26 line + x) (s 26 (line - 1) + y) ∨ is = 0 ∧ ¬ cnd (s 27) (s 28) (s 33) (2 * s 102 0) (s 26 line + x) (s 26 (line - 1) + y)) → V 173 [some (.inr (some 0)), some (.inl (s 107 0)), some (.inl most), some (.inl str), some (.inl riv), some (.inl (2 * (s 102 0))), some (.inl line), some (.inl ((s 26 (line + 1) - 1) - (s 26 line))), some (.inl x), some (.inl ((2 * b1) + b0)), some (.inl above), some (.inl up), some (.inl 0), some (.inl y), some (.inl (((2 * c1) + c0) - ((2 * b1) + b0))), none] [.inl is] (WW s) 0 0 := by
                        intro is hisv
                        refine rb_istore hV (L2 := [some (.inr (some 0)), some (.inl (s 107 0)), some (.inl most), some (.inl str), some (.inl riv), some (.inl (2 * (s 102 0))), some (.inl line), some (.inl ((s 26 (line + 1) - 1) - (s 26 line))), some (.inl x), some (.inl ((2 * b1) + b0)), some (.inl above), some (.inl up), some (.inl 0), some (.inl y), some (.inl (((2 * c1) + c0) - ((2 * b1) + b0))), some (.inl is)]) dL_rivers_173 (Nat.le_of_ble_eq_true rfl) rfl ?_
                        rcases hisv with ⟨rfl, his⟩ | ⟨rfl, his⟩
                        · refine rb_iload hV dL_rivers_175 rfl ?_
                          refine rb_if_eq hV (tgt := 201) dL_rivers_177 (by decide) (by unfold ab_r at *; omega) (fun z => absurd z (by decide)) (fun _ => ?_)
                          refine rb_aload_n hV dL_rivers_180 rfl rfl ?_
                          refine rb_iload hV dL_rivers_181 rfl ?_
                          refine rb_iconst hV dL_rivers_183 ?_
                          refine rb_isub hV dL_rivers_184 ?_
                          refine rb_iload hV dL_rivers_185 rfl ?_
                          refine rb_iconst hV dL_rivers_187 ?_
                          refine rb_callV hV (rest := []) dL_rivers_188 (c_X9_space s (line - 1) y 3 (by unfold ab_r at *; omega) (by unfold ab_r at *; omega) (by unfold ab_r at *; omega) hx) lk_L_49 rfl (Or.inl ⟨8, _, TX9, 8, gw_0 _, rfl⟩) rfl ⟨rfl, rfl, (Nat.le_of_ble_eq_true rfl), (Nat.le_of_ble_eq_true rfl), (Nat.le_of_ble_eq_true rfl), (Nat.le_of_ble_eq_true rfl)⟩ (Nat.le_of_ble_eq_true rfl) (fun r9 h9 p9 => ?_)
                          obtain ⟨rfl, rfl⟩ : r9 = some (.inl (s 32 (s 26 (line - 1) + y))) ∧ h9 = WW s := ⟨p9.1.trans (congrArg (fun z : Int => (some (Sum.inl z) : Option ab_V)) p3), p9.2⟩
                          show V 191 [some (.inr (some 0)), some (.inl (s 107 0)), some (.inl most), some (.inl str), some (.inl riv), some (.inl (2 * (s 102 0))), some (.inl line), some (.inl ((s 26 (line + 1) - 1) - (s 26 line))), some (.inl x), some (.inl ((2 * b1) + b0)), some (.inl above), some (.inl up), some (.inl 0), some (.inl y), some (.inl (((2 * c1) + c0) - ((2 * b1) + b0))), some (.inl 1)] [.inl (s 32 (s 26 (line - 1) + y))] (WW s) 0 0
                          refine rb_iload hV dL_rivers_191 rfl ?_
                          refine rb_icmp_le hV (tgt := 201) dL_rivers_193 (by decide) ⟨(by unfold ab_r at *; omega), (by unfold ab_r at *; omega)⟩ (fun c193 => ?_) (fun c193 => ?_)
                          · refine rb_iload hV dL_rivers_201 rfl ?_
                            refine rb_istore hV (L2 := [some (.inr (some 0)), some (.inl (s 107 0)), some (.inl most), some (.inl str), some (.inl riv), some (.inl (2 * (s 102 0))), some (.inl line), some (.inl ((s 26 (line + 1) - 1) - (s 26 line))), some (.inl x), some (.inl ((2 * b1) + b0)), some (.inl above), some (.inl up), some (.inl 0), some (.inl y), some (.inl (((2 * c1) + c0) - ((2 * b1) + b0))), some (.inl 1)]) dL_rivers_203 (Nat.le_of_ble_eq_true rfl) rfl ?_
                            refine rb_iload hV dL_rivers_205 rfl ?_
                            refine rb_if_eq hV (tgt := 240) dL_rivers_207 (by decide) (by unfold ab_r at *; omega) (fun z => absurd z (by decide)) (fun _ => ?_)
                            refine rb_aload_n hV dL_rivers_210 rfl rfl ?_
                            refine rb_iload hV dL_rivers_211 rfl ?_
                            refine rb_iconst hV dL_rivers_213 ?_
                            refine rb_isub hV dL_rivers_214 ?_
                            refine rb_iload hV dL_rivers_215 rfl ?_
                            refine rb_iconst hV dL_rivers_217 ?_
                            refine rb_callV hV (rest := []) dL_rivers_218 (c_X9_space s (line - 1) y 3 (by unfold ab_r at *; omega) (by unfold ab_r at *; omega) (by unfold ab_r at *; omega) hx) lk_L_49 rfl (Or.inl ⟨8, _, TX9, 8, gw_0 _, rfl⟩) rfl ⟨rfl, rfl, (Nat.le_of_ble_eq_true rfl), (Nat.le_of_ble_eq_true rfl), (Nat.le_of_ble_eq_true rfl), (Nat.le_of_ble_eq_true rfl)⟩ (Nat.le_of_ble_eq_true rfl) (fun r9 h9 p9 => ?_)
                            obtain ⟨rfl, rfl⟩ : r9 = some (.inl (s 32 (s 26 (line - 1) + y))) ∧ h9 = WW s := ⟨p9.1.trans (congrArg (fun z : Int => (some (Sum.inl z) : Option ab_V)) p3), p9.2⟩
                            show V 221 [some (.inr (some 0)), some (.inl (s 107 0)), some (.inl most), some (.inl str), some (.inl riv), some (.inl (2 * (s 102 0))), some (.inl line), some (.inl ((s 26 (line + 1) - 1) - (s 26 line))), some (.inl x), some (.inl ((2 * b1) + b0)), some (.inl above), some (.inl up), some (.inl 0), some (.inl y), some (.inl (((2 * c1) + c0) - ((2 * b1) + b0))), some (.inl 1)] [.inl (s 32 (s 26 (line - 1) + y))] (WW s) 0 0
                            refine rb_iload hV dL_rivers_221 rfl ?_
                            refine rb_icmp_le hV (tgt := 240) dL_rivers_223 (by decide) ⟨(by unfold ab_r at *; omega), (by unfold ab_r at *; omega)⟩ (fun c223 => ?_) (fun c223 => absurd c223 (by omega))
                            refine rb_iload hV dL_rivers_240 rfl ?_
                            refine rb_istore hV (L2 := [some (.inr (some 0)), some (.inl (s 107 0)), some (.inl most), some (.inl str), some (.inl riv), some (.inl (2 * (s 102 0))), some (.inl line), some (.inl ((s 26 (line + 1) - 1) - (s 26 line))), some (.inl x), some (.inl ((2 * b1) + b0)), some (.inl above), some (.inl up), some (.inl 0), some (.inl y), some (.inl (((2 * c1) + c0) - ((2 * b1) + b0))), some (.inl 1)]) dL_rivers_242 (Nat.le_of_ble_eq_true rfl) rfl ?_
                            refine rb_iinc hV (L2 := [some (.inr (some 0)), some (.inl (s 107 0)), some (.inl most), some (.inl str), some (.inl riv), some (.inl (2 * (s 102 0))), some (.inl line), some (.inl ((s 26 (line + 1) - 1) - (s 26 line))), some (.inl x), some (.inl ((2 * b1) + b0)), some (.inl above), some (.inl up), some (.inl 0), some (.inl (y + 1)), some (.inl (((2 * c1) + c0) - ((2 * b1) + b0))), some (.inl 1)]) dL_rivers_244 rfl rfl rfl ?_
                            refine rb_goto hV (tgt := 94) dL_rivers_247 (by decide) ?_
                            refine rb_weak hV (L2 := [some (.inr (some 0)), some (.inl (s 107 0)), some (.inl most), some (.inl str), some (.inl riv), some (.inl (2 * (s 102 0))), some (.inl line), some (.inl ((s 26 (line + 1) - 1) - (s 26 line))), some (.inl x), some (.inl ((2 * b1) + b0)), some (.inl above), some (.inl up), some (.inl 0), some (.inl (y + 1)), none, none]) ⟨rfl, ⟨rfl, ⟨rfl, ⟨rfl, ⟨rfl, ⟨rfl, ⟨rfl, ⟨rfl, ⟨rfl, ⟨rfl, ⟨rfl, ⟨rfl, ⟨rfl, ⟨rfl, trivial⟩⟩⟩⟩⟩⟩⟩⟩⟩⟩⟩⟩⟩⟩ ?_
                            refine ih94 above up (y + 1) ?_ ?_ ?_
                            · exact ⟨by omega, fun q => by omega, fun _ => by omega⟩
                            · exact UP_old hup pln (by omega)
                            · omega
                          · refine rb_iload hV dL_rivers_196 rfl ?_
                            refine rb_goto hV (tgt := 203) dL_rivers_198 (by decide) ?_
                            refine rb_istore hV (L2 := [some (.inr (some 0)), some (.inl (s 107 0)), some (.inl most), some (.inl str), some (.inl riv), some (.inl (2 * (s 102 0))), some (.inl line), some (.inl ((s 26 (line + 1) - 1) - (s 26 line))), some (.inl x), some (.inl ((2 * b1) + b0)), some (.inl above), some (.inl y), some (.inl 0), some (.inl y), some (.inl (((2 * c1) + c0) - ((2 * b1) + b0))), some (.inl 1)]) dL_rivers_203 (Nat.le_of_ble_eq_true rfl) rfl ?_
                            refine rb_iload hV dL_rivers_205 rfl ?_
                            refine rb_if_eq hV (tgt := 240) dL_rivers_207 (by decide) (by unfold ab_r at *; omega) (fun z => absurd z (by decide)) (fun _ => ?_)
                            refine rb_aload_n hV dL_rivers_210 rfl rfl ?_
                            refine rb_iload hV dL_rivers_211 rfl ?_
                            refine rb_iconst hV dL_rivers_213 ?_
                            refine rb_isub hV dL_rivers_214 ?_
                            refine rb_iload hV dL_rivers_215 rfl ?_
                            refine rb_iconst hV dL_rivers_217 ?_
                            refine rb_callV hV (rest := []) dL_rivers_218 (c_X9_space s (line - 1) y 3 (by unfold ab_r at *; omega) (by unfold ab_r at *; omega) (by unfold ab_r at *; omega) hx) lk_L_49 rfl (Or.inl ⟨8, _, TX9, 8, gw_0 _, rfl⟩) rfl ⟨rfl, rfl, (Nat.le_of_ble_eq_true rfl), (Nat.le_of_ble_eq_true rfl), (Nat.le_of_ble_eq_true rfl), (Nat.le_of_ble_eq_true rfl)⟩ (Nat.le_of_ble_eq_true rfl) (fun r9 h9 p9 => ?_)
                            obtain ⟨rfl, rfl⟩ : r9 = some (.inl (s 32 (s 26 (line - 1) + y))) ∧ h9 = WW s := ⟨p9.1.trans (congrArg (fun z : Int => (some (Sum.inl z) : Option ab_V)) p3), p9.2⟩
                            show V 221 [some (.inr (some 0)), some (.inl (s 107 0)), some (.inl most), some (.inl str), some (.inl riv), some (.inl (2 * (s 102 0))), some (.inl line), some (.inl ((s 26 (line + 1) - 1) - (s 26 line))), some (.inl x), some (.inl ((2 * b1) + b0)), some (.inl above), some (.inl y), some (.inl 0), some (.inl y), some (.inl (((2 * c1) + c0) - ((2 * b1) + b0))), some (.inl 1)] [.inl (s 32 (s 26 (line - 1) + y))] (WW s) 0 0
                            refine rb_iload hV dL_rivers_221 rfl ?_
                            refine rb_icmp_le hV (tgt := 240) dL_rivers_223 (by decide) ⟨(by unfold ab_r at *; omega), (by unfold ab_r at *; omega)⟩ (fun c223 => absurd c223 (by omega)) (fun c223 => ?_)
                            refine rb_aload_n hV dL_rivers_226 rfl rfl ?_
                            refine rb_iload hV dL_rivers_227 rfl ?_
                            refine rb_iconst hV dL_rivers_229 ?_
                            refine rb_isub hV dL_rivers_230 ?_
                            refine rb_iload hV dL_rivers_231 rfl ?_
                            refine rb_iconst hV dL_rivers_233 ?_
                            refine rb_callV hV (rest := []) dL_rivers_234 (c_X9_space s (line - 1) y 3 (by unfold ab_r at *; omega) (by unfold ab_r at *; omega) (by unfold ab_r at *; omega) hx) lk_L_49 rfl (Or.inl ⟨8, _, TX9, 8, gw_0 _, rfl⟩) rfl ⟨rfl, rfl, (Nat.le_of_ble_eq_true rfl), (Nat.le_of_ble_eq_true rfl), (Nat.le_of_ble_eq_true rfl), (Nat.le_of_ble_eq_true rfl)⟩ (Nat.le_of_ble_eq_true rfl) (fun r9 h9 p9 => ?_)
                            obtain ⟨rfl, rfl⟩ : r9 = some (.inl (s 32 (s 26 (line - 1) + y))) ∧ h9 = WW s := ⟨p9.1.trans (congrArg (fun z : Int => (some (Sum.inl z) : Option ab_V)) p3), p9.2⟩
                            show V 237 [some (.inr (some 0)), some (.inl (s 107 0)), some (.inl most), some (.inl str), some (.inl riv), some (.inl (2 * (s 102 0))), some (.inl line), some (.inl ((s 26 (line + 1) - 1) - (s 26 line))), some (.inl x), some (.inl ((2 * b1) + b0)), some (.inl above), some (.inl y), some (.inl 0), some (.inl y), some (.inl (((2 * c1) + c0) - ((2 * b1) + b0))), some (.inl 1)] [.inl (s 32 (s 26 (line - 1) + y))] (WW s) 0 0
                            refine rb_goto hV (tgt := 242) dL_rivers_237 (by decide) ?_
                            refine rb_istore hV (L2 := [some (.inr (some 0)), some (.inl (s 107 0)), some (.inl most), some (.inl str), some (.inl riv), some (.inl (2 * (s 102 0))), some (.inl line), some (.inl ((s 26 (line + 1) - 1) - (s 26 line))), some (.inl x), some (.inl ((2 * b1) + b0)), some (.inl (s 32 (s 26 (line - 1) + y))), some (.inl y), some (.inl 0), some (.inl y), some (.inl (((2 * c1) + c0) - ((2 * b1) + b0))), some (.inl 1)]) dL_rivers_242 (Nat.le_of_ble_eq_true rfl) rfl ?_
                            refine rb_iinc hV (L2 := [some (.inr (some 0)), some (.inl (s 107 0)), some (.inl most), some (.inl str), some (.inl riv), some (.inl (2 * (s 102 0))), some (.inl line), some (.inl ((s 26 (line + 1) - 1) - (s 26 line))), some (.inl x), some (.inl ((2 * b1) + b0)), some (.inl (s 32 (s 26 (line - 1) + y))), some (.inl y), some (.inl 0), some (.inl (y + 1)), some (.inl (((2 * c1) + c0) - ((2 * b1) + b0))), some (.inl 1)]) dL_rivers_244 rfl rfl rfl ?_
                            refine rb_goto hV (tgt := 94) dL_rivers_247 (by decide) ?_
                            refine rb_weak hV (L2 := [some (.inr (some 0)), some (.inl (s 107 0)), some (.inl most), some (.inl str), some (.inl riv), some (.inl (2 * (s 102 0))), some (.inl line), some (.inl ((s 26 (line + 1) - 1) - (s 26 line))), some (.inl x), some (.inl ((2 * b1) + b0)), some (.inl (s 32 (s 26 (line - 1) + y))), some (.inl y), some (.inl 0), some (.inl (y + 1)), none, none]) ⟨rfl, ⟨rfl, ⟨rfl, ⟨rfl, ⟨rfl, ⟨rfl, ⟨rfl, ⟨rfl, ⟨rfl, ⟨rfl, ⟨rfl, ⟨rfl, ⟨rfl, ⟨rfl, trivial⟩⟩⟩⟩⟩⟩⟩⟩⟩⟩⟩⟩⟩⟩ ?_
                            refine ih94 (s 32 (s 26 (line - 1) + y)) y (y + 1) ?_ ?_ ?_
                            · exact ⟨by omega, fun q => by omega, fun _ => by omega⟩
                            · exact UP_new hup hy0.1 his (by omega)
                            · omega
                        · refine rb_iload hV dL_rivers_175 rfl ?_
                          refine rb_if_eq hV (tgt := 201) dL_rivers_177 (by decide) (by unfold ab_r at *; omega) (fun _ => ?_) (fun z => absurd z (by decide))
                          refine rb_iload hV dL_rivers_201 rfl ?_
                          refine rb_istore hV (L2 := [some (.inr (some 0)), some (.inl (s 107 0)), some (.inl most), some (.inl str), some (.inl riv), some (.inl (2 * (s 102 0))), some (.inl line), some (.inl ((s 26 (line + 1) - 1) - (s 26 line))), some (.inl x), some (.inl ((2 * b1) + b0)), some (.inl above), some (.inl up), some (.inl 0), some (.inl y), some (.inl (((2 * c1) + c0) - ((2 * b1) + b0))), some (.inl 0)]) dL_rivers_203 (Nat.le_of_ble_eq_true rfl) rfl ?_
                          refine rb_iload hV dL_rivers_205 rfl ?_
                          refine rb_if_eq hV (tgt := 240) dL_rivers_207 (by decide) (by unfold ab_r at *; omega) (fun _ => ?_) (fun z => absurd z (by decide))
                          refine rb_iload hV dL_rivers_240 rfl ?_
                          refine rb_istore hV (L2 := [some (.inr (some 0)), some (.inl (s 107 0)), some (.inl most), some (.inl str), some (.inl riv), some (.inl (2 * (s 102 0))), some (.inl line), some (.inl ((s 26 (line + 1) - 1) - (s 26 line))), some (.inl x), some (.inl ((2 * b1) + b0)), some (.inl above), some (.inl up), some (.inl 0), some (.inl y), some (.inl (((2 * c1) + c0) - ((2 * b1) + b0))), some (.inl 0)]) dL_rivers_242 (Nat.le_of_ble_eq_true rfl) rfl ?_
                          refine rb_iinc hV (L2 := [some (.inr (some 0)), some (.inl (s 107 0)), some (.inl most), some (.inl str), some (.inl riv), some (.inl (2 * (s 102 0))), some (.inl line), some (.inl ((s 26 (line + 1) - 1) - (s 26 line))), some (.inl x), some (.inl ((2 * b1) + b0)), some (.inl above), some (.inl up), some (.inl 0), some (.inl (y + 1)), some (.inl (((2 * c1) + c0) - ((2 * b1) + b0))), some (.inl 0)]) dL_rivers_244 rfl rfl rfl ?_
                          refine rb_goto hV (tgt := 94) dL_rivers_247 (by decide) ?_
                          refine rb_weak hV (L2 := [some (.inr (some 0)), some (.inl (s 107 0)), some (.inl most), some (.inl str), some (.inl riv), some (.inl (2 * (s 102 0))), some (.inl line), some (.inl ((s 26 (line + 1) - 1) - (s 26 line))), some (.inl x), some (.inl ((2 * b1) + b0)), some (.inl above), some (.inl up), some (.inl 0), some (.inl (y + 1)), none, none]) ⟨rfl, ⟨rfl, ⟨rfl, ⟨rfl, ⟨rfl, ⟨rfl, ⟨rfl, ⟨rfl, ⟨rfl, ⟨rfl, ⟨rfl, ⟨rfl, ⟨rfl, ⟨rfl, trivial⟩⟩⟩⟩⟩⟩⟩⟩⟩⟩⟩⟩⟩⟩ ?_
                          refine ih94 above up (y + 1) ?_ ?_ ?_
                          · exact ⟨by omega, fun q => by omega, fun _ => by omega⟩
                          · exact UP_skip hup his
                          · omega
                      refine rb_iload hV dL_rivers_153 rfl ?_
                      refine rb_iload hV dL_rivers_155 rfl ?_
                      refine rb_icmp_gt hV (tgt := 172) dL_rivers_157 (by decide) ⟨(by unfold ab_r at *; omega), (by unfold ab_r at *; omega)⟩ (fun c157 => ?_) (fun c157 => ?_)
                      · refine rb_iconst hV dL_rivers_172 ?_
                        refine j173 0 ?_
                        · exact Or.inr ⟨rfl, fun q => by have q1 := q.2.2.2.2; omega⟩
                      · refine rb_iload hV dL_rivers_160 rfl ?_
                        refine rb_iload hV dL_rivers_162 rfl ?_
                        refine rb_ineg hV dL_rivers_164 ?_
                        refine rb_icmp_lt hV (tgt := 172) dL_rivers_165 (by decide) ⟨(by unfold ab_r at *; omega), (by unfold ab_r at *; omega)⟩ (fun c165 => ?_) (fun c165 => ?_)
                        · refine rb_iconst hV dL_rivers_172 ?_
                          refine j173 0 ?_
                          · exact Or.inr ⟨rfl, fun q => by have q1 := q.2.2.2.2; omega⟩
                        · refine rb_iconst hV dL_rivers_168 ?_
                          refine rb_goto hV (tgt := 173) dL_rivers_169 (by decide) ?_
                          refine j173 1 ?_
                          · exact Or.inl ⟨rfl, pw.1, by omega, by omega, psl, by omega, by omega⟩
              refine h94 _ 0 (-1) 0 ?_ ?_ (Nat.lt_succ_self _)
              · refine ⟨by omega, fun _ => rfl, fun q => ?_⟩
                have r1 := (RV_line hx (l := line - 1) (by omega) (by omega)).2.2.2.1
                rw [show line - 1 + 1 = line by omega] at r1
                omega
              · exact UP_0 _ _ _ _ _ _ _
        refine h52 _ most str riv 0 ?_ ?_ (Nat.lt_succ_self _)
        · omega
        · rw [Int.add_zero]
          exact hR0
  refine h26 _ 0 0 0 0 ?_ ?_ (Nat.lt_succ_self _)
  · omega
  · exact Or.inl ⟨rfl, RVH_0 s⟩
