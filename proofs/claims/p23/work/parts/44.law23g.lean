/-! p23: the law -/
def MX0 : Nat → Int → Int := (ab_s (ab_s (ab_s (ab_s (ab_s (ab_s (ab_s (ab_s (fun _ _ => 0) 100 (fun _ => 60)) 101 (fun _ => 50)) 102 (fun _ => 2)) 2 (ab_u (ab_u (ab_u (fun _ => 0) 0 2) 1 2) 2 3)) 3 (ab_u (ab_u (ab_u (fun _ => 0) 0 3) 1 4) 2 5)) 4 (ab_u (ab_u (ab_u (fun _ => 0) 0 6) 1 8) 2 10)) 105 (fun _ => -1)) 106 (fun _ => -1))

theorem wx_0 : ([] : List ab_E) ++ (.inr (8, [.inr (some 21), .inr (some 23), .inr (some 1), .inr (some 5), .inr (some 11), .inr (some 18), .inr (some 25), .inr (some 37)]) : ab_E) :: ([.inr (6, [.inl 60, .inl 50, .inl 2, .inr (some 2), .inr (some 3), .inr (some 4)]), .inl (0, 3, (ab_u (ab_u (ab_u (fun _ => 0) 0 2) 1 2) 2 3)), .inl (0, 3, (ab_u (ab_u (ab_u (fun _ => 0) 0 3) 1 4) 2 5)), .inl (0, 3, (ab_u (ab_u (ab_u (fun _ => 0) 0 6) 1 8) 2 10)), .inr (4, [.inl 0, .inr (some 6), .inr (some 7), .inr (some 8), .inr (some 9), .inr (some 10)]), .inl (0, 60, fun _ => 0), .inl (0, 60, fun _ => 0), .inl (0, 60, fun _ => 0), .inl (0, 60, fun _ => 0), .inl (0, 60, fun _ => 0), .inr (2, [.inr (some 5), .inr (some 1), .inr (some 12), .inr (some 13), .inr (some 14), .inr (some 15), .inr (some 16), .inr (some 17)]), .inl (0, 61, fun _ => 0), .inl (0, 61, fun _ => 0), .inl (0, 61, fun _ => 0), .inl (0, 61, fun _ => 0), .inl (0, 60, fun _ => 0), .inl (0, 60, fun _ => 0), .inr (0, [.inr (some 5), .inr (some 11), .inr (some 19), .inr (some 20)]), .inl (0, 61, fun _ => 0), .inl (0, 60, fun _ => 0), .inr (7, [.inr (some 22), .inl 0]), .inl (1, 120, fun _ => 0), .inr (3, [.inr (some 24), .inl (-1), .inl (-1)]), .inl (0, 3, fun _ => 0), .inr (1, [.inr (some 5), .inr (some 1), .inr (some 11), .inr (some 18), .inl 0, .inl 0, .inr (some 26), .inr (some 27), .inr (some 28), .inr (some 29), .inr (some 30), .inr (some 31)]), .inl (0, 61, fun _ => 0), .inl (0, 60, fun _ => 0), .inl (0, 60, fun _ => 0), .inl (0, 60, fun _ => 0), .inl (0, 60, fun _ => 0), .inr (5, [.inl 0, .inl 0, .inl 0, .inr (some 32), .inr (some 33), .inr (some 34), .inr (some 35), .inr (some 36)]), .inl (0, 60, fun _ => 0), .inl (0, 60, fun _ => 0), .inl (0, 60, fun _ => 0), .inl (2, 60, fun _ => 0), .inl (0, 60, fun _ => 0), .inr (1, [.inr (some 5), .inr (some 1), .inr (some 11), .inr (some 18), .inl 0, .inl 0, .inr (some 38), .inr (some 39), .inr (some 40), .inr (some 41), .inr (some 42), .inr (some 43)]), .inl (0, 61, fun _ => 0), .inl (0, 60, fun _ => 0), .inl (0, 60, fun _ => 0), .inl (0, 60, fun _ => 0), .inl (0, 60, fun _ => 0), .inr (5, [.inl 0, .inl 0, .inl 0, .inr (some 44), .inr (some 45), .inr (some 46), .inr (some 47), .inr (some 48)]), .inl (0, 60, fun _ => 0), .inl (0, 60, fun _ => 0), .inl (0, 60, fun _ => 0), .inl (2, 60, fun _ => 0), .inl (0, 60, fun _ => 0)] : List ab_E) = WW MX0 := rfl

theorem XI_0 : XI MX0 := by
  have z := (by decide +kernel : ∀ k : Fin 3, 1 ≤ (ab_u (ab_u (ab_u (fun _ => 0) 0 2) 1 2) 2 3) k ∧ (ab_u (ab_u (ab_u (fun _ => 0) 0 2) 1 2) 2 3) k ≤ (ab_u (ab_u (ab_u (fun _ => 0) 0 3) 1 4) 2 5) k ∧ (ab_u (ab_u (ab_u (fun _ => 0) 0 3) 1 4) 2 5) k ≤ (ab_u (ab_u (ab_u (fun _ => 0) 0 6) 1 8) 2 10) k ∧ (ab_u (ab_u (ab_u (fun _ => 0) 0 6) 1 8) 2 10) k ≤ 40)
  have hp : PI (vX MX0) := by
    refine ⟨(show (0 : Int) ≤ 0 ∧ (0 : Int) ≤ 60 by decide), fun w a b => ?_, (show (10 : Int) ≤ 60 ∧ (60 : Int) ≤ 200 by decide), (show (0 : Int) ≤ 50 ∧ (50 : Int) ≤ 100 by decide), (show (0 : Int) ≤ 2 ∧ (2 : Int) ≤ 20 by decide), fun k a b => ?_⟩
    · have b : w < 0 := b
      omega
    · rcases (show k = 0 ∨ k = 1 ∨ k = 2 by omega) with rfl | rfl | rfl
      · exact z 0
      · exact z 1
      · exact z 2
  refine ⟨hp, RUf_0 ⟨rfl, rfl, rfl, rfl⟩, ⟨rfl, fun j a b => ?_, fun j a b => ?_⟩, LV_0 _ hp, ⟨(Sm_self _ 0).symm, fun i a b => ?_, fun v => (show (-1000 : Int) ≤ 0 ∧ (0 : Int) ≤ 1000 by decide), Or.inl ⟨rfl, rfl, rfl, rfl, fun v => (show (0 : Int) ≤ 0 ∧ (0 : Int) ≤ 60 by decide)⟩⟩, ⟨fun _ q => absurd q.1 (show ¬ (0 : Int) < 0 by decide), fun _ => rfl⟩, fun v => (show (-1000 : Int) ≤ 0 ∧ (0 : Int) ≤ 1000 by decide), fun v => (show (0 : Int) ≤ 0 ∧ (0 : Int) ≤ 60 by decide), (show (0 : Int) ≤ 0 ∧ (0 : Int) ≤ 120 by decide), fun v => (show (0 : Int) ≤ 0 ∧ (0 : Int) < 65536 by decide)⟩
  · have b : j < 0 := b
    omega
  · have b : j ≤ 0 := b
    have e : j = 0 := by omega
    subst e
    exact (show (-1 : Int) ≤ 0 ∧ (0 : Int) ≤ 12200 * (0 - 0) by decide)
  · have b : i < 0 := b
    omega

theorem PR_e {m : Nat → Int → Int} {x y : Int} {z : Int → Int} (ht : m 104 0 = 0) : (prs (m 22) (m 104 0) 5 0 0 x y z).1 = 0 := by
  have l9 : ((xsL.getD 9 0 : Nat) : Int) = 7 := rfl
  have l10 : ((xsL.getD 10 0 : Nat) : Int) = 4 := rfl
  have l11 : ((xsL.getD 11 0 : Nat) : Int) = 5 := rfl
  have l12 : ((xsL.getD 12 0 : Nat) : Int) = 5 := rfl
  have he : eo (m 22) 0 (m 104 0 - 0).toNat = 0 := by
    rw [ht]
    rfl
  have hs : sbj (m 22) (m 104 0) 0 0 = -1 := by
    unfold sbj
    rw [cif_neg (nm_no (by omega)), cif_neg (nm_no (by omega)), cif_neg (nm_no (by omega)), cif_neg (nm_no (by omega))]
  rw [prs_bad2 he (fun g => by unfold gd at g; omega)]
/-- the first paragraph is empty -/
theorem RD_first {r : Option ab_V} {h2 : List ab_E} (hp : ∃ v, FLT (MX0 22) (MX0 104 0) v ∧ ((¬ v = -1 ∧ RO MX0 (-100 - v) r h2) ∨ (v = -1 ∧ UPD (TKM MX0) (TKM MX0 103 0) r h2))) : ∃ m, r = some (.inl 0) ∧ h2 = WW m ∧ XI m ∧ m 107 0 = 0 ∧ m 104 0 = 0 ∧ m 100 0 = 60 := by
  obtain ⟨v, hf, hp⟩ := hp
  have e : v = -1 := by
    rcases hf with q | q
    · exact q.1
    · have q2 : v < 0 := q.2.1
      omega
  rcases hp with ⟨q, -⟩ | ⟨-, m, q1, q2, q3, q4, q5⟩
  · exact absurd e q
  · have e3 : m 103 0 = 0 := congrFun (q5 103 (by decide)) 0
    have n0 := q3.2.2.2.1.1
    have e0 : vX m 0 0 = m 103 0 := rfl
    exact ⟨m, q1, q2, q3, by omega, congrFun (q5 104 (by decide)) 0, congrFun (q5 100 (by decide)) 0⟩

/-! the law's walk -/
set_option maxRecDepth 20000 in
set_option maxHeartbeats 8000000 in
theorem law_body {Ln : Nat} {xs : Int → Int} (hN : Ln ≤ 260) (hxs : ∀ j, ab_r (xs j)) (V : ab_J) (hV : ab_Cl cL_law RL 7 room_1 true 0 false (some (Ln, xs)) ret (fun r _ => r = some (.inl 1)) 49 2196 V) : V 0 [some (.inr (some 3000)), none, none, none, none, none, none] [] [] 0 0 := by
  have hLn : Ln < 2147483648 := by omega
  refine rb_new hV (T := TX9) (N := 8) (ty := tyX9) (ci := 8) (fs := [.inr none, .inr none, .inr none, .inr none, .inr none, .inr none, .inr none, .inr none]) (n := 0) (kc2 := 1) (ks2 := 8) (h2 := [.inr (8, [.inr none, .inr none, .inr none, .inr none, .inr none, .inr none, .inr none, .inr none])]) dL_law_0 rfl rfl tyX9_ok ln_L_16 (by decide) ⟨rfl, rfl⟩ rfl ⟨Nat.le_refl 0, by decide⟩ ⟨rfl, rfl, rfl⟩ rfl ⟨rfl, (Nat.le_of_ble_eq_true rfl)⟩ ⟨rfl, (Nat.le_of_ble_eq_true rfl)⟩ ?_
  refine rb_dup hV dL_law_3 ?_
  refine rb_callI hV (rest := [.inr (some 0)]) (kc2 := 49) (ks2 := 2196) dL_law_4 rfl (c_X9_init_0 [] rfl rfl) lk_L_100 rfl rfl ⟨rfl, rfl, (Nat.le_of_ble_eq_true rfl), (Nat.le_of_ble_eq_true rfl), (Nat.le_of_ble_eq_true rfl), (Nat.le_of_ble_eq_true rfl)⟩ ⟨rfl, rfl⟩ (Nat.le_of_ble_eq_true rfl) ⟨Nat.zero_le _, rfl, rfl⟩ (fun r9 h9 p9 => ?_)
  obtain ⟨rfl, rfl⟩ := p9
  refine rb_heap (b := WW MX0) wx_0 ?_
  show V 7 [some (.inr (some 3000)), none, none, none, none, none, none] [.inr (some 0)] (WW MX0) 49 2196
  refine rb_astore_n hV (L2 := [some (.inr (some 3000)), some (.inr (some 0)), none, none, none, none, none]) dL_law_7 rfl (Nat.le_of_ble_eq_true rfl) rfl ?_
  refine rb_aload_n hV dL_law_8 rfl rfl ?_
  refine rb_callV hV (rest := []) dL_law_9 (c_X9_readParagraph MX0 XI_0) lk_L_33 rfl (Or.inl ⟨8, _, TX9, 8, gw_0 _, rfl⟩) rfl ⟨rfl, rfl, (Nat.le_of_ble_eq_true rfl), (Nat.le_of_ble_eq_true rfl), (Nat.le_of_ble_eq_true rfl), (Nat.le_of_ble_eq_true rfl)⟩ (Nat.le_of_ble_eq_true rfl) (fun r9 h9 p9 => ?_)
  obtain ⟨m9, rfl, rfl, hx9, y1, y2, y3⟩ := RD_first p9
  show V 12 [some (.inr (some 3000)), some (.inr (some 0)), none, none, none, none, none] [.inl 0] (WW m9) 49 2196
  refine rb_if_ne hV (tgt := 73) dL_law_12 (by decide) (by unfold ab_r at *; omega) (fun z => absurd z (by decide)) (fun _ => ?_)
  refine rb_aload_n hV dL_law_15 rfl rfl ?_
  refine rb_iconst hV dL_law_16 ?_
  refine rb_callV hV (rest := []) dL_law_17 (c_X9_count m9 1 (by unfold ab_r at *; omega) hx9) lk_L_36 rfl (Or.inl ⟨8, _, TX9, 8, gw_0 _, rfl⟩) rfl ⟨rfl, rfl, (Nat.le_of_ble_eq_true rfl), (Nat.le_of_ble_eq_true rfl), (Nat.le_of_ble_eq_true rfl), (Nat.le_of_ble_eq_true rfl)⟩ (Nat.le_of_ble_eq_true rfl) (fun r9 h9 p9 => ?_)
  obtain ⟨rfl, rfl⟩ : r9 = some (.inl 0) ∧ h9 = WW m9 := ⟨p9.1.trans (congrArg (fun z : Int => (some (Sum.inl z) : Option ab_V)) (show xcount m9 1 = 0 from y1)), p9.2⟩
  show V 20 [some (.inr (some 3000)), some (.inr (some 0)), none, none, none, none, none] [.inl 0] (WW m9) 49 2196
  refine rb_if_ne hV (tgt := 73) dL_law_20 (by decide) (by unfold ab_r at *; omega) (fun z => absurd z (by decide)) (fun _ => ?_)
  refine rb_aload_n hV dL_law_23 rfl rfl ?_
  refine rb_callV hV (rest := []) dL_law_24 (c_X9_layBest m9 hx9) lk_L_68 rfl (Or.inl ⟨8, _, TX9, 8, gw_0 _, rfl⟩) rfl ⟨rfl, rfl, (Nat.le_of_ble_eq_true rfl), (Nat.le_of_ble_eq_true rfl), (Nat.le_of_ble_eq_true rfl), (Nat.le_of_ble_eq_true rfl)⟩ (Nat.le_of_ble_eq_true rfl) (fun r9 h9 p9 => ?_)
  obtain ⟨m24, rfl, hx24, hb24, hk24, rfl⟩ := p9
  have h24 : m24 107 0 = 0 := (no_way hx9 hx24 hk24 (by decide) (by decide)).mpr y1
  rw [if_pos h24]
  show V 27 [some (.inr (some 3000)), some (.inr (some 0)), none, none, none, none, none] [.inl (-1004)] (WW m24) 49 2196
  refine rb_sipush hV dL_law_27 (by decide) ?_
  refine rb_icmp_ne hV (tgt := 73) dL_law_30 (by decide) ⟨(by unfold ab_r at *; omega), (by unfold ab_r at *; omega)⟩ (fun z => absurd z (by decide)) (fun _ => ?_)
  refine rb_aload_n hV dL_law_33 rfl rfl ?_
  refine rb_callV hV (rest := []) dL_law_34 (c_X9_command m24 hx24) lk_L_81 rfl (Or.inl ⟨8, _, TX9, 8, gw_0 _, rfl⟩) rfl ⟨rfl, rfl, (Nat.le_of_ble_eq_true rfl), (Nat.le_of_ble_eq_true rfl), (Nat.le_of_ble_eq_true rfl), (Nat.le_of_ble_eq_true rfl)⟩ (Nat.le_of_ble_eq_true rfl) (fun r9 h9 p9 => ?_)
  obtain ⟨m34, rfl, rfl, hx34, hk34⟩ := CMD_bad (f := 0) (PR_e ((congrFun (hk24 104 (by decide)) 0).trans y2)) (by decide) p9
  have y4 : m34 100 0 = 60 := (congrFun (hk34 100 (by decide)) 0).trans ((congrFun (hk24 100 (by decide)) 0).trans y3)
  show V 37 [some (.inr (some 3000)), some (.inr (some 0)), none, none, none, none, none] [.inl (-100 - 0)] (WW m34) 49 2196
  refine rb_bipush hV dL_law_37 (by decide) ?_
  refine rb_icmp_ne hV (tgt := 73) dL_law_39 (by decide) ⟨(by unfold ab_r at *; omega), (by unfold ab_r at *; omega)⟩ (fun c39 => absurd c39 (by omega)) (fun c39 => ?_)
  refine rb_aload_n hV dL_law_42 rfl rfl ?_
  refine rb_bipush hV dL_law_43 (by decide) ?_
  refine rb_aload_n hV dL_law_45 rfl rfl ?_
  refine rb_iconst hV dL_law_46 ?_
  refine rb_callSs hV (rest := [.inl 40, .inr (some 0)]) dL_law_47 rfl (c_L_cell Ln xs hLn hxs m34 0 (by omega)) lk_L_21 rfl rfl ⟨rfl, rfl, (Nat.le_of_ble_eq_true rfl), (Nat.le_of_ble_eq_true rfl), (Nat.le_of_ble_eq_true rfl), (Nat.le_of_ble_eq_true rfl)⟩ (Nat.le_of_ble_eq_true rfl) (fun r9 h9 p9 => ?_)
  obtain ⟨g47, rfl, rfl, hg47⟩ := p9
  show V 50 [some (.inr (some 3000)), some (.inr (some 0)), none, none, none, none, none] [.inl g47, .inl 40, .inr (some 0)] (WW m34) 49 2196
  refine rb_bipush hV dL_law_50 (by decide) ?_
  refine rb_callS hV (rest := [.inl 40, .inr (some 0)]) dL_law_52 (c_L_low m34 g47 60 (by omega)) lk_L_9 rfl rfl ⟨rfl, rfl, (Nat.le_of_ble_eq_true rfl), (Nat.le_of_ble_eq_true rfl), (Nat.le_of_ble_eq_true rfl), (Nat.le_of_ble_eq_true rfl)⟩ (Nat.le_of_ble_eq_true rfl) (fun r9 h9 p9 => ?_)
  obtain ⟨o52, rfl, rfl, ho52⟩ := p9
  show V 55 [some (.inr (some 3000)), some (.inr (some 0)), none, none, none, none, none] [.inl o52, .inl 40, .inr (some 0)] (WW m34) 49 2196
  refine rb_iadd hV dL_law_55 ?_
  refine rb_callV hV (rest := []) dL_law_56 (c_X9_setMeasure m34 (40 + o52) (by unfold ab_r at *; omega) hx34) lk_L_91 rfl (Or.inl ⟨8, _, TX9, 8, gw_0 _, rfl⟩) rfl ⟨rfl, rfl, (Nat.le_of_ble_eq_true rfl), (Nat.le_of_ble_eq_true rfl), (Nat.le_of_ble_eq_true rfl), (Nat.le_of_ble_eq_true rfl)⟩ (Nat.le_of_ble_eq_true rfl) (fun r9 h9 p9 => ?_)
  obtain ⟨m56, rfl, rfl, hx56, hbe56⟩ : ∃ m1, r9 = some (.inl 60) ∧ h9 = WW m1 ∧ XI m1 ∧ BESTL m1 := by
    rcases p9 with ⟨q, -⟩ | ⟨-, m1, q1, q2, q3, q4, -⟩
    · exact absurd (show _ ∧ _ from ⟨by omega, by omega⟩) q
    · exact ⟨m1, by rw [q1, y4], q2, q3, q4⟩
  have hdb56 := (ST_b hx56.1 hx56.2.2.2.1 hx56.2.2.2.2.1).1
  show V 59 [some (.inr (some 3000)), some (.inr (some 0)), none, none, none, none, none] [.inl 60] (WW m56) 49 2196
  refine rb_bipush hV dL_law_59 (by decide) ?_
  refine rb_icmp_ne hV (tgt := 73) dL_law_61 (by decide) ⟨(by unfold ab_r at *; omega), (by unfold ab_r at *; omega)⟩ (fun z => absurd z (by decide)) (fun _ => ?_)
  refine rb_aload_n hV dL_law_64 rfl rfl ?_
  refine rb_aload_n hV dL_law_65 rfl rfl ?_
  refine rb_iconst hV dL_law_66 ?_
  refine rb_callSs hV (rest := []) dL_law_67 rfl (c_L_reads Ln xs hLn hxs m56 1 (by omega) hx56) lk_L_101 rfl rfl ⟨rfl, rfl, (Nat.le_of_ble_eq_true rfl), (Nat.le_of_ble_eq_true rfl), (Nat.le_of_ble_eq_true rfl), (Nat.le_of_ble_eq_true rfl)⟩ (Nat.le_of_ble_eq_true rfl) (fun r9 h9 p9 => ?_)
  obtain ⟨rfl, m67, rfl, hx67⟩ := p9
  show V 70 [some (.inr (some 3000)), some (.inr (some 0)), none, none, none, none, none] [.inl 1] (WW m67) 49 2196
  refine rb_if_ne hV (tgt := 75) dL_law_70 (by decide) (by unfold ab_r at *; omega) (fun _ => ?_) (fun z => absurd z (by decide))
  refine rb_iconst hV dL_law_75 ?_
  refine rb_istore_n hV (L2 := [some (.inr (some 3000)), some (.inr (some 0)), some (.inl 0), none, none, none, none]) dL_law_76 rfl (Nat.le_of_ble_eq_true rfl) rfl ?_
  have h77 : ∀ (n77 : Nat) (m : Nat → Int → Int) (e : Int), (XI m) → (0 ≤ e ∧ e ≤ 14) → ((14 - e).toNat) < n77 → V 77 [some (.inr (some 3000)), some (.inr (some 0)), some (.inl e), none, none, none, none] [] (WW m) 49 2196 := by
    intro n77
    induction n77 with
    | zero => intro m e hxm he hm; omega
    | succ n77 ih77 =>
      intro m e hxm he hm
      have bset : (10 ≤ m 100 0 ∧ m 100 0 ≤ 200) ∧ 0 ≤ m 102 0 ∧ m 102 0 ≤ 20 := ⟨hxm.1.2.2.1, hxm.1.2.2.2.2.1⟩
      refine rb_iload_n hV dL_law_77 rfl rfl ?_
      refine rb_bipush hV dL_law_78 (by decide) ?_
      refine rb_icmp_ge hV (tgt := 291) dL_law_80 (by decide) ⟨(by unfold ab_r at *; omega), (by unfold ab_r at *; omega)⟩ (fun c80 => ?_) (fun c80 => ?_)
      · refine rb_iconst hV dL_law_291 ?_
        refine rb_ret hV (r := some (.inl 1)) dL_law_292 rfl ⟨(Nat.le_of_ble_eq_true rfl), (Nat.le_of_ble_eq_true rfl)⟩ (by first | exact Or.inl rfl | exact Or.inr rfl | omega) ?_
        exact rfl
      · refine rb_aload_n hV dL_law_83 rfl rfl ?_
        refine rb_iconst hV dL_law_84 ?_
        refine rb_iload_n hV dL_law_85 rfl rfl ?_
        refine rb_imul hV dL_law_86 ?_
        refine rb_callSs hV (rest := []) dL_law_87 rfl (c_L_cell Ln xs hLn hxs m (2 * e) (by omega)) lk_L_21 rfl rfl ⟨rfl, rfl, (Nat.le_of_ble_eq_true rfl), (Nat.le_of_ble_eq_true rfl), (Nat.le_of_ble_eq_true rfl), (Nat.le_of_ble_eq_true rfl)⟩ (Nat.le_of_ble_eq_true rfl) (fun r9 h9 p9 => ?_)
        obtain ⟨g87, rfl, rfl, hg87⟩ := p9
        show V 90 [some (.inr (some 3000)), some (.inr (some 0)), some (.inl e), none, none, none, none] [.inl g87] (WW m) 49 2196
        refine rb_istore_n hV (L2 := [some (.inr (some 3000)), some (.inr (some 0)), some (.inl e), some (.inl g87), none, none, none]) dL_law_90 rfl (Nat.le_of_ble_eq_true rfl) rfl ?_
        refine rb_aload_n hV dL_law_91 rfl rfl ?_
        refine rb_iconst hV dL_law_92 ?_
        refine rb_iload_n hV dL_law_93 rfl rfl ?_
        refine rb_imul hV dL_law_94 ?_
        refine rb_iconst hV dL_law_95 ?_
        refine rb_iadd hV dL_law_96 ?_
        refine rb_callSs hV (rest := []) dL_law_97 rfl (c_L_cell Ln xs hLn hxs m ((2 * e) + 1) (by omega)) lk_L_21 rfl rfl ⟨rfl, rfl, (Nat.le_of_ble_eq_true rfl), (Nat.le_of_ble_eq_true rfl), (Nat.le_of_ble_eq_true rfl), (Nat.le_of_ble_eq_true rfl)⟩ (Nat.le_of_ble_eq_true rfl) (fun r9 h9 p9 => ?_)
        obtain ⟨g97, rfl, rfl, hg97⟩ := p9
        show V 100 [some (.inr (some 3000)), some (.inr (some 0)), some (.inl e), some (.inl g87), none, none, none] [.inl g97] (WW m) 49 2196
        refine rb_istore hV (L2 := [some (.inr (some 3000)), some (.inr (some 0)), some (.inl e), some (.inl g87), some (.inl g97), none, none]) dL_law_100 (Nat.le_of_ble_eq_true rfl) rfl ?_
        refine rb_iload_n hV dL_law_102 rfl rfl ?_
        refine rb_bipush hV dL_law_103 (by decide) ?_
        refine rb_ishrx hV dL_law_105 (fun z105 r105 => ?_)
        refine rb_bipush hV dL_law_106 (by decide) ?_
        refine rb_callS hV (rest := []) dL_law_108 (c_L_low m z105 6 (by omega)) lk_L_9 rfl rfl ⟨rfl, rfl, (Nat.le_of_ble_eq_true rfl), (Nat.le_of_ble_eq_true rfl), (Nat.le_of_ble_eq_true rfl), (Nat.le_of_ble_eq_true rfl)⟩ (Nat.le_of_ble_eq_true rfl) (fun r9 h9 p9 => ?_)
        obtain ⟨o108, rfl, rfl, ho108⟩ := p9
        show V 111 [some (.inr (some 3000)), some (.inr (some 0)), some (.inl e), some (.inl g87), some (.inl g97), none, none] [.inl o108] (WW m) 49 2196
        refine rb_istore hV (L2 := [some (.inr (some 3000)), some (.inr (some 0)), some (.inl e), some (.inl g87), some (.inl g97), some (.inl o108), none]) dL_law_111 (Nat.le_of_ble_eq_true rfl) rfl ?_
        refine rb_iload hV dL_law_113 rfl ?_
        refine rb_if_ne hV (tgt := 129) dL_law_115 (by decide) (by unfold ab_r at *; omega) (fun c115 => ?_) (fun c115 => ?_)
        · refine rb_iload hV dL_law_129 rfl ?_
          refine rb_iconst hV dL_law_131 ?_
          refine rb_icmp_ne hV (tgt := 147) dL_law_132 (by decide) ⟨(by unfold ab_r at *; omega), (by unfold ab_r at *; omega)⟩ (fun c132 => ?_) (fun c132 => ?_)
          · refine rb_iload hV dL_law_147 rfl ?_
            refine rb_iconst hV dL_law_149 ?_
            refine rb_icmp_ne hV (tgt := 198) dL_law_150 (by decide) ⟨(by unfold ab_r at *; omega), (by unfold ab_r at *; omega)⟩ (fun c150 => ?_) (fun c150 => ?_)
            · refine rb_iload hV dL_law_198 rfl ?_
              refine rb_iconst hV dL_law_200 ?_
              refine rb_icmp_ne hV (tgt := 246) dL_law_201 (by decide) ⟨(by unfold ab_r at *; omega), (by unfold ab_r at *; omega)⟩ (fun c201 => ?_) (fun c201 => ?_)
              · refine rb_aload_n hV dL_law_246 rfl rfl ?_
                refine rb_iload hV dL_law_247 rfl ?_
                refine rb_callS hV (rest := []) dL_law_249 (c_L_seconds m g97 hxm) lk_L_109 rfl rfl ⟨rfl, rfl, (Nat.le_of_ble_eq_true rfl), (Nat.le_of_ble_eq_true rfl), (Nat.le_of_ble_eq_true rfl), (Nat.le_of_ble_eq_true rfl)⟩ (Nat.le_of_ble_eq_true rfl) (fun r9 h9 p9 => ?_)
                obtain ⟨rfl, m249, rfl, hx249⟩ := p9
                show V 252 [some (.inr (some 3000)), some (.inr (some 0)), some (.inl e), some (.inl g87), some (.inl g97), some (.inl o108), none] [.inl 1] (WW m249) 49 2196
                refine rb_if_ne hV (tgt := 257) dL_law_252 (by decide) (by unfold ab_r at *; omega) (fun _ => ?_) (fun z => absurd z (by decide))
                refine rb_aload_n hV dL_law_257 rfl rfl ?_
                refine rb_callS hV (rest := []) dL_law_258 (c_L_lines m249 hx249) lk_L_74 rfl rfl ⟨rfl, rfl, (Nat.le_of_ble_eq_true rfl), (Nat.le_of_ble_eq_true rfl), (Nat.le_of_ble_eq_true rfl), (Nat.le_of_ble_eq_true rfl)⟩ (Nat.le_of_ble_eq_true rfl) (fun r9 h9 p9 => ?_)
                obtain ⟨rfl, rfl⟩ := p9
                show V 261 [some (.inr (some 3000)), some (.inr (some 0)), some (.inl e), some (.inl g87), some (.inl g97), some (.inl o108), none] [.inl 1] (WW m249) 49 2196
                refine rb_if_eq hV (tgt := 283) dL_law_261 (by decide) (by unfold ab_r at *; omega) (fun z => absurd z (by decide)) (fun _ => ?_)
                refine rb_aload_n hV dL_law_264 rfl rfl ?_
                refine rb_callS hV (rest := []) dL_law_265 (c_L_rivers m249 hx249) lk_L_113 rfl rfl ⟨rfl, rfl, (Nat.le_of_ble_eq_true rfl), (Nat.le_of_ble_eq_true rfl), (Nat.le_of_ble_eq_true rfl), (Nat.le_of_ble_eq_true rfl)⟩ (Nat.le_of_ble_eq_true rfl) (fun r9 h9 p9 => ?_)
                obtain ⟨rfl, rfl⟩ := p9
                show V 268 [some (.inr (some 3000)), some (.inr (some 0)), some (.inl e), some (.inl g87), some (.inl g97), some (.inl o108), none] [.inl 1] (WW m249) 49 2196
                refine rb_if_eq hV (tgt := 283) dL_law_268 (by decide) (by unfold ab_r at *; omega) (fun z => absurd z (by decide)) (fun _ => ?_)
                refine rb_aload_n hV dL_law_271 rfl rfl ?_
                refine rb_bipush hV dL_law_272 (by decide) ?_
                refine rb_callV hV (rest := []) dL_law_274 (c_X9_count m249 10 (by unfold ab_r at *; omega) hx249) lk_L_36 rfl (Or.inl ⟨8, _, TX9, 8, gw_0 _, rfl⟩) rfl ⟨rfl, rfl, (Nat.le_of_ble_eq_true rfl), (Nat.le_of_ble_eq_true rfl), (Nat.le_of_ble_eq_true rfl), (Nat.le_of_ble_eq_true rfl)⟩ (Nat.le_of_ble_eq_true rfl) (fun r9 h9 p9 => ?_)
                obtain ⟨rfl, rfl⟩ : r9 = some (.inl (-1002)) ∧ h9 = WW m249 := ⟨p9.1.trans (congrArg (fun z : Int => (some (Sum.inl z) : Option ab_V)) (show xcount m249 10 = -1002 from rfl)), p9.2⟩
                show V 277 [some (.inr (some 3000)), some (.inr (some 0)), some (.inl e), some (.inl g87), some (.inl g97), some (.inl o108), none] [.inl (-1002)] (WW m249) 49 2196
                refine rb_sipush hV dL_law_277 (by decide) ?_
                refine rb_icmp_eq hV (tgt := 285) dL_law_280 (by decide) ⟨(by unfold ab_r at *; omega), (by unfold ab_r at *; omega)⟩ (fun _ => ?_) (fun z => absurd z (by decide))
                refine rb_iinc hV (L2 := [some (.inr (some 3000)), some (.inr (some 0)), some (.inl (e + 1)), some (.inl g87), some (.inl g97), some (.inl o108), none]) dL_law_285 rfl rfl rfl ?_
                refine rb_goto hV (tgt := 77) dL_law_288 (by decide) ?_
                refine rb_weak hV (L2 := [some (.inr (some 3000)), some (.inr (some 0)), some (.inl (e + 1)), none, none, none, none]) ⟨rfl, ⟨rfl, ⟨rfl, trivial⟩⟩⟩ ?_
                refine ih77 m249 (e + 1) ?_ ?_ ?_
                · exact hx249
                · omega
                · omega
              · refine rb_aload_n hV dL_law_204 rfl rfl ?_
                refine rb_bipush hV dL_law_205 (by decide) ?_
                refine rb_callV hV (rest := []) dL_law_207 (c_X9_count m 9 (by unfold ab_r at *; omega) hxm) lk_L_36 rfl (Or.inl ⟨8, _, TX9, 8, gw_0 _, rfl⟩) rfl ⟨rfl, rfl, (Nat.le_of_ble_eq_true rfl), (Nat.le_of_ble_eq_true rfl), (Nat.le_of_ble_eq_true rfl), (Nat.le_of_ble_eq_true rfl)⟩ (Nat.le_of_ble_eq_true rfl) (fun r9 h9 p9 => ?_)
                obtain ⟨rfl, rfl⟩ : r9 = some (.inl (m 102 0)) ∧ h9 = WW m := ⟨p9.1.trans (congrArg (fun z : Int => (some (Sum.inl z) : Option ab_V)) rfl), p9.2⟩
                show V 210 [some (.inr (some 3000)), some (.inr (some 0)), some (.inl e), some (.inl g87), some (.inl g97), some (.inl o108), none] [.inl (m 102 0)] (WW m) 49 2196
                refine rb_istore hV (L2 := [some (.inr (some 3000)), some (.inr (some 0)), some (.inl e), some (.inl g87), some (.inl g97), some (.inl o108), some (.inl (m 102 0))]) dL_law_210 (Nat.le_of_ble_eq_true rfl) rfl ?_
                refine rb_aload_n hV dL_law_212 rfl rfl ?_
                refine rb_iload hV dL_law_213 rfl ?_
                refine rb_bipush hV dL_law_215 (by decide) ?_
                refine rb_callS hV (rest := [.inr (some 0)]) dL_law_217 (c_L_low m g97 7 (by omega)) lk_L_9 rfl rfl ⟨rfl, rfl, (Nat.le_of_ble_eq_true rfl), (Nat.le_of_ble_eq_true rfl), (Nat.le_of_ble_eq_true rfl), (Nat.le_of_ble_eq_true rfl)⟩ (Nat.le_of_ble_eq_true rfl) (fun r9 h9 p9 => ?_)
                obtain ⟨o217, rfl, rfl, ho217⟩ := p9
                show V 220 [some (.inr (some 3000)), some (.inr (some 0)), some (.inl e), some (.inl g87), some (.inl g97), some (.inl o108), some (.inl (m 102 0))] [.inl o217, .inr (some 0)] (WW m) 49 2196
                refine rb_callV hV (rest := []) dL_law_220 (c_X9_setTolerance m o217 (by unfold ab_r at *; omega) hxm) lk_L_97 rfl (Or.inl ⟨8, _, TX9, 8, gw_0 _, rfl⟩) rfl ⟨rfl, rfl, (Nat.le_of_ble_eq_true rfl), (Nat.le_of_ble_eq_true rfl), (Nat.le_of_ble_eq_true rfl), (Nat.le_of_ble_eq_true rfl)⟩ (Nat.le_of_ble_eq_true rfl) (fun r9 h9 p9 => ?_)
                obtain ⟨m220, rfl, rfl, hx220, hbe220⟩ : ∃ m1, r9 = some (.inl (m 102 0)) ∧ h9 = WW m1 ∧ XI m1 ∧ BESTL m1 := by
                  rcases p9 with ⟨q, -⟩ | ⟨-, m1, q1, q2, q3, q4, -⟩
                  · exact absurd (show _ ∧ _ from ⟨by omega, by omega⟩) q
                  · exact ⟨m1, q1, q2, q3, q4⟩
                have hdb220 := (ST_b hx220.1 hx220.2.2.2.1 hx220.2.2.2.2.1).1
                show V 223 [some (.inr (some 3000)), some (.inr (some 0)), some (.inl e), some (.inl g87), some (.inl g97), some (.inl o108), some (.inl (m 102 0))] [.inl (m 102 0)] (WW m220) 49 2196
                refine rb_iload hV dL_law_223 rfl ?_
                refine rb_icmp_ne hV (tgt := 241) dL_law_225 (by decide) ⟨(by unfold ab_r at *; omega), (by unfold ab_r at *; omega)⟩ (fun c225 => absurd c225 (by omega)) (fun c225 => ?_)
                refine rb_aload_n hV dL_law_228 rfl rfl ?_
                refine rb_iconst hV dL_law_229 ?_
                refine rb_callV hV (rest := []) dL_law_230 (c_X9_count m220 2 (by unfold ab_r at *; omega) hx220) lk_L_36 rfl (Or.inl ⟨8, _, TX9, 8, gw_0 _, rfl⟩) rfl ⟨rfl, rfl, (Nat.le_of_ble_eq_true rfl), (Nat.le_of_ble_eq_true rfl), (Nat.le_of_ble_eq_true rfl), (Nat.le_of_ble_eq_true rfl)⟩ (Nat.le_of_ble_eq_true rfl) (fun r9 h9 p9 => ?_)
                obtain ⟨rfl, rfl⟩ : r9 = some (.inl (m220 108 0)) ∧ h9 = WW m220 := ⟨p9.1.trans (congrArg (fun z : Int => (some (Sum.inl z) : Option ab_V)) rfl), p9.2⟩
                show V 233 [some (.inr (some 3000)), some (.inr (some 0)), some (.inl e), some (.inl g87), some (.inl g97), some (.inl o108), some (.inl (m 102 0))] [.inl (m220 108 0)] (WW m220) 49 2196
                refine rb_aload_n hV dL_law_233 rfl rfl ?_
                refine rb_iconst hV dL_law_234 ?_
                refine rb_callV hV (rest := [.inl (m220 108 0)]) dL_law_235 (c_X9_count m220 3 (by unfold ab_r at *; omega) hx220) lk_L_36 rfl (Or.inl ⟨8, _, TX9, 8, gw_0 _, rfl⟩) rfl ⟨rfl, rfl, (Nat.le_of_ble_eq_true rfl), (Nat.le_of_ble_eq_true rfl), (Nat.le_of_ble_eq_true rfl), (Nat.le_of_ble_eq_true rfl)⟩ (Nat.le_of_ble_eq_true rfl) (fun r9 h9 p9 => ?_)
                obtain ⟨rfl, rfl⟩ : r9 = some (.inl (m220 108 0)) ∧ h9 = WW m220 := ⟨p9.1.trans (congrArg (fun z : Int => (some (Sum.inl z) : Option ab_V)) (BESTL_opt hx220 hbe220)), p9.2⟩
                show V 238 [some (.inr (some 3000)), some (.inr (some 0)), some (.inl e), some (.inl g87), some (.inl g97), some (.inl o108), some (.inl (m 102 0))] [.inl (m220 108 0), .inl (m220 108 0)] (WW m220) 49 2196
                refine rb_icmp_eq hV (tgt := 243) dL_law_238 (by decide) ⟨(by unfold ab_r at *; omega), (by unfold ab_r at *; omega)⟩ (fun c238 => ?_) (fun c238 => absurd c238 (by omega))
                refine rb_goto hV (tgt := 257) dL_law_243 (by decide) ?_
                refine rb_aload_n hV dL_law_257 rfl rfl ?_
                refine rb_callS hV (rest := []) dL_law_258 (c_L_lines m220 hx220) lk_L_74 rfl rfl ⟨rfl, rfl, (Nat.le_of_ble_eq_true rfl), (Nat.le_of_ble_eq_true rfl), (Nat.le_of_ble_eq_true rfl), (Nat.le_of_ble_eq_true rfl)⟩ (Nat.le_of_ble_eq_true rfl) (fun r9 h9 p9 => ?_)
                obtain ⟨rfl, rfl⟩ := p9
                show V 261 [some (.inr (some 3000)), some (.inr (some 0)), some (.inl e), some (.inl g87), some (.inl g97), some (.inl o108), some (.inl (m 102 0))] [.inl 1] (WW m220) 49 2196
                refine rb_if_eq hV (tgt := 283) dL_law_261 (by decide) (by unfold ab_r at *; omega) (fun z => absurd z (by decide)) (fun _ => ?_)
                refine rb_aload_n hV dL_law_264 rfl rfl ?_
                refine rb_callS hV (rest := []) dL_law_265 (c_L_rivers m220 hx220) lk_L_113 rfl rfl ⟨rfl, rfl, (Nat.le_of_ble_eq_true rfl), (Nat.le_of_ble_eq_true rfl), (Nat.le_of_ble_eq_true rfl), (Nat.le_of_ble_eq_true rfl)⟩ (Nat.le_of_ble_eq_true rfl) (fun r9 h9 p9 => ?_)
                obtain ⟨rfl, rfl⟩ := p9
                show V 268 [some (.inr (some 3000)), some (.inr (some 0)), some (.inl e), some (.inl g87), some (.inl g97), some (.inl o108), some (.inl (m 102 0))] [.inl 1] (WW m220) 49 2196
                refine rb_if_eq hV (tgt := 283) dL_law_268 (by decide) (by unfold ab_r at *; omega) (fun z => absurd z (by decide)) (fun _ => ?_)
                refine rb_aload_n hV dL_law_271 rfl rfl ?_
                refine rb_bipush hV dL_law_272 (by decide) ?_
                refine rb_callV hV (rest := []) dL_law_274 (c_X9_count m220 10 (by unfold ab_r at *; omega) hx220) lk_L_36 rfl (Or.inl ⟨8, _, TX9, 8, gw_0 _, rfl⟩) rfl ⟨rfl, rfl, (Nat.le_of_ble_eq_true rfl), (Nat.le_of_ble_eq_true rfl), (Nat.le_of_ble_eq_true rfl), (Nat.le_of_ble_eq_true rfl)⟩ (Nat.le_of_ble_eq_true rfl) (fun r9 h9 p9 => ?_)
                obtain ⟨rfl, rfl⟩ : r9 = some (.inl (-1002)) ∧ h9 = WW m220 := ⟨p9.1.trans (congrArg (fun z : Int => (some (Sum.inl z) : Option ab_V)) (show xcount m220 10 = -1002 from rfl)), p9.2⟩
                show V 277 [some (.inr (some 3000)), some (.inr (some 0)), some (.inl e), some (.inl g87), some (.inl g97), some (.inl o108), some (.inl (m 102 0))] [.inl (-1002)] (WW m220) 49 2196
                refine rb_sipush hV dL_law_277 (by decide) ?_
                refine rb_icmp_eq hV (tgt := 285) dL_law_280 (by decide) ⟨(by unfold ab_r at *; omega), (by unfold ab_r at *; omega)⟩ (fun _ => ?_) (fun z => absurd z (by decide))
                refine rb_iinc hV (L2 := [some (.inr (some 3000)), some (.inr (some 0)), some (.inl (e + 1)), some (.inl g87), some (.inl g97), some (.inl o108), some (.inl (m 102 0))]) dL_law_285 rfl rfl rfl ?_
                refine rb_goto hV (tgt := 77) dL_law_288 (by decide) ?_
                refine rb_weak hV (L2 := [some (.inr (some 3000)), some (.inr (some 0)), some (.inl (e + 1)), none, none, none, none]) ⟨rfl, ⟨rfl, ⟨rfl, trivial⟩⟩⟩ ?_
                refine ih77 m220 (e + 1) ?_ ?_ ?_
                · exact hx220
                · omega
                · omega
            · refine rb_aload_n hV dL_law_153 rfl rfl ?_
              refine rb_bipush hV dL_law_154 (by decide) ?_
              refine rb_callV hV (rest := []) dL_law_156 (c_X9_count m 7 (by unfold ab_r at *; omega) hxm) lk_L_36 rfl (Or.inl ⟨8, _, TX9, 8, gw_0 _, rfl⟩) rfl ⟨rfl, rfl, (Nat.le_of_ble_eq_true rfl), (Nat.le_of_ble_eq_true rfl), (Nat.le_of_ble_eq_true rfl), (Nat.le_of_ble_eq_true rfl)⟩ (Nat.le_of_ble_eq_true rfl) (fun r9 h9 p9 => ?_)
              obtain ⟨rfl, rfl⟩ : r9 = some (.inl (m 100 0)) ∧ h9 = WW m := ⟨p9.1.trans (congrArg (fun z : Int => (some (Sum.inl z) : Option ab_V)) rfl), p9.2⟩
              show V 159 [some (.inr (some 3000)), some (.inr (some 0)), some (.inl e), some (.inl g87), some (.inl g97), some (.inl o108), none] [.inl (m 100 0)] (WW m) 49 2196
              refine rb_istore hV (L2 := [some (.inr (some 3000)), some (.inr (some 0)), some (.inl e), some (.inl g87), some (.inl g97), some (.inl o108), some (.inl (m 100 0))]) dL_law_159 (Nat.le_of_ble_eq_true rfl) rfl ?_
              refine rb_aload_n hV dL_law_161 rfl rfl ?_
              refine rb_bipush hV dL_law_162 (by decide) ?_
              refine rb_iload hV dL_law_164 rfl ?_
              refine rb_bipush hV dL_law_166 (by decide) ?_
              refine rb_callS hV (rest := [.inl 20, .inr (some 0)]) dL_law_168 (c_L_low m g97 90 (by omega)) lk_L_9 rfl rfl ⟨rfl, rfl, (Nat.le_of_ble_eq_true rfl), (Nat.le_of_ble_eq_true rfl), (Nat.le_of_ble_eq_true rfl), (Nat.le_of_ble_eq_true rfl)⟩ (Nat.le_of_ble_eq_true rfl) (fun r9 h9 p9 => ?_)
              obtain ⟨o168, rfl, rfl, ho168⟩ := p9
              show V 171 [some (.inr (some 3000)), some (.inr (some 0)), some (.inl e), some (.inl g87), some (.inl g97), some (.inl o108), some (.inl (m 100 0))] [.inl o168, .inl 20, .inr (some 0)] (WW m) 49 2196
              refine rb_iadd hV dL_law_171 ?_
              refine rb_callV hV (rest := []) dL_law_172 (c_X9_setMeasure m (20 + o168) (by unfold ab_r at *; omega) hxm) lk_L_91 rfl (Or.inl ⟨8, _, TX9, 8, gw_0 _, rfl⟩) rfl ⟨rfl, rfl, (Nat.le_of_ble_eq_true rfl), (Nat.le_of_ble_eq_true rfl), (Nat.le_of_ble_eq_true rfl), (Nat.le_of_ble_eq_true rfl)⟩ (Nat.le_of_ble_eq_true rfl) (fun r9 h9 p9 => ?_)
              obtain ⟨m172, rfl, rfl, hx172, hbe172⟩ : ∃ m1, r9 = some (.inl (m 100 0)) ∧ h9 = WW m1 ∧ XI m1 ∧ BESTL m1 := by
                rcases p9 with ⟨q, -⟩ | ⟨-, m1, q1, q2, q3, q4, -⟩
                · exact absurd (show _ ∧ _ from ⟨by omega, by omega⟩) q
                · exact ⟨m1, q1, q2, q3, q4⟩
              have hdb172 := (ST_b hx172.1 hx172.2.2.2.1 hx172.2.2.2.2.1).1
              show V 175 [some (.inr (some 3000)), some (.inr (some 0)), some (.inl e), some (.inl g87), some (.inl g97), some (.inl o108), some (.inl (m 100 0))] [.inl (m 100 0)] (WW m172) 49 2196
              refine rb_iload hV dL_law_175 rfl ?_
              refine rb_icmp_ne hV (tgt := 193) dL_law_177 (by decide) ⟨(by unfold ab_r at *; omega), (by unfold ab_r at *; omega)⟩ (fun c177 => absurd c177 (by omega)) (fun c177 => ?_)
              refine rb_aload_n hV dL_law_180 rfl rfl ?_
              refine rb_iconst hV dL_law_181 ?_
              refine rb_callV hV (rest := []) dL_law_182 (c_X9_count m172 2 (by unfold ab_r at *; omega) hx172) lk_L_36 rfl (Or.inl ⟨8, _, TX9, 8, gw_0 _, rfl⟩) rfl ⟨rfl, rfl, (Nat.le_of_ble_eq_true rfl), (Nat.le_of_ble_eq_true rfl), (Nat.le_of_ble_eq_true rfl), (Nat.le_of_ble_eq_true rfl)⟩ (Nat.le_of_ble_eq_true rfl) (fun r9 h9 p9 => ?_)
              obtain ⟨rfl, rfl⟩ : r9 = some (.inl (m172 108 0)) ∧ h9 = WW m172 := ⟨p9.1.trans (congrArg (fun z : Int => (some (Sum.inl z) : Option ab_V)) rfl), p9.2⟩
              show V 185 [some (.inr (some 3000)), some (.inr (some 0)), some (.inl e), some (.inl g87), some (.inl g97), some (.inl o108), some (.inl (m 100 0))] [.inl (m172 108 0)] (WW m172) 49 2196
              refine rb_aload_n hV dL_law_185 rfl rfl ?_
              refine rb_iconst hV dL_law_186 ?_
              refine rb_callV hV (rest := [.inl (m172 108 0)]) dL_law_187 (c_X9_count m172 3 (by unfold ab_r at *; omega) hx172) lk_L_36 rfl (Or.inl ⟨8, _, TX9, 8, gw_0 _, rfl⟩) rfl ⟨rfl, rfl, (Nat.le_of_ble_eq_true rfl), (Nat.le_of_ble_eq_true rfl), (Nat.le_of_ble_eq_true rfl), (Nat.le_of_ble_eq_true rfl)⟩ (Nat.le_of_ble_eq_true rfl) (fun r9 h9 p9 => ?_)
              obtain ⟨rfl, rfl⟩ : r9 = some (.inl (m172 108 0)) ∧ h9 = WW m172 := ⟨p9.1.trans (congrArg (fun z : Int => (some (Sum.inl z) : Option ab_V)) (BESTL_opt hx172 hbe172)), p9.2⟩
              show V 190 [some (.inr (some 3000)), some (.inr (some 0)), some (.inl e), some (.inl g87), some (.inl g97), some (.inl o108), some (.inl (m 100 0))] [.inl (m172 108 0), .inl (m172 108 0)] (WW m172) 49 2196
              refine rb_icmp_eq hV (tgt := 195) dL_law_190 (by decide) ⟨(by unfold ab_r at *; omega), (by unfold ab_r at *; omega)⟩ (fun c190 => ?_) (fun c190 => absurd c190 (by omega))
              refine rb_goto hV (tgt := 257) dL_law_195 (by decide) ?_
              refine rb_aload_n hV dL_law_257 rfl rfl ?_
              refine rb_callS hV (rest := []) dL_law_258 (c_L_lines m172 hx172) lk_L_74 rfl rfl ⟨rfl, rfl, (Nat.le_of_ble_eq_true rfl), (Nat.le_of_ble_eq_true rfl), (Nat.le_of_ble_eq_true rfl), (Nat.le_of_ble_eq_true rfl)⟩ (Nat.le_of_ble_eq_true rfl) (fun r9 h9 p9 => ?_)
              obtain ⟨rfl, rfl⟩ := p9
              show V 261 [some (.inr (some 3000)), some (.inr (some 0)), some (.inl e), some (.inl g87), some (.inl g97), some (.inl o108), some (.inl (m 100 0))] [.inl 1] (WW m172) 49 2196
              refine rb_if_eq hV (tgt := 283) dL_law_261 (by decide) (by unfold ab_r at *; omega) (fun z => absurd z (by decide)) (fun _ => ?_)
              refine rb_aload_n hV dL_law_264 rfl rfl ?_
              refine rb_callS hV (rest := []) dL_law_265 (c_L_rivers m172 hx172) lk_L_113 rfl rfl ⟨rfl, rfl, (Nat.le_of_ble_eq_true rfl), (Nat.le_of_ble_eq_true rfl), (Nat.le_of_ble_eq_true rfl), (Nat.le_of_ble_eq_true rfl)⟩ (Nat.le_of_ble_eq_true rfl) (fun r9 h9 p9 => ?_)
              obtain ⟨rfl, rfl⟩ := p9
              show V 268 [some (.inr (some 3000)), some (.inr (some 0)), some (.inl e), some (.inl g87), some (.inl g97), some (.inl o108), some (.inl (m 100 0))] [.inl 1] (WW m172) 49 2196
              refine rb_if_eq hV (tgt := 283) dL_law_268 (by decide) (by unfold ab_r at *; omega) (fun z => absurd z (by decide)) (fun _ => ?_)
              refine rb_aload_n hV dL_law_271 rfl rfl ?_
              refine rb_bipush hV dL_law_272 (by decide) ?_
              refine rb_callV hV (rest := []) dL_law_274 (c_X9_count m172 10 (by unfold ab_r at *; omega) hx172) lk_L_36 rfl (Or.inl ⟨8, _, TX9, 8, gw_0 _, rfl⟩) rfl ⟨rfl, rfl, (Nat.le_of_ble_eq_true rfl), (Nat.le_of_ble_eq_true rfl), (Nat.le_of_ble_eq_true rfl), (Nat.le_of_ble_eq_true rfl)⟩ (Nat.le_of_ble_eq_true rfl) (fun r9 h9 p9 => ?_)
              obtain ⟨rfl, rfl⟩ : r9 = some (.inl (-1002)) ∧ h9 = WW m172 := ⟨p9.1.trans (congrArg (fun z : Int => (some (Sum.inl z) : Option ab_V)) (show xcount m172 10 = -1002 from rfl)), p9.2⟩
              show V 277 [some (.inr (some 3000)), some (.inr (some 0)), some (.inl e), some (.inl g87), some (.inl g97), some (.inl o108), some (.inl (m 100 0))] [.inl (-1002)] (WW m172) 49 2196
              refine rb_sipush hV dL_law_277 (by decide) ?_
              refine rb_icmp_eq hV (tgt := 285) dL_law_280 (by decide) ⟨(by unfold ab_r at *; omega), (by unfold ab_r at *; omega)⟩ (fun _ => ?_) (fun z => absurd z (by decide))
              refine rb_iinc hV (L2 := [some (.inr (some 3000)), some (.inr (some 0)), some (.inl (e + 1)), some (.inl g87), some (.inl g97), some (.inl o108), some (.inl (m 100 0))]) dL_law_285 rfl rfl rfl ?_
              refine rb_goto hV (tgt := 77) dL_law_288 (by decide) ?_
              refine rb_weak hV (L2 := [some (.inr (some 3000)), some (.inr (some 0)), some (.inl (e + 1)), none, none, none, none]) ⟨rfl, ⟨rfl, ⟨rfl, trivial⟩⟩⟩ ?_
              refine ih77 m172 (e + 1) ?_ ?_ ?_
              · exact hx172
              · omega
              · omega
          · refine rb_aload_n hV dL_law_135 rfl rfl ?_
            refine rb_iload_n hV dL_law_136 rfl rfl ?_
            refine rb_iload hV dL_law_137 rfl ?_
            refine rb_callS hV (rest := []) dL_law_139 (c_L_commands m g87 g97 hxm) lk_L_105 rfl rfl ⟨rfl, rfl, (Nat.le_of_ble_eq_true rfl), (Nat.le_of_ble_eq_true rfl), (Nat.le_of_ble_eq_true rfl), (Nat.le_of_ble_eq_true rfl)⟩ (Nat.le_of_ble_eq_true rfl) (fun r9 h9 p9 => ?_)
            obtain ⟨rfl, m139, rfl, hx139⟩ := p9
            show V 142 [some (.inr (some 3000)), some (.inr (some 0)), some (.inl e), some (.inl g87), some (.inl g97), some (.inl o108), none] [.inl 1] (WW m139) 49 2196
            refine rb_if_ne hV (tgt := 257) dL_law_142 (by decide) (by unfold ab_r at *; omega) (fun _ => ?_) (fun z => absurd z (by decide))
            refine rb_aload_n hV dL_law_257 rfl rfl ?_
            refine rb_callS hV (rest := []) dL_law_258 (c_L_lines m139 hx139) lk_L_74 rfl rfl ⟨rfl, rfl, (Nat.le_of_ble_eq_true rfl), (Nat.le_of_ble_eq_true rfl), (Nat.le_of_ble_eq_true rfl), (Nat.le_of_ble_eq_true rfl)⟩ (Nat.le_of_ble_eq_true rfl) (fun r9 h9 p9 => ?_)
            obtain ⟨rfl, rfl⟩ := p9
            show V 261 [some (.inr (some 3000)), some (.inr (some 0)), some (.inl e), some (.inl g87), some (.inl g97), some (.inl o108), none] [.inl 1] (WW m139) 49 2196
            refine rb_if_eq hV (tgt := 283) dL_law_261 (by decide) (by unfold ab_r at *; omega) (fun z => absurd z (by decide)) (fun _ => ?_)
            refine rb_aload_n hV dL_law_264 rfl rfl ?_
            refine rb_callS hV (rest := []) dL_law_265 (c_L_rivers m139 hx139) lk_L_113 rfl rfl ⟨rfl, rfl, (Nat.le_of_ble_eq_true rfl), (Nat.le_of_ble_eq_true rfl), (Nat.le_of_ble_eq_true rfl), (Nat.le_of_ble_eq_true rfl)⟩ (Nat.le_of_ble_eq_true rfl) (fun r9 h9 p9 => ?_)
            obtain ⟨rfl, rfl⟩ := p9
            show V 268 [some (.inr (some 3000)), some (.inr (some 0)), some (.inl e), some (.inl g87), some (.inl g97), some (.inl o108), none] [.inl 1] (WW m139) 49 2196
            refine rb_if_eq hV (tgt := 283) dL_law_268 (by decide) (by unfold ab_r at *; omega) (fun z => absurd z (by decide)) (fun _ => ?_)
            refine rb_aload_n hV dL_law_271 rfl rfl ?_
            refine rb_bipush hV dL_law_272 (by decide) ?_
            refine rb_callV hV (rest := []) dL_law_274 (c_X9_count m139 10 (by unfold ab_r at *; omega) hx139) lk_L_36 rfl (Or.inl ⟨8, _, TX9, 8, gw_0 _, rfl⟩) rfl ⟨rfl, rfl, (Nat.le_of_ble_eq_true rfl), (Nat.le_of_ble_eq_true rfl), (Nat.le_of_ble_eq_true rfl), (Nat.le_of_ble_eq_true rfl)⟩ (Nat.le_of_ble_eq_true rfl) (fun r9 h9 p9 => ?_)
            obtain ⟨rfl, rfl⟩ : r9 = some (.inl (-1002)) ∧ h9 = WW m139 := ⟨p9.1.trans (congrArg (fun z : Int => (some (Sum.inl z) : Option ab_V)) (show xcount m139 10 = -1002 from rfl)), p9.2⟩
            show V 277 [some (.inr (some 3000)), some (.inr (some 0)), some (.inl e), some (.inl g87), some (.inl g97), some (.inl o108), none] [.inl (-1002)] (WW m139) 49 2196
            refine rb_sipush hV dL_law_277 (by decide) ?_
            refine rb_icmp_eq hV (tgt := 285) dL_law_280 (by decide) ⟨(by unfold ab_r at *; omega), (by unfold ab_r at *; omega)⟩ (fun _ => ?_) (fun z => absurd z (by decide))
            refine rb_iinc hV (L2 := [some (.inr (some 3000)), some (.inr (some 0)), some (.inl (e + 1)), some (.inl g87), some (.inl g97), some (.inl o108), none]) dL_law_285 rfl rfl rfl ?_
            refine rb_goto hV (tgt := 77) dL_law_288 (by decide) ?_
            refine rb_weak hV (L2 := [some (.inr (some 3000)), some (.inr (some 0)), some (.inl (e + 1)), none, none, none, none]) ⟨rfl, ⟨rfl, ⟨rfl, trivial⟩⟩⟩ ?_
            refine ih77 m139 (e + 1) ?_ ?_ ?_
            · exact hx139
            · omega
            · omega
        · refine rb_aload_n hV dL_law_118 rfl rfl ?_
          refine rb_aload_n hV dL_law_119 rfl rfl ?_
          refine rb_iload_n hV dL_law_120 rfl rfl ?_
          refine rb_callSs hV (rest := []) dL_law_121 rfl (c_L_reads Ln xs hLn hxs m e (by omega) hxm) lk_L_101 rfl rfl ⟨rfl, rfl, (Nat.le_of_ble_eq_true rfl), (Nat.le_of_ble_eq_true rfl), (Nat.le_of_ble_eq_true rfl), (Nat.le_of_ble_eq_true rfl)⟩ (Nat.le_of_ble_eq_true rfl) (fun r9 h9 p9 => ?_)
          obtain ⟨rfl, m121, rfl, hx121⟩ := p9
          show V 124 [some (.inr (some 3000)), some (.inr (some 0)), some (.inl e), some (.inl g87), some (.inl g97), some (.inl o108), none] [.inl 1] (WW m121) 49 2196
          refine rb_if_ne hV (tgt := 257) dL_law_124 (by decide) (by unfold ab_r at *; omega) (fun _ => ?_) (fun z => absurd z (by decide))
          refine rb_aload_n hV dL_law_257 rfl rfl ?_
          refine rb_callS hV (rest := []) dL_law_258 (c_L_lines m121 hx121) lk_L_74 rfl rfl ⟨rfl, rfl, (Nat.le_of_ble_eq_true rfl), (Nat.le_of_ble_eq_true rfl), (Nat.le_of_ble_eq_true rfl), (Nat.le_of_ble_eq_true rfl)⟩ (Nat.le_of_ble_eq_true rfl) (fun r9 h9 p9 => ?_)
          obtain ⟨rfl, rfl⟩ := p9
          show V 261 [some (.inr (some 3000)), some (.inr (some 0)), some (.inl e), some (.inl g87), some (.inl g97), some (.inl o108), none] [.inl 1] (WW m121) 49 2196
          refine rb_if_eq hV (tgt := 283) dL_law_261 (by decide) (by unfold ab_r at *; omega) (fun z => absurd z (by decide)) (fun _ => ?_)
          refine rb_aload_n hV dL_law_264 rfl rfl ?_
          refine rb_callS hV (rest := []) dL_law_265 (c_L_rivers m121 hx121) lk_L_113 rfl rfl ⟨rfl, rfl, (Nat.le_of_ble_eq_true rfl), (Nat.le_of_ble_eq_true rfl), (Nat.le_of_ble_eq_true rfl), (Nat.le_of_ble_eq_true rfl)⟩ (Nat.le_of_ble_eq_true rfl) (fun r9 h9 p9 => ?_)
          obtain ⟨rfl, rfl⟩ := p9
          show V 268 [some (.inr (some 3000)), some (.inr (some 0)), some (.inl e), some (.inl g87), some (.inl g97), some (.inl o108), none] [.inl 1] (WW m121) 49 2196
          refine rb_if_eq hV (tgt := 283) dL_law_268 (by decide) (by unfold ab_r at *; omega) (fun z => absurd z (by decide)) (fun _ => ?_)
          refine rb_aload_n hV dL_law_271 rfl rfl ?_
          refine rb_bipush hV dL_law_272 (by decide) ?_
          refine rb_callV hV (rest := []) dL_law_274 (c_X9_count m121 10 (by unfold ab_r at *; omega) hx121) lk_L_36 rfl (Or.inl ⟨8, _, TX9, 8, gw_0 _, rfl⟩) rfl ⟨rfl, rfl, (Nat.le_of_ble_eq_true rfl), (Nat.le_of_ble_eq_true rfl), (Nat.le_of_ble_eq_true rfl), (Nat.le_of_ble_eq_true rfl)⟩ (Nat.le_of_ble_eq_true rfl) (fun r9 h9 p9 => ?_)
          obtain ⟨rfl, rfl⟩ : r9 = some (.inl (-1002)) ∧ h9 = WW m121 := ⟨p9.1.trans (congrArg (fun z : Int => (some (Sum.inl z) : Option ab_V)) (show xcount m121 10 = -1002 from rfl)), p9.2⟩
          show V 277 [some (.inr (some 3000)), some (.inr (some 0)), some (.inl e), some (.inl g87), some (.inl g97), some (.inl o108), none] [.inl (-1002)] (WW m121) 49 2196
          refine rb_sipush hV dL_law_277 (by decide) ?_
          refine rb_icmp_eq hV (tgt := 285) dL_law_280 (by decide) ⟨(by unfold ab_r at *; omega), (by unfold ab_r at *; omega)⟩ (fun _ => ?_) (fun z => absurd z (by decide))
          refine rb_iinc hV (L2 := [some (.inr (some 3000)), some (.inr (some 0)), some (.inl (e + 1)), some (.inl g87), some (.inl g97), some (.inl o108), none]) dL_law_285 rfl rfl rfl ?_
          refine rb_goto hV (tgt := 77) dL_law_288 (by decide) ?_
          refine rb_weak hV (L2 := [some (.inr (some 3000)), some (.inr (some 0)), some (.inl (e + 1)), none, none, none, none]) ⟨rfl, ⟨rfl, ⟨rfl, trivial⟩⟩⟩ ?_
          refine ih77 m121 (e + 1) ?_ ?_ ?_
          · exact hx121
          · omega
          · omega
  refine h77 _ m67 0 ?_ ?_ (Nat.lt_succ_self _)
  · exact hx67
  · omega
