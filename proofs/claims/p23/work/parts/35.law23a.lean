/-! p23: the law, its small methods -/

set_option maxRecDepth 20000 in
theorem c_L_cell (Ln : Nat) (xs : Int → Int) (hLn : Ln < 2147483648) (hxs : ∀ j, ab_r (xs j)) (s : Nat → Int → Int) (k : Int) (hk : 0 ≤ k ∧ k ≤ 1000) : ab_Ms Ln xs yL_cell cL_cell 2 (some .int) ({ frames := 0, cells := 0, slots := 0, locals := 0 } : Room) [.inr (some 3000), .inl k] (WW s) (fun r h2 => ∃ v, r = some (.inl v) ∧ h2 = WW s ∧ ab_r v) := by
  refine ab_mkS RL false rfl pn_L_cell (fun z => by cases z) (Nat.le_of_ble_eq_true rfl) (fun V hV => ?_)
  show V 0 [some (.inr (some 3000)), some (.inl k)] [] (WW s) 0 0
  refine rb_iload_n hV dL_cell_0 rfl rfl ?_
  refine rb_aload_n hV dL_cell_1 rfl rfl ?_
  refine rb_slen hV dL_cell_2 rfl ?_
  refine rb_icmp_ge hV (tgt := 12) dL_cell_3 (by decide) ⟨(by unfold ab_r at *; omega), (by unfold ab_r at *; omega)⟩ (fun c3 => ?_) (fun c3 => ?_)
  · refine rb_ldcI hV (w := 2010007) (z := 2010007) dL_cell_12 (xt 668 (by decide +kernel) (by decide +kernel)) (by decide) ?_
    refine rb_iload_n hV dL_cell_14 rfl rfl ?_
    refine rb_imul hV dL_cell_15 ?_
    refine rb_sipush hV dL_cell_16 (by decide) ?_
    refine rb_iadd hV dL_cell_19 ?_
    refine rb_ret hV (r := some (.inl ((2010007 * k) + 859))) dL_cell_20 rfl ⟨(Nat.le_of_ble_eq_true rfl), (Nat.le_of_ble_eq_true rfl)⟩ trivial ?_
    exact ⟨_, rfl, rfl, (by unfold ab_r; omega)⟩
  · refine rb_aload_n hV dL_cell_6 rfl rfl ?_
    refine rb_iload_n hV dL_cell_7 rfl rfl ?_
    refine rb_sld hV dL_cell_8 rfl hLn (by omega) ?_
    refine rb_goto hV (tgt := 20) dL_cell_9 (by decide) ?_
    refine rb_ret hV (r := some (.inl (xs k))) dL_cell_20 rfl ⟨(Nat.le_of_ble_eq_true rfl), (Nat.le_of_ble_eq_true rfl)⟩ trivial ?_
    exact ⟨_, rfl, rfl, hxs _⟩

set_option maxRecDepth 20000 in
theorem c_L_low (s : Nat → Int → Int) (v n : Int) (hn : 1 ≤ n ∧ n ≤ 1000) : ab_Mt yL_low cL_low 2 (some .int) ({ frames := 0, cells := 0, slots := 0, locals := 0 } : Room) false 0 0 [.inl v, .inl n] (WW s) (fun r h2 => ∃ v, r = some (.inl v) ∧ h2 = WW s ∧ 0 ≤ v ∧ v < n) := by
  refine ab_mk RL false rfl pn_L_low (fun z => by cases z) (Nat.le_of_ble_eq_true rfl) (fun V hV => ?_)
  show V 0 [some (.inl v), some (.inl n)] [] (WW s) 0 0
  refine rb_iload_n hV dL_low_0 rfl rfl ?_
  refine rb_ldcI hV (w := 2147483647) (z := 2147483647) dL_low_1 (xt 672 (by decide +kernel) (by decide +kernel)) (by decide) ?_
  refine rb_iandp hV dL_low_3 (fun z3 p3 r3 => ?_)
  refine rb_iload_n hV dL_low_4 rfl rfl ?_
  refine rb_irem hV dL_low_5 ⟨(by unfold ab_r at *; omega), (by unfold ab_r at *; omega)⟩ (by omega) ?_
  refine rb_ret hV (r := some (.inl (z3 - z3.tdiv n * n))) dL_low_6 rfl ⟨(Nat.le_of_ble_eq_true rfl), (Nat.le_of_ble_eq_true rfl)⟩ trivial ?_
  exact ⟨_, rfl, rfl, low_r p3 (by omega)⟩

set_option maxRecDepth 20000 in
theorem c_L_sign (s : Nat → Int → Int) (g : Int) : ab_Mt yL_sign cL_sign 2 (some .char) ({ frames := 1, cells := 0, slots := 0, locals := 21 } : Room) false 0 0 [.inl g] (WW s) (fun r h2 => ∃ z, r = some (.inl z) ∧ h2 = WW s ∧ SGN z) := by
  refine ab_mk RL false rfl pn_L_sign (fun z => by cases z) (Nat.le_of_ble_eq_true rfl) (fun V hV => ?_)
  show V 0 [some (.inl g), none] [] (WW s) 0 0
  refine rb_iload_n hV dL_sign_0 rfl rfl ?_
  refine rb_iconst hV dL_sign_1 ?_
  refine rb_ishrx hV dL_sign_2 (fun z2 r2 => ?_)
  refine rb_bipush hV dL_sign_3 (by decide) ?_
  refine rb_callS hV (rest := []) dL_sign_5 (c_L_low s z2 26 (by omega)) lk_L_9 rfl rfl ⟨rfl, rfl, (Nat.le_of_ble_eq_true rfl), (Nat.le_of_ble_eq_true rfl), (Nat.le_of_ble_eq_true rfl), (Nat.le_of_ble_eq_true rfl)⟩ (Nat.le_of_ble_eq_true rfl) (fun r9 h9 p9 => ?_)
  obtain ⟨o5, rfl, rfl, ho5⟩ := p9
  show V 8 [some (.inl g), none] [.inl o5] (WW s) 0 0
  refine rb_istore_n hV (L2 := [some (.inl g), some (.inl o5)]) dL_sign_8 rfl (Nat.le_of_ble_eq_true rfl) rfl ?_
  refine rb_iload_n hV dL_sign_9 rfl rfl ?_
  refine rb_bipush hV dL_sign_10 (by decide) ?_
  refine rb_iandx hV dL_sign_12 (fun z12 r12 => ?_)
  rcases (show z12 = 0 ∨ z12 = 1 ∨ z12 = 2 ∨ z12 = 3 ∨ z12 = 4 ∨ (z12 < 0 ∨ 4 < z12) by omega) with c13 | c13 | c13 | c13 | c13 | c13
  · refine rb_tabIn hV (off := 35) (tgt := 48) dL_sign_13 (by unfold ab_r at *; omega) (by omega) (by omega) (by rw [c13]; rfl) (by decide) ?_
    refine rb_bipush hV dL_sign_48 (by decide) ?_
    refine rb_iload_n hV dL_sign_50 rfl rfl ?_
    refine rb_iadd hV dL_sign_51 ?_
    refine rb_i2c hV dL_sign_52 ?_
    refine rb_ret hV (r := some (.inl ((65 + o5) % 65536))) dL_sign_53 rfl ⟨(Nat.le_of_ble_eq_true rfl), (Nat.le_of_ble_eq_true rfl)⟩ (by show (0 : Int) ≤ ((65 + o5) % 65536) ∧ ((65 + o5) % 65536) < 65536; omega) ?_
    exact ⟨_, rfl, rfl, by rw [show ((65 + o5) % 65536) = 65 + o5 by omega]; exact SGN_of (by omega)⟩
  · refine rb_tabIn hV (off := 41) (tgt := 54) dL_sign_13 (by unfold ab_r at *; omega) (by omega) (by omega) (by rw [c13]; rfl) (by decide) ?_
    refine rb_iload_n hV dL_sign_54 rfl rfl ?_
    refine rb_bipush hV dL_sign_55 (by decide) ?_
    refine rb_icmp_ge hV (tgt := 65) dL_sign_57 (by decide) ⟨(by unfold ab_r at *; omega), (by unfold ab_r at *; omega)⟩ (fun c57 => ?_) (fun c57 => ?_)
    · refine rb_iload_n hV dL_sign_65 rfl rfl ?_
      refine rb_bipush hV dL_sign_66 (by decide) ?_
      refine rb_icmp_ge hV (tgt := 76) dL_sign_68 (by decide) ⟨(by unfold ab_r at *; omega), (by unfold ab_r at *; omega)⟩ (fun c68 => ?_) (fun c68 => ?_)
      · refine rb_bipush hV dL_sign_76 (by decide) ?_
        refine rb_ret hV (r := some (.inl 63)) dL_sign_78 rfl ⟨(Nat.le_of_ble_eq_true rfl), (Nat.le_of_ble_eq_true rfl)⟩ (by show (0 : Int) ≤ 63 ∧ 63 < 65536; omega) ?_
        exact ⟨_, rfl, rfl, SGN_of (by decide)⟩
      · refine rb_bipush hV dL_sign_71 (by decide) ?_
        refine rb_goto hV (tgt := 78) dL_sign_73 (by decide) ?_
        refine rb_ret hV (r := some (.inl 33)) dL_sign_78 rfl ⟨(Nat.le_of_ble_eq_true rfl), (Nat.le_of_ble_eq_true rfl)⟩ (by show (0 : Int) ≤ 33 ∧ 33 < 65536; omega) ?_
        exact ⟨_, rfl, rfl, SGN_of (by decide)⟩
    · refine rb_bipush hV dL_sign_60 (by decide) ?_
      refine rb_goto hV (tgt := 78) dL_sign_62 (by decide) ?_
      refine rb_ret hV (r := some (.inl 46)) dL_sign_78 rfl ⟨(Nat.le_of_ble_eq_true rfl), (Nat.le_of_ble_eq_true rfl)⟩ (by show (0 : Int) ≤ 46 ∧ 46 < 65536; omega) ?_
      exact ⟨_, rfl, rfl, SGN_of (by decide)⟩
  · refine rb_tabIn hV (off := 66) (tgt := 79) dL_sign_13 (by unfold ab_r at *; omega) (by omega) (by omega) (by rw [c13]; rfl) (by decide) ?_
    refine rb_iload_n hV dL_sign_79 rfl rfl ?_
    refine rb_bipush hV dL_sign_80 (by decide) ?_
    refine rb_icmp_ge hV (tgt := 90) dL_sign_82 (by decide) ⟨(by unfold ab_r at *; omega), (by unfold ab_r at *; omega)⟩ (fun c82 => ?_) (fun c82 => ?_)
    · refine rb_iload_n hV dL_sign_90 rfl rfl ?_
      refine rb_bipush hV dL_sign_91 (by decide) ?_
      refine rb_icmp_ge hV (tgt := 101) dL_sign_93 (by decide) ⟨(by unfold ab_r at *; omega), (by unfold ab_r at *; omega)⟩ (fun c93 => ?_) (fun c93 => ?_)
      · refine rb_bipush hV dL_sign_101 (by decide) ?_
        refine rb_ret hV (r := some (.inl 58)) dL_sign_103 rfl ⟨(Nat.le_of_ble_eq_true rfl), (Nat.le_of_ble_eq_true rfl)⟩ (by show (0 : Int) ≤ 58 ∧ 58 < 65536; omega) ?_
        exact ⟨_, rfl, rfl, SGN_of (by decide)⟩
      · refine rb_bipush hV dL_sign_96 (by decide) ?_
        refine rb_goto hV (tgt := 103) dL_sign_98 (by decide) ?_
        refine rb_ret hV (r := some (.inl 59)) dL_sign_103 rfl ⟨(Nat.le_of_ble_eq_true rfl), (Nat.le_of_ble_eq_true rfl)⟩ (by show (0 : Int) ≤ 59 ∧ 59 < 65536; omega) ?_
        exact ⟨_, rfl, rfl, SGN_of (by decide)⟩
    · refine rb_bipush hV dL_sign_85 (by decide) ?_
      refine rb_goto hV (tgt := 103) dL_sign_87 (by decide) ?_
      refine rb_ret hV (r := some (.inl 44)) dL_sign_103 rfl ⟨(Nat.le_of_ble_eq_true rfl), (Nat.le_of_ble_eq_true rfl)⟩ (by show (0 : Int) ≤ 44 ∧ 44 < 65536; omega) ?_
      exact ⟨_, rfl, rfl, SGN_of (by decide)⟩
  · refine rb_tabIn hV (off := 91) (tgt := 104) dL_sign_13 (by unfold ab_r at *; omega) (by omega) (by omega) (by rw [c13]; rfl) (by decide) ?_
    refine rb_iload_n hV dL_sign_104 rfl rfl ?_
    refine rb_bipush hV dL_sign_105 (by decide) ?_
    refine rb_icmp_ge hV (tgt := 115) dL_sign_107 (by decide) ⟨(by unfold ab_r at *; omega), (by unfold ab_r at *; omega)⟩ (fun c107 => ?_) (fun c107 => ?_)
    · refine rb_iload_n hV dL_sign_115 rfl rfl ?_
      refine rb_bipush hV dL_sign_116 (by decide) ?_
      refine rb_icmp_ge hV (tgt := 126) dL_sign_118 (by decide) ⟨(by unfold ab_r at *; omega), (by unfold ab_r at *; omega)⟩ (fun c118 => ?_) (fun c118 => ?_)
      · refine rb_iload_n hV dL_sign_126 rfl rfl ?_
        refine rb_bipush hV dL_sign_127 (by decide) ?_
        refine rb_icmp_ge hV (tgt := 137) dL_sign_129 (by decide) ⟨(by unfold ab_r at *; omega), (by unfold ab_r at *; omega)⟩ (fun c129 => ?_) (fun c129 => ?_)
        · refine rb_iload_n hV dL_sign_137 rfl rfl ?_
          refine rb_bipush hV dL_sign_138 (by decide) ?_
          refine rb_icmp_ge hV (tgt := 148) dL_sign_140 (by decide) ⟨(by unfold ab_r at *; omega), (by unfold ab_r at *; omega)⟩ (fun c140 => ?_) (fun c140 => ?_)
          · refine rb_bipush hV dL_sign_148 (by decide) ?_
            refine rb_ret hV (r := some (.inl 41)) dL_sign_150 rfl ⟨(Nat.le_of_ble_eq_true rfl), (Nat.le_of_ble_eq_true rfl)⟩ (by show (0 : Int) ≤ 41 ∧ 41 < 65536; omega) ?_
            exact ⟨_, rfl, rfl, SGN_of (by decide)⟩
          · refine rb_bipush hV dL_sign_143 (by decide) ?_
            refine rb_goto hV (tgt := 150) dL_sign_145 (by decide) ?_
            refine rb_ret hV (r := some (.inl 40)) dL_sign_150 rfl ⟨(Nat.le_of_ble_eq_true rfl), (Nat.le_of_ble_eq_true rfl)⟩ (by show (0 : Int) ≤ 40 ∧ 40 < 65536; omega) ?_
            exact ⟨_, rfl, rfl, SGN_of (by decide)⟩
        · refine rb_bipush hV dL_sign_132 (by decide) ?_
          refine rb_goto hV (tgt := 150) dL_sign_134 (by decide) ?_
          refine rb_ret hV (r := some (.inl 34)) dL_sign_150 rfl ⟨(Nat.le_of_ble_eq_true rfl), (Nat.le_of_ble_eq_true rfl)⟩ (by show (0 : Int) ≤ 34 ∧ 34 < 65536; omega) ?_
          exact ⟨_, rfl, rfl, SGN_of (by decide)⟩
      · refine rb_bipush hV dL_sign_121 (by decide) ?_
        refine rb_goto hV (tgt := 150) dL_sign_123 (by decide) ?_
        refine rb_ret hV (r := some (.inl 39)) dL_sign_150 rfl ⟨(Nat.le_of_ble_eq_true rfl), (Nat.le_of_ble_eq_true rfl)⟩ (by show (0 : Int) ≤ 39 ∧ 39 < 65536; omega) ?_
        exact ⟨_, rfl, rfl, SGN_of (by decide)⟩
    · refine rb_bipush hV dL_sign_110 (by decide) ?_
      refine rb_goto hV (tgt := 150) dL_sign_112 (by decide) ?_
      refine rb_ret hV (r := some (.inl 45)) dL_sign_150 rfl ⟨(Nat.le_of_ble_eq_true rfl), (Nat.le_of_ble_eq_true rfl)⟩ (by show (0 : Int) ≤ 45 ∧ 45 < 65536; omega) ?_
      exact ⟨_, rfl, rfl, SGN_of (by decide)⟩
  · refine rb_tabIn hV (off := 138) (tgt := 151) dL_sign_13 (by unfold ab_r at *; omega) (by omega) (by omega) (by rw [c13]; rfl) (by decide) ?_
    refine rb_bipush hV dL_sign_151 (by decide) ?_
    refine rb_iload_n hV dL_sign_153 rfl rfl ?_
    refine rb_iconst hV dL_sign_154 ?_
    refine rb_ishrx hV dL_sign_155 (fun z155 r155 => ?_)
    refine rb_bipush hV dL_sign_156 (by decide) ?_
    refine rb_callS hV (rest := [.inl 48]) dL_sign_158 (c_L_low s z155 10 (by omega)) lk_L_9 rfl rfl ⟨rfl, rfl, (Nat.le_of_ble_eq_true rfl), (Nat.le_of_ble_eq_true rfl), (Nat.le_of_ble_eq_true rfl), (Nat.le_of_ble_eq_true rfl)⟩ (Nat.le_of_ble_eq_true rfl) (fun r9 h9 p9 => ?_)
    obtain ⟨o158, rfl, rfl, ho158⟩ := p9
    show V 161 [some (.inl g), some (.inl o5)] [.inl o158, .inl 48] (WW s) 0 0
    refine rb_iadd hV dL_sign_161 ?_
    refine rb_i2c hV dL_sign_162 ?_
    refine rb_ret hV (r := some (.inl ((48 + o158) % 65536))) dL_sign_163 rfl ⟨(Nat.le_of_ble_eq_true rfl), (Nat.le_of_ble_eq_true rfl)⟩ (by show (0 : Int) ≤ ((48 + o158) % 65536) ∧ ((48 + o158) % 65536) < 65536; omega) ?_
    exact ⟨_, rfl, rfl, by rw [show ((48 + o158) % 65536) = 48 + o158 by omega]; exact SGN_of (by omega)⟩
  · refine rb_tabOut hV (tgt := 164) dL_sign_13 (by unfold ab_r at *; omega) c13 (by decide) ?_
    refine rb_bipush hV dL_sign_164 (by decide) ?_
    refine rb_iload_n hV dL_sign_166 rfl rfl ?_
    refine rb_iadd hV dL_sign_167 ?_
    refine rb_i2c hV dL_sign_168 ?_
    refine rb_ret hV (r := some (.inl ((97 + o5) % 65536))) dL_sign_169 rfl ⟨(Nat.le_of_ble_eq_true rfl), (Nat.le_of_ble_eq_true rfl)⟩ (by show (0 : Int) ≤ ((97 + o5) % 65536) ∧ ((97 + o5) % 65536) < 65536; omega) ?_
    exact ⟨_, rfl, rfl, by rw [show ((97 + o5) % 65536) = 97 + o5 by omega]; exact SGN_of (by omega)⟩

set_option maxRecDepth 20000 in
theorem c_L_number (s : Nat → Int → Int) (v : Int) (cs : List Int) (hv : 0 ≤ v ∧ v ≤ 999) (hcs : cs.length ≤ 100) (htx : TXL s cs) (hx : XI s) : ab_Mt yL_number cL_number 2 none ({ frames := 2, cells := 0, slots := 0, locals := 42 } : Room) false 0 0 [.inr (some 0), .inl v] (WW s) (fun r h2 => r = none ∧ ∃ t ds, h2 = WW t ∧ XI t ∧ KEEP [22, 104] s t ∧ TXL t (cs ++ 32 :: ds) ∧ DG v ds) := by
  refine ab_mk RL false rfl pn_L_number (fun z => by cases z) (Nat.le_of_ble_eq_true rfl) (fun V hV => ?_)
  show V 0 [some (.inr (some 0)), some (.inl v)] [] (WW s) 0 0
  refine rb_aload_n hV dL_number_0 rfl rfl ?_
  refine rb_bipush hV dL_number_1 (by decide) ?_
  refine rb_callV hV (rest := []) dL_number_3 (c_X9_type s 32 (by omega) hx) lk_L_29 rfl (Or.inl ⟨8, _, TX9, 8, gw_0 _, rfl⟩) rfl ⟨rfl, rfl, (Nat.le_of_ble_eq_true rfl), (Nat.le_of_ble_eq_true rfl), (Nat.le_of_ble_eq_true rfl), (Nat.le_of_ble_eq_true rfl)⟩ (Nat.le_of_ble_eq_true rfl) (fun r9 h9 p9 => ?_)
  obtain ⟨t3, v3, rfl, rfl, hx3, hk3, tx3⟩ := ty_ok htx (by first | omega | (simp only [List.length_append, List.length_cons, List.length_nil]; omega)) p9
  show V 6 [some (.inr (some 0)), some (.inl v)] [.inl v3] (WW t3) 0 0
  refine rb_pop hV dL_number_6 ?_
  refine rb_iload_n hV dL_number_7 rfl rfl ?_
  refine rb_bipush hV dL_number_8 (by decide) ?_
  refine rb_icmp_le hV (tgt := 26) dL_number_10 (by decide) ⟨(by unfold ab_r at *; omega), (by unfold ab_r at *; omega)⟩ (fun c10 => ?_) (fun c10 => ?_)
  · refine rb_iload_n hV dL_number_26 rfl rfl ?_
    refine rb_bipush hV dL_number_27 (by decide) ?_
    refine rb_icmp_le hV (tgt := 48) dL_number_29 (by decide) ⟨(by unfold ab_r at *; omega), (by unfold ab_r at *; omega)⟩ (fun c29 => ?_) (fun c29 => ?_)
    · refine rb_aload_n hV dL_number_48 rfl rfl ?_
      refine rb_bipush hV dL_number_49 (by decide) ?_
      refine rb_iload_n hV dL_number_51 rfl rfl ?_
      refine rb_bipush hV dL_number_52 (by decide) ?_
      refine rb_irem hV dL_number_54 ⟨(by have q1 := Int.tdiv_eq_ediv_of_nonneg (b := 10) hv.1; unfold ab_r; omega), (by unfold ab_r; omega)⟩ (by decide) ?_
      refine rb_iadd hV dL_number_55 ?_
      refine rb_i2c hV dL_number_56 ?_
      refine rb_callV hV (rest := []) dL_number_57 (c_X9_type t3 ((48 + (v - v.tdiv 10 * 10)) % 65536) (by omega) hx3) lk_L_29 rfl (Or.inl ⟨8, _, TX9, 8, gw_0 _, rfl⟩) rfl ⟨rfl, rfl, (Nat.le_of_ble_eq_true rfl), (Nat.le_of_ble_eq_true rfl), (Nat.le_of_ble_eq_true rfl), (Nat.le_of_ble_eq_true rfl)⟩ (Nat.le_of_ble_eq_true rfl) (fun r9 h9 p9 => ?_)
      obtain ⟨t57, v57, rfl, rfl, hx57, hk57, tx57⟩ := ty_ok tx3 (by first | omega | (simp only [List.length_append, List.length_cons, List.length_nil]; omega)) p9
      show V 60 [some (.inr (some 0)), some (.inl v)] [.inl v57] (WW t57) 0 0
      refine rb_pop hV dL_number_60 ?_
      refine rb_ret hV (r := none) dL_number_61 rfl ⟨(Nat.le_of_ble_eq_true rfl), (Nat.le_of_ble_eq_true rfl)⟩ trivial ?_
      have q1 := Int.tdiv_eq_ediv_of_nonneg (b := 10) hv.1
      have q2 := Int.tdiv_eq_ediv_of_nonneg (b := 100) hv.1
      have q3 := Int.tdiv_eq_ediv_of_nonneg (a := v.tdiv 10) (b := 10) (by omega)
      refine ⟨rfl, t57, [(48 + (v - v.tdiv 10 * 10)) % 65536], rfl, hx57, (KEEP_trans hk3 hk57), ?_, Or.inr (Or.inr ⟨_, rfl, by omega, by omega, by omega⟩)⟩
      simpa only [List.append_assoc, List.cons_append, List.nil_append] using tx57
    · refine rb_aload_n hV dL_number_32 rfl rfl ?_
      refine rb_bipush hV dL_number_33 (by decide) ?_
      refine rb_iload_n hV dL_number_35 rfl rfl ?_
      refine rb_bipush hV dL_number_36 (by decide) ?_
      refine rb_idiv hV dL_number_38 ⟨(by unfold ab_r; omega), (by unfold ab_r; omega)⟩ (by decide) ?_
      refine rb_bipush hV dL_number_39 (by decide) ?_
      refine rb_irem hV dL_number_41 ⟨(by have q1 := Int.tdiv_eq_ediv_of_nonneg (b := 10) hv.1; unfold ab_r; omega), (by unfold ab_r; omega)⟩ (by decide) ?_
      refine rb_iadd hV dL_number_42 ?_
      refine rb_i2c hV dL_number_43 ?_
      refine rb_callV hV (rest := []) dL_number_44 (c_X9_type t3 ((48 + (((v).tdiv 10) - ((v).tdiv 10).tdiv 10 * 10)) % 65536) (by omega) hx3) lk_L_29 rfl (Or.inl ⟨8, _, TX9, 8, gw_0 _, rfl⟩) rfl ⟨rfl, rfl, (Nat.le_of_ble_eq_true rfl), (Nat.le_of_ble_eq_true rfl), (Nat.le_of_ble_eq_true rfl), (Nat.le_of_ble_eq_true rfl)⟩ (Nat.le_of_ble_eq_true rfl) (fun r9 h9 p9 => ?_)
      obtain ⟨t44, v44, rfl, rfl, hx44, hk44, tx44⟩ := ty_ok tx3 (by first | omega | (simp only [List.length_append, List.length_cons, List.length_nil]; omega)) p9
      show V 47 [some (.inr (some 0)), some (.inl v)] [.inl v44] (WW t44) 0 0
      refine rb_pop hV dL_number_47 ?_
      refine rb_aload_n hV dL_number_48 rfl rfl ?_
      refine rb_bipush hV dL_number_49 (by decide) ?_
      refine rb_iload_n hV dL_number_51 rfl rfl ?_
      refine rb_bipush hV dL_number_52 (by decide) ?_
      refine rb_irem hV dL_number_54 ⟨(by have q1 := Int.tdiv_eq_ediv_of_nonneg (b := 10) hv.1; unfold ab_r; omega), (by unfold ab_r; omega)⟩ (by decide) ?_
      refine rb_iadd hV dL_number_55 ?_
      refine rb_i2c hV dL_number_56 ?_
      refine rb_callV hV (rest := []) dL_number_57 (c_X9_type t44 ((48 + (v - v.tdiv 10 * 10)) % 65536) (by omega) hx44) lk_L_29 rfl (Or.inl ⟨8, _, TX9, 8, gw_0 _, rfl⟩) rfl ⟨rfl, rfl, (Nat.le_of_ble_eq_true rfl), (Nat.le_of_ble_eq_true rfl), (Nat.le_of_ble_eq_true rfl), (Nat.le_of_ble_eq_true rfl)⟩ (Nat.le_of_ble_eq_true rfl) (fun r9 h9 p9 => ?_)
      obtain ⟨t57, v57, rfl, rfl, hx57, hk57, tx57⟩ := ty_ok tx44 (by first | omega | (simp only [List.length_append, List.length_cons, List.length_nil]; omega)) p9
      show V 60 [some (.inr (some 0)), some (.inl v)] [.inl v57] (WW t57) 0 0
      refine rb_pop hV dL_number_60 ?_
      refine rb_ret hV (r := none) dL_number_61 rfl ⟨(Nat.le_of_ble_eq_true rfl), (Nat.le_of_ble_eq_true rfl)⟩ trivial ?_
      have q1 := Int.tdiv_eq_ediv_of_nonneg (b := 10) hv.1
      have q2 := Int.tdiv_eq_ediv_of_nonneg (b := 100) hv.1
      have q3 := Int.tdiv_eq_ediv_of_nonneg (a := v.tdiv 10) (b := 10) (by omega)
      refine ⟨rfl, t57, [(48 + (v.tdiv 10 - (v.tdiv 10).tdiv 10 * 10)) % 65536, (48 + (v - v.tdiv 10 * 10)) % 65536], rfl, hx57, (KEEP_trans (KEEP_trans hk3 hk44) hk57), ?_, Or.inr (Or.inl ⟨_, _, rfl, by omega, by omega, by omega, by omega, by omega⟩)⟩
      simpa only [List.append_assoc, List.cons_append, List.nil_append] using tx57
  · refine rb_aload_n hV dL_number_13 rfl rfl ?_
    refine rb_bipush hV dL_number_14 (by decide) ?_
    refine rb_iload_n hV dL_number_16 rfl rfl ?_
    refine rb_bipush hV dL_number_17 (by decide) ?_
    refine rb_idiv hV dL_number_19 ⟨(by unfold ab_r; omega), (by unfold ab_r; omega)⟩ (by decide) ?_
    refine rb_iadd hV dL_number_20 ?_
    refine rb_i2c hV dL_number_21 ?_
    refine rb_callV hV (rest := []) dL_number_22 (c_X9_type t3 ((48 + ((v).tdiv 100)) % 65536) (by omega) hx3) lk_L_29 rfl (Or.inl ⟨8, _, TX9, 8, gw_0 _, rfl⟩) rfl ⟨rfl, rfl, (Nat.le_of_ble_eq_true rfl), (Nat.le_of_ble_eq_true rfl), (Nat.le_of_ble_eq_true rfl), (Nat.le_of_ble_eq_true rfl)⟩ (Nat.le_of_ble_eq_true rfl) (fun r9 h9 p9 => ?_)
    obtain ⟨t22, v22, rfl, rfl, hx22, hk22, tx22⟩ := ty_ok tx3 (by first | omega | (simp only [List.length_append, List.length_cons, List.length_nil]; omega)) p9
    show V 25 [some (.inr (some 0)), some (.inl v)] [.inl v22] (WW t22) 0 0
    refine rb_pop hV dL_number_25 ?_
    refine rb_iload_n hV dL_number_26 rfl rfl ?_
    refine rb_bipush hV dL_number_27 (by decide) ?_
    refine rb_icmp_le hV (tgt := 48) dL_number_29 (by decide) ⟨(by unfold ab_r at *; omega), (by unfold ab_r at *; omega)⟩ (fun c29 => ?_) (fun c29 => ?_)
    · refine rb_aload_n hV dL_number_48 rfl rfl ?_
      refine rb_bipush hV dL_number_49 (by decide) ?_
      refine rb_iload_n hV dL_number_51 rfl rfl ?_
      refine rb_bipush hV dL_number_52 (by decide) ?_
      refine rb_irem hV dL_number_54 ⟨(by have q1 := Int.tdiv_eq_ediv_of_nonneg (b := 10) hv.1; unfold ab_r; omega), (by unfold ab_r; omega)⟩ (by decide) ?_
      refine rb_iadd hV dL_number_55 ?_
      refine rb_i2c hV dL_number_56 ?_
      refine rb_callV hV (rest := []) dL_number_57 (c_X9_type t22 ((48 + (v - v.tdiv 10 * 10)) % 65536) (by omega) hx22) lk_L_29 rfl (Or.inl ⟨8, _, TX9, 8, gw_0 _, rfl⟩) rfl ⟨rfl, rfl, (Nat.le_of_ble_eq_true rfl), (Nat.le_of_ble_eq_true rfl), (Nat.le_of_ble_eq_true rfl), (Nat.le_of_ble_eq_true rfl)⟩ (Nat.le_of_ble_eq_true rfl) (fun r9 h9 p9 => ?_)
      obtain ⟨t57, v57, rfl, rfl, hx57, hk57, tx57⟩ := ty_ok tx22 (by first | omega | (simp only [List.length_append, List.length_cons, List.length_nil]; omega)) p9
      show V 60 [some (.inr (some 0)), some (.inl v)] [.inl v57] (WW t57) 0 0
      refine rb_pop hV dL_number_60 ?_
      refine rb_ret hV (r := none) dL_number_61 rfl ⟨(Nat.le_of_ble_eq_true rfl), (Nat.le_of_ble_eq_true rfl)⟩ trivial ?_
      exfalso
      omega
    · refine rb_aload_n hV dL_number_32 rfl rfl ?_
      refine rb_bipush hV dL_number_33 (by decide) ?_
      refine rb_iload_n hV dL_number_35 rfl rfl ?_
      refine rb_bipush hV dL_number_36 (by decide) ?_
      refine rb_idiv hV dL_number_38 ⟨(by unfold ab_r; omega), (by unfold ab_r; omega)⟩ (by decide) ?_
      refine rb_bipush hV dL_number_39 (by decide) ?_
      refine rb_irem hV dL_number_41 ⟨(by have q1 := Int.tdiv_eq_ediv_of_nonneg (b := 10) hv.1; unfold ab_r; omega), (by unfold ab_r; omega)⟩ (by decide) ?_
      refine rb_iadd hV dL_number_42 ?_
      refine rb_i2c hV dL_number_43 ?_
      refine rb_callV hV (rest := []) dL_number_44 (c_X9_type t22 ((48 + (((v).tdiv 10) - ((v).tdiv 10).tdiv 10 * 10)) % 65536) (by omega) hx22) lk_L_29 rfl (Or.inl ⟨8, _, TX9, 8, gw_0 _, rfl⟩) rfl ⟨rfl, rfl, (Nat.le_of_ble_eq_true rfl), (Nat.le_of_ble_eq_true rfl), (Nat.le_of_ble_eq_true rfl), (Nat.le_of_ble_eq_true rfl)⟩ (Nat.le_of_ble_eq_true rfl) (fun r9 h9 p9 => ?_)
      obtain ⟨t44, v44, rfl, rfl, hx44, hk44, tx44⟩ := ty_ok tx22 (by first | omega | (simp only [List.length_append, List.length_cons, List.length_nil]; omega)) p9
      show V 47 [some (.inr (some 0)), some (.inl v)] [.inl v44] (WW t44) 0 0
      refine rb_pop hV dL_number_47 ?_
      refine rb_aload_n hV dL_number_48 rfl rfl ?_
      refine rb_bipush hV dL_number_49 (by decide) ?_
      refine rb_iload_n hV dL_number_51 rfl rfl ?_
      refine rb_bipush hV dL_number_52 (by decide) ?_
      refine rb_irem hV dL_number_54 ⟨(by have q1 := Int.tdiv_eq_ediv_of_nonneg (b := 10) hv.1; unfold ab_r; omega), (by unfold ab_r; omega)⟩ (by decide) ?_
      refine rb_iadd hV dL_number_55 ?_
      refine rb_i2c hV dL_number_56 ?_
      refine rb_callV hV (rest := []) dL_number_57 (c_X9_type t44 ((48 + (v - v.tdiv 10 * 10)) % 65536) (by omega) hx44) lk_L_29 rfl (Or.inl ⟨8, _, TX9, 8, gw_0 _, rfl⟩) rfl ⟨rfl, rfl, (Nat.le_of_ble_eq_true rfl), (Nat.le_of_ble_eq_true rfl), (Nat.le_of_ble_eq_true rfl), (Nat.le_of_ble_eq_true rfl)⟩ (Nat.le_of_ble_eq_true rfl) (fun r9 h9 p9 => ?_)
      obtain ⟨t57, v57, rfl, rfl, hx57, hk57, tx57⟩ := ty_ok tx44 (by first | omega | (simp only [List.length_append, List.length_cons, List.length_nil]; omega)) p9
      show V 60 [some (.inr (some 0)), some (.inl v)] [.inl v57] (WW t57) 0 0
      refine rb_pop hV dL_number_60 ?_
      refine rb_ret hV (r := none) dL_number_61 rfl ⟨(Nat.le_of_ble_eq_true rfl), (Nat.le_of_ble_eq_true rfl)⟩ trivial ?_
      have q1 := Int.tdiv_eq_ediv_of_nonneg (b := 10) hv.1
      have q2 := Int.tdiv_eq_ediv_of_nonneg (b := 100) hv.1
      have q3 := Int.tdiv_eq_ediv_of_nonneg (a := v.tdiv 10) (b := 10) (by omega)
      refine ⟨rfl, t57, [(48 + v.tdiv 100) % 65536, (48 + (v.tdiv 10 - (v.tdiv 10).tdiv 10 * 10)) % 65536, (48 + (v - v.tdiv 10 * 10)) % 65536], rfl, hx57, (KEEP_trans (KEEP_trans (KEEP_trans hk3 hk22) hk44) hk57), ?_, Or.inl ⟨_, _, _, rfl, by omega, by omega, by omega, by omega, by omega⟩⟩
      simpa only [List.append_assoc, List.cons_append, List.nil_append] using tx57

set_option maxRecDepth 20000 in
theorem c_L_word (s : Nat → Int → Int) (a : Int) (ha : 0 ≤ a ∧ a ≤ 3) (hx : XI s) : ab_Mt yL_word cL_word 2 none ({ frames := 2, cells := 0, slots := 0, locals := 42 } : Room) false 0 0 [.inr (some 0), .inl a] (WW s) (fun r h2 => r = none ∧ ∃ t, h2 = WW t ∧ XI t ∧ KEEP [22, 104] s t ∧ TXL t (wrd a)) := by
  refine ab_mk RL false rfl pn_L_word (fun z => by cases z) (Nat.le_of_ble_eq_true rfl) (fun V hV => ?_)
  show V 0 [some (.inr (some 0)), some (.inl a)] [] (WW s) 0 0
  refine rb_aload_n hV dL_word_0 rfl rfl ?_
  refine rb_callV hV (rest := []) dL_word_1 (c_X9_clearText s hx) lk_L_15 rfl (Or.inl ⟨8, _, TX9, 8, gw_0 _, rfl⟩) rfl ⟨rfl, rfl, (Nat.le_of_ble_eq_true rfl), (Nat.le_of_ble_eq_true rfl), (Nat.le_of_ble_eq_true rfl), (Nat.le_of_ble_eq_true rfl)⟩ (Nat.le_of_ble_eq_true rfl) (fun r9 h9 p9 => ?_)
  obtain ⟨rfl, rfl, hxc1⟩ := p9
  have txc1 : TXL (ab_s s 104 (fun _ => 0)) [] := TXL_0 rfl
  show V 4 [some (.inr (some 0)), some (.inl a)] [.inl (s 104 0)] (WW (ab_s s 104 (fun _ => 0))) 0 0
  refine rb_pop hV dL_word_4 ?_
  rcases (show a = 0 ∨ a = 1 ∨ a = 2 ∨ a = 3 by omega) with rfl | rfl | rfl | rfl
  · refine rb_aload_n hV dL_word_5 rfl rfl ?_
    refine rb_iload_n hV dL_word_6 rfl rfl ?_
    refine rb_if_ne hV (tgt := 15) dL_word_7 (by decide) (by unfold ab_r at *; omega) (fun z => absurd z (by decide)) (fun _ => ?_)
    refine rb_bipush hV dL_word_10 (by decide) ?_
    refine rb_goto hV (tgt := 37) dL_word_12 (by decide) ?_
    refine rb_callV hV (rest := []) dL_word_37 (c_X9_type (ab_s s 104 (fun _ => 0)) 109 (by decide) hxc1) lk_L_29 rfl (Or.inl ⟨8, _, TX9, 8, gw_0 _, rfl⟩) rfl ⟨rfl, rfl, (Nat.le_of_ble_eq_true rfl), (Nat.le_of_ble_eq_true rfl), (Nat.le_of_ble_eq_true rfl), (Nat.le_of_ble_eq_true rfl)⟩ (Nat.le_of_ble_eq_true rfl) (fun r9 h9 p9 => ?_)
    obtain ⟨t37, v37, rfl, rfl, hx37, hk37, tx37⟩ := ty_ok txc1 (by decide) p9
    show V 40 [some (.inr (some 0)), some (.inl 0)] [.inl v37] (WW t37) 0 0
    refine rb_pop hV dL_word_40 ?_
    refine rb_aload_n hV dL_word_41 rfl rfl ?_
    refine rb_iload_n hV dL_word_42 rfl rfl ?_
    refine rb_if_ne hV (tgt := 51) dL_word_43 (by decide) (by unfold ab_r at *; omega) (fun z => absurd z (by decide)) (fun _ => ?_)
    refine rb_bipush hV dL_word_46 (by decide) ?_
    refine rb_goto hV (tgt := 73) dL_word_48 (by decide) ?_
    refine rb_callV hV (rest := []) dL_word_73 (c_X9_type t37 101 (by decide) hx37) lk_L_29 rfl (Or.inl ⟨8, _, TX9, 8, gw_0 _, rfl⟩) rfl ⟨rfl, rfl, (Nat.le_of_ble_eq_true rfl), (Nat.le_of_ble_eq_true rfl), (Nat.le_of_ble_eq_true rfl), (Nat.le_of_ble_eq_true rfl)⟩ (Nat.le_of_ble_eq_true rfl) (fun r9 h9 p9 => ?_)
    obtain ⟨t73, v73, rfl, rfl, hx73, hk73, tx73⟩ := ty_ok tx37 (by decide) p9
    show V 76 [some (.inr (some 0)), some (.inl 0)] [.inl v73] (WW t73) 0 0
    refine rb_pop hV dL_word_76 ?_
    refine rb_aload_n hV dL_word_77 rfl rfl ?_
    refine rb_iload_n hV dL_word_78 rfl rfl ?_
    refine rb_if_ne hV (tgt := 87) dL_word_79 (by decide) (by unfold ab_r at *; omega) (fun z => absurd z (by decide)) (fun _ => ?_)
    refine rb_bipush hV dL_word_82 (by decide) ?_
    refine rb_goto hV (tgt := 109) dL_word_84 (by decide) ?_
    refine rb_callV hV (rest := []) dL_word_109 (c_X9_type t73 97 (by decide) hx73) lk_L_29 rfl (Or.inl ⟨8, _, TX9, 8, gw_0 _, rfl⟩) rfl ⟨rfl, rfl, (Nat.le_of_ble_eq_true rfl), (Nat.le_of_ble_eq_true rfl), (Nat.le_of_ble_eq_true rfl), (Nat.le_of_ble_eq_true rfl)⟩ (Nat.le_of_ble_eq_true rfl) (fun r9 h9 p9 => ?_)
    obtain ⟨t109, v109, rfl, rfl, hx109, hk109, tx109⟩ := ty_ok tx73 (by decide) p9
    show V 112 [some (.inr (some 0)), some (.inl 0)] [.inl v109] (WW t109) 0 0
    refine rb_pop hV dL_word_112 ?_
    refine rb_aload_n hV dL_word_113 rfl rfl ?_
    refine rb_iload_n hV dL_word_114 rfl rfl ?_
    refine rb_if_ne hV (tgt := 123) dL_word_115 (by decide) (by unfold ab_r at *; omega) (fun z => absurd z (by decide)) (fun _ => ?_)
    refine rb_bipush hV dL_word_118 (by decide) ?_
    refine rb_goto hV (tgt := 145) dL_word_120 (by decide) ?_
    refine rb_callV hV (rest := []) dL_word_145 (c_X9_type t109 115 (by decide) hx109) lk_L_29 rfl (Or.inl ⟨8, _, TX9, 8, gw_0 _, rfl⟩) rfl ⟨rfl, rfl, (Nat.le_of_ble_eq_true rfl), (Nat.le_of_ble_eq_true rfl), (Nat.le_of_ble_eq_true rfl), (Nat.le_of_ble_eq_true rfl)⟩ (Nat.le_of_ble_eq_true rfl) (fun r9 h9 p9 => ?_)
    obtain ⟨t145, v145, rfl, rfl, hx145, hk145, tx145⟩ := ty_ok tx109 (by decide) p9
    show V 148 [some (.inr (some 0)), some (.inl 0)] [.inl v145] (WW t145) 0 0
    refine rb_pop hV dL_word_148 ?_
    refine rb_iload_n hV dL_word_149 rfl rfl ?_
    refine rb_if_ne hV (tgt := 177) dL_word_150 (by decide) (by unfold ab_r at *; omega) (fun z => absurd z (by decide)) (fun _ => ?_)
    refine rb_aload_n hV dL_word_153 rfl rfl ?_
    refine rb_bipush hV dL_word_154 (by decide) ?_
    refine rb_callV hV (rest := []) dL_word_156 (c_X9_type t145 117 (by decide) hx145) lk_L_29 rfl (Or.inl ⟨8, _, TX9, 8, gw_0 _, rfl⟩) rfl ⟨rfl, rfl, (Nat.le_of_ble_eq_true rfl), (Nat.le_of_ble_eq_true rfl), (Nat.le_of_ble_eq_true rfl), (Nat.le_of_ble_eq_true rfl)⟩ (Nat.le_of_ble_eq_true rfl) (fun r9 h9 p9 => ?_)
    obtain ⟨t156, v156, rfl, rfl, hx156, hk156, tx156⟩ := ty_ok tx145 (by decide) p9
    show V 159 [some (.inr (some 0)), some (.inl 0)] [.inl v156] (WW t156) 0 0
    refine rb_pop hV dL_word_159 ?_
    refine rb_aload_n hV dL_word_160 rfl rfl ?_
    refine rb_bipush hV dL_word_161 (by decide) ?_
    refine rb_callV hV (rest := []) dL_word_163 (c_X9_type t156 114 (by decide) hx156) lk_L_29 rfl (Or.inl ⟨8, _, TX9, 8, gw_0 _, rfl⟩) rfl ⟨rfl, rfl, (Nat.le_of_ble_eq_true rfl), (Nat.le_of_ble_eq_true rfl), (Nat.le_of_ble_eq_true rfl), (Nat.le_of_ble_eq_true rfl)⟩ (Nat.le_of_ble_eq_true rfl) (fun r9 h9 p9 => ?_)
    obtain ⟨t163, v163, rfl, rfl, hx163, hk163, tx163⟩ := ty_ok tx156 (by decide) p9
    show V 166 [some (.inr (some 0)), some (.inl 0)] [.inl v163] (WW t163) 0 0
    refine rb_pop hV dL_word_166 ?_
    refine rb_aload_n hV dL_word_167 rfl rfl ?_
    refine rb_bipush hV dL_word_168 (by decide) ?_
    refine rb_callV hV (rest := []) dL_word_170 (c_X9_type t163 101 (by decide) hx163) lk_L_29 rfl (Or.inl ⟨8, _, TX9, 8, gw_0 _, rfl⟩) rfl ⟨rfl, rfl, (Nat.le_of_ble_eq_true rfl), (Nat.le_of_ble_eq_true rfl), (Nat.le_of_ble_eq_true rfl), (Nat.le_of_ble_eq_true rfl)⟩ (Nat.le_of_ble_eq_true rfl) (fun r9 h9 p9 => ?_)
    obtain ⟨t170, v170, rfl, rfl, hx170, hk170, tx170⟩ := ty_ok tx163 (by decide) p9
    show V 173 [some (.inr (some 0)), some (.inl 0)] [.inl v170] (WW t170) 0 0
    refine rb_pop hV dL_word_173 ?_
    refine rb_goto hV (tgt := 199) dL_word_174 (by decide) ?_
    refine rb_ret hV (r := none) dL_word_199 rfl ⟨(Nat.le_of_ble_eq_true rfl), (Nat.le_of_ble_eq_true rfl)⟩ trivial ?_
    exact ⟨rfl, t170, rfl, hx170, (KEEP_trans (KEEP_trans (KEEP_trans (KEEP_trans (KEEP_trans (KEEP_trans (KEEP_trans (fun k hk => ab_s_ne (fun q => hk (by rw [q]; decide))) hk37) hk73) hk109) hk145) hk156) hk163) hk170), tx170⟩
  · refine rb_aload_n hV dL_word_5 rfl rfl ?_
    refine rb_iload_n hV dL_word_6 rfl rfl ?_
    refine rb_if_ne hV (tgt := 15) dL_word_7 (by decide) (by unfold ab_r at *; omega) (fun _ => ?_) (fun z => absurd z (by decide))
    refine rb_iload_n hV dL_word_15 rfl rfl ?_
    refine rb_iconst hV dL_word_16 ?_
    refine rb_icmp_ne hV (tgt := 25) dL_word_17 (by decide) ⟨(by unfold ab_r at *; omega), (by unfold ab_r at *; omega)⟩ (fun z => absurd z (by decide)) (fun _ => ?_)
    refine rb_bipush hV dL_word_20 (by decide) ?_
    refine rb_goto hV (tgt := 37) dL_word_22 (by decide) ?_
    refine rb_callV hV (rest := []) dL_word_37 (c_X9_type (ab_s s 104 (fun _ => 0)) 104 (by decide) hxc1) lk_L_29 rfl (Or.inl ⟨8, _, TX9, 8, gw_0 _, rfl⟩) rfl ⟨rfl, rfl, (Nat.le_of_ble_eq_true rfl), (Nat.le_of_ble_eq_true rfl), (Nat.le_of_ble_eq_true rfl), (Nat.le_of_ble_eq_true rfl)⟩ (Nat.le_of_ble_eq_true rfl) (fun r9 h9 p9 => ?_)
    obtain ⟨t37, v37, rfl, rfl, hx37, hk37, tx37⟩ := ty_ok txc1 (by decide) p9
    show V 40 [some (.inr (some 0)), some (.inl 1)] [.inl v37] (WW t37) 0 0
    refine rb_pop hV dL_word_40 ?_
    refine rb_aload_n hV dL_word_41 rfl rfl ?_
    refine rb_iload_n hV dL_word_42 rfl rfl ?_
    refine rb_if_ne hV (tgt := 51) dL_word_43 (by decide) (by unfold ab_r at *; omega) (fun _ => ?_) (fun z => absurd z (by decide))
    refine rb_iload_n hV dL_word_51 rfl rfl ?_
    refine rb_iconst hV dL_word_52 ?_
    refine rb_icmp_ne hV (tgt := 61) dL_word_53 (by decide) ⟨(by unfold ab_r at *; omega), (by unfold ab_r at *; omega)⟩ (fun z => absurd z (by decide)) (fun _ => ?_)
    refine rb_bipush hV dL_word_56 (by decide) ?_
    refine rb_goto hV (tgt := 73) dL_word_58 (by decide) ?_
    refine rb_callV hV (rest := []) dL_word_73 (c_X9_type t37 97 (by decide) hx37) lk_L_29 rfl (Or.inl ⟨8, _, TX9, 8, gw_0 _, rfl⟩) rfl ⟨rfl, rfl, (Nat.le_of_ble_eq_true rfl), (Nat.le_of_ble_eq_true rfl), (Nat.le_of_ble_eq_true rfl), (Nat.le_of_ble_eq_true rfl)⟩ (Nat.le_of_ble_eq_true rfl) (fun r9 h9 p9 => ?_)
    obtain ⟨t73, v73, rfl, rfl, hx73, hk73, tx73⟩ := ty_ok tx37 (by decide) p9
    show V 76 [some (.inr (some 0)), some (.inl 1)] [.inl v73] (WW t73) 0 0
    refine rb_pop hV dL_word_76 ?_
    refine rb_aload_n hV dL_word_77 rfl rfl ?_
    refine rb_iload_n hV dL_word_78 rfl rfl ?_
    refine rb_if_ne hV (tgt := 87) dL_word_79 (by decide) (by unfold ab_r at *; omega) (fun _ => ?_) (fun z => absurd z (by decide))
    refine rb_iload_n hV dL_word_87 rfl rfl ?_
    refine rb_iconst hV dL_word_88 ?_
    refine rb_icmp_ne hV (tgt := 97) dL_word_89 (by decide) ⟨(by unfold ab_r at *; omega), (by unfold ab_r at *; omega)⟩ (fun z => absurd z (by decide)) (fun _ => ?_)
    refine rb_bipush hV dL_word_92 (by decide) ?_
    refine rb_goto hV (tgt := 109) dL_word_94 (by decide) ?_
    refine rb_callV hV (rest := []) dL_word_109 (c_X9_type t73 110 (by decide) hx73) lk_L_29 rfl (Or.inl ⟨8, _, TX9, 8, gw_0 _, rfl⟩) rfl ⟨rfl, rfl, (Nat.le_of_ble_eq_true rfl), (Nat.le_of_ble_eq_true rfl), (Nat.le_of_ble_eq_true rfl), (Nat.le_of_ble_eq_true rfl)⟩ (Nat.le_of_ble_eq_true rfl) (fun r9 h9 p9 => ?_)
    obtain ⟨t109, v109, rfl, rfl, hx109, hk109, tx109⟩ := ty_ok tx73 (by decide) p9
    show V 112 [some (.inr (some 0)), some (.inl 1)] [.inl v109] (WW t109) 0 0
    refine rb_pop hV dL_word_112 ?_
    refine rb_aload_n hV dL_word_113 rfl rfl ?_
    refine rb_iload_n hV dL_word_114 rfl rfl ?_
    refine rb_if_ne hV (tgt := 123) dL_word_115 (by decide) (by unfold ab_r at *; omega) (fun _ => ?_) (fun z => absurd z (by decide))
    refine rb_iload_n hV dL_word_123 rfl rfl ?_
    refine rb_iconst hV dL_word_124 ?_
    refine rb_icmp_ne hV (tgt := 133) dL_word_125 (by decide) ⟨(by unfold ab_r at *; omega), (by unfold ab_r at *; omega)⟩ (fun z => absurd z (by decide)) (fun _ => ?_)
    refine rb_bipush hV dL_word_128 (by decide) ?_
    refine rb_goto hV (tgt := 145) dL_word_130 (by decide) ?_
    refine rb_callV hV (rest := []) dL_word_145 (c_X9_type t109 103 (by decide) hx109) lk_L_29 rfl (Or.inl ⟨8, _, TX9, 8, gw_0 _, rfl⟩) rfl ⟨rfl, rfl, (Nat.le_of_ble_eq_true rfl), (Nat.le_of_ble_eq_true rfl), (Nat.le_of_ble_eq_true rfl), (Nat.le_of_ble_eq_true rfl)⟩ (Nat.le_of_ble_eq_true rfl) (fun r9 h9 p9 => ?_)
    obtain ⟨t145, v145, rfl, rfl, hx145, hk145, tx145⟩ := ty_ok tx109 (by decide) p9
    show V 148 [some (.inr (some 0)), some (.inl 1)] [.inl v145] (WW t145) 0 0
    refine rb_pop hV dL_word_148 ?_
    refine rb_iload_n hV dL_word_149 rfl rfl ?_
    refine rb_if_ne hV (tgt := 177) dL_word_150 (by decide) (by unfold ab_r at *; omega) (fun _ => ?_) (fun z => absurd z (by decide))
    refine rb_iload_n hV dL_word_177 rfl rfl ?_
    refine rb_iconst hV dL_word_178 ?_
    refine rb_icmp_le hV (tgt := 199) dL_word_179 (by decide) ⟨(by unfold ab_r at *; omega), (by unfold ab_r at *; omega)⟩ (fun _ => ?_) (fun z => absurd z (by decide))
    refine rb_ret hV (r := none) dL_word_199 rfl ⟨(Nat.le_of_ble_eq_true rfl), (Nat.le_of_ble_eq_true rfl)⟩ trivial ?_
    exact ⟨rfl, t145, rfl, hx145, (KEEP_trans (KEEP_trans (KEEP_trans (KEEP_trans (fun k hk => ab_s_ne (fun q => hk (by rw [q]; decide))) hk37) hk73) hk109) hk145), tx145⟩
  · refine rb_aload_n hV dL_word_5 rfl rfl ?_
    refine rb_iload_n hV dL_word_6 rfl rfl ?_
    refine rb_if_ne hV (tgt := 15) dL_word_7 (by decide) (by unfold ab_r at *; omega) (fun _ => ?_) (fun z => absurd z (by decide))
    refine rb_iload_n hV dL_word_15 rfl rfl ?_
    refine rb_iconst hV dL_word_16 ?_
    refine rb_icmp_ne hV (tgt := 25) dL_word_17 (by decide) ⟨(by unfold ab_r at *; omega), (by unfold ab_r at *; omega)⟩ (fun _ => ?_) (fun z => absurd z (by decide))
    refine rb_iload_n hV dL_word_25 rfl rfl ?_
    refine rb_iconst hV dL_word_26 ?_
    refine rb_icmp_ne hV (tgt := 35) dL_word_27 (by decide) ⟨(by unfold ab_r at *; omega), (by unfold ab_r at *; omega)⟩ (fun z => absurd z (by decide)) (fun _ => ?_)
    refine rb_bipush hV dL_word_30 (by decide) ?_
    refine rb_goto hV (tgt := 37) dL_word_32 (by decide) ?_
    refine rb_callV hV (rest := []) dL_word_37 (c_X9_type (ab_s s 104 (fun _ => 0)) 114 (by decide) hxc1) lk_L_29 rfl (Or.inl ⟨8, _, TX9, 8, gw_0 _, rfl⟩) rfl ⟨rfl, rfl, (Nat.le_of_ble_eq_true rfl), (Nat.le_of_ble_eq_true rfl), (Nat.le_of_ble_eq_true rfl), (Nat.le_of_ble_eq_true rfl)⟩ (Nat.le_of_ble_eq_true rfl) (fun r9 h9 p9 => ?_)
    obtain ⟨t37, v37, rfl, rfl, hx37, hk37, tx37⟩ := ty_ok txc1 (by decide) p9
    show V 40 [some (.inr (some 0)), some (.inl 2)] [.inl v37] (WW t37) 0 0
    refine rb_pop hV dL_word_40 ?_
    refine rb_aload_n hV dL_word_41 rfl rfl ?_
    refine rb_iload_n hV dL_word_42 rfl rfl ?_
    refine rb_if_ne hV (tgt := 51) dL_word_43 (by decide) (by unfold ab_r at *; omega) (fun _ => ?_) (fun z => absurd z (by decide))
    refine rb_iload_n hV dL_word_51 rfl rfl ?_
    refine rb_iconst hV dL_word_52 ?_
    refine rb_icmp_ne hV (tgt := 61) dL_word_53 (by decide) ⟨(by unfold ab_r at *; omega), (by unfold ab_r at *; omega)⟩ (fun _ => ?_) (fun z => absurd z (by decide))
    refine rb_iload_n hV dL_word_61 rfl rfl ?_
    refine rb_iconst hV dL_word_62 ?_
    refine rb_icmp_ne hV (tgt := 71) dL_word_63 (by decide) ⟨(by unfold ab_r at *; omega), (by unfold ab_r at *; omega)⟩ (fun z => absurd z (by decide)) (fun _ => ?_)
    refine rb_bipush hV dL_word_66 (by decide) ?_
    refine rb_goto hV (tgt := 73) dL_word_68 (by decide) ?_
    refine rb_callV hV (rest := []) dL_word_73 (c_X9_type t37 105 (by decide) hx37) lk_L_29 rfl (Or.inl ⟨8, _, TX9, 8, gw_0 _, rfl⟩) rfl ⟨rfl, rfl, (Nat.le_of_ble_eq_true rfl), (Nat.le_of_ble_eq_true rfl), (Nat.le_of_ble_eq_true rfl), (Nat.le_of_ble_eq_true rfl)⟩ (Nat.le_of_ble_eq_true rfl) (fun r9 h9 p9 => ?_)
    obtain ⟨t73, v73, rfl, rfl, hx73, hk73, tx73⟩ := ty_ok tx37 (by decide) p9
    show V 76 [some (.inr (some 0)), some (.inl 2)] [.inl v73] (WW t73) 0 0
    refine rb_pop hV dL_word_76 ?_
    refine rb_aload_n hV dL_word_77 rfl rfl ?_
    refine rb_iload_n hV dL_word_78 rfl rfl ?_
    refine rb_if_ne hV (tgt := 87) dL_word_79 (by decide) (by unfold ab_r at *; omega) (fun _ => ?_) (fun z => absurd z (by decide))
    refine rb_iload_n hV dL_word_87 rfl rfl ?_
    refine rb_iconst hV dL_word_88 ?_
    refine rb_icmp_ne hV (tgt := 97) dL_word_89 (by decide) ⟨(by unfold ab_r at *; omega), (by unfold ab_r at *; omega)⟩ (fun _ => ?_) (fun z => absurd z (by decide))
    refine rb_iload_n hV dL_word_97 rfl rfl ?_
    refine rb_iconst hV dL_word_98 ?_
    refine rb_icmp_ne hV (tgt := 107) dL_word_99 (by decide) ⟨(by unfold ab_r at *; omega), (by unfold ab_r at *; omega)⟩ (fun z => absurd z (by decide)) (fun _ => ?_)
    refine rb_bipush hV dL_word_102 (by decide) ?_
    refine rb_goto hV (tgt := 109) dL_word_104 (by decide) ?_
    refine rb_callV hV (rest := []) dL_word_109 (c_X9_type t73 118 (by decide) hx73) lk_L_29 rfl (Or.inl ⟨8, _, TX9, 8, gw_0 _, rfl⟩) rfl ⟨rfl, rfl, (Nat.le_of_ble_eq_true rfl), (Nat.le_of_ble_eq_true rfl), (Nat.le_of_ble_eq_true rfl), (Nat.le_of_ble_eq_true rfl)⟩ (Nat.le_of_ble_eq_true rfl) (fun r9 h9 p9 => ?_)
    obtain ⟨t109, v109, rfl, rfl, hx109, hk109, tx109⟩ := ty_ok tx73 (by decide) p9
    show V 112 [some (.inr (some 0)), some (.inl 2)] [.inl v109] (WW t109) 0 0
    refine rb_pop hV dL_word_112 ?_
    refine rb_aload_n hV dL_word_113 rfl rfl ?_
    refine rb_iload_n hV dL_word_114 rfl rfl ?_
    refine rb_if_ne hV (tgt := 123) dL_word_115 (by decide) (by unfold ab_r at *; omega) (fun _ => ?_) (fun z => absurd z (by decide))
    refine rb_iload_n hV dL_word_123 rfl rfl ?_
    refine rb_iconst hV dL_word_124 ?_
    refine rb_icmp_ne hV (tgt := 133) dL_word_125 (by decide) ⟨(by unfold ab_r at *; omega), (by unfold ab_r at *; omega)⟩ (fun _ => ?_) (fun z => absurd z (by decide))
    refine rb_iload_n hV dL_word_133 rfl rfl ?_
    refine rb_iconst hV dL_word_134 ?_
    refine rb_icmp_ne hV (tgt := 143) dL_word_135 (by decide) ⟨(by unfold ab_r at *; omega), (by unfold ab_r at *; omega)⟩ (fun z => absurd z (by decide)) (fun _ => ?_)
    refine rb_bipush hV dL_word_138 (by decide) ?_
    refine rb_goto hV (tgt := 145) dL_word_140 (by decide) ?_
    refine rb_callV hV (rest := []) dL_word_145 (c_X9_type t109 101 (by decide) hx109) lk_L_29 rfl (Or.inl ⟨8, _, TX9, 8, gw_0 _, rfl⟩) rfl ⟨rfl, rfl, (Nat.le_of_ble_eq_true rfl), (Nat.le_of_ble_eq_true rfl), (Nat.le_of_ble_eq_true rfl), (Nat.le_of_ble_eq_true rfl)⟩ (Nat.le_of_ble_eq_true rfl) (fun r9 h9 p9 => ?_)
    obtain ⟨t145, v145, rfl, rfl, hx145, hk145, tx145⟩ := ty_ok tx109 (by decide) p9
    show V 148 [some (.inr (some 0)), some (.inl 2)] [.inl v145] (WW t145) 0 0
    refine rb_pop hV dL_word_148 ?_
    refine rb_iload_n hV dL_word_149 rfl rfl ?_
    refine rb_if_ne hV (tgt := 177) dL_word_150 (by decide) (by unfold ab_r at *; omega) (fun _ => ?_) (fun z => absurd z (by decide))
    refine rb_iload_n hV dL_word_177 rfl rfl ?_
    refine rb_iconst hV dL_word_178 ?_
    refine rb_icmp_le hV (tgt := 199) dL_word_179 (by decide) ⟨(by unfold ab_r at *; omega), (by unfold ab_r at *; omega)⟩ (fun z => absurd z (by decide)) (fun _ => ?_)
    refine rb_aload_n hV dL_word_182 rfl rfl ?_
    refine rb_iload_n hV dL_word_183 rfl rfl ?_
    refine rb_iconst hV dL_word_184 ?_
    refine rb_icmp_ne hV (tgt := 193) dL_word_185 (by decide) ⟨(by unfold ab_r at *; omega), (by unfold ab_r at *; omega)⟩ (fun z => absurd z (by decide)) (fun _ => ?_)
    refine rb_bipush hV dL_word_188 (by decide) ?_
    refine rb_goto hV (tgt := 195) dL_word_190 (by decide) ?_
    refine rb_callV hV (rest := []) dL_word_195 (c_X9_type t145 114 (by decide) hx145) lk_L_29 rfl (Or.inl ⟨8, _, TX9, 8, gw_0 _, rfl⟩) rfl ⟨rfl, rfl, (Nat.le_of_ble_eq_true rfl), (Nat.le_of_ble_eq_true rfl), (Nat.le_of_ble_eq_true rfl), (Nat.le_of_ble_eq_true rfl)⟩ (Nat.le_of_ble_eq_true rfl) (fun r9 h9 p9 => ?_)
    obtain ⟨t195, v195, rfl, rfl, hx195, hk195, tx195⟩ := ty_ok tx145 (by decide) p9
    show V 198 [some (.inr (some 0)), some (.inl 2)] [.inl v195] (WW t195) 0 0
    refine rb_pop hV dL_word_198 ?_
    refine rb_ret hV (r := none) dL_word_199 rfl ⟨(Nat.le_of_ble_eq_true rfl), (Nat.le_of_ble_eq_true rfl)⟩ trivial ?_
    exact ⟨rfl, t195, rfl, hx195, (KEEP_trans (KEEP_trans (KEEP_trans (KEEP_trans (KEEP_trans (fun k hk => ab_s_ne (fun q => hk (by rw [q]; decide))) hk37) hk73) hk109) hk145) hk195), tx195⟩
  · refine rb_aload_n hV dL_word_5 rfl rfl ?_
    refine rb_iload_n hV dL_word_6 rfl rfl ?_
    refine rb_if_ne hV (tgt := 15) dL_word_7 (by decide) (by unfold ab_r at *; omega) (fun _ => ?_) (fun z => absurd z (by decide))
    refine rb_iload_n hV dL_word_15 rfl rfl ?_
    refine rb_iconst hV dL_word_16 ?_
    refine rb_icmp_ne hV (tgt := 25) dL_word_17 (by decide) ⟨(by unfold ab_r at *; omega), (by unfold ab_r at *; omega)⟩ (fun _ => ?_) (fun z => absurd z (by decide))
    refine rb_iload_n hV dL_word_25 rfl rfl ?_
    refine rb_iconst hV dL_word_26 ?_
    refine rb_icmp_ne hV (tgt := 35) dL_word_27 (by decide) ⟨(by unfold ab_r at *; omega), (by unfold ab_r at *; omega)⟩ (fun _ => ?_) (fun z => absurd z (by decide))
    refine rb_bipush hV dL_word_35 (by decide) ?_
    refine rb_callV hV (rest := []) dL_word_37 (c_X9_type (ab_s s 104 (fun _ => 0)) 115 (by decide) hxc1) lk_L_29 rfl (Or.inl ⟨8, _, TX9, 8, gw_0 _, rfl⟩) rfl ⟨rfl, rfl, (Nat.le_of_ble_eq_true rfl), (Nat.le_of_ble_eq_true rfl), (Nat.le_of_ble_eq_true rfl), (Nat.le_of_ble_eq_true rfl)⟩ (Nat.le_of_ble_eq_true rfl) (fun r9 h9 p9 => ?_)
    obtain ⟨t37, v37, rfl, rfl, hx37, hk37, tx37⟩ := ty_ok txc1 (by decide) p9
    show V 40 [some (.inr (some 0)), some (.inl 3)] [.inl v37] (WW t37) 0 0
    refine rb_pop hV dL_word_40 ?_
    refine rb_aload_n hV dL_word_41 rfl rfl ?_
    refine rb_iload_n hV dL_word_42 rfl rfl ?_
    refine rb_if_ne hV (tgt := 51) dL_word_43 (by decide) (by unfold ab_r at *; omega) (fun _ => ?_) (fun z => absurd z (by decide))
    refine rb_iload_n hV dL_word_51 rfl rfl ?_
    refine rb_iconst hV dL_word_52 ?_
    refine rb_icmp_ne hV (tgt := 61) dL_word_53 (by decide) ⟨(by unfold ab_r at *; omega), (by unfold ab_r at *; omega)⟩ (fun _ => ?_) (fun z => absurd z (by decide))
    refine rb_iload_n hV dL_word_61 rfl rfl ?_
    refine rb_iconst hV dL_word_62 ?_
    refine rb_icmp_ne hV (tgt := 71) dL_word_63 (by decide) ⟨(by unfold ab_r at *; omega), (by unfold ab_r at *; omega)⟩ (fun _ => ?_) (fun z => absurd z (by decide))
    refine rb_bipush hV dL_word_71 (by decide) ?_
    refine rb_callV hV (rest := []) dL_word_73 (c_X9_type t37 112 (by decide) hx37) lk_L_29 rfl (Or.inl ⟨8, _, TX9, 8, gw_0 _, rfl⟩) rfl ⟨rfl, rfl, (Nat.le_of_ble_eq_true rfl), (Nat.le_of_ble_eq_true rfl), (Nat.le_of_ble_eq_true rfl), (Nat.le_of_ble_eq_true rfl)⟩ (Nat.le_of_ble_eq_true rfl) (fun r9 h9 p9 => ?_)
    obtain ⟨t73, v73, rfl, rfl, hx73, hk73, tx73⟩ := ty_ok tx37 (by decide) p9
    show V 76 [some (.inr (some 0)), some (.inl 3)] [.inl v73] (WW t73) 0 0
    refine rb_pop hV dL_word_76 ?_
    refine rb_aload_n hV dL_word_77 rfl rfl ?_
    refine rb_iload_n hV dL_word_78 rfl rfl ?_
    refine rb_if_ne hV (tgt := 87) dL_word_79 (by decide) (by unfold ab_r at *; omega) (fun _ => ?_) (fun z => absurd z (by decide))
    refine rb_iload_n hV dL_word_87 rfl rfl ?_
    refine rb_iconst hV dL_word_88 ?_
    refine rb_icmp_ne hV (tgt := 97) dL_word_89 (by decide) ⟨(by unfold ab_r at *; omega), (by unfold ab_r at *; omega)⟩ (fun _ => ?_) (fun z => absurd z (by decide))
    refine rb_iload_n hV dL_word_97 rfl rfl ?_
    refine rb_iconst hV dL_word_98 ?_
    refine rb_icmp_ne hV (tgt := 107) dL_word_99 (by decide) ⟨(by unfold ab_r at *; omega), (by unfold ab_r at *; omega)⟩ (fun _ => ?_) (fun z => absurd z (by decide))
    refine rb_bipush hV dL_word_107 (by decide) ?_
    refine rb_callV hV (rest := []) dL_word_109 (c_X9_type t73 97 (by decide) hx73) lk_L_29 rfl (Or.inl ⟨8, _, TX9, 8, gw_0 _, rfl⟩) rfl ⟨rfl, rfl, (Nat.le_of_ble_eq_true rfl), (Nat.le_of_ble_eq_true rfl), (Nat.le_of_ble_eq_true rfl), (Nat.le_of_ble_eq_true rfl)⟩ (Nat.le_of_ble_eq_true rfl) (fun r9 h9 p9 => ?_)
    obtain ⟨t109, v109, rfl, rfl, hx109, hk109, tx109⟩ := ty_ok tx73 (by decide) p9
    show V 112 [some (.inr (some 0)), some (.inl 3)] [.inl v109] (WW t109) 0 0
    refine rb_pop hV dL_word_112 ?_
    refine rb_aload_n hV dL_word_113 rfl rfl ?_
    refine rb_iload_n hV dL_word_114 rfl rfl ?_
    refine rb_if_ne hV (tgt := 123) dL_word_115 (by decide) (by unfold ab_r at *; omega) (fun _ => ?_) (fun z => absurd z (by decide))
    refine rb_iload_n hV dL_word_123 rfl rfl ?_
    refine rb_iconst hV dL_word_124 ?_
    refine rb_icmp_ne hV (tgt := 133) dL_word_125 (by decide) ⟨(by unfold ab_r at *; omega), (by unfold ab_r at *; omega)⟩ (fun _ => ?_) (fun z => absurd z (by decide))
    refine rb_iload_n hV dL_word_133 rfl rfl ?_
    refine rb_iconst hV dL_word_134 ?_
    refine rb_icmp_ne hV (tgt := 143) dL_word_135 (by decide) ⟨(by unfold ab_r at *; omega), (by unfold ab_r at *; omega)⟩ (fun _ => ?_) (fun z => absurd z (by decide))
    refine rb_bipush hV dL_word_143 (by decide) ?_
    refine rb_callV hV (rest := []) dL_word_145 (c_X9_type t109 99 (by decide) hx109) lk_L_29 rfl (Or.inl ⟨8, _, TX9, 8, gw_0 _, rfl⟩) rfl ⟨rfl, rfl, (Nat.le_of_ble_eq_true rfl), (Nat.le_of_ble_eq_true rfl), (Nat.le_of_ble_eq_true rfl), (Nat.le_of_ble_eq_true rfl)⟩ (Nat.le_of_ble_eq_true rfl) (fun r9 h9 p9 => ?_)
    obtain ⟨t145, v145, rfl, rfl, hx145, hk145, tx145⟩ := ty_ok tx109 (by decide) p9
    show V 148 [some (.inr (some 0)), some (.inl 3)] [.inl v145] (WW t145) 0 0
    refine rb_pop hV dL_word_148 ?_
    refine rb_iload_n hV dL_word_149 rfl rfl ?_
    refine rb_if_ne hV (tgt := 177) dL_word_150 (by decide) (by unfold ab_r at *; omega) (fun _ => ?_) (fun z => absurd z (by decide))
    refine rb_iload_n hV dL_word_177 rfl rfl ?_
    refine rb_iconst hV dL_word_178 ?_
    refine rb_icmp_le hV (tgt := 199) dL_word_179 (by decide) ⟨(by unfold ab_r at *; omega), (by unfold ab_r at *; omega)⟩ (fun z => absurd z (by decide)) (fun _ => ?_)
    refine rb_aload_n hV dL_word_182 rfl rfl ?_
    refine rb_iload_n hV dL_word_183 rfl rfl ?_
    refine rb_iconst hV dL_word_184 ?_
    refine rb_icmp_ne hV (tgt := 193) dL_word_185 (by decide) ⟨(by unfold ab_r at *; omega), (by unfold ab_r at *; omega)⟩ (fun _ => ?_) (fun z => absurd z (by decide))
    refine rb_bipush hV dL_word_193 (by decide) ?_
    refine rb_callV hV (rest := []) dL_word_195 (c_X9_type t145 101 (by decide) hx145) lk_L_29 rfl (Or.inl ⟨8, _, TX9, 8, gw_0 _, rfl⟩) rfl ⟨rfl, rfl, (Nat.le_of_ble_eq_true rfl), (Nat.le_of_ble_eq_true rfl), (Nat.le_of_ble_eq_true rfl), (Nat.le_of_ble_eq_true rfl)⟩ (Nat.le_of_ble_eq_true rfl) (fun r9 h9 p9 => ?_)
    obtain ⟨t195, v195, rfl, rfl, hx195, hk195, tx195⟩ := ty_ok tx145 (by decide) p9
    show V 198 [some (.inr (some 0)), some (.inl 3)] [.inl v195] (WW t195) 0 0
    refine rb_pop hV dL_word_198 ?_
    refine rb_ret hV (r := none) dL_word_199 rfl ⟨(Nat.le_of_ble_eq_true rfl), (Nat.le_of_ble_eq_true rfl)⟩ trivial ?_
    exact ⟨rfl, t195, rfl, hx195, (KEEP_trans (KEEP_trans (KEEP_trans (KEEP_trans (KEEP_trans (fun k hk => ab_s_ne (fun q => hk (by rw [q]; decide))) hk37) hk73) hk109) hk145) hk195), tx195⟩
