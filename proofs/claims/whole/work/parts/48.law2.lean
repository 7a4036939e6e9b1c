/-! the law's walk -/
set_option maxRecDepth 20000 in
set_option maxHeartbeats 8000000 in
theorem law_body {Ln : Nat} {xs : Int → Int} (hN : Ln ≤ 2560) (hxs : ∀ j, ab_r (xs j)) (V : ab_J) (hV : ab_Cl cL_law RL 4 room_1 true 0 false (some (Ln, xs)) ret (fun r _ => r = some (.inl 1)) 65 3132 V) : V 0 [some (.inr (some 3000)), none, none, none] [] [] 0 0 := by
  have hLn : Ln < 2147483648 := by omega
  refine rb_new hV (T := TX9) (N := 8) (ty := tyX9) (ci := 8) (fs := [.inr none, .inr none, .inr none, .inr none, .inr none, .inr none, .inr none, .inr none]) (n := 0) (kc2 := 1) (ks2 := 8) (h2 := [.inr (8, [.inr none, .inr none, .inr none, .inr none, .inr none, .inr none, .inr none, .inr none])]) dL_law_0 rfl rfl tyX9_ok ln_L_7 (by decide) ⟨rfl, rfl⟩ rfl ⟨Nat.le_refl 0, by decide⟩ ⟨rfl, rfl, rfl⟩ rfl ⟨rfl, (Nat.le_of_ble_eq_true rfl)⟩ ⟨rfl, (Nat.le_of_ble_eq_true rfl)⟩ ?_
  refine rb_dup hV dL_law_3 ?_
  refine rb_callI hV (rest := [.inr (some 0)]) (kc2 := 49) (ks2 := 2196) dL_law_4 rfl (c_X9_init_0 [] rfl rfl) lk_L_9 rfl rfl ⟨rfl, rfl, (Nat.le_of_ble_eq_true rfl), (Nat.le_of_ble_eq_true rfl), (Nat.le_of_ble_eq_true rfl), (Nat.le_of_ble_eq_true rfl)⟩ ⟨rfl, rfl⟩ (Nat.le_of_ble_eq_true rfl) ⟨Nat.zero_le _, rfl, rfl⟩ (fun r9 h9 p9 => ?_)
  obtain ⟨rfl, rfl⟩ := p9
  refine rb_heap (b := WX MX0) wx_0 ?_
  show V 7 [some (.inr (some 3000)), none, none, none] [.inr (some 0)] (WX MX0) 49 2196
  refine rb_astore_n hV (L2 := [some (.inr (some 3000)), some (.inr (some 0)), none, none]) dL_law_7 rfl (Nat.le_of_ble_eq_true rfl) rfl ?_
  refine rb_new hV (T := TX10) (N := 24) (ty := tyX10) (ci := 9) (fs := [.inl 0, .inl 0, .inl 0, .inr none, .inl 0, .inr none, .inr none, .inr none, .inr none, .inr none, .inl 0, .inr none, .inl 0, .inl 0, .inl 0, .inr none, .inr none, .inl 0, .inr none, .inr none, .inr none, .inr none, .inr none, .inr none]) (n := 49) (kc2 := 50) (ks2 := 2220) (h2 := WX MX0 ++ [.inr (9, [.inl 0, .inl 0, .inl 0, .inr none, .inl 0, .inr none, .inr none, .inr none, .inr none, .inr none, .inl 0, .inr none, .inl 0, .inl 0, .inl 0, .inr none, .inr none, .inl 0, .inr none, .inr none, .inr none, .inr none, .inr none, .inr none])]) dL_law_8 rfl rfl tyX10_ok ln_L_10 (by decide) ⟨rfl, rfl⟩ rfl ⟨Nat.zero_le _, by decide⟩ ⟨wx_ok _, rfl, rfl⟩ rfl ⟨rfl, (Nat.le_of_ble_eq_true rfl)⟩ ⟨rfl, (Nat.le_of_ble_eq_true rfl)⟩ ?_
  refine rb_dup hV dL_law_11 ?_
  refine rb_callI hV (rest := [.inr (some 49)]) (kc2 := 65) (ks2 := 3132) dL_law_12 rfl (c_X10_init MX0) lk_L_12 rfl rfl ⟨rfl, rfl, (Nat.le_of_ble_eq_true rfl), (Nat.le_of_ble_eq_true rfl), (Nat.le_of_ble_eq_true rfl), (Nat.le_of_ble_eq_true rfl)⟩ ⟨rfl, rfl⟩ (Nat.le_of_ble_eq_true rfl) ⟨Nat.zero_le _, rfl, rfl⟩ (fun r9 h9 p9 => ?_)
  obtain ⟨s2, rfl, rfl, hmi, hbest, hkeep⟩ := p9
  show V 15 [some (.inr (some 3000)), some (.inr (some 0)), none, none] [.inr (some 49)] (WW s2) 65 3132
  refine rb_astore_n hV (L2 := [some (.inr (some 3000)), some (.inr (some 0)), some (.inr (some 49)), none]) dL_law_15 rfl (Nat.le_of_ble_eq_true rfl) rfl ?_
  refine rb_iconst hV dL_law_16 ?_
  refine rb_istore_n hV (L2 := [some (.inr (some 3000)), some (.inr (some 0)), some (.inr (some 49)), some (.inl 0)]) dL_law_17 rfl (Nat.le_of_ble_eq_true rfl) rfl ?_
  have h18 : ∀ (n18 : Nat) (m : Nat → Int → Int) (i : Int), (REL m) → (0 ≤ i ∧ i ≤ 2600) → ((2601 - i).toNat) < n18 → V 18 [some (.inr (some 3000)), some (.inr (some 0)), some (.inr (some 49)), some (.inl i)] [] (WW m) 65 3132 := by
    intro n18
    induction n18 with
    | zero => intro m i hrel h1 hm; omega
    | succ n18 ih18 =>
      intro m i hrel h1 hm
      refine rb_iload_n hV dL_law_18 rfl rfl ?_
      refine rb_aload_n hV dL_law_19 rfl rfl ?_
      refine rb_slen hV dL_law_20 rfl ?_
      refine rb_iconst hV dL_law_21 ?_
      refine rb_isub hV dL_law_22 ?_
      refine rb_icmp_gt hV (tgt := 646) dL_law_23 (by decide) ⟨(by unfold ab_r at *; omega), (by unfold ab_r at *; omega)⟩ (fun c23 => ?_) (fun c23 => ?_)
      · refine rb_iconst hV dL_law_646 ?_
        refine rb_ret hV (r := some (.inl 1)) dL_law_647 rfl ⟨(Nat.le_of_ble_eq_true rfl), (Nat.le_of_ble_eq_true rfl)⟩ (by first | exact Or.inl rfl | exact Or.inr rfl | omega) ?_
        exact rfl
      · refine rb_aload_n hV dL_law_26 rfl rfl ?_
        refine rb_iload_n hV dL_law_27 rfl rfl ?_
        refine rb_sld hV dL_law_28 rfl hLn (by omega) ?_
        refine rb_bipush hV dL_law_29 (by decide) ?_
        refine rb_iand hV (z := ((((ab_i (xs i)).toBitVec.toNat % 32 : Nat) : Int))) dL_law_31 (and31 _) ?_
        rcases (show ((((ab_i (xs i)).toBitVec.toNat % 32 : Nat) : Int)) = 0 ∨ ((((ab_i (xs i)).toBitVec.toNat % 32 : Nat) : Int)) = 1 ∨ ((((ab_i (xs i)).toBitVec.toNat % 32 : Nat) : Int)) = 2 ∨ ((((ab_i (xs i)).toBitVec.toNat % 32 : Nat) : Int)) = 3 ∨ ((((ab_i (xs i)).toBitVec.toNat % 32 : Nat) : Int)) = 4 ∨ ((((ab_i (xs i)).toBitVec.toNat % 32 : Nat) : Int)) = 5 ∨ ((((ab_i (xs i)).toBitVec.toNat % 32 : Nat) : Int)) = 6 ∨ ((((ab_i (xs i)).toBitVec.toNat % 32 : Nat) : Int)) = 7 ∨ ((((ab_i (xs i)).toBitVec.toNat % 32 : Nat) : Int)) = 8 ∨ ((((ab_i (xs i)).toBitVec.toNat % 32 : Nat) : Int)) = 9 ∨ ((((ab_i (xs i)).toBitVec.toNat % 32 : Nat) : Int)) = 10 ∨ ((((ab_i (xs i)).toBitVec.toNat % 32 : Nat) : Int)) = 11 ∨ ((((ab_i (xs i)).toBitVec.toNat % 32 : Nat) : Int)) = 12 ∨ ((((ab_i (xs i)).toBitVec.toNat % 32 : Nat) : Int)) = 13 ∨ ((((ab_i (xs i)).toBitVec.toNat % 32 : Nat) : Int)) = 14 ∨ ((((ab_i (xs i)).toBitVec.toNat % 32 : Nat) : Int)) = 15 ∨ ((((ab_i (xs i)).toBitVec.toNat % 32 : Nat) : Int)) = 16 ∨ ((((ab_i (xs i)).toBitVec.toNat % 32 : Nat) : Int)) = 17 ∨ ((((ab_i (xs i)).toBitVec.toNat % 32 : Nat) : Int)) = 18 ∨ ((((ab_i (xs i)).toBitVec.toNat % 32 : Nat) : Int)) = 19 ∨ (((((ab_i (xs i)).toBitVec.toNat % 32 : Nat) : Int)) < 0 ∨ 19 < ((((ab_i (xs i)).toBitVec.toNat % 32 : Nat) : Int))) by omega) with c32 | c32 | c32 | c32 | c32 | c32 | c32 | c32 | c32 | c32 | c32 | c32 | c32 | c32 | c32 | c32 | c32 | c32 | c32 | c32 | c32
        · refine rb_tabIn hV (off := 96) (tgt := 128) dL_law_32 (by unfold ab_r at *; omega) (by omega) (by omega) (by rw [c32]; rfl) (by decide) ?_
          refine rb_aload_n hV dL_law_128 rfl rfl ?_
          refine rb_aload_n hV dL_law_129 rfl rfl ?_
          refine rb_iload_n hV dL_law_130 rfl rfl ?_
          refine rb_iconst hV dL_law_131 ?_
          refine rb_iadd hV dL_law_132 ?_
          refine rb_sld hV dL_law_133 rfl hLn (by omega) ?_
          refine rb_i2c hV dL_law_134 ?_
          refine rb_callV hV (rest := []) dL_law_135 (c_X9_type m ((xs (i + 1)) % 65536) (by omega) hrel.1) lk_L_13 rfl (Or.inl ⟨8, _, TX9, 8, gw_0 _, rfl⟩) rfl ⟨rfl, rfl, (Nat.le_of_ble_eq_true rfl), (Nat.le_of_ble_eq_true rfl), (Nat.le_of_ble_eq_true rfl), (Nat.le_of_ble_eq_true rfl)⟩ (Nat.le_of_ble_eq_true rfl) (fun r9 h9 p9 => ?_)
          obtain ⟨v1, m1, rfl, rfl, hmi1, hc1⟩ := cx_type hrel p9
          show V 138 [some (.inr (some 3000)), some (.inr (some 0)), some (.inr (some 49)), some (.inl i)] [.inl v1] (WW m1) 65 3132
          refine rb_aload_n hV dL_law_138 rfl rfl ?_
          refine rb_aload_n hV dL_law_139 rfl rfl ?_
          refine rb_iload_n hV dL_law_140 rfl rfl ?_
          refine rb_iconst hV dL_law_141 ?_
          refine rb_iadd hV dL_law_142 ?_
          refine rb_sld hV dL_law_143 rfl hLn (by omega) ?_
          refine rb_i2c hV dL_law_144 ?_
          refine rb_callV hV (rest := [.inl v1]) dL_law_145 (c_X10_type m1 ((xs (i + 1)) % 65536) (by omega) hmi1) lk_L_17 rfl (Or.inl ⟨9, _, TX10, 24, gw_49 _, rfl⟩) rfl ⟨rfl, rfl, (Nat.le_of_ble_eq_true rfl), (Nat.le_of_ble_eq_true rfl), (Nat.le_of_ble_eq_true rfl), (Nat.le_of_ble_eq_true rfl)⟩ (Nat.le_of_ble_eq_true rfl) (fun r9 h9 p9 => ?_)
          obtain ⟨t1, rfl, rfl, hrel2⟩ := cy_type hrel hc1 p9
          show V 148 [some (.inr (some 3000)), some (.inr (some 0)), some (.inr (some 49)), some (.inl i)] [.inl v1, .inl v1] (WW t1) 65 3132
          refine rb_icmp_same hV (tgt := 640) dL_law_148 (by decide) rfl ?_
          refine rb_iinc hV (L2 := [some (.inr (some 3000)), some (.inr (some 0)), some (.inr (some 49)), some (.inl (i + 5))]) dL_law_640 rfl rfl rfl ?_
          refine rb_goto hV (tgt := 18) dL_law_643 (by decide) ?_
          refine ih18 t1 (i + 5) ?_ ?_ ?_
          · exact hrel2
          · omega
          · omega
        · refine rb_tabIn hV (off := 121) (tgt := 153) dL_law_32 (by unfold ab_r at *; omega) (by omega) (by omega) (by rw [c32]; rfl) (by decide) ?_
          refine rb_aload_n hV dL_law_153 rfl rfl ?_
          refine rb_callV hV (rest := []) dL_law_154 (c_X9_clearText m  hrel.1) lk_L_18 rfl (Or.inl ⟨8, _, TX9, 8, gw_0 _, rfl⟩) rfl ⟨rfl, rfl, (Nat.le_of_ble_eq_true rfl), (Nat.le_of_ble_eq_true rfl), (Nat.le_of_ble_eq_true rfl), (Nat.le_of_ble_eq_true rfl)⟩ (Nat.le_of_ble_eq_true rfl) (fun r9 h9 p9 => ?_)
          obtain ⟨v1, m1, rfl, rfl, hmi1, hc1⟩ := cx_clearText hrel p9
          show V 157 [some (.inr (some 3000)), some (.inr (some 0)), some (.inr (some 49)), some (.inl i)] [.inl v1] (WW m1) 65 3132
          refine rb_aload_n hV dL_law_157 rfl rfl ?_
          refine rb_callV hV (rest := [.inl v1]) dL_law_158 (c_X10_clearText m1  hmi1) lk_L_22 rfl (Or.inl ⟨9, _, TX10, 24, gw_49 _, rfl⟩) rfl ⟨rfl, rfl, (Nat.le_of_ble_eq_true rfl), (Nat.le_of_ble_eq_true rfl), (Nat.le_of_ble_eq_true rfl), (Nat.le_of_ble_eq_true rfl)⟩ (Nat.le_of_ble_eq_true rfl) (fun r9 h9 p9 => ?_)
          obtain ⟨t1, rfl, rfl, hrel2⟩ := cy_clearText hrel hc1 p9
          show V 161 [some (.inr (some 3000)), some (.inr (some 0)), some (.inr (some 49)), some (.inl i)] [.inl v1, .inl v1] (WW t1) 65 3132
          refine rb_icmp_same hV (tgt := 640) dL_law_161 (by decide) rfl ?_
          refine rb_iinc hV (L2 := [some (.inr (some 3000)), some (.inr (some 0)), some (.inr (some 49)), some (.inl (i + 5))]) dL_law_640 rfl rfl rfl ?_
          refine rb_goto hV (tgt := 18) dL_law_643 (by decide) ?_
          refine ih18 t1 (i + 5) ?_ ?_ ?_
          · exact hrel2
          · omega
          · omega
        · refine rb_tabIn hV (off := 134) (tgt := 166) dL_law_32 (by unfold ab_r at *; omega) (by omega) (by omega) (by rw [c32]; rfl) (by decide) ?_
          refine rb_aload_n hV dL_law_166 rfl rfl ?_
          refine rb_callV hV (rest := []) dL_law_167 (c_X9_readParagraph m  hrel.1) lk_L_23 rfl (Or.inl ⟨8, _, TX9, 8, gw_0 _, rfl⟩) rfl ⟨rfl, rfl, (Nat.le_of_ble_eq_true rfl), (Nat.le_of_ble_eq_true rfl), (Nat.le_of_ble_eq_true rfl), (Nat.le_of_ble_eq_true rfl)⟩ (Nat.le_of_ble_eq_true rfl) (fun r9 h9 p9 => ?_)
          obtain ⟨v1, m1, rfl, rfl, hmi1, hc1⟩ := cx_readParagraph hrel p9
          show V 170 [some (.inr (some 3000)), some (.inr (some 0)), some (.inr (some 49)), some (.inl i)] [.inl v1] (WW m1) 65 3132
          refine rb_aload_n hV dL_law_170 rfl rfl ?_
          refine rb_callV hV (rest := [.inl v1]) dL_law_171 (c_X10_readParagraph m1  hmi1) lk_L_26 rfl (Or.inl ⟨9, _, TX10, 24, gw_49 _, rfl⟩) rfl ⟨rfl, rfl, (Nat.le_of_ble_eq_true rfl), (Nat.le_of_ble_eq_true rfl), (Nat.le_of_ble_eq_true rfl), (Nat.le_of_ble_eq_true rfl)⟩ (Nat.le_of_ble_eq_true rfl) (fun r9 h9 p9 => ?_)
          obtain ⟨t1, rfl, rfl, hrel2⟩ := cy_readParagraph hrel hc1 p9
          show V 174 [some (.inr (some 3000)), some (.inr (some 0)), some (.inr (some 49)), some (.inl i)] [.inl v1, .inl v1] (WW t1) 65 3132
          refine rb_icmp_same hV (tgt := 640) dL_law_174 (by decide) rfl ?_
          refine rb_iinc hV (L2 := [some (.inr (some 3000)), some (.inr (some 0)), some (.inr (some 49)), some (.inl (i + 5))]) dL_law_640 rfl rfl rfl ?_
          refine rb_goto hV (tgt := 18) dL_law_643 (by decide) ?_
          refine ih18 t1 (i + 5) ?_ ?_ ?_
          · exact hrel2
          · omega
          · omega
        · refine rb_tabIn hV (off := 147) (tgt := 179) dL_law_32 (by unfold ab_r at *; omega) (by omega) (by omega) (by rw [c32]; rfl) (by decide) ?_
          refine rb_aload_n hV dL_law_179 rfl rfl ?_
          refine rb_callV hV (rest := []) dL_law_180 (c_X9_command m  hrel.1) lk_L_27 rfl (Or.inl ⟨8, _, TX9, 8, gw_0 _, rfl⟩) rfl ⟨rfl, rfl, (Nat.le_of_ble_eq_true rfl), (Nat.le_of_ble_eq_true rfl), (Nat.le_of_ble_eq_true rfl), (Nat.le_of_ble_eq_true rfl)⟩ (Nat.le_of_ble_eq_true rfl) (fun r9 h9 p9 => ?_)
          obtain ⟨v1, m1, rfl, rfl, hmi1, hc1⟩ := cx_command hrel p9
          show V 183 [some (.inr (some 3000)), some (.inr (some 0)), some (.inr (some 49)), some (.inl i)] [.inl v1] (WW m1) 65 3132
          refine rb_aload_n hV dL_law_183 rfl rfl ?_
          refine rb_callV hV (rest := [.inl v1]) dL_law_184 (c_X10_command m1 (m 105 0) (m 106 0) (m 24)  hmi1) lk_L_30 rfl (Or.inl ⟨9, _, TX10, 24, gw_49 _, rfl⟩) rfl ⟨rfl, rfl, (Nat.le_of_ble_eq_true rfl), (Nat.le_of_ble_eq_true rfl), (Nat.le_of_ble_eq_true rfl), (Nat.le_of_ble_eq_true rfl)⟩ (Nat.le_of_ble_eq_true rfl) (fun r9 h9 p9 => ?_)
          obtain ⟨t1, rfl, rfl, hrel2⟩ := cy_command hrel hc1 p9
          show V 187 [some (.inr (some 3000)), some (.inr (some 0)), some (.inr (some 49)), some (.inl i)] [.inl v1, .inl v1] (WW t1) 65 3132
          refine rb_icmp_same hV (tgt := 640) dL_law_187 (by decide) rfl ?_
          refine rb_iinc hV (L2 := [some (.inr (some 3000)), some (.inr (some 0)), some (.inr (some 49)), some (.inl (i + 5))]) dL_law_640 rfl rfl rfl ?_
          refine rb_goto hV (tgt := 18) dL_law_643 (by decide) ?_
          refine ih18 t1 (i + 5) ?_ ?_ ?_
          · exact hrel2
          · omega
          · omega
        · refine rb_tabIn hV (off := 160) (tgt := 192) dL_law_32 (by unfold ab_r at *; omega) (by omega) (by omega) (by rw [c32]; rfl) (by decide) ?_
          refine rb_aload_n hV dL_law_192 rfl rfl ?_
          refine rb_aload_n hV dL_law_193 rfl rfl ?_
          refine rb_iload_n hV dL_law_194 rfl rfl ?_
          refine rb_iconst hV dL_law_195 ?_
          refine rb_iadd hV dL_law_196 ?_
          refine rb_sld hV dL_law_197 rfl hLn (by omega) ?_
          refine rb_callV hV (rest := []) dL_law_198 (c_X9_setMeasure m (xs (i + 1)) (hxs _) hrel.1) lk_L_31 rfl (Or.inl ⟨8, _, TX9, 8, gw_0 _, rfl⟩) rfl ⟨rfl, rfl, (Nat.le_of_ble_eq_true rfl), (Nat.le_of_ble_eq_true rfl), (Nat.le_of_ble_eq_true rfl), (Nat.le_of_ble_eq_true rfl)⟩ (Nat.le_of_ble_eq_true rfl) (fun r9 h9 p9 => ?_)
          obtain ⟨v1, m1, rfl, rfl, hmi1, hc1⟩ := cx_setMeasure hrel p9
          show V 201 [some (.inr (some 3000)), some (.inr (some 0)), some (.inr (some 49)), some (.inl i)] [.inl v1] (WW m1) 65 3132
          refine rb_aload_n hV dL_law_201 rfl rfl ?_
          refine rb_aload_n hV dL_law_202 rfl rfl ?_
          refine rb_iload_n hV dL_law_203 rfl rfl ?_
          refine rb_iconst hV dL_law_204 ?_
          refine rb_iadd hV dL_law_205 ?_
          refine rb_sld hV dL_law_206 rfl hLn (by omega) ?_
          refine rb_callV hV (rest := [.inl v1]) dL_law_207 (c_X10_setMeasure m1 (xs (i + 1)) (hxs _) hmi1) lk_L_35 rfl (Or.inl ⟨9, _, TX10, 24, gw_49 _, rfl⟩) rfl ⟨rfl, rfl, (Nat.le_of_ble_eq_true rfl), (Nat.le_of_ble_eq_true rfl), (Nat.le_of_ble_eq_true rfl), (Nat.le_of_ble_eq_true rfl)⟩ (Nat.le_of_ble_eq_true rfl) (fun r9 h9 p9 => ?_)
          obtain ⟨t1, rfl, rfl, hrel2⟩ := cy_setMeasure hrel hc1 p9
          show V 210 [some (.inr (some 3000)), some (.inr (some 0)), some (.inr (some 49)), some (.inl i)] [.inl v1, .inl v1] (WW t1) 65 3132
          refine rb_icmp_same hV (tgt := 640) dL_law_210 (by decide) rfl ?_
          refine rb_iinc hV (L2 := [some (.inr (some 3000)), some (.inr (some 0)), some (.inr (some 49)), some (.inl (i + 5))]) dL_law_640 rfl rfl rfl ?_
          refine rb_goto hV (tgt := 18) dL_law_643 (by decide) ?_
          refine ih18 t1 (i + 5) ?_ ?_ ?_
          · exact hrel2
          · omega
          · omega
        · refine rb_tabIn hV (off := 183) (tgt := 215) dL_law_32 (by unfold ab_r at *; omega) (by omega) (by omega) (by rw [c32]; rfl) (by decide) ?_
          refine rb_aload_n hV dL_law_215 rfl rfl ?_
          refine rb_aload_n hV dL_law_216 rfl rfl ?_
          refine rb_iload_n hV dL_law_217 rfl rfl ?_
          refine rb_iconst hV dL_law_218 ?_
          refine rb_iadd hV dL_law_219 ?_
          refine rb_sld hV dL_law_220 rfl hLn (by omega) ?_
          refine rb_callV hV (rest := []) dL_law_221 (c_X9_setHang m (xs (i + 1)) (hxs _) hrel.1) lk_L_36 rfl (Or.inl ⟨8, _, TX9, 8, gw_0 _, rfl⟩) rfl ⟨rfl, rfl, (Nat.le_of_ble_eq_true rfl), (Nat.le_of_ble_eq_true rfl), (Nat.le_of_ble_eq_true rfl), (Nat.le_of_ble_eq_true rfl)⟩ (Nat.le_of_ble_eq_true rfl) (fun r9 h9 p9 => ?_)
          obtain ⟨v1, m1, rfl, rfl, hmi1, hc1⟩ := cx_setHang hrel p9
          show V 224 [some (.inr (some 3000)), some (.inr (some 0)), some (.inr (some 49)), some (.inl i)] [.inl v1] (WW m1) 65 3132
          refine rb_aload_n hV dL_law_224 rfl rfl ?_
          refine rb_aload_n hV dL_law_225 rfl rfl ?_
          refine rb_iload_n hV dL_law_226 rfl rfl ?_
          refine rb_iconst hV dL_law_227 ?_
          refine rb_iadd hV dL_law_228 ?_
          refine rb_sld hV dL_law_229 rfl hLn (by omega) ?_
          refine rb_callV hV (rest := [.inl v1]) dL_law_230 (c_X10_setHang m1 (xs (i + 1)) (hxs _) hmi1) lk_L_39 rfl (Or.inl ⟨9, _, TX10, 24, gw_49 _, rfl⟩) rfl ⟨rfl, rfl, (Nat.le_of_ble_eq_true rfl), (Nat.le_of_ble_eq_true rfl), (Nat.le_of_ble_eq_true rfl), (Nat.le_of_ble_eq_true rfl)⟩ (Nat.le_of_ble_eq_true rfl) (fun r9 h9 p9 => ?_)
          obtain ⟨t1, rfl, rfl, hrel2⟩ := cy_setHang hrel hc1 p9
          show V 233 [some (.inr (some 3000)), some (.inr (some 0)), some (.inr (some 49)), some (.inl i)] [.inl v1, .inl v1] (WW t1) 65 3132
          refine rb_icmp_same hV (tgt := 640) dL_law_233 (by decide) rfl ?_
          refine rb_iinc hV (L2 := [some (.inr (some 3000)), some (.inr (some 0)), some (.inr (some 49)), some (.inl (i + 5))]) dL_law_640 rfl rfl rfl ?_
          refine rb_goto hV (tgt := 18) dL_law_643 (by decide) ?_
          refine ih18 t1 (i + 5) ?_ ?_ ?_
          · exact hrel2
          · omega
          · omega
        · refine rb_tabIn hV (off := 206) (tgt := 238) dL_law_32 (by unfold ab_r at *; omega) (by omega) (by omega) (by rw [c32]; rfl) (by decide) ?_
          refine rb_aload_n hV dL_law_238 rfl rfl ?_
          refine rb_aload_n hV dL_law_239 rfl rfl ?_
          refine rb_iload_n hV dL_law_240 rfl rfl ?_
          refine rb_iconst hV dL_law_241 ?_
          refine rb_iadd hV dL_law_242 ?_
          refine rb_sld hV dL_law_243 rfl hLn (by omega) ?_
          refine rb_callV hV (rest := []) dL_law_244 (c_X9_setTolerance m (xs (i + 1)) (hxs _) hrel.1) lk_L_40 rfl (Or.inl ⟨8, _, TX9, 8, gw_0 _, rfl⟩) rfl ⟨rfl, rfl, (Nat.le_of_ble_eq_true rfl), (Nat.le_of_ble_eq_true rfl), (Nat.le_of_ble_eq_true rfl), (Nat.le_of_ble_eq_true rfl)⟩ (Nat.le_of_ble_eq_true rfl) (fun r9 h9 p9 => ?_)
          obtain ⟨v1, m1, rfl, rfl, hmi1, hc1⟩ := cx_setTolerance hrel p9
          show V 247 [some (.inr (some 3000)), some (.inr (some 0)), some (.inr (some 49)), some (.inl i)] [.inl v1] (WW m1) 65 3132
          refine rb_aload_n hV dL_law_247 rfl rfl ?_
          refine rb_aload_n hV dL_law_248 rfl rfl ?_
          refine rb_iload_n hV dL_law_249 rfl rfl ?_
          refine rb_iconst hV dL_law_250 ?_
          refine rb_iadd hV dL_law_251 ?_
          refine rb_sld hV dL_law_252 rfl hLn (by omega) ?_
          refine rb_callV hV (rest := [.inl v1]) dL_law_253 (c_X10_setTolerance m1 (xs (i + 1)) (hxs _) hmi1) lk_L_43 rfl (Or.inl ⟨9, _, TX10, 24, gw_49 _, rfl⟩) rfl ⟨rfl, rfl, (Nat.le_of_ble_eq_true rfl), (Nat.le_of_ble_eq_true rfl), (Nat.le_of_ble_eq_true rfl), (Nat.le_of_ble_eq_true rfl)⟩ (Nat.le_of_ble_eq_true rfl) (fun r9 h9 p9 => ?_)
          obtain ⟨t1, rfl, rfl, hrel2⟩ := cy_setTolerance hrel hc1 p9
          show V 256 [some (.inr (some 3000)), some (.inr (some 0)), some (.inr (some 49)), some (.inl i)] [.inl v1, .inl v1] (WW t1) 65 3132
          refine rb_icmp_same hV (tgt := 640) dL_law_256 (by decide) rfl ?_
          refine rb_iinc hV (L2 := [some (.inr (some 3000)), some (.inr (some 0)), some (.inr (some 49)), some (.inl (i + 5))]) dL_law_640 rfl rfl rfl ?_
          refine rb_goto hV (tgt := 18) dL_law_643 (by decide) ?_
          refine ih18 t1 (i + 5) ?_ ?_ ?_
          · exact hrel2
          · omega
          · omega
        · refine rb_tabIn hV (off := 229) (tgt := 261) dL_law_32 (by unfold ab_r at *; omega) (by omega) (by omega) (by rw [c32]; rfl) (by decide) ?_
          refine rb_aload_n hV dL_law_261 rfl rfl ?_
          refine rb_aload_n hV dL_law_262 rfl rfl ?_
          refine rb_iload_n hV dL_law_263 rfl rfl ?_
          refine rb_iconst hV dL_law_264 ?_
          refine rb_iadd hV dL_law_265 ?_
          refine rb_sld hV dL_law_266 rfl hLn (by omega) ?_
          refine rb_aload_n hV dL_law_267 rfl rfl ?_
          refine rb_iload_n hV dL_law_268 rfl rfl ?_
          refine rb_iconst hV dL_law_269 ?_
          refine rb_iadd hV dL_law_270 ?_
          refine rb_sld hV dL_law_271 rfl hLn (by omega) ?_
          refine rb_aload_n hV dL_law_272 rfl rfl ?_
          refine rb_iload_n hV dL_law_273 rfl rfl ?_
          refine rb_iconst hV dL_law_274 ?_
          refine rb_iadd hV dL_law_275 ?_
          refine rb_sld hV dL_law_276 rfl hLn (by omega) ?_
          refine rb_aload_n hV dL_law_277 rfl rfl ?_
          refine rb_iload_n hV dL_law_278 rfl rfl ?_
          refine rb_iconst hV dL_law_279 ?_
          refine rb_iadd hV dL_law_280 ?_
          refine rb_sld hV dL_law_281 rfl hLn (by omega) ?_
          refine rb_callV hV (rest := []) dL_law_282 (c_X9_setSpace m (xs (i + 1)) (xs (i + 2)) (xs (i + 3)) (xs (i + 4)) (hxs _) (hxs _) (hxs _) (hxs _) hrel.1) lk_L_44 rfl (Or.inl ⟨8, _, TX9, 8, gw_0 _, rfl⟩) rfl ⟨rfl, rfl, (Nat.le_of_ble_eq_true rfl), (Nat.le_of_ble_eq_true rfl), (Nat.le_of_ble_eq_true rfl), (Nat.le_of_ble_eq_true rfl)⟩ (Nat.le_of_ble_eq_true rfl) (fun r9 h9 p9 => ?_)
          obtain ⟨v1, m1, rfl, rfl, hmi1, hc1⟩ := cx_setSpace hrel p9
          show V 285 [some (.inr (some 3000)), some (.inr (some 0)), some (.inr (some 49)), some (.inl i)] [.inl v1] (WW m1) 65 3132
          refine rb_aload_n hV dL_law_285 rfl rfl ?_
          refine rb_aload_n hV dL_law_286 rfl rfl ?_
          refine rb_iload_n hV dL_law_287 rfl rfl ?_
          refine rb_iconst hV dL_law_288 ?_
          refine rb_iadd hV dL_law_289 ?_
          refine rb_sld hV dL_law_290 rfl hLn (by omega) ?_
          refine rb_aload_n hV dL_law_291 rfl rfl ?_
          refine rb_iload_n hV dL_law_292 rfl rfl ?_
          refine rb_iconst hV dL_law_293 ?_
          refine rb_iadd hV dL_law_294 ?_
          refine rb_sld hV dL_law_295 rfl hLn (by omega) ?_
          refine rb_aload_n hV dL_law_296 rfl rfl ?_
          refine rb_iload_n hV dL_law_297 rfl rfl ?_
          refine rb_iconst hV dL_law_298 ?_
          refine rb_iadd hV dL_law_299 ?_
          refine rb_sld hV dL_law_300 rfl hLn (by omega) ?_
          refine rb_aload_n hV dL_law_301 rfl rfl ?_
          refine rb_iload_n hV dL_law_302 rfl rfl ?_
          refine rb_iconst hV dL_law_303 ?_
          refine rb_iadd hV dL_law_304 ?_
          refine rb_sld hV dL_law_305 rfl hLn (by omega) ?_
          refine rb_callV hV (rest := [.inl v1]) dL_law_306 (c_X10_setSpace m1 (xs (i + 1)) (xs (i + 2)) (xs (i + 3)) (xs (i + 4)) (hxs _) (hxs _) (hxs _) (hxs _) hmi1) lk_L_48 rfl (Or.inl ⟨9, _, TX10, 24, gw_49 _, rfl⟩) rfl ⟨rfl, rfl, (Nat.le_of_ble_eq_true rfl), (Nat.le_of_ble_eq_true rfl), (Nat.le_of_ble_eq_true rfl), (Nat.le_of_ble_eq_true rfl)⟩ (Nat.le_of_ble_eq_true rfl) (fun r9 h9 p9 => ?_)
          obtain ⟨t1, rfl, rfl, hrel2⟩ := cy_setSpace hrel hc1 p9
          show V 309 [some (.inr (some 3000)), some (.inr (some 0)), some (.inr (some 49)), some (.inl i)] [.inl v1, .inl v1] (WW t1) 65 3132
          refine rb_icmp_same hV (tgt := 640) dL_law_309 (by decide) rfl ?_
          refine rb_iinc hV (L2 := [some (.inr (some 3000)), some (.inr (some 0)), some (.inr (some 49)), some (.inl (i + 5))]) dL_law_640 rfl rfl rfl ?_
          refine rb_goto hV (tgt := 18) dL_law_643 (by decide) ?_
          refine ih18 t1 (i + 5) ?_ ?_ ?_
          · exact hrel2
          · omega
          · omega
        · refine rb_tabIn hV (off := 282) (tgt := 314) dL_law_32 (by unfold ab_r at *; omega) (by omega) (by omega) (by rw [c32]; rfl) (by decide) ?_
          refine rb_aload_n hV dL_law_314 rfl rfl ?_
          refine rb_callV hV (rest := []) dL_law_315 (c_X9_layBest m  hrel.1) lk_L_49 rfl (Or.inl ⟨8, _, TX9, 8, gw_0 _, rfl⟩) rfl ⟨rfl, rfl, (Nat.le_of_ble_eq_true rfl), (Nat.le_of_ble_eq_true rfl), (Nat.le_of_ble_eq_true rfl), (Nat.le_of_ble_eq_true rfl)⟩ (Nat.le_of_ble_eq_true rfl) (fun r9 h9 p9 => ?_)
          obtain ⟨v1, m1, rfl, rfl, hmi1, hc1⟩ := cx_layBest hrel p9
          show V 318 [some (.inr (some 3000)), some (.inr (some 0)), some (.inr (some 49)), some (.inl i)] [.inl v1] (WW m1) 65 3132
          refine rb_aload_n hV dL_law_318 rfl rfl ?_
          refine rb_callV hV (rest := [.inl v1]) dL_law_319 (c_X10_layBest m1  hmi1) lk_L_52 rfl (Or.inl ⟨9, _, TX10, 24, gw_49 _, rfl⟩) rfl ⟨rfl, rfl, (Nat.le_of_ble_eq_true rfl), (Nat.le_of_ble_eq_true rfl), (Nat.le_of_ble_eq_true rfl), (Nat.le_of_ble_eq_true rfl)⟩ (Nat.le_of_ble_eq_true rfl) (fun r9 h9 p9 => ?_)
          obtain ⟨t1, rfl, rfl, hrel2⟩ := cy_layBest hrel hc1 p9
          show V 322 [some (.inr (some 3000)), some (.inr (some 0)), some (.inr (some 49)), some (.inl i)] [.inl v1, .inl v1] (WW t1) 65 3132
          refine rb_icmp_same hV (tgt := 640) dL_law_322 (by decide) rfl ?_
          refine rb_iinc hV (L2 := [some (.inr (some 3000)), some (.inr (some 0)), some (.inr (some 49)), some (.inl (i + 5))]) dL_law_640 rfl rfl rfl ?_
          refine rb_goto hV (tgt := 18) dL_law_643 (by decide) ?_
          refine ih18 t1 (i + 5) ?_ ?_ ?_
          · exact hrel2
          · omega
          · omega
        · refine rb_tabIn hV (off := 295) (tgt := 327) dL_law_32 (by unfold ab_r at *; omega) (by omega) (by omega) (by rw [c32]; rfl) (by decide) ?_
          refine rb_aload_n hV dL_law_327 rfl rfl ?_
          refine rb_aload_n hV dL_law_328 rfl rfl ?_
          refine rb_iload_n hV dL_law_329 rfl rfl ?_
          refine rb_iconst hV dL_law_330 ?_
          refine rb_iadd hV dL_law_331 ?_
          refine rb_sld hV dL_law_332 rfl hLn (by omega) ?_
          refine rb_callV hV (rest := []) dL_law_333 (c_X9_takeSecond m (xs (i + 1)) (hxs _) hrel.1) lk_L_53 rfl (Or.inl ⟨8, _, TX9, 8, gw_0 _, rfl⟩) rfl ⟨rfl, rfl, (Nat.le_of_ble_eq_true rfl), (Nat.le_of_ble_eq_true rfl), (Nat.le_of_ble_eq_true rfl), (Nat.le_of_ble_eq_true rfl)⟩ (Nat.le_of_ble_eq_true rfl) (fun r9 h9 p9 => ?_)
          obtain ⟨v1, m1, rfl, rfl, hmi1, hc1⟩ := cx_takeSecond hrel p9
          show V 336 [some (.inr (some 3000)), some (.inr (some 0)), some (.inr (some 49)), some (.inl i)] [.inl v1] (WW m1) 65 3132
          refine rb_aload_n hV dL_law_336 rfl rfl ?_
          refine rb_aload_n hV dL_law_337 rfl rfl ?_
          refine rb_iload_n hV dL_law_338 rfl rfl ?_
          refine rb_iconst hV dL_law_339 ?_
          refine rb_iadd hV dL_law_340 ?_
          refine rb_sld hV dL_law_341 rfl hLn (by omega) ?_
          refine rb_callV hV (rest := [.inl v1]) dL_law_342 (c_X10_takeSecond m1 (xs (i + 1)) (hxs _) hmi1) lk_L_56 rfl (Or.inl ⟨9, _, TX10, 24, gw_49 _, rfl⟩) rfl ⟨rfl, rfl, (Nat.le_of_ble_eq_true rfl), (Nat.le_of_ble_eq_true rfl), (Nat.le_of_ble_eq_true rfl), (Nat.le_of_ble_eq_true rfl)⟩ (Nat.le_of_ble_eq_true rfl) (fun r9 h9 p9 => ?_)
          obtain ⟨t1, rfl, rfl, hrel2⟩ := cy_takeSecond hrel hc1 p9
          show V 345 [some (.inr (some 3000)), some (.inr (some 0)), some (.inr (some 49)), some (.inl i)] [.inl v1, .inl v1] (WW t1) 65 3132
          refine rb_icmp_same hV (tgt := 640) dL_law_345 (by decide) rfl ?_
          refine rb_iinc hV (L2 := [some (.inr (some 3000)), some (.inr (some 0)), some (.inr (some 49)), some (.inl (i + 5))]) dL_law_640 rfl rfl rfl ?_
          refine rb_goto hV (tgt := 18) dL_law_643 (by decide) ?_
          refine ih18 t1 (i + 5) ?_ ?_ ?_
          · exact hrel2
          · omega
          · omega
        · refine rb_tabIn hV (off := 318) (tgt := 350) dL_law_32 (by unfold ab_r at *; omega) (by omega) (by omega) (by rw [c32]; rfl) (by decide) ?_
          refine rb_aload_n hV dL_law_350 rfl rfl ?_
          refine rb_callV hV (rest := []) dL_law_351 (c_X9_breakRivers m  hrel.1) lk_L_57 rfl (Or.inl ⟨8, _, TX9, 8, gw_0 _, rfl⟩) rfl ⟨rfl, rfl, (Nat.le_of_ble_eq_true rfl), (Nat.le_of_ble_eq_true rfl), (Nat.le_of_ble_eq_true rfl), (Nat.le_of_ble_eq_true rfl)⟩ (Nat.le_of_ble_eq_true rfl) (fun r9 h9 p9 => ?_)
          obtain ⟨v1, m1, rfl, rfl, hmi1, hc1⟩ := cx_breakRivers hrel p9
          show V 354 [some (.inr (some 3000)), some (.inr (some 0)), some (.inr (some 49)), some (.inl i)] [.inl v1] (WW m1) 65 3132
          refine rb_aload_n hV dL_law_354 rfl rfl ?_
          refine rb_callV hV (rest := [.inl v1]) dL_law_355 (c_X10_breakRivers m1  hmi1) lk_L_60 rfl (Or.inl ⟨9, _, TX10, 24, gw_49 _, rfl⟩) rfl ⟨rfl, rfl, (Nat.le_of_ble_eq_true rfl), (Nat.le_of_ble_eq_true rfl), (Nat.le_of_ble_eq_true rfl), (Nat.le_of_ble_eq_true rfl)⟩ (Nat.le_of_ble_eq_true rfl) (fun r9 h9 p9 => ?_)
          obtain ⟨t1, rfl, rfl, hrel2⟩ := cy_breakRivers hrel hc1 p9
          show V 358 [some (.inr (some 3000)), some (.inr (some 0)), some (.inr (some 49)), some (.inl i)] [.inl v1, .inl v1] (WW t1) 65 3132
          refine rb_icmp_same hV (tgt := 640) dL_law_358 (by decide) rfl ?_
          refine rb_iinc hV (L2 := [some (.inr (some 3000)), some (.inr (some 0)), some (.inr (some 49)), some (.inl (i + 5))]) dL_law_640 rfl rfl rfl ?_
          refine rb_goto hV (tgt := 18) dL_law_643 (by decide) ?_
          refine ih18 t1 (i + 5) ?_ ?_ ?_
          · exact hrel2
          · omega
          · omega
        · refine rb_tabIn hV (off := 331) (tgt := 363) dL_law_32 (by unfold ab_r at *; omega) (by omega) (by omega) (by rw [c32]; rfl) (by decide) ?_
          refine rb_aload_n hV dL_law_363 rfl rfl ?_
          refine rb_aload_n hV dL_law_364 rfl rfl ?_
          refine rb_iload_n hV dL_law_365 rfl rfl ?_
          refine rb_iconst hV dL_law_366 ?_
          refine rb_iadd hV dL_law_367 ?_
          refine rb_sld hV dL_law_368 rfl hLn (by omega) ?_
          refine rb_callV hV (rest := []) dL_law_369 (c_X9_count m (xs (i + 1)) (hxs _) hrel.1) lk_L_61 rfl (Or.inl ⟨8, _, TX9, 8, gw_0 _, rfl⟩) rfl ⟨rfl, rfl, (Nat.le_of_ble_eq_true rfl), (Nat.le_of_ble_eq_true rfl), (Nat.le_of_ble_eq_true rfl), (Nat.le_of_ble_eq_true rfl)⟩ (Nat.le_of_ble_eq_true rfl) (fun r9 h9 p9 => ?_)
          obtain ⟨rfl, rfl⟩ := p9
          show V 372 [some (.inr (some 3000)), some (.inr (some 0)), some (.inr (some 49)), some (.inl i)] [.inl (xcount m (xs (i + 1)))] (WW m) 65 3132
          refine rb_aload_n hV dL_law_372 rfl rfl ?_
          refine rb_aload_n hV dL_law_373 rfl rfl ?_
          refine rb_iload_n hV dL_law_374 rfl rfl ?_
          refine rb_iconst hV dL_law_375 ?_
          refine rb_iadd hV dL_law_376 ?_
          refine rb_sld hV dL_law_377 rfl hLn (by omega) ?_
          refine rb_callV hV (rest := [.inl (xcount m (xs (i + 1)))]) dL_law_378 (c_X10_count m (xs (i + 1)) (hxs _) hrel.2.1) lk_L_64 rfl (Or.inl ⟨9, _, TX10, 24, gw_49 _, rfl⟩) rfl ⟨rfl, rfl, (Nat.le_of_ble_eq_true rfl), (Nat.le_of_ble_eq_true rfl), (Nat.le_of_ble_eq_true rfl), (Nat.le_of_ble_eq_true rfl)⟩ (Nat.le_of_ble_eq_true rfl) (fun r9 h9 p9 => ?_)
          obtain ⟨v2, rfl, rfl, hy2⟩ := p9
          show V 381 [some (.inr (some 3000)), some (.inr (some 0)), some (.inr (some 49)), some (.inl i)] [.inl v2, .inl (xcount m (xs (i + 1)))] (WW m) 65 3132
          refine rb_icmp_same hV (tgt := 640) dL_law_381 (by decide) (REL_count hrel hy2) ?_
          refine rb_iinc hV (L2 := [some (.inr (some 3000)), some (.inr (some 0)), some (.inr (some 49)), some (.inl (i + 5))]) dL_law_640 rfl rfl rfl ?_
          refine rb_goto hV (tgt := 18) dL_law_643 (by decide) ?_
          refine ih18 m (i + 5) ?_ ?_ ?_
          · exact hrel
          · omega
          · omega
        · refine rb_tabIn hV (off := 354) (tgt := 386) dL_law_32 (by unfold ab_r at *; omega) (by omega) (by omega) (by rw [c32]; rfl) (by decide) ?_
          refine rb_aload_n hV dL_law_386 rfl rfl ?_
          refine rb_aload_n hV dL_law_387 rfl rfl ?_
          refine rb_iload_n hV dL_law_388 rfl rfl ?_
          refine rb_iconst hV dL_law_389 ?_
          refine rb_iadd hV dL_law_390 ?_
          refine rb_sld hV dL_law_391 rfl hLn (by omega) ?_
          refine rb_aload_n hV dL_law_392 rfl rfl ?_
          refine rb_iload_n hV dL_law_393 rfl rfl ?_
          refine rb_iconst hV dL_law_394 ?_
          refine rb_iadd hV dL_law_395 ?_
          refine rb_sld hV dL_law_396 rfl hLn (by omega) ?_
          refine rb_callV hV (rest := []) dL_law_397 (c_X9_spaceWidth m (xs (i + 1)) (xs (i + 2)) (hxs _) (hxs _) hrel.1) lk_L_65 rfl (Or.inl ⟨8, _, TX9, 8, gw_0 _, rfl⟩) rfl ⟨rfl, rfl, (Nat.le_of_ble_eq_true rfl), (Nat.le_of_ble_eq_true rfl), (Nat.le_of_ble_eq_true rfl), (Nat.le_of_ble_eq_true rfl)⟩ (Nat.le_of_ble_eq_true rfl) (fun r9 h9 p9 => ?_)
          obtain ⟨rfl, rfl⟩ := p9
          show V 400 [some (.inr (some 3000)), some (.inr (some 0)), some (.inr (some 49)), some (.inl i)] [.inl (xspw m (xs (i + 1)) (xs (i + 2)))] (WW m) 65 3132
          refine rb_aload_n hV dL_law_400 rfl rfl ?_
          refine rb_aload_n hV dL_law_401 rfl rfl ?_
          refine rb_iload_n hV dL_law_402 rfl rfl ?_
          refine rb_iconst hV dL_law_403 ?_
          refine rb_iadd hV dL_law_404 ?_
          refine rb_sld hV dL_law_405 rfl hLn (by omega) ?_
          refine rb_aload_n hV dL_law_406 rfl rfl ?_
          refine rb_iload_n hV dL_law_407 rfl rfl ?_
          refine rb_iconst hV dL_law_408 ?_
          refine rb_iadd hV dL_law_409 ?_
          refine rb_sld hV dL_law_410 rfl hLn (by omega) ?_
          refine rb_callV hV (rest := [.inl (xspw m (xs (i + 1)) (xs (i + 2)))]) dL_law_411 (c_X10_spaceWidth m (xs (i + 1)) (xs (i + 2)) (hxs _) (hxs _)) lk_L_69 rfl (Or.inl ⟨9, _, TX10, 24, gw_49 _, rfl⟩) rfl ⟨rfl, rfl, (Nat.le_of_ble_eq_true rfl), (Nat.le_of_ble_eq_true rfl), (Nat.le_of_ble_eq_true rfl), (Nat.le_of_ble_eq_true rfl)⟩ (Nat.le_of_ble_eq_true rfl) (fun r9 h9 p9 => ?_)
          obtain ⟨rfl, rfl⟩ := p9
          show V 414 [some (.inr (some 3000)), some (.inr (some 0)), some (.inr (some 49)), some (.inl i)] [.inl (yspw m (xs (i + 1)) (xs (i + 2))), .inl (xspw m (xs (i + 1)) (xs (i + 2)))] (WW m) 65 3132
          refine rb_icmp_same hV (tgt := 640) dL_law_414 (by decide) (REL_spw hrel _ _) ?_
          refine rb_iinc hV (L2 := [some (.inr (some 3000)), some (.inr (some 0)), some (.inr (some 49)), some (.inl (i + 5))]) dL_law_640 rfl rfl rfl ?_
          refine rb_goto hV (tgt := 18) dL_law_643 (by decide) ?_
          refine ih18 m (i + 5) ?_ ?_ ?_
          · exact hrel
          · omega
          · omega
        · refine rb_tabIn hV (off := 387) (tgt := 419) dL_law_32 (by unfold ab_r at *; omega) (by omega) (by omega) (by rw [c32]; rfl) (by decide) ?_
          refine rb_aload_n hV dL_law_419 rfl rfl ?_
          refine rb_aload_n hV dL_law_420 rfl rfl ?_
          refine rb_iload_n hV dL_law_421 rfl rfl ?_
          refine rb_iconst hV dL_law_422 ?_
          refine rb_iadd hV dL_law_423 ?_
          refine rb_sld hV dL_law_424 rfl hLn (by omega) ?_
          refine rb_aload_n hV dL_law_425 rfl rfl ?_
          refine rb_iload_n hV dL_law_426 rfl rfl ?_
          refine rb_iconst hV dL_law_427 ?_
          refine rb_iadd hV dL_law_428 ?_
          refine rb_sld hV dL_law_429 rfl hLn (by omega) ?_
          refine rb_callV hV (rest := []) dL_law_430 (c_X9_word m (xs (i + 1)) (xs (i + 2)) (hxs _) (hxs _) hrel.1) lk_L_70 rfl (Or.inl ⟨8, _, TX9, 8, gw_0 _, rfl⟩) rfl ⟨rfl, rfl, (Nat.le_of_ble_eq_true rfl), (Nat.le_of_ble_eq_true rfl), (Nat.le_of_ble_eq_true rfl), (Nat.le_of_ble_eq_true rfl)⟩ (Nat.le_of_ble_eq_true rfl) (fun r9 h9 p9 => ?_)
          obtain ⟨rfl, rfl⟩ := p9
          show V 433 [some (.inr (some 3000)), some (.inr (some 0)), some (.inr (some 49)), some (.inl i)] [.inl (xword m (xs (i + 1)) (xs (i + 2)))] (WW m) 65 3132
          refine rb_aload_n hV dL_law_433 rfl rfl ?_
          refine rb_aload_n hV dL_law_434 rfl rfl ?_
          refine rb_iload_n hV dL_law_435 rfl rfl ?_
          refine rb_iconst hV dL_law_436 ?_
          refine rb_iadd hV dL_law_437 ?_
          refine rb_sld hV dL_law_438 rfl hLn (by omega) ?_
          refine rb_aload_n hV dL_law_439 rfl rfl ?_
          refine rb_iload_n hV dL_law_440 rfl rfl ?_
          refine rb_iconst hV dL_law_441 ?_
          refine rb_iadd hV dL_law_442 ?_
          refine rb_sld hV dL_law_443 rfl hLn (by omega) ?_
          refine rb_callV hV (rest := [.inl (xword m (xs (i + 1)) (xs (i + 2)))]) dL_law_444 (c_X10_word m (xs (i + 1)) (xs (i + 2)) (hxs _) (hxs _) hrel.2.1) lk_L_73 rfl (Or.inl ⟨9, _, TX10, 24, gw_49 _, rfl⟩) rfl ⟨rfl, rfl, (Nat.le_of_ble_eq_true rfl), (Nat.le_of_ble_eq_true rfl), (Nat.le_of_ble_eq_true rfl), (Nat.le_of_ble_eq_true rfl)⟩ (Nat.le_of_ble_eq_true rfl) (fun r9 h9 p9 => ?_)
          obtain ⟨rfl, rfl⟩ := p9
          show V 447 [some (.inr (some 3000)), some (.inr (some 0)), some (.inr (some 49)), some (.inl i)] [.inl (yword m (xs (i + 1)) (xs (i + 2))), .inl (xword m (xs (i + 1)) (xs (i + 2)))] (WW m) 65 3132
          refine rb_icmp_same hV (tgt := 640) dL_law_447 (by decide) (REL_word hrel _ _) ?_
          refine rb_iinc hV (L2 := [some (.inr (some 3000)), some (.inr (some 0)), some (.inr (some 49)), some (.inl (i + 5))]) dL_law_640 rfl rfl rfl ?_
          refine rb_goto hV (tgt := 18) dL_law_643 (by decide) ?_
          refine ih18 m (i + 5) ?_ ?_ ?_
          · exact hrel
          · omega
          · omega
        · refine rb_tabIn hV (off := 420) (tgt := 452) dL_law_32 (by unfold ab_r at *; omega) (by omega) (by omega) (by rw [c32]; rfl) (by decide) ?_
          refine rb_aload_n hV dL_law_452 rfl rfl ?_
          refine rb_aload_n hV dL_law_453 rfl rfl ?_
          refine rb_iload_n hV dL_law_454 rfl rfl ?_
          refine rb_iconst hV dL_law_455 ?_
          refine rb_iadd hV dL_law_456 ?_
          refine rb_sld hV dL_law_457 rfl hLn (by omega) ?_
          refine rb_aload_n hV dL_law_458 rfl rfl ?_
          refine rb_iload_n hV dL_law_459 rfl rfl ?_
          refine rb_iconst hV dL_law_460 ?_
          refine rb_iadd hV dL_law_461 ?_
          refine rb_sld hV dL_law_462 rfl hLn (by omega) ?_
          refine rb_callV hV (rest := []) dL_law_463 (c_X9_line m (xs (i + 1)) (xs (i + 2)) (hxs _) (hxs _) hrel.1) lk_L_74 rfl (Or.inl ⟨8, _, TX9, 8, gw_0 _, rfl⟩) rfl ⟨rfl, rfl, (Nat.le_of_ble_eq_true rfl), (Nat.le_of_ble_eq_true rfl), (Nat.le_of_ble_eq_true rfl), (Nat.le_of_ble_eq_true rfl)⟩ (Nat.le_of_ble_eq_true rfl) (fun r9 h9 p9 => ?_)
          obtain ⟨rfl, rfl⟩ := p9
          show V 466 [some (.inr (some 3000)), some (.inr (some 0)), some (.inr (some 49)), some (.inl i)] [.inl (xline m (xs (i + 1)) (xs (i + 2)))] (WW m) 65 3132
          refine rb_aload_n hV dL_law_466 rfl rfl ?_
          refine rb_aload_n hV dL_law_467 rfl rfl ?_
          refine rb_iload_n hV dL_law_468 rfl rfl ?_
          refine rb_iconst hV dL_law_469 ?_
          refine rb_iadd hV dL_law_470 ?_
          refine rb_sld hV dL_law_471 rfl hLn (by omega) ?_
          refine rb_aload_n hV dL_law_472 rfl rfl ?_
          refine rb_iload_n hV dL_law_473 rfl rfl ?_
          refine rb_iconst hV dL_law_474 ?_
          refine rb_iadd hV dL_law_475 ?_
          refine rb_sld hV dL_law_476 rfl hLn (by omega) ?_
          refine rb_callV hV (rest := [.inl (xline m (xs (i + 1)) (xs (i + 2)))]) dL_law_477 (c_X10_line m (xs (i + 1)) (xs (i + 2)) (hxs _) (hxs _) hrel.2.1) lk_L_77 rfl (Or.inl ⟨9, _, TX10, 24, gw_49 _, rfl⟩) rfl ⟨rfl, rfl, (Nat.le_of_ble_eq_true rfl), (Nat.le_of_ble_eq_true rfl), (Nat.le_of_ble_eq_true rfl), (Nat.le_of_ble_eq_true rfl)⟩ (Nat.le_of_ble_eq_true rfl) (fun r9 h9 p9 => ?_)
          obtain ⟨rfl, rfl⟩ := p9
          show V 480 [some (.inr (some 3000)), some (.inr (some 0)), some (.inr (some 49)), some (.inl i)] [.inl (yline m (xs (i + 1)) (xs (i + 2))), .inl (xline m (xs (i + 1)) (xs (i + 2)))] (WW m) 65 3132
          refine rb_icmp_same hV (tgt := 640) dL_law_480 (by decide) (REL_lines hrel _ _) ?_
          refine rb_iinc hV (L2 := [some (.inr (some 3000)), some (.inr (some 0)), some (.inr (some 49)), some (.inl (i + 5))]) dL_law_640 rfl rfl rfl ?_
          refine rb_goto hV (tgt := 18) dL_law_643 (by decide) ?_
          refine ih18 m (i + 5) ?_ ?_ ?_
          · exact hrel
          · omega
          · omega
        · refine rb_tabIn hV (off := 453) (tgt := 485) dL_law_32 (by unfold ab_r at *; omega) (by omega) (by omega) (by rw [c32]; rfl) (by decide) ?_
          refine rb_aload_n hV dL_law_485 rfl rfl ?_
          refine rb_aload_n hV dL_law_486 rfl rfl ?_
          refine rb_iload_n hV dL_law_487 rfl rfl ?_
          refine rb_iconst hV dL_law_488 ?_
          refine rb_iadd hV dL_law_489 ?_
          refine rb_sld hV dL_law_490 rfl hLn (by omega) ?_
          refine rb_aload_n hV dL_law_491 rfl rfl ?_
          refine rb_iload_n hV dL_law_492 rfl rfl ?_
          refine rb_iconst hV dL_law_493 ?_
          refine rb_iadd hV dL_law_494 ?_
          refine rb_sld hV dL_law_495 rfl hLn (by omega) ?_
          refine rb_aload_n hV dL_law_496 rfl rfl ?_
          refine rb_iload_n hV dL_law_497 rfl rfl ?_
          refine rb_iconst hV dL_law_498 ?_
          refine rb_iadd hV dL_law_499 ?_
          refine rb_sld hV dL_law_500 rfl hLn (by omega) ?_
          refine rb_callV hV (rest := []) dL_law_501 (c_X9_space m (xs (i + 1)) (xs (i + 2)) (xs (i + 3)) (hxs _) (hxs _) (hxs _) hrel.1) lk_L_78 rfl (Or.inl ⟨8, _, TX9, 8, gw_0 _, rfl⟩) rfl ⟨rfl, rfl, (Nat.le_of_ble_eq_true rfl), (Nat.le_of_ble_eq_true rfl), (Nat.le_of_ble_eq_true rfl), (Nat.le_of_ble_eq_true rfl)⟩ (Nat.le_of_ble_eq_true rfl) (fun r9 h9 p9 => ?_)
          obtain ⟨rfl, rfl⟩ := p9
          show V 504 [some (.inr (some 3000)), some (.inr (some 0)), some (.inr (some 49)), some (.inl i)] [.inl (xspace m (xs (i + 1)) (xs (i + 2)) (xs (i + 3)))] (WW m) 65 3132
          refine rb_aload_n hV dL_law_504 rfl rfl ?_
          refine rb_aload_n hV dL_law_505 rfl rfl ?_
          refine rb_iload_n hV dL_law_506 rfl rfl ?_
          refine rb_iconst hV dL_law_507 ?_
          refine rb_iadd hV dL_law_508 ?_
          refine rb_sld hV dL_law_509 rfl hLn (by omega) ?_
          refine rb_aload_n hV dL_law_510 rfl rfl ?_
          refine rb_iload_n hV dL_law_511 rfl rfl ?_
          refine rb_iconst hV dL_law_512 ?_
          refine rb_iadd hV dL_law_513 ?_
          refine rb_sld hV dL_law_514 rfl hLn (by omega) ?_
          refine rb_aload_n hV dL_law_515 rfl rfl ?_
          refine rb_iload_n hV dL_law_516 rfl rfl ?_
          refine rb_iconst hV dL_law_517 ?_
          refine rb_iadd hV dL_law_518 ?_
          refine rb_sld hV dL_law_519 rfl hLn (by omega) ?_
          refine rb_callV hV (rest := [.inl (xspace m (xs (i + 1)) (xs (i + 2)) (xs (i + 3)))]) dL_law_520 (c_X10_space m (xs (i + 1)) (xs (i + 2)) (xs (i + 3)) (hxs _) (hxs _) (hxs _) hrel.2.1) lk_L_82 rfl (Or.inl ⟨9, _, TX10, 24, gw_49 _, rfl⟩) rfl ⟨rfl, rfl, (Nat.le_of_ble_eq_true rfl), (Nat.le_of_ble_eq_true rfl), (Nat.le_of_ble_eq_true rfl), (Nat.le_of_ble_eq_true rfl)⟩ (Nat.le_of_ble_eq_true rfl) (fun r9 h9 p9 => ?_)
          obtain ⟨rfl, rfl⟩ := p9
          show V 523 [some (.inr (some 3000)), some (.inr (some 0)), some (.inr (some 49)), some (.inl i)] [.inl (yspace m (xs (i + 1)) (xs (i + 2)) (xs (i + 3))), .inl (xspace m (xs (i + 1)) (xs (i + 2)) (xs (i + 3)))] (WW m) 65 3132
          refine rb_icmp_same hV (tgt := 640) dL_law_523 (by decide) (REL_space hrel _ _ _) ?_
          refine rb_iinc hV (L2 := [some (.inr (some 3000)), some (.inr (some 0)), some (.inr (some 49)), some (.inl (i + 5))]) dL_law_640 rfl rfl rfl ?_
          refine rb_goto hV (tgt := 18) dL_law_643 (by decide) ?_
          refine ih18 m (i + 5) ?_ ?_ ?_
          · exact hrel
          · omega
          · omega
        · refine rb_tabIn hV (off := 496) (tgt := 528) dL_law_32 (by unfold ab_r at *; omega) (by omega) (by omega) (by rw [c32]; rfl) (by decide) ?_
          refine rb_aload_n hV dL_law_528 rfl rfl ?_
          refine rb_aload_n hV dL_law_529 rfl rfl ?_
          refine rb_iload_n hV dL_law_530 rfl rfl ?_
          refine rb_iconst hV dL_law_531 ?_
          refine rb_iadd hV dL_law_532 ?_
          refine rb_sld hV dL_law_533 rfl hLn (by omega) ?_
          refine rb_callV hV (rest := []) dL_law_534 (c_X9_begin m (xs (i + 1)) (hxs _) hrel.1) lk_L_83 rfl (Or.inl ⟨8, _, TX9, 8, gw_0 _, rfl⟩) rfl ⟨rfl, rfl, (Nat.le_of_ble_eq_true rfl), (Nat.le_of_ble_eq_true rfl), (Nat.le_of_ble_eq_true rfl), (Nat.le_of_ble_eq_true rfl)⟩ (Nat.le_of_ble_eq_true rfl) (fun r9 h9 p9 => ?_)
          obtain ⟨rfl, rfl⟩ := p9
          show V 537 [some (.inr (some 3000)), some (.inr (some 0)), some (.inr (some 49)), some (.inl i)] [.inl (xbegin m (xs (i + 1)))] (WW m) 65 3132
          refine rb_aload_n hV dL_law_537 rfl rfl ?_
          refine rb_aload_n hV dL_law_538 rfl rfl ?_
          refine rb_iload_n hV dL_law_539 rfl rfl ?_
          refine rb_iconst hV dL_law_540 ?_
          refine rb_iadd hV dL_law_541 ?_
          refine rb_sld hV dL_law_542 rfl hLn (by omega) ?_
          refine rb_callV hV (rest := [.inl (xbegin m (xs (i + 1)))]) dL_law_543 (c_X10_begin m (xs (i + 1)) (hxs _) hrel.2.1) lk_L_86 rfl (Or.inl ⟨9, _, TX10, 24, gw_49 _, rfl⟩) rfl ⟨rfl, rfl, (Nat.le_of_ble_eq_true rfl), (Nat.le_of_ble_eq_true rfl), (Nat.le_of_ble_eq_true rfl), (Nat.le_of_ble_eq_true rfl)⟩ (Nat.le_of_ble_eq_true rfl) (fun r9 h9 p9 => ?_)
          obtain ⟨rfl, rfl⟩ := p9
          show V 546 [some (.inr (some 3000)), some (.inr (some 0)), some (.inr (some 49)), some (.inl i)] [.inl (ybegin m (xs (i + 1))), .inl (xbegin m (xs (i + 1)))] (WW m) 65 3132
          refine rb_icmp_same hV (tgt := 640) dL_law_546 (by decide) (REL_begin hrel _) ?_
          refine rb_iinc hV (L2 := [some (.inr (some 3000)), some (.inr (some 0)), some (.inr (some 49)), some (.inl (i + 5))]) dL_law_640 rfl rfl rfl ?_
          refine rb_goto hV (tgt := 18) dL_law_643 (by decide) ?_
          refine ih18 m (i + 5) ?_ ?_ ?_
          · exact hrel
          · omega
          · omega
        · refine rb_tabIn hV (off := 519) (tgt := 551) dL_law_32 (by unfold ab_r at *; omega) (by omega) (by omega) (by rw [c32]; rfl) (by decide) ?_
          refine rb_aload_n hV dL_law_551 rfl rfl ?_
          refine rb_aload_n hV dL_law_552 rfl rfl ?_
          refine rb_iload_n hV dL_law_553 rfl rfl ?_
          refine rb_iconst hV dL_law_554 ?_
          refine rb_iadd hV dL_law_555 ?_
          refine rb_sld hV dL_law_556 rfl hLn (by omega) ?_
          refine rb_aload_n hV dL_law_557 rfl rfl ?_
          refine rb_iload_n hV dL_law_558 rfl rfl ?_
          refine rb_iconst hV dL_law_559 ?_
          refine rb_iadd hV dL_law_560 ?_
          refine rb_sld hV dL_law_561 rfl hLn (by omega) ?_
          refine rb_callV hV (rest := []) dL_law_562 (c_X9_second m (xs (i + 1)) (xs (i + 2)) (hxs _) (hxs _) hrel.1) lk_L_87 rfl (Or.inl ⟨8, _, TX9, 8, gw_0 _, rfl⟩) rfl ⟨rfl, rfl, (Nat.le_of_ble_eq_true rfl), (Nat.le_of_ble_eq_true rfl), (Nat.le_of_ble_eq_true rfl), (Nat.le_of_ble_eq_true rfl)⟩ (Nat.le_of_ble_eq_true rfl) (fun r9 h9 p9 => ?_)
          obtain ⟨rfl, rfl⟩ := p9
          show V 565 [some (.inr (some 3000)), some (.inr (some 0)), some (.inr (some 49)), some (.inl i)] [.inl (xsecond m (xs (i + 1)) (xs (i + 2)))] (WW m) 65 3132
          refine rb_aload_n hV dL_law_565 rfl rfl ?_
          refine rb_aload_n hV dL_law_566 rfl rfl ?_
          refine rb_iload_n hV dL_law_567 rfl rfl ?_
          refine rb_iconst hV dL_law_568 ?_
          refine rb_iadd hV dL_law_569 ?_
          refine rb_sld hV dL_law_570 rfl hLn (by omega) ?_
          refine rb_aload_n hV dL_law_571 rfl rfl ?_
          refine rb_iload_n hV dL_law_572 rfl rfl ?_
          refine rb_iconst hV dL_law_573 ?_
          refine rb_iadd hV dL_law_574 ?_
          refine rb_sld hV dL_law_575 rfl hLn (by omega) ?_
          refine rb_callV hV (rest := [.inl (xsecond m (xs (i + 1)) (xs (i + 2)))]) dL_law_576 (c_X10_second m (xs (i + 1)) (xs (i + 2)) (hxs _) (hxs _) hrel.2.1) lk_L_90 rfl (Or.inl ⟨9, _, TX10, 24, gw_49 _, rfl⟩) rfl ⟨rfl, rfl, (Nat.le_of_ble_eq_true rfl), (Nat.le_of_ble_eq_true rfl), (Nat.le_of_ble_eq_true rfl), (Nat.le_of_ble_eq_true rfl)⟩ (Nat.le_of_ble_eq_true rfl) (fun r9 h9 p9 => ?_)
          obtain ⟨rfl, rfl⟩ := p9
          show V 579 [some (.inr (some 3000)), some (.inr (some 0)), some (.inr (some 49)), some (.inl i)] [.inl (ysecond m (xs (i + 1)) (xs (i + 2))), .inl (xsecond m (xs (i + 1)) (xs (i + 2)))] (WW m) 65 3132
          refine rb_icmp_same hV (tgt := 640) dL_law_579 (by decide) (REL_second hrel _ _) ?_
          refine rb_iinc hV (L2 := [some (.inr (some 3000)), some (.inr (some 0)), some (.inr (some 49)), some (.inl (i + 5))]) dL_law_640 rfl rfl rfl ?_
          refine rb_goto hV (tgt := 18) dL_law_643 (by decide) ?_
          refine ih18 m (i + 5) ?_ ?_ ?_
          · exact hrel
          · omega
          · omega
        · refine rb_tabIn hV (off := 552) (tgt := 584) dL_law_32 (by unfold ab_r at *; omega) (by omega) (by omega) (by rw [c32]; rfl) (by decide) ?_
          refine rb_aload_n hV dL_law_584 rfl rfl ?_
          refine rb_aload_n hV dL_law_585 rfl rfl ?_
          refine rb_iload_n hV dL_law_586 rfl rfl ?_
          refine rb_iconst hV dL_law_587 ?_
          refine rb_iadd hV dL_law_588 ?_
          refine rb_sld hV dL_law_589 rfl hLn (by omega) ?_
          refine rb_callV hV (rest := []) dL_law_590 (c_X9_worst m (xs (i + 1)) (hxs _) hrel.1) lk_L_91 rfl (Or.inl ⟨8, _, TX9, 8, gw_0 _, rfl⟩) rfl ⟨rfl, rfl, (Nat.le_of_ble_eq_true rfl), (Nat.le_of_ble_eq_true rfl), (Nat.le_of_ble_eq_true rfl), (Nat.le_of_ble_eq_true rfl)⟩ (Nat.le_of_ble_eq_true rfl) (fun r9 h9 p9 => ?_)
          obtain ⟨v1, rfl, rfl, hy1⟩ := p9
          show V 593 [some (.inr (some 3000)), some (.inr (some 0)), some (.inr (some 49)), some (.inl i)] [.inl v1] (WW m) 65 3132
          refine rb_aload_n hV dL_law_593 rfl rfl ?_
          refine rb_aload_n hV dL_law_594 rfl rfl ?_
          refine rb_iload_n hV dL_law_595 rfl rfl ?_
          refine rb_iconst hV dL_law_596 ?_
          refine rb_iadd hV dL_law_597 ?_
          refine rb_sld hV dL_law_598 rfl hLn (by omega) ?_
          refine rb_callV hV (rest := [.inl v1]) dL_law_599 (c_X10_worst m (xs (i + 1)) (hxs _) hrel.2.1) lk_L_94 rfl (Or.inl ⟨9, _, TX10, 24, gw_49 _, rfl⟩) rfl ⟨rfl, rfl, (Nat.le_of_ble_eq_true rfl), (Nat.le_of_ble_eq_true rfl), (Nat.le_of_ble_eq_true rfl), (Nat.le_of_ble_eq_true rfl)⟩ (Nat.le_of_ble_eq_true rfl) (fun r9 h9 p9 => ?_)
          obtain ⟨v2, rfl, rfl, hy2⟩ := p9
          show V 602 [some (.inr (some 3000)), some (.inr (some 0)), some (.inr (some 49)), some (.inl i)] [.inl v2, .inl v1] (WW m) 65 3132
          refine rb_icmp_same hV (tgt := 640) dL_law_602 (by decide) (REL_worst hrel hy1 hy2) ?_
          refine rb_iinc hV (L2 := [some (.inr (some 3000)), some (.inr (some 0)), some (.inr (some 49)), some (.inl (i + 5))]) dL_law_640 rfl rfl rfl ?_
          refine rb_goto hV (tgt := 18) dL_law_643 (by decide) ?_
          refine ih18 m (i + 5) ?_ ?_ ?_
          · exact hrel
          · omega
          · omega
        · refine rb_tabIn hV (off := 575) (tgt := 607) dL_law_32 (by unfold ab_r at *; omega) (by omega) (by omega) (by rw [c32]; rfl) (by decide) ?_
          refine rb_aload_n hV dL_law_607 rfl rfl ?_
          refine rb_aload_n hV dL_law_608 rfl rfl ?_
          refine rb_iload_n hV dL_law_609 rfl rfl ?_
          refine rb_iconst hV dL_law_610 ?_
          refine rb_iadd hV dL_law_611 ?_
          refine rb_sld hV dL_law_612 rfl hLn (by omega) ?_
          refine rb_aload_n hV dL_law_613 rfl rfl ?_
          refine rb_iload_n hV dL_law_614 rfl rfl ?_
          refine rb_iconst hV dL_law_615 ?_
          refine rb_iadd hV dL_law_616 ?_
          refine rb_sld hV dL_law_617 rfl hLn (by omega) ?_
          refine rb_callV hV (rest := []) dL_law_618 (c_X9_river m (xs (i + 1)) (xs (i + 2)) (hxs _) (hxs _) hrel.1) lk_L_95 rfl (Or.inl ⟨8, _, TX9, 8, gw_0 _, rfl⟩) rfl ⟨rfl, rfl, (Nat.le_of_ble_eq_true rfl), (Nat.le_of_ble_eq_true rfl), (Nat.le_of_ble_eq_true rfl), (Nat.le_of_ble_eq_true rfl)⟩ (Nat.le_of_ble_eq_true rfl) (fun r9 h9 p9 => ?_)
          obtain ⟨v1, rfl, rfl, hy1⟩ := p9
          show V 621 [some (.inr (some 3000)), some (.inr (some 0)), some (.inr (some 49)), some (.inl i)] [.inl v1] (WW m) 65 3132
          refine rb_aload_n hV dL_law_621 rfl rfl ?_
          refine rb_aload_n hV dL_law_622 rfl rfl ?_
          refine rb_iload_n hV dL_law_623 rfl rfl ?_
          refine rb_iconst hV dL_law_624 ?_
          refine rb_iadd hV dL_law_625 ?_
          refine rb_sld hV dL_law_626 rfl hLn (by omega) ?_
          refine rb_aload_n hV dL_law_627 rfl rfl ?_
          refine rb_iload_n hV dL_law_628 rfl rfl ?_
          refine rb_iconst hV dL_law_629 ?_
          refine rb_iadd hV dL_law_630 ?_
          refine rb_sld hV dL_law_631 rfl hLn (by omega) ?_
          refine rb_callV hV (rest := [.inl v1]) dL_law_632 (c_X10_river m (xs (i + 1)) (xs (i + 2)) (hxs _) (hxs _) hrel.2.1) lk_L_98 rfl (Or.inl ⟨9, _, TX10, 24, gw_49 _, rfl⟩) rfl ⟨rfl, rfl, (Nat.le_of_ble_eq_true rfl), (Nat.le_of_ble_eq_true rfl), (Nat.le_of_ble_eq_true rfl), (Nat.le_of_ble_eq_true rfl)⟩ (Nat.le_of_ble_eq_true rfl) (fun r9 h9 p9 => ?_)
          obtain ⟨v2, rfl, rfl, hy2⟩ := p9
          show V 635 [some (.inr (some 3000)), some (.inr (some 0)), some (.inr (some 49)), some (.inl i)] [.inl v2, .inl v1] (WW m) 65 3132
          refine rb_icmp_same hV (tgt := 640) dL_law_635 (by decide) (REL_river hrel hy1 hy2) ?_
          refine rb_iinc hV (L2 := [some (.inr (some 3000)), some (.inr (some 0)), some (.inr (some 49)), some (.inl (i + 5))]) dL_law_640 rfl rfl rfl ?_
          refine rb_goto hV (tgt := 18) dL_law_643 (by decide) ?_
          refine ih18 m (i + 5) ?_ ?_ ?_
          · exact hrel
          · omega
          · omega
        · refine rb_tabOut hV (tgt := 640) dL_law_32 (by unfold ab_r at *; omega) c32 (by decide) ?_
          refine rb_iinc hV (L2 := [some (.inr (some 3000)), some (.inr (some 0)), some (.inr (some 49)), some (.inl (i + 5))]) dL_law_640 rfl rfl rfl ?_
          refine rb_goto hV (tgt := 18) dL_law_643 (by decide) ?_
          refine ih18 m (i + 5) ?_ ?_ ?_
          · exact hrel
          · omega
          · omega
  refine h18 _ s2 0 ?_ ?_ (Nat.lt_succ_self _)
  · exact REL_0 hmi hbest hkeep
  · omega
