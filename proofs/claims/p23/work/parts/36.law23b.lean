/-! p23: the law reads paragraphs -/
theorem RDI_bl {d m : Nat → Int → Int} {k words blank : Int} (h : RDI d m k words blank) : blank = 0 ∨ blank = 1 := by
  rcases h.2.2.2 with q | q
  · exact Or.inr q.1
  · exact Or.inl q.1
theorem rd_ty {d m : Nat → Int → Int} {k w2 b2 z : Int} {r : Option ab_V} {h : List ab_E} (hm : m 104 0 = k) (hl : k < 120) (hR : RDI d (TYP m z) (k + 1) w2 b2) (hp : (¬ m 104 0 < 120 ∧ RO m (-1003) r h) ∨ (m 104 0 < 120 ∧ r = some (.inl (m 104 0 + 1)) ∧ h = WW (TYP m z) ∧ XI (TYP m z))) :
    ∃ t, r = some (.inl (k + 1)) ∧ h = WW t ∧ XI t ∧ KEEP [22, 104] m t ∧ RDI d t (k + 1) w2 b2 := by
  rcases hp with ⟨q, -⟩ | ⟨-, q1, q2, q3⟩
  · omega
  · exact ⟨_, by rw [q1, hm], q2, q3, KEEP_TYP m z, hR⟩

set_option maxRecDepth 20000 in
theorem c_L_reads (Ln : Nat) (xs : Int → Int) (hLn : Ln < 2147483648) (hxs : ∀ j, ab_r (xs j)) (s : Nat → Int → Int) (a0 : Int) (ha0 : 0 ≤ a0 ∧ a0 ≤ 20) (hx : XI s) : ab_Ms Ln xs yL_reads cL_reads 10 (some .boolean) ({ frames := 10, cells := 0, slots := 0, locals := 221 } : Room) [.inr (some 0), .inr (some 3000), .inl a0] (WW s) (fun r h2 => r = some (.inl 1) ∧ ∃ t, h2 = WW t ∧ XI t) := by
  refine ab_mkS RL false rfl pn_L_reads (fun z => by cases z) (Nat.le_of_ble_eq_true rfl) (fun V hV => ?_)
  show V 0 [some (.inr (some 0)), some (.inr (some 3000)), some (.inl a0), none, none, none, none, none, none, none] [] (WW s) 0 0
  refine rb_aload_n hV dL_reads_0 rfl rfl ?_
  refine rb_callV hV (rest := []) dL_reads_1 (c_X9_clearText s hx) lk_L_15 rfl (Or.inl ⟨8, _, TX9, 8, gw_0 _, rfl⟩) rfl ⟨rfl, rfl, (Nat.le_of_ble_eq_true rfl), (Nat.le_of_ble_eq_true rfl), (Nat.le_of_ble_eq_true rfl), (Nat.le_of_ble_eq_true rfl)⟩ (Nat.le_of_ble_eq_true rfl) (fun r9 h9 p9 => ?_)
  obtain ⟨rfl, rfl, hxc1⟩ := p9
  have txc1 : TXL (ab_s s 104 (fun _ => 0)) [] := TXL_0 rfl
  show V 4 [some (.inr (some 0)), some (.inr (some 3000)), some (.inl a0), none, none, none, none, none, none, none] [.inl (s 104 0)] (WW (ab_s s 104 (fun _ => 0))) 0 0
  refine rb_pop hV dL_reads_4 ?_
  refine rb_iconst hV dL_reads_5 ?_
  refine rb_istore_n hV (L2 := [some (.inr (some 0)), some (.inr (some 3000)), some (.inl a0), some (.inl 0), none, none, none, none, none, none]) dL_reads_6 rfl (Nat.le_of_ble_eq_true rfl) rfl ?_
  refine rb_iconst hV dL_reads_7 ?_
  refine rb_istore hV (L2 := [some (.inr (some 0)), some (.inr (some 3000)), some (.inl a0), some (.inl 0), some (.inl 0), none, none, none, none, none]) dL_reads_8 (Nat.le_of_ble_eq_true rfl) rfl ?_
  refine rb_bipush hV dL_reads_10 (by decide) ?_
  refine rb_aload_n hV dL_reads_12 rfl rfl ?_
  refine rb_iload_n hV dL_reads_13 rfl rfl ?_
  refine rb_callSs hV (rest := [.inl 20]) dL_reads_14 rfl (c_L_cell Ln xs hLn hxs (ab_s s 104 (fun _ => 0)) a0 (by omega)) lk_L_21 rfl rfl ⟨rfl, rfl, (Nat.le_of_ble_eq_true rfl), (Nat.le_of_ble_eq_true rfl), (Nat.le_of_ble_eq_true rfl), (Nat.le_of_ble_eq_true rfl)⟩ (Nat.le_of_ble_eq_true rfl) (fun r9 h9 p9 => ?_)
  obtain ⟨g14, rfl, rfl, hg14⟩ := p9
  show V 17 [some (.inr (some 0)), some (.inr (some 3000)), some (.inl a0), some (.inl 0), some (.inl 0), none, none, none, none, none] [.inl g14, .inl 20] (WW (ab_s s 104 (fun _ => 0))) 0 0
  refine rb_bipush hV dL_reads_17 (by decide) ?_
  refine rb_callS hV (rest := [.inl 20]) dL_reads_19 (c_L_low (ab_s s 104 (fun _ => 0)) g14 95 (by omega)) lk_L_9 rfl rfl ⟨rfl, rfl, (Nat.le_of_ble_eq_true rfl), (Nat.le_of_ble_eq_true rfl), (Nat.le_of_ble_eq_true rfl), (Nat.le_of_ble_eq_true rfl)⟩ (Nat.le_of_ble_eq_true rfl) (fun r9 h9 p9 => ?_)
  obtain ⟨o19, rfl, rfl, ho19⟩ := p9
  show V 22 [some (.inr (some 0)), some (.inr (some 3000)), some (.inl a0), some (.inl 0), some (.inl 0), none, none, none, none, none] [.inl o19, .inl 20] (WW (ab_s s 104 (fun _ => 0))) 0 0
  refine rb_iadd hV dL_reads_22 ?_
  refine rb_istore hV (L2 := [some (.inr (some 0)), some (.inr (some 3000)), some (.inl a0), some (.inl 0), some (.inl 0), some (.inl (20 + o19)), none, none, none, none]) dL_reads_23 (Nat.le_of_ble_eq_true rfl) rfl ?_
  refine rb_iconst hV dL_reads_25 ?_
  refine rb_istore hV (L2 := [some (.inr (some 0)), some (.inr (some 3000)), some (.inl a0), some (.inl 0), some (.inl 0), some (.inl (20 + o19)), some (.inl 1), none, none, none]) dL_reads_26 (Nat.le_of_ble_eq_true rfl) rfl ?_
  refine rb_iconst hV dL_reads_28 ?_
  refine rb_istore hV (L2 := [some (.inr (some 0)), some (.inr (some 3000)), some (.inl a0), some (.inl 0), some (.inl 0), some (.inl (20 + o19)), some (.inl 1), some (.inl 0), none, none]) dL_reads_29 (Nat.le_of_ble_eq_true rfl) rfl ?_
  have h31 : ∀ (n31 : Nat) (m : Nat → Int → Int) (words : Int) (length : Int) (blank : Int) (k : Int), (XI m) → (KEEP [22, 104] s m) → (RDI (vX s) m k words blank) → (0 ≤ k ∧ k ≤ 20 + o19) → (length = k) → ((20 + o19 - k).toNat) < n31 → V 31 [some (.inr (some 0)), some (.inr (some 3000)), some (.inl a0), some (.inl words), some (.inl length), some (.inl (20 + o19)), some (.inl blank), some (.inl k), none, none] [] (WW m) 0 0 := by
    intro n31
    induction n31 with
    | zero => intro m words length blank k hxm hkm hrd hkb hlen hm; omega
    | succ n31 ih31 =>
      intro m words length blank k hxm hkm hrd hkb hlen hm
      have hm1 := hrd.1
      have hwb := RDI_w hrd
      refine rb_iload hV dL_reads_31 rfl ?_
      refine rb_iload hV dL_reads_33 rfl ?_
      refine rb_icmp_ge hV (tgt := 131) dL_reads_35 (by decide) ⟨(by unfold ab_r at *; omega), (by unfold ab_r at *; omega)⟩ (fun c35 => ?_) (fun c35 => ?_)
      · have hm1 := hrd.1
        have hwb := RDI_w hrd
        refine rb_aload_n hV dL_reads_131 rfl rfl ?_
        refine rb_callV hV (rest := []) dL_reads_132 (c_X9_readParagraph m hxm) lk_L_33 rfl (Or.inl ⟨8, _, TX9, 8, gw_0 _, rfl⟩) rfl ⟨rfl, rfl, (Nat.le_of_ble_eq_true rfl), (Nat.le_of_ble_eq_true rfl), (Nat.le_of_ble_eq_true rfl), (Nat.le_of_ble_eq_true rfl)⟩ (Nat.le_of_ble_eq_true rfl) (fun r9 h9 p9 => ?_)
        obtain ⟨m2, rfl, rfl, hx2, hw2, hl2, hok2⟩ := RD_read (KEEP_vX hkm (by decide)) hrd p9
        show V 135 [some (.inr (some 0)), some (.inr (some 3000)), some (.inl a0), some (.inl words), some (.inl length), some (.inl (20 + o19)), some (.inl blank), some (.inl k), none, none] [.inl words] (WW m2) 0 0
        refine rb_iload_n hV dL_reads_135 rfl rfl ?_
        refine rb_icmp_ne hV (tgt := 167) dL_reads_136 (by decide) ⟨(by unfold ab_r at *; omega), (by unfold ab_r at *; omega)⟩ (fun c136 => absurd c136 (by omega)) (fun c136 => ?_)
        refine rb_aload_n hV dL_reads_139 rfl rfl ?_
        refine rb_iconst hV dL_reads_140 ?_
        refine rb_callV hV (rest := []) dL_reads_141 (c_X9_count m2 0 (by unfold ab_r at *; omega) hx2) lk_L_36 rfl (Or.inl ⟨8, _, TX9, 8, gw_0 _, rfl⟩) rfl ⟨rfl, rfl, (Nat.le_of_ble_eq_true rfl), (Nat.le_of_ble_eq_true rfl), (Nat.le_of_ble_eq_true rfl), (Nat.le_of_ble_eq_true rfl)⟩ (Nat.le_of_ble_eq_true rfl) (fun r9 h9 p9 => ?_)
        obtain ⟨rfl, rfl⟩ : r9 = some (.inl words) ∧ h9 = WW m2 := ⟨p9.1.trans (congrArg (fun z : Int => (some (Sum.inl z) : Option ab_V)) (show xcount m2 0 = words from hw2)), p9.2⟩
        show V 144 [some (.inr (some 0)), some (.inr (some 3000)), some (.inl a0), some (.inl words), some (.inl length), some (.inl (20 + o19)), some (.inl blank), some (.inl k), none, none] [.inl words] (WW m2) 0 0
        refine rb_iload_n hV dL_reads_144 rfl rfl ?_
        refine rb_icmp_ne hV (tgt := 167) dL_reads_145 (by decide) ⟨(by unfold ab_r at *; omega), (by unfold ab_r at *; omega)⟩ (fun c145 => absurd c145 (by omega)) (fun c145 => ?_)
        refine rb_iload hV dL_reads_148 rfl ?_
        refine rb_iload hV dL_reads_150 rfl ?_
        refine rb_icmp_ne hV (tgt := 167) dL_reads_152 (by decide) ⟨(by unfold ab_r at *; omega), (by unfold ab_r at *; omega)⟩ (fun c152 => absurd c152 (by omega)) (fun c152 => ?_)
        refine rb_aload_n hV dL_reads_155 rfl rfl ?_
        refine rb_iload_n hV dL_reads_156 rfl rfl ?_
        refine rb_iconst hV dL_reads_157 ?_
        refine rb_callV hV (rest := []) dL_reads_158 (c_X9_word m2 words 0 (by unfold ab_r at *; omega) (by unfold ab_r at *; omega) hx2) lk_L_40 rfl (Or.inl ⟨8, _, TX9, 8, gw_0 _, rfl⟩) rfl ⟨rfl, rfl, (Nat.le_of_ble_eq_true rfl), (Nat.le_of_ble_eq_true rfl), (Nat.le_of_ble_eq_true rfl), (Nat.le_of_ble_eq_true rfl)⟩ (Nat.le_of_ble_eq_true rfl) (fun r9 h9 p9 => ?_)
        obtain ⟨rfl, rfl⟩ : r9 = some (.inl (-1001)) ∧ h9 = WW m2 := ⟨p9.1.trans (congrArg (fun z : Int => (some (Sum.inl z) : Option ab_V)) (show xword m2 words 0 = -1001 from if_pos (by omega))), p9.2⟩
        show V 161 [some (.inr (some 0)), some (.inr (some 3000)), some (.inl a0), some (.inl words), some (.inl length), some (.inl (20 + o19)), some (.inl blank), some (.inl k), none, none] [.inl (-1001)] (WW m2) 0 0
        refine rb_sipush hV dL_reads_161 (by decide) ?_
        refine rb_icmp_eq hV (tgt := 169) dL_reads_164 (by decide) ⟨(by unfold ab_r at *; omega), (by unfold ab_r at *; omega)⟩ (fun _ => ?_) (fun z => absurd z (by decide))
        refine rb_iload hV dL_reads_169 rfl ?_
        refine rb_bipush hV dL_reads_171 (by decide) ?_
        refine rb_icmp_ge hV (tgt := 206) dL_reads_173 (by decide) ⟨(by unfold ab_r at *; omega), (by unfold ab_r at *; omega)⟩ (fun c173 => absurd c173 (by omega)) (fun c173 => ?_)
        refine rb_aload_n hV dL_reads_176 rfl rfl ?_
        refine rb_bipush hV dL_reads_177 (by decide) ?_
        refine rb_callV hV (rest := []) dL_reads_179 (c_X9_type m2 42 (by decide) hx2) lk_L_29 rfl (Or.inl ⟨8, _, TX9, 8, gw_0 _, rfl⟩) rfl ⟨rfl, rfl, (Nat.le_of_ble_eq_true rfl), (Nat.le_of_ble_eq_true rfl), (Nat.le_of_ble_eq_true rfl), (Nat.le_of_ble_eq_true rfl)⟩ (Nat.le_of_ble_eq_true rfl) (fun r9 h9 p9 => ?_)
        obtain ⟨v179, rfl, rfl, hx179⟩ : ∃ v, r9 = some (.inl v) ∧ h9 = WW (TYP m2 42) ∧ XI (TYP m2 42) := by
          rcases p9 with ⟨q, -⟩ | ⟨-, q1, q2, q3⟩
          · omega
          · exact ⟨_, q1, q2, q3⟩
        show V 182 [some (.inr (some 0)), some (.inr (some 3000)), some (.inl a0), some (.inl words), some (.inl length), some (.inl (20 + o19)), some (.inl blank), some (.inl k), none, none] [.inl v179] (WW (TYP m2 42)) 0 0
        refine rb_pop hV dL_reads_182 ?_
        refine rb_aload_n hV dL_reads_183 rfl rfl ?_
        refine rb_callV hV (rest := []) dL_reads_184 (c_X9_readParagraph (TYP m2 42) hx179) lk_L_33 rfl (Or.inl ⟨8, _, TX9, 8, gw_0 _, rfl⟩) rfl ⟨rfl, rfl, (Nat.le_of_ble_eq_true rfl), (Nat.le_of_ble_eq_true rfl), (Nat.le_of_ble_eq_true rfl), (Nat.le_of_ble_eq_true rfl)⟩ (Nat.le_of_ble_eq_true rfl) (fun r9 h9 p9 => ?_)
        obtain ⟨rfl, rfl⟩ := RD_bad hm1.1 hl2 hok2 p9
        show V 187 [some (.inr (some 0)), some (.inr (some 3000)), some (.inl a0), some (.inl words), some (.inl length), some (.inl (20 + o19)), some (.inl blank), some (.inl k), none, none] [.inl (-100 - k)] (WW (TYP m2 42)) 0 0
        refine rb_bipush hV dL_reads_187 (by decide) ?_
        refine rb_iload hV dL_reads_189 rfl ?_
        refine rb_isub hV dL_reads_191 ?_
        refine rb_icmp_ne hV (tgt := 204) dL_reads_192 (by decide) ⟨(by unfold ab_r at *; omega), (by unfold ab_r at *; omega)⟩ (fun c192 => absurd c192 (by omega)) (fun c192 => ?_)
        refine rb_aload_n hV dL_reads_195 rfl rfl ?_
        refine rb_iconst hV dL_reads_196 ?_
        refine rb_callV hV (rest := []) dL_reads_197 (c_X9_count (TYP m2 42) 0 (by unfold ab_r at *; omega) hx179) lk_L_36 rfl (Or.inl ⟨8, _, TX9, 8, gw_0 _, rfl⟩) rfl ⟨rfl, rfl, (Nat.le_of_ble_eq_true rfl), (Nat.le_of_ble_eq_true rfl), (Nat.le_of_ble_eq_true rfl), (Nat.le_of_ble_eq_true rfl)⟩ (Nat.le_of_ble_eq_true rfl) (fun r9 h9 p9 => ?_)
        obtain ⟨rfl, rfl⟩ : r9 = some (.inl words) ∧ h9 = WW (TYP m2 42) := ⟨p9.1.trans (congrArg (fun z : Int => (some (Sum.inl z) : Option ab_V)) (show xcount (TYP m2 42) 0 = words from hw2)), p9.2⟩
        show V 200 [some (.inr (some 0)), some (.inr (some 3000)), some (.inl a0), some (.inl words), some (.inl length), some (.inl (20 + o19)), some (.inl blank), some (.inl k), none, none] [.inl words] (WW (TYP m2 42)) 0 0
        refine rb_iload_n hV dL_reads_200 rfl rfl ?_
        refine rb_icmp_eq hV (tgt := 206) dL_reads_201 (by decide) ⟨(by unfold ab_r at *; omega), (by unfold ab_r at *; omega)⟩ (fun c201 => ?_) (fun c201 => absurd c201 (by omega))
        refine rb_iconst hV dL_reads_206 ?_
        refine rb_ret hV (r := some (.inl 1)) dL_reads_207 rfl ⟨(Nat.le_of_ble_eq_true rfl), (Nat.le_of_ble_eq_true rfl)⟩ (by first | exact Or.inl rfl | exact Or.inr rfl | omega) ?_
        exact ⟨rfl, _, rfl, hx179⟩
      · rcases (RDI_bl hrd) with rfl | rfl
        · refine rb_aload_n hV dL_reads_38 rfl rfl ?_
          refine rb_iload_n hV dL_reads_39 rfl rfl ?_
          refine rb_iload hV dL_reads_40 rfl ?_
          refine rb_iadd hV dL_reads_42 ?_
          refine rb_callSs hV (rest := []) dL_reads_43 rfl (c_L_cell Ln xs hLn hxs m (a0 + k) (by omega)) lk_L_21 rfl rfl ⟨rfl, rfl, (Nat.le_of_ble_eq_true rfl), (Nat.le_of_ble_eq_true rfl), (Nat.le_of_ble_eq_true rfl), (Nat.le_of_ble_eq_true rfl)⟩ (Nat.le_of_ble_eq_true rfl) (fun r9 h9 p9 => ?_)
          obtain ⟨g43, rfl, rfl, hg43⟩ := p9
          show V 46 [some (.inr (some 0)), some (.inr (some 3000)), some (.inl a0), some (.inl words), some (.inl length), some (.inl (20 + o19)), some (.inl 0), some (.inl k), none, none] [.inl g43] (WW m) 0 0
          refine rb_istore hV (L2 := [some (.inr (some 0)), some (.inr (some 3000)), some (.inl a0), some (.inl words), some (.inl length), some (.inl (20 + o19)), some (.inl 0), some (.inl k), some (.inl g43), none]) dL_reads_46 (Nat.le_of_ble_eq_true rfl) rfl ?_
          refine rb_iload hV dL_reads_48 rfl ?_
          refine rb_if_ne hV (tgt := 60) dL_reads_50 (by decide) (by unfold ab_r at *; omega) (fun z => absurd z (by decide)) (fun _ => ?_)
          refine rb_iload hV dL_reads_53 rfl ?_
          refine rb_iconst hV dL_reads_55 ?_
          refine rb_iandx hV dL_reads_56 (fun z56 r56 => ?_)
          refine rb_if_eq hV (tgt := 73) dL_reads_57 (by decide) (by unfold ab_r at *; omega) (fun c57 => ?_) (fun c57 => ?_)
          · refine rb_iconst hV dL_reads_73 ?_
            refine rb_goto hV (tgt := 78) dL_reads_74 (by decide) ?_
            refine rb_istore hV (L2 := [some (.inr (some 0)), some (.inr (some 3000)), some (.inl a0), some (.inl words), some (.inl length), some (.inl (20 + o19)), some (.inl 0), some (.inl k), some (.inl g43), some (.inl 1)]) dL_reads_78 (Nat.le_of_ble_eq_true rfl) rfl ?_
            refine rb_iload_n hV dL_reads_80 rfl rfl ?_
            refine rb_iload hV dL_reads_81 rfl ?_
            refine rb_if_eq hV (tgt := 95) dL_reads_83 (by decide) (by unfold ab_r at *; omega) (fun _ => ?_) (fun z => absurd z (by decide))
            refine rb_iconst hV dL_reads_95 ?_
            refine rb_iadd hV dL_reads_96 ?_
            refine rb_istore_n hV (L2 := [some (.inr (some 0)), some (.inr (some 3000)), some (.inl a0), some (.inl (words + 0)), some (.inl length), some (.inl (20 + o19)), some (.inl 0), some (.inl k), some (.inl g43), some (.inl 1)]) dL_reads_97 rfl (Nat.le_of_ble_eq_true rfl) rfl ?_
            refine rb_iload hV dL_reads_98 rfl ?_
            refine rb_istore hV (L2 := [some (.inr (some 0)), some (.inr (some 3000)), some (.inl a0), some (.inl (words + 0)), some (.inl length), some (.inl (20 + o19)), some (.inl 1), some (.inl k), some (.inl g43), some (.inl 1)]) dL_reads_100 (Nat.le_of_ble_eq_true rfl) rfl ?_
            refine rb_aload_n hV dL_reads_102 rfl rfl ?_
            refine rb_iload hV dL_reads_103 rfl ?_
            refine rb_if_eq hV (tgt := 113) dL_reads_105 (by decide) (by unfold ab_r at *; omega) (fun z => absurd z (by decide)) (fun _ => ?_)
            refine rb_bipush hV dL_reads_108 (by decide) ?_
            refine rb_goto hV (tgt := 120) dL_reads_110 (by decide) ?_
            refine rb_callV hV (rest := []) dL_reads_120 (c_X9_type m 32 (by decide) hxm) lk_L_29 rfl (Or.inl ⟨8, _, TX9, 8, gw_0 _, rfl⟩) rfl ⟨rfl, rfl, (Nat.le_of_ble_eq_true rfl), (Nat.le_of_ble_eq_true rfl), (Nat.le_of_ble_eq_true rfl), (Nat.le_of_ble_eq_true rfl)⟩ (Nat.le_of_ble_eq_true rfl) (fun r9 h9 p9 => ?_)
            obtain ⟨t120, rfl, rfl, hx120, hk120, hrd120⟩ := rd_ty hm1.2 (by omega) (RD_b hrd) p9
            show V 123 [some (.inr (some 0)), some (.inr (some 3000)), some (.inl a0), some (.inl (words + 0)), some (.inl length), some (.inl (20 + o19)), some (.inl 1), some (.inl k), some (.inl g43), some (.inl 1)] [.inl (k + 1)] (WW t120) 0 0
            refine rb_istore hV (L2 := [some (.inr (some 0)), some (.inr (some 3000)), some (.inl a0), some (.inl (words + 0)), some (.inl (k + 1)), some (.inl (20 + o19)), some (.inl 1), some (.inl k), some (.inl g43), some (.inl 1)]) dL_reads_123 (Nat.le_of_ble_eq_true rfl) rfl ?_
            refine rb_iinc hV (L2 := [some (.inr (some 0)), some (.inr (some 3000)), some (.inl a0), some (.inl (words + 0)), some (.inl (k + 1)), some (.inl (20 + o19)), some (.inl 1), some (.inl (k + 1)), some (.inl g43), some (.inl 1)]) dL_reads_125 rfl rfl rfl ?_
            refine rb_goto hV (tgt := 31) dL_reads_128 (by decide) ?_
            refine rb_weak hV (L2 := [some (.inr (some 0)), some (.inr (some 3000)), some (.inl a0), some (.inl (words + 0)), some (.inl (k + 1)), some (.inl (20 + o19)), some (.inl 1), some (.inl (k + 1)), none, none]) ⟨rfl, ⟨rfl, ⟨rfl, ⟨rfl, ⟨rfl, ⟨rfl, ⟨rfl, ⟨rfl, trivial⟩⟩⟩⟩⟩⟩⟩⟩ ?_
            refine ih31 t120 (words + 0) (k + 1) 1 (k + 1) ?_ ?_ ?_ ?_ ?_ ?_
            · exact hx120
            · exact KEEP_trans hkm hk120
            · first | exact hrd120 | (rw [Int.add_zero]; exact hrd120)
            · omega
            · rfl
            · omega
          · refine rb_iload hV dL_reads_60 rfl ?_
            refine rb_if_ne hV (tgt := 77) dL_reads_62 (by decide) (by unfold ab_r at *; omega) (fun c62 => ?_) (fun c62 => ?_)
            · refine rb_iconst hV dL_reads_77 ?_
              refine rb_istore hV (L2 := [some (.inr (some 0)), some (.inr (some 3000)), some (.inl a0), some (.inl words), some (.inl length), some (.inl (20 + o19)), some (.inl 0), some (.inl k), some (.inl g43), some (.inl 0)]) dL_reads_78 (Nat.le_of_ble_eq_true rfl) rfl ?_
              refine rb_iload_n hV dL_reads_80 rfl rfl ?_
              refine rb_iload hV dL_reads_81 rfl ?_
              refine rb_if_eq hV (tgt := 95) dL_reads_83 (by decide) (by unfold ab_r at *; omega) (fun _ => ?_) (fun z => absurd z (by decide))
              refine rb_iconst hV dL_reads_95 ?_
              refine rb_iadd hV dL_reads_96 ?_
              refine rb_istore_n hV (L2 := [some (.inr (some 0)), some (.inr (some 3000)), some (.inl a0), some (.inl (words + 0)), some (.inl length), some (.inl (20 + o19)), some (.inl 0), some (.inl k), some (.inl g43), some (.inl 0)]) dL_reads_97 rfl (Nat.le_of_ble_eq_true rfl) rfl ?_
              refine rb_iload hV dL_reads_98 rfl ?_
              refine rb_istore hV (L2 := [some (.inr (some 0)), some (.inr (some 3000)), some (.inl a0), some (.inl (words + 0)), some (.inl length), some (.inl (20 + o19)), some (.inl 0), some (.inl k), some (.inl g43), some (.inl 0)]) dL_reads_100 (Nat.le_of_ble_eq_true rfl) rfl ?_
              refine rb_aload_n hV dL_reads_102 rfl rfl ?_
              refine rb_iload hV dL_reads_103 rfl ?_
              refine rb_if_eq hV (tgt := 113) dL_reads_105 (by decide) (by unfold ab_r at *; omega) (fun _ => ?_) (fun z => absurd z (by decide))
              refine rb_iload hV dL_reads_113 rfl ?_
              refine rb_iconst hV dL_reads_115 ?_
              refine rb_ishrx hV dL_reads_116 (fun z116 r116 => ?_)
              refine rb_callS hV (rest := [.inr (some 0)]) dL_reads_117 (c_L_sign m z116) lk_L_25 rfl rfl ⟨rfl, rfl, (Nat.le_of_ble_eq_true rfl), (Nat.le_of_ble_eq_true rfl), (Nat.le_of_ble_eq_true rfl), (Nat.le_of_ble_eq_true rfl)⟩ (Nat.le_of_ble_eq_true rfl) (fun r9 h9 p9 => ?_)
              obtain ⟨z117, rfl, rfl, hz117⟩ := p9
              show V 120 [some (.inr (some 0)), some (.inr (some 3000)), some (.inl a0), some (.inl (words + 0)), some (.inl length), some (.inl (20 + o19)), some (.inl 0), some (.inl k), some (.inl g43), some (.inl 0)] [.inl z117, .inr (some 0)] (WW m) 0 0
              refine rb_callV hV (rest := []) dL_reads_120 (c_X9_type m z117 hz117.1 hxm) lk_L_29 rfl (Or.inl ⟨8, _, TX9, 8, gw_0 _, rfl⟩) rfl ⟨rfl, rfl, (Nat.le_of_ble_eq_true rfl), (Nat.le_of_ble_eq_true rfl), (Nat.le_of_ble_eq_true rfl), (Nat.le_of_ble_eq_true rfl)⟩ (Nat.le_of_ble_eq_true rfl) (fun r9 h9 p9 => ?_)
              obtain ⟨t120, rfl, rfl, hx120, hk120, hrd120⟩ := rd_ty hm1.2 (by omega) (RD_l hrd hz117) p9
              show V 123 [some (.inr (some 0)), some (.inr (some 3000)), some (.inl a0), some (.inl (words + 0)), some (.inl length), some (.inl (20 + o19)), some (.inl 0), some (.inl k), some (.inl g43), some (.inl 0)] [.inl (k + 1)] (WW t120) 0 0
              refine rb_istore hV (L2 := [some (.inr (some 0)), some (.inr (some 3000)), some (.inl a0), some (.inl (words + 0)), some (.inl (k + 1)), some (.inl (20 + o19)), some (.inl 0), some (.inl k), some (.inl g43), some (.inl 0)]) dL_reads_123 (Nat.le_of_ble_eq_true rfl) rfl ?_
              refine rb_iinc hV (L2 := [some (.inr (some 0)), some (.inr (some 3000)), some (.inl a0), some (.inl (words + 0)), some (.inl (k + 1)), some (.inl (20 + o19)), some (.inl 0), some (.inl (k + 1)), some (.inl g43), some (.inl 0)]) dL_reads_125 rfl rfl rfl ?_
              refine rb_goto hV (tgt := 31) dL_reads_128 (by decide) ?_
              refine rb_weak hV (L2 := [some (.inr (some 0)), some (.inr (some 3000)), some (.inl a0), some (.inl (words + 0)), some (.inl (k + 1)), some (.inl (20 + o19)), some (.inl 0), some (.inl (k + 1)), none, none]) ⟨rfl, ⟨rfl, ⟨rfl, ⟨rfl, ⟨rfl, ⟨rfl, ⟨rfl, ⟨rfl, trivial⟩⟩⟩⟩⟩⟩⟩⟩ ?_
              refine ih31 t120 (words + 0) (k + 1) 0 (k + 1) ?_ ?_ ?_ ?_ ?_ ?_
              · exact hx120
              · exact KEEP_trans hkm hk120
              · first | exact hrd120 | (rw [Int.add_zero]; exact hrd120)
              · omega
              · rfl
              · omega
            · refine rb_iload hV dL_reads_65 rfl ?_
              refine rb_bipush hV dL_reads_67 (by decide) ?_
              refine rb_iandx hV dL_reads_69 (fun z69 r69 => ?_)
              refine rb_if_ne hV (tgt := 77) dL_reads_70 (by decide) (by unfold ab_r at *; omega) (fun c70 => ?_) (fun c70 => ?_)
              · refine rb_iconst hV dL_reads_77 ?_
                refine rb_istore hV (L2 := [some (.inr (some 0)), some (.inr (some 3000)), some (.inl a0), some (.inl words), some (.inl length), some (.inl (20 + o19)), some (.inl 0), some (.inl k), some (.inl g43), some (.inl 0)]) dL_reads_78 (Nat.le_of_ble_eq_true rfl) rfl ?_
                refine rb_iload_n hV dL_reads_80 rfl rfl ?_
                refine rb_iload hV dL_reads_81 rfl ?_
                refine rb_if_eq hV (tgt := 95) dL_reads_83 (by decide) (by unfold ab_r at *; omega) (fun _ => ?_) (fun z => absurd z (by decide))
                refine rb_iconst hV dL_reads_95 ?_
                refine rb_iadd hV dL_reads_96 ?_
                refine rb_istore_n hV (L2 := [some (.inr (some 0)), some (.inr (some 3000)), some (.inl a0), some (.inl (words + 0)), some (.inl length), some (.inl (20 + o19)), some (.inl 0), some (.inl k), some (.inl g43), some (.inl 0)]) dL_reads_97 rfl (Nat.le_of_ble_eq_true rfl) rfl ?_
                refine rb_iload hV dL_reads_98 rfl ?_
                refine rb_istore hV (L2 := [some (.inr (some 0)), some (.inr (some 3000)), some (.inl a0), some (.inl (words + 0)), some (.inl length), some (.inl (20 + o19)), some (.inl 0), some (.inl k), some (.inl g43), some (.inl 0)]) dL_reads_100 (Nat.le_of_ble_eq_true rfl) rfl ?_
                refine rb_aload_n hV dL_reads_102 rfl rfl ?_
                refine rb_iload hV dL_reads_103 rfl ?_
                refine rb_if_eq hV (tgt := 113) dL_reads_105 (by decide) (by unfold ab_r at *; omega) (fun _ => ?_) (fun z => absurd z (by decide))
                refine rb_iload hV dL_reads_113 rfl ?_
                refine rb_iconst hV dL_reads_115 ?_
                refine rb_ishrx hV dL_reads_116 (fun z116 r116 => ?_)
                refine rb_callS hV (rest := [.inr (some 0)]) dL_reads_117 (c_L_sign m z116) lk_L_25 rfl rfl ⟨rfl, rfl, (Nat.le_of_ble_eq_true rfl), (Nat.le_of_ble_eq_true rfl), (Nat.le_of_ble_eq_true rfl), (Nat.le_of_ble_eq_true rfl)⟩ (Nat.le_of_ble_eq_true rfl) (fun r9 h9 p9 => ?_)
                obtain ⟨z117, rfl, rfl, hz117⟩ := p9
                show V 120 [some (.inr (some 0)), some (.inr (some 3000)), some (.inl a0), some (.inl (words + 0)), some (.inl length), some (.inl (20 + o19)), some (.inl 0), some (.inl k), some (.inl g43), some (.inl 0)] [.inl z117, .inr (some 0)] (WW m) 0 0
                refine rb_callV hV (rest := []) dL_reads_120 (c_X9_type m z117 hz117.1 hxm) lk_L_29 rfl (Or.inl ⟨8, _, TX9, 8, gw_0 _, rfl⟩) rfl ⟨rfl, rfl, (Nat.le_of_ble_eq_true rfl), (Nat.le_of_ble_eq_true rfl), (Nat.le_of_ble_eq_true rfl), (Nat.le_of_ble_eq_true rfl)⟩ (Nat.le_of_ble_eq_true rfl) (fun r9 h9 p9 => ?_)
                obtain ⟨t120, rfl, rfl, hx120, hk120, hrd120⟩ := rd_ty hm1.2 (by omega) (RD_l hrd hz117) p9
                show V 123 [some (.inr (some 0)), some (.inr (some 3000)), some (.inl a0), some (.inl (words + 0)), some (.inl length), some (.inl (20 + o19)), some (.inl 0), some (.inl k), some (.inl g43), some (.inl 0)] [.inl (k + 1)] (WW t120) 0 0
                refine rb_istore hV (L2 := [some (.inr (some 0)), some (.inr (some 3000)), some (.inl a0), some (.inl (words + 0)), some (.inl (k + 1)), some (.inl (20 + o19)), some (.inl 0), some (.inl k), some (.inl g43), some (.inl 0)]) dL_reads_123 (Nat.le_of_ble_eq_true rfl) rfl ?_
                refine rb_iinc hV (L2 := [some (.inr (some 0)), some (.inr (some 3000)), some (.inl a0), some (.inl (words + 0)), some (.inl (k + 1)), some (.inl (20 + o19)), some (.inl 0), some (.inl (k + 1)), some (.inl g43), some (.inl 0)]) dL_reads_125 rfl rfl rfl ?_
                refine rb_goto hV (tgt := 31) dL_reads_128 (by decide) ?_
                refine rb_weak hV (L2 := [some (.inr (some 0)), some (.inr (some 3000)), some (.inl a0), some (.inl (words + 0)), some (.inl (k + 1)), some (.inl (20 + o19)), some (.inl 0), some (.inl (k + 1)), none, none]) ⟨rfl, ⟨rfl, ⟨rfl, ⟨rfl, ⟨rfl, ⟨rfl, ⟨rfl, ⟨rfl, trivial⟩⟩⟩⟩⟩⟩⟩⟩ ?_
                refine ih31 t120 (words + 0) (k + 1) 0 (k + 1) ?_ ?_ ?_ ?_ ?_ ?_
                · exact hx120
                · exact KEEP_trans hkm hk120
                · first | exact hrd120 | (rw [Int.add_zero]; exact hrd120)
                · omega
                · rfl
                · omega
              · refine rb_iconst hV dL_reads_73 ?_
                refine rb_goto hV (tgt := 78) dL_reads_74 (by decide) ?_
                refine rb_istore hV (L2 := [some (.inr (some 0)), some (.inr (some 3000)), some (.inl a0), some (.inl words), some (.inl length), some (.inl (20 + o19)), some (.inl 0), some (.inl k), some (.inl g43), some (.inl 1)]) dL_reads_78 (Nat.le_of_ble_eq_true rfl) rfl ?_
                refine rb_iload_n hV dL_reads_80 rfl rfl ?_
                refine rb_iload hV dL_reads_81 rfl ?_
                refine rb_if_eq hV (tgt := 95) dL_reads_83 (by decide) (by unfold ab_r at *; omega) (fun _ => ?_) (fun z => absurd z (by decide))
                refine rb_iconst hV dL_reads_95 ?_
                refine rb_iadd hV dL_reads_96 ?_
                refine rb_istore_n hV (L2 := [some (.inr (some 0)), some (.inr (some 3000)), some (.inl a0), some (.inl (words + 0)), some (.inl length), some (.inl (20 + o19)), some (.inl 0), some (.inl k), some (.inl g43), some (.inl 1)]) dL_reads_97 rfl (Nat.le_of_ble_eq_true rfl) rfl ?_
                refine rb_iload hV dL_reads_98 rfl ?_
                refine rb_istore hV (L2 := [some (.inr (some 0)), some (.inr (some 3000)), some (.inl a0), some (.inl (words + 0)), some (.inl length), some (.inl (20 + o19)), some (.inl 1), some (.inl k), some (.inl g43), some (.inl 1)]) dL_reads_100 (Nat.le_of_ble_eq_true rfl) rfl ?_
                refine rb_aload_n hV dL_reads_102 rfl rfl ?_
                refine rb_iload hV dL_reads_103 rfl ?_
                refine rb_if_eq hV (tgt := 113) dL_reads_105 (by decide) (by unfold ab_r at *; omega) (fun z => absurd z (by decide)) (fun _ => ?_)
                refine rb_bipush hV dL_reads_108 (by decide) ?_
                refine rb_goto hV (tgt := 120) dL_reads_110 (by decide) ?_
                refine rb_callV hV (rest := []) dL_reads_120 (c_X9_type m 32 (by decide) hxm) lk_L_29 rfl (Or.inl ⟨8, _, TX9, 8, gw_0 _, rfl⟩) rfl ⟨rfl, rfl, (Nat.le_of_ble_eq_true rfl), (Nat.le_of_ble_eq_true rfl), (Nat.le_of_ble_eq_true rfl), (Nat.le_of_ble_eq_true rfl)⟩ (Nat.le_of_ble_eq_true rfl) (fun r9 h9 p9 => ?_)
                obtain ⟨t120, rfl, rfl, hx120, hk120, hrd120⟩ := rd_ty hm1.2 (by omega) (RD_b hrd) p9
                show V 123 [some (.inr (some 0)), some (.inr (some 3000)), some (.inl a0), some (.inl (words + 0)), some (.inl length), some (.inl (20 + o19)), some (.inl 1), some (.inl k), some (.inl g43), some (.inl 1)] [.inl (k + 1)] (WW t120) 0 0
                refine rb_istore hV (L2 := [some (.inr (some 0)), some (.inr (some 3000)), some (.inl a0), some (.inl (words + 0)), some (.inl (k + 1)), some (.inl (20 + o19)), some (.inl 1), some (.inl k), some (.inl g43), some (.inl 1)]) dL_reads_123 (Nat.le_of_ble_eq_true rfl) rfl ?_
                refine rb_iinc hV (L2 := [some (.inr (some 0)), some (.inr (some 3000)), some (.inl a0), some (.inl (words + 0)), some (.inl (k + 1)), some (.inl (20 + o19)), some (.inl 1), some (.inl (k + 1)), some (.inl g43), some (.inl 1)]) dL_reads_125 rfl rfl rfl ?_
                refine rb_goto hV (tgt := 31) dL_reads_128 (by decide) ?_
                refine rb_weak hV (L2 := [some (.inr (some 0)), some (.inr (some 3000)), some (.inl a0), some (.inl (words + 0)), some (.inl (k + 1)), some (.inl (20 + o19)), some (.inl 1), some (.inl (k + 1)), none, none]) ⟨rfl, ⟨rfl, ⟨rfl, ⟨rfl, ⟨rfl, ⟨rfl, ⟨rfl, ⟨rfl, trivial⟩⟩⟩⟩⟩⟩⟩⟩ ?_
                refine ih31 t120 (words + 0) (k + 1) 1 (k + 1) ?_ ?_ ?_ ?_ ?_ ?_
                · exact hx120
                · exact KEEP_trans hkm hk120
                · first | exact hrd120 | (rw [Int.add_zero]; exact hrd120)
                · omega
                · rfl
                · omega
        · refine rb_aload_n hV dL_reads_38 rfl rfl ?_
          refine rb_iload_n hV dL_reads_39 rfl rfl ?_
          refine rb_iload hV dL_reads_40 rfl ?_
          refine rb_iadd hV dL_reads_42 ?_
          refine rb_callSs hV (rest := []) dL_reads_43 rfl (c_L_cell Ln xs hLn hxs m (a0 + k) (by omega)) lk_L_21 rfl rfl ⟨rfl, rfl, (Nat.le_of_ble_eq_true rfl), (Nat.le_of_ble_eq_true rfl), (Nat.le_of_ble_eq_true rfl), (Nat.le_of_ble_eq_true rfl)⟩ (Nat.le_of_ble_eq_true rfl) (fun r9 h9 p9 => ?_)
          obtain ⟨g43, rfl, rfl, hg43⟩ := p9
          show V 46 [some (.inr (some 0)), some (.inr (some 3000)), some (.inl a0), some (.inl words), some (.inl length), some (.inl (20 + o19)), some (.inl 1), some (.inl k), none, none] [.inl g43] (WW m) 0 0
          refine rb_istore hV (L2 := [some (.inr (some 0)), some (.inr (some 3000)), some (.inl a0), some (.inl words), some (.inl length), some (.inl (20 + o19)), some (.inl 1), some (.inl k), some (.inl g43), none]) dL_reads_46 (Nat.le_of_ble_eq_true rfl) rfl ?_
          refine rb_iload hV dL_reads_48 rfl ?_
          refine rb_if_ne hV (tgt := 60) dL_reads_50 (by decide) (by unfold ab_r at *; omega) (fun _ => ?_) (fun z => absurd z (by decide))
          refine rb_iload hV dL_reads_60 rfl ?_
          refine rb_if_ne hV (tgt := 77) dL_reads_62 (by decide) (by unfold ab_r at *; omega) (fun c62 => ?_) (fun c62 => ?_)
          · refine rb_iconst hV dL_reads_77 ?_
            refine rb_istore hV (L2 := [some (.inr (some 0)), some (.inr (some 3000)), some (.inl a0), some (.inl words), some (.inl length), some (.inl (20 + o19)), some (.inl 1), some (.inl k), some (.inl g43), some (.inl 0)]) dL_reads_78 (Nat.le_of_ble_eq_true rfl) rfl ?_
            refine rb_iload_n hV dL_reads_80 rfl rfl ?_
            refine rb_iload hV dL_reads_81 rfl ?_
            refine rb_if_eq hV (tgt := 95) dL_reads_83 (by decide) (by unfold ab_r at *; omega) (fun z => absurd z (by decide)) (fun _ => ?_)
            refine rb_iload hV dL_reads_86 rfl ?_
            refine rb_if_ne hV (tgt := 95) dL_reads_88 (by decide) (by unfold ab_r at *; omega) (fun z => absurd z (by decide)) (fun _ => ?_)
            refine rb_iconst hV dL_reads_91 ?_
            refine rb_goto hV (tgt := 96) dL_reads_92 (by decide) ?_
            refine rb_iadd hV dL_reads_96 ?_
            refine rb_istore_n hV (L2 := [some (.inr (some 0)), some (.inr (some 3000)), some (.inl a0), some (.inl (words + 1)), some (.inl length), some (.inl (20 + o19)), some (.inl 1), some (.inl k), some (.inl g43), some (.inl 0)]) dL_reads_97 rfl (Nat.le_of_ble_eq_true rfl) rfl ?_
            refine rb_iload hV dL_reads_98 rfl ?_
            refine rb_istore hV (L2 := [some (.inr (some 0)), some (.inr (some 3000)), some (.inl a0), some (.inl (words + 1)), some (.inl length), some (.inl (20 + o19)), some (.inl 0), some (.inl k), some (.inl g43), some (.inl 0)]) dL_reads_100 (Nat.le_of_ble_eq_true rfl) rfl ?_
            refine rb_aload_n hV dL_reads_102 rfl rfl ?_
            refine rb_iload hV dL_reads_103 rfl ?_
            refine rb_if_eq hV (tgt := 113) dL_reads_105 (by decide) (by unfold ab_r at *; omega) (fun _ => ?_) (fun z => absurd z (by decide))
            refine rb_iload hV dL_reads_113 rfl ?_
            refine rb_iconst hV dL_reads_115 ?_
            refine rb_ishrx hV dL_reads_116 (fun z116 r116 => ?_)
            refine rb_callS hV (rest := [.inr (some 0)]) dL_reads_117 (c_L_sign m z116) lk_L_25 rfl rfl ⟨rfl, rfl, (Nat.le_of_ble_eq_true rfl), (Nat.le_of_ble_eq_true rfl), (Nat.le_of_ble_eq_true rfl), (Nat.le_of_ble_eq_true rfl)⟩ (Nat.le_of_ble_eq_true rfl) (fun r9 h9 p9 => ?_)
            obtain ⟨z117, rfl, rfl, hz117⟩ := p9
            show V 120 [some (.inr (some 0)), some (.inr (some 3000)), some (.inl a0), some (.inl (words + 1)), some (.inl length), some (.inl (20 + o19)), some (.inl 0), some (.inl k), some (.inl g43), some (.inl 0)] [.inl z117, .inr (some 0)] (WW m) 0 0
            refine rb_callV hV (rest := []) dL_reads_120 (c_X9_type m z117 hz117.1 hxm) lk_L_29 rfl (Or.inl ⟨8, _, TX9, 8, gw_0 _, rfl⟩) rfl ⟨rfl, rfl, (Nat.le_of_ble_eq_true rfl), (Nat.le_of_ble_eq_true rfl), (Nat.le_of_ble_eq_true rfl), (Nat.le_of_ble_eq_true rfl)⟩ (Nat.le_of_ble_eq_true rfl) (fun r9 h9 p9 => ?_)
            obtain ⟨t120, rfl, rfl, hx120, hk120, hrd120⟩ := rd_ty hm1.2 (by omega) (RD_1 hrd hz117) p9
            show V 123 [some (.inr (some 0)), some (.inr (some 3000)), some (.inl a0), some (.inl (words + 1)), some (.inl length), some (.inl (20 + o19)), some (.inl 0), some (.inl k), some (.inl g43), some (.inl 0)] [.inl (k + 1)] (WW t120) 0 0
            refine rb_istore hV (L2 := [some (.inr (some 0)), some (.inr (some 3000)), some (.inl a0), some (.inl (words + 1)), some (.inl (k + 1)), some (.inl (20 + o19)), some (.inl 0), some (.inl k), some (.inl g43), some (.inl 0)]) dL_reads_123 (Nat.le_of_ble_eq_true rfl) rfl ?_
            refine rb_iinc hV (L2 := [some (.inr (some 0)), some (.inr (some 3000)), some (.inl a0), some (.inl (words + 1)), some (.inl (k + 1)), some (.inl (20 + o19)), some (.inl 0), some (.inl (k + 1)), some (.inl g43), some (.inl 0)]) dL_reads_125 rfl rfl rfl ?_
            refine rb_goto hV (tgt := 31) dL_reads_128 (by decide) ?_
            refine rb_weak hV (L2 := [some (.inr (some 0)), some (.inr (some 3000)), some (.inl a0), some (.inl (words + 1)), some (.inl (k + 1)), some (.inl (20 + o19)), some (.inl 0), some (.inl (k + 1)), none, none]) ⟨rfl, ⟨rfl, ⟨rfl, ⟨rfl, ⟨rfl, ⟨rfl, ⟨rfl, ⟨rfl, trivial⟩⟩⟩⟩⟩⟩⟩⟩ ?_
            refine ih31 t120 (words + 1) (k + 1) 0 (k + 1) ?_ ?_ ?_ ?_ ?_ ?_
            · exact hx120
            · exact KEEP_trans hkm hk120
            · first | exact hrd120 | (rw [Int.add_zero]; exact hrd120)
            · omega
            · rfl
            · omega
          · refine rb_iload hV dL_reads_65 rfl ?_
            refine rb_bipush hV dL_reads_67 (by decide) ?_
            refine rb_iandx hV dL_reads_69 (fun z69 r69 => ?_)
            refine rb_if_ne hV (tgt := 77) dL_reads_70 (by decide) (by unfold ab_r at *; omega) (fun c70 => ?_) (fun c70 => ?_)
            · refine rb_iconst hV dL_reads_77 ?_
              refine rb_istore hV (L2 := [some (.inr (some 0)), some (.inr (some 3000)), some (.inl a0), some (.inl words), some (.inl length), some (.inl (20 + o19)), some (.inl 1), some (.inl k), some (.inl g43), some (.inl 0)]) dL_reads_78 (Nat.le_of_ble_eq_true rfl) rfl ?_
              refine rb_iload_n hV dL_reads_80 rfl rfl ?_
              refine rb_iload hV dL_reads_81 rfl ?_
              refine rb_if_eq hV (tgt := 95) dL_reads_83 (by decide) (by unfold ab_r at *; omega) (fun z => absurd z (by decide)) (fun _ => ?_)
              refine rb_iload hV dL_reads_86 rfl ?_
              refine rb_if_ne hV (tgt := 95) dL_reads_88 (by decide) (by unfold ab_r at *; omega) (fun z => absurd z (by decide)) (fun _ => ?_)
              refine rb_iconst hV dL_reads_91 ?_
              refine rb_goto hV (tgt := 96) dL_reads_92 (by decide) ?_
              refine rb_iadd hV dL_reads_96 ?_
              refine rb_istore_n hV (L2 := [some (.inr (some 0)), some (.inr (some 3000)), some (.inl a0), some (.inl (words + 1)), some (.inl length), some (.inl (20 + o19)), some (.inl 1), some (.inl k), some (.inl g43), some (.inl 0)]) dL_reads_97 rfl (Nat.le_of_ble_eq_true rfl) rfl ?_
              refine rb_iload hV dL_reads_98 rfl ?_
              refine rb_istore hV (L2 := [some (.inr (some 0)), some (.inr (some 3000)), some (.inl a0), some (.inl (words + 1)), some (.inl length), some (.inl (20 + o19)), some (.inl 0), some (.inl k), some (.inl g43), some (.inl 0)]) dL_reads_100 (Nat.le_of_ble_eq_true rfl) rfl ?_
              refine rb_aload_n hV dL_reads_102 rfl rfl ?_
              refine rb_iload hV dL_reads_103 rfl ?_
              refine rb_if_eq hV (tgt := 113) dL_reads_105 (by decide) (by unfold ab_r at *; omega) (fun _ => ?_) (fun z => absurd z (by decide))
              refine rb_iload hV dL_reads_113 rfl ?_
              refine rb_iconst hV dL_reads_115 ?_
              refine rb_ishrx hV dL_reads_116 (fun z116 r116 => ?_)
              refine rb_callS hV (rest := [.inr (some 0)]) dL_reads_117 (c_L_sign m z116) lk_L_25 rfl rfl ⟨rfl, rfl, (Nat.le_of_ble_eq_true rfl), (Nat.le_of_ble_eq_true rfl), (Nat.le_of_ble_eq_true rfl), (Nat.le_of_ble_eq_true rfl)⟩ (Nat.le_of_ble_eq_true rfl) (fun r9 h9 p9 => ?_)
              obtain ⟨z117, rfl, rfl, hz117⟩ := p9
              show V 120 [some (.inr (some 0)), some (.inr (some 3000)), some (.inl a0), some (.inl (words + 1)), some (.inl length), some (.inl (20 + o19)), some (.inl 0), some (.inl k), some (.inl g43), some (.inl 0)] [.inl z117, .inr (some 0)] (WW m) 0 0
              refine rb_callV hV (rest := []) dL_reads_120 (c_X9_type m z117 hz117.1 hxm) lk_L_29 rfl (Or.inl ⟨8, _, TX9, 8, gw_0 _, rfl⟩) rfl ⟨rfl, rfl, (Nat.le_of_ble_eq_true rfl), (Nat.le_of_ble_eq_true rfl), (Nat.le_of_ble_eq_true rfl), (Nat.le_of_ble_eq_true rfl)⟩ (Nat.le_of_ble_eq_true rfl) (fun r9 h9 p9 => ?_)
              obtain ⟨t120, rfl, rfl, hx120, hk120, hrd120⟩ := rd_ty hm1.2 (by omega) (RD_1 hrd hz117) p9
              show V 123 [some (.inr (some 0)), some (.inr (some 3000)), some (.inl a0), some (.inl (words + 1)), some (.inl length), some (.inl (20 + o19)), some (.inl 0), some (.inl k), some (.inl g43), some (.inl 0)] [.inl (k + 1)] (WW t120) 0 0
              refine rb_istore hV (L2 := [some (.inr (some 0)), some (.inr (some 3000)), some (.inl a0), some (.inl (words + 1)), some (.inl (k + 1)), some (.inl (20 + o19)), some (.inl 0), some (.inl k), some (.inl g43), some (.inl 0)]) dL_reads_123 (Nat.le_of_ble_eq_true rfl) rfl ?_
              refine rb_iinc hV (L2 := [some (.inr (some 0)), some (.inr (some 3000)), some (.inl a0), some (.inl (words + 1)), some (.inl (k + 1)), some (.inl (20 + o19)), some (.inl 0), some (.inl (k + 1)), some (.inl g43), some (.inl 0)]) dL_reads_125 rfl rfl rfl ?_
              refine rb_goto hV (tgt := 31) dL_reads_128 (by decide) ?_
              refine rb_weak hV (L2 := [some (.inr (some 0)), some (.inr (some 3000)), some (.inl a0), some (.inl (words + 1)), some (.inl (k + 1)), some (.inl (20 + o19)), some (.inl 0), some (.inl (k + 1)), none, none]) ⟨rfl, ⟨rfl, ⟨rfl, ⟨rfl, ⟨rfl, ⟨rfl, ⟨rfl, ⟨rfl, trivial⟩⟩⟩⟩⟩⟩⟩⟩ ?_
              refine ih31 t120 (words + 1) (k + 1) 0 (k + 1) ?_ ?_ ?_ ?_ ?_ ?_
              · exact hx120
              · exact KEEP_trans hkm hk120
              · first | exact hrd120 | (rw [Int.add_zero]; exact hrd120)
              · omega
              · rfl
              · omega
            · refine rb_iconst hV dL_reads_73 ?_
              refine rb_goto hV (tgt := 78) dL_reads_74 (by decide) ?_
              refine rb_istore hV (L2 := [some (.inr (some 0)), some (.inr (some 3000)), some (.inl a0), some (.inl words), some (.inl length), some (.inl (20 + o19)), some (.inl 1), some (.inl k), some (.inl g43), some (.inl 1)]) dL_reads_78 (Nat.le_of_ble_eq_true rfl) rfl ?_
              refine rb_iload_n hV dL_reads_80 rfl rfl ?_
              refine rb_iload hV dL_reads_81 rfl ?_
              refine rb_if_eq hV (tgt := 95) dL_reads_83 (by decide) (by unfold ab_r at *; omega) (fun z => absurd z (by decide)) (fun _ => ?_)
              refine rb_iload hV dL_reads_86 rfl ?_
              refine rb_if_ne hV (tgt := 95) dL_reads_88 (by decide) (by unfold ab_r at *; omega) (fun _ => ?_) (fun z => absurd z (by decide))
              refine rb_iconst hV dL_reads_95 ?_
              refine rb_iadd hV dL_reads_96 ?_
              refine rb_istore_n hV (L2 := [some (.inr (some 0)), some (.inr (some 3000)), some (.inl a0), some (.inl (words + 0)), some (.inl length), some (.inl (20 + o19)), some (.inl 1), some (.inl k), some (.inl g43), some (.inl 1)]) dL_reads_97 rfl (Nat.le_of_ble_eq_true rfl) rfl ?_
              refine rb_iload hV dL_reads_98 rfl ?_
              refine rb_istore hV (L2 := [some (.inr (some 0)), some (.inr (some 3000)), some (.inl a0), some (.inl (words + 0)), some (.inl length), some (.inl (20 + o19)), some (.inl 1), some (.inl k), some (.inl g43), some (.inl 1)]) dL_reads_100 (Nat.le_of_ble_eq_true rfl) rfl ?_
              refine rb_aload_n hV dL_reads_102 rfl rfl ?_
              refine rb_iload hV dL_reads_103 rfl ?_
              refine rb_if_eq hV (tgt := 113) dL_reads_105 (by decide) (by unfold ab_r at *; omega) (fun z => absurd z (by decide)) (fun _ => ?_)
              refine rb_bipush hV dL_reads_108 (by decide) ?_
              refine rb_goto hV (tgt := 120) dL_reads_110 (by decide) ?_
              refine rb_callV hV (rest := []) dL_reads_120 (c_X9_type m 32 (by decide) hxm) lk_L_29 rfl (Or.inl ⟨8, _, TX9, 8, gw_0 _, rfl⟩) rfl ⟨rfl, rfl, (Nat.le_of_ble_eq_true rfl), (Nat.le_of_ble_eq_true rfl), (Nat.le_of_ble_eq_true rfl), (Nat.le_of_ble_eq_true rfl)⟩ (Nat.le_of_ble_eq_true rfl) (fun r9 h9 p9 => ?_)
              obtain ⟨t120, rfl, rfl, hx120, hk120, hrd120⟩ := rd_ty hm1.2 (by omega) (RD_b hrd) p9
              show V 123 [some (.inr (some 0)), some (.inr (some 3000)), some (.inl a0), some (.inl (words + 0)), some (.inl length), some (.inl (20 + o19)), some (.inl 1), some (.inl k), some (.inl g43), some (.inl 1)] [.inl (k + 1)] (WW t120) 0 0
              refine rb_istore hV (L2 := [some (.inr (some 0)), some (.inr (some 3000)), some (.inl a0), some (.inl (words + 0)), some (.inl (k + 1)), some (.inl (20 + o19)), some (.inl 1), some (.inl k), some (.inl g43), some (.inl 1)]) dL_reads_123 (Nat.le_of_ble_eq_true rfl) rfl ?_
              refine rb_iinc hV (L2 := [some (.inr (some 0)), some (.inr (some 3000)), some (.inl a0), some (.inl (words + 0)), some (.inl (k + 1)), some (.inl (20 + o19)), some (.inl 1), some (.inl (k + 1)), some (.inl g43), some (.inl 1)]) dL_reads_125 rfl rfl rfl ?_
              refine rb_goto hV (tgt := 31) dL_reads_128 (by decide) ?_
              refine rb_weak hV (L2 := [some (.inr (some 0)), some (.inr (some 3000)), some (.inl a0), some (.inl (words + 0)), some (.inl (k + 1)), some (.inl (20 + o19)), some (.inl 1), some (.inl (k + 1)), none, none]) ⟨rfl, ⟨rfl, ⟨rfl, ⟨rfl, ⟨rfl, ⟨rfl, ⟨rfl, ⟨rfl, trivial⟩⟩⟩⟩⟩⟩⟩⟩ ?_
              refine ih31 t120 (words + 0) (k + 1) 1 (k + 1) ?_ ?_ ?_ ?_ ?_ ?_
              · exact hx120
              · exact KEEP_trans hkm hk120
              · first | exact hrd120 | (rw [Int.add_zero]; exact hrd120)
              · omega
              · rfl
              · omega
  refine h31 _ (ab_s s 104 (fun _ => 0)) 0 0 1 0 ?_ ?_ ?_ ?_ ?_ (Nat.lt_succ_self _)
  · exact hxc1
  · exact fun k hk => ab_s_ne (fun q => hk (by rw [q]; decide))
  · exact RDI_0 rfl
  · omega
  · rfl
