/-! a river's spaces -/
theorem kth {f : Int → Int} (hf : ∀ v, 0 ≤ f v ∧ f v ≤ 1) : ∀ (k : Nat) (r : Int), 0 ≤ r → r < Sm f 0 k → ∃ v : Int, 0 ≤ v ∧ v < k ∧ f v = 1 ∧ Sm f 0 v = r
  | 0, r, h0, h1 => by
    rw [show ((0 : Nat) : Int) = 0 from rfl, Sm_self] at h1
    omega
  | k + 1, r, h0, h1 => by
    rw [show ((k + 1 : Nat) : Int) = (k : Int) + 1 by omega, Sm_succ f (by omega)] at h1
    rcases Int.lt_or_le r (Sm f 0 k) with q | q
    · obtain ⟨v, a, b, c, e⟩ := kth hf k r h0 q
      exact ⟨v, a, by omega, c, e⟩
    · have := hf k
      exact ⟨k, by omega, by omega, by omega, by omega⟩
def upn (ab : Int → Int) : Nat → Int → Int
  | 0, v => v
  | k + 1, v => ab (upn ab k v)
theorem upn_ok {lo sl mid ln ab : Int → Int} {t w v : Int} (h : LNp lo sl mid ln ab t w) (h0 : 0 ≤ v) (h1 : v < w) (h2 : ¬ sl v = -1) : ∀ k : Nat, (k : Int) < ln v → (0 ≤ upn ab k v ∧ upn ab k v < w) ∧ ¬ sl (upn ab k v) = -1 ∧ ln (upn ab k v) = ln v - k ∧ lo (upn ab k v) = lo v - k
  | 0, _ => by
    show (0 ≤ v ∧ v < w) ∧ ¬ sl v = -1 ∧ ln v = ln v - ((0 : Nat) : Int) ∧ lo v = lo v - ((0 : Nat) : Int)
    exact ⟨⟨h0, h1⟩, h2, by omega, by omega⟩
  | k + 1, hk => by
    obtain ⟨⟨a1, a2⟩, a3, a4, a5⟩ := upn_ok h h0 h1 h2 k (by omega)
    obtain ⟨b1, b2⟩ := h _ a1 a2 a3
    show (0 ≤ ab (upn ab k v) ∧ ab (upn ab k v) < w) ∧ ¬ sl (ab (upn ab k v)) = -1 ∧ ln (ab (upn ab k v)) = ln v - ((k + 1 : Nat) : Int) ∧ lo (ab (upn ab k v)) = lo v - ((k + 1 : Nat) : Int)
    generalize upn ab k v = u at a1 a2 a3 a4 a5 b1 b2 ⊢
    have b3 : ¬ ab u = -1 := fun z => by
      rw [if_pos z] at b2
      omega
    rw [if_neg b3] at b2
    obtain ⟨c1, c2, c3, c4⟩ := (AB_lt b1).resolve_left b3
    exact ⟨⟨c1, by omega⟩, c4, by omega, by omega⟩
def RIV (n am : Int) (lo sl ln gn ab fw : Int → Int) (rv sp x : Int) : Prop := (¬ (0 ≤ rv ∧ rv < am) ∧ x = -1001) ∨ ((0 ≤ rv ∧ rv < am) ∧ sp < 0 ∧ x = -1002) ∨ ((0 ≤ rv ∧ rv < am) ∧ 0 ≤ sp ∧ ∃ v, 0 ≤ v ∧ v < n - 1 ∧ ei sl ln gn v = 1 ∧ Sm (ei sl ln gn) 0 v = rv ∧ ((¬ sp < ln v ∧ x = -1004) ∨ (sp < ln v ∧ x = lo (upn ab sp.toNat v) * 100 + upn ab sp.toNat v - fw (lo (upn ab sp.toNat v)))))
theorem ei_1 {sl ln gn : Int → Int} {v : Int} (h : ei sl ln gn v = 1) : ¬ sl v = -1 ∧ 3 ≤ ln v ∧ gn v = 0 := by
  unfold ei at h
  split at h
  · assumption
  · omega

set_option maxRecDepth 20000 in
theorem c_X5_spaceOf (s : Nat → Int → Int) (rv sp : Int) (hrv : 0 ≤ rv ∧ rv < 60) (hsp : 0 ≤ sp) (hsp2 : ab_r sp) (hv0 : 0 ≤ s 36 rv ∧ s 36 rv < s 103 0 - 1) (hn : 0 ≤ s 103 0 ∧ s 103 0 ≤ 60) (hsl : ¬ s 28 (s 36 rv) = -1) (hLN : LNp (s 27) (s 28) (s 33) (s 32) (s 34) (2 * s 102 0) (s 103 0 - 1)) (hln : ∀ v, 0 ≤ s 32 v ∧ s 32 v ≤ 60) : ab_Mt yX5_spaceOf cX5_spaceOf 5 (some .int) ({ frames := 1, cells := 0, slots := 0, locals := 21 } : Room) false 0 0 [.inr (some 31), .inl rv, .inl sp] (WW s) (fun r h2 => ∃ x, r = some (.inl x) ∧ h2 = WW s ∧ ((sp < s 32 (s 36 rv) ∧ x = upn (s 34) sp.toNat (s 36 rv)) ∨ (¬ sp < s 32 (s 36 rv) ∧ x = -1))) := by
  refine ab_mk RX5 false rfl pn_X5_spaceOf (fun z => by cases z) (Nat.le_of_ble_eq_true rfl) (fun V hV => ?_)
  show V 0 [some (.inr (some 31)), some (.inl rv), some (.inl sp), none, none] [] (WW s) 0 0
  refine rb_aload_n hV dX5_spaceOf_0 rfl rfl ?_
  refine rb_get hV (v := .inr (some 36)) dX5_spaceOf_1 ⟨RX5, TX5, 8, rfl, (Nat.le_of_ble_eq_true rfl), lf_X5_35⟩ (gw_31 _) rfl ?_
  refine rb_iload_n hV dX5_spaceOf_4 rfl rfl ?_
  refine rb_callS hV (rest := []) dX5_spaceOf_5 (c_X9_at s 36 _ (s 36) rv (gw_36 _) (Nat.le_of_ble_eq_true rfl) (by omega)) lk_X5_38 rfl rfl ⟨rfl, rfl, (Nat.le_of_ble_eq_true rfl), (Nat.le_of_ble_eq_true rfl), (Nat.le_of_ble_eq_true rfl), (Nat.le_of_ble_eq_true rfl)⟩ (Nat.le_of_ble_eq_true rfl) (fun r9 h9 p9 => ?_)
  obtain ⟨rfl, rfl⟩ := p9
  show V 8 [some (.inr (some 31)), some (.inl rv), some (.inl sp), none, none] [.inl (s 36 rv)] (WW s) 0 0
  refine rb_istore_n hV (L2 := [some (.inr (some 31)), some (.inl rv), some (.inl sp), some (.inl (s 36 rv)), none]) dX5_spaceOf_8 rfl (Nat.le_of_ble_eq_true rfl) rfl ?_
  have hl6 := hln (s 36 rv)
  refine rb_iload_n hV dX5_spaceOf_9 rfl rfl ?_
  refine rb_aload_n hV dX5_spaceOf_10 rfl rfl ?_
  refine rb_get hV (v := .inr (some 32)) dX5_spaceOf_11 ⟨RX5, TX5, 8, rfl, (Nat.le_of_ble_eq_true rfl), lf_X5_21⟩ (gw_31 _) rfl ?_
  refine rb_iload_n hV dX5_spaceOf_14 rfl rfl ?_
  refine rb_callS hV (rest := [.inl sp]) dX5_spaceOf_15 (c_X9_at s 32 _ (s 32) (s 36 rv) (gw_32 _) (Nat.le_of_ble_eq_true rfl) (by omega)) lk_X5_38 rfl rfl ⟨rfl, rfl, (Nat.le_of_ble_eq_true rfl), (Nat.le_of_ble_eq_true rfl), (Nat.le_of_ble_eq_true rfl), (Nat.le_of_ble_eq_true rfl)⟩ (Nat.le_of_ble_eq_true rfl) (fun r9 h9 p9 => ?_)
  obtain ⟨rfl, rfl⟩ := p9
  show V 18 [some (.inr (some 31)), some (.inl rv), some (.inl sp), some (.inl (s 36 rv)), none] [.inl (s 32 (s 36 rv)), .inl sp] (WW s) 0 0
  refine rb_icmp_lt hV (tgt := 23) dX5_spaceOf_18 (by decide) ⟨(by unfold ab_r at *; omega), (by unfold ab_r at *; omega)⟩ (fun c18 => ?_) (fun c18 => ?_)
  · refine rb_iconst hV dX5_spaceOf_23 ?_
    refine rb_istore hV (L2 := [some (.inr (some 31)), some (.inl rv), some (.inl sp), some (.inl (s 36 rv)), some (.inl 0)]) dX5_spaceOf_24 (Nat.le_of_ble_eq_true rfl) rfl ?_
    have h26 : ∀ (n26 : Nat) (p : Int) (i : Int), (0 ≤ i ∧ i ≤ sp) → (p = upn (s 34) i.toNat (s 36 rv)) → ((sp - i).toNat) < n26 → V 26 [some (.inr (some 31)), some (.inl rv), some (.inl sp), some (.inl p), some (.inl i)] [] (WW s) 0 0 := by
      intro n26
      induction n26 with
      | zero => intro p i h1 h2 hm; omega
      | succ n26 ih26 =>
        intro p i h1 h2 hm
        have hu := upn_ok hLN hv0.1 hv0.2 hsl i.toNat (by omega)
        rw [← h2] at hu
        have hu1 := hu.1
        refine rb_iload hV dX5_spaceOf_26 rfl ?_
        refine rb_iload_n hV dX5_spaceOf_28 rfl rfl ?_
        refine rb_icmp_ge hV (tgt := 52) dX5_spaceOf_29 (by decide) ⟨(by unfold ab_r at *; omega), (by unfold ab_r at *; omega)⟩ (fun c29 => ?_) (fun c29 => ?_)
        · refine rb_iload_n hV dX5_spaceOf_52 rfl rfl ?_
          refine rb_ret hV (r := some (.inl p)) dX5_spaceOf_53 rfl ⟨(Nat.le_of_ble_eq_true rfl), (Nat.le_of_ble_eq_true rfl)⟩ trivial ?_
          exact ⟨_, rfl, rfl, Or.inl ⟨by omega, by rw [h2, show i = sp by omega]⟩⟩
        · refine rb_iload_n hV dX5_spaceOf_32 rfl rfl ?_
          refine rb_iconst hV dX5_spaceOf_33 ?_
          refine rb_icmp_eq hV (tgt := 52) dX5_spaceOf_34 (by decide) ⟨(by unfold ab_r at *; omega), (by unfold ab_r at *; omega)⟩ (fun c34 => absurd c34 (by omega)) (fun c34 => ?_)
          refine rb_aload_n hV dX5_spaceOf_37 rfl rfl ?_
          refine rb_get hV (v := .inr (some 34)) dX5_spaceOf_38 ⟨RX5, TX5, 8, rfl, (Nat.le_of_ble_eq_true rfl), lf_X5_28⟩ (gw_31 _) rfl ?_
          refine rb_iload_n hV dX5_spaceOf_41 rfl rfl ?_
          refine rb_callS hV (rest := []) dX5_spaceOf_42 (c_X9_at s 34 _ (s 34) p (gw_34 _) (Nat.le_of_ble_eq_true rfl) (by omega)) lk_X5_38 rfl rfl ⟨rfl, rfl, (Nat.le_of_ble_eq_true rfl), (Nat.le_of_ble_eq_true rfl), (Nat.le_of_ble_eq_true rfl), (Nat.le_of_ble_eq_true rfl)⟩ (Nat.le_of_ble_eq_true rfl) (fun r9 h9 p9 => ?_)
          obtain ⟨rfl, rfl⟩ := p9
          show V 45 [some (.inr (some 31)), some (.inl rv), some (.inl sp), some (.inl p), some (.inl i)] [.inl (s 34 p)] (WW s) 0 0
          refine rb_istore_n hV (L2 := [some (.inr (some 31)), some (.inl rv), some (.inl sp), some (.inl (s 34 p)), some (.inl i)]) dX5_spaceOf_45 rfl (Nat.le_of_ble_eq_true rfl) rfl ?_
          refine rb_iinc hV (L2 := [some (.inr (some 31)), some (.inl rv), some (.inl sp), some (.inl (s 34 p)), some (.inl (i + 1))]) dX5_spaceOf_46 rfl rfl rfl ?_
          refine rb_goto hV (tgt := 26) dX5_spaceOf_49 (by decide) ?_
          refine ih26 (s 34 p) (i + 1) ?_ ?_ ?_
          · omega
          · rw [show (i + 1).toNat = i.toNat + 1 by omega, h2]
            rfl
          · omega
    refine h26 _ (s 36 rv) 0 ?_ ?_ (Nat.lt_succ_self _)
    · omega
    · rfl
  · refine rb_iconst hV dX5_spaceOf_21 ?_
    refine rb_ret hV (r := some (.inl (-1))) dX5_spaceOf_22 rfl ⟨(Nat.le_of_ble_eq_true rfl), (Nat.le_of_ble_eq_true rfl)⟩ trivial ?_
    exact ⟨_, rfl, rfl, Or.inr ⟨by omega, rfl⟩⟩

set_option maxRecDepth 20000 in
theorem c_X9_river (s : Nat → Int → Int) (rv sp : Int) (hrv0 : ab_r rv) (hsp0 : ab_r sp) (hx : XI s) : ab_Mt yX9_river cX9_river 5 (some .int) ({ frames := 2, cells := 0, slots := 0, locals := 45 } : Room) false 0 0 [.inr (some 0), .inl rv, .inl sp] (WW s) (fun r h2 => ∃ x, r = some (.inl x) ∧ h2 = WW s ∧ RIV (s 103 0) (s 109 0) (s 27) (s 28) (s 32) (s 35) (s 34) (s 26) rv sp x) := by
  refine ab_mk RX9 false rfl pn_X9_river (fun z => by cases z) (Nat.le_of_ble_eq_true rfl) (fun V hV => ?_)
  show V 0 [some (.inr (some 0)), some (.inl rv), some (.inl sp), none, none] [] (WW s) 0 0
  obtain ⟨hp, hr, hbw, hv, hst, hz, hx1, hx2, hx3, hx4⟩ := id hx
  have hn : 0 ≤ s 103 0 ∧ s 103 0 ≤ 60 := hp.1
  have hnl : 0 ≤ s 107 0 ∧ s 107 0 ≤ s 103 0 := hv.1
  have hb := BWp_BS hp hbw
  have hamb : ab_r (s 109 0) := by
    rcases hst.2.2.2 with q | q
    · have := q.2.1; unfold ab_r; omega
    · have q1 := Sei_b (s 28) (s 32) (s 35) (w := s 103 0 - 1) (by have := q.1; omega)
      have q2 : s 109 0 = Sm (ei (s 28) (s 32) (s 35)) 0 (s 103 0 - 1) := q.2.2.2.2.2.2.2.1
      unfold ab_r; omega
  refine rb_iload_n hV dX9_river_0 rfl rfl ?_
  refine rb_if_lt hV (tgt := 18) dX9_river_1 (by decide) (by unfold ab_r at *; omega) (fun c1 => ?_) (fun c1 => ?_)
  · refine rb_sipush hV dX9_river_18 (by decide) ?_
    refine rb_ret hV (r := some (.inl (-1001))) dX9_river_21 rfl ⟨(Nat.le_of_ble_eq_true rfl), (Nat.le_of_ble_eq_true rfl)⟩ trivial ?_
    exact ⟨_, rfl, rfl, Or.inl ⟨by omega, rfl⟩⟩
  · refine rb_iload_n hV dX9_river_4 rfl rfl ?_
    refine rb_aload_n hV dX9_river_5 rfl rfl ?_
    refine rb_get hV (v := .inr (some 25)) dX9_river_6 ⟨RX9, TX9, 8, rfl, (Nat.le_of_ble_eq_true rfl), lf_X9_60⟩ (gw_0 _) rfl ?_
    refine rb_get hV (v := .inr (some 31)) dX9_river_9 ⟨RX1, TX1, 12, rfl, (Nat.le_of_ble_eq_true rfl), lf_X9_148⟩ (gw_25 _) rfl ?_
    refine rb_get hV (v := .inl (s 109 0)) dX9_river_12 ⟨RX5, TX5, 8, rfl, (Nat.le_of_ble_eq_true rfl), lf_X9_152⟩ (gw_31 _) rfl ?_
    refine rb_icmp_lt hV (tgt := 22) dX9_river_15 (by decide) ⟨(by unfold ab_r at *; omega), (by unfold ab_r at *; omega)⟩ (fun c15 => ?_) (fun c15 => ?_)
    · refine rb_iload_n hV dX9_river_22 rfl rfl ?_
      refine rb_if_ge hV (tgt := 30) dX9_river_23 (by decide) (by unfold ab_r at *; omega) (fun c23 => ?_) (fun c23 => ?_)
      · have hRB : 0 ≤ rv ∧ rv < s 109 0 := by omega
        obtain ⟨hnz, hLN, hl60, hEN, ham⟩ : ¬ s 107 0 = 0 ∧ LNp (s 27) (s 28) (s 33) (s 32) (s 34) (2 * s 102 0) (s 103 0 - 1) ∧ (∀ v, 0 ≤ s 32 v ∧ s 32 v ≤ 60) ∧ ENp (s 28) (s 32) (s 35) (s 36) (s 103 0 - 1) ∧ s 109 0 = Sm (ei (s 28) (s 32) (s 35)) 0 (s 103 0 - 1) := by
          rcases hst.2.2.2 with q | q
          · exact absurd q.2.1 (by omega)
          · exact ⟨q.1, q.2.2.1, q.2.2.2.2.2.1, q.2.2.2.2.2.2.1, q.2.2.2.2.2.2.2.1⟩
        have hsb := Sei_b (s 28) (s 32) (s 35) (w := s 103 0 - 1) (by omega)
        obtain ⟨v, v0, v1, v2, v3⟩ := kth (ei_b (s 28) (s 32) (s 35)) (s 103 0 - 1).toNat rv hRB.1 (by rw [show ((s 103 0 - 1).toNat : Int) = s 103 0 - 1 by omega, ← ham]; exact hRB.2)
        replace v1 : v < s 103 0 - 1 := by omega
        have hen : s 36 rv = v := by rw [← v3]; exact hEN v v0 v1 v2
        subst hen
        refine rb_aload_n hV dX9_river_30 rfl rfl ?_
        refine rb_get hV (v := .inr (some 25)) dX9_river_31 ⟨RX9, TX9, 8, rfl, (Nat.le_of_ble_eq_true rfl), lf_X9_60⟩ (gw_0 _) rfl ?_
        refine rb_get hV (v := .inr (some 31)) dX9_river_34 ⟨RX1, TX1, 12, rfl, (Nat.le_of_ble_eq_true rfl), lf_X9_148⟩ (gw_25 _) rfl ?_
        refine rb_iload_n hV dX9_river_37 rfl rfl ?_
        refine rb_iload_n hV dX9_river_38 rfl rfl ?_
        refine rb_callV hV (rest := []) dX9_river_39 (c_X5_spaceOf s rv sp (by have := hn; omega) (by omega) hsp0 ⟨v0, v1⟩ hn (ei_1 v2).1 hLN hl60) lk_X9_230 rfl (Or.inl ⟨5, _, TX5, 8, gw_31 _, rfl⟩) rfl ⟨rfl, rfl, (Nat.le_of_ble_eq_true rfl), (Nat.le_of_ble_eq_true rfl), (Nat.le_of_ble_eq_true rfl), (Nat.le_of_ble_eq_true rfl)⟩ (Nat.le_of_ble_eq_true rfl) (fun r9 h9 p9 => ?_)
        obtain ⟨v9, rfl, rfl, hv9⟩ := p9
        have hvb : v9 = -1 ∨ (0 ≤ v9 ∧ v9 < s 103 0 - 1) := by
          rcases hv9 with ⟨q1, q2⟩ | ⟨q1, q2⟩
          · have q3 := (upn_ok hLN v0 v1 (ei_1 v2).1 sp.toNat (by omega)).1
            rw [← q2] at q3
            exact Or.inr q3
          · exact Or.inl q2
        show V 42 [some (.inr (some 0)), some (.inl rv), some (.inl sp), none, none] [.inl v9] (WW s) 0 0
        refine rb_istore_n hV (L2 := [some (.inr (some 0)), some (.inl rv), some (.inl sp), some (.inl v9), none]) dX9_river_42 rfl (Nat.le_of_ble_eq_true rfl) rfl ?_
        refine rb_iload_n hV dX9_river_43 rfl rfl ?_
        refine rb_iconst hV dX9_river_44 ?_
        refine rb_icmp_ne hV (tgt := 52) dX9_river_45 (by decide) ⟨(by unfold ab_r at *; omega), (by unfold ab_r at *; omega)⟩ (fun c45 => ?_) (fun c45 => ?_)
        · have hw := hv9.resolve_right (fun q => c45 q.2)
          have hvc : 0 ≤ v9 ∧ v9 < s 103 0 - 1 := hvb.resolve_left c45
          obtain ⟨i, i0, i1, i2, i3⟩ := LV_line hv hnz hvc.1 (show v9 < vX s 0 0 by show v9 < s 103 0; omega)
          have hlo : s 27 v9 = i := (hst.2.1 i i0 i1 v9 i2 i3).1
          refine rb_aload_n hV dX9_river_52 rfl rfl ?_
          refine rb_get hV (v := .inr (some 25)) dX9_river_53 ⟨RX9, TX9, 8, rfl, (Nat.le_of_ble_eq_true rfl), lf_X9_60⟩ (gw_0 _) rfl ?_
          refine rb_get hV (v := .inr (some 27)) dX9_river_56 ⟨RX1, TX1, 12, rfl, (Nat.le_of_ble_eq_true rfl), lf_X9_181⟩ (gw_25 _) rfl ?_
          refine rb_iload_n hV dX9_river_59 rfl rfl ?_
          refine rb_callS hV (rest := []) dX9_river_60 (c_X9_at s 27 _ (s 27) v9 (gw_27 _) (Nat.le_of_ble_eq_true rfl) (by omega)) lk_X9_202 rfl rfl ⟨rfl, rfl, (Nat.le_of_ble_eq_true rfl), (Nat.le_of_ble_eq_true rfl), (Nat.le_of_ble_eq_true rfl), (Nat.le_of_ble_eq_true rfl)⟩ (Nat.le_of_ble_eq_true rfl) (fun r9 h9 p9 => ?_)
          obtain ⟨rfl, rfl⟩ := p9
          show V 63 [some (.inr (some 0)), some (.inl rv), some (.inl sp), some (.inl v9), none] [.inl (s 27 v9)] (WW s) 0 0
          refine rb_istore hV (L2 := [some (.inr (some 0)), some (.inl rv), some (.inl sp), some (.inl v9), some (.inl (s 27 v9))]) dX9_river_63 (Nat.le_of_ble_eq_true rfl) rfl ?_
          refine rb_iload hV dX9_river_65 rfl ?_
          refine rb_bipush hV dX9_river_67 (by decide) ?_
          refine rb_imul hV dX9_river_69 ?_
          refine rb_iload_n hV dX9_river_70 rfl rfl ?_
          refine rb_iadd hV dX9_river_71 ?_
          refine rb_aload_n hV dX9_river_72 rfl rfl ?_
          refine rb_get hV (v := .inr (some 25)) dX9_river_73 ⟨RX9, TX9, 8, rfl, (Nat.le_of_ble_eq_true rfl), lf_X9_60⟩ (gw_0 _) rfl ?_
          refine rb_iload hV dX9_river_76 rfl ?_
          refine rb_callV hV (rest := [.inl (((s 27 v9) * 100) + v9)]) dX9_river_78 (c_X1_firstWord_la s (s 27 v9) (show 0 ≤ (s 107 0) ∧ (s 107 0) ≤ 60 by omega) (show 0 ≤ (s 27 v9) ∧ (s 27 v9) < (s 107 0) by omega)) lk_X9_184 rfl (Or.inl ⟨1, _, TX1, 12, gw_25 _, rfl⟩) rfl ⟨rfl, rfl, (Nat.le_of_ble_eq_true rfl), (Nat.le_of_ble_eq_true rfl), (Nat.le_of_ble_eq_true rfl), (Nat.le_of_ble_eq_true rfl)⟩ (Nat.le_of_ble_eq_true rfl) (fun r9 h9 p9 => ?_)
          obtain ⟨rfl, rfl⟩ := p9
          show V 81 [some (.inr (some 0)), some (.inl rv), some (.inl sp), some (.inl v9), some (.inl (s 27 v9))] [.inl (s 26 (s 27 v9)), .inl (((s 27 v9) * 100) + v9)] (WW s) 0 0
          refine rb_isub hV dX9_river_81 ?_
          refine rb_ret hV (r := some (.inl ((((s 27 v9) * 100) + v9) - (s 26 (s 27 v9))))) dX9_river_82 rfl ⟨(Nat.le_of_ble_eq_true rfl), (Nat.le_of_ble_eq_true rfl)⟩ trivial ?_
          refine ⟨_, rfl, rfl, Or.inr (Or.inr ⟨by omega, by omega, _, v0, v1, v2, v3, Or.inr ⟨hw.1, ?_⟩⟩)⟩
          rw [← hw.2]
        · refine rb_sipush hV dX9_river_48 (by decide) ?_
          refine rb_ret hV (r := some (.inl (-1004))) dX9_river_51 rfl ⟨(Nat.le_of_ble_eq_true rfl), (Nat.le_of_ble_eq_true rfl)⟩ trivial ?_
          exact ⟨_, rfl, rfl, Or.inr (Or.inr ⟨by omega, by omega, _, v0, v1, v2, v3, Or.inl ⟨fun q => by
            have q3 := (upn_ok hLN v0 v1 (ei_1 v2).1 sp.toNat (by omega)).1
            rcases hv9 with ⟨g1, g2⟩ | ⟨g1, g2⟩
            · rw [← g2] at q3
              omega
            · exact g1 q, rfl⟩⟩)⟩
      · refine rb_sipush hV dX9_river_26 (by decide) ?_
        refine rb_ret hV (r := some (.inl (-1002))) dX9_river_29 rfl ⟨(Nat.le_of_ble_eq_true rfl), (Nat.le_of_ble_eq_true rfl)⟩ trivial ?_
        exact ⟨_, rfl, rfl, Or.inr (Or.inl ⟨by omega, by omega, rfl⟩)⟩
    · refine rb_sipush hV dX9_river_18 (by decide) ?_
      refine rb_ret hV (r := some (.inl (-1001))) dX9_river_21 rfl ⟨(Nat.le_of_ble_eq_true rfl), (Nat.le_of_ble_eq_true rfl)⟩ trivial ?_
      exact ⟨_, rfl, rfl, Or.inl ⟨by omega, rfl⟩⟩
