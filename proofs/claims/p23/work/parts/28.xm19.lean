/-! breaking up rivers -/
def BRB : List Nat := TRB ++ LB
theorem KEEP_l {s m : Nat → Int → Int} (h : KEEP TRB s m) : KEEP BRB s m := fun k hk => h k (fun z => hk (List.mem_append_left _ z))
theorem KEEP_r {s m : Nat → Int → Int} (h : KEEP LB s m) : KEEP BRB s m := fun k hk => h k (fun z => hk (List.mem_append_right _ z))
/-- one second choice that breaks up -/
def BR1 (d : Nat → Int → Int) (bs be : Int → Int) (fw : Int → Int) (nl S0 : Int) (fw2 : Int → Int) (nl2 S2 : Int) : Prop := ∃ x st de, ¬ x = -1 ∧ CAL d bs be fw S0 nl x st de ∧ (nl2, fw2) = go be (d 0 0) (d 0 0 - (sec d bs fw x + 1)).toNat (x + 1) (sec d bs fw x + 1) fw ∧ LV d fw2 nl2 ∧ ∃ (dem am gl : Int) (sw lo sl bg mid gn abv ln en : Int → Int), ST d fw2 nl2 dem am S2 gl sw lo sl bg mid gn abv ln en
def BRN (d : Nat → Int → Int) (bs be : Int → Int) : Nat → (Int → Int) → Int → Int → (Int → Int) → Int → Int → Prop
  | 0, fw, nl, S0, fw2, nl2, S2 => fw2 = fw ∧ nl2 = nl ∧ S2 = S0
  | k + 1, fw, nl, S0, fw2, nl2, S2 => ∃ fw1 nl1 S1, BRN d bs be k fw nl S0 fw1 nl1 S1 ∧ BR1 d bs be fw1 nl1 S1 fw2 nl2 S2
theorem CAL_b {d : Nat → Int → Int} {bs be fw : Int → Int} {S0 l fo st de : Int} (h : CAL d bs be fw S0 l fo st de) : fo = -1 ∨ (0 ≤ fo ∧ fo < l ∧ ¬ sec d bs fw fo = -1) := by
  obtain ⟨g, e, -, h2⟩ := h
  rcases h2 with x | x
  · exact Or.inl x.1
  · exact Or.inr ⟨x.1, x.2.1, x.2.2.1⟩

set_option maxRecDepth 20000 in
theorem c_X9_breakRivers (s : Nat → Int → Int) (hx : XI s) : ab_Mt yX9_breakRivers cX9_breakRivers 3 (some .int) ({ frames := 6, cells := 0, slots := 0, locals := 151 } : Room) false 0 0 [.inr (some 0)] (WW s) (fun r h2 => ∃ n s2, r = some (.inl n) ∧ h2 = WW s2 ∧ XI s2 ∧ KEEP BRB s s2 ∧ (0 ≤ n ∧ n ≤ 10) ∧ BRN (vX s) (s 19) (s 20) n.toNat (s 26) (s 107 0) (s 110 0) (s2 26) (s2 107 0) (s2 110 0) ∧ (n = 10 ∨ ∃ st de, CAL (vX s) (s 19) (s 20) (s2 26) (s2 110 0) (s2 107 0) (-1) st de)) := by
  refine ab_mk RX9 false rfl pn_X9_breakRivers (fun z => by cases z) (Nat.le_of_ble_eq_true rfl) (fun V hV => ?_)
  show V 0 [some (.inr (some 0)), none, none] [] (WW s) 0 0
  obtain ⟨hp, hr, hbw, hv, hst, hz, hx1, hx2, hx3, hx4⟩ := id hx
  have hn : 0 ≤ s 103 0 ∧ s 103 0 ≤ 60 := hp.1
  have hnl : 0 ≤ s 107 0 ∧ s 107 0 ≤ s 103 0 := hv.1
  have hb := BWp_BS hp hbw
  refine rb_iconst hV dX9_breakRivers_0 ?_
  refine rb_istore_n hV (L2 := [some (.inr (some 0)), some (.inl 0), none]) dX9_breakRivers_1 rfl (Nat.le_of_ble_eq_true rfl) rfl ?_
  have h2 : ∀ (n2 : Nat) (m : Nat → Int → Int) (n : Int), (XI m) → (KEEP BRB s m) → (0 ≤ n ∧ n ≤ 10) → (BRN (vX m) (m 19) (m 20) n.toNat (s 26) (s 107 0) (s 110 0) (m 26) (m 107 0) (m 110 0)) → ((10 - n).toNat) < n2 → V 2 [some (.inr (some 0)), some (.inl n), none] [] (WW m) 0 0 := by
    intro n2
    induction n2 with
    | zero => intro m n hx hk h1 h2 hm; omega
    | succ n2 ih2 =>
      intro m n hx hk h1 h2 hm
      obtain ⟨hp, hr, hbw, hv, hst, hz, hx1, hx2, hx3, hx4⟩ := id hx
      have hn : 0 ≤ m 103 0 ∧ m 103 0 ≤ 60 := hp.1
      have hnl : 0 ≤ m 107 0 ∧ m 107 0 ≤ m 103 0 := hv.1
      have hb := BWp_BS hp hbw
      refine rb_iload_n hV dX9_breakRivers_2 rfl rfl ?_
      refine rb_bipush hV dX9_breakRivers_3 (by decide) ?_
      refine rb_icmp_ge hV (tgt := 43) dX9_breakRivers_5 (by decide) ⟨(by unfold ab_r at *; omega), (by unfold ab_r at *; omega)⟩ (fun c5 => ?_) (fun c5 => ?_)
      · refine rb_iload_n hV dX9_breakRivers_43 rfl rfl ?_
        refine rb_ret hV (r := some (.inl n)) dX9_breakRivers_44 rfl ⟨(Nat.le_of_ble_eq_true rfl), (Nat.le_of_ble_eq_true rfl)⟩ trivial ?_
        rw [KEEP_vX hk (by decide), hk 19 (by decide), hk 20 (by decide)] at h2
        exact ⟨n, m, rfl, rfl, hx, hk, h1, h2, Or.inl (by omega)⟩
      · refine rb_aload_n hV dX9_breakRivers_8 rfl rfl ?_
        refine rb_callV hV (rest := []) dX9_breakRivers_9 (c_X9_calmingLine m hx) lk_X9_135 rfl (Or.inl ⟨8, _, TX9, 8, gw_0 _, rfl⟩) rfl ⟨rfl, rfl, (Nat.le_of_ble_eq_true rfl), (Nat.le_of_ble_eq_true rfl), (Nat.le_of_ble_eq_true rfl), (Nat.le_of_ble_eq_true rfl)⟩ (Nat.le_of_ble_eq_true rfl) (fun r9 h9 p9 => ?_)
        obtain ⟨x9, m9, rfl, rfl, hx9, hk9, st9, de9, hc9⟩ := p9
        have hxb := CAL_b hc9
        show V 12 [some (.inr (some 0)), some (.inl n), none] [.inl x9] (WW m9) 0 0
        refine rb_istore_n hV (L2 := [some (.inr (some 0)), some (.inl n), some (.inl x9)]) dX9_breakRivers_12 rfl (Nat.le_of_ble_eq_true rfl) rfl ?_
        refine rb_iload_n hV dX9_breakRivers_13 rfl rfl ?_
        refine rb_iconst hV dX9_breakRivers_14 ?_
        refine rb_icmp_ne hV (tgt := 21) dX9_breakRivers_15 (by decide) ⟨(by unfold ab_r at *; omega), (by unfold ab_r at *; omega)⟩ (fun c15 => ?_) (fun c15 => ?_)
        · obtain ⟨hp, hr, hbw, hv, hst, hz, hx1, hx2, hx3, hx4⟩ := id hx9
          have hn : 0 ≤ m9 103 0 ∧ m9 103 0 ≤ 60 := hp.1
          have hnl : 0 ≤ m9 107 0 ∧ m9 107 0 ≤ m9 103 0 := hv.1
          have hb := BWp_BS hp hbw
          rw [← KEEP_vX hk9 (by decide), ← hk9 19 (by decide), ← hk9 20 (by decide), ← hk9 26 (by decide), ← hk9 107 (by decide), ← hk9 110 (by decide)] at h2 hc9
          replace hxb := CAL_b hc9
          have hs1 : ¬ sec (vX m9) (m9 19) (m9 26) x9 = -1 := (hxb.resolve_left (by omega)).2.2
          have hxr : 0 ≤ x9 ∧ x9 < m9 107 0 := ⟨(hxb.resolve_left (by omega)).1, (hxb.resolve_left (by omega)).2.1⟩
          have hok := sec_ok hs1
          have hsq : sec (vX m9) (m9 19) (m9 26) x9 < m9 103 0 := by
            have e0 : vX m9 0 0 = m9 103 0 := rfl
            omega
          have hl0 := hv.2.1 x9 (by omega) (by omega)
          have hl1 : 0 ≤ m9 26 x9 := hl0.1
          have hl2 : m9 26 x9 < m9 26 (x9 + 1) := hl0.2.1
          have hl3 : m9 26 (x9 + 1) ≤ m9 103 0 := hl0.2.2.1
          refine rb_aload_n hV dX9_breakRivers_21 rfl rfl ?_
          refine rb_get hV (v := .inr (some 25)) dX9_breakRivers_22 ⟨RX9, TX9, 8, rfl, (Nat.le_of_ble_eq_true rfl), lf_X9_60⟩ (gw_0 _) rfl ?_
          refine rb_iload_n hV dX9_breakRivers_25 rfl rfl ?_
          refine rb_aload_n hV dX9_breakRivers_26 rfl rfl ?_
          refine rb_get hV (v := .inr (some 25)) dX9_breakRivers_27 ⟨RX9, TX9, 8, rfl, (Nat.le_of_ble_eq_true rfl), lf_X9_60⟩ (gw_0 _) rfl ?_
          refine rb_iload_n hV dX9_breakRivers_30 rfl rfl ?_
          refine rb_callV hV (rest := [.inl x9, .inr (some 25)]) dX9_breakRivers_31 (c_X1_secondLast_la m9 x9 hp hr hv hb (show 0 ≤ x9 ∧ x9 < (m9 107 0) by omega)) lk_X9_127 rfl (Or.inl ⟨1, _, TX1, 12, gw_25 _, rfl⟩) rfl ⟨rfl, rfl, (Nat.le_of_ble_eq_true rfl), (Nat.le_of_ble_eq_true rfl), (Nat.le_of_ble_eq_true rfl), (Nat.le_of_ble_eq_true rfl)⟩ (Nat.le_of_ble_eq_true rfl) (fun r9 h9 p9 => ?_)
          obtain ⟨rfl, rfl⟩ := p9
          show V 34 [some (.inr (some 0)), some (.inl n), some (.inl x9)] [.inl (sec (vX m9) (m9 19) (m9 26) x9), .inl x9, .inr (some 25)] (WW m9) 0 0
          refine rb_callV hV (rest := []) dX9_breakRivers_34 (c_X1_endLineWith_la m9 x9 (sec (vX m9) (m9 19) (m9 26) x9) hp hr hbw hst.2.2.1 (RVX_ln hst.2.2.2) hv (by omega) ⟨hok.1, hsq, hok.2.2.1, hok.2.2.2⟩) lk_X9_131 rfl (Or.inl ⟨1, _, TX1, 12, gw_25 _, rfl⟩) rfl ⟨rfl, rfl, (Nat.le_of_ble_eq_true rfl), (Nat.le_of_ble_eq_true rfl), (Nat.le_of_ble_eq_true rfl), (Nat.le_of_ble_eq_true rfl)⟩ (Nat.le_of_ble_eq_true rfl) (fun r9 h9 p9 => ?_)
          obtain ⟨rfl, nl, fw, dem, sw, lo, sl, be, am, str, gl, mid, gn, abv, ln, en, rfl, hlv, hst, hgo⟩ := p9
          show V 37 [some (.inr (some 0)), some (.inl n), some (.inl x9)] [] (WW (ab_s (ab_s (ab_s (ab_s (ab_s (ab_s (ab_s (ab_s (ab_s (ab_s (ab_s (ab_s (ab_s (ab_s (ab_s m9 107 (fun _ => nl)) 26 fw) 108 (fun _ => dem)) 30 sw) 27 lo) 28 sl) 29 be) 109 (fun _ => am)) 110 (fun _ => str)) 111 (fun _ => gl)) 33 mid) 35 gn) 34 abv) 32 ln) 36 en)) 0 0
          refine rb_iinc hV (L2 := [some (.inr (some 0)), some (.inl (n + 1)), some (.inl x9)]) dX9_breakRivers_37 rfl rfl rfl ?_
          refine rb_goto hV (tgt := 2) dX9_breakRivers_40 (by decide) ?_
          refine rb_weak hV (L2 := [some (.inr (some 0)), some (.inl (n + 1)), none]) ⟨rfl, ⟨rfl, trivial⟩⟩ ?_
          refine ih2 (ab_s (ab_s (ab_s (ab_s (ab_s (ab_s (ab_s (ab_s (ab_s (ab_s (ab_s (ab_s (ab_s (ab_s (ab_s m9 107 (fun _ => nl)) 26 fw) 108 (fun _ => dem)) 30 sw) 27 lo) 28 sl) 29 be) 109 (fun _ => am)) 110 (fun _ => str)) 111 (fun _ => gl)) 33 mid) 35 gn) 34 abv) 32 ln) 36 en) (n + 1) ?_ ?_ ?_ ?_ ?_
          · have e6 : nl = 0 ↔ ¬ (0 < m9 103 0 ∧ ¬ m9 19 0 = -1) := by
              have e8 := (go_props (BWp_BW hbw) (vX m9 0 0 - (sec (vX m9) (m9 19) (m9 26) x9 + 1)).toNat (x9 + 1) (sec (vX m9) (m9 19) (m9 26) x9 + 1) (m9 26) (by omega) (by show sec (vX m9) (m9 19) (m9 26) x9 + 1 ≤ m9 103 0; omega) hok.2.2.2 (by omega) (by omega)).1.1
              have e7 : nl = (go (m9 20) (vX m9 0 0) (vX m9 0 0 - (sec (vX m9) (m9 19) (m9 26) x9 + 1)).toNat (x9 + 1) (sec (vX m9) (m9 19) (m9 26) x9 + 1) (m9 26)).1 := congrArg Prod.fst hgo
              rw [← hz]
              constructor <;> omega
            exact XI_la hx9 hlv hst e6 rfl
          · exact KEEP_trans hk (KEEP_trans (KEEP_l hk9) (KEEP_r (fun j hj => ((ab_keep hj (by decide)).trans ((ab_keep hj (by decide)).trans ((ab_keep hj (by decide)).trans ((ab_keep hj (by decide)).trans ((ab_keep hj (by decide)).trans ((ab_keep hj (by decide)).trans ((ab_keep hj (by decide)).trans ((ab_keep hj (by decide)).trans ((ab_keep hj (by decide)).trans ((ab_keep hj (by decide)).trans ((ab_keep hj (by decide)).trans ((ab_keep hj (by decide)).trans ((ab_keep hj (by decide)).trans ((ab_keep hj (by decide)).trans ((ab_keep hj (by decide)).trans rfl))))))))))))))))))
          · omega
          · rw [show (n + 1).toNat = n.toNat + 1 by omega]
            exact ⟨_, _, _, h2, x9, st9, de9, by omega, hc9, hgo, hlv, dem, am, gl, sw, lo, sl, be, mid, gn, abv, ln, en, hst⟩
          · omega
        · refine rb_goto hV (tgt := 43) dX9_breakRivers_18 (by decide) ?_
          refine rb_iload_n hV dX9_breakRivers_43 rfl rfl ?_
          refine rb_ret hV (r := some (.inl n)) dX9_breakRivers_44 rfl ⟨(Nat.le_of_ble_eq_true rfl), (Nat.le_of_ble_eq_true rfl)⟩ trivial ?_
          rw [← KEEP_vX hk9 (by decide), ← hk9 19 (by decide), ← hk9 20 (by decide), ← hk9 26 (by decide), ← hk9 107 (by decide), ← hk9 110 (by decide)] at h2 hc9
          have hkk := KEEP_trans hk (KEEP_l hk9)
          rw [KEEP_vX hkk (by decide), hkk 19 (by decide), hkk 20 (by decide)] at h2 hc9
          rw [show x9 = -1 by omega] at hc9
          exact ⟨n, m9, rfl, rfl, hx9, hkk, h1, h2, Or.inr ⟨st9, de9, hc9⟩⟩
  refine h2 _ s 0 ?_ ?_ ?_ ?_ (Nat.lt_succ_self _)
  · exact hx
  · exact fun k _ => rfl
  · omega
  · exact ⟨rfl, rfl, rfl⟩
