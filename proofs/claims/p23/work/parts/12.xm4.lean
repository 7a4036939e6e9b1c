theorem sh1_next {kd : Int → Int} {kind bound by_ a w : Int} {p : (Int → Int) × Int} (h : a ≤ w) : sh1 kd kind bound by_ a (w + 1 - a).toNat p = if 0 < (sh1 kd kind bound by_ a (w - a).toNat p).2 ∧ kd w = kind ∧ ¬ (sh1 kd kind bound by_ a (w - a).toNat p).1 w = bound then (ab_u (sh1 kd kind bound by_ a (w - a).toNat p).1 w ((sh1 kd kind bound by_ a (w - a).toNat p).1 w + by_), (sh1 kd kind bound by_ a (w - a).toNat p).2 - 1) else sh1 kd kind bound by_ a (w - a).toNat p := by
  rw [show (w + 1 - a).toNat = (w - a).toNat + 1 by omega, sh1, show a + ((w - a).toNat : Int) = w by omega]
theorem sh1_end {kd : Int → Int} {kind bound by_ a w b : Int} {p : (Int → Int) × Int} (h : a ≤ w) (hb : w ≤ b) (hz : (sh1 kd kind bound by_ a (w - a).toNat p).2 ≤ 0) : sh1 kd kind bound by_ a (b - a).toNat p = sh1 kd kind bound by_ a (w - a).toNat p := by
  rw [show (b - a).toNat = (w - a).toNat + (b - w).toNat by omega, sh1_stop hz]
theorem rnds_end {d : Nat → Int → Int} {by_ a b : Int} {p : (Int → Int) × Int} {r : Int} (h0 : 0 ≤ r) (h : r ≤ 40) (hz : (rnds d by_ a b r.toNat p).2 ≤ 0) : rnds d by_ a b 40 p = rnds d by_ a b r.toNat p := by
  rw [show 40 = r.toNat + (40 - r).toNat by omega, rnds_stop hz]
/-- where a word of a line begins -/
def bgF (d : Nat → Int → Int) (sw : Int → Int) (a w : Int) : Int := - hL d a + Sm (fun v => d 1 v + sw v) a w
theorem bgF_0 (d : Nat → Int → Int) (sw : Int → Int) (a : Int) : bgF d sw a a = - hL d a := by
  unfold bgF
  rw [Sm_self]
  omega
theorem bgF_s (d : Nat → Int → Int) (sw : Int → Int) {a w : Int} (h : a ≤ w) : bgF d sw a (w + 1) = bgF d sw a w + d 1 w + sw w := by
  unfold bgF
  rw [Sm_succ _ h]
  omega
theorem swF_last {d : Nat → Int → Int} {a b : Int} (h : 0 < df d a b ∧ b = d 0 0 - 1) : swF d a b = na0 d := if_pos h
theorem swF_sh {d : Nat → Int → Int} {a b : Int} (h : ¬ (0 < df d a b ∧ b = d 0 0 - 1)) : swF d a b = (rnds d (sby d a b) a b 40 (na0 d, sun d a b)).1 := if_neg h

set_option maxRecDepth 20000 in
theorem c_X1_goOnFrom_la (s : Nat → Int → Int) (w0 : Int) (hp : PI (vX s)) (hbw : BW (vX s) (s 19) (s 20)) (h : 0 ≤ w0 ∧ w0 ≤ s 103 0 ∧ 0 ≤ s 19 w0) (hl : 0 ≤ s 107 0 ∧ s 107 0 ≤ w0) : ab_Mt yX1_goOnFrom cX1_goOnFrom 3 none ({ frames := 1, cells := 0, slots := 0, locals := 21 } : Room) false 0 0 [.inr (some 25), .inl w0] (WW s) (fun r h2 => r = none ∧ h2 = WW (ab_s (ab_s s 107 (fun _ => (go (s 20) (s 103 0) (s 103 0 - w0).toNat (s 107 0) w0 (s 26)).1)) 26 (go (s 20) (s 103 0) (s 103 0 - w0).toNat (s 107 0) w0 (s 26)).2)) := by
  refine ab_mk RX1 false rfl pn_X1_goOnFrom (fun z => by cases z) (Nat.le_of_ble_eq_true rfl) (fun V hV => ?_)
  show V 0 [some (.inr (some 25)), some (.inl w0), none] [] (WW s) 0 0
  have hn : 0 ≤ s 103 0 ∧ s 103 0 ≤ 60 := hp.1
  refine rb_iload_n hV dX1_goOnFrom_0 rfl rfl ?_
  refine rb_istore_n hV (L2 := [some (.inr (some 25)), some (.inl w0), some (.inl w0)]) dX1_goOnFrom_1 rfl (Nat.le_of_ble_eq_true rfl) rfl ?_
  refine rb_heq (b := (ab_s (ab_s s 107 (s 107)) 26 (s 26))) ((ab_s_id rfl).trans (ab_s_id rfl)).symm ?_
  have h2 : ∀ (n2 : Nat) (w : Int) (i : Int) (f : Int → Int), (0 ≤ w ∧ w ≤ s 103 0 ∧ 0 ≤ s 19 w ∧ 0 ≤ i ∧ i ≤ w) → (go (s 20) (s 103 0) (s 103 0 - w).toNat i w f = (go (s 20) (s 103 0) (s 103 0 - w0).toNat (s 107 0) w0 (s 26))) → ((s 103 0 - w).toNat) < n2 → V 2 [some (.inr (some 25)), some (.inl w0), some (.inl w)] [] (WW (ab_s (ab_s s 107 (fun _ => i)) 26 f)) 0 0 := by
    intro n2
    induction n2 with
    | zero => intro w i f h1 h2 hm; omega
    | succ n2 ih2 =>
      intro w i f h1 h2 hm
      refine rb_iload_n hV dX1_goOnFrom_2 rfl rfl ?_
      refine rb_aload_n hV dX1_goOnFrom_3 rfl rfl ?_
      refine rb_get hV (v := .inr (some 5)) dX1_goOnFrom_4 ⟨RX1, TX1, 12, rfl, (Nat.le_of_ble_eq_true rfl), lf_X1_9⟩ (gw_25 _) rfl ?_
      refine rb_get hV (v := .inl (s 103 0)) dX1_goOnFrom_7 ⟨RX4, TX4, 6, rfl, (Nat.le_of_ble_eq_true rfl), lf_X1_85⟩ (gw_5 _) rfl ?_
      refine rb_icmp_ge hV (tgt := 59) dX1_goOnFrom_10 (by decide) ⟨(by first | assumption | (unfold ab_r at *; omega)), (by first | assumption | (unfold ab_r at *; omega))⟩ (fun c10 => ?_) (fun c10 => ?_)
      · refine rb_aload_n hV dX1_goOnFrom_59 rfl rfl ?_
        refine rb_get hV (v := .inr (some 26)) dX1_goOnFrom_60 ⟨RX1, TX1, 12, rfl, (Nat.le_of_ble_eq_true rfl), lf_X1_34⟩ (gw_25 _) rfl ?_
        refine rb_aload_n hV dX1_goOnFrom_63 rfl rfl ?_
        refine rb_get hV (v := .inl i) dX1_goOnFrom_64 ⟨RX1, TX1, 12, rfl, (Nat.le_of_ble_eq_true rfl), lf_X1_27⟩ (gw_25 _) rfl ?_
        refine rb_aload_n hV dX1_goOnFrom_67 rfl rfl ?_
        refine rb_get hV (v := .inr (some 5)) dX1_goOnFrom_68 ⟨RX1, TX1, 12, rfl, (Nat.le_of_ble_eq_true rfl), lf_X1_9⟩ (gw_25 _) rfl ?_
        refine rb_get hV (v := .inl (s 103 0)) dX1_goOnFrom_71 ⟨RX4, TX4, 6, rfl, (Nat.le_of_ble_eq_true rfl), lf_X1_85⟩ (gw_5 _) rfl ?_
        refine rb_iast hV (f := (f)) dX1_goOnFrom_74 (gw_26 _) (Nat.le_of_ble_eq_true rfl) (by omega) rfl ((pw_26 _ _).trans (congrArg WW (ab_s_same _ 26 _ _))) ?_
        refine rb_ret hV (r := none) dX1_goOnFrom_75 rfl ⟨(Nat.le_of_ble_eq_true rfl), (Nat.le_of_ble_eq_true rfl)⟩ trivial ?_
        rw [go_end _ (by omega)] at h2
        refine ⟨rfl, ?_⟩
        rw [← h2]
      · refine rb_aload_n hV dX1_goOnFrom_13 rfl rfl ?_
        refine rb_get hV (v := .inl i) dX1_goOnFrom_14 ⟨RX1, TX1, 12, rfl, (Nat.le_of_ble_eq_true rfl), lf_X1_27⟩ (gw_25 _) rfl ?_
        refine rb_bipush hV dX1_goOnFrom_17 (by decide) ?_
        refine rb_icmp_ge hV (tgt := 59) dX1_goOnFrom_19 (by decide) ⟨(by first | assumption | (unfold ab_r at *; omega)), (by first | assumption | (unfold ab_r at *; omega))⟩ (fun c19 => absurd c19 (by omega)) (fun c19 => ?_)
        have hy := BW_WY hbw w h1.1 (show w < s 103 0 by omega) h1.2.2.1
        have hy3 : 0 ≤ s 19 (s 20 w + 1) := hy.2.2
        have hy2 : s 20 w < s 103 0 := hy.2.1
        have hy1 : w ≤ s 20 w := hy.1
        refine rb_aload_n hV dX1_goOnFrom_22 rfl rfl ?_
        refine rb_get hV (v := .inr (some 26)) dX1_goOnFrom_23 ⟨RX1, TX1, 12, rfl, (Nat.le_of_ble_eq_true rfl), lf_X1_34⟩ (gw_25 _) rfl ?_
        refine rb_aload_n hV dX1_goOnFrom_26 rfl rfl ?_
        refine rb_get hV (v := .inl i) dX1_goOnFrom_27 ⟨RX1, TX1, 12, rfl, (Nat.le_of_ble_eq_true rfl), lf_X1_27⟩ (gw_25 _) rfl ?_
        refine rb_iload_n hV dX1_goOnFrom_30 rfl rfl ?_
        refine rb_iast hV (f := (f)) dX1_goOnFrom_31 (gw_26 _) (Nat.le_of_ble_eq_true rfl) (by omega) rfl ((pw_26 _ _).trans (congrArg WW (ab_s_same _ 26 _ _))) ?_
        refine rb_aload_n hV dX1_goOnFrom_32 rfl rfl ?_
        refine rb_get hV (v := .inr (some 18)) dX1_goOnFrom_33 ⟨RX1, TX1, 12, rfl, (Nat.le_of_ble_eq_true rfl), lf_X1_23⟩ (gw_25 _) rfl ?_
        refine rb_get hV (v := .inr (some 20)) dX1_goOnFrom_36 ⟨RX0, TX0, 4, rfl, (Nat.le_of_ble_eq_true rfl), lf_X1_107⟩ (gw_18 _) rfl ?_
        refine rb_iload_n hV dX1_goOnFrom_39 rfl rfl ?_
        refine rb_callS hV (rest := []) dX1_goOnFrom_40 (c_X9_at (ab_s (ab_s s 107 (fun _ => i)) 26 (ab_u (f) i w)) 20 _ (s 20) w (gw_20 _) (Nat.le_of_ble_eq_true rfl) (by omega)) lk_X1_61 rfl rfl ⟨rfl, rfl, (Nat.le_of_ble_eq_true rfl), (Nat.le_of_ble_eq_true rfl), (Nat.le_of_ble_eq_true rfl), (Nat.le_of_ble_eq_true rfl)⟩ (Nat.le_of_ble_eq_true rfl) (fun r9 h9 p9 => ?_)
        obtain ⟨rfl, rfl⟩ := p9
        show V 43 [some (.inr (some 25)), some (.inl w0), some (.inl w)] [.inl (s 20 w)] (WW (ab_s (ab_s s 107 (fun _ => i)) 26 (ab_u (f) i w))) 0 0
        refine rb_iconst hV dX1_goOnFrom_43 ?_
        refine rb_iadd hV dX1_goOnFrom_44 ?_
        refine rb_istore_n hV (L2 := [some (.inr (some 25)), some (.inl w0), some (.inl ((s 20 w) + 1))]) dX1_goOnFrom_45 rfl (Nat.le_of_ble_eq_true rfl) rfl ?_
        refine rb_aload_n hV dX1_goOnFrom_46 rfl rfl ?_
        refine rb_dup hV dX1_goOnFrom_47 ?_
        refine rb_get hV (v := .inl i) dX1_goOnFrom_48 ⟨RX1, TX1, 12, rfl, (Nat.le_of_ble_eq_true rfl), lf_X1_27⟩ (gw_25 _) rfl ?_
        refine rb_iconst hV dX1_goOnFrom_51 ?_
        refine rb_iadd hV dX1_goOnFrom_52 ?_
        refine rb_put hV (C := RX1) (T := TX1) (N := 12) (ci := 1) (j := 4) dX1_goOnFrom_53 rfl (Nat.le_of_ble_eq_true rfl) lf_X1_27 rfl (gw_25 _) (Nat.le_of_ble_eq_true rfl) (ft_X1_4 _) ((pw_25_4 _ _).trans (congrArg WW ((ab_s_sw (by decide)).trans (congrArg (fun x => ab_s x 26 _) (ab_s_same _ 107 _ _))))) ?_
        refine rb_goto hV (tgt := 2) dX1_goOnFrom_56 (by decide) ?_
        refine ih2 ((s 20 w) + 1) (i + 1) (ab_u (f) i w) ?_ ?_ ?_
        · omega
        · exact (go_step (BW_WY hbw) h1.1 (show w < s 103 0 by omega) h1.2.2.1).symm.trans h2
        · omega
  refine h2 _ w0 ((s 107) 0) (s 26) ?_ ?_ (Nat.lt_succ_self _)
  · omega
  · rfl

set_option maxRecDepth 20000 in
theorem c_X1_changeKind_la (s : Nat → Int → Int) (a b kind t u : Int) (hp : PI (vX s)) (h : 0 ≤ a ∧ a ≤ b ∧ b ≤ s 103 0) (hkd : 0 ≤ kind ∧ kind ≤ 2) (ht : t = 1 ∨ t = -1) (hu : 0 ≤ u ∧ u ≤ 100000) (hW : ∀ w, a ≤ w → w < b → -1000 ≤ s 30 w ∧ s 30 w ≤ 1000) : ab_Mt yX1_changeKind cX1_changeKind 9 (some .int) ({ frames := 1, cells := 0, slots := 0, locals := 21 } : Room) false 0 0 [.inr (some 25), .inl a, .inl b, .inl kind, .inl t, .inl u] (WW s) (fun r h2 => r = some (.inl (sh1 (vX s 3) kind (sbd (vX s) t kind) t a (b - a).toNat (s 30, u)).2) ∧ h2 = WW (ab_s s 30 (sh1 (vX s 3) kind (sbd (vX s) t kind) t a (b - a).toNat (s 30, u)).1)) := by
  refine ab_mk RX1 false rfl pn_X1_changeKind (fun z => by cases z) (Nat.le_of_ble_eq_true rfl) (fun V hV => ?_)
  show V 0 [some (.inr (some 25)), some (.inl a), some (.inl b), some (.inl kind), some (.inl t), some (.inl u), none, none, none] [] (WW s) 0 0
  have hn : 0 ≤ s 103 0 ∧ s 103 0 ≤ 60 := hp.1
  refine rb_iload hV dX1_changeKind_0 rfl ?_
  refine rb_if_le hV (tgt := 15) dX1_changeKind_2 (by decide) (by first | assumption | (unfold ab_r at *; omega)) (fun c2 => ?_) (fun c2 => ?_)
  · have eb : sbd (vX s) t kind = s 2 kind := if_neg (by omega)
    refine rb_aload_n hV dX1_changeKind_15 rfl rfl ?_
    refine rb_get hV (v := .inr (some 1)) dX1_changeKind_16 ⟨RX1, TX1, 12, rfl, (Nat.le_of_ble_eq_true rfl), lf_X1_15⟩ (gw_25 _) rfl ?_
    refine rb_get hV (v := .inr (some 2)) dX1_changeKind_19 ⟨RX6, TX6, 6, rfl, (Nat.le_of_ble_eq_true rfl), lf_X1_154⟩ (gw_1 _) rfl ?_
    refine rb_iload_n hV dX1_changeKind_22 rfl rfl ?_
    refine rb_callS hV (rest := []) dX1_changeKind_23 (c_X9_at s 2 _ (s 2) kind (gw_2 _) (Nat.le_of_ble_eq_true rfl) (by omega)) lk_X1_61 rfl rfl ⟨rfl, rfl, (Nat.le_of_ble_eq_true rfl), (Nat.le_of_ble_eq_true rfl), (Nat.le_of_ble_eq_true rfl), (Nat.le_of_ble_eq_true rfl)⟩ (Nat.le_of_ble_eq_true rfl) (fun r9 h9 p9 => ?_)
    obtain ⟨rfl, rfl⟩ := p9
    show V 26 [some (.inr (some 25)), some (.inl a), some (.inl b), some (.inl kind), some (.inl t), some (.inl u), none, none, none] [.inl (s 2 kind)] (WW s) 0 0
    refine rb_istore hV (L2 := [some (.inr (some 25)), some (.inl a), some (.inl b), some (.inl kind), some (.inl t), some (.inl u), some (.inl (s 2 kind)), none, none]) dX1_changeKind_26 (Nat.le_of_ble_eq_true rfl) rfl ?_
    refine rb_iload hV dX1_changeKind_28 rfl ?_
    refine rb_istore hV (L2 := [some (.inr (some 25)), some (.inl a), some (.inl b), some (.inl kind), some (.inl t), some (.inl u), some (.inl (s 2 kind)), some (.inl u), none]) dX1_changeKind_30 (Nat.le_of_ble_eq_true rfl) rfl ?_
    refine rb_iload_n hV dX1_changeKind_32 rfl rfl ?_
    refine rb_istore hV (L2 := [some (.inr (some 25)), some (.inl a), some (.inl b), some (.inl kind), some (.inl t), some (.inl u), some (.inl (s 2 kind)), some (.inl u), some (.inl a)]) dX1_changeKind_33 (Nat.le_of_ble_eq_true rfl) rfl ?_
    refine rb_heq (b := (ab_s s 30 (s 30))) (ab_s_id rfl).symm ?_
    have h35 : ∀ (n35 : Nat) (le : Int) (w : Int) (g : Int → Int), (a ≤ w ∧ w ≤ b) → (g = (sh1 (vX s 3) kind (sbd (vX s) t kind) t a (w - a).toNat (s 30, u)).1 ∧ le = (sh1 (vX s 3) kind (sbd (vX s) t kind) t a (w - a).toNat (s 30, u)).2) → ((b - w).toNat) < n35 → V 35 [some (.inr (some 25)), some (.inl a), some (.inl b), some (.inl kind), some (.inl t), some (.inl u), some (.inl (s 2 kind)), some (.inl le), some (.inl w)] [] (WW (ab_s s 30 g)) 0 0 := by
      intro n35
      induction n35 with
      | zero => intro le w g h1 h2 hm; omega
      | succ n35 ih35 =>
        intro le w g h1 h2 hm
        refine rb_iload hV dX1_changeKind_35 rfl ?_
        refine rb_iload_n hV dX1_changeKind_37 rfl rfl ?_
        refine rb_icmp_ge hV (tgt := 93) dX1_changeKind_38 (by decide) ⟨(by first | assumption | (unfold ab_r at *; omega)), (by first | assumption | (unfold ab_r at *; omega))⟩ (fun c38 => ?_) (fun c38 => ?_)
        · refine rb_iload hV dX1_changeKind_93 rfl ?_
          refine rb_ret hV (r := some (.inl le)) dX1_changeKind_95 rfl ⟨(Nat.le_of_ble_eq_true rfl), (Nat.le_of_ble_eq_true rfl)⟩ trivial ?_
          first
          | (have e : w = b := by omega
             subst e
             rw [← h2.1, ← h2.2]
             exact ⟨rfl, rfl⟩)
          | (rw [sh1_end h1.1 h1.2 (by rw [← h2.2]; omega), ← h2.1, ← h2.2]
             exact ⟨rfl, rfl⟩)
        · have hg1 : g w = s 30 w := by rw [h2.1]; exact sh1_hi (p := (s 30, u)) _ _ (Or.inr (by omega))
          have hg2 := hW w h1.1 (by omega)
          have hk8 := (hp.2.1 w (by omega) (show w < s 103 0 by omega)).2.2.1
          have hk8b : 0 ≤ s 8 w ∧ s 8 w ≤ 2 := hk8
          have hle := (sh1_u (kd := vX s 3) (kind := kind) (bound := sbd (vX s) t kind) (by_ := t) (a := a) (p := (s 30, u)) (w - a).toNat)
          have hle1 : 0 ≤ le ∧ le ≤ 100000 := by rw [h2.2]; exact ⟨hle.1 hu.1, Int.le_trans hle.2 hu.2⟩
          refine rb_iload hV dX1_changeKind_41 rfl ?_
          refine rb_if_le hV (tgt := 93) dX1_changeKind_43 (by decide) (by first | assumption | (unfold ab_r at *; omega)) (fun c43 => ?_) (fun c43 => ?_)
          · refine rb_iload hV dX1_changeKind_93 rfl ?_
            refine rb_ret hV (r := some (.inl le)) dX1_changeKind_95 rfl ⟨(Nat.le_of_ble_eq_true rfl), (Nat.le_of_ble_eq_true rfl)⟩ trivial ?_
            first
            | (have e : w = b := by omega
               subst e
               rw [← h2.1, ← h2.2]
               exact ⟨rfl, rfl⟩)
            | (rw [sh1_end h1.1 h1.2 (by rw [← h2.2]; omega), ← h2.1, ← h2.2]
               exact ⟨rfl, rfl⟩)
          · refine rb_aload_n hV dX1_changeKind_46 rfl rfl ?_
            refine rb_get hV (v := .inr (some 5)) dX1_changeKind_47 ⟨RX1, TX1, 12, rfl, (Nat.le_of_ble_eq_true rfl), lf_X1_9⟩ (gw_25 _) rfl ?_
            refine rb_get hV (v := .inr (some 8)) dX1_changeKind_50 ⟨RX4, TX4, 6, rfl, (Nat.le_of_ble_eq_true rfl), lf_X1_130⟩ (gw_5 _) rfl ?_
            refine rb_iload hV dX1_changeKind_53 rfl ?_
            refine rb_iald hV (f := (s 8)) dX1_changeKind_55 (gw_8 _) (Nat.le_of_ble_eq_true rfl) (by omega) ?_
            refine rb_iload_n hV dX1_changeKind_56 rfl rfl ?_
            refine rb_icmp_ne hV (tgt := 87) dX1_changeKind_57 (by decide) ⟨(by first | assumption | (unfold ab_r at *; omega)), (by first | assumption | (unfold ab_r at *; omega))⟩ (fun c57 => ?_) (fun c57 => ?_)
            · refine rb_iinc hV (L2 := [some (.inr (some 25)), some (.inl a), some (.inl b), some (.inl kind), some (.inl t), some (.inl u), some (.inl (s 2 kind)), some (.inl le), some (.inl (w + 1))]) dX1_changeKind_87 rfl rfl rfl ?_
              refine rb_goto hV (tgt := 35) dX1_changeKind_90 (by decide) ?_
              refine ih35 le (w + 1) (g) ?_ ?_ ?_
              · omega
              · rw [sh1_next h1.1, if_neg (by rw [← h2.1, ← h2.2]; show ¬ (0 < le ∧ s 8 w = kind ∧ ¬ g w = sbd (vX s) t kind); omega), ← h2.1, ← h2.2]; exact ⟨rfl, rfl⟩
              · omega
            · refine rb_aload_n hV dX1_changeKind_60 rfl rfl ?_
              refine rb_get hV (v := .inr (some 30)) dX1_changeKind_61 ⟨RX1, TX1, 12, rfl, (Nat.le_of_ble_eq_true rfl), lf_X1_47⟩ (gw_25 _) rfl ?_
              refine rb_iload hV dX1_changeKind_64 rfl ?_
              refine rb_iald hV (f := (g)) dX1_changeKind_66 (gw_30 _) (Nat.le_of_ble_eq_true rfl) (by omega) ?_
              refine rb_iload hV dX1_changeKind_67 rfl ?_
              have hkb := hp.2.2.2.2.2 kind (by omega) (by omega)
              have hkb2 : 1 ≤ s 2 kind ∧ s 4 kind ≤ 40 ∧ s 2 kind ≤ s 4 kind := ⟨hkb.1, hkb.2.2.2, Int.le_trans hkb.2.1 hkb.2.2.1⟩
              refine rb_icmp_eq hV (tgt := 87) dX1_changeKind_69 (by decide) ⟨(by unfold ab_r; omega), (by unfold ab_r; omega)⟩ (fun c69 => ?_) (fun c69 => ?_)
              · refine rb_iinc hV (L2 := [some (.inr (some 25)), some (.inl a), some (.inl b), some (.inl kind), some (.inl t), some (.inl u), some (.inl (s 2 kind)), some (.inl le), some (.inl (w + 1))]) dX1_changeKind_87 rfl rfl rfl ?_
                refine rb_goto hV (tgt := 35) dX1_changeKind_90 (by decide) ?_
                refine ih35 le (w + 1) (g) ?_ ?_ ?_
                · omega
                · rw [sh1_next h1.1, if_neg (by rw [← h2.1, ← h2.2]; show ¬ (0 < le ∧ s 8 w = kind ∧ ¬ g w = sbd (vX s) t kind); omega), ← h2.1, ← h2.2]; exact ⟨rfl, rfl⟩
                · omega
              · refine rb_aload_n hV dX1_changeKind_72 rfl rfl ?_
                refine rb_get hV (v := .inr (some 30)) dX1_changeKind_73 ⟨RX1, TX1, 12, rfl, (Nat.le_of_ble_eq_true rfl), lf_X1_47⟩ (gw_25 _) rfl ?_
                refine rb_iload hV dX1_changeKind_76 rfl ?_
                refine rb_dup2 hV dX1_changeKind_78 ?_
                refine rb_iald hV (f := (g)) dX1_changeKind_79 (gw_30 _) (Nat.le_of_ble_eq_true rfl) (by omega) ?_
                refine rb_iload hV dX1_changeKind_80 rfl ?_
                refine rb_iadd hV dX1_changeKind_82 ?_
                refine rb_iast hV (f := (g)) dX1_changeKind_83 (gw_30 _) (Nat.le_of_ble_eq_true rfl) (by omega) rfl ((pw_30 _ _).trans (congrArg WW (ab_s_same _ 30 _ _))) ?_
                refine rb_iinc hV (L2 := [some (.inr (some 25)), some (.inl a), some (.inl b), some (.inl kind), some (.inl t), some (.inl u), some (.inl (s 2 kind)), some (.inl (le + (-1))), some (.inl w)]) dX1_changeKind_84 rfl rfl rfl ?_
                refine rb_iinc hV (L2 := [some (.inr (some 25)), some (.inl a), some (.inl b), some (.inl kind), some (.inl t), some (.inl u), some (.inl (s 2 kind)), some (.inl (le + (-1))), some (.inl (w + 1))]) dX1_changeKind_87 rfl rfl rfl ?_
                refine rb_goto hV (tgt := 35) dX1_changeKind_90 (by decide) ?_
                refine ih35 (le + (-1)) (w + 1) (ab_u (g) w (((g) w) + t)) ?_ ?_ ?_
                · omega
                · rw [sh1_next h1.1, if_pos (by rw [← h2.1, ← h2.2]; show (0 < le ∧ s 8 w = kind ∧ ¬ g w = sbd (vX s) t kind); omega), ← h2.1, ← h2.2]; exact ⟨rfl, rfl⟩
                · omega
    refine h35 _ u a (s 30) ?_ ?_ (Nat.lt_succ_self _)
    · omega
    · rw [show (a - a).toNat = 0 by omega]; exact ⟨rfl, rfl⟩
  · have eb : sbd (vX s) t kind = s 4 kind := if_pos (by omega)
    refine rb_aload_n hV dX1_changeKind_5 rfl rfl ?_
    refine rb_get hV (v := .inr (some 1)) dX1_changeKind_6 ⟨RX1, TX1, 12, rfl, (Nat.le_of_ble_eq_true rfl), lf_X1_15⟩ (gw_25 _) rfl ?_
    refine rb_get hV (v := .inr (some 4)) dX1_changeKind_9 ⟨RX6, TX6, 6, rfl, (Nat.le_of_ble_eq_true rfl), lf_X1_151⟩ (gw_1 _) rfl ?_
    refine rb_goto hV (tgt := 22) dX1_changeKind_12 (by decide) ?_
    refine rb_iload_n hV dX1_changeKind_22 rfl rfl ?_
    refine rb_callS hV (rest := []) dX1_changeKind_23 (c_X9_at s 4 _ (s 4) kind (gw_4 _) (Nat.le_of_ble_eq_true rfl) (by omega)) lk_X1_61 rfl rfl ⟨rfl, rfl, (Nat.le_of_ble_eq_true rfl), (Nat.le_of_ble_eq_true rfl), (Nat.le_of_ble_eq_true rfl), (Nat.le_of_ble_eq_true rfl)⟩ (Nat.le_of_ble_eq_true rfl) (fun r9 h9 p9 => ?_)
    obtain ⟨rfl, rfl⟩ := p9
    show V 26 [some (.inr (some 25)), some (.inl a), some (.inl b), some (.inl kind), some (.inl t), some (.inl u), none, none, none] [.inl (s 4 kind)] (WW s) 0 0
    refine rb_istore hV (L2 := [some (.inr (some 25)), some (.inl a), some (.inl b), some (.inl kind), some (.inl t), some (.inl u), some (.inl (s 4 kind)), none, none]) dX1_changeKind_26 (Nat.le_of_ble_eq_true rfl) rfl ?_
    refine rb_iload hV dX1_changeKind_28 rfl ?_
    refine rb_istore hV (L2 := [some (.inr (some 25)), some (.inl a), some (.inl b), some (.inl kind), some (.inl t), some (.inl u), some (.inl (s 4 kind)), some (.inl u), none]) dX1_changeKind_30 (Nat.le_of_ble_eq_true rfl) rfl ?_
    refine rb_iload_n hV dX1_changeKind_32 rfl rfl ?_
    refine rb_istore hV (L2 := [some (.inr (some 25)), some (.inl a), some (.inl b), some (.inl kind), some (.inl t), some (.inl u), some (.inl (s 4 kind)), some (.inl u), some (.inl a)]) dX1_changeKind_33 (Nat.le_of_ble_eq_true rfl) rfl ?_
    refine rb_heq (b := (ab_s s 30 (s 30))) (ab_s_id rfl).symm ?_
    have h35 : ∀ (n35 : Nat) (le : Int) (w : Int) (g : Int → Int), (a ≤ w ∧ w ≤ b) → (g = (sh1 (vX s 3) kind (sbd (vX s) t kind) t a (w - a).toNat (s 30, u)).1 ∧ le = (sh1 (vX s 3) kind (sbd (vX s) t kind) t a (w - a).toNat (s 30, u)).2) → ((b - w).toNat) < n35 → V 35 [some (.inr (some 25)), some (.inl a), some (.inl b), some (.inl kind), some (.inl t), some (.inl u), some (.inl (s 4 kind)), some (.inl le), some (.inl w)] [] (WW (ab_s s 30 g)) 0 0 := by
      intro n35
      induction n35 with
      | zero => intro le w g h1 h2 hm; omega
      | succ n35 ih35 =>
        intro le w g h1 h2 hm
        refine rb_iload hV dX1_changeKind_35 rfl ?_
        refine rb_iload_n hV dX1_changeKind_37 rfl rfl ?_
        refine rb_icmp_ge hV (tgt := 93) dX1_changeKind_38 (by decide) ⟨(by first | assumption | (unfold ab_r at *; omega)), (by first | assumption | (unfold ab_r at *; omega))⟩ (fun c38 => ?_) (fun c38 => ?_)
        · refine rb_iload hV dX1_changeKind_93 rfl ?_
          refine rb_ret hV (r := some (.inl le)) dX1_changeKind_95 rfl ⟨(Nat.le_of_ble_eq_true rfl), (Nat.le_of_ble_eq_true rfl)⟩ trivial ?_
          first
          | (have e : w = b := by omega
             subst e
             rw [← h2.1, ← h2.2]
             exact ⟨rfl, rfl⟩)
          | (rw [sh1_end h1.1 h1.2 (by rw [← h2.2]; omega), ← h2.1, ← h2.2]
             exact ⟨rfl, rfl⟩)
        · have hg1 : g w = s 30 w := by rw [h2.1]; exact sh1_hi (p := (s 30, u)) _ _ (Or.inr (by omega))
          have hg2 := hW w h1.1 (by omega)
          have hk8 := (hp.2.1 w (by omega) (show w < s 103 0 by omega)).2.2.1
          have hk8b : 0 ≤ s 8 w ∧ s 8 w ≤ 2 := hk8
          have hle := (sh1_u (kd := vX s 3) (kind := kind) (bound := sbd (vX s) t kind) (by_ := t) (a := a) (p := (s 30, u)) (w - a).toNat)
          have hle1 : 0 ≤ le ∧ le ≤ 100000 := by rw [h2.2]; exact ⟨hle.1 hu.1, Int.le_trans hle.2 hu.2⟩
          refine rb_iload hV dX1_changeKind_41 rfl ?_
          refine rb_if_le hV (tgt := 93) dX1_changeKind_43 (by decide) (by first | assumption | (unfold ab_r at *; omega)) (fun c43 => ?_) (fun c43 => ?_)
          · refine rb_iload hV dX1_changeKind_93 rfl ?_
            refine rb_ret hV (r := some (.inl le)) dX1_changeKind_95 rfl ⟨(Nat.le_of_ble_eq_true rfl), (Nat.le_of_ble_eq_true rfl)⟩ trivial ?_
            first
            | (have e : w = b := by omega
               subst e
               rw [← h2.1, ← h2.2]
               exact ⟨rfl, rfl⟩)
            | (rw [sh1_end h1.1 h1.2 (by rw [← h2.2]; omega), ← h2.1, ← h2.2]
               exact ⟨rfl, rfl⟩)
          · refine rb_aload_n hV dX1_changeKind_46 rfl rfl ?_
            refine rb_get hV (v := .inr (some 5)) dX1_changeKind_47 ⟨RX1, TX1, 12, rfl, (Nat.le_of_ble_eq_true rfl), lf_X1_9⟩ (gw_25 _) rfl ?_
            refine rb_get hV (v := .inr (some 8)) dX1_changeKind_50 ⟨RX4, TX4, 6, rfl, (Nat.le_of_ble_eq_true rfl), lf_X1_130⟩ (gw_5 _) rfl ?_
            refine rb_iload hV dX1_changeKind_53 rfl ?_
            refine rb_iald hV (f := (s 8)) dX1_changeKind_55 (gw_8 _) (Nat.le_of_ble_eq_true rfl) (by omega) ?_
            refine rb_iload_n hV dX1_changeKind_56 rfl rfl ?_
            refine rb_icmp_ne hV (tgt := 87) dX1_changeKind_57 (by decide) ⟨(by first | assumption | (unfold ab_r at *; omega)), (by first | assumption | (unfold ab_r at *; omega))⟩ (fun c57 => ?_) (fun c57 => ?_)
            · refine rb_iinc hV (L2 := [some (.inr (some 25)), some (.inl a), some (.inl b), some (.inl kind), some (.inl t), some (.inl u), some (.inl (s 4 kind)), some (.inl le), some (.inl (w + 1))]) dX1_changeKind_87 rfl rfl rfl ?_
              refine rb_goto hV (tgt := 35) dX1_changeKind_90 (by decide) ?_
              refine ih35 le (w + 1) (g) ?_ ?_ ?_
              · omega
              · rw [sh1_next h1.1, if_neg (by rw [← h2.1, ← h2.2]; show ¬ (0 < le ∧ s 8 w = kind ∧ ¬ g w = sbd (vX s) t kind); omega), ← h2.1, ← h2.2]; exact ⟨rfl, rfl⟩
              · omega
            · refine rb_aload_n hV dX1_changeKind_60 rfl rfl ?_
              refine rb_get hV (v := .inr (some 30)) dX1_changeKind_61 ⟨RX1, TX1, 12, rfl, (Nat.le_of_ble_eq_true rfl), lf_X1_47⟩ (gw_25 _) rfl ?_
              refine rb_iload hV dX1_changeKind_64 rfl ?_
              refine rb_iald hV (f := (g)) dX1_changeKind_66 (gw_30 _) (Nat.le_of_ble_eq_true rfl) (by omega) ?_
              refine rb_iload hV dX1_changeKind_67 rfl ?_
              have hkb := hp.2.2.2.2.2 kind (by omega) (by omega)
              have hkb2 : 1 ≤ s 2 kind ∧ s 4 kind ≤ 40 ∧ s 2 kind ≤ s 4 kind := ⟨hkb.1, hkb.2.2.2, Int.le_trans hkb.2.1 hkb.2.2.1⟩
              refine rb_icmp_eq hV (tgt := 87) dX1_changeKind_69 (by decide) ⟨(by unfold ab_r; omega), (by unfold ab_r; omega)⟩ (fun c69 => ?_) (fun c69 => ?_)
              · refine rb_iinc hV (L2 := [some (.inr (some 25)), some (.inl a), some (.inl b), some (.inl kind), some (.inl t), some (.inl u), some (.inl (s 4 kind)), some (.inl le), some (.inl (w + 1))]) dX1_changeKind_87 rfl rfl rfl ?_
                refine rb_goto hV (tgt := 35) dX1_changeKind_90 (by decide) ?_
                refine ih35 le (w + 1) (g) ?_ ?_ ?_
                · omega
                · rw [sh1_next h1.1, if_neg (by rw [← h2.1, ← h2.2]; show ¬ (0 < le ∧ s 8 w = kind ∧ ¬ g w = sbd (vX s) t kind); omega), ← h2.1, ← h2.2]; exact ⟨rfl, rfl⟩
                · omega
              · refine rb_aload_n hV dX1_changeKind_72 rfl rfl ?_
                refine rb_get hV (v := .inr (some 30)) dX1_changeKind_73 ⟨RX1, TX1, 12, rfl, (Nat.le_of_ble_eq_true rfl), lf_X1_47⟩ (gw_25 _) rfl ?_
                refine rb_iload hV dX1_changeKind_76 rfl ?_
                refine rb_dup2 hV dX1_changeKind_78 ?_
                refine rb_iald hV (f := (g)) dX1_changeKind_79 (gw_30 _) (Nat.le_of_ble_eq_true rfl) (by omega) ?_
                refine rb_iload hV dX1_changeKind_80 rfl ?_
                refine rb_iadd hV dX1_changeKind_82 ?_
                refine rb_iast hV (f := (g)) dX1_changeKind_83 (gw_30 _) (Nat.le_of_ble_eq_true rfl) (by omega) rfl ((pw_30 _ _).trans (congrArg WW (ab_s_same _ 30 _ _))) ?_
                refine rb_iinc hV (L2 := [some (.inr (some 25)), some (.inl a), some (.inl b), some (.inl kind), some (.inl t), some (.inl u), some (.inl (s 4 kind)), some (.inl (le + (-1))), some (.inl w)]) dX1_changeKind_84 rfl rfl rfl ?_
                refine rb_iinc hV (L2 := [some (.inr (some 25)), some (.inl a), some (.inl b), some (.inl kind), some (.inl t), some (.inl u), some (.inl (s 4 kind)), some (.inl (le + (-1))), some (.inl (w + 1))]) dX1_changeKind_87 rfl rfl rfl ?_
                refine rb_goto hV (tgt := 35) dX1_changeKind_90 (by decide) ?_
                refine ih35 (le + (-1)) (w + 1) (ab_u (g) w (((g) w) + t)) ?_ ?_ ?_
                · omega
                · rw [sh1_next h1.1, if_pos (by rw [← h2.1, ← h2.2]; show (0 < le ∧ s 8 w = kind ∧ ¬ g w = sbd (vX s) t kind); omega), ← h2.1, ← h2.2]; exact ⟨rfl, rfl⟩
                · omega
    refine h35 _ u a (s 30) ?_ ?_ (Nat.lt_succ_self _)
    · omega
    · rw [show (a - a).toNat = 0 by omega]; exact ⟨rfl, rfl⟩

set_option maxRecDepth 20000 in
theorem c_X1_placeWords_la (s : Nat → Int → Int) (l a b : Int) (hp : PI (vX s)) (hr : RU s) (h : 0 ≤ a ∧ a ≤ b ∧ b < s 103 0) : ab_Mt yX1_placeWords cX1_placeWords 6 none ({ frames := 2, cells := 0, slots := 0, locals := 42 } : Room) false 0 0 [.inr (some 25), .inl l, .inl a, .inl b] (WW s) (fun r h2 => r = none ∧ ∃ lo sl be, h2 = WW (ab_s (ab_s (ab_s s 27 lo) 28 sl) 29 be) ∧ (∀ j, a ≤ j → j ≤ b → lo j = l ∧ sl j = (if j < b then l else -1) ∧ be j = bgF (vX s) (s 30) a j) ∧ (∀ j, ¬ (a ≤ j ∧ j ≤ b) → lo j = s 27 j ∧ sl j = s 28 j ∧ be j = s 29 j)) := by
  refine ab_mk RX1 false rfl pn_X1_placeWords (fun z => by cases z) (Nat.le_of_ble_eq_true rfl) (fun V hV => ?_)
  show V 0 [some (.inr (some 25)), some (.inl l), some (.inl a), some (.inl b), none, none] [] (WW s) 0 0
  have hn : 0 ≤ s 103 0 ∧ s 103 0 ≤ 60 := hp.1
  refine rb_aload_n hV dX1_placeWords_0 rfl rfl ?_
  refine rb_get hV (v := .inr (some 11)) dX1_placeWords_1 ⟨RX1, TX1, 12, rfl, (Nat.le_of_ble_eq_true rfl), lf_X1_19⟩ (gw_25 _) rfl ?_
  refine rb_get hV (v := .inr (some 16)) dX1_placeWords_4 ⟨RX2, TX2, 8, rfl, (Nat.le_of_ble_eq_true rfl), lf_X1_157⟩ (gw_11 _) rfl ?_
  refine rb_iload_n hV dX1_placeWords_7 rfl rfl ?_
  refine rb_iald hV (f := (s 16)) dX1_placeWords_8 (gw_16 _) (Nat.le_of_ble_eq_true rfl) (by omega) ?_
  refine rb_ineg hV dX1_placeWords_9 ?_
  refine rb_istore hV (L2 := [some (.inr (some 25)), some (.inl l), some (.inl a), some (.inl b), some (.inl (-(s 16 a))), none]) dX1_placeWords_10 (Nat.le_of_ble_eq_true rfl) rfl ?_
  refine rb_iload_n hV dX1_placeWords_12 rfl rfl ?_
  refine rb_istore hV (L2 := [some (.inr (some 25)), some (.inl l), some (.inl a), some (.inl b), some (.inl (-(s 16 a))), some (.inl a)]) dX1_placeWords_13 (Nat.le_of_ble_eq_true rfl) rfl ?_
  refine rb_heq (b := (ab_s (ab_s (ab_s s 27 (s 27)) 28 (s 28)) 29 (s 29))) ((ab_s_id rfl).trans ((ab_s_id rfl).trans (ab_s_id rfl))).symm ?_
  have h15 : ∀ (n15 : Nat) (bg : Int) (w : Int) (lo : Int → Int) (sl : Int → Int) (be : Int → Int), (a ≤ w ∧ w ≤ b + 1) → (w ≤ b → bg = bgF (vX s) (s 30) a w) → (∀ j, a ≤ j → j < w → lo j = l ∧ sl j = (if j < b then l else -1) ∧ be j = bgF (vX s) (s 30) a j) → (∀ j, ¬ (a ≤ j ∧ j < w) → lo j = s 27 j ∧ sl j = s 28 j ∧ be j = s 29 j) → ((b + 1 - w).toNat) < n15 → V 15 [some (.inr (some 25)), some (.inl l), some (.inl a), some (.inl b), some (.inl bg), some (.inl w)] [] (WW (ab_s (ab_s (ab_s s 27 lo) 28 sl) 29 be)) 0 0 := by
    intro n15
    induction n15 with
    | zero => intro bg w lo sl be h1 h2 h3 h4 hm; omega
    | succ n15 ih15 =>
      intro bg w lo sl be h1 h2 h3 h4 hm
      refine rb_iload hV dX1_placeWords_15 rfl ?_
      refine rb_iload_n hV dX1_placeWords_17 rfl rfl ?_
      refine rb_icmp_gt hV (tgt := 88) dX1_placeWords_18 (by decide) ⟨(by first | assumption | (unfold ab_r at *; omega)), (by first | assumption | (unfold ab_r at *; omega))⟩ (fun c18 => ?_) (fun c18 => ?_)
      · refine rb_ret hV (r := none) dX1_placeWords_88 rfl ⟨(Nat.le_of_ble_eq_true rfl), (Nat.le_of_ble_eq_true rfl)⟩ trivial ?_
        have e : w = b + 1 := by omega
        exact ⟨rfl, lo, sl, be, rfl, fun j j1 j2 => h3 j j1 (by omega), fun j hj => h4 j (by omega)⟩
      · refine rb_aload_n hV dX1_placeWords_21 rfl rfl ?_
        refine rb_get hV (v := .inr (some 27)) dX1_placeWords_22 ⟨RX1, TX1, 12, rfl, (Nat.le_of_ble_eq_true rfl), lf_X1_38⟩ (gw_25 _) rfl ?_
        refine rb_iload hV dX1_placeWords_25 rfl ?_
        refine rb_iload_n hV dX1_placeWords_27 rfl rfl ?_
        refine rb_iast hV (f := (lo)) dX1_placeWords_28 (gw_27 _) (Nat.le_of_ble_eq_true rfl) (by omega) rfl ((pw_27 _ _).trans (congrArg WW ((ab_s_sw (by decide)).trans (congrArg (fun x => ab_s x 29 _) ((ab_s_sw (by decide)).trans (congrArg (fun x => ab_s x 28 _) (ab_s_same _ 27 _ _))))))) ?_
        refine rb_aload_n hV dX1_placeWords_29 rfl rfl ?_
        refine rb_get hV (v := .inr (some 28)) dX1_placeWords_30 ⟨RX1, TX1, 12, rfl, (Nat.le_of_ble_eq_true rfl), lf_X1_41⟩ (gw_25 _) rfl ?_
        refine rb_iload hV dX1_placeWords_33 rfl ?_
        refine rb_iload hV dX1_placeWords_35 rfl ?_
        refine rb_iload_n hV dX1_placeWords_37 rfl rfl ?_
        refine rb_icmp_ge hV (tgt := 45) dX1_placeWords_38 (by decide) ⟨(by first | assumption | (unfold ab_r at *; omega)), (by first | assumption | (unfold ab_r at *; omega))⟩ (fun c38 => ?_) (fun c38 => ?_)
        · refine rb_iconst hV dX1_placeWords_45 ?_
          refine rb_iast hV (f := (sl)) dX1_placeWords_46 (gw_28 _) (Nat.le_of_ble_eq_true rfl) (by omega) rfl ((pw_28 _ _).trans (congrArg WW ((ab_s_sw (by decide)).trans (congrArg (fun x => ab_s x 29 _) (ab_s_same _ 28 _ _))))) ?_
          refine rb_aload_n hV dX1_placeWords_47 rfl rfl ?_
          refine rb_get hV (v := .inr (some 29)) dX1_placeWords_48 ⟨RX1, TX1, 12, rfl, (Nat.le_of_ble_eq_true rfl), lf_X1_44⟩ (gw_25 _) rfl ?_
          refine rb_iload hV dX1_placeWords_51 rfl ?_
          refine rb_iload hV dX1_placeWords_53 rfl ?_
          refine rb_iast hV (f := (be)) dX1_placeWords_55 (gw_29 _) (Nat.le_of_ble_eq_true rfl) (by omega) rfl ((pw_29 _ _).trans (congrArg WW (ab_s_same _ 29 _ _))) ?_
          refine rb_aload_n hV dX1_placeWords_56 rfl rfl ?_
          refine rb_iload hV dX1_placeWords_57 rfl ?_
          refine rb_callV hV (rest := []) dX1_placeWords_59 (c_X1_endOf_la (ab_s (ab_s (ab_s s 27 (ab_u (lo) w l)) 28 (ab_u (sl) w (-1))) 29 (ab_u (be) w bg)) w (by omega)) lk_X1_160 rfl (Or.inl ⟨1, _, TX1, 12, gw_25 _, rfl⟩) rfl ⟨rfl, rfl, (Nat.le_of_ble_eq_true rfl), (Nat.le_of_ble_eq_true rfl), (Nat.le_of_ble_eq_true rfl), (Nat.le_of_ble_eq_true rfl)⟩ (Nat.le_of_ble_eq_true rfl) (fun r9 h9 p9 => ?_)
          obtain ⟨rfl, rfl⟩ := p9
          show V 62 [some (.inr (some 25)), some (.inl l), some (.inl a), some (.inl b), some (.inl bg), some (.inl w)] [.inl (((ab_u (be) w bg) w) + (s 6 w))] (WW (ab_s (ab_s (ab_s s 27 (ab_u (lo) w l)) 28 (ab_u (sl) w (-1))) 29 (ab_u (be) w bg))) 0 0
          refine rb_iload hV dX1_placeWords_62 rfl ?_
          refine rb_iload_n hV dX1_placeWords_64 rfl rfl ?_
          refine rb_icmp_ge hV (tgt := 78) dX1_placeWords_65 (by decide) ⟨(by first | assumption | (unfold ab_r at *; omega)), (by first | assumption | (unfold ab_r at *; omega))⟩ (fun c65 => ?_) (fun c65 => absurd c65 (by omega))
          refine rb_iconst hV dX1_placeWords_78 ?_
          refine rb_iadd hV dX1_placeWords_79 ?_
          refine rb_istore hV (L2 := [some (.inr (some 25)), some (.inl l), some (.inl a), some (.inl b), some (.inl ((((ab_u (be) w bg) w) + (s 6 w)) + 0)), some (.inl w)]) dX1_placeWords_80 (Nat.le_of_ble_eq_true rfl) rfl ?_
          refine rb_iinc hV (L2 := [some (.inr (some 25)), some (.inl l), some (.inl a), some (.inl b), some (.inl ((((ab_u (be) w bg) w) + (s 6 w)) + 0)), some (.inl (w + 1))]) dX1_placeWords_82 rfl rfl rfl ?_
          refine rb_goto hV (tgt := 15) dX1_placeWords_85 (by decide) ?_
          refine ih15 ((((ab_u (be) w bg) w) + (s 6 w)) + 0) (w + 1) (ab_u (lo) w l) (ab_u (sl) w (-1)) (ab_u (be) w bg) ?_ ?_ ?_ ?_ ?_
          · omega
          · intro q; omega
          · intro j j1 j2
            by_cases hj : j = w
            · subst hj
              rw [ab_u_eq, ab_u_eq, ab_u_eq, if_neg (by omega)]
              exact ⟨rfl, rfl, h2 (by omega)⟩
            · rw [ab_u_ne hj, ab_u_ne hj, ab_u_ne hj]
              exact h3 j j1 (by omega)
          · intro j hj
            rw [ab_u_ne (by omega), ab_u_ne (by omega), ab_u_ne (by omega)]
            exact h4 j (by omega)
          · omega
        · refine rb_iload_n hV dX1_placeWords_41 rfl rfl ?_
          refine rb_goto hV (tgt := 46) dX1_placeWords_42 (by decide) ?_
          refine rb_iast hV (f := (sl)) dX1_placeWords_46 (gw_28 _) (Nat.le_of_ble_eq_true rfl) (by omega) rfl ((pw_28 _ _).trans (congrArg WW ((ab_s_sw (by decide)).trans (congrArg (fun x => ab_s x 29 _) (ab_s_same _ 28 _ _))))) ?_
          refine rb_aload_n hV dX1_placeWords_47 rfl rfl ?_
          refine rb_get hV (v := .inr (some 29)) dX1_placeWords_48 ⟨RX1, TX1, 12, rfl, (Nat.le_of_ble_eq_true rfl), lf_X1_44⟩ (gw_25 _) rfl ?_
          refine rb_iload hV dX1_placeWords_51 rfl ?_
          refine rb_iload hV dX1_placeWords_53 rfl ?_
          refine rb_iast hV (f := (be)) dX1_placeWords_55 (gw_29 _) (Nat.le_of_ble_eq_true rfl) (by omega) rfl ((pw_29 _ _).trans (congrArg WW (ab_s_same _ 29 _ _))) ?_
          refine rb_aload_n hV dX1_placeWords_56 rfl rfl ?_
          refine rb_iload hV dX1_placeWords_57 rfl ?_
          refine rb_callV hV (rest := []) dX1_placeWords_59 (c_X1_endOf_la (ab_s (ab_s (ab_s s 27 (ab_u (lo) w l)) 28 (ab_u (sl) w l)) 29 (ab_u (be) w bg)) w (by omega)) lk_X1_160 rfl (Or.inl ⟨1, _, TX1, 12, gw_25 _, rfl⟩) rfl ⟨rfl, rfl, (Nat.le_of_ble_eq_true rfl), (Nat.le_of_ble_eq_true rfl), (Nat.le_of_ble_eq_true rfl), (Nat.le_of_ble_eq_true rfl)⟩ (Nat.le_of_ble_eq_true rfl) (fun r9 h9 p9 => ?_)
          obtain ⟨rfl, rfl⟩ := p9
          show V 62 [some (.inr (some 25)), some (.inl l), some (.inl a), some (.inl b), some (.inl bg), some (.inl w)] [.inl (((ab_u (be) w bg) w) + (s 6 w))] (WW (ab_s (ab_s (ab_s s 27 (ab_u (lo) w l)) 28 (ab_u (sl) w l)) 29 (ab_u (be) w bg))) 0 0
          refine rb_iload hV dX1_placeWords_62 rfl ?_
          refine rb_iload_n hV dX1_placeWords_64 rfl rfl ?_
          refine rb_icmp_ge hV (tgt := 78) dX1_placeWords_65 (by decide) ⟨(by first | assumption | (unfold ab_r at *; omega)), (by first | assumption | (unfold ab_r at *; omega))⟩ (fun c65 => absurd c65 (by omega)) (fun c65 => ?_)
          refine rb_aload_n hV dX1_placeWords_68 rfl rfl ?_
          refine rb_get hV (v := .inr (some 30)) dX1_placeWords_69 ⟨RX1, TX1, 12, rfl, (Nat.le_of_ble_eq_true rfl), lf_X1_47⟩ (gw_25 _) rfl ?_
          refine rb_iload hV dX1_placeWords_72 rfl ?_
          refine rb_iald hV (f := (s 30)) dX1_placeWords_74 (gw_30 _) (Nat.le_of_ble_eq_true rfl) (by omega) ?_
          refine rb_goto hV (tgt := 79) dX1_placeWords_75 (by decide) ?_
          refine rb_iadd hV dX1_placeWords_79 ?_
          refine rb_istore hV (L2 := [some (.inr (some 25)), some (.inl l), some (.inl a), some (.inl b), some (.inl ((((ab_u (be) w bg) w) + (s 6 w)) + (s 30 w))), some (.inl w)]) dX1_placeWords_80 (Nat.le_of_ble_eq_true rfl) rfl ?_
          refine rb_iinc hV (L2 := [some (.inr (some 25)), some (.inl l), some (.inl a), some (.inl b), some (.inl ((((ab_u (be) w bg) w) + (s 6 w)) + (s 30 w))), some (.inl (w + 1))]) dX1_placeWords_82 rfl rfl rfl ?_
          refine rb_goto hV (tgt := 15) dX1_placeWords_85 (by decide) ?_
          refine ih15 ((((ab_u (be) w bg) w) + (s 6 w)) + (s 30 w)) (w + 1) (ab_u (lo) w l) (ab_u (sl) w l) (ab_u (be) w bg) ?_ ?_ ?_ ?_ ?_
          · omega
          · intro q; rw [bgF_s _ _ h1.1, ab_u_eq, h2 (by omega)]; rfl
          · intro j j1 j2
            by_cases hj : j = w
            · subst hj
              rw [ab_u_eq, ab_u_eq, ab_u_eq, if_pos (by omega)]
              exact ⟨rfl, rfl, h2 (by omega)⟩
            · rw [ab_u_ne hj, ab_u_ne hj, ab_u_ne hj]
              exact h3 j j1 (by omega)
          · intro j hj
            rw [ab_u_ne (by omega), ab_u_ne (by omega), ab_u_ne (by omega)]
            exact h4 j (by omega)
          · omega
  refine h15 _ (-(s 16 a)) a (s 27) (s 28) (s 29) ?_ ?_ ?_ ?_ (Nat.lt_succ_self _)
  · omega
  · intro _; rw [bgF_0]; exact congrArg (fun z : Int => -z) (hr.2 a (by omega) (by show a < s 103 0; omega)).1
  · exact fun j j1 j2 => absurd j2 (by omega)
  · exact fun j _ => ⟨rfl, rfl, rfl⟩

set_option maxRecDepth 20000 in
theorem c_X1_goOnFrom_tr (s : Nat → Int → Int) (w0 : Int) (hp : PI (vX s)) (hbw : BW (vX s) (s 19) (s 20)) (h : 0 ≤ w0 ∧ w0 ≤ s 103 0 ∧ 0 ≤ s 19 w0) (hl : 0 ≤ s 112 0 ∧ s 112 0 ≤ w0) : ab_Mt yX1_goOnFrom cX1_goOnFrom 3 none ({ frames := 1, cells := 0, slots := 0, locals := 21 } : Room) false 0 0 [.inr (some 37), .inl w0] (WW s) (fun r h2 => r = none ∧ h2 = WW (ab_s (ab_s s 112 (fun _ => (go (s 20) (s 103 0) (s 103 0 - w0).toNat (s 112 0) w0 (s 38)).1)) 38 (go (s 20) (s 103 0) (s 103 0 - w0).toNat (s 112 0) w0 (s 38)).2)) := by
  refine ab_mk RX1 false rfl pn_X1_goOnFrom (fun z => by cases z) (Nat.le_of_ble_eq_true rfl) (fun V hV => ?_)
  show V 0 [some (.inr (some 37)), some (.inl w0), none] [] (WW s) 0 0
  have hn : 0 ≤ s 103 0 ∧ s 103 0 ≤ 60 := hp.1
  refine rb_iload_n hV dX1_goOnFrom_0 rfl rfl ?_
  refine rb_istore_n hV (L2 := [some (.inr (some 37)), some (.inl w0), some (.inl w0)]) dX1_goOnFrom_1 rfl (Nat.le_of_ble_eq_true rfl) rfl ?_
  refine rb_heq (b := (ab_s (ab_s s 112 (s 112)) 38 (s 38))) ((ab_s_id rfl).trans (ab_s_id rfl)).symm ?_
  have h2 : ∀ (n2 : Nat) (w : Int) (i : Int) (f : Int → Int), (0 ≤ w ∧ w ≤ s 103 0 ∧ 0 ≤ s 19 w ∧ 0 ≤ i ∧ i ≤ w) → (go (s 20) (s 103 0) (s 103 0 - w).toNat i w f = (go (s 20) (s 103 0) (s 103 0 - w0).toNat (s 112 0) w0 (s 38))) → ((s 103 0 - w).toNat) < n2 → V 2 [some (.inr (some 37)), some (.inl w0), some (.inl w)] [] (WW (ab_s (ab_s s 112 (fun _ => i)) 38 f)) 0 0 := by
    intro n2
    induction n2 with
    | zero => intro w i f h1 h2 hm; omega
    | succ n2 ih2 =>
      intro w i f h1 h2 hm
      refine rb_iload_n hV dX1_goOnFrom_2 rfl rfl ?_
      refine rb_aload_n hV dX1_goOnFrom_3 rfl rfl ?_
      refine rb_get hV (v := .inr (some 5)) dX1_goOnFrom_4 ⟨RX1, TX1, 12, rfl, (Nat.le_of_ble_eq_true rfl), lf_X1_9⟩ (gw_37 _) rfl ?_
      refine rb_get hV (v := .inl (s 103 0)) dX1_goOnFrom_7 ⟨RX4, TX4, 6, rfl, (Nat.le_of_ble_eq_true rfl), lf_X1_85⟩ (gw_5 _) rfl ?_
      refine rb_icmp_ge hV (tgt := 59) dX1_goOnFrom_10 (by decide) ⟨(by first | assumption | (unfold ab_r at *; omega)), (by first | assumption | (unfold ab_r at *; omega))⟩ (fun c10 => ?_) (fun c10 => ?_)
      · refine rb_aload_n hV dX1_goOnFrom_59 rfl rfl ?_
        refine rb_get hV (v := .inr (some 38)) dX1_goOnFrom_60 ⟨RX1, TX1, 12, rfl, (Nat.le_of_ble_eq_true rfl), lf_X1_34⟩ (gw_37 _) rfl ?_
        refine rb_aload_n hV dX1_goOnFrom_63 rfl rfl ?_
        refine rb_get hV (v := .inl i) dX1_goOnFrom_64 ⟨RX1, TX1, 12, rfl, (Nat.le_of_ble_eq_true rfl), lf_X1_27⟩ (gw_37 _) rfl ?_
        refine rb_aload_n hV dX1_goOnFrom_67 rfl rfl ?_
        refine rb_get hV (v := .inr (some 5)) dX1_goOnFrom_68 ⟨RX1, TX1, 12, rfl, (Nat.le_of_ble_eq_true rfl), lf_X1_9⟩ (gw_37 _) rfl ?_
        refine rb_get hV (v := .inl (s 103 0)) dX1_goOnFrom_71 ⟨RX4, TX4, 6, rfl, (Nat.le_of_ble_eq_true rfl), lf_X1_85⟩ (gw_5 _) rfl ?_
        refine rb_iast hV (f := (f)) dX1_goOnFrom_74 (gw_38 _) (Nat.le_of_ble_eq_true rfl) (by omega) rfl ((pw_38 _ _).trans (congrArg WW (ab_s_same _ 38 _ _))) ?_
        refine rb_ret hV (r := none) dX1_goOnFrom_75 rfl ⟨(Nat.le_of_ble_eq_true rfl), (Nat.le_of_ble_eq_true rfl)⟩ trivial ?_
        rw [go_end _ (by omega)] at h2
        refine ⟨rfl, ?_⟩
        rw [← h2]
      · refine rb_aload_n hV dX1_goOnFrom_13 rfl rfl ?_
        refine rb_get hV (v := .inl i) dX1_goOnFrom_14 ⟨RX1, TX1, 12, rfl, (Nat.le_of_ble_eq_true rfl), lf_X1_27⟩ (gw_37 _) rfl ?_
        refine rb_bipush hV dX1_goOnFrom_17 (by decide) ?_
        refine rb_icmp_ge hV (tgt := 59) dX1_goOnFrom_19 (by decide) ⟨(by first | assumption | (unfold ab_r at *; omega)), (by first | assumption | (unfold ab_r at *; omega))⟩ (fun c19 => absurd c19 (by omega)) (fun c19 => ?_)
        have hy := BW_WY hbw w h1.1 (show w < s 103 0 by omega) h1.2.2.1
        have hy3 : 0 ≤ s 19 (s 20 w + 1) := hy.2.2
        have hy2 : s 20 w < s 103 0 := hy.2.1
        have hy1 : w ≤ s 20 w := hy.1
        refine rb_aload_n hV dX1_goOnFrom_22 rfl rfl ?_
        refine rb_get hV (v := .inr (some 38)) dX1_goOnFrom_23 ⟨RX1, TX1, 12, rfl, (Nat.le_of_ble_eq_true rfl), lf_X1_34⟩ (gw_37 _) rfl ?_
        refine rb_aload_n hV dX1_goOnFrom_26 rfl rfl ?_
        refine rb_get hV (v := .inl i) dX1_goOnFrom_27 ⟨RX1, TX1, 12, rfl, (Nat.le_of_ble_eq_true rfl), lf_X1_27⟩ (gw_37 _) rfl ?_
        refine rb_iload_n hV dX1_goOnFrom_30 rfl rfl ?_
        refine rb_iast hV (f := (f)) dX1_goOnFrom_31 (gw_38 _) (Nat.le_of_ble_eq_true rfl) (by omega) rfl ((pw_38 _ _).trans (congrArg WW (ab_s_same _ 38 _ _))) ?_
        refine rb_aload_n hV dX1_goOnFrom_32 rfl rfl ?_
        refine rb_get hV (v := .inr (some 18)) dX1_goOnFrom_33 ⟨RX1, TX1, 12, rfl, (Nat.le_of_ble_eq_true rfl), lf_X1_23⟩ (gw_37 _) rfl ?_
        refine rb_get hV (v := .inr (some 20)) dX1_goOnFrom_36 ⟨RX0, TX0, 4, rfl, (Nat.le_of_ble_eq_true rfl), lf_X1_107⟩ (gw_18 _) rfl ?_
        refine rb_iload_n hV dX1_goOnFrom_39 rfl rfl ?_
        refine rb_callS hV (rest := []) dX1_goOnFrom_40 (c_X9_at (ab_s (ab_s s 112 (fun _ => i)) 38 (ab_u (f) i w)) 20 _ (s 20) w (gw_20 _) (Nat.le_of_ble_eq_true rfl) (by omega)) lk_X1_61 rfl rfl ⟨rfl, rfl, (Nat.le_of_ble_eq_true rfl), (Nat.le_of_ble_eq_true rfl), (Nat.le_of_ble_eq_true rfl), (Nat.le_of_ble_eq_true rfl)⟩ (Nat.le_of_ble_eq_true rfl) (fun r9 h9 p9 => ?_)
        obtain ⟨rfl, rfl⟩ := p9
        show V 43 [some (.inr (some 37)), some (.inl w0), some (.inl w)] [.inl (s 20 w)] (WW (ab_s (ab_s s 112 (fun _ => i)) 38 (ab_u (f) i w))) 0 0
        refine rb_iconst hV dX1_goOnFrom_43 ?_
        refine rb_iadd hV dX1_goOnFrom_44 ?_
        refine rb_istore_n hV (L2 := [some (.inr (some 37)), some (.inl w0), some (.inl ((s 20 w) + 1))]) dX1_goOnFrom_45 rfl (Nat.le_of_ble_eq_true rfl) rfl ?_
        refine rb_aload_n hV dX1_goOnFrom_46 rfl rfl ?_
        refine rb_dup hV dX1_goOnFrom_47 ?_
        refine rb_get hV (v := .inl i) dX1_goOnFrom_48 ⟨RX1, TX1, 12, rfl, (Nat.le_of_ble_eq_true rfl), lf_X1_27⟩ (gw_37 _) rfl ?_
        refine rb_iconst hV dX1_goOnFrom_51 ?_
        refine rb_iadd hV dX1_goOnFrom_52 ?_
        refine rb_put hV (C := RX1) (T := TX1) (N := 12) (ci := 1) (j := 4) dX1_goOnFrom_53 rfl (Nat.le_of_ble_eq_true rfl) lf_X1_27 rfl (gw_37 _) (Nat.le_of_ble_eq_true rfl) (ft_X1_4 _) ((pw_37_4 _ _).trans (congrArg WW ((ab_s_sw (by decide)).trans (congrArg (fun x => ab_s x 38 _) (ab_s_same _ 112 _ _))))) ?_
        refine rb_goto hV (tgt := 2) dX1_goOnFrom_56 (by decide) ?_
        refine ih2 ((s 20 w) + 1) (i + 1) (ab_u (f) i w) ?_ ?_ ?_
        · omega
        · exact (go_step (BW_WY hbw) h1.1 (show w < s 103 0 by omega) h1.2.2.1).symm.trans h2
        · omega
  refine h2 _ w0 ((s 112) 0) (s 38) ?_ ?_ (Nat.lt_succ_self _)
  · omega
  · rfl

set_option maxRecDepth 20000 in
theorem c_X1_changeKind_tr (s : Nat → Int → Int) (a b kind t u : Int) (hp : PI (vX s)) (h : 0 ≤ a ∧ a ≤ b ∧ b ≤ s 103 0) (hkd : 0 ≤ kind ∧ kind ≤ 2) (ht : t = 1 ∨ t = -1) (hu : 0 ≤ u ∧ u ≤ 100000) (hW : ∀ w, a ≤ w → w < b → -1000 ≤ s 42 w ∧ s 42 w ≤ 1000) : ab_Mt yX1_changeKind cX1_changeKind 9 (some .int) ({ frames := 1, cells := 0, slots := 0, locals := 21 } : Room) false 0 0 [.inr (some 37), .inl a, .inl b, .inl kind, .inl t, .inl u] (WW s) (fun r h2 => r = some (.inl (sh1 (vX s 3) kind (sbd (vX s) t kind) t a (b - a).toNat (s 42, u)).2) ∧ h2 = WW (ab_s s 42 (sh1 (vX s 3) kind (sbd (vX s) t kind) t a (b - a).toNat (s 42, u)).1)) := by
  refine ab_mk RX1 false rfl pn_X1_changeKind (fun z => by cases z) (Nat.le_of_ble_eq_true rfl) (fun V hV => ?_)
  show V 0 [some (.inr (some 37)), some (.inl a), some (.inl b), some (.inl kind), some (.inl t), some (.inl u), none, none, none] [] (WW s) 0 0
  have hn : 0 ≤ s 103 0 ∧ s 103 0 ≤ 60 := hp.1
  refine rb_iload hV dX1_changeKind_0 rfl ?_
  refine rb_if_le hV (tgt := 15) dX1_changeKind_2 (by decide) (by first | assumption | (unfold ab_r at *; omega)) (fun c2 => ?_) (fun c2 => ?_)
  · have eb : sbd (vX s) t kind = s 2 kind := if_neg (by omega)
    refine rb_aload_n hV dX1_changeKind_15 rfl rfl ?_
    refine rb_get hV (v := .inr (some 1)) dX1_changeKind_16 ⟨RX1, TX1, 12, rfl, (Nat.le_of_ble_eq_true rfl), lf_X1_15⟩ (gw_37 _) rfl ?_
    refine rb_get hV (v := .inr (some 2)) dX1_changeKind_19 ⟨RX6, TX6, 6, rfl, (Nat.le_of_ble_eq_true rfl), lf_X1_154⟩ (gw_1 _) rfl ?_
    refine rb_iload_n hV dX1_changeKind_22 rfl rfl ?_
    refine rb_callS hV (rest := []) dX1_changeKind_23 (c_X9_at s 2 _ (s 2) kind (gw_2 _) (Nat.le_of_ble_eq_true rfl) (by omega)) lk_X1_61 rfl rfl ⟨rfl, rfl, (Nat.le_of_ble_eq_true rfl), (Nat.le_of_ble_eq_true rfl), (Nat.le_of_ble_eq_true rfl), (Nat.le_of_ble_eq_true rfl)⟩ (Nat.le_of_ble_eq_true rfl) (fun r9 h9 p9 => ?_)
    obtain ⟨rfl, rfl⟩ := p9
    show V 26 [some (.inr (some 37)), some (.inl a), some (.inl b), some (.inl kind), some (.inl t), some (.inl u), none, none, none] [.inl (s 2 kind)] (WW s) 0 0
    refine rb_istore hV (L2 := [some (.inr (some 37)), some (.inl a), some (.inl b), some (.inl kind), some (.inl t), some (.inl u), some (.inl (s 2 kind)), none, none]) dX1_changeKind_26 (Nat.le_of_ble_eq_true rfl) rfl ?_
    refine rb_iload hV dX1_changeKind_28 rfl ?_
    refine rb_istore hV (L2 := [some (.inr (some 37)), some (.inl a), some (.inl b), some (.inl kind), some (.inl t), some (.inl u), some (.inl (s 2 kind)), some (.inl u), none]) dX1_changeKind_30 (Nat.le_of_ble_eq_true rfl) rfl ?_
    refine rb_iload_n hV dX1_changeKind_32 rfl rfl ?_
    refine rb_istore hV (L2 := [some (.inr (some 37)), some (.inl a), some (.inl b), some (.inl kind), some (.inl t), some (.inl u), some (.inl (s 2 kind)), some (.inl u), some (.inl a)]) dX1_changeKind_33 (Nat.le_of_ble_eq_true rfl) rfl ?_
    refine rb_heq (b := (ab_s s 42 (s 42))) (ab_s_id rfl).symm ?_
    have h35 : ∀ (n35 : Nat) (le : Int) (w : Int) (g : Int → Int), (a ≤ w ∧ w ≤ b) → (g = (sh1 (vX s 3) kind (sbd (vX s) t kind) t a (w - a).toNat (s 42, u)).1 ∧ le = (sh1 (vX s 3) kind (sbd (vX s) t kind) t a (w - a).toNat (s 42, u)).2) → ((b - w).toNat) < n35 → V 35 [some (.inr (some 37)), some (.inl a), some (.inl b), some (.inl kind), some (.inl t), some (.inl u), some (.inl (s 2 kind)), some (.inl le), some (.inl w)] [] (WW (ab_s s 42 g)) 0 0 := by
      intro n35
      induction n35 with
      | zero => intro le w g h1 h2 hm; omega
      | succ n35 ih35 =>
        intro le w g h1 h2 hm
        refine rb_iload hV dX1_changeKind_35 rfl ?_
        refine rb_iload_n hV dX1_changeKind_37 rfl rfl ?_
        refine rb_icmp_ge hV (tgt := 93) dX1_changeKind_38 (by decide) ⟨(by first | assumption | (unfold ab_r at *; omega)), (by first | assumption | (unfold ab_r at *; omega))⟩ (fun c38 => ?_) (fun c38 => ?_)
        · refine rb_iload hV dX1_changeKind_93 rfl ?_
          refine rb_ret hV (r := some (.inl le)) dX1_changeKind_95 rfl ⟨(Nat.le_of_ble_eq_true rfl), (Nat.le_of_ble_eq_true rfl)⟩ trivial ?_
          first
          | (have e : w = b := by omega
             subst e
             rw [← h2.1, ← h2.2]
             exact ⟨rfl, rfl⟩)
          | (rw [sh1_end h1.1 h1.2 (by rw [← h2.2]; omega), ← h2.1, ← h2.2]
             exact ⟨rfl, rfl⟩)
        · have hg1 : g w = s 42 w := by rw [h2.1]; exact sh1_hi (p := (s 42, u)) _ _ (Or.inr (by omega))
          have hg2 := hW w h1.1 (by omega)
          have hk8 := (hp.2.1 w (by omega) (show w < s 103 0 by omega)).2.2.1
          have hk8b : 0 ≤ s 8 w ∧ s 8 w ≤ 2 := hk8
          have hle := (sh1_u (kd := vX s 3) (kind := kind) (bound := sbd (vX s) t kind) (by_ := t) (a := a) (p := (s 42, u)) (w - a).toNat)
          have hle1 : 0 ≤ le ∧ le ≤ 100000 := by rw [h2.2]; exact ⟨hle.1 hu.1, Int.le_trans hle.2 hu.2⟩
          refine rb_iload hV dX1_changeKind_41 rfl ?_
          refine rb_if_le hV (tgt := 93) dX1_changeKind_43 (by decide) (by first | assumption | (unfold ab_r at *; omega)) (fun c43 => ?_) (fun c43 => ?_)
          · refine rb_iload hV dX1_changeKind_93 rfl ?_
            refine rb_ret hV (r := some (.inl le)) dX1_changeKind_95 rfl ⟨(Nat.le_of_ble_eq_true rfl), (Nat.le_of_ble_eq_true rfl)⟩ trivial ?_
            first
            | (have e : w = b := by omega
               subst e
               rw [← h2.1, ← h2.2]
               exact ⟨rfl, rfl⟩)
            | (rw [sh1_end h1.1 h1.2 (by rw [← h2.2]; omega), ← h2.1, ← h2.2]
               exact ⟨rfl, rfl⟩)
          · refine rb_aload_n hV dX1_changeKind_46 rfl rfl ?_
            refine rb_get hV (v := .inr (some 5)) dX1_changeKind_47 ⟨RX1, TX1, 12, rfl, (Nat.le_of_ble_eq_true rfl), lf_X1_9⟩ (gw_37 _) rfl ?_
            refine rb_get hV (v := .inr (some 8)) dX1_changeKind_50 ⟨RX4, TX4, 6, rfl, (Nat.le_of_ble_eq_true rfl), lf_X1_130⟩ (gw_5 _) rfl ?_
            refine rb_iload hV dX1_changeKind_53 rfl ?_
            refine rb_iald hV (f := (s 8)) dX1_changeKind_55 (gw_8 _) (Nat.le_of_ble_eq_true rfl) (by omega) ?_
            refine rb_iload_n hV dX1_changeKind_56 rfl rfl ?_
            refine rb_icmp_ne hV (tgt := 87) dX1_changeKind_57 (by decide) ⟨(by first | assumption | (unfold ab_r at *; omega)), (by first | assumption | (unfold ab_r at *; omega))⟩ (fun c57 => ?_) (fun c57 => ?_)
            · refine rb_iinc hV (L2 := [some (.inr (some 37)), some (.inl a), some (.inl b), some (.inl kind), some (.inl t), some (.inl u), some (.inl (s 2 kind)), some (.inl le), some (.inl (w + 1))]) dX1_changeKind_87 rfl rfl rfl ?_
              refine rb_goto hV (tgt := 35) dX1_changeKind_90 (by decide) ?_
              refine ih35 le (w + 1) (g) ?_ ?_ ?_
              · omega
              · rw [sh1_next h1.1, if_neg (by rw [← h2.1, ← h2.2]; show ¬ (0 < le ∧ s 8 w = kind ∧ ¬ g w = sbd (vX s) t kind); omega), ← h2.1, ← h2.2]; exact ⟨rfl, rfl⟩
              · omega
            · refine rb_aload_n hV dX1_changeKind_60 rfl rfl ?_
              refine rb_get hV (v := .inr (some 42)) dX1_changeKind_61 ⟨RX1, TX1, 12, rfl, (Nat.le_of_ble_eq_true rfl), lf_X1_47⟩ (gw_37 _) rfl ?_
              refine rb_iload hV dX1_changeKind_64 rfl ?_
              refine rb_iald hV (f := (g)) dX1_changeKind_66 (gw_42 _) (Nat.le_of_ble_eq_true rfl) (by omega) ?_
              refine rb_iload hV dX1_changeKind_67 rfl ?_
              have hkb := hp.2.2.2.2.2 kind (by omega) (by omega)
              have hkb2 : 1 ≤ s 2 kind ∧ s 4 kind ≤ 40 ∧ s 2 kind ≤ s 4 kind := ⟨hkb.1, hkb.2.2.2, Int.le_trans hkb.2.1 hkb.2.2.1⟩
              refine rb_icmp_eq hV (tgt := 87) dX1_changeKind_69 (by decide) ⟨(by unfold ab_r; omega), (by unfold ab_r; omega)⟩ (fun c69 => ?_) (fun c69 => ?_)
              · refine rb_iinc hV (L2 := [some (.inr (some 37)), some (.inl a), some (.inl b), some (.inl kind), some (.inl t), some (.inl u), some (.inl (s 2 kind)), some (.inl le), some (.inl (w + 1))]) dX1_changeKind_87 rfl rfl rfl ?_
                refine rb_goto hV (tgt := 35) dX1_changeKind_90 (by decide) ?_
                refine ih35 le (w + 1) (g) ?_ ?_ ?_
                · omega
                · rw [sh1_next h1.1, if_neg (by rw [← h2.1, ← h2.2]; show ¬ (0 < le ∧ s 8 w = kind ∧ ¬ g w = sbd (vX s) t kind); omega), ← h2.1, ← h2.2]; exact ⟨rfl, rfl⟩
                · omega
              · refine rb_aload_n hV dX1_changeKind_72 rfl rfl ?_
                refine rb_get hV (v := .inr (some 42)) dX1_changeKind_73 ⟨RX1, TX1, 12, rfl, (Nat.le_of_ble_eq_true rfl), lf_X1_47⟩ (gw_37 _) rfl ?_
                refine rb_iload hV dX1_changeKind_76 rfl ?_
                refine rb_dup2 hV dX1_changeKind_78 ?_
                refine rb_iald hV (f := (g)) dX1_changeKind_79 (gw_42 _) (Nat.le_of_ble_eq_true rfl) (by omega) ?_
                refine rb_iload hV dX1_changeKind_80 rfl ?_
                refine rb_iadd hV dX1_changeKind_82 ?_
                refine rb_iast hV (f := (g)) dX1_changeKind_83 (gw_42 _) (Nat.le_of_ble_eq_true rfl) (by omega) rfl ((pw_42 _ _).trans (congrArg WW (ab_s_same _ 42 _ _))) ?_
                refine rb_iinc hV (L2 := [some (.inr (some 37)), some (.inl a), some (.inl b), some (.inl kind), some (.inl t), some (.inl u), some (.inl (s 2 kind)), some (.inl (le + (-1))), some (.inl w)]) dX1_changeKind_84 rfl rfl rfl ?_
                refine rb_iinc hV (L2 := [some (.inr (some 37)), some (.inl a), some (.inl b), some (.inl kind), some (.inl t), some (.inl u), some (.inl (s 2 kind)), some (.inl (le + (-1))), some (.inl (w + 1))]) dX1_changeKind_87 rfl rfl rfl ?_
                refine rb_goto hV (tgt := 35) dX1_changeKind_90 (by decide) ?_
                refine ih35 (le + (-1)) (w + 1) (ab_u (g) w (((g) w) + t)) ?_ ?_ ?_
                · omega
                · rw [sh1_next h1.1, if_pos (by rw [← h2.1, ← h2.2]; show (0 < le ∧ s 8 w = kind ∧ ¬ g w = sbd (vX s) t kind); omega), ← h2.1, ← h2.2]; exact ⟨rfl, rfl⟩
                · omega
    refine h35 _ u a (s 42) ?_ ?_ (Nat.lt_succ_self _)
    · omega
    · rw [show (a - a).toNat = 0 by omega]; exact ⟨rfl, rfl⟩
  · have eb : sbd (vX s) t kind = s 4 kind := if_pos (by omega)
    refine rb_aload_n hV dX1_changeKind_5 rfl rfl ?_
    refine rb_get hV (v := .inr (some 1)) dX1_changeKind_6 ⟨RX1, TX1, 12, rfl, (Nat.le_of_ble_eq_true rfl), lf_X1_15⟩ (gw_37 _) rfl ?_
    refine rb_get hV (v := .inr (some 4)) dX1_changeKind_9 ⟨RX6, TX6, 6, rfl, (Nat.le_of_ble_eq_true rfl), lf_X1_151⟩ (gw_1 _) rfl ?_
    refine rb_goto hV (tgt := 22) dX1_changeKind_12 (by decide) ?_
    refine rb_iload_n hV dX1_changeKind_22 rfl rfl ?_
    refine rb_callS hV (rest := []) dX1_changeKind_23 (c_X9_at s 4 _ (s 4) kind (gw_4 _) (Nat.le_of_ble_eq_true rfl) (by omega)) lk_X1_61 rfl rfl ⟨rfl, rfl, (Nat.le_of_ble_eq_true rfl), (Nat.le_of_ble_eq_true rfl), (Nat.le_of_ble_eq_true rfl), (Nat.le_of_ble_eq_true rfl)⟩ (Nat.le_of_ble_eq_true rfl) (fun r9 h9 p9 => ?_)
    obtain ⟨rfl, rfl⟩ := p9
    show V 26 [some (.inr (some 37)), some (.inl a), some (.inl b), some (.inl kind), some (.inl t), some (.inl u), none, none, none] [.inl (s 4 kind)] (WW s) 0 0
    refine rb_istore hV (L2 := [some (.inr (some 37)), some (.inl a), some (.inl b), some (.inl kind), some (.inl t), some (.inl u), some (.inl (s 4 kind)), none, none]) dX1_changeKind_26 (Nat.le_of_ble_eq_true rfl) rfl ?_
    refine rb_iload hV dX1_changeKind_28 rfl ?_
    refine rb_istore hV (L2 := [some (.inr (some 37)), some (.inl a), some (.inl b), some (.inl kind), some (.inl t), some (.inl u), some (.inl (s 4 kind)), some (.inl u), none]) dX1_changeKind_30 (Nat.le_of_ble_eq_true rfl) rfl ?_
    refine rb_iload_n hV dX1_changeKind_32 rfl rfl ?_
    refine rb_istore hV (L2 := [some (.inr (some 37)), some (.inl a), some (.inl b), some (.inl kind), some (.inl t), some (.inl u), some (.inl (s 4 kind)), some (.inl u), some (.inl a)]) dX1_changeKind_33 (Nat.le_of_ble_eq_true rfl) rfl ?_
    refine rb_heq (b := (ab_s s 42 (s 42))) (ab_s_id rfl).symm ?_
    have h35 : ∀ (n35 : Nat) (le : Int) (w : Int) (g : Int → Int), (a ≤ w ∧ w ≤ b) → (g = (sh1 (vX s 3) kind (sbd (vX s) t kind) t a (w - a).toNat (s 42, u)).1 ∧ le = (sh1 (vX s 3) kind (sbd (vX s) t kind) t a (w - a).toNat (s 42, u)).2) → ((b - w).toNat) < n35 → V 35 [some (.inr (some 37)), some (.inl a), some (.inl b), some (.inl kind), some (.inl t), some (.inl u), some (.inl (s 4 kind)), some (.inl le), some (.inl w)] [] (WW (ab_s s 42 g)) 0 0 := by
      intro n35
      induction n35 with
      | zero => intro le w g h1 h2 hm; omega
      | succ n35 ih35 =>
        intro le w g h1 h2 hm
        refine rb_iload hV dX1_changeKind_35 rfl ?_
        refine rb_iload_n hV dX1_changeKind_37 rfl rfl ?_
        refine rb_icmp_ge hV (tgt := 93) dX1_changeKind_38 (by decide) ⟨(by first | assumption | (unfold ab_r at *; omega)), (by first | assumption | (unfold ab_r at *; omega))⟩ (fun c38 => ?_) (fun c38 => ?_)
        · refine rb_iload hV dX1_changeKind_93 rfl ?_
          refine rb_ret hV (r := some (.inl le)) dX1_changeKind_95 rfl ⟨(Nat.le_of_ble_eq_true rfl), (Nat.le_of_ble_eq_true rfl)⟩ trivial ?_
          first
          | (have e : w = b := by omega
             subst e
             rw [← h2.1, ← h2.2]
             exact ⟨rfl, rfl⟩)
          | (rw [sh1_end h1.1 h1.2 (by rw [← h2.2]; omega), ← h2.1, ← h2.2]
             exact ⟨rfl, rfl⟩)
        · have hg1 : g w = s 42 w := by rw [h2.1]; exact sh1_hi (p := (s 42, u)) _ _ (Or.inr (by omega))
          have hg2 := hW w h1.1 (by omega)
          have hk8 := (hp.2.1 w (by omega) (show w < s 103 0 by omega)).2.2.1
          have hk8b : 0 ≤ s 8 w ∧ s 8 w ≤ 2 := hk8
          have hle := (sh1_u (kd := vX s 3) (kind := kind) (bound := sbd (vX s) t kind) (by_ := t) (a := a) (p := (s 42, u)) (w - a).toNat)
          have hle1 : 0 ≤ le ∧ le ≤ 100000 := by rw [h2.2]; exact ⟨hle.1 hu.1, Int.le_trans hle.2 hu.2⟩
          refine rb_iload hV dX1_changeKind_41 rfl ?_
          refine rb_if_le hV (tgt := 93) dX1_changeKind_43 (by decide) (by first | assumption | (unfold ab_r at *; omega)) (fun c43 => ?_) (fun c43 => ?_)
          · refine rb_iload hV dX1_changeKind_93 rfl ?_
            refine rb_ret hV (r := some (.inl le)) dX1_changeKind_95 rfl ⟨(Nat.le_of_ble_eq_true rfl), (Nat.le_of_ble_eq_true rfl)⟩ trivial ?_
            first
            | (have e : w = b := by omega
               subst e
               rw [← h2.1, ← h2.2]
               exact ⟨rfl, rfl⟩)
            | (rw [sh1_end h1.1 h1.2 (by rw [← h2.2]; omega), ← h2.1, ← h2.2]
               exact ⟨rfl, rfl⟩)
          · refine rb_aload_n hV dX1_changeKind_46 rfl rfl ?_
            refine rb_get hV (v := .inr (some 5)) dX1_changeKind_47 ⟨RX1, TX1, 12, rfl, (Nat.le_of_ble_eq_true rfl), lf_X1_9⟩ (gw_37 _) rfl ?_
            refine rb_get hV (v := .inr (some 8)) dX1_changeKind_50 ⟨RX4, TX4, 6, rfl, (Nat.le_of_ble_eq_true rfl), lf_X1_130⟩ (gw_5 _) rfl ?_
            refine rb_iload hV dX1_changeKind_53 rfl ?_
            refine rb_iald hV (f := (s 8)) dX1_changeKind_55 (gw_8 _) (Nat.le_of_ble_eq_true rfl) (by omega) ?_
            refine rb_iload_n hV dX1_changeKind_56 rfl rfl ?_
            refine rb_icmp_ne hV (tgt := 87) dX1_changeKind_57 (by decide) ⟨(by first | assumption | (unfold ab_r at *; omega)), (by first | assumption | (unfold ab_r at *; omega))⟩ (fun c57 => ?_) (fun c57 => ?_)
            · refine rb_iinc hV (L2 := [some (.inr (some 37)), some (.inl a), some (.inl b), some (.inl kind), some (.inl t), some (.inl u), some (.inl (s 4 kind)), some (.inl le), some (.inl (w + 1))]) dX1_changeKind_87 rfl rfl rfl ?_
              refine rb_goto hV (tgt := 35) dX1_changeKind_90 (by decide) ?_
              refine ih35 le (w + 1) (g) ?_ ?_ ?_
              · omega
              · rw [sh1_next h1.1, if_neg (by rw [← h2.1, ← h2.2]; show ¬ (0 < le ∧ s 8 w = kind ∧ ¬ g w = sbd (vX s) t kind); omega), ← h2.1, ← h2.2]; exact ⟨rfl, rfl⟩
              · omega
            · refine rb_aload_n hV dX1_changeKind_60 rfl rfl ?_
              refine rb_get hV (v := .inr (some 42)) dX1_changeKind_61 ⟨RX1, TX1, 12, rfl, (Nat.le_of_ble_eq_true rfl), lf_X1_47⟩ (gw_37 _) rfl ?_
              refine rb_iload hV dX1_changeKind_64 rfl ?_
              refine rb_iald hV (f := (g)) dX1_changeKind_66 (gw_42 _) (Nat.le_of_ble_eq_true rfl) (by omega) ?_
              refine rb_iload hV dX1_changeKind_67 rfl ?_
              have hkb := hp.2.2.2.2.2 kind (by omega) (by omega)
              have hkb2 : 1 ≤ s 2 kind ∧ s 4 kind ≤ 40 ∧ s 2 kind ≤ s 4 kind := ⟨hkb.1, hkb.2.2.2, Int.le_trans hkb.2.1 hkb.2.2.1⟩
              refine rb_icmp_eq hV (tgt := 87) dX1_changeKind_69 (by decide) ⟨(by unfold ab_r; omega), (by unfold ab_r; omega)⟩ (fun c69 => ?_) (fun c69 => ?_)
              · refine rb_iinc hV (L2 := [some (.inr (some 37)), some (.inl a), some (.inl b), some (.inl kind), some (.inl t), some (.inl u), some (.inl (s 4 kind)), some (.inl le), some (.inl (w + 1))]) dX1_changeKind_87 rfl rfl rfl ?_
                refine rb_goto hV (tgt := 35) dX1_changeKind_90 (by decide) ?_
                refine ih35 le (w + 1) (g) ?_ ?_ ?_
                · omega
                · rw [sh1_next h1.1, if_neg (by rw [← h2.1, ← h2.2]; show ¬ (0 < le ∧ s 8 w = kind ∧ ¬ g w = sbd (vX s) t kind); omega), ← h2.1, ← h2.2]; exact ⟨rfl, rfl⟩
                · omega
              · refine rb_aload_n hV dX1_changeKind_72 rfl rfl ?_
                refine rb_get hV (v := .inr (some 42)) dX1_changeKind_73 ⟨RX1, TX1, 12, rfl, (Nat.le_of_ble_eq_true rfl), lf_X1_47⟩ (gw_37 _) rfl ?_
                refine rb_iload hV dX1_changeKind_76 rfl ?_
                refine rb_dup2 hV dX1_changeKind_78 ?_
                refine rb_iald hV (f := (g)) dX1_changeKind_79 (gw_42 _) (Nat.le_of_ble_eq_true rfl) (by omega) ?_
                refine rb_iload hV dX1_changeKind_80 rfl ?_
                refine rb_iadd hV dX1_changeKind_82 ?_
                refine rb_iast hV (f := (g)) dX1_changeKind_83 (gw_42 _) (Nat.le_of_ble_eq_true rfl) (by omega) rfl ((pw_42 _ _).trans (congrArg WW (ab_s_same _ 42 _ _))) ?_
                refine rb_iinc hV (L2 := [some (.inr (some 37)), some (.inl a), some (.inl b), some (.inl kind), some (.inl t), some (.inl u), some (.inl (s 4 kind)), some (.inl (le + (-1))), some (.inl w)]) dX1_changeKind_84 rfl rfl rfl ?_
                refine rb_iinc hV (L2 := [some (.inr (some 37)), some (.inl a), some (.inl b), some (.inl kind), some (.inl t), some (.inl u), some (.inl (s 4 kind)), some (.inl (le + (-1))), some (.inl (w + 1))]) dX1_changeKind_87 rfl rfl rfl ?_
                refine rb_goto hV (tgt := 35) dX1_changeKind_90 (by decide) ?_
                refine ih35 (le + (-1)) (w + 1) (ab_u (g) w (((g) w) + t)) ?_ ?_ ?_
                · omega
                · rw [sh1_next h1.1, if_pos (by rw [← h2.1, ← h2.2]; show (0 < le ∧ s 8 w = kind ∧ ¬ g w = sbd (vX s) t kind); omega), ← h2.1, ← h2.2]; exact ⟨rfl, rfl⟩
                · omega
    refine h35 _ u a (s 42) ?_ ?_ (Nat.lt_succ_self _)
    · omega
    · rw [show (a - a).toNat = 0 by omega]; exact ⟨rfl, rfl⟩

set_option maxRecDepth 20000 in
theorem c_X1_placeWords_tr (s : Nat → Int → Int) (l a b : Int) (hp : PI (vX s)) (hr : RU s) (h : 0 ≤ a ∧ a ≤ b ∧ b < s 103 0) : ab_Mt yX1_placeWords cX1_placeWords 6 none ({ frames := 2, cells := 0, slots := 0, locals := 42 } : Room) false 0 0 [.inr (some 37), .inl l, .inl a, .inl b] (WW s) (fun r h2 => r = none ∧ ∃ lo sl be, h2 = WW (ab_s (ab_s (ab_s s 39 lo) 40 sl) 41 be) ∧ (∀ j, a ≤ j → j ≤ b → lo j = l ∧ sl j = (if j < b then l else -1) ∧ be j = bgF (vX s) (s 42) a j) ∧ (∀ j, ¬ (a ≤ j ∧ j ≤ b) → lo j = s 39 j ∧ sl j = s 40 j ∧ be j = s 41 j)) := by
  refine ab_mk RX1 false rfl pn_X1_placeWords (fun z => by cases z) (Nat.le_of_ble_eq_true rfl) (fun V hV => ?_)
  show V 0 [some (.inr (some 37)), some (.inl l), some (.inl a), some (.inl b), none, none] [] (WW s) 0 0
  have hn : 0 ≤ s 103 0 ∧ s 103 0 ≤ 60 := hp.1
  refine rb_aload_n hV dX1_placeWords_0 rfl rfl ?_
  refine rb_get hV (v := .inr (some 11)) dX1_placeWords_1 ⟨RX1, TX1, 12, rfl, (Nat.le_of_ble_eq_true rfl), lf_X1_19⟩ (gw_37 _) rfl ?_
  refine rb_get hV (v := .inr (some 16)) dX1_placeWords_4 ⟨RX2, TX2, 8, rfl, (Nat.le_of_ble_eq_true rfl), lf_X1_157⟩ (gw_11 _) rfl ?_
  refine rb_iload_n hV dX1_placeWords_7 rfl rfl ?_
  refine rb_iald hV (f := (s 16)) dX1_placeWords_8 (gw_16 _) (Nat.le_of_ble_eq_true rfl) (by omega) ?_
  refine rb_ineg hV dX1_placeWords_9 ?_
  refine rb_istore hV (L2 := [some (.inr (some 37)), some (.inl l), some (.inl a), some (.inl b), some (.inl (-(s 16 a))), none]) dX1_placeWords_10 (Nat.le_of_ble_eq_true rfl) rfl ?_
  refine rb_iload_n hV dX1_placeWords_12 rfl rfl ?_
  refine rb_istore hV (L2 := [some (.inr (some 37)), some (.inl l), some (.inl a), some (.inl b), some (.inl (-(s 16 a))), some (.inl a)]) dX1_placeWords_13 (Nat.le_of_ble_eq_true rfl) rfl ?_
  refine rb_heq (b := (ab_s (ab_s (ab_s s 39 (s 39)) 40 (s 40)) 41 (s 41))) ((ab_s_id rfl).trans ((ab_s_id rfl).trans (ab_s_id rfl))).symm ?_
  have h15 : ∀ (n15 : Nat) (bg : Int) (w : Int) (lo : Int → Int) (sl : Int → Int) (be : Int → Int), (a ≤ w ∧ w ≤ b + 1) → (w ≤ b → bg = bgF (vX s) (s 42) a w) → (∀ j, a ≤ j → j < w → lo j = l ∧ sl j = (if j < b then l else -1) ∧ be j = bgF (vX s) (s 42) a j) → (∀ j, ¬ (a ≤ j ∧ j < w) → lo j = s 39 j ∧ sl j = s 40 j ∧ be j = s 41 j) → ((b + 1 - w).toNat) < n15 → V 15 [some (.inr (some 37)), some (.inl l), some (.inl a), some (.inl b), some (.inl bg), some (.inl w)] [] (WW (ab_s (ab_s (ab_s s 39 lo) 40 sl) 41 be)) 0 0 := by
    intro n15
    induction n15 with
    | zero => intro bg w lo sl be h1 h2 h3 h4 hm; omega
    | succ n15 ih15 =>
      intro bg w lo sl be h1 h2 h3 h4 hm
      refine rb_iload hV dX1_placeWords_15 rfl ?_
      refine rb_iload_n hV dX1_placeWords_17 rfl rfl ?_
      refine rb_icmp_gt hV (tgt := 88) dX1_placeWords_18 (by decide) ⟨(by first | assumption | (unfold ab_r at *; omega)), (by first | assumption | (unfold ab_r at *; omega))⟩ (fun c18 => ?_) (fun c18 => ?_)
      · refine rb_ret hV (r := none) dX1_placeWords_88 rfl ⟨(Nat.le_of_ble_eq_true rfl), (Nat.le_of_ble_eq_true rfl)⟩ trivial ?_
        have e : w = b + 1 := by omega
        exact ⟨rfl, lo, sl, be, rfl, fun j j1 j2 => h3 j j1 (by omega), fun j hj => h4 j (by omega)⟩
      · refine rb_aload_n hV dX1_placeWords_21 rfl rfl ?_
        refine rb_get hV (v := .inr (some 39)) dX1_placeWords_22 ⟨RX1, TX1, 12, rfl, (Nat.le_of_ble_eq_true rfl), lf_X1_38⟩ (gw_37 _) rfl ?_
        refine rb_iload hV dX1_placeWords_25 rfl ?_
        refine rb_iload_n hV dX1_placeWords_27 rfl rfl ?_
        refine rb_iast hV (f := (lo)) dX1_placeWords_28 (gw_39 _) (Nat.le_of_ble_eq_true rfl) (by omega) rfl ((pw_39 _ _).trans (congrArg WW ((ab_s_sw (by decide)).trans (congrArg (fun x => ab_s x 41 _) ((ab_s_sw (by decide)).trans (congrArg (fun x => ab_s x 40 _) (ab_s_same _ 39 _ _))))))) ?_
        refine rb_aload_n hV dX1_placeWords_29 rfl rfl ?_
        refine rb_get hV (v := .inr (some 40)) dX1_placeWords_30 ⟨RX1, TX1, 12, rfl, (Nat.le_of_ble_eq_true rfl), lf_X1_41⟩ (gw_37 _) rfl ?_
        refine rb_iload hV dX1_placeWords_33 rfl ?_
        refine rb_iload hV dX1_placeWords_35 rfl ?_
        refine rb_iload_n hV dX1_placeWords_37 rfl rfl ?_
        refine rb_icmp_ge hV (tgt := 45) dX1_placeWords_38 (by decide) ⟨(by first | assumption | (unfold ab_r at *; omega)), (by first | assumption | (unfold ab_r at *; omega))⟩ (fun c38 => ?_) (fun c38 => ?_)
        · refine rb_iconst hV dX1_placeWords_45 ?_
          refine rb_iast hV (f := (sl)) dX1_placeWords_46 (gw_40 _) (Nat.le_of_ble_eq_true rfl) (by omega) rfl ((pw_40 _ _).trans (congrArg WW ((ab_s_sw (by decide)).trans (congrArg (fun x => ab_s x 41 _) (ab_s_same _ 40 _ _))))) ?_
          refine rb_aload_n hV dX1_placeWords_47 rfl rfl ?_
          refine rb_get hV (v := .inr (some 41)) dX1_placeWords_48 ⟨RX1, TX1, 12, rfl, (Nat.le_of_ble_eq_true rfl), lf_X1_44⟩ (gw_37 _) rfl ?_
          refine rb_iload hV dX1_placeWords_51 rfl ?_
          refine rb_iload hV dX1_placeWords_53 rfl ?_
          refine rb_iast hV (f := (be)) dX1_placeWords_55 (gw_41 _) (Nat.le_of_ble_eq_true rfl) (by omega) rfl ((pw_41 _ _).trans (congrArg WW (ab_s_same _ 41 _ _))) ?_
          refine rb_aload_n hV dX1_placeWords_56 rfl rfl ?_
          refine rb_iload hV dX1_placeWords_57 rfl ?_
          refine rb_callV hV (rest := []) dX1_placeWords_59 (c_X1_endOf_tr (ab_s (ab_s (ab_s s 39 (ab_u (lo) w l)) 40 (ab_u (sl) w (-1))) 41 (ab_u (be) w bg)) w (by omega)) lk_X1_160 rfl (Or.inl ⟨1, _, TX1, 12, gw_37 _, rfl⟩) rfl ⟨rfl, rfl, (Nat.le_of_ble_eq_true rfl), (Nat.le_of_ble_eq_true rfl), (Nat.le_of_ble_eq_true rfl), (Nat.le_of_ble_eq_true rfl)⟩ (Nat.le_of_ble_eq_true rfl) (fun r9 h9 p9 => ?_)
          obtain ⟨rfl, rfl⟩ := p9
          show V 62 [some (.inr (some 37)), some (.inl l), some (.inl a), some (.inl b), some (.inl bg), some (.inl w)] [.inl (((ab_u (be) w bg) w) + (s 6 w))] (WW (ab_s (ab_s (ab_s s 39 (ab_u (lo) w l)) 40 (ab_u (sl) w (-1))) 41 (ab_u (be) w bg))) 0 0
          refine rb_iload hV dX1_placeWords_62 rfl ?_
          refine rb_iload_n hV dX1_placeWords_64 rfl rfl ?_
          refine rb_icmp_ge hV (tgt := 78) dX1_placeWords_65 (by decide) ⟨(by first | assumption | (unfold ab_r at *; omega)), (by first | assumption | (unfold ab_r at *; omega))⟩ (fun c65 => ?_) (fun c65 => absurd c65 (by omega))
          refine rb_iconst hV dX1_placeWords_78 ?_
          refine rb_iadd hV dX1_placeWords_79 ?_
          refine rb_istore hV (L2 := [some (.inr (some 37)), some (.inl l), some (.inl a), some (.inl b), some (.inl ((((ab_u (be) w bg) w) + (s 6 w)) + 0)), some (.inl w)]) dX1_placeWords_80 (Nat.le_of_ble_eq_true rfl) rfl ?_
          refine rb_iinc hV (L2 := [some (.inr (some 37)), some (.inl l), some (.inl a), some (.inl b), some (.inl ((((ab_u (be) w bg) w) + (s 6 w)) + 0)), some (.inl (w + 1))]) dX1_placeWords_82 rfl rfl rfl ?_
          refine rb_goto hV (tgt := 15) dX1_placeWords_85 (by decide) ?_
          refine ih15 ((((ab_u (be) w bg) w) + (s 6 w)) + 0) (w + 1) (ab_u (lo) w l) (ab_u (sl) w (-1)) (ab_u (be) w bg) ?_ ?_ ?_ ?_ ?_
          · omega
          · intro q; omega
          · intro j j1 j2
            by_cases hj : j = w
            · subst hj
              rw [ab_u_eq, ab_u_eq, ab_u_eq, if_neg (by omega)]
              exact ⟨rfl, rfl, h2 (by omega)⟩
            · rw [ab_u_ne hj, ab_u_ne hj, ab_u_ne hj]
              exact h3 j j1 (by omega)
          · intro j hj
            rw [ab_u_ne (by omega), ab_u_ne (by omega), ab_u_ne (by omega)]
            exact h4 j (by omega)
          · omega
        · refine rb_iload_n hV dX1_placeWords_41 rfl rfl ?_
          refine rb_goto hV (tgt := 46) dX1_placeWords_42 (by decide) ?_
          refine rb_iast hV (f := (sl)) dX1_placeWords_46 (gw_40 _) (Nat.le_of_ble_eq_true rfl) (by omega) rfl ((pw_40 _ _).trans (congrArg WW ((ab_s_sw (by decide)).trans (congrArg (fun x => ab_s x 41 _) (ab_s_same _ 40 _ _))))) ?_
          refine rb_aload_n hV dX1_placeWords_47 rfl rfl ?_
          refine rb_get hV (v := .inr (some 41)) dX1_placeWords_48 ⟨RX1, TX1, 12, rfl, (Nat.le_of_ble_eq_true rfl), lf_X1_44⟩ (gw_37 _) rfl ?_
          refine rb_iload hV dX1_placeWords_51 rfl ?_
          refine rb_iload hV dX1_placeWords_53 rfl ?_
          refine rb_iast hV (f := (be)) dX1_placeWords_55 (gw_41 _) (Nat.le_of_ble_eq_true rfl) (by omega) rfl ((pw_41 _ _).trans (congrArg WW (ab_s_same _ 41 _ _))) ?_
          refine rb_aload_n hV dX1_placeWords_56 rfl rfl ?_
          refine rb_iload hV dX1_placeWords_57 rfl ?_
          refine rb_callV hV (rest := []) dX1_placeWords_59 (c_X1_endOf_tr (ab_s (ab_s (ab_s s 39 (ab_u (lo) w l)) 40 (ab_u (sl) w l)) 41 (ab_u (be) w bg)) w (by omega)) lk_X1_160 rfl (Or.inl ⟨1, _, TX1, 12, gw_37 _, rfl⟩) rfl ⟨rfl, rfl, (Nat.le_of_ble_eq_true rfl), (Nat.le_of_ble_eq_true rfl), (Nat.le_of_ble_eq_true rfl), (Nat.le_of_ble_eq_true rfl)⟩ (Nat.le_of_ble_eq_true rfl) (fun r9 h9 p9 => ?_)
          obtain ⟨rfl, rfl⟩ := p9
          show V 62 [some (.inr (some 37)), some (.inl l), some (.inl a), some (.inl b), some (.inl bg), some (.inl w)] [.inl (((ab_u (be) w bg) w) + (s 6 w))] (WW (ab_s (ab_s (ab_s s 39 (ab_u (lo) w l)) 40 (ab_u (sl) w l)) 41 (ab_u (be) w bg))) 0 0
          refine rb_iload hV dX1_placeWords_62 rfl ?_
          refine rb_iload_n hV dX1_placeWords_64 rfl rfl ?_
          refine rb_icmp_ge hV (tgt := 78) dX1_placeWords_65 (by decide) ⟨(by first | assumption | (unfold ab_r at *; omega)), (by first | assumption | (unfold ab_r at *; omega))⟩ (fun c65 => absurd c65 (by omega)) (fun c65 => ?_)
          refine rb_aload_n hV dX1_placeWords_68 rfl rfl ?_
          refine rb_get hV (v := .inr (some 42)) dX1_placeWords_69 ⟨RX1, TX1, 12, rfl, (Nat.le_of_ble_eq_true rfl), lf_X1_47⟩ (gw_37 _) rfl ?_
          refine rb_iload hV dX1_placeWords_72 rfl ?_
          refine rb_iald hV (f := (s 42)) dX1_placeWords_74 (gw_42 _) (Nat.le_of_ble_eq_true rfl) (by omega) ?_
          refine rb_goto hV (tgt := 79) dX1_placeWords_75 (by decide) ?_
          refine rb_iadd hV dX1_placeWords_79 ?_
          refine rb_istore hV (L2 := [some (.inr (some 37)), some (.inl l), some (.inl a), some (.inl b), some (.inl ((((ab_u (be) w bg) w) + (s 6 w)) + (s 42 w))), some (.inl w)]) dX1_placeWords_80 (Nat.le_of_ble_eq_true rfl) rfl ?_
          refine rb_iinc hV (L2 := [some (.inr (some 37)), some (.inl l), some (.inl a), some (.inl b), some (.inl ((((ab_u (be) w bg) w) + (s 6 w)) + (s 42 w))), some (.inl (w + 1))]) dX1_placeWords_82 rfl rfl rfl ?_
          refine rb_goto hV (tgt := 15) dX1_placeWords_85 (by decide) ?_
          refine ih15 ((((ab_u (be) w bg) w) + (s 6 w)) + (s 42 w)) (w + 1) (ab_u (lo) w l) (ab_u (sl) w l) (ab_u (be) w bg) ?_ ?_ ?_ ?_ ?_
          · omega
          · intro q; rw [bgF_s _ _ h1.1, ab_u_eq, h2 (by omega)]; rfl
          · intro j j1 j2
            by_cases hj : j = w
            · subst hj
              rw [ab_u_eq, ab_u_eq, ab_u_eq, if_pos (by omega)]
              exact ⟨rfl, rfl, h2 (by omega)⟩
            · rw [ab_u_ne hj, ab_u_ne hj, ab_u_ne hj]
              exact h3 j j1 (by omega)
          · intro j hj
            rw [ab_u_ne (by omega), ab_u_ne (by omega), ab_u_ne (by omega)]
            exact h4 j (by omega)
          · omega
  refine h15 _ (-(s 16 a)) a (s 39) (s 40) (s 41) ?_ ?_ ?_ ?_ (Nat.lt_succ_self _)
  · omega
  · intro _; rw [bgF_0]; exact congrArg (fun z : Int => -z) (hr.2 a (by omega) (by show a < s 103 0; omega)).1
  · exact fun j j1 j2 => absurd j2 (by omega)
  · exact fun j _ => ⟨rfl, rfl, rfl⟩

theorem sh1_rng {kd : Int → Int} {kind bound t a b lo hi u : Int} {g : Int → Int} (ht : t = 1 ∨ t = -1) (h : ∀ j, a ≤ j → j < b → lo ≤ g j ∧ g j ≤ hi) (k : Nat) : ∀ j, a ≤ j → j < b → lo - 1 ≤ (sh1 kd kind bound t a k (g, u)).1 j ∧ (sh1 kd kind bound t a k (g, u)).1 j ≤ hi + 1 := fun j h1 h2 => by
  have q1 := h j h1 h2
  have q2 := sh1_near (kd := kd) (kind := kind) (bound := bound) (a := a) (p := (g, u)) ht k j
  have q3 : (g, u).1 j = g j := rfl
  omega
theorem sh1_un {kd : Int → Int} {kind bound t a u M : Int} {g : Int → Int} (h : 0 ≤ u ∧ u ≤ M) (k : Nat) : 0 ≤ (sh1 kd kind bound t a k (g, u)).2 ∧ (sh1 kd kind bound t a k (g, u)).2 ≤ M := by
  have q := sh1_u (kd := kd) (kind := kind) (bound := bound) (by_ := t) (a := a) (p := (g, u)) k
  exact ⟨q.1 h.1, Int.le_trans q.2 h.2⟩
theorem sh1_out {kd : Int → Int} {kind bound t a b u : Int} {g f : Int → Int} (hab : a ≤ b) (h : ∀ j, ¬ (a ≤ j ∧ j < b) → g j = f j) : ∀ j, ¬ (a ≤ j ∧ j < b) → (sh1 kd kind bound t a (b - a).toNat (g, u)).1 j = f j := fun j hj => by
  rw [sh1_hi (p := (g, u)) _ j (by omega)]
  exact h j hj
theorem rnd_agr_s {d : Nat → Int → Int} {t a b r : Int} {p q : (Int → Int) × Int} (hab : a ≤ b) (hr : 0 ≤ r) (h : agr a b p (rnds d t a b r.toNat q)) : agr a b (rnd d t a b p) (rnds d t a b (r + 1).toNat q) := by
  rw [show (r + 1).toNat = r.toNat + 1 by omega, rnds]
  exact rnd_agr hab h

set_option maxRecDepth 20000 in
theorem c_X1_shareOut_la (s : Nat → Int → Int) (a b : Int) (hp : PI (vX s)) (hr : RU s) (h : 0 ≤ a ∧ a ≤ b ∧ b < s 103 0) : ab_Mt yX1_shareOut cX1_shareOut 7 none ({ frames := 2, cells := 0, slots := 0, locals := 49 } : Room) false 0 0 [.inr (some 25), .inl a, .inl b] (WW s) (fun r h2 => r = none ∧ ∃ g, h2 = WW (ab_s s 30 g) ∧ (∀ j, a ≤ j → j < b → g j = swF (vX s) a b j) ∧ (∀ j, ¬ (a ≤ j ∧ j < b) → g j = s 30 j)) := by
  refine ab_mk RX1 false rfl pn_X1_shareOut (fun z => by cases z) (Nat.le_of_ble_eq_true rfl) (fun V hV => ?_)
  show V 0 [some (.inr (some 25)), some (.inl a), some (.inl b), none, none, none, none] [] (WW s) 0 0
  have hn : 0 ≤ s 103 0 ∧ s 103 0 ≤ 60 := hp.1
  refine rb_iload_n hV dX1_shareOut_0 rfl rfl ?_
  refine rb_istore_n hV (L2 := [some (.inr (some 25)), some (.inl a), some (.inl b), some (.inl a), none, none, none]) dX1_shareOut_1 rfl (Nat.le_of_ble_eq_true rfl) rfl ?_
  refine rb_heq (b := (ab_s s 30 (s 30))) (ab_s_id rfl).symm ?_
  have h2 : ∀ (n2 : Nat) (w : Int) (g : Int → Int), (a ≤ w ∧ w ≤ b) → (∀ j, a ≤ j → j < w → g j = na0 (vX s) j) → (∀ j, ¬ (a ≤ j ∧ j < w) → g j = s 30 j) → ((b - w).toNat) < n2 → V 2 [some (.inr (some 25)), some (.inl a), some (.inl b), some (.inl w), none, none, none] [] (WW (ab_s s 30 g)) 0 0 := by
    intro n2
    induction n2 with
    | zero => intro w g h1 h2 h3 hm; omega
    | succ n2 ih2 =>
      intro w g h1 h2 h3 hm
      refine rb_iload_n hV dX1_shareOut_2 rfl rfl ?_
      refine rb_iload_n hV dX1_shareOut_3 rfl rfl ?_
      refine rb_icmp_ge hV (tgt := 38) dX1_shareOut_4 (by decide) ⟨(by first | assumption | (unfold ab_r at *; omega)), (by first | assumption | (unfold ab_r at *; omega))⟩ (fun c4 => ?_) (fun c4 => ?_)
      · have hd := df_b hp h.1 h.2.1 h.2.2
        have hdf : df (vX s) a b = s 100 0 - nt (vX s) a b := rfl
        refine rb_aload_n hV dX1_shareOut_38 rfl rfl ?_
        refine rb_get hV (v := .inr (some 1)) dX1_shareOut_39 ⟨RX1, TX1, 12, rfl, (Nat.le_of_ble_eq_true rfl), lf_X1_15⟩ (gw_25 _) rfl ?_
        refine rb_get hV (v := .inl (s 100 0)) dX1_shareOut_42 ⟨RX6, TX6, 6, rfl, (Nat.le_of_ble_eq_true rfl), lf_X1_133⟩ (gw_1 _) rfl ?_
        refine rb_aload_n hV dX1_shareOut_45 rfl rfl ?_
        refine rb_get hV (v := .inr (some 11)) dX1_shareOut_46 ⟨RX1, TX1, 12, rfl, (Nat.le_of_ble_eq_true rfl), lf_X1_19⟩ (gw_25 _) rfl ?_
        refine rb_iload_n hV dX1_shareOut_49 rfl rfl ?_
        refine rb_iload_n hV dX1_shareOut_50 rfl rfl ?_
        refine rb_callV hV (rest := [.inl (s 100 0)]) dX1_shareOut_51 (c_X2_naturalWidth (ab_s s 30 g) a b hp hr (show 0 ≤ a ∧ a ≤ b ∧ b < (s 103 0) by omega)) lk_X1_136 rfl (Or.inl ⟨2, _, TX2, 8, gw_11 _, rfl⟩) rfl ⟨rfl, rfl, (Nat.le_of_ble_eq_true rfl), (Nat.le_of_ble_eq_true rfl), (Nat.le_of_ble_eq_true rfl), (Nat.le_of_ble_eq_true rfl)⟩ (Nat.le_of_ble_eq_true rfl) (fun r9 h9 p9 => ?_)
        obtain ⟨rfl, rfl⟩ := p9
        show V 54 [some (.inr (some 25)), some (.inl a), some (.inl b), some (.inl w), none, none, none] [.inl (nt (vX s) a b), .inl (s 100 0)] (WW (ab_s s 30 g)) 0 0
        refine rb_isub hV dX1_shareOut_54 ?_
        refine rb_istore_n hV (L2 := [some (.inr (some 25)), some (.inl a), some (.inl b), some (.inl ((s 100 0) - (nt (vX s) a b))), none, none, none]) dX1_shareOut_55 rfl (Nat.le_of_ble_eq_true rfl) rfl ?_
        refine rb_iload_n hV dX1_shareOut_56 rfl rfl ?_
        refine rb_if_le hV (tgt := 72) dX1_shareOut_57 (by decide) (by first | assumption | (unfold ab_r at *; omega)) (fun c57 => ?_) (fun c57 => ?_)
        · refine rb_iload_n hV dX1_shareOut_72 rfl rfl ?_
          refine rb_if_le hV (tgt := 80) dX1_shareOut_73 (by decide) (by first | assumption | (unfold ab_r at *; omega)) (fun c73 => ?_) (fun c73 => absurd c73 (by omega))
          refine rb_iconst hV dX1_shareOut_80 ?_
          refine rb_istore hV (L2 := [some (.inr (some 25)), some (.inl a), some (.inl b), some (.inl ((s 100 0) - (nt (vX s) a b))), some (.inl (-1)), none, none]) dX1_shareOut_81 (Nat.le_of_ble_eq_true rfl) rfl ?_
          refine rb_iload_n hV dX1_shareOut_83 rfl rfl ?_
          refine rb_mabs hV dX1_shareOut_84 lk_X1_142 (by first | assumption | (unfold ab_r at *; omega)) (Nat.le_of_ble_eq_true rfl) (Nat.le_of_ble_eq_true rfl) ⟨(Nat.le_of_ble_eq_true rfl), (Nat.le_of_ble_eq_true rfl)⟩ ?_
          refine rb_istore hV (L2 := [some (.inr (some 25)), some (.inl a), some (.inl b), some (.inl ((s 100 0) - (nt (vX s) a b))), some (.inl (-1)), some (.inl (if 0 ≤ ((s 100 0) - (nt (vX s) a b)) then ((s 100 0) - (nt (vX s) a b)) else -((s 100 0) - (nt (vX s) a b)))), none]) dX1_shareOut_87 (Nat.le_of_ble_eq_true rfl) rfl ?_
          refine rb_iconst hV dX1_shareOut_89 ?_
          refine rb_istore hV (L2 := [some (.inr (some 25)), some (.inl a), some (.inl b), some (.inl ((s 100 0) - (nt (vX s) a b))), some (.inl (-1)), some (.inl (if 0 ≤ ((s 100 0) - (nt (vX s) a b)) then ((s 100 0) - (nt (vX s) a b)) else -((s 100 0) - (nt (vX s) a b)))), some (.inl 0)]) dX1_shareOut_90 (Nat.le_of_ble_eq_true rfl) rfl ?_
          have h92 : ∀ (n92 : Nat) (r : Int) (u : Int) (q : Int → Int), (0 ≤ r ∧ r ≤ 40) → (agr a b (q, u) (rnds (vX s) (-1) a b r.toNat (na0 (vX s), sun (vX s) a b))) → (∀ j, ¬ (a ≤ j ∧ j < b) → q j = s 30 j) → (∀ j, a ≤ j → j < b → -3 * r ≤ q j ∧ q j ≤ 40 + 3 * r) → (0 ≤ u ∧ u ≤ 100000) → ((40 - r).toNat) < n92 → V 92 [some (.inr (some 25)), some (.inl a), some (.inl b), some (.inl ((s 100 0) - (nt (vX s) a b))), some (.inl (-1)), some (.inl u), some (.inl r)] [] (WW (ab_s s 30 q)) 0 0 := by
            intro n92
            induction n92 with
            | zero => intro r u q h5 h6 h7 h8 h9 hm; omega
            | succ n92 ih92 =>
              intro r u q h5 h6 h7 h8 h9 hm
              refine rb_iload hV dX1_shareOut_92 rfl ?_
              refine rb_bipush hV dX1_shareOut_94 (by decide) ?_
              refine rb_icmp_ge hV (tgt := 167) dX1_shareOut_96 (by decide) ⟨(by first | assumption | (unfold ab_r at *; omega)), (by first | assumption | (unfold ab_r at *; omega))⟩ (fun c96 => ?_) (fun c96 => ?_)
              · refine rb_ret hV (r := none) dX1_shareOut_167 rfl ⟨(Nat.le_of_ble_eq_true rfl), (Nat.le_of_ble_eq_true rfl)⟩ trivial ?_
                refine ⟨rfl, q, rfl, fun j j1 j2 => ?_, h7⟩
                refine (h6.2 j j1 j2).trans ?_
                rw [swF_sh (by show ¬ (0 < df (vX s) a b ∧ b = s 103 0 - 1); omega), show sby (vX s) a b = (-1) by unfold sby; rw [if_neg (by omega)]]
                first
                | (have e : r = 40 := by omega
                   subst e
                   rfl)
                | (rw [rnds_end h5.1 h5.2 (by rw [← h6.1]; omega)])
              · refine rb_iload hV dX1_shareOut_99 rfl ?_
                refine rb_if_le hV (tgt := 167) dX1_shareOut_101 (by decide) (by first | assumption | (unfold ab_r at *; omega)) (fun c101 => ?_) (fun c101 => ?_)
                · refine rb_ret hV (r := none) dX1_shareOut_167 rfl ⟨(Nat.le_of_ble_eq_true rfl), (Nat.le_of_ble_eq_true rfl)⟩ trivial ?_
                  refine ⟨rfl, q, rfl, fun j j1 j2 => ?_, h7⟩
                  refine (h6.2 j j1 j2).trans ?_
                  rw [swF_sh (by show ¬ (0 < df (vX s) a b ∧ b = s 103 0 - 1); omega), show sby (vX s) a b = (-1) by unfold sby; rw [if_neg (by omega)]]
                  first
                  | (have e : r = 40 := by omega
                     subst e
                     rfl)
                  | (rw [rnds_end h5.1 h5.2 (by rw [← h6.1]; omega)])
                · have r0 : ∀ j, a ≤ j → j < b → -1000 ≤ q j ∧ q j ≤ 1000 := fun j j1 j2 => by have := h8 j j1 j2; omega
                  refine rb_aload_n hV dX1_shareOut_104 rfl rfl ?_
                  refine rb_iload_n hV dX1_shareOut_105 rfl rfl ?_
                  refine rb_iload_n hV dX1_shareOut_106 rfl rfl ?_
                  refine rb_iload hV dX1_shareOut_107 rfl ?_
                  refine rb_if_le hV (tgt := 116) dX1_shareOut_109 (by decide) (by first | assumption | (unfold ab_r at *; omega)) (fun _ => ?_) (fun z => absurd z (by decide))
                  refine rb_iconst hV dX1_shareOut_116 ?_
                  refine rb_iload hV dX1_shareOut_117 rfl ?_
                  refine rb_iload hV dX1_shareOut_119 rfl ?_
                  refine rb_callV hV (rest := []) dX1_shareOut_121 (c_X1_changeKind_la (ab_s s 30 q) a b 1 (-1) u hp (show 0 ≤ a ∧ a ≤ b ∧ b ≤ s 103 0 by omega) (by decide) (by decide) h9 r0) lk_X1_147 rfl (Or.inl ⟨1, _, TX1, 12, gw_25 _, rfl⟩) rfl ⟨rfl, rfl, (Nat.le_of_ble_eq_true rfl), (Nat.le_of_ble_eq_true rfl), (Nat.le_of_ble_eq_true rfl), (Nat.le_of_ble_eq_true rfl)⟩ (Nat.le_of_ble_eq_true rfl) (fun r9 h9 p9 => ?_)
                  obtain ⟨rfl, rfl⟩ := p9
                  refine rb_heq (b := (ab_s s 30 (sh1 (vX s 3) 1 (sbd (vX s) (-1) 1) (-1) a (b - a).toNat ((q), u)).1)) (ab_s_same _ 30 _ _) ?_
                  show V 124 [some (.inr (some 25)), some (.inl a), some (.inl b), some (.inl ((s 100 0) - (nt (vX s) a b))), some (.inl (-1)), some (.inl u), some (.inl r)] [.inl ((sh1 (vX s 3) 1 (sbd (vX s) (-1) 1) (-1) a (b - a).toNat ((q), u)).2)] (WW (ab_s s 30 (sh1 (vX s 3) 1 (sbd (vX s) (-1) 1) (-1) a (b - a).toNat ((q), u)).1)) 0 0
                  refine rb_istore hV (L2 := [some (.inr (some 25)), some (.inl a), some (.inl b), some (.inl ((s 100 0) - (nt (vX s) a b))), some (.inl (-1)), some (.inl ((sh1 (vX s 3) 1 (sbd (vX s) (-1) 1) (-1) a (b - a).toNat ((q), u)).2)), some (.inl r)]) dX1_shareOut_124 (Nat.le_of_ble_eq_true rfl) rfl ?_
                  have u1 := sh1_un (kd := vX s 3) (kind := 1) (bound := sbd (vX s) (-1) 1) (t := (-1)) (a := a) (g := q) h9 (b - a).toNat
                  have r1 := sh1_rng (kd := vX s 3) (kind := 1) (bound := sbd (vX s) (-1) 1) (t := (-1)) (a := a) (b := b) (u := u) (by decide) h8 (b - a).toNat
                  refine rb_aload_n hV dX1_shareOut_126 rfl rfl ?_
                  refine rb_iload_n hV dX1_shareOut_127 rfl rfl ?_
                  refine rb_iload_n hV dX1_shareOut_128 rfl rfl ?_
                  refine rb_iload hV dX1_shareOut_129 rfl ?_
                  refine rb_if_le hV (tgt := 138) dX1_shareOut_131 (by decide) (by first | assumption | (unfold ab_r at *; omega)) (fun _ => ?_) (fun z => absurd z (by decide))
                  refine rb_iconst hV dX1_shareOut_138 ?_
                  refine rb_iload hV dX1_shareOut_139 rfl ?_
                  refine rb_iload hV dX1_shareOut_141 rfl ?_
                  refine rb_callV hV (rest := []) dX1_shareOut_143 (c_X1_changeKind_la (ab_s s 30 (sh1 (vX s 3) 1 (sbd (vX s) (-1) 1) (-1) a (b - a).toNat ((q), u)).1) a b 2 (-1) ((sh1 (vX s 3) 1 (sbd (vX s) (-1) 1) (-1) a (b - a).toNat ((q), u)).2) hp (show 0 ≤ a ∧ a ≤ b ∧ b ≤ s 103 0 by omega) (by decide) (by decide) u1 (fun j j1 j2 => show -1000 ≤ (sh1 (vX s 3) 1 (sbd (vX s) (-1) 1) (-1) a (b - a).toNat (q, u)).1 j ∧ (sh1 (vX s 3) 1 (sbd (vX s) (-1) 1) (-1) a (b - a).toNat (q, u)).1 j ≤ 1000 by have := r1 j j1 j2; omega)) lk_X1_147 rfl (Or.inl ⟨1, _, TX1, 12, gw_25 _, rfl⟩) rfl ⟨rfl, rfl, (Nat.le_of_ble_eq_true rfl), (Nat.le_of_ble_eq_true rfl), (Nat.le_of_ble_eq_true rfl), (Nat.le_of_ble_eq_true rfl)⟩ (Nat.le_of_ble_eq_true rfl) (fun r9 h9 p9 => ?_)
                  obtain ⟨rfl, rfl⟩ := p9
                  refine rb_heq (b := (ab_s s 30 (sh1 (vX s 3) 2 (sbd (vX s) (-1) 2) (-1) a (b - a).toNat ((sh1 (vX s 3) 1 (sbd (vX s) (-1) 1) (-1) a (b - a).toNat ((q), u)).1, ((sh1 (vX s 3) 1 (sbd (vX s) (-1) 1) (-1) a (b - a).toNat ((q), u)).2))).1)) (ab_s_same _ 30 _ _) ?_
                  show V 146 [some (.inr (some 25)), some (.inl a), some (.inl b), some (.inl ((s 100 0) - (nt (vX s) a b))), some (.inl (-1)), some (.inl ((sh1 (vX s 3) 1 (sbd (vX s) (-1) 1) (-1) a (b - a).toNat ((q), u)).2)), some (.inl r)] [.inl ((sh1 (vX s 3) 2 (sbd (vX s) (-1) 2) (-1) a (b - a).toNat ((sh1 (vX s 3) 1 (sbd (vX s) (-1) 1) (-1) a (b - a).toNat ((q), u)).1, ((sh1 (vX s 3) 1 (sbd (vX s) (-1) 1) (-1) a (b - a).toNat ((q), u)).2))).2)] (WW (ab_s s 30 (sh1 (vX s 3) 2 (sbd (vX s) (-1) 2) (-1) a (b - a).toNat ((sh1 (vX s 3) 1 (sbd (vX s) (-1) 1) (-1) a (b - a).toNat ((q), u)).1, ((sh1 (vX s 3) 1 (sbd (vX s) (-1) 1) (-1) a (b - a).toNat ((q), u)).2))).1)) 0 0
                  refine rb_istore hV (L2 := [some (.inr (some 25)), some (.inl a), some (.inl b), some (.inl ((s 100 0) - (nt (vX s) a b))), some (.inl (-1)), some (.inl ((sh1 (vX s 3) 2 (sbd (vX s) (-1) 2) (-1) a (b - a).toNat ((sh1 (vX s 3) 1 (sbd (vX s) (-1) 1) (-1) a (b - a).toNat ((q), u)).1, ((sh1 (vX s 3) 1 (sbd (vX s) (-1) 1) (-1) a (b - a).toNat ((q), u)).2))).2)), some (.inl r)]) dX1_shareOut_146 (Nat.le_of_ble_eq_true rfl) rfl ?_
                  have u2 := sh1_un (kd := vX s 3) (kind := 2) (bound := sbd (vX s) (-1) 2) (t := (-1)) (a := a) (g := (sh1 (vX s 3) 1 (sbd (vX s) (-1) 1) (-1) a (b - a).toNat (q, u)).1) u1 (b - a).toNat
                  have r2 := sh1_rng (kd := vX s 3) (kind := 2) (bound := sbd (vX s) (-1) 2) (t := (-1)) (a := a) (b := b) (u := (sh1 (vX s 3) 1 (sbd (vX s) (-1) 1) (-1) a (b - a).toNat (q, u)).2) (g := (sh1 (vX s 3) 1 (sbd (vX s) (-1) 1) (-1) a (b - a).toNat (q, u)).1) (by decide) r1 (b - a).toNat
                  refine rb_aload_n hV dX1_shareOut_148 rfl rfl ?_
                  refine rb_iload_n hV dX1_shareOut_149 rfl rfl ?_
                  refine rb_iload_n hV dX1_shareOut_150 rfl rfl ?_
                  refine rb_iconst hV dX1_shareOut_151 ?_
                  refine rb_iload hV dX1_shareOut_152 rfl ?_
                  refine rb_iload hV dX1_shareOut_154 rfl ?_
                  refine rb_callV hV (rest := []) dX1_shareOut_156 (c_X1_changeKind_la (ab_s s 30 (sh1 (vX s 3) 2 (sbd (vX s) (-1) 2) (-1) a (b - a).toNat ((sh1 (vX s 3) 1 (sbd (vX s) (-1) 1) (-1) a (b - a).toNat ((q), u)).1, ((sh1 (vX s 3) 1 (sbd (vX s) (-1) 1) (-1) a (b - a).toNat ((q), u)).2))).1) a b 0 (-1) ((sh1 (vX s 3) 2 (sbd (vX s) (-1) 2) (-1) a (b - a).toNat ((sh1 (vX s 3) 1 (sbd (vX s) (-1) 1) (-1) a (b - a).toNat ((q), u)).1, ((sh1 (vX s 3) 1 (sbd (vX s) (-1) 1) (-1) a (b - a).toNat ((q), u)).2))).2) hp (show 0 ≤ a ∧ a ≤ b ∧ b ≤ s 103 0 by omega) (by decide) (by decide) u2 (fun j j1 j2 => show -1000 ≤ (sh1 (vX s 3) 2 (sbd (vX s) (-1) 2) (-1) a (b - a).toNat ((sh1 (vX s 3) 1 (sbd (vX s) (-1) 1) (-1) a (b - a).toNat (q, u)).1, (sh1 (vX s 3) 1 (sbd (vX s) (-1) 1) (-1) a (b - a).toNat (q, u)).2)).1 j ∧ (sh1 (vX s 3) 2 (sbd (vX s) (-1) 2) (-1) a (b - a).toNat ((sh1 (vX s 3) 1 (sbd (vX s) (-1) 1) (-1) a (b - a).toNat (q, u)).1, (sh1 (vX s 3) 1 (sbd (vX s) (-1) 1) (-1) a (b - a).toNat (q, u)).2)).1 j ≤ 1000 by have := r2 j j1 j2; omega)) lk_X1_147 rfl (Or.inl ⟨1, _, TX1, 12, gw_25 _, rfl⟩) rfl ⟨rfl, rfl, (Nat.le_of_ble_eq_true rfl), (Nat.le_of_ble_eq_true rfl), (Nat.le_of_ble_eq_true rfl), (Nat.le_of_ble_eq_true rfl)⟩ (Nat.le_of_ble_eq_true rfl) (fun r9 h9 p9 => ?_)
                  obtain ⟨rfl, rfl⟩ := p9
                  refine rb_heq (b := (ab_s s 30 (sh1 (vX s 3) 0 (sbd (vX s) (-1) 0) (-1) a (b - a).toNat ((sh1 (vX s 3) 2 (sbd (vX s) (-1) 2) (-1) a (b - a).toNat ((sh1 (vX s 3) 1 (sbd (vX s) (-1) 1) (-1) a (b - a).toNat ((q), u)).1, ((sh1 (vX s 3) 1 (sbd (vX s) (-1) 1) (-1) a (b - a).toNat ((q), u)).2))).1, ((sh1 (vX s 3) 2 (sbd (vX s) (-1) 2) (-1) a (b - a).toNat ((sh1 (vX s 3) 1 (sbd (vX s) (-1) 1) (-1) a (b - a).toNat ((q), u)).1, ((sh1 (vX s 3) 1 (sbd (vX s) (-1) 1) (-1) a (b - a).toNat ((q), u)).2))).2))).1)) (ab_s_same _ 30 _ _) ?_
                  show V 159 [some (.inr (some 25)), some (.inl a), some (.inl b), some (.inl ((s 100 0) - (nt (vX s) a b))), some (.inl (-1)), some (.inl ((sh1 (vX s 3) 2 (sbd (vX s) (-1) 2) (-1) a (b - a).toNat ((sh1 (vX s 3) 1 (sbd (vX s) (-1) 1) (-1) a (b - a).toNat ((q), u)).1, ((sh1 (vX s 3) 1 (sbd (vX s) (-1) 1) (-1) a (b - a).toNat ((q), u)).2))).2)), some (.inl r)] [.inl ((sh1 (vX s 3) 0 (sbd (vX s) (-1) 0) (-1) a (b - a).toNat ((sh1 (vX s 3) 2 (sbd (vX s) (-1) 2) (-1) a (b - a).toNat ((sh1 (vX s 3) 1 (sbd (vX s) (-1) 1) (-1) a (b - a).toNat ((q), u)).1, ((sh1 (vX s 3) 1 (sbd (vX s) (-1) 1) (-1) a (b - a).toNat ((q), u)).2))).1, ((sh1 (vX s 3) 2 (sbd (vX s) (-1) 2) (-1) a (b - a).toNat ((sh1 (vX s 3) 1 (sbd (vX s) (-1) 1) (-1) a (b - a).toNat ((q), u)).1, ((sh1 (vX s 3) 1 (sbd (vX s) (-1) 1) (-1) a (b - a).toNat ((q), u)).2))).2))).2)] (WW (ab_s s 30 (sh1 (vX s 3) 0 (sbd (vX s) (-1) 0) (-1) a (b - a).toNat ((sh1 (vX s 3) 2 (sbd (vX s) (-1) 2) (-1) a (b - a).toNat ((sh1 (vX s 3) 1 (sbd (vX s) (-1) 1) (-1) a (b - a).toNat ((q), u)).1, ((sh1 (vX s 3) 1 (sbd (vX s) (-1) 1) (-1) a (b - a).toNat ((q), u)).2))).1, ((sh1 (vX s 3) 2 (sbd (vX s) (-1) 2) (-1) a (b - a).toNat ((sh1 (vX s 3) 1 (sbd (vX s) (-1) 1) (-1) a (b - a).toNat ((q), u)).1, ((sh1 (vX s 3) 1 (sbd (vX s) (-1) 1) (-1) a (b - a).toNat ((q), u)).2))).2))).1)) 0 0
                  refine rb_istore hV (L2 := [some (.inr (some 25)), some (.inl a), some (.inl b), some (.inl ((s 100 0) - (nt (vX s) a b))), some (.inl (-1)), some (.inl ((sh1 (vX s 3) 0 (sbd (vX s) (-1) 0) (-1) a (b - a).toNat ((sh1 (vX s 3) 2 (sbd (vX s) (-1) 2) (-1) a (b - a).toNat ((sh1 (vX s 3) 1 (sbd (vX s) (-1) 1) (-1) a (b - a).toNat ((q), u)).1, ((sh1 (vX s 3) 1 (sbd (vX s) (-1) 1) (-1) a (b - a).toNat ((q), u)).2))).1, ((sh1 (vX s 3) 2 (sbd (vX s) (-1) 2) (-1) a (b - a).toNat ((sh1 (vX s 3) 1 (sbd (vX s) (-1) 1) (-1) a (b - a).toNat ((q), u)).1, ((sh1 (vX s 3) 1 (sbd (vX s) (-1) 1) (-1) a (b - a).toNat ((q), u)).2))).2))).2)), some (.inl r)]) dX1_shareOut_159 (Nat.le_of_ble_eq_true rfl) rfl ?_
                  refine rb_iinc hV (L2 := [some (.inr (some 25)), some (.inl a), some (.inl b), some (.inl ((s 100 0) - (nt (vX s) a b))), some (.inl (-1)), some (.inl ((sh1 (vX s 3) 0 (sbd (vX s) (-1) 0) (-1) a (b - a).toNat ((sh1 (vX s 3) 2 (sbd (vX s) (-1) 2) (-1) a (b - a).toNat ((sh1 (vX s 3) 1 (sbd (vX s) (-1) 1) (-1) a (b - a).toNat ((q), u)).1, ((sh1 (vX s 3) 1 (sbd (vX s) (-1) 1) (-1) a (b - a).toNat ((q), u)).2))).1, ((sh1 (vX s 3) 2 (sbd (vX s) (-1) 2) (-1) a (b - a).toNat ((sh1 (vX s 3) 1 (sbd (vX s) (-1) 1) (-1) a (b - a).toNat ((q), u)).1, ((sh1 (vX s 3) 1 (sbd (vX s) (-1) 1) (-1) a (b - a).toNat ((q), u)).2))).2))).2)), some (.inl (r + 1))]) dX1_shareOut_161 rfl rfl rfl ?_
                  refine rb_goto hV (tgt := 92) dX1_shareOut_164 (by decide) ?_
                  refine ih92 (r + 1) ((sh1 (vX s 3) 0 (sbd (vX s) (-1) 0) (-1) a (b - a).toNat ((sh1 (vX s 3) 2 (sbd (vX s) (-1) 2) (-1) a (b - a).toNat ((sh1 (vX s 3) 1 (sbd (vX s) (-1) 1) (-1) a (b - a).toNat ((q), u)).1, ((sh1 (vX s 3) 1 (sbd (vX s) (-1) 1) (-1) a (b - a).toNat ((q), u)).2))).1, ((sh1 (vX s 3) 2 (sbd (vX s) (-1) 2) (-1) a (b - a).toNat ((sh1 (vX s 3) 1 (sbd (vX s) (-1) 1) (-1) a (b - a).toNat ((q), u)).1, ((sh1 (vX s 3) 1 (sbd (vX s) (-1) 1) (-1) a (b - a).toNat ((q), u)).2))).2))).2) ((sh1 (vX s 3) 0 (sbd (vX s) (-1) 0) (-1) a (b - a).toNat ((sh1 (vX s 3) 2 (sbd (vX s) (-1) 2) (-1) a (b - a).toNat ((sh1 (vX s 3) 1 (sbd (vX s) (-1) 1) (-1) a (b - a).toNat ((q), u)).1, ((sh1 (vX s 3) 1 (sbd (vX s) (-1) 1) (-1) a (b - a).toNat ((q), u)).2))).1, ((sh1 (vX s 3) 2 (sbd (vX s) (-1) 2) (-1) a (b - a).toNat ((sh1 (vX s 3) 1 (sbd (vX s) (-1) 1) (-1) a (b - a).toNat ((q), u)).1, ((sh1 (vX s 3) 1 (sbd (vX s) (-1) 1) (-1) a (b - a).toNat ((q), u)).2))).2))).1) ?_ ?_ ?_ ?_ ?_ ?_
                  · omega
                  · exact rnd_agr_s (d := vX s) (t := (-1)) h.2.1 h5.1 h6
                  · exact sh1_out h.2.1 (sh1_out h.2.1 (sh1_out h.2.1 h7))
                  · exact fun j j1 j2 => by have := sh1_rng (kd := vX s 3) (kind := 0) (bound := sbd (vX s) (-1) 0) (t := (-1)) (a := a) (b := b) (u := (sh1 (vX s 3) 2 (sbd (vX s) (-1) 2) (-1) a (b - a).toNat ((sh1 (vX s 3) 1 (sbd (vX s) (-1) 1) (-1) a (b - a).toNat (q, u)).1, (sh1 (vX s 3) 1 (sbd (vX s) (-1) 1) (-1) a (b - a).toNat (q, u)).2)).2) (g := (sh1 (vX s 3) 2 (sbd (vX s) (-1) 2) (-1) a (b - a).toNat ((sh1 (vX s 3) 1 (sbd (vX s) (-1) 1) (-1) a (b - a).toNat (q, u)).1, (sh1 (vX s 3) 1 (sbd (vX s) (-1) 1) (-1) a (b - a).toNat (q, u)).2)).1) (by decide) r2 (b - a).toNat j j1 j2; omega
                  · exact sh1_un (kd := vX s 3) (sh1_un (kd := vX s 3) (sh1_un (kd := vX s 3) h9 _) _) _
                  · omega
          refine h92 _ 0 (if 0 ≤ ((s 100 0) - (nt (vX s) a b)) then ((s 100 0) - (nt (vX s) a b)) else -((s 100 0) - (nt (vX s) a b))) (g) ?_ ?_ ?_ ?_ ?_ (Nat.lt_succ_self _)
          · omega
          · exact ⟨rfl, fun j j1 j2 => h2 j j1 (by omega)⟩
          · exact fun j hj => h3 j (by omega)
          · exact fun j j1 j2 => by have := kd_b hp (w := j) (by omega) (show j < s 103 0 by omega); rw [h2 j j1 (by omega)]; unfold na0; omega
          · split <;> omega
        · refine rb_aload_n hV dX1_shareOut_60 rfl rfl ?_
          refine rb_get hV (v := .inr (some 11)) dX1_shareOut_61 ⟨RX1, TX1, 12, rfl, (Nat.le_of_ble_eq_true rfl), lf_X1_19⟩ (gw_25 _) rfl ?_
          refine rb_iload_n hV dX1_shareOut_64 rfl rfl ?_
          refine rb_callV hV (rest := []) dX1_shareOut_65 (c_X2_isEnd (ab_s s 30 g) b (by unfold ab_r; omega) (show 0 ≤ (s 103 0) ∧ (s 103 0) ≤ 60 by omega)) lk_X1_139 rfl (Or.inl ⟨2, _, TX2, 8, gw_11 _, rfl⟩) rfl ⟨rfl, rfl, (Nat.le_of_ble_eq_true rfl), (Nat.le_of_ble_eq_true rfl), (Nat.le_of_ble_eq_true rfl), (Nat.le_of_ble_eq_true rfl)⟩ (Nat.le_of_ble_eq_true rfl) (fun r9 h9 p9 => ?_)
          obtain ⟨rfl, rfl⟩ := p9
          show V 68 [some (.inr (some 25)), some (.inl a), some (.inl b), some (.inl ((s 100 0) - (nt (vX s) a b))), none, none, none] [.inl (if b = s 103 0 - 1 then 1 else 0)] (WW (ab_s s 30 g)) 0 0
          by_cases e65 : b = s 103 0 - 1
          · rw [if_pos e65]
            show V 68 [some (.inr (some 25)), some (.inl a), some (.inl b), some (.inl ((s 100 0) - (nt (vX s) a b))), none, none, none] [.inl 1] (WW (ab_s s 30 g)) 0 0
            refine rb_if_eq hV (tgt := 72) dX1_shareOut_68 (by decide) (by first | assumption | (unfold ab_r at *; omega)) (fun z => absurd z (by decide)) (fun _ => ?_)
            refine rb_ret hV (r := none) dX1_shareOut_71 rfl ⟨(Nat.le_of_ble_eq_true rfl), (Nat.le_of_ble_eq_true rfl)⟩ trivial ?_
            exact ⟨rfl, g, rfl, fun j j1 j2 => by rw [h2 j j1 (by omega)]; rw [swF_last (by show 0 < df (vX s) a b ∧ b = s 103 0 - 1; omega)], fun j hj => h3 j (by omega)⟩
          · rw [if_neg e65]
            show V 68 [some (.inr (some 25)), some (.inl a), some (.inl b), some (.inl ((s 100 0) - (nt (vX s) a b))), none, none, none] [.inl 0] (WW (ab_s s 30 g)) 0 0
            refine rb_if_eq hV (tgt := 72) dX1_shareOut_68 (by decide) (by first | assumption | (unfold ab_r at *; omega)) (fun _ => ?_) (fun z => absurd z (by decide))
            refine rb_iload_n hV dX1_shareOut_72 rfl rfl ?_
            refine rb_if_le hV (tgt := 80) dX1_shareOut_73 (by decide) (by first | assumption | (unfold ab_r at *; omega)) (fun c73 => absurd c73 (by omega)) (fun c73 => ?_)
            refine rb_iconst hV dX1_shareOut_76 ?_
            refine rb_goto hV (tgt := 81) dX1_shareOut_77 (by decide) ?_
            refine rb_istore hV (L2 := [some (.inr (some 25)), some (.inl a), some (.inl b), some (.inl ((s 100 0) - (nt (vX s) a b))), some (.inl 1), none, none]) dX1_shareOut_81 (Nat.le_of_ble_eq_true rfl) rfl ?_
            refine rb_iload_n hV dX1_shareOut_83 rfl rfl ?_
            refine rb_mabs hV dX1_shareOut_84 lk_X1_142 (by first | assumption | (unfold ab_r at *; omega)) (Nat.le_of_ble_eq_true rfl) (Nat.le_of_ble_eq_true rfl) ⟨(Nat.le_of_ble_eq_true rfl), (Nat.le_of_ble_eq_true rfl)⟩ ?_
            refine rb_istore hV (L2 := [some (.inr (some 25)), some (.inl a), some (.inl b), some (.inl ((s 100 0) - (nt (vX s) a b))), some (.inl 1), some (.inl (if 0 ≤ ((s 100 0) - (nt (vX s) a b)) then ((s 100 0) - (nt (vX s) a b)) else -((s 100 0) - (nt (vX s) a b)))), none]) dX1_shareOut_87 (Nat.le_of_ble_eq_true rfl) rfl ?_
            refine rb_iconst hV dX1_shareOut_89 ?_
            refine rb_istore hV (L2 := [some (.inr (some 25)), some (.inl a), some (.inl b), some (.inl ((s 100 0) - (nt (vX s) a b))), some (.inl 1), some (.inl (if 0 ≤ ((s 100 0) - (nt (vX s) a b)) then ((s 100 0) - (nt (vX s) a b)) else -((s 100 0) - (nt (vX s) a b)))), some (.inl 0)]) dX1_shareOut_90 (Nat.le_of_ble_eq_true rfl) rfl ?_
            have h92 : ∀ (n92 : Nat) (r : Int) (u : Int) (q : Int → Int), (0 ≤ r ∧ r ≤ 40) → (agr a b (q, u) (rnds (vX s) 1 a b r.toNat (na0 (vX s), sun (vX s) a b))) → (∀ j, ¬ (a ≤ j ∧ j < b) → q j = s 30 j) → (∀ j, a ≤ j → j < b → -3 * r ≤ q j ∧ q j ≤ 40 + 3 * r) → (0 ≤ u ∧ u ≤ 100000) → ((40 - r).toNat) < n92 → V 92 [some (.inr (some 25)), some (.inl a), some (.inl b), some (.inl ((s 100 0) - (nt (vX s) a b))), some (.inl 1), some (.inl u), some (.inl r)] [] (WW (ab_s s 30 q)) 0 0 := by
              intro n92
              induction n92 with
              | zero => intro r u q h5 h6 h7 h8 h9 hm; omega
              | succ n92 ih92 =>
                intro r u q h5 h6 h7 h8 h9 hm
                refine rb_iload hV dX1_shareOut_92 rfl ?_
                refine rb_bipush hV dX1_shareOut_94 (by decide) ?_
                refine rb_icmp_ge hV (tgt := 167) dX1_shareOut_96 (by decide) ⟨(by first | assumption | (unfold ab_r at *; omega)), (by first | assumption | (unfold ab_r at *; omega))⟩ (fun c96 => ?_) (fun c96 => ?_)
                · refine rb_ret hV (r := none) dX1_shareOut_167 rfl ⟨(Nat.le_of_ble_eq_true rfl), (Nat.le_of_ble_eq_true rfl)⟩ trivial ?_
                  refine ⟨rfl, q, rfl, fun j j1 j2 => ?_, h7⟩
                  refine (h6.2 j j1 j2).trans ?_
                  rw [swF_sh (by show ¬ (0 < df (vX s) a b ∧ b = s 103 0 - 1); omega), show sby (vX s) a b = 1 by unfold sby; rw [if_pos (by omega)]]
                  first
                  | (have e : r = 40 := by omega
                     subst e
                     rfl)
                  | (rw [rnds_end h5.1 h5.2 (by rw [← h6.1]; omega)])
                · refine rb_iload hV dX1_shareOut_99 rfl ?_
                  refine rb_if_le hV (tgt := 167) dX1_shareOut_101 (by decide) (by first | assumption | (unfold ab_r at *; omega)) (fun c101 => ?_) (fun c101 => ?_)
                  · refine rb_ret hV (r := none) dX1_shareOut_167 rfl ⟨(Nat.le_of_ble_eq_true rfl), (Nat.le_of_ble_eq_true rfl)⟩ trivial ?_
                    refine ⟨rfl, q, rfl, fun j j1 j2 => ?_, h7⟩
                    refine (h6.2 j j1 j2).trans ?_
                    rw [swF_sh (by show ¬ (0 < df (vX s) a b ∧ b = s 103 0 - 1); omega), show sby (vX s) a b = 1 by unfold sby; rw [if_pos (by omega)]]
                    first
                    | (have e : r = 40 := by omega
                       subst e
                       rfl)
                    | (rw [rnds_end h5.1 h5.2 (by rw [← h6.1]; omega)])
                  · have r0 : ∀ j, a ≤ j → j < b → -1000 ≤ q j ∧ q j ≤ 1000 := fun j j1 j2 => by have := h8 j j1 j2; omega
                    refine rb_aload_n hV dX1_shareOut_104 rfl rfl ?_
                    refine rb_iload_n hV dX1_shareOut_105 rfl rfl ?_
                    refine rb_iload_n hV dX1_shareOut_106 rfl rfl ?_
                    refine rb_iload hV dX1_shareOut_107 rfl ?_
                    refine rb_if_le hV (tgt := 116) dX1_shareOut_109 (by decide) (by first | assumption | (unfold ab_r at *; omega)) (fun z => absurd z (by decide)) (fun _ => ?_)
                    refine rb_iconst hV dX1_shareOut_112 ?_
                    refine rb_goto hV (tgt := 117) dX1_shareOut_113 (by decide) ?_
                    refine rb_iload hV dX1_shareOut_117 rfl ?_
                    refine rb_iload hV dX1_shareOut_119 rfl ?_
                    refine rb_callV hV (rest := []) dX1_shareOut_121 (c_X1_changeKind_la (ab_s s 30 q) a b 2 1 u hp (show 0 ≤ a ∧ a ≤ b ∧ b ≤ s 103 0 by omega) (by decide) (by decide) h9 r0) lk_X1_147 rfl (Or.inl ⟨1, _, TX1, 12, gw_25 _, rfl⟩) rfl ⟨rfl, rfl, (Nat.le_of_ble_eq_true rfl), (Nat.le_of_ble_eq_true rfl), (Nat.le_of_ble_eq_true rfl), (Nat.le_of_ble_eq_true rfl)⟩ (Nat.le_of_ble_eq_true rfl) (fun r9 h9 p9 => ?_)
                    obtain ⟨rfl, rfl⟩ := p9
                    refine rb_heq (b := (ab_s s 30 (sh1 (vX s 3) 2 (sbd (vX s) 1 2) 1 a (b - a).toNat ((q), u)).1)) (ab_s_same _ 30 _ _) ?_
                    show V 124 [some (.inr (some 25)), some (.inl a), some (.inl b), some (.inl ((s 100 0) - (nt (vX s) a b))), some (.inl 1), some (.inl u), some (.inl r)] [.inl ((sh1 (vX s 3) 2 (sbd (vX s) 1 2) 1 a (b - a).toNat ((q), u)).2)] (WW (ab_s s 30 (sh1 (vX s 3) 2 (sbd (vX s) 1 2) 1 a (b - a).toNat ((q), u)).1)) 0 0
                    refine rb_istore hV (L2 := [some (.inr (some 25)), some (.inl a), some (.inl b), some (.inl ((s 100 0) - (nt (vX s) a b))), some (.inl 1), some (.inl ((sh1 (vX s 3) 2 (sbd (vX s) 1 2) 1 a (b - a).toNat ((q), u)).2)), some (.inl r)]) dX1_shareOut_124 (Nat.le_of_ble_eq_true rfl) rfl ?_
                    have u1 := sh1_un (kd := vX s 3) (kind := 2) (bound := sbd (vX s) 1 2) (t := 1) (a := a) (g := q) h9 (b - a).toNat
                    have r1 := sh1_rng (kd := vX s 3) (kind := 2) (bound := sbd (vX s) 1 2) (t := 1) (a := a) (b := b) (u := u) (by decide) h8 (b - a).toNat
                    refine rb_aload_n hV dX1_shareOut_126 rfl rfl ?_
                    refine rb_iload_n hV dX1_shareOut_127 rfl rfl ?_
                    refine rb_iload_n hV dX1_shareOut_128 rfl rfl ?_
                    refine rb_iload hV dX1_shareOut_129 rfl ?_
                    refine rb_if_le hV (tgt := 138) dX1_shareOut_131 (by decide) (by first | assumption | (unfold ab_r at *; omega)) (fun z => absurd z (by decide)) (fun _ => ?_)
                    refine rb_iconst hV dX1_shareOut_134 ?_
                    refine rb_goto hV (tgt := 139) dX1_shareOut_135 (by decide) ?_
                    refine rb_iload hV dX1_shareOut_139 rfl ?_
                    refine rb_iload hV dX1_shareOut_141 rfl ?_
                    refine rb_callV hV (rest := []) dX1_shareOut_143 (c_X1_changeKind_la (ab_s s 30 (sh1 (vX s 3) 2 (sbd (vX s) 1 2) 1 a (b - a).toNat ((q), u)).1) a b 1 1 ((sh1 (vX s 3) 2 (sbd (vX s) 1 2) 1 a (b - a).toNat ((q), u)).2) hp (show 0 ≤ a ∧ a ≤ b ∧ b ≤ s 103 0 by omega) (by decide) (by decide) u1 (fun j j1 j2 => show -1000 ≤ (sh1 (vX s 3) 2 (sbd (vX s) 1 2) 1 a (b - a).toNat (q, u)).1 j ∧ (sh1 (vX s 3) 2 (sbd (vX s) 1 2) 1 a (b - a).toNat (q, u)).1 j ≤ 1000 by have := r1 j j1 j2; omega)) lk_X1_147 rfl (Or.inl ⟨1, _, TX1, 12, gw_25 _, rfl⟩) rfl ⟨rfl, rfl, (Nat.le_of_ble_eq_true rfl), (Nat.le_of_ble_eq_true rfl), (Nat.le_of_ble_eq_true rfl), (Nat.le_of_ble_eq_true rfl)⟩ (Nat.le_of_ble_eq_true rfl) (fun r9 h9 p9 => ?_)
                    obtain ⟨rfl, rfl⟩ := p9
                    refine rb_heq (b := (ab_s s 30 (sh1 (vX s 3) 1 (sbd (vX s) 1 1) 1 a (b - a).toNat ((sh1 (vX s 3) 2 (sbd (vX s) 1 2) 1 a (b - a).toNat ((q), u)).1, ((sh1 (vX s 3) 2 (sbd (vX s) 1 2) 1 a (b - a).toNat ((q), u)).2))).1)) (ab_s_same _ 30 _ _) ?_
                    show V 146 [some (.inr (some 25)), some (.inl a), some (.inl b), some (.inl ((s 100 0) - (nt (vX s) a b))), some (.inl 1), some (.inl ((sh1 (vX s 3) 2 (sbd (vX s) 1 2) 1 a (b - a).toNat ((q), u)).2)), some (.inl r)] [.inl ((sh1 (vX s 3) 1 (sbd (vX s) 1 1) 1 a (b - a).toNat ((sh1 (vX s 3) 2 (sbd (vX s) 1 2) 1 a (b - a).toNat ((q), u)).1, ((sh1 (vX s 3) 2 (sbd (vX s) 1 2) 1 a (b - a).toNat ((q), u)).2))).2)] (WW (ab_s s 30 (sh1 (vX s 3) 1 (sbd (vX s) 1 1) 1 a (b - a).toNat ((sh1 (vX s 3) 2 (sbd (vX s) 1 2) 1 a (b - a).toNat ((q), u)).1, ((sh1 (vX s 3) 2 (sbd (vX s) 1 2) 1 a (b - a).toNat ((q), u)).2))).1)) 0 0
                    refine rb_istore hV (L2 := [some (.inr (some 25)), some (.inl a), some (.inl b), some (.inl ((s 100 0) - (nt (vX s) a b))), some (.inl 1), some (.inl ((sh1 (vX s 3) 1 (sbd (vX s) 1 1) 1 a (b - a).toNat ((sh1 (vX s 3) 2 (sbd (vX s) 1 2) 1 a (b - a).toNat ((q), u)).1, ((sh1 (vX s 3) 2 (sbd (vX s) 1 2) 1 a (b - a).toNat ((q), u)).2))).2)), some (.inl r)]) dX1_shareOut_146 (Nat.le_of_ble_eq_true rfl) rfl ?_
                    have u2 := sh1_un (kd := vX s 3) (kind := 1) (bound := sbd (vX s) 1 1) (t := 1) (a := a) (g := (sh1 (vX s 3) 2 (sbd (vX s) 1 2) 1 a (b - a).toNat (q, u)).1) u1 (b - a).toNat
                    have r2 := sh1_rng (kd := vX s 3) (kind := 1) (bound := sbd (vX s) 1 1) (t := 1) (a := a) (b := b) (u := (sh1 (vX s 3) 2 (sbd (vX s) 1 2) 1 a (b - a).toNat (q, u)).2) (g := (sh1 (vX s 3) 2 (sbd (vX s) 1 2) 1 a (b - a).toNat (q, u)).1) (by decide) r1 (b - a).toNat
                    refine rb_aload_n hV dX1_shareOut_148 rfl rfl ?_
                    refine rb_iload_n hV dX1_shareOut_149 rfl rfl ?_
                    refine rb_iload_n hV dX1_shareOut_150 rfl rfl ?_
                    refine rb_iconst hV dX1_shareOut_151 ?_
                    refine rb_iload hV dX1_shareOut_152 rfl ?_
                    refine rb_iload hV dX1_shareOut_154 rfl ?_
                    refine rb_callV hV (rest := []) dX1_shareOut_156 (c_X1_changeKind_la (ab_s s 30 (sh1 (vX s 3) 1 (sbd (vX s) 1 1) 1 a (b - a).toNat ((sh1 (vX s 3) 2 (sbd (vX s) 1 2) 1 a (b - a).toNat ((q), u)).1, ((sh1 (vX s 3) 2 (sbd (vX s) 1 2) 1 a (b - a).toNat ((q), u)).2))).1) a b 0 1 ((sh1 (vX s 3) 1 (sbd (vX s) 1 1) 1 a (b - a).toNat ((sh1 (vX s 3) 2 (sbd (vX s) 1 2) 1 a (b - a).toNat ((q), u)).1, ((sh1 (vX s 3) 2 (sbd (vX s) 1 2) 1 a (b - a).toNat ((q), u)).2))).2) hp (show 0 ≤ a ∧ a ≤ b ∧ b ≤ s 103 0 by omega) (by decide) (by decide) u2 (fun j j1 j2 => show -1000 ≤ (sh1 (vX s 3) 1 (sbd (vX s) 1 1) 1 a (b - a).toNat ((sh1 (vX s 3) 2 (sbd (vX s) 1 2) 1 a (b - a).toNat (q, u)).1, (sh1 (vX s 3) 2 (sbd (vX s) 1 2) 1 a (b - a).toNat (q, u)).2)).1 j ∧ (sh1 (vX s 3) 1 (sbd (vX s) 1 1) 1 a (b - a).toNat ((sh1 (vX s 3) 2 (sbd (vX s) 1 2) 1 a (b - a).toNat (q, u)).1, (sh1 (vX s 3) 2 (sbd (vX s) 1 2) 1 a (b - a).toNat (q, u)).2)).1 j ≤ 1000 by have := r2 j j1 j2; omega)) lk_X1_147 rfl (Or.inl ⟨1, _, TX1, 12, gw_25 _, rfl⟩) rfl ⟨rfl, rfl, (Nat.le_of_ble_eq_true rfl), (Nat.le_of_ble_eq_true rfl), (Nat.le_of_ble_eq_true rfl), (Nat.le_of_ble_eq_true rfl)⟩ (Nat.le_of_ble_eq_true rfl) (fun r9 h9 p9 => ?_)
                    obtain ⟨rfl, rfl⟩ := p9
                    refine rb_heq (b := (ab_s s 30 (sh1 (vX s 3) 0 (sbd (vX s) 1 0) 1 a (b - a).toNat ((sh1 (vX s 3) 1 (sbd (vX s) 1 1) 1 a (b - a).toNat ((sh1 (vX s 3) 2 (sbd (vX s) 1 2) 1 a (b - a).toNat ((q), u)).1, ((sh1 (vX s 3) 2 (sbd (vX s) 1 2) 1 a (b - a).toNat ((q), u)).2))).1, ((sh1 (vX s 3) 1 (sbd (vX s) 1 1) 1 a (b - a).toNat ((sh1 (vX s 3) 2 (sbd (vX s) 1 2) 1 a (b - a).toNat ((q), u)).1, ((sh1 (vX s 3) 2 (sbd (vX s) 1 2) 1 a (b - a).toNat ((q), u)).2))).2))).1)) (ab_s_same _ 30 _ _) ?_
                    show V 159 [some (.inr (some 25)), some (.inl a), some (.inl b), some (.inl ((s 100 0) - (nt (vX s) a b))), some (.inl 1), some (.inl ((sh1 (vX s 3) 1 (sbd (vX s) 1 1) 1 a (b - a).toNat ((sh1 (vX s 3) 2 (sbd (vX s) 1 2) 1 a (b - a).toNat ((q), u)).1, ((sh1 (vX s 3) 2 (sbd (vX s) 1 2) 1 a (b - a).toNat ((q), u)).2))).2)), some (.inl r)] [.inl ((sh1 (vX s 3) 0 (sbd (vX s) 1 0) 1 a (b - a).toNat ((sh1 (vX s 3) 1 (sbd (vX s) 1 1) 1 a (b - a).toNat ((sh1 (vX s 3) 2 (sbd (vX s) 1 2) 1 a (b - a).toNat ((q), u)).1, ((sh1 (vX s 3) 2 (sbd (vX s) 1 2) 1 a (b - a).toNat ((q), u)).2))).1, ((sh1 (vX s 3) 1 (sbd (vX s) 1 1) 1 a (b - a).toNat ((sh1 (vX s 3) 2 (sbd (vX s) 1 2) 1 a (b - a).toNat ((q), u)).1, ((sh1 (vX s 3) 2 (sbd (vX s) 1 2) 1 a (b - a).toNat ((q), u)).2))).2))).2)] (WW (ab_s s 30 (sh1 (vX s 3) 0 (sbd (vX s) 1 0) 1 a (b - a).toNat ((sh1 (vX s 3) 1 (sbd (vX s) 1 1) 1 a (b - a).toNat ((sh1 (vX s 3) 2 (sbd (vX s) 1 2) 1 a (b - a).toNat ((q), u)).1, ((sh1 (vX s 3) 2 (sbd (vX s) 1 2) 1 a (b - a).toNat ((q), u)).2))).1, ((sh1 (vX s 3) 1 (sbd (vX s) 1 1) 1 a (b - a).toNat ((sh1 (vX s 3) 2 (sbd (vX s) 1 2) 1 a (b - a).toNat ((q), u)).1, ((sh1 (vX s 3) 2 (sbd (vX s) 1 2) 1 a (b - a).toNat ((q), u)).2))).2))).1)) 0 0
                    refine rb_istore hV (L2 := [some (.inr (some 25)), some (.inl a), some (.inl b), some (.inl ((s 100 0) - (nt (vX s) a b))), some (.inl 1), some (.inl ((sh1 (vX s 3) 0 (sbd (vX s) 1 0) 1 a (b - a).toNat ((sh1 (vX s 3) 1 (sbd (vX s) 1 1) 1 a (b - a).toNat ((sh1 (vX s 3) 2 (sbd (vX s) 1 2) 1 a (b - a).toNat ((q), u)).1, ((sh1 (vX s 3) 2 (sbd (vX s) 1 2) 1 a (b - a).toNat ((q), u)).2))).1, ((sh1 (vX s 3) 1 (sbd (vX s) 1 1) 1 a (b - a).toNat ((sh1 (vX s 3) 2 (sbd (vX s) 1 2) 1 a (b - a).toNat ((q), u)).1, ((sh1 (vX s 3) 2 (sbd (vX s) 1 2) 1 a (b - a).toNat ((q), u)).2))).2))).2)), some (.inl r)]) dX1_shareOut_159 (Nat.le_of_ble_eq_true rfl) rfl ?_
                    refine rb_iinc hV (L2 := [some (.inr (some 25)), some (.inl a), some (.inl b), some (.inl ((s 100 0) - (nt (vX s) a b))), some (.inl 1), some (.inl ((sh1 (vX s 3) 0 (sbd (vX s) 1 0) 1 a (b - a).toNat ((sh1 (vX s 3) 1 (sbd (vX s) 1 1) 1 a (b - a).toNat ((sh1 (vX s 3) 2 (sbd (vX s) 1 2) 1 a (b - a).toNat ((q), u)).1, ((sh1 (vX s 3) 2 (sbd (vX s) 1 2) 1 a (b - a).toNat ((q), u)).2))).1, ((sh1 (vX s 3) 1 (sbd (vX s) 1 1) 1 a (b - a).toNat ((sh1 (vX s 3) 2 (sbd (vX s) 1 2) 1 a (b - a).toNat ((q), u)).1, ((sh1 (vX s 3) 2 (sbd (vX s) 1 2) 1 a (b - a).toNat ((q), u)).2))).2))).2)), some (.inl (r + 1))]) dX1_shareOut_161 rfl rfl rfl ?_
                    refine rb_goto hV (tgt := 92) dX1_shareOut_164 (by decide) ?_
                    refine ih92 (r + 1) ((sh1 (vX s 3) 0 (sbd (vX s) 1 0) 1 a (b - a).toNat ((sh1 (vX s 3) 1 (sbd (vX s) 1 1) 1 a (b - a).toNat ((sh1 (vX s 3) 2 (sbd (vX s) 1 2) 1 a (b - a).toNat ((q), u)).1, ((sh1 (vX s 3) 2 (sbd (vX s) 1 2) 1 a (b - a).toNat ((q), u)).2))).1, ((sh1 (vX s 3) 1 (sbd (vX s) 1 1) 1 a (b - a).toNat ((sh1 (vX s 3) 2 (sbd (vX s) 1 2) 1 a (b - a).toNat ((q), u)).1, ((sh1 (vX s 3) 2 (sbd (vX s) 1 2) 1 a (b - a).toNat ((q), u)).2))).2))).2) ((sh1 (vX s 3) 0 (sbd (vX s) 1 0) 1 a (b - a).toNat ((sh1 (vX s 3) 1 (sbd (vX s) 1 1) 1 a (b - a).toNat ((sh1 (vX s 3) 2 (sbd (vX s) 1 2) 1 a (b - a).toNat ((q), u)).1, ((sh1 (vX s 3) 2 (sbd (vX s) 1 2) 1 a (b - a).toNat ((q), u)).2))).1, ((sh1 (vX s 3) 1 (sbd (vX s) 1 1) 1 a (b - a).toNat ((sh1 (vX s 3) 2 (sbd (vX s) 1 2) 1 a (b - a).toNat ((q), u)).1, ((sh1 (vX s 3) 2 (sbd (vX s) 1 2) 1 a (b - a).toNat ((q), u)).2))).2))).1) ?_ ?_ ?_ ?_ ?_ ?_
                    · omega
                    · exact rnd_agr_s (d := vX s) (t := 1) h.2.1 h5.1 h6
                    · exact sh1_out h.2.1 (sh1_out h.2.1 (sh1_out h.2.1 h7))
                    · exact fun j j1 j2 => by have := sh1_rng (kd := vX s 3) (kind := 0) (bound := sbd (vX s) 1 0) (t := 1) (a := a) (b := b) (u := (sh1 (vX s 3) 1 (sbd (vX s) 1 1) 1 a (b - a).toNat ((sh1 (vX s 3) 2 (sbd (vX s) 1 2) 1 a (b - a).toNat (q, u)).1, (sh1 (vX s 3) 2 (sbd (vX s) 1 2) 1 a (b - a).toNat (q, u)).2)).2) (g := (sh1 (vX s 3) 1 (sbd (vX s) 1 1) 1 a (b - a).toNat ((sh1 (vX s 3) 2 (sbd (vX s) 1 2) 1 a (b - a).toNat (q, u)).1, (sh1 (vX s 3) 2 (sbd (vX s) 1 2) 1 a (b - a).toNat (q, u)).2)).1) (by decide) r2 (b - a).toNat j j1 j2; omega
                    · exact sh1_un (kd := vX s 3) (sh1_un (kd := vX s 3) (sh1_un (kd := vX s 3) h9 _) _) _
                    · omega
            refine h92 _ 0 (if 0 ≤ ((s 100 0) - (nt (vX s) a b)) then ((s 100 0) - (nt (vX s) a b)) else -((s 100 0) - (nt (vX s) a b))) (g) ?_ ?_ ?_ ?_ ?_ (Nat.lt_succ_self _)
            · omega
            · exact ⟨rfl, fun j j1 j2 => h2 j j1 (by omega)⟩
            · exact fun j hj => h3 j (by omega)
            · exact fun j j1 j2 => by have := kd_b hp (w := j) (by omega) (show j < s 103 0 by omega); rw [h2 j j1 (by omega)]; unfold na0; omega
            · split <;> omega
      · have hk8 := (hp.2.1 w (by omega) (show w < s 103 0 by omega)).2.2.1
        have hk8b : 0 ≤ s 8 w ∧ s 8 w ≤ 2 := hk8
        refine rb_aload_n hV dX1_shareOut_7 rfl rfl ?_
        refine rb_get hV (v := .inr (some 30)) dX1_shareOut_8 ⟨RX1, TX1, 12, rfl, (Nat.le_of_ble_eq_true rfl), lf_X1_47⟩ (gw_25 _) rfl ?_
        refine rb_iload_n hV dX1_shareOut_11 rfl rfl ?_
        refine rb_aload_n hV dX1_shareOut_12 rfl rfl ?_
        refine rb_get hV (v := .inr (some 1)) dX1_shareOut_13 ⟨RX1, TX1, 12, rfl, (Nat.le_of_ble_eq_true rfl), lf_X1_15⟩ (gw_25 _) rfl ?_
        refine rb_get hV (v := .inr (some 3)) dX1_shareOut_16 ⟨RX6, TX6, 6, rfl, (Nat.le_of_ble_eq_true rfl), lf_X1_127⟩ (gw_1 _) rfl ?_
        refine rb_aload_n hV dX1_shareOut_19 rfl rfl ?_
        refine rb_get hV (v := .inr (some 5)) dX1_shareOut_20 ⟨RX1, TX1, 12, rfl, (Nat.le_of_ble_eq_true rfl), lf_X1_9⟩ (gw_25 _) rfl ?_
        refine rb_get hV (v := .inr (some 8)) dX1_shareOut_23 ⟨RX4, TX4, 6, rfl, (Nat.le_of_ble_eq_true rfl), lf_X1_130⟩ (gw_5 _) rfl ?_
        refine rb_iload_n hV dX1_shareOut_26 rfl rfl ?_
        refine rb_iald hV (f := (s 8)) dX1_shareOut_27 (gw_8 _) (Nat.le_of_ble_eq_true rfl) (by omega) ?_
        refine rb_callS hV (rest := [.inl w, .inr (some 30)]) dX1_shareOut_28 (c_X9_at (ab_s s 30 g) 3 _ (s 3) (s 8 w) (gw_3 _) (Nat.le_of_ble_eq_true rfl) (by omega)) lk_X1_61 rfl rfl ⟨rfl, rfl, (Nat.le_of_ble_eq_true rfl), (Nat.le_of_ble_eq_true rfl), (Nat.le_of_ble_eq_true rfl), (Nat.le_of_ble_eq_true rfl)⟩ (Nat.le_of_ble_eq_true rfl) (fun r9 h9 p9 => ?_)
        obtain ⟨rfl, rfl⟩ := p9
        show V 31 [some (.inr (some 25)), some (.inl a), some (.inl b), some (.inl w), none, none, none] [.inl (s 3 (s 8 w)), .inl w, .inr (some 30)] (WW (ab_s s 30 g)) 0 0
        refine rb_iast hV (f := (g)) dX1_shareOut_31 (gw_30 _) (Nat.le_of_ble_eq_true rfl) (by omega) rfl ((pw_30 _ _).trans (congrArg WW (ab_s_same _ 30 _ _))) ?_
        refine rb_iinc hV (L2 := [some (.inr (some 25)), some (.inl a), some (.inl b), some (.inl (w + 1)), none, none, none]) dX1_shareOut_32 rfl rfl rfl ?_
        refine rb_goto hV (tgt := 2) dX1_shareOut_35 (by decide) ?_
        refine ih2 (w + 1) (ab_u (g) w (s 3 (s 8 w))) ?_ ?_ ?_ ?_
        · omega
        · intro j j1 j2
          by_cases hj : j = w
          · subst hj
            rw [ab_u_eq]
            rfl
          · rw [ab_u_ne hj]
            exact h2 j j1 (by omega)
        · intro j hj
          rw [ab_u_ne (by omega)]
          exact h3 j (by omega)
        · omega
  refine h2 _ a (s 30) ?_ ?_ ?_ (Nat.lt_succ_self _)
  · omega
  · exact fun j j1 j2 => absurd j2 (by omega)
  · exact fun j _ => rfl

set_option maxRecDepth 20000 in
theorem c_X1_shareOut_tr (s : Nat → Int → Int) (a b : Int) (hp : PI (vX s)) (hr : RU s) (h : 0 ≤ a ∧ a ≤ b ∧ b < s 103 0) : ab_Mt yX1_shareOut cX1_shareOut 7 none ({ frames := 2, cells := 0, slots := 0, locals := 49 } : Room) false 0 0 [.inr (some 37), .inl a, .inl b] (WW s) (fun r h2 => r = none ∧ ∃ g, h2 = WW (ab_s s 42 g) ∧ (∀ j, a ≤ j → j < b → g j = swF (vX s) a b j) ∧ (∀ j, ¬ (a ≤ j ∧ j < b) → g j = s 42 j)) := by
  refine ab_mk RX1 false rfl pn_X1_shareOut (fun z => by cases z) (Nat.le_of_ble_eq_true rfl) (fun V hV => ?_)
  show V 0 [some (.inr (some 37)), some (.inl a), some (.inl b), none, none, none, none] [] (WW s) 0 0
  have hn : 0 ≤ s 103 0 ∧ s 103 0 ≤ 60 := hp.1
  refine rb_iload_n hV dX1_shareOut_0 rfl rfl ?_
  refine rb_istore_n hV (L2 := [some (.inr (some 37)), some (.inl a), some (.inl b), some (.inl a), none, none, none]) dX1_shareOut_1 rfl (Nat.le_of_ble_eq_true rfl) rfl ?_
  refine rb_heq (b := (ab_s s 42 (s 42))) (ab_s_id rfl).symm ?_
  have h2 : ∀ (n2 : Nat) (w : Int) (g : Int → Int), (a ≤ w ∧ w ≤ b) → (∀ j, a ≤ j → j < w → g j = na0 (vX s) j) → (∀ j, ¬ (a ≤ j ∧ j < w) → g j = s 42 j) → ((b - w).toNat) < n2 → V 2 [some (.inr (some 37)), some (.inl a), some (.inl b), some (.inl w), none, none, none] [] (WW (ab_s s 42 g)) 0 0 := by
    intro n2
    induction n2 with
    | zero => intro w g h1 h2 h3 hm; omega
    | succ n2 ih2 =>
      intro w g h1 h2 h3 hm
      refine rb_iload_n hV dX1_shareOut_2 rfl rfl ?_
      refine rb_iload_n hV dX1_shareOut_3 rfl rfl ?_
      refine rb_icmp_ge hV (tgt := 38) dX1_shareOut_4 (by decide) ⟨(by first | assumption | (unfold ab_r at *; omega)), (by first | assumption | (unfold ab_r at *; omega))⟩ (fun c4 => ?_) (fun c4 => ?_)
      · have hd := df_b hp h.1 h.2.1 h.2.2
        have hdf : df (vX s) a b = s 100 0 - nt (vX s) a b := rfl
        refine rb_aload_n hV dX1_shareOut_38 rfl rfl ?_
        refine rb_get hV (v := .inr (some 1)) dX1_shareOut_39 ⟨RX1, TX1, 12, rfl, (Nat.le_of_ble_eq_true rfl), lf_X1_15⟩ (gw_37 _) rfl ?_
        refine rb_get hV (v := .inl (s 100 0)) dX1_shareOut_42 ⟨RX6, TX6, 6, rfl, (Nat.le_of_ble_eq_true rfl), lf_X1_133⟩ (gw_1 _) rfl ?_
        refine rb_aload_n hV dX1_shareOut_45 rfl rfl ?_
        refine rb_get hV (v := .inr (some 11)) dX1_shareOut_46 ⟨RX1, TX1, 12, rfl, (Nat.le_of_ble_eq_true rfl), lf_X1_19⟩ (gw_37 _) rfl ?_
        refine rb_iload_n hV dX1_shareOut_49 rfl rfl ?_
        refine rb_iload_n hV dX1_shareOut_50 rfl rfl ?_
        refine rb_callV hV (rest := [.inl (s 100 0)]) dX1_shareOut_51 (c_X2_naturalWidth (ab_s s 42 g) a b hp hr (show 0 ≤ a ∧ a ≤ b ∧ b < (s 103 0) by omega)) lk_X1_136 rfl (Or.inl ⟨2, _, TX2, 8, gw_11 _, rfl⟩) rfl ⟨rfl, rfl, (Nat.le_of_ble_eq_true rfl), (Nat.le_of_ble_eq_true rfl), (Nat.le_of_ble_eq_true rfl), (Nat.le_of_ble_eq_true rfl)⟩ (Nat.le_of_ble_eq_true rfl) (fun r9 h9 p9 => ?_)
        obtain ⟨rfl, rfl⟩ := p9
        show V 54 [some (.inr (some 37)), some (.inl a), some (.inl b), some (.inl w), none, none, none] [.inl (nt (vX s) a b), .inl (s 100 0)] (WW (ab_s s 42 g)) 0 0
        refine rb_isub hV dX1_shareOut_54 ?_
        refine rb_istore_n hV (L2 := [some (.inr (some 37)), some (.inl a), some (.inl b), some (.inl ((s 100 0) - (nt (vX s) a b))), none, none, none]) dX1_shareOut_55 rfl (Nat.le_of_ble_eq_true rfl) rfl ?_
        refine rb_iload_n hV dX1_shareOut_56 rfl rfl ?_
        refine rb_if_le hV (tgt := 72) dX1_shareOut_57 (by decide) (by first | assumption | (unfold ab_r at *; omega)) (fun c57 => ?_) (fun c57 => ?_)
        · refine rb_iload_n hV dX1_shareOut_72 rfl rfl ?_
          refine rb_if_le hV (tgt := 80) dX1_shareOut_73 (by decide) (by first | assumption | (unfold ab_r at *; omega)) (fun c73 => ?_) (fun c73 => absurd c73 (by omega))
          refine rb_iconst hV dX1_shareOut_80 ?_
          refine rb_istore hV (L2 := [some (.inr (some 37)), some (.inl a), some (.inl b), some (.inl ((s 100 0) - (nt (vX s) a b))), some (.inl (-1)), none, none]) dX1_shareOut_81 (Nat.le_of_ble_eq_true rfl) rfl ?_
          refine rb_iload_n hV dX1_shareOut_83 rfl rfl ?_
          refine rb_mabs hV dX1_shareOut_84 lk_X1_142 (by first | assumption | (unfold ab_r at *; omega)) (Nat.le_of_ble_eq_true rfl) (Nat.le_of_ble_eq_true rfl) ⟨(Nat.le_of_ble_eq_true rfl), (Nat.le_of_ble_eq_true rfl)⟩ ?_
          refine rb_istore hV (L2 := [some (.inr (some 37)), some (.inl a), some (.inl b), some (.inl ((s 100 0) - (nt (vX s) a b))), some (.inl (-1)), some (.inl (if 0 ≤ ((s 100 0) - (nt (vX s) a b)) then ((s 100 0) - (nt (vX s) a b)) else -((s 100 0) - (nt (vX s) a b)))), none]) dX1_shareOut_87 (Nat.le_of_ble_eq_true rfl) rfl ?_
          refine rb_iconst hV dX1_shareOut_89 ?_
          refine rb_istore hV (L2 := [some (.inr (some 37)), some (.inl a), some (.inl b), some (.inl ((s 100 0) - (nt (vX s) a b))), some (.inl (-1)), some (.inl (if 0 ≤ ((s 100 0) - (nt (vX s) a b)) then ((s 100 0) - (nt (vX s) a b)) else -((s 100 0) - (nt (vX s) a b)))), some (.inl 0)]) dX1_shareOut_90 (Nat.le_of_ble_eq_true rfl) rfl ?_
          have h92 : ∀ (n92 : Nat) (r : Int) (u : Int) (q : Int → Int), (0 ≤ r ∧ r ≤ 40) → (agr a b (q, u) (rnds (vX s) (-1) a b r.toNat (na0 (vX s), sun (vX s) a b))) → (∀ j, ¬ (a ≤ j ∧ j < b) → q j = s 42 j) → (∀ j, a ≤ j → j < b → -3 * r ≤ q j ∧ q j ≤ 40 + 3 * r) → (0 ≤ u ∧ u ≤ 100000) → ((40 - r).toNat) < n92 → V 92 [some (.inr (some 37)), some (.inl a), some (.inl b), some (.inl ((s 100 0) - (nt (vX s) a b))), some (.inl (-1)), some (.inl u), some (.inl r)] [] (WW (ab_s s 42 q)) 0 0 := by
            intro n92
            induction n92 with
            | zero => intro r u q h5 h6 h7 h8 h9 hm; omega
            | succ n92 ih92 =>
              intro r u q h5 h6 h7 h8 h9 hm
              refine rb_iload hV dX1_shareOut_92 rfl ?_
              refine rb_bipush hV dX1_shareOut_94 (by decide) ?_
              refine rb_icmp_ge hV (tgt := 167) dX1_shareOut_96 (by decide) ⟨(by first | assumption | (unfold ab_r at *; omega)), (by first | assumption | (unfold ab_r at *; omega))⟩ (fun c96 => ?_) (fun c96 => ?_)
              · refine rb_ret hV (r := none) dX1_shareOut_167 rfl ⟨(Nat.le_of_ble_eq_true rfl), (Nat.le_of_ble_eq_true rfl)⟩ trivial ?_
                refine ⟨rfl, q, rfl, fun j j1 j2 => ?_, h7⟩
                refine (h6.2 j j1 j2).trans ?_
                rw [swF_sh (by show ¬ (0 < df (vX s) a b ∧ b = s 103 0 - 1); omega), show sby (vX s) a b = (-1) by unfold sby; rw [if_neg (by omega)]]
                first
                | (have e : r = 40 := by omega
                   subst e
                   rfl)
                | (rw [rnds_end h5.1 h5.2 (by rw [← h6.1]; omega)])
              · refine rb_iload hV dX1_shareOut_99 rfl ?_
                refine rb_if_le hV (tgt := 167) dX1_shareOut_101 (by decide) (by first | assumption | (unfold ab_r at *; omega)) (fun c101 => ?_) (fun c101 => ?_)
                · refine rb_ret hV (r := none) dX1_shareOut_167 rfl ⟨(Nat.le_of_ble_eq_true rfl), (Nat.le_of_ble_eq_true rfl)⟩ trivial ?_
                  refine ⟨rfl, q, rfl, fun j j1 j2 => ?_, h7⟩
                  refine (h6.2 j j1 j2).trans ?_
                  rw [swF_sh (by show ¬ (0 < df (vX s) a b ∧ b = s 103 0 - 1); omega), show sby (vX s) a b = (-1) by unfold sby; rw [if_neg (by omega)]]
                  first
                  | (have e : r = 40 := by omega
                     subst e
                     rfl)
                  | (rw [rnds_end h5.1 h5.2 (by rw [← h6.1]; omega)])
                · have r0 : ∀ j, a ≤ j → j < b → -1000 ≤ q j ∧ q j ≤ 1000 := fun j j1 j2 => by have := h8 j j1 j2; omega
                  refine rb_aload_n hV dX1_shareOut_104 rfl rfl ?_
                  refine rb_iload_n hV dX1_shareOut_105 rfl rfl ?_
                  refine rb_iload_n hV dX1_shareOut_106 rfl rfl ?_
                  refine rb_iload hV dX1_shareOut_107 rfl ?_
                  refine rb_if_le hV (tgt := 116) dX1_shareOut_109 (by decide) (by first | assumption | (unfold ab_r at *; omega)) (fun _ => ?_) (fun z => absurd z (by decide))
                  refine rb_iconst hV dX1_shareOut_116 ?_
                  refine rb_iload hV dX1_shareOut_117 rfl ?_
                  refine rb_iload hV dX1_shareOut_119 rfl ?_
                  refine rb_callV hV (rest := []) dX1_shareOut_121 (c_X1_changeKind_tr (ab_s s 42 q) a b 1 (-1) u hp (show 0 ≤ a ∧ a ≤ b ∧ b ≤ s 103 0 by omega) (by decide) (by decide) h9 r0) lk_X1_147 rfl (Or.inl ⟨1, _, TX1, 12, gw_37 _, rfl⟩) rfl ⟨rfl, rfl, (Nat.le_of_ble_eq_true rfl), (Nat.le_of_ble_eq_true rfl), (Nat.le_of_ble_eq_true rfl), (Nat.le_of_ble_eq_true rfl)⟩ (Nat.le_of_ble_eq_true rfl) (fun r9 h9 p9 => ?_)
                  obtain ⟨rfl, rfl⟩ := p9
                  refine rb_heq (b := (ab_s s 42 (sh1 (vX s 3) 1 (sbd (vX s) (-1) 1) (-1) a (b - a).toNat ((q), u)).1)) (ab_s_same _ 42 _ _) ?_
                  show V 124 [some (.inr (some 37)), some (.inl a), some (.inl b), some (.inl ((s 100 0) - (nt (vX s) a b))), some (.inl (-1)), some (.inl u), some (.inl r)] [.inl ((sh1 (vX s 3) 1 (sbd (vX s) (-1) 1) (-1) a (b - a).toNat ((q), u)).2)] (WW (ab_s s 42 (sh1 (vX s 3) 1 (sbd (vX s) (-1) 1) (-1) a (b - a).toNat ((q), u)).1)) 0 0
                  refine rb_istore hV (L2 := [some (.inr (some 37)), some (.inl a), some (.inl b), some (.inl ((s 100 0) - (nt (vX s) a b))), some (.inl (-1)), some (.inl ((sh1 (vX s 3) 1 (sbd (vX s) (-1) 1) (-1) a (b - a).toNat ((q), u)).2)), some (.inl r)]) dX1_shareOut_124 (Nat.le_of_ble_eq_true rfl) rfl ?_
                  have u1 := sh1_un (kd := vX s 3) (kind := 1) (bound := sbd (vX s) (-1) 1) (t := (-1)) (a := a) (g := q) h9 (b - a).toNat
                  have r1 := sh1_rng (kd := vX s 3) (kind := 1) (bound := sbd (vX s) (-1) 1) (t := (-1)) (a := a) (b := b) (u := u) (by decide) h8 (b - a).toNat
                  refine rb_aload_n hV dX1_shareOut_126 rfl rfl ?_
                  refine rb_iload_n hV dX1_shareOut_127 rfl rfl ?_
                  refine rb_iload_n hV dX1_shareOut_128 rfl rfl ?_
                  refine rb_iload hV dX1_shareOut_129 rfl ?_
                  refine rb_if_le hV (tgt := 138) dX1_shareOut_131 (by decide) (by first | assumption | (unfold ab_r at *; omega)) (fun _ => ?_) (fun z => absurd z (by decide))
                  refine rb_iconst hV dX1_shareOut_138 ?_
                  refine rb_iload hV dX1_shareOut_139 rfl ?_
                  refine rb_iload hV dX1_shareOut_141 rfl ?_
                  refine rb_callV hV (rest := []) dX1_shareOut_143 (c_X1_changeKind_tr (ab_s s 42 (sh1 (vX s 3) 1 (sbd (vX s) (-1) 1) (-1) a (b - a).toNat ((q), u)).1) a b 2 (-1) ((sh1 (vX s 3) 1 (sbd (vX s) (-1) 1) (-1) a (b - a).toNat ((q), u)).2) hp (show 0 ≤ a ∧ a ≤ b ∧ b ≤ s 103 0 by omega) (by decide) (by decide) u1 (fun j j1 j2 => show -1000 ≤ (sh1 (vX s 3) 1 (sbd (vX s) (-1) 1) (-1) a (b - a).toNat (q, u)).1 j ∧ (sh1 (vX s 3) 1 (sbd (vX s) (-1) 1) (-1) a (b - a).toNat (q, u)).1 j ≤ 1000 by have := r1 j j1 j2; omega)) lk_X1_147 rfl (Or.inl ⟨1, _, TX1, 12, gw_37 _, rfl⟩) rfl ⟨rfl, rfl, (Nat.le_of_ble_eq_true rfl), (Nat.le_of_ble_eq_true rfl), (Nat.le_of_ble_eq_true rfl), (Nat.le_of_ble_eq_true rfl)⟩ (Nat.le_of_ble_eq_true rfl) (fun r9 h9 p9 => ?_)
                  obtain ⟨rfl, rfl⟩ := p9
                  refine rb_heq (b := (ab_s s 42 (sh1 (vX s 3) 2 (sbd (vX s) (-1) 2) (-1) a (b - a).toNat ((sh1 (vX s 3) 1 (sbd (vX s) (-1) 1) (-1) a (b - a).toNat ((q), u)).1, ((sh1 (vX s 3) 1 (sbd (vX s) (-1) 1) (-1) a (b - a).toNat ((q), u)).2))).1)) (ab_s_same _ 42 _ _) ?_
                  show V 146 [some (.inr (some 37)), some (.inl a), some (.inl b), some (.inl ((s 100 0) - (nt (vX s) a b))), some (.inl (-1)), some (.inl ((sh1 (vX s 3) 1 (sbd (vX s) (-1) 1) (-1) a (b - a).toNat ((q), u)).2)), some (.inl r)] [.inl ((sh1 (vX s 3) 2 (sbd (vX s) (-1) 2) (-1) a (b - a).toNat ((sh1 (vX s 3) 1 (sbd (vX s) (-1) 1) (-1) a (b - a).toNat ((q), u)).1, ((sh1 (vX s 3) 1 (sbd (vX s) (-1) 1) (-1) a (b - a).toNat ((q), u)).2))).2)] (WW (ab_s s 42 (sh1 (vX s 3) 2 (sbd (vX s) (-1) 2) (-1) a (b - a).toNat ((sh1 (vX s 3) 1 (sbd (vX s) (-1) 1) (-1) a (b - a).toNat ((q), u)).1, ((sh1 (vX s 3) 1 (sbd (vX s) (-1) 1) (-1) a (b - a).toNat ((q), u)).2))).1)) 0 0
                  refine rb_istore hV (L2 := [some (.inr (some 37)), some (.inl a), some (.inl b), some (.inl ((s 100 0) - (nt (vX s) a b))), some (.inl (-1)), some (.inl ((sh1 (vX s 3) 2 (sbd (vX s) (-1) 2) (-1) a (b - a).toNat ((sh1 (vX s 3) 1 (sbd (vX s) (-1) 1) (-1) a (b - a).toNat ((q), u)).1, ((sh1 (vX s 3) 1 (sbd (vX s) (-1) 1) (-1) a (b - a).toNat ((q), u)).2))).2)), some (.inl r)]) dX1_shareOut_146 (Nat.le_of_ble_eq_true rfl) rfl ?_
                  have u2 := sh1_un (kd := vX s 3) (kind := 2) (bound := sbd (vX s) (-1) 2) (t := (-1)) (a := a) (g := (sh1 (vX s 3) 1 (sbd (vX s) (-1) 1) (-1) a (b - a).toNat (q, u)).1) u1 (b - a).toNat
                  have r2 := sh1_rng (kd := vX s 3) (kind := 2) (bound := sbd (vX s) (-1) 2) (t := (-1)) (a := a) (b := b) (u := (sh1 (vX s 3) 1 (sbd (vX s) (-1) 1) (-1) a (b - a).toNat (q, u)).2) (g := (sh1 (vX s 3) 1 (sbd (vX s) (-1) 1) (-1) a (b - a).toNat (q, u)).1) (by decide) r1 (b - a).toNat
                  refine rb_aload_n hV dX1_shareOut_148 rfl rfl ?_
                  refine rb_iload_n hV dX1_shareOut_149 rfl rfl ?_
                  refine rb_iload_n hV dX1_shareOut_150 rfl rfl ?_
                  refine rb_iconst hV dX1_shareOut_151 ?_
                  refine rb_iload hV dX1_shareOut_152 rfl ?_
                  refine rb_iload hV dX1_shareOut_154 rfl ?_
                  refine rb_callV hV (rest := []) dX1_shareOut_156 (c_X1_changeKind_tr (ab_s s 42 (sh1 (vX s 3) 2 (sbd (vX s) (-1) 2) (-1) a (b - a).toNat ((sh1 (vX s 3) 1 (sbd (vX s) (-1) 1) (-1) a (b - a).toNat ((q), u)).1, ((sh1 (vX s 3) 1 (sbd (vX s) (-1) 1) (-1) a (b - a).toNat ((q), u)).2))).1) a b 0 (-1) ((sh1 (vX s 3) 2 (sbd (vX s) (-1) 2) (-1) a (b - a).toNat ((sh1 (vX s 3) 1 (sbd (vX s) (-1) 1) (-1) a (b - a).toNat ((q), u)).1, ((sh1 (vX s 3) 1 (sbd (vX s) (-1) 1) (-1) a (b - a).toNat ((q), u)).2))).2) hp (show 0 ≤ a ∧ a ≤ b ∧ b ≤ s 103 0 by omega) (by decide) (by decide) u2 (fun j j1 j2 => show -1000 ≤ (sh1 (vX s 3) 2 (sbd (vX s) (-1) 2) (-1) a (b - a).toNat ((sh1 (vX s 3) 1 (sbd (vX s) (-1) 1) (-1) a (b - a).toNat (q, u)).1, (sh1 (vX s 3) 1 (sbd (vX s) (-1) 1) (-1) a (b - a).toNat (q, u)).2)).1 j ∧ (sh1 (vX s 3) 2 (sbd (vX s) (-1) 2) (-1) a (b - a).toNat ((sh1 (vX s 3) 1 (sbd (vX s) (-1) 1) (-1) a (b - a).toNat (q, u)).1, (sh1 (vX s 3) 1 (sbd (vX s) (-1) 1) (-1) a (b - a).toNat (q, u)).2)).1 j ≤ 1000 by have := r2 j j1 j2; omega)) lk_X1_147 rfl (Or.inl ⟨1, _, TX1, 12, gw_37 _, rfl⟩) rfl ⟨rfl, rfl, (Nat.le_of_ble_eq_true rfl), (Nat.le_of_ble_eq_true rfl), (Nat.le_of_ble_eq_true rfl), (Nat.le_of_ble_eq_true rfl)⟩ (Nat.le_of_ble_eq_true rfl) (fun r9 h9 p9 => ?_)
                  obtain ⟨rfl, rfl⟩ := p9
                  refine rb_heq (b := (ab_s s 42 (sh1 (vX s 3) 0 (sbd (vX s) (-1) 0) (-1) a (b - a).toNat ((sh1 (vX s 3) 2 (sbd (vX s) (-1) 2) (-1) a (b - a).toNat ((sh1 (vX s 3) 1 (sbd (vX s) (-1) 1) (-1) a (b - a).toNat ((q), u)).1, ((sh1 (vX s 3) 1 (sbd (vX s) (-1) 1) (-1) a (b - a).toNat ((q), u)).2))).1, ((sh1 (vX s 3) 2 (sbd (vX s) (-1) 2) (-1) a (b - a).toNat ((sh1 (vX s 3) 1 (sbd (vX s) (-1) 1) (-1) a (b - a).toNat ((q), u)).1, ((sh1 (vX s 3) 1 (sbd (vX s) (-1) 1) (-1) a (b - a).toNat ((q), u)).2))).2))).1)) (ab_s_same _ 42 _ _) ?_
                  show V 159 [some (.inr (some 37)), some (.inl a), some (.inl b), some (.inl ((s 100 0) - (nt (vX s) a b))), some (.inl (-1)), some (.inl ((sh1 (vX s 3) 2 (sbd (vX s) (-1) 2) (-1) a (b - a).toNat ((sh1 (vX s 3) 1 (sbd (vX s) (-1) 1) (-1) a (b - a).toNat ((q), u)).1, ((sh1 (vX s 3) 1 (sbd (vX s) (-1) 1) (-1) a (b - a).toNat ((q), u)).2))).2)), some (.inl r)] [.inl ((sh1 (vX s 3) 0 (sbd (vX s) (-1) 0) (-1) a (b - a).toNat ((sh1 (vX s 3) 2 (sbd (vX s) (-1) 2) (-1) a (b - a).toNat ((sh1 (vX s 3) 1 (sbd (vX s) (-1) 1) (-1) a (b - a).toNat ((q), u)).1, ((sh1 (vX s 3) 1 (sbd (vX s) (-1) 1) (-1) a (b - a).toNat ((q), u)).2))).1, ((sh1 (vX s 3) 2 (sbd (vX s) (-1) 2) (-1) a (b - a).toNat ((sh1 (vX s 3) 1 (sbd (vX s) (-1) 1) (-1) a (b - a).toNat ((q), u)).1, ((sh1 (vX s 3) 1 (sbd (vX s) (-1) 1) (-1) a (b - a).toNat ((q), u)).2))).2))).2)] (WW (ab_s s 42 (sh1 (vX s 3) 0 (sbd (vX s) (-1) 0) (-1) a (b - a).toNat ((sh1 (vX s 3) 2 (sbd (vX s) (-1) 2) (-1) a (b - a).toNat ((sh1 (vX s 3) 1 (sbd (vX s) (-1) 1) (-1) a (b - a).toNat ((q), u)).1, ((sh1 (vX s 3) 1 (sbd (vX s) (-1) 1) (-1) a (b - a).toNat ((q), u)).2))).1, ((sh1 (vX s 3) 2 (sbd (vX s) (-1) 2) (-1) a (b - a).toNat ((sh1 (vX s 3) 1 (sbd (vX s) (-1) 1) (-1) a (b - a).toNat ((q), u)).1, ((sh1 (vX s 3) 1 (sbd (vX s) (-1) 1) (-1) a (b - a).toNat ((q), u)).2))).2))).1)) 0 0
                  refine rb_istore hV (L2 := [some (.inr (some 37)), some (.inl a), some (.inl b), some (.inl ((s 100 0) - (nt (vX s) a b))), some (.inl (-1)), some (.inl ((sh1 (vX s 3) 0 (sbd (vX s) (-1) 0) (-1) a (b - a).toNat ((sh1 (vX s 3) 2 (sbd (vX s) (-1) 2) (-1) a (b - a).toNat ((sh1 (vX s 3) 1 (sbd (vX s) (-1) 1) (-1) a (b - a).toNat ((q), u)).1, ((sh1 (vX s 3) 1 (sbd (vX s) (-1) 1) (-1) a (b - a).toNat ((q), u)).2))).1, ((sh1 (vX s 3) 2 (sbd (vX s) (-1) 2) (-1) a (b - a).toNat ((sh1 (vX s 3) 1 (sbd (vX s) (-1) 1) (-1) a (b - a).toNat ((q), u)).1, ((sh1 (vX s 3) 1 (sbd (vX s) (-1) 1) (-1) a (b - a).toNat ((q), u)).2))).2))).2)), some (.inl r)]) dX1_shareOut_159 (Nat.le_of_ble_eq_true rfl) rfl ?_
                  refine rb_iinc hV (L2 := [some (.inr (some 37)), some (.inl a), some (.inl b), some (.inl ((s 100 0) - (nt (vX s) a b))), some (.inl (-1)), some (.inl ((sh1 (vX s 3) 0 (sbd (vX s) (-1) 0) (-1) a (b - a).toNat ((sh1 (vX s 3) 2 (sbd (vX s) (-1) 2) (-1) a (b - a).toNat ((sh1 (vX s 3) 1 (sbd (vX s) (-1) 1) (-1) a (b - a).toNat ((q), u)).1, ((sh1 (vX s 3) 1 (sbd (vX s) (-1) 1) (-1) a (b - a).toNat ((q), u)).2))).1, ((sh1 (vX s 3) 2 (sbd (vX s) (-1) 2) (-1) a (b - a).toNat ((sh1 (vX s 3) 1 (sbd (vX s) (-1) 1) (-1) a (b - a).toNat ((q), u)).1, ((sh1 (vX s 3) 1 (sbd (vX s) (-1) 1) (-1) a (b - a).toNat ((q), u)).2))).2))).2)), some (.inl (r + 1))]) dX1_shareOut_161 rfl rfl rfl ?_
                  refine rb_goto hV (tgt := 92) dX1_shareOut_164 (by decide) ?_
                  refine ih92 (r + 1) ((sh1 (vX s 3) 0 (sbd (vX s) (-1) 0) (-1) a (b - a).toNat ((sh1 (vX s 3) 2 (sbd (vX s) (-1) 2) (-1) a (b - a).toNat ((sh1 (vX s 3) 1 (sbd (vX s) (-1) 1) (-1) a (b - a).toNat ((q), u)).1, ((sh1 (vX s 3) 1 (sbd (vX s) (-1) 1) (-1) a (b - a).toNat ((q), u)).2))).1, ((sh1 (vX s 3) 2 (sbd (vX s) (-1) 2) (-1) a (b - a).toNat ((sh1 (vX s 3) 1 (sbd (vX s) (-1) 1) (-1) a (b - a).toNat ((q), u)).1, ((sh1 (vX s 3) 1 (sbd (vX s) (-1) 1) (-1) a (b - a).toNat ((q), u)).2))).2))).2) ((sh1 (vX s 3) 0 (sbd (vX s) (-1) 0) (-1) a (b - a).toNat ((sh1 (vX s 3) 2 (sbd (vX s) (-1) 2) (-1) a (b - a).toNat ((sh1 (vX s 3) 1 (sbd (vX s) (-1) 1) (-1) a (b - a).toNat ((q), u)).1, ((sh1 (vX s 3) 1 (sbd (vX s) (-1) 1) (-1) a (b - a).toNat ((q), u)).2))).1, ((sh1 (vX s 3) 2 (sbd (vX s) (-1) 2) (-1) a (b - a).toNat ((sh1 (vX s 3) 1 (sbd (vX s) (-1) 1) (-1) a (b - a).toNat ((q), u)).1, ((sh1 (vX s 3) 1 (sbd (vX s) (-1) 1) (-1) a (b - a).toNat ((q), u)).2))).2))).1) ?_ ?_ ?_ ?_ ?_ ?_
                  · omega
                  · exact rnd_agr_s (d := vX s) (t := (-1)) h.2.1 h5.1 h6
                  · exact sh1_out h.2.1 (sh1_out h.2.1 (sh1_out h.2.1 h7))
                  · exact fun j j1 j2 => by have := sh1_rng (kd := vX s 3) (kind := 0) (bound := sbd (vX s) (-1) 0) (t := (-1)) (a := a) (b := b) (u := (sh1 (vX s 3) 2 (sbd (vX s) (-1) 2) (-1) a (b - a).toNat ((sh1 (vX s 3) 1 (sbd (vX s) (-1) 1) (-1) a (b - a).toNat (q, u)).1, (sh1 (vX s 3) 1 (sbd (vX s) (-1) 1) (-1) a (b - a).toNat (q, u)).2)).2) (g := (sh1 (vX s 3) 2 (sbd (vX s) (-1) 2) (-1) a (b - a).toNat ((sh1 (vX s 3) 1 (sbd (vX s) (-1) 1) (-1) a (b - a).toNat (q, u)).1, (sh1 (vX s 3) 1 (sbd (vX s) (-1) 1) (-1) a (b - a).toNat (q, u)).2)).1) (by decide) r2 (b - a).toNat j j1 j2; omega
                  · exact sh1_un (kd := vX s 3) (sh1_un (kd := vX s 3) (sh1_un (kd := vX s 3) h9 _) _) _
                  · omega
          refine h92 _ 0 (if 0 ≤ ((s 100 0) - (nt (vX s) a b)) then ((s 100 0) - (nt (vX s) a b)) else -((s 100 0) - (nt (vX s) a b))) (g) ?_ ?_ ?_ ?_ ?_ (Nat.lt_succ_self _)
          · omega
          · exact ⟨rfl, fun j j1 j2 => h2 j j1 (by omega)⟩
          · exact fun j hj => h3 j (by omega)
          · exact fun j j1 j2 => by have := kd_b hp (w := j) (by omega) (show j < s 103 0 by omega); rw [h2 j j1 (by omega)]; unfold na0; omega
          · split <;> omega
        · refine rb_aload_n hV dX1_shareOut_60 rfl rfl ?_
          refine rb_get hV (v := .inr (some 11)) dX1_shareOut_61 ⟨RX1, TX1, 12, rfl, (Nat.le_of_ble_eq_true rfl), lf_X1_19⟩ (gw_37 _) rfl ?_
          refine rb_iload_n hV dX1_shareOut_64 rfl rfl ?_
          refine rb_callV hV (rest := []) dX1_shareOut_65 (c_X2_isEnd (ab_s s 42 g) b (by unfold ab_r; omega) (show 0 ≤ (s 103 0) ∧ (s 103 0) ≤ 60 by omega)) lk_X1_139 rfl (Or.inl ⟨2, _, TX2, 8, gw_11 _, rfl⟩) rfl ⟨rfl, rfl, (Nat.le_of_ble_eq_true rfl), (Nat.le_of_ble_eq_true rfl), (Nat.le_of_ble_eq_true rfl), (Nat.le_of_ble_eq_true rfl)⟩ (Nat.le_of_ble_eq_true rfl) (fun r9 h9 p9 => ?_)
          obtain ⟨rfl, rfl⟩ := p9
          show V 68 [some (.inr (some 37)), some (.inl a), some (.inl b), some (.inl ((s 100 0) - (nt (vX s) a b))), none, none, none] [.inl (if b = s 103 0 - 1 then 1 else 0)] (WW (ab_s s 42 g)) 0 0
          by_cases e65 : b = s 103 0 - 1
          · rw [if_pos e65]
            show V 68 [some (.inr (some 37)), some (.inl a), some (.inl b), some (.inl ((s 100 0) - (nt (vX s) a b))), none, none, none] [.inl 1] (WW (ab_s s 42 g)) 0 0
            refine rb_if_eq hV (tgt := 72) dX1_shareOut_68 (by decide) (by first | assumption | (unfold ab_r at *; omega)) (fun z => absurd z (by decide)) (fun _ => ?_)
            refine rb_ret hV (r := none) dX1_shareOut_71 rfl ⟨(Nat.le_of_ble_eq_true rfl), (Nat.le_of_ble_eq_true rfl)⟩ trivial ?_
            exact ⟨rfl, g, rfl, fun j j1 j2 => by rw [h2 j j1 (by omega)]; rw [swF_last (by show 0 < df (vX s) a b ∧ b = s 103 0 - 1; omega)], fun j hj => h3 j (by omega)⟩
          · rw [if_neg e65]
            show V 68 [some (.inr (some 37)), some (.inl a), some (.inl b), some (.inl ((s 100 0) - (nt (vX s) a b))), none, none, none] [.inl 0] (WW (ab_s s 42 g)) 0 0
            refine rb_if_eq hV (tgt := 72) dX1_shareOut_68 (by decide) (by first | assumption | (unfold ab_r at *; omega)) (fun _ => ?_) (fun z => absurd z (by decide))
            refine rb_iload_n hV dX1_shareOut_72 rfl rfl ?_
            refine rb_if_le hV (tgt := 80) dX1_shareOut_73 (by decide) (by first | assumption | (unfold ab_r at *; omega)) (fun c73 => absurd c73 (by omega)) (fun c73 => ?_)
            refine rb_iconst hV dX1_shareOut_76 ?_
            refine rb_goto hV (tgt := 81) dX1_shareOut_77 (by decide) ?_
            refine rb_istore hV (L2 := [some (.inr (some 37)), some (.inl a), some (.inl b), some (.inl ((s 100 0) - (nt (vX s) a b))), some (.inl 1), none, none]) dX1_shareOut_81 (Nat.le_of_ble_eq_true rfl) rfl ?_
            refine rb_iload_n hV dX1_shareOut_83 rfl rfl ?_
            refine rb_mabs hV dX1_shareOut_84 lk_X1_142 (by first | assumption | (unfold ab_r at *; omega)) (Nat.le_of_ble_eq_true rfl) (Nat.le_of_ble_eq_true rfl) ⟨(Nat.le_of_ble_eq_true rfl), (Nat.le_of_ble_eq_true rfl)⟩ ?_
            refine rb_istore hV (L2 := [some (.inr (some 37)), some (.inl a), some (.inl b), some (.inl ((s 100 0) - (nt (vX s) a b))), some (.inl 1), some (.inl (if 0 ≤ ((s 100 0) - (nt (vX s) a b)) then ((s 100 0) - (nt (vX s) a b)) else -((s 100 0) - (nt (vX s) a b)))), none]) dX1_shareOut_87 (Nat.le_of_ble_eq_true rfl) rfl ?_
            refine rb_iconst hV dX1_shareOut_89 ?_
            refine rb_istore hV (L2 := [some (.inr (some 37)), some (.inl a), some (.inl b), some (.inl ((s 100 0) - (nt (vX s) a b))), some (.inl 1), some (.inl (if 0 ≤ ((s 100 0) - (nt (vX s) a b)) then ((s 100 0) - (nt (vX s) a b)) else -((s 100 0) - (nt (vX s) a b)))), some (.inl 0)]) dX1_shareOut_90 (Nat.le_of_ble_eq_true rfl) rfl ?_
            have h92 : ∀ (n92 : Nat) (r : Int) (u : Int) (q : Int → Int), (0 ≤ r ∧ r ≤ 40) → (agr a b (q, u) (rnds (vX s) 1 a b r.toNat (na0 (vX s), sun (vX s) a b))) → (∀ j, ¬ (a ≤ j ∧ j < b) → q j = s 42 j) → (∀ j, a ≤ j → j < b → -3 * r ≤ q j ∧ q j ≤ 40 + 3 * r) → (0 ≤ u ∧ u ≤ 100000) → ((40 - r).toNat) < n92 → V 92 [some (.inr (some 37)), some (.inl a), some (.inl b), some (.inl ((s 100 0) - (nt (vX s) a b))), some (.inl 1), some (.inl u), some (.inl r)] [] (WW (ab_s s 42 q)) 0 0 := by
              intro n92
              induction n92 with
              | zero => intro r u q h5 h6 h7 h8 h9 hm; omega
              | succ n92 ih92 =>
                intro r u q h5 h6 h7 h8 h9 hm
                refine rb_iload hV dX1_shareOut_92 rfl ?_
                refine rb_bipush hV dX1_shareOut_94 (by decide) ?_
                refine rb_icmp_ge hV (tgt := 167) dX1_shareOut_96 (by decide) ⟨(by first | assumption | (unfold ab_r at *; omega)), (by first | assumption | (unfold ab_r at *; omega))⟩ (fun c96 => ?_) (fun c96 => ?_)
                · refine rb_ret hV (r := none) dX1_shareOut_167 rfl ⟨(Nat.le_of_ble_eq_true rfl), (Nat.le_of_ble_eq_true rfl)⟩ trivial ?_
                  refine ⟨rfl, q, rfl, fun j j1 j2 => ?_, h7⟩
                  refine (h6.2 j j1 j2).trans ?_
                  rw [swF_sh (by show ¬ (0 < df (vX s) a b ∧ b = s 103 0 - 1); omega), show sby (vX s) a b = 1 by unfold sby; rw [if_pos (by omega)]]
                  first
                  | (have e : r = 40 := by omega
                     subst e
                     rfl)
                  | (rw [rnds_end h5.1 h5.2 (by rw [← h6.1]; omega)])
                · refine rb_iload hV dX1_shareOut_99 rfl ?_
                  refine rb_if_le hV (tgt := 167) dX1_shareOut_101 (by decide) (by first | assumption | (unfold ab_r at *; omega)) (fun c101 => ?_) (fun c101 => ?_)
                  · refine rb_ret hV (r := none) dX1_shareOut_167 rfl ⟨(Nat.le_of_ble_eq_true rfl), (Nat.le_of_ble_eq_true rfl)⟩ trivial ?_
                    refine ⟨rfl, q, rfl, fun j j1 j2 => ?_, h7⟩
                    refine (h6.2 j j1 j2).trans ?_
                    rw [swF_sh (by show ¬ (0 < df (vX s) a b ∧ b = s 103 0 - 1); omega), show sby (vX s) a b = 1 by unfold sby; rw [if_pos (by omega)]]
                    first
                    | (have e : r = 40 := by omega
                       subst e
                       rfl)
                    | (rw [rnds_end h5.1 h5.2 (by rw [← h6.1]; omega)])
                  · have r0 : ∀ j, a ≤ j → j < b → -1000 ≤ q j ∧ q j ≤ 1000 := fun j j1 j2 => by have := h8 j j1 j2; omega
                    refine rb_aload_n hV dX1_shareOut_104 rfl rfl ?_
                    refine rb_iload_n hV dX1_shareOut_105 rfl rfl ?_
                    refine rb_iload_n hV dX1_shareOut_106 rfl rfl ?_
                    refine rb_iload hV dX1_shareOut_107 rfl ?_
                    refine rb_if_le hV (tgt := 116) dX1_shareOut_109 (by decide) (by first | assumption | (unfold ab_r at *; omega)) (fun z => absurd z (by decide)) (fun _ => ?_)
                    refine rb_iconst hV dX1_shareOut_112 ?_
                    refine rb_goto hV (tgt := 117) dX1_shareOut_113 (by decide) ?_
                    refine rb_iload hV dX1_shareOut_117 rfl ?_
                    refine rb_iload hV dX1_shareOut_119 rfl ?_
                    refine rb_callV hV (rest := []) dX1_shareOut_121 (c_X1_changeKind_tr (ab_s s 42 q) a b 2 1 u hp (show 0 ≤ a ∧ a ≤ b ∧ b ≤ s 103 0 by omega) (by decide) (by decide) h9 r0) lk_X1_147 rfl (Or.inl ⟨1, _, TX1, 12, gw_37 _, rfl⟩) rfl ⟨rfl, rfl, (Nat.le_of_ble_eq_true rfl), (Nat.le_of_ble_eq_true rfl), (Nat.le_of_ble_eq_true rfl), (Nat.le_of_ble_eq_true rfl)⟩ (Nat.le_of_ble_eq_true rfl) (fun r9 h9 p9 => ?_)
                    obtain ⟨rfl, rfl⟩ := p9
                    refine rb_heq (b := (ab_s s 42 (sh1 (vX s 3) 2 (sbd (vX s) 1 2) 1 a (b - a).toNat ((q), u)).1)) (ab_s_same _ 42 _ _) ?_
                    show V 124 [some (.inr (some 37)), some (.inl a), some (.inl b), some (.inl ((s 100 0) - (nt (vX s) a b))), some (.inl 1), some (.inl u), some (.inl r)] [.inl ((sh1 (vX s 3) 2 (sbd (vX s) 1 2) 1 a (b - a).toNat ((q), u)).2)] (WW (ab_s s 42 (sh1 (vX s 3) 2 (sbd (vX s) 1 2) 1 a (b - a).toNat ((q), u)).1)) 0 0
                    refine rb_istore hV (L2 := [some (.inr (some 37)), some (.inl a), some (.inl b), some (.inl ((s 100 0) - (nt (vX s) a b))), some (.inl 1), some (.inl ((sh1 (vX s 3) 2 (sbd (vX s) 1 2) 1 a (b - a).toNat ((q), u)).2)), some (.inl r)]) dX1_shareOut_124 (Nat.le_of_ble_eq_true rfl) rfl ?_
                    have u1 := sh1_un (kd := vX s 3) (kind := 2) (bound := sbd (vX s) 1 2) (t := 1) (a := a) (g := q) h9 (b - a).toNat
                    have r1 := sh1_rng (kd := vX s 3) (kind := 2) (bound := sbd (vX s) 1 2) (t := 1) (a := a) (b := b) (u := u) (by decide) h8 (b - a).toNat
                    refine rb_aload_n hV dX1_shareOut_126 rfl rfl ?_
                    refine rb_iload_n hV dX1_shareOut_127 rfl rfl ?_
                    refine rb_iload_n hV dX1_shareOut_128 rfl rfl ?_
                    refine rb_iload hV dX1_shareOut_129 rfl ?_
                    refine rb_if_le hV (tgt := 138) dX1_shareOut_131 (by decide) (by first | assumption | (unfold ab_r at *; omega)) (fun z => absurd z (by decide)) (fun _ => ?_)
                    refine rb_iconst hV dX1_shareOut_134 ?_
                    refine rb_goto hV (tgt := 139) dX1_shareOut_135 (by decide) ?_
                    refine rb_iload hV dX1_shareOut_139 rfl ?_
                    refine rb_iload hV dX1_shareOut_141 rfl ?_
                    refine rb_callV hV (rest := []) dX1_shareOut_143 (c_X1_changeKind_tr (ab_s s 42 (sh1 (vX s 3) 2 (sbd (vX s) 1 2) 1 a (b - a).toNat ((q), u)).1) a b 1 1 ((sh1 (vX s 3) 2 (sbd (vX s) 1 2) 1 a (b - a).toNat ((q), u)).2) hp (show 0 ≤ a ∧ a ≤ b ∧ b ≤ s 103 0 by omega) (by decide) (by decide) u1 (fun j j1 j2 => show -1000 ≤ (sh1 (vX s 3) 2 (sbd (vX s) 1 2) 1 a (b - a).toNat (q, u)).1 j ∧ (sh1 (vX s 3) 2 (sbd (vX s) 1 2) 1 a (b - a).toNat (q, u)).1 j ≤ 1000 by have := r1 j j1 j2; omega)) lk_X1_147 rfl (Or.inl ⟨1, _, TX1, 12, gw_37 _, rfl⟩) rfl ⟨rfl, rfl, (Nat.le_of_ble_eq_true rfl), (Nat.le_of_ble_eq_true rfl), (Nat.le_of_ble_eq_true rfl), (Nat.le_of_ble_eq_true rfl)⟩ (Nat.le_of_ble_eq_true rfl) (fun r9 h9 p9 => ?_)
                    obtain ⟨rfl, rfl⟩ := p9
                    refine rb_heq (b := (ab_s s 42 (sh1 (vX s 3) 1 (sbd (vX s) 1 1) 1 a (b - a).toNat ((sh1 (vX s 3) 2 (sbd (vX s) 1 2) 1 a (b - a).toNat ((q), u)).1, ((sh1 (vX s 3) 2 (sbd (vX s) 1 2) 1 a (b - a).toNat ((q), u)).2))).1)) (ab_s_same _ 42 _ _) ?_
                    show V 146 [some (.inr (some 37)), some (.inl a), some (.inl b), some (.inl ((s 100 0) - (nt (vX s) a b))), some (.inl 1), some (.inl ((sh1 (vX s 3) 2 (sbd (vX s) 1 2) 1 a (b - a).toNat ((q), u)).2)), some (.inl r)] [.inl ((sh1 (vX s 3) 1 (sbd (vX s) 1 1) 1 a (b - a).toNat ((sh1 (vX s 3) 2 (sbd (vX s) 1 2) 1 a (b - a).toNat ((q), u)).1, ((sh1 (vX s 3) 2 (sbd (vX s) 1 2) 1 a (b - a).toNat ((q), u)).2))).2)] (WW (ab_s s 42 (sh1 (vX s 3) 1 (sbd (vX s) 1 1) 1 a (b - a).toNat ((sh1 (vX s 3) 2 (sbd (vX s) 1 2) 1 a (b - a).toNat ((q), u)).1, ((sh1 (vX s 3) 2 (sbd (vX s) 1 2) 1 a (b - a).toNat ((q), u)).2))).1)) 0 0
                    refine rb_istore hV (L2 := [some (.inr (some 37)), some (.inl a), some (.inl b), some (.inl ((s 100 0) - (nt (vX s) a b))), some (.inl 1), some (.inl ((sh1 (vX s 3) 1 (sbd (vX s) 1 1) 1 a (b - a).toNat ((sh1 (vX s 3) 2 (sbd (vX s) 1 2) 1 a (b - a).toNat ((q), u)).1, ((sh1 (vX s 3) 2 (sbd (vX s) 1 2) 1 a (b - a).toNat ((q), u)).2))).2)), some (.inl r)]) dX1_shareOut_146 (Nat.le_of_ble_eq_true rfl) rfl ?_
                    have u2 := sh1_un (kd := vX s 3) (kind := 1) (bound := sbd (vX s) 1 1) (t := 1) (a := a) (g := (sh1 (vX s 3) 2 (sbd (vX s) 1 2) 1 a (b - a).toNat (q, u)).1) u1 (b - a).toNat
                    have r2 := sh1_rng (kd := vX s 3) (kind := 1) (bound := sbd (vX s) 1 1) (t := 1) (a := a) (b := b) (u := (sh1 (vX s 3) 2 (sbd (vX s) 1 2) 1 a (b - a).toNat (q, u)).2) (g := (sh1 (vX s 3) 2 (sbd (vX s) 1 2) 1 a (b - a).toNat (q, u)).1) (by decide) r1 (b - a).toNat
                    refine rb_aload_n hV dX1_shareOut_148 rfl rfl ?_
                    refine rb_iload_n hV dX1_shareOut_149 rfl rfl ?_
                    refine rb_iload_n hV dX1_shareOut_150 rfl rfl ?_
                    refine rb_iconst hV dX1_shareOut_151 ?_
                    refine rb_iload hV dX1_shareOut_152 rfl ?_
                    refine rb_iload hV dX1_shareOut_154 rfl ?_
                    refine rb_callV hV (rest := []) dX1_shareOut_156 (c_X1_changeKind_tr (ab_s s 42 (sh1 (vX s 3) 1 (sbd (vX s) 1 1) 1 a (b - a).toNat ((sh1 (vX s 3) 2 (sbd (vX s) 1 2) 1 a (b - a).toNat ((q), u)).1, ((sh1 (vX s 3) 2 (sbd (vX s) 1 2) 1 a (b - a).toNat ((q), u)).2))).1) a b 0 1 ((sh1 (vX s 3) 1 (sbd (vX s) 1 1) 1 a (b - a).toNat ((sh1 (vX s 3) 2 (sbd (vX s) 1 2) 1 a (b - a).toNat ((q), u)).1, ((sh1 (vX s 3) 2 (sbd (vX s) 1 2) 1 a (b - a).toNat ((q), u)).2))).2) hp (show 0 ≤ a ∧ a ≤ b ∧ b ≤ s 103 0 by omega) (by decide) (by decide) u2 (fun j j1 j2 => show -1000 ≤ (sh1 (vX s 3) 1 (sbd (vX s) 1 1) 1 a (b - a).toNat ((sh1 (vX s 3) 2 (sbd (vX s) 1 2) 1 a (b - a).toNat (q, u)).1, (sh1 (vX s 3) 2 (sbd (vX s) 1 2) 1 a (b - a).toNat (q, u)).2)).1 j ∧ (sh1 (vX s 3) 1 (sbd (vX s) 1 1) 1 a (b - a).toNat ((sh1 (vX s 3) 2 (sbd (vX s) 1 2) 1 a (b - a).toNat (q, u)).1, (sh1 (vX s 3) 2 (sbd (vX s) 1 2) 1 a (b - a).toNat (q, u)).2)).1 j ≤ 1000 by have := r2 j j1 j2; omega)) lk_X1_147 rfl (Or.inl ⟨1, _, TX1, 12, gw_37 _, rfl⟩) rfl ⟨rfl, rfl, (Nat.le_of_ble_eq_true rfl), (Nat.le_of_ble_eq_true rfl), (Nat.le_of_ble_eq_true rfl), (Nat.le_of_ble_eq_true rfl)⟩ (Nat.le_of_ble_eq_true rfl) (fun r9 h9 p9 => ?_)
                    obtain ⟨rfl, rfl⟩ := p9
                    refine rb_heq (b := (ab_s s 42 (sh1 (vX s 3) 0 (sbd (vX s) 1 0) 1 a (b - a).toNat ((sh1 (vX s 3) 1 (sbd (vX s) 1 1) 1 a (b - a).toNat ((sh1 (vX s 3) 2 (sbd (vX s) 1 2) 1 a (b - a).toNat ((q), u)).1, ((sh1 (vX s 3) 2 (sbd (vX s) 1 2) 1 a (b - a).toNat ((q), u)).2))).1, ((sh1 (vX s 3) 1 (sbd (vX s) 1 1) 1 a (b - a).toNat ((sh1 (vX s 3) 2 (sbd (vX s) 1 2) 1 a (b - a).toNat ((q), u)).1, ((sh1 (vX s 3) 2 (sbd (vX s) 1 2) 1 a (b - a).toNat ((q), u)).2))).2))).1)) (ab_s_same _ 42 _ _) ?_
                    show V 159 [some (.inr (some 37)), some (.inl a), some (.inl b), some (.inl ((s 100 0) - (nt (vX s) a b))), some (.inl 1), some (.inl ((sh1 (vX s 3) 1 (sbd (vX s) 1 1) 1 a (b - a).toNat ((sh1 (vX s 3) 2 (sbd (vX s) 1 2) 1 a (b - a).toNat ((q), u)).1, ((sh1 (vX s 3) 2 (sbd (vX s) 1 2) 1 a (b - a).toNat ((q), u)).2))).2)), some (.inl r)] [.inl ((sh1 (vX s 3) 0 (sbd (vX s) 1 0) 1 a (b - a).toNat ((sh1 (vX s 3) 1 (sbd (vX s) 1 1) 1 a (b - a).toNat ((sh1 (vX s 3) 2 (sbd (vX s) 1 2) 1 a (b - a).toNat ((q), u)).1, ((sh1 (vX s 3) 2 (sbd (vX s) 1 2) 1 a (b - a).toNat ((q), u)).2))).1, ((sh1 (vX s 3) 1 (sbd (vX s) 1 1) 1 a (b - a).toNat ((sh1 (vX s 3) 2 (sbd (vX s) 1 2) 1 a (b - a).toNat ((q), u)).1, ((sh1 (vX s 3) 2 (sbd (vX s) 1 2) 1 a (b - a).toNat ((q), u)).2))).2))).2)] (WW (ab_s s 42 (sh1 (vX s 3) 0 (sbd (vX s) 1 0) 1 a (b - a).toNat ((sh1 (vX s 3) 1 (sbd (vX s) 1 1) 1 a (b - a).toNat ((sh1 (vX s 3) 2 (sbd (vX s) 1 2) 1 a (b - a).toNat ((q), u)).1, ((sh1 (vX s 3) 2 (sbd (vX s) 1 2) 1 a (b - a).toNat ((q), u)).2))).1, ((sh1 (vX s 3) 1 (sbd (vX s) 1 1) 1 a (b - a).toNat ((sh1 (vX s 3) 2 (sbd (vX s) 1 2) 1 a (b - a).toNat ((q), u)).1, ((sh1 (vX s 3) 2 (sbd (vX s) 1 2) 1 a (b - a).toNat ((q), u)).2))).2))).1)) 0 0
                    refine rb_istore hV (L2 := [some (.inr (some 37)), some (.inl a), some (.inl b), some (.inl ((s 100 0) - (nt (vX s) a b))), some (.inl 1), some (.inl ((sh1 (vX s 3) 0 (sbd (vX s) 1 0) 1 a (b - a).toNat ((sh1 (vX s 3) 1 (sbd (vX s) 1 1) 1 a (b - a).toNat ((sh1 (vX s 3) 2 (sbd (vX s) 1 2) 1 a (b - a).toNat ((q), u)).1, ((sh1 (vX s 3) 2 (sbd (vX s) 1 2) 1 a (b - a).toNat ((q), u)).2))).1, ((sh1 (vX s 3) 1 (sbd (vX s) 1 1) 1 a (b - a).toNat ((sh1 (vX s 3) 2 (sbd (vX s) 1 2) 1 a (b - a).toNat ((q), u)).1, ((sh1 (vX s 3) 2 (sbd (vX s) 1 2) 1 a (b - a).toNat ((q), u)).2))).2))).2)), some (.inl r)]) dX1_shareOut_159 (Nat.le_of_ble_eq_true rfl) rfl ?_
                    refine rb_iinc hV (L2 := [some (.inr (some 37)), some (.inl a), some (.inl b), some (.inl ((s 100 0) - (nt (vX s) a b))), some (.inl 1), some (.inl ((sh1 (vX s 3) 0 (sbd (vX s) 1 0) 1 a (b - a).toNat ((sh1 (vX s 3) 1 (sbd (vX s) 1 1) 1 a (b - a).toNat ((sh1 (vX s 3) 2 (sbd (vX s) 1 2) 1 a (b - a).toNat ((q), u)).1, ((sh1 (vX s 3) 2 (sbd (vX s) 1 2) 1 a (b - a).toNat ((q), u)).2))).1, ((sh1 (vX s 3) 1 (sbd (vX s) 1 1) 1 a (b - a).toNat ((sh1 (vX s 3) 2 (sbd (vX s) 1 2) 1 a (b - a).toNat ((q), u)).1, ((sh1 (vX s 3) 2 (sbd (vX s) 1 2) 1 a (b - a).toNat ((q), u)).2))).2))).2)), some (.inl (r + 1))]) dX1_shareOut_161 rfl rfl rfl ?_
                    refine rb_goto hV (tgt := 92) dX1_shareOut_164 (by decide) ?_
                    refine ih92 (r + 1) ((sh1 (vX s 3) 0 (sbd (vX s) 1 0) 1 a (b - a).toNat ((sh1 (vX s 3) 1 (sbd (vX s) 1 1) 1 a (b - a).toNat ((sh1 (vX s 3) 2 (sbd (vX s) 1 2) 1 a (b - a).toNat ((q), u)).1, ((sh1 (vX s 3) 2 (sbd (vX s) 1 2) 1 a (b - a).toNat ((q), u)).2))).1, ((sh1 (vX s 3) 1 (sbd (vX s) 1 1) 1 a (b - a).toNat ((sh1 (vX s 3) 2 (sbd (vX s) 1 2) 1 a (b - a).toNat ((q), u)).1, ((sh1 (vX s 3) 2 (sbd (vX s) 1 2) 1 a (b - a).toNat ((q), u)).2))).2))).2) ((sh1 (vX s 3) 0 (sbd (vX s) 1 0) 1 a (b - a).toNat ((sh1 (vX s 3) 1 (sbd (vX s) 1 1) 1 a (b - a).toNat ((sh1 (vX s 3) 2 (sbd (vX s) 1 2) 1 a (b - a).toNat ((q), u)).1, ((sh1 (vX s 3) 2 (sbd (vX s) 1 2) 1 a (b - a).toNat ((q), u)).2))).1, ((sh1 (vX s 3) 1 (sbd (vX s) 1 1) 1 a (b - a).toNat ((sh1 (vX s 3) 2 (sbd (vX s) 1 2) 1 a (b - a).toNat ((q), u)).1, ((sh1 (vX s 3) 2 (sbd (vX s) 1 2) 1 a (b - a).toNat ((q), u)).2))).2))).1) ?_ ?_ ?_ ?_ ?_ ?_
                    · omega
                    · exact rnd_agr_s (d := vX s) (t := 1) h.2.1 h5.1 h6
                    · exact sh1_out h.2.1 (sh1_out h.2.1 (sh1_out h.2.1 h7))
                    · exact fun j j1 j2 => by have := sh1_rng (kd := vX s 3) (kind := 0) (bound := sbd (vX s) 1 0) (t := 1) (a := a) (b := b) (u := (sh1 (vX s 3) 1 (sbd (vX s) 1 1) 1 a (b - a).toNat ((sh1 (vX s 3) 2 (sbd (vX s) 1 2) 1 a (b - a).toNat (q, u)).1, (sh1 (vX s 3) 2 (sbd (vX s) 1 2) 1 a (b - a).toNat (q, u)).2)).2) (g := (sh1 (vX s 3) 1 (sbd (vX s) 1 1) 1 a (b - a).toNat ((sh1 (vX s 3) 2 (sbd (vX s) 1 2) 1 a (b - a).toNat (q, u)).1, (sh1 (vX s 3) 2 (sbd (vX s) 1 2) 1 a (b - a).toNat (q, u)).2)).1) (by decide) r2 (b - a).toNat j j1 j2; omega
                    · exact sh1_un (kd := vX s 3) (sh1_un (kd := vX s 3) (sh1_un (kd := vX s 3) h9 _) _) _
                    · omega
            refine h92 _ 0 (if 0 ≤ ((s 100 0) - (nt (vX s) a b)) then ((s 100 0) - (nt (vX s) a b)) else -((s 100 0) - (nt (vX s) a b))) (g) ?_ ?_ ?_ ?_ ?_ (Nat.lt_succ_self _)
            · omega
            · exact ⟨rfl, fun j j1 j2 => h2 j j1 (by omega)⟩
            · exact fun j hj => h3 j (by omega)
            · exact fun j j1 j2 => by have := kd_b hp (w := j) (by omega) (show j < s 103 0 by omega); rw [h2 j j1 (by omega)]; unfold na0; omega
            · split <;> omega
      · have hk8 := (hp.2.1 w (by omega) (show w < s 103 0 by omega)).2.2.1
        have hk8b : 0 ≤ s 8 w ∧ s 8 w ≤ 2 := hk8
        refine rb_aload_n hV dX1_shareOut_7 rfl rfl ?_
        refine rb_get hV (v := .inr (some 42)) dX1_shareOut_8 ⟨RX1, TX1, 12, rfl, (Nat.le_of_ble_eq_true rfl), lf_X1_47⟩ (gw_37 _) rfl ?_
        refine rb_iload_n hV dX1_shareOut_11 rfl rfl ?_
        refine rb_aload_n hV dX1_shareOut_12 rfl rfl ?_
        refine rb_get hV (v := .inr (some 1)) dX1_shareOut_13 ⟨RX1, TX1, 12, rfl, (Nat.le_of_ble_eq_true rfl), lf_X1_15⟩ (gw_37 _) rfl ?_
        refine rb_get hV (v := .inr (some 3)) dX1_shareOut_16 ⟨RX6, TX6, 6, rfl, (Nat.le_of_ble_eq_true rfl), lf_X1_127⟩ (gw_1 _) rfl ?_
        refine rb_aload_n hV dX1_shareOut_19 rfl rfl ?_
        refine rb_get hV (v := .inr (some 5)) dX1_shareOut_20 ⟨RX1, TX1, 12, rfl, (Nat.le_of_ble_eq_true rfl), lf_X1_9⟩ (gw_37 _) rfl ?_
        refine rb_get hV (v := .inr (some 8)) dX1_shareOut_23 ⟨RX4, TX4, 6, rfl, (Nat.le_of_ble_eq_true rfl), lf_X1_130⟩ (gw_5 _) rfl ?_
        refine rb_iload_n hV dX1_shareOut_26 rfl rfl ?_
        refine rb_iald hV (f := (s 8)) dX1_shareOut_27 (gw_8 _) (Nat.le_of_ble_eq_true rfl) (by omega) ?_
        refine rb_callS hV (rest := [.inl w, .inr (some 42)]) dX1_shareOut_28 (c_X9_at (ab_s s 42 g) 3 _ (s 3) (s 8 w) (gw_3 _) (Nat.le_of_ble_eq_true rfl) (by omega)) lk_X1_61 rfl rfl ⟨rfl, rfl, (Nat.le_of_ble_eq_true rfl), (Nat.le_of_ble_eq_true rfl), (Nat.le_of_ble_eq_true rfl), (Nat.le_of_ble_eq_true rfl)⟩ (Nat.le_of_ble_eq_true rfl) (fun r9 h9 p9 => ?_)
        obtain ⟨rfl, rfl⟩ := p9
        show V 31 [some (.inr (some 37)), some (.inl a), some (.inl b), some (.inl w), none, none, none] [.inl (s 3 (s 8 w)), .inl w, .inr (some 42)] (WW (ab_s s 42 g)) 0 0
        refine rb_iast hV (f := (g)) dX1_shareOut_31 (gw_42 _) (Nat.le_of_ble_eq_true rfl) (by omega) rfl ((pw_42 _ _).trans (congrArg WW (ab_s_same _ 42 _ _))) ?_
        refine rb_iinc hV (L2 := [some (.inr (some 37)), some (.inl a), some (.inl b), some (.inl (w + 1)), none, none, none]) dX1_shareOut_32 rfl rfl rfl ?_
        refine rb_goto hV (tgt := 2) dX1_shareOut_35 (by decide) ?_
        refine ih2 (w + 1) (ab_u (g) w (s 3 (s 8 w))) ?_ ?_ ?_ ?_
        · omega
        · intro j j1 j2
          by_cases hj : j = w
          · subst hj
            rw [ab_u_eq]
            rfl
          · rw [ab_u_ne hj]
            exact h2 j j1 (by omega)
        · intro j hj
          rw [ab_u_ne (by omega)]
          exact h3 j (by omega)
        · omega
  refine h2 _ a (s 42) ?_ ?_ ?_ (Nat.lt_succ_self _)
  · omega
  · exact fun j j1 j2 => absurd j2 (by omega)
  · exact fun j _ => rfl
