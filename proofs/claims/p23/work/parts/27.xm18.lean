/-! the line whose second choice breaks up most -/
def TRB : List Nat := [112, 38, 113, 42, 39, 40, 41, 114, 115, 116, 45, 47, 46, 44, 48]
/-- a layout with the second choice of line l: strength a, demerits b -/
def WS (d : Nat → Int → Int) (bs be fw : Int → Int) (l a b : Int) : Prop := ∃ (nl2 : Int) (fw2 ft : Int → Int) (am gl : Int) (sw lo sl bg mid gn abv ln en : Int → Int), (∀ j, 0 ≤ j → j ≤ 60 → ft j = fw j) ∧ (nl2, fw2) = go be (d 0 0) (d 0 0 - (sec d bs fw l + 1)).toNat (l + 1) (sec d bs fw l + 1) ft ∧ LV d fw2 nl2 ∧ ST d fw2 nl2 b am a gl sw lo sl bg mid gn abv ln en
/-- the search over the lines before l: the line, its strength and demerits -/
def CAL (d : Nat → Int → Int) (bs be fw : Int → Int) (S0 l fo st de : Int) : Prop := ∃ g h : Int → Int, (∀ i, 0 ≤ i → i < l → ¬ sec d bs fw i = -1 → WS d bs be fw i (g i) (h i)) ∧
  ((fo = -1 ∧ st = S0 ∧ ∀ i, 0 ≤ i → i < l → ¬ sec d bs fw i = -1 → S0 ≤ g i) ∨
   (0 ≤ fo ∧ fo < l ∧ ¬ sec d bs fw fo = -1 ∧ st = g fo ∧ de = h fo ∧ st < S0 ∧ ∀ i, 0 ≤ i → i < l → ¬ sec d bs fw i = -1 → g fo ≤ g i ∧ (g i = g fo → h fo ≤ h i ∧ (h i = h fo → fo ≤ i))))
theorem CAL_0 (d : Nat → Int → Int) (bs be fw : Int → Int) (S0 de : Int) : CAL d bs be fw S0 0 (-1) S0 de := ⟨fun _ => 0, fun _ => 0, fun i a b => by omega, Or.inl ⟨rfl, rfl, fun i a b => by omega⟩⟩
theorem CAL_skip {d : Nat → Int → Int} {bs be fw : Int → Int} {S0 l fo st de : Int} (h : CAL d bs be fw S0 l fo st de) (hs : sec d bs fw l = -1) : CAL d bs be fw S0 (l + 1) fo st de := by
  obtain ⟨g, e, h1, h2⟩ := h
  have key : ∀ i, i < l + 1 → ¬ sec d bs fw i = -1 → i < l := fun i a b => by
    rcases Int.lt_or_le i l with q | q
    · exact q
    · exact absurd ((show i = l by omega) ▸ hs) b
  refine ⟨g, e, fun i a b c => h1 i a (key i b c) c, ?_⟩
  rcases h2 with ⟨x1, x2, x3⟩ | ⟨x1, x2, x3, x4, x5, x6, x7⟩
  · exact Or.inl ⟨x1, x2, fun i a b c => x3 i a (key i b c) c⟩
  · exact Or.inr ⟨x1, by omega, x3, x4, x5, x6, fun i a b c => x7 i a (key i b c) c⟩
theorem CAL_more {d : Nat → Int → Int} {bs be fw : Int → Int} {l a b : Int} {g e : Int → Int} (h1 : ∀ i, 0 ≤ i → i < l → ¬ sec d bs fw i = -1 → WS d bs be fw i (g i) (e i)) (hw : WS d bs be fw l a b) : ∀ i, 0 ≤ i → i < l + 1 → ¬ sec d bs fw i = -1 → WS d bs be fw i (ab_u g l a i) (ab_u e l b i) := by
  intro i q1 q2 q3
  by_cases q : i = l
  · rw [q, ab_u_eq, ab_u_eq]
    exact hw
  · rw [ab_u_ne q, ab_u_ne q]
    exact h1 i q1 (by omega) q3
theorem CAL_old {d : Nat → Int → Int} {bs be fw : Int → Int} {S0 l fo st de a b : Int} (h : CAL d bs be fw S0 l fo st de) (hw : WS d bs be fw l a b) (hn : ¬ a < st ∧ (fo = -1 ∨ ¬ a = st ∨ de ≤ b)) : CAL d bs be fw S0 (l + 1) fo st de := by
  obtain ⟨g, e, h1, h2⟩ := h
  refine ⟨ab_u g l a, ab_u e l b, CAL_more h1 hw, ?_⟩
  rcases h2 with ⟨x1, x2, x3⟩ | ⟨x1, x2, x3, x4, x5, x6, x7⟩
  · refine Or.inl ⟨x1, x2, fun i q1 q2 q3 => ?_⟩
    by_cases q : i = l
    · rw [q, ab_u_eq]
      omega
    · rw [ab_u_ne q]
      exact x3 i q1 (by omega) q3
  · have hf : ¬ fo = l := by omega
    refine Or.inr ⟨x1, by omega, x3, by rw [ab_u_ne hf]; exact x4, by rw [ab_u_ne hf]; exact x5, x6, fun i q1 q2 q3 => ?_⟩
    rw [ab_u_ne hf, ab_u_ne hf]
    by_cases q : i = l
    · rw [q, ab_u_eq, ab_u_eq]
      refine ⟨by omega, fun z => ⟨by omega, fun _ => by omega⟩⟩
    · rw [ab_u_ne q, ab_u_ne q]
      exact x7 i q1 (by omega) q3
theorem CAL_new {d : Nat → Int → Int} {bs be fw : Int → Int} {S0 l fo st de a b : Int} (h0 : 0 ≤ l) (hs : ¬ sec d bs fw l = -1) (h : CAL d bs be fw S0 l fo st de) (hw : WS d bs be fw l a b) (hn : a < st ∨ (¬ fo = -1 ∧ a = st ∧ b < de)) : CAL d bs be fw S0 (l + 1) l a b := by
  obtain ⟨g, e, h1, h2⟩ := h
  refine ⟨ab_u g l a, ab_u e l b, CAL_more h1 hw, Or.inr ⟨h0, by omega, hs, (ab_u_eq _ _ _).symm, (ab_u_eq _ _ _).symm, ?_, fun i q1 q2 q3 => ?_⟩⟩
  · rcases h2 with x | x
    · omega
    · have := x.2.2.2.2.2.1
      omega
  · rw [ab_u_eq, ab_u_eq]
    by_cases q : i = l
    · rw [q, ab_u_eq, ab_u_eq]
      exact ⟨Int.le_refl _, fun _ => ⟨Int.le_refl _, fun _ => Int.le_refl _⟩⟩
    · rw [ab_u_ne q, ab_u_ne q]
      rcases h2 with ⟨x1, x2, x3⟩ | ⟨x1, x2, x3, x4, x5, x6, x7⟩
      · have := x3 i q1 (by omega) q3
        refine ⟨by omega, fun z => by omega⟩
      · obtain ⟨y1, y2⟩ := x7 i q1 (by omega) q3
        refine ⟨by omega, fun z => ?_⟩
        have y3 := y2 (by omega)
        refine ⟨by omega, fun z2 => by omega⟩
theorem XI_tr {s s2 : Nat → Int → Int} (hx : XI s) {nl dem am str gl : Int} {fw sw lo sl be mid gn abv ln en : Int → Int} (h1 : ∀ v, -1000 ≤ sw v ∧ sw v ≤ 1000) (h2 : ∀ v, 0 ≤ ln v ∧ ln v ≤ 60)
    (e : s2 = (ab_s (ab_s (ab_s (ab_s (ab_s (ab_s (ab_s (ab_s (ab_s (ab_s (ab_s (ab_s (ab_s (ab_s (ab_s s 112 (fun _ => nl)) 38 fw) 113 (fun _ => dem)) 42 sw) 39 lo) 40 sl) 41 be) 114 (fun _ => am)) 115 (fun _ => str)) 116 (fun _ => gl)) 45 mid) 47 gn) 46 abv) 44 ln) 48 en)) : XI s2 := by
  subst e
  exact ⟨hx.1, hx.2.1, hx.2.2.1, hx.2.2.2.1, hx.2.2.2.2.1, hx.2.2.2.2.2.1, h1, h2, hx.2.2.2.2.2.2.2.2⟩
theorem KEEP_trans {L : List Nat} {s m q : Nat → Int → Int} (h1 : KEEP L s m) (h2 : KEEP L m q) : KEEP L s q := fun k hk => (h2 k hk).trans (h1 k hk)
theorem KEEP_vX {s m : Nat → Int → Int} {L : List Nat} (h : KEEP L s m) (h0 : ∀ k, k ∈ [103, 6, 7, 8, 9, 10, 100, 101, 102, 2, 3, 4] → k ∉ L) : vX m = vX s := by
  funext k
  unfold vX
  have q : ∀ k, k ∈ [103, 6, 7, 8, 9, 10, 100, 101, 102, 2, 3, 4] → m k = s k := fun k hk => h k (h0 k hk)
  rw [q 103 (by decide), q 6 (by decide), q 7 (by decide), q 8 (by decide), q 9 (by decide), q 10 (by decide), q 100 (by decide), q 101 (by decide), q 102 (by decide), q 2 (by decide), q 3 (by decide), q 4 (by decide)]

set_option maxRecDepth 20000 in
theorem c_X9_calmingLine (s : Nat → Int → Int) (hx : XI s) : ab_Mt yX9_calmingLine cX9_calmingLine 8 (some .int) ({ frames := 5, cells := 0, slots := 0, locals := 124 } : Room) false 0 0 [.inr (some 0)] (WW s) (fun r h2 => ∃ x m, r = some (.inl x) ∧ h2 = WW m ∧ XI m ∧ KEEP TRB s m ∧ ∃ st de, CAL (vX s) (s 19) (s 20) (s 26) (s 110 0) (s 107 0) x st de) := by
  refine ab_mk RX9 false rfl pn_X9_calmingLine (fun z => by cases z) (Nat.le_of_ble_eq_true rfl) (fun V hV => ?_)
  show V 0 [some (.inr (some 0)), none, none, none, none, none, none, none] [] (WW s) 0 0
  obtain ⟨hp, hr, hbw, hv, hst, hz, hx1, hx2, hx3, hx4⟩ := id hx
  have hn : 0 ≤ s 103 0 ∧ s 103 0 ≤ 60 := hp.1
  have hnl : 0 ≤ s 107 0 ∧ s 107 0 ≤ s 103 0 := hv.1
  have hb := BWp_BS hp hbw
  have hsb0 := ST_b hp hv hst
  refine rb_iconst hV dX9_calmingLine_0 ?_
  refine rb_istore_n hV (L2 := [some (.inr (some 0)), some (.inl (-1)), none, none, none, none, none, none]) dX9_calmingLine_1 rfl (Nat.le_of_ble_eq_true rfl) rfl ?_
  refine rb_aload_n hV dX9_calmingLine_2 rfl rfl ?_
  refine rb_get hV (v := .inr (some 25)) dX9_calmingLine_3 ⟨RX9, TX9, 8, rfl, (Nat.le_of_ble_eq_true rfl), lf_X9_60⟩ (gw_0 _) rfl ?_
  refine rb_get hV (v := .inr (some 31)) dX9_calmingLine_6 ⟨RX1, TX1, 12, rfl, (Nat.le_of_ble_eq_true rfl), lf_X9_148⟩ (gw_25 _) rfl ?_
  refine rb_get hV (v := .inl (s 110 0)) dX9_calmingLine_9 ⟨RX5, TX5, 8, rfl, (Nat.le_of_ble_eq_true rfl), lf_X9_160⟩ (gw_31 _) rfl ?_
  refine rb_istore_n hV (L2 := [some (.inr (some 0)), some (.inl (-1)), some (.inl (s 110 0)), none, none, none, none, none]) dX9_calmingLine_12 rfl (Nat.le_of_ble_eq_true rfl) rfl ?_
  refine rb_iconst hV dX9_calmingLine_13 ?_
  refine rb_istore_n hV (L2 := [some (.inr (some 0)), some (.inl (-1)), some (.inl (s 110 0)), some (.inl 0), none, none, none, none]) dX9_calmingLine_14 rfl (Nat.le_of_ble_eq_true rfl) rfl ?_
  refine rb_iconst hV dX9_calmingLine_15 ?_
  refine rb_istore hV (L2 := [some (.inr (some 0)), some (.inl (-1)), some (.inl (s 110 0)), some (.inl 0), some (.inl 0), none, none, none]) dX9_calmingLine_16 (Nat.le_of_ble_eq_true rfl) rfl ?_
  have h18 : ∀ (n18 : Nat) (m : Nat → Int → Int) (fo : Int) (st : Int) (de : Int) (l : Int), (XI m) → (KEEP TRB s m) → (0 ≤ l ∧ l ≤ m 107 0) → ((0 ≤ st ∧ st ≤ 3480) ∧ (0 ≤ de ∧ de ≤ 732000) ∧ -1 ≤ fo ∧ fo ≤ 60) → (CAL (vX m) (m 19) (m 20) (m 26) (m 110 0) l fo st de) → ((60 - l).toNat) < n18 → V 18 [some (.inr (some 0)), some (.inl fo), some (.inl st), some (.inl de), some (.inl l), none, none, none] [] (WW m) 0 0 := by
    intro n18
    induction n18 with
    | zero => intro m fo st de l hx hk h1 h4 h2 hm; omega
    | succ n18 ih18 =>
      intro m fo st de l hx hk h1 h4 h2 hm
      obtain ⟨hp, hr, hbw, hv, hst, hz, hx1, hx2, hx3, hx4⟩ := id hx
      have hn : 0 ≤ m 103 0 ∧ m 103 0 ≤ 60 := hp.1
      have hnl : 0 ≤ m 107 0 ∧ m 107 0 ≤ m 103 0 := hv.1
      have hb := BWp_BS hp hbw
      refine rb_iload hV dX9_calmingLine_18 rfl ?_
      refine rb_aload_n hV dX9_calmingLine_20 rfl rfl ?_
      refine rb_get hV (v := .inr (some 25)) dX9_calmingLine_21 ⟨RX9, TX9, 8, rfl, (Nat.le_of_ble_eq_true rfl), lf_X9_60⟩ (gw_0 _) rfl ?_
      refine rb_get hV (v := .inl (m 107 0)) dX9_calmingLine_24 ⟨RX1, TX1, 12, rfl, (Nat.le_of_ble_eq_true rfl), lf_X9_121⟩ (gw_25 _) rfl ?_
      refine rb_icmp_ge hV (tgt := 144) dX9_calmingLine_27 (by decide) ⟨(by unfold ab_r at *; omega), (by unfold ab_r at *; omega)⟩ (fun c27 => ?_) (fun c27 => ?_)
      · refine rb_iload_n hV dX9_calmingLine_144 rfl rfl ?_
        refine rb_ret hV (r := some (.inl fo)) dX9_calmingLine_145 rfl ⟨(Nat.le_of_ble_eq_true rfl), (Nat.le_of_ble_eq_true rfl)⟩ trivial ?_
        have e : l = m 107 0 := by omega
        rw [e, KEEP_vX hk (by decide), hk 19 (by decide), hk 20 (by decide), hk 26 (by decide), hk 110 (by decide), hk 107 (by decide)] at h2
        exact ⟨fo, m, rfl, rfl, hx, hk, st, de, h2⟩
      · have hl0 := hv.2.1 l (by omega) (by omega)
        have hl1 : 0 ≤ m 26 l := hl0.1
        have hl2 : m 26 l < m 26 (l + 1) := hl0.2.1
        have hl3 : m 26 (l + 1) ≤ m 103 0 := hl0.2.2.1
        refine rb_aload_n hV dX9_calmingLine_30 rfl rfl ?_
        refine rb_get hV (v := .inr (some 25)) dX9_calmingLine_31 ⟨RX9, TX9, 8, rfl, (Nat.le_of_ble_eq_true rfl), lf_X9_60⟩ (gw_0 _) rfl ?_
        refine rb_iload hV dX9_calmingLine_34 rfl ?_
        refine rb_callV hV (rest := []) dX9_calmingLine_36 (c_X1_secondLast_la m l hp hr hv hb (show 0 ≤ l ∧ l < (m 107 0) by omega)) lk_X9_127 rfl (Or.inl ⟨1, _, TX1, 12, gw_25 _, rfl⟩) rfl ⟨rfl, rfl, (Nat.le_of_ble_eq_true rfl), (Nat.le_of_ble_eq_true rfl), (Nat.le_of_ble_eq_true rfl), (Nat.le_of_ble_eq_true rfl)⟩ (Nat.le_of_ble_eq_true rfl) (fun r9 h9 p9 => ?_)
        obtain ⟨rfl, rfl⟩ := p9
        show V 39 [some (.inr (some 0)), some (.inl fo), some (.inl st), some (.inl de), some (.inl l), none, none, none] [.inl (sec (vX m) (m 19) (m 26) l)] (WW m) 0 0
        have hsq : sec (vX m) (m 19) (m 26) l = -1 ∨ (m 26 l ≤ sec (vX m) (m 19) (m 26) l ∧ sec (vX m) (m 19) (m 26) l < m 103 0) := by
          by_cases hq : sec (vX m) (m 19) (m 26) l = -1
          · exact Or.inl hq
          · have ho := sec_ok hq
            have e0 : vX m 0 0 = m 103 0 := rfl
            exact Or.inr ⟨ho.1, by omega⟩
        refine rb_istore hV (L2 := [some (.inr (some 0)), some (.inl fo), some (.inl st), some (.inl de), some (.inl l), some (.inl (sec (vX m) (m 19) (m 26) l)), none, none]) dX9_calmingLine_39 (Nat.le_of_ble_eq_true rfl) rfl ?_
        refine rb_iload hV dX9_calmingLine_41 rfl ?_
        refine rb_iconst hV dX9_calmingLine_43 ?_
        refine rb_icmp_ne hV (tgt := 50) dX9_calmingLine_44 (by decide) ⟨(by unfold ab_r at *; omega), (by unfold ab_r at *; omega)⟩ (fun c44 => ?_) (fun c44 => ?_)
        · have hs1 : ¬ sec (vX m) (m 19) (m 26) l = -1 := by omega
          have hok := sec_ok hs1
          refine rb_aload_n hV dX9_calmingLine_50 rfl rfl ?_
          refine rb_get hV (v := .inr (some 37)) dX9_calmingLine_51 ⟨RX9, TX9, 8, rfl, (Nat.le_of_ble_eq_true rfl), lf_X9_64⟩ (gw_0 _) rfl ?_
          refine rb_aload_n hV dX9_calmingLine_54 rfl rfl ?_
          refine rb_get hV (v := .inr (some 25)) dX9_calmingLine_55 ⟨RX9, TX9, 8, rfl, (Nat.le_of_ble_eq_true rfl), lf_X9_60⟩ (gw_0 _) rfl ?_
          refine rb_callV hV (rest := []) dX9_calmingLine_58 (c_X1_copyBreaks m) lk_X9_239 rfl (Or.inl ⟨1, _, TX1, 12, gw_37 _, rfl⟩) rfl ⟨rfl, rfl, (Nat.le_of_ble_eq_true rfl), (Nat.le_of_ble_eq_true rfl), (Nat.le_of_ble_eq_true rfl), (Nat.le_of_ble_eq_true rfl)⟩ (Nat.le_of_ble_eq_true rfl) (fun r9 h9 p9 => ?_)
          obtain ⟨rfl, ft, rfl, hft⟩ := p9
          show V 61 [some (.inr (some 0)), some (.inl fo), some (.inl st), some (.inl de), some (.inl l), some (.inl (sec (vX m) (m 19) (m 26) l)), none, none] [] (WW (ab_s (ab_s m 112 (fun _ => (m 107 0))) 38 ft)) 0 0
          have hvt : LV (vX m) ft (m 107 0) := ⟨hv.1, fun i q1 q2 => by have q3 := hv.2.1 i q1 q2; have q4 := hft i q1 (by omega); have q5 := hft (i + 1) (by omega) (by omega); rw [← q4, ← q5] at q3; exact q3, fun q => by have q3 := hv.2.2 q; have q4 := hft 0 (by decide) (by decide); have q5 := hft (m 107 0) (by omega) (by omega); rw [← q4, ← q5] at q3; exact q3⟩
          have hfl := hft l (by omega) (by omega)
          refine rb_aload_n hV dX9_calmingLine_61 rfl rfl ?_
          refine rb_get hV (v := .inr (some 37)) dX9_calmingLine_62 ⟨RX9, TX9, 8, rfl, (Nat.le_of_ble_eq_true rfl), lf_X9_64⟩ (gw_0 _) rfl ?_
          refine rb_iload hV dX9_calmingLine_65 rfl ?_
          refine rb_iload hV dX9_calmingLine_67 rfl ?_
          refine rb_callV hV (rest := []) dX9_calmingLine_69 (c_X1_endLineWith_tr (ab_s (ab_s m 112 (fun _ => (m 107 0))) 38 ft) l (sec (vX m) (m 19) (m 26) l) hp hr hbw hx1 hx2 hvt (show 0 ≤ l ∧ l < m 107 0 by omega) (by show ft l ≤ sec (vX m) (m 19) (m 26) l ∧ sec (vX m) (m 19) (m 26) l < m 103 0 ∧ ps (vX m) (ft l) (sec (vX m) (m 19) (m 26) l) = true ∧ 0 ≤ m 19 (sec (vX m) (m 19) (m 26) l + 1); rw [hfl]; exact ⟨hok.1, by omega, hok.2.2.1, hok.2.2.2⟩)) lk_X9_131 rfl (Or.inl ⟨1, _, TX1, 12, gw_37 _, rfl⟩) rfl ⟨rfl, rfl, (Nat.le_of_ble_eq_true rfl), (Nat.le_of_ble_eq_true rfl), (Nat.le_of_ble_eq_true rfl), (Nat.le_of_ble_eq_true rfl)⟩ (Nat.le_of_ble_eq_true rfl) (fun r9 h9 p9 => ?_)
          obtain ⟨rfl, nl, fw, dem, sw, lo, sl, be, am, str, gl, mid, gn, abv, ln, en, rfl, hlv, hst, hgo⟩ := p9
          refine rb_heq (b := (ab_s (ab_s (ab_s (ab_s (ab_s (ab_s (ab_s (ab_s (ab_s (ab_s (ab_s (ab_s (ab_s (ab_s (ab_s m 112 (fun _ => nl)) 38 fw) 113 (fun _ => dem)) 42 sw) 39 lo) 40 sl) 41 be) 114 (fun _ => am)) 115 (fun _ => str)) 116 (fun _ => gl)) 45 mid) 47 gn) 46 abv) 44 ln) 48 en)) (congrArg (fun x => ab_s x 48 _) (congrArg (fun x => ab_s x 44 _) (congrArg (fun x => ab_s x 46 _) (congrArg (fun x => ab_s x 47 _) (congrArg (fun x => ab_s x 45 _) (congrArg (fun x => ab_s x 116 _) (congrArg (fun x => ab_s x 115 _) (congrArg (fun x => ab_s x 114 _) (congrArg (fun x => ab_s x 41 _) (congrArg (fun x => ab_s x 40 _) (congrArg (fun x => ab_s x 39 _) (congrArg (fun x => ab_s x 42 _) (congrArg (fun x => ab_s x 113 _) ((congrArg (fun x => ab_s x 38 _) ((ab_s_sw (by decide)).trans (congrArg (fun x => ab_s x 38 _) (ab_s_same _ 112 _ _)))).trans (ab_s_same _ 38 _ _))))))))))))))) ?_
          show V 72 [some (.inr (some 0)), some (.inl fo), some (.inl st), some (.inl de), some (.inl l), some (.inl (sec (vX m) (m 19) (m 26) l)), none, none] [] (WW (ab_s (ab_s (ab_s (ab_s (ab_s (ab_s (ab_s (ab_s (ab_s (ab_s (ab_s (ab_s (ab_s (ab_s (ab_s m 112 (fun _ => nl)) 38 fw) 113 (fun _ => dem)) 42 sw) 39 lo) 40 sl) 41 be) 114 (fun _ => am)) 115 (fun _ => str)) 116 (fun _ => gl)) 45 mid) 47 gn) 46 abv) 44 ln) 48 en)) 0 0
          have hsb := ST_b hp hlv hst
          refine rb_aload_n hV dX9_calmingLine_72 rfl rfl ?_
          refine rb_get hV (v := .inr (some 37)) dX9_calmingLine_73 ⟨RX9, TX9, 8, rfl, (Nat.le_of_ble_eq_true rfl), lf_X9_64⟩ (gw_0 _) rfl ?_
          refine rb_get hV (v := .inr (some 43)) dX9_calmingLine_76 ⟨RX1, TX1, 12, rfl, (Nat.le_of_ble_eq_true rfl), lf_X9_148⟩ (gw_37 _) rfl ?_
          refine rb_get hV (v := .inl str) dX9_calmingLine_79 ⟨RX5, TX5, 8, rfl, (Nat.le_of_ble_eq_true rfl), lf_X9_160⟩ (gw_43 _) rfl ?_
          refine rb_istore hV (L2 := [some (.inr (some 0)), some (.inl fo), some (.inl st), some (.inl de), some (.inl l), some (.inl (sec (vX m) (m 19) (m 26) l)), some (.inl str), none]) dX9_calmingLine_82 (Nat.le_of_ble_eq_true rfl) rfl ?_
          refine rb_iload_n hV dX9_calmingLine_84 rfl rfl ?_
          refine rb_iconst hV dX9_calmingLine_85 ?_
          refine rb_icmp_eq hV (tgt := 110) dX9_calmingLine_86 (by decide) ⟨(by unfold ab_r at *; omega), (by unfold ab_r at *; omega)⟩ (fun c86 => ?_) (fun c86 => ?_)
          · refine rb_iconst hV dX9_calmingLine_110 ?_
            refine rb_istore hV (L2 := [some (.inr (some 0)), some (.inl fo), some (.inl st), some (.inl de), some (.inl l), some (.inl (sec (vX m) (m 19) (m 26) l)), some (.inl str), some (.inl 0)]) dX9_calmingLine_111 (Nat.le_of_ble_eq_true rfl) rfl ?_
            refine rb_iload hV dX9_calmingLine_113 rfl ?_
            refine rb_iload_n hV dX9_calmingLine_115 rfl rfl ?_
            refine rb_icmp_lt hV (tgt := 124) dX9_calmingLine_116 (by decide) ⟨(by unfold ab_r at *; omega), (by unfold ab_r at *; omega)⟩ (fun c116 => ?_) (fun c116 => ?_)
            · refine rb_iload hV dX9_calmingLine_124 rfl ?_
              refine rb_istore_n hV (L2 := [some (.inr (some 0)), some (.inl l), some (.inl st), some (.inl de), some (.inl l), some (.inl (sec (vX m) (m 19) (m 26) l)), some (.inl str), some (.inl 0)]) dX9_calmingLine_126 rfl (Nat.le_of_ble_eq_true rfl) rfl ?_
              refine rb_iload hV dX9_calmingLine_127 rfl ?_
              refine rb_istore_n hV (L2 := [some (.inr (some 0)), some (.inl l), some (.inl str), some (.inl de), some (.inl l), some (.inl (sec (vX m) (m 19) (m 26) l)), some (.inl str), some (.inl 0)]) dX9_calmingLine_129 rfl (Nat.le_of_ble_eq_true rfl) rfl ?_
              refine rb_aload_n hV dX9_calmingLine_130 rfl rfl ?_
              refine rb_get hV (v := .inr (some 37)) dX9_calmingLine_131 ⟨RX9, TX9, 8, rfl, (Nat.le_of_ble_eq_true rfl), lf_X9_64⟩ (gw_0 _) rfl ?_
              refine rb_get hV (v := .inl dem) dX9_calmingLine_134 ⟨RX1, TX1, 12, rfl, (Nat.le_of_ble_eq_true rfl), lf_X9_138⟩ (gw_37 _) rfl ?_
              refine rb_istore_n hV (L2 := [some (.inr (some 0)), some (.inl l), some (.inl str), some (.inl dem), some (.inl l), some (.inl (sec (vX m) (m 19) (m 26) l)), some (.inl str), some (.inl 0)]) dX9_calmingLine_137 rfl (Nat.le_of_ble_eq_true rfl) rfl ?_
              refine rb_iinc hV (L2 := [some (.inr (some 0)), some (.inl l), some (.inl str), some (.inl dem), some (.inl (l + 1)), some (.inl (sec (vX m) (m 19) (m 26) l)), some (.inl str), some (.inl 0)]) dX9_calmingLine_138 rfl rfl rfl ?_
              refine rb_goto hV (tgt := 18) dX9_calmingLine_141 (by decide) ?_
              refine rb_weak hV (L2 := [some (.inr (some 0)), some (.inl l), some (.inl str), some (.inl dem), some (.inl (l + 1)), none, none, none]) ⟨rfl, ⟨rfl, ⟨rfl, ⟨rfl, ⟨rfl, trivial⟩⟩⟩⟩⟩ ?_
              refine ih18 (ab_s (ab_s (ab_s (ab_s (ab_s (ab_s (ab_s (ab_s (ab_s (ab_s (ab_s (ab_s (ab_s (ab_s (ab_s m 112 (fun _ => nl)) 38 fw) 113 (fun _ => dem)) 42 sw) 39 lo) 40 sl) 41 be) 114 (fun _ => am)) 115 (fun _ => str)) 116 (fun _ => gl)) 45 mid) 47 gn) 46 abv) 44 ln) 48 en) l str dem (l + 1) ?_ ?_ ?_ ?_ ?_ ?_
              · exact XI_tr hx hst.2.2.1 (RVX_ln hst.2.2.2) rfl
              · exact KEEP_trans hk (fun j hj => ((ab_keep hj (by decide)).trans ((ab_keep hj (by decide)).trans ((ab_keep hj (by decide)).trans ((ab_keep hj (by decide)).trans ((ab_keep hj (by decide)).trans ((ab_keep hj (by decide)).trans ((ab_keep hj (by decide)).trans ((ab_keep hj (by decide)).trans ((ab_keep hj (by decide)).trans ((ab_keep hj (by decide)).trans ((ab_keep hj (by decide)).trans ((ab_keep hj (by decide)).trans ((ab_keep hj (by decide)).trans ((ab_keep hj (by decide)).trans ((ab_keep hj (by decide)).trans rfl))))))))))))))))
              · show 0 ≤ l + 1 ∧ l + 1 ≤ m 107 0
                omega
              · omega
              · exact CAL_new h1.1 hs1 h2 ⟨nl, fw, ft, am, gl, sw, lo, sl, be, mid, gn, abv, ln, en, hft, hgo, hlv, hst⟩ (by omega)
              · omega
            · refine rb_iload hV dX9_calmingLine_119 rfl ?_
              refine rb_if_eq hV (tgt := 138) dX9_calmingLine_121 (by decide) (by unfold ab_r at *; omega) (fun _ => ?_) (fun z => absurd z (by decide))
              refine rb_iinc hV (L2 := [some (.inr (some 0)), some (.inl fo), some (.inl st), some (.inl de), some (.inl (l + 1)), some (.inl (sec (vX m) (m 19) (m 26) l)), some (.inl str), some (.inl 0)]) dX9_calmingLine_138 rfl rfl rfl ?_
              refine rb_goto hV (tgt := 18) dX9_calmingLine_141 (by decide) ?_
              refine rb_weak hV (L2 := [some (.inr (some 0)), some (.inl fo), some (.inl st), some (.inl de), some (.inl (l + 1)), none, none, none]) ⟨rfl, ⟨rfl, ⟨rfl, ⟨rfl, ⟨rfl, trivial⟩⟩⟩⟩⟩ ?_
              refine ih18 (ab_s (ab_s (ab_s (ab_s (ab_s (ab_s (ab_s (ab_s (ab_s (ab_s (ab_s (ab_s (ab_s (ab_s (ab_s m 112 (fun _ => nl)) 38 fw) 113 (fun _ => dem)) 42 sw) 39 lo) 40 sl) 41 be) 114 (fun _ => am)) 115 (fun _ => str)) 116 (fun _ => gl)) 45 mid) 47 gn) 46 abv) 44 ln) 48 en) fo st de (l + 1) ?_ ?_ ?_ ?_ ?_ ?_
              · exact XI_tr hx hst.2.2.1 (RVX_ln hst.2.2.2) rfl
              · exact KEEP_trans hk (fun j hj => ((ab_keep hj (by decide)).trans ((ab_keep hj (by decide)).trans ((ab_keep hj (by decide)).trans ((ab_keep hj (by decide)).trans ((ab_keep hj (by decide)).trans ((ab_keep hj (by decide)).trans ((ab_keep hj (by decide)).trans ((ab_keep hj (by decide)).trans ((ab_keep hj (by decide)).trans ((ab_keep hj (by decide)).trans ((ab_keep hj (by decide)).trans ((ab_keep hj (by decide)).trans ((ab_keep hj (by decide)).trans ((ab_keep hj (by decide)).trans ((ab_keep hj (by decide)).trans rfl))))))))))))))))
              · show 0 ≤ l + 1 ∧ l + 1 ≤ m 107 0
                omega
              · omega
              · exact CAL_old h2 ⟨nl, fw, ft, am, gl, sw, lo, sl, be, mid, gn, abv, ln, en, hft, hgo, hlv, hst⟩ (by omega)
              · omega
          · refine rb_iload hV dX9_calmingLine_89 rfl ?_
            refine rb_iload_n hV dX9_calmingLine_91 rfl rfl ?_
            refine rb_icmp_ne hV (tgt := 110) dX9_calmingLine_92 (by decide) ⟨(by unfold ab_r at *; omega), (by unfold ab_r at *; omega)⟩ (fun c92 => ?_) (fun c92 => ?_)
            · refine rb_iconst hV dX9_calmingLine_110 ?_
              refine rb_istore hV (L2 := [some (.inr (some 0)), some (.inl fo), some (.inl st), some (.inl de), some (.inl l), some (.inl (sec (vX m) (m 19) (m 26) l)), some (.inl str), some (.inl 0)]) dX9_calmingLine_111 (Nat.le_of_ble_eq_true rfl) rfl ?_
              refine rb_iload hV dX9_calmingLine_113 rfl ?_
              refine rb_iload_n hV dX9_calmingLine_115 rfl rfl ?_
              refine rb_icmp_lt hV (tgt := 124) dX9_calmingLine_116 (by decide) ⟨(by unfold ab_r at *; omega), (by unfold ab_r at *; omega)⟩ (fun c116 => ?_) (fun c116 => ?_)
              · refine rb_iload hV dX9_calmingLine_124 rfl ?_
                refine rb_istore_n hV (L2 := [some (.inr (some 0)), some (.inl l), some (.inl st), some (.inl de), some (.inl l), some (.inl (sec (vX m) (m 19) (m 26) l)), some (.inl str), some (.inl 0)]) dX9_calmingLine_126 rfl (Nat.le_of_ble_eq_true rfl) rfl ?_
                refine rb_iload hV dX9_calmingLine_127 rfl ?_
                refine rb_istore_n hV (L2 := [some (.inr (some 0)), some (.inl l), some (.inl str), some (.inl de), some (.inl l), some (.inl (sec (vX m) (m 19) (m 26) l)), some (.inl str), some (.inl 0)]) dX9_calmingLine_129 rfl (Nat.le_of_ble_eq_true rfl) rfl ?_
                refine rb_aload_n hV dX9_calmingLine_130 rfl rfl ?_
                refine rb_get hV (v := .inr (some 37)) dX9_calmingLine_131 ⟨RX9, TX9, 8, rfl, (Nat.le_of_ble_eq_true rfl), lf_X9_64⟩ (gw_0 _) rfl ?_
                refine rb_get hV (v := .inl dem) dX9_calmingLine_134 ⟨RX1, TX1, 12, rfl, (Nat.le_of_ble_eq_true rfl), lf_X9_138⟩ (gw_37 _) rfl ?_
                refine rb_istore_n hV (L2 := [some (.inr (some 0)), some (.inl l), some (.inl str), some (.inl dem), some (.inl l), some (.inl (sec (vX m) (m 19) (m 26) l)), some (.inl str), some (.inl 0)]) dX9_calmingLine_137 rfl (Nat.le_of_ble_eq_true rfl) rfl ?_
                refine rb_iinc hV (L2 := [some (.inr (some 0)), some (.inl l), some (.inl str), some (.inl dem), some (.inl (l + 1)), some (.inl (sec (vX m) (m 19) (m 26) l)), some (.inl str), some (.inl 0)]) dX9_calmingLine_138 rfl rfl rfl ?_
                refine rb_goto hV (tgt := 18) dX9_calmingLine_141 (by decide) ?_
                refine rb_weak hV (L2 := [some (.inr (some 0)), some (.inl l), some (.inl str), some (.inl dem), some (.inl (l + 1)), none, none, none]) ⟨rfl, ⟨rfl, ⟨rfl, ⟨rfl, ⟨rfl, trivial⟩⟩⟩⟩⟩ ?_
                refine ih18 (ab_s (ab_s (ab_s (ab_s (ab_s (ab_s (ab_s (ab_s (ab_s (ab_s (ab_s (ab_s (ab_s (ab_s (ab_s m 112 (fun _ => nl)) 38 fw) 113 (fun _ => dem)) 42 sw) 39 lo) 40 sl) 41 be) 114 (fun _ => am)) 115 (fun _ => str)) 116 (fun _ => gl)) 45 mid) 47 gn) 46 abv) 44 ln) 48 en) l str dem (l + 1) ?_ ?_ ?_ ?_ ?_ ?_
                · exact XI_tr hx hst.2.2.1 (RVX_ln hst.2.2.2) rfl
                · exact KEEP_trans hk (fun j hj => ((ab_keep hj (by decide)).trans ((ab_keep hj (by decide)).trans ((ab_keep hj (by decide)).trans ((ab_keep hj (by decide)).trans ((ab_keep hj (by decide)).trans ((ab_keep hj (by decide)).trans ((ab_keep hj (by decide)).trans ((ab_keep hj (by decide)).trans ((ab_keep hj (by decide)).trans ((ab_keep hj (by decide)).trans ((ab_keep hj (by decide)).trans ((ab_keep hj (by decide)).trans ((ab_keep hj (by decide)).trans ((ab_keep hj (by decide)).trans ((ab_keep hj (by decide)).trans rfl))))))))))))))))
                · show 0 ≤ l + 1 ∧ l + 1 ≤ m 107 0
                  omega
                · omega
                · exact CAL_new h1.1 hs1 h2 ⟨nl, fw, ft, am, gl, sw, lo, sl, be, mid, gn, abv, ln, en, hft, hgo, hlv, hst⟩ (by omega)
                · omega
              · refine rb_iload hV dX9_calmingLine_119 rfl ?_
                refine rb_if_eq hV (tgt := 138) dX9_calmingLine_121 (by decide) (by unfold ab_r at *; omega) (fun _ => ?_) (fun z => absurd z (by decide))
                refine rb_iinc hV (L2 := [some (.inr (some 0)), some (.inl fo), some (.inl st), some (.inl de), some (.inl (l + 1)), some (.inl (sec (vX m) (m 19) (m 26) l)), some (.inl str), some (.inl 0)]) dX9_calmingLine_138 rfl rfl rfl ?_
                refine rb_goto hV (tgt := 18) dX9_calmingLine_141 (by decide) ?_
                refine rb_weak hV (L2 := [some (.inr (some 0)), some (.inl fo), some (.inl st), some (.inl de), some (.inl (l + 1)), none, none, none]) ⟨rfl, ⟨rfl, ⟨rfl, ⟨rfl, ⟨rfl, trivial⟩⟩⟩⟩⟩ ?_
                refine ih18 (ab_s (ab_s (ab_s (ab_s (ab_s (ab_s (ab_s (ab_s (ab_s (ab_s (ab_s (ab_s (ab_s (ab_s (ab_s m 112 (fun _ => nl)) 38 fw) 113 (fun _ => dem)) 42 sw) 39 lo) 40 sl) 41 be) 114 (fun _ => am)) 115 (fun _ => str)) 116 (fun _ => gl)) 45 mid) 47 gn) 46 abv) 44 ln) 48 en) fo st de (l + 1) ?_ ?_ ?_ ?_ ?_ ?_
                · exact XI_tr hx hst.2.2.1 (RVX_ln hst.2.2.2) rfl
                · exact KEEP_trans hk (fun j hj => ((ab_keep hj (by decide)).trans ((ab_keep hj (by decide)).trans ((ab_keep hj (by decide)).trans ((ab_keep hj (by decide)).trans ((ab_keep hj (by decide)).trans ((ab_keep hj (by decide)).trans ((ab_keep hj (by decide)).trans ((ab_keep hj (by decide)).trans ((ab_keep hj (by decide)).trans ((ab_keep hj (by decide)).trans ((ab_keep hj (by decide)).trans ((ab_keep hj (by decide)).trans ((ab_keep hj (by decide)).trans ((ab_keep hj (by decide)).trans ((ab_keep hj (by decide)).trans rfl))))))))))))))))
                · show 0 ≤ l + 1 ∧ l + 1 ≤ m 107 0
                  omega
                · omega
                · exact CAL_old h2 ⟨nl, fw, ft, am, gl, sw, lo, sl, be, mid, gn, abv, ln, en, hft, hgo, hlv, hst⟩ (by omega)
                · omega
            · refine rb_aload_n hV dX9_calmingLine_95 rfl rfl ?_
              refine rb_get hV (v := .inr (some 37)) dX9_calmingLine_96 ⟨RX9, TX9, 8, rfl, (Nat.le_of_ble_eq_true rfl), lf_X9_64⟩ (gw_0 _) rfl ?_
              refine rb_get hV (v := .inl dem) dX9_calmingLine_99 ⟨RX1, TX1, 12, rfl, (Nat.le_of_ble_eq_true rfl), lf_X9_138⟩ (gw_37 _) rfl ?_
              refine rb_iload_n hV dX9_calmingLine_102 rfl rfl ?_
              refine rb_icmp_ge hV (tgt := 110) dX9_calmingLine_103 (by decide) ⟨(by unfold ab_r at *; omega), (by unfold ab_r at *; omega)⟩ (fun c103 => ?_) (fun c103 => ?_)
              · refine rb_iconst hV dX9_calmingLine_110 ?_
                refine rb_istore hV (L2 := [some (.inr (some 0)), some (.inl fo), some (.inl st), some (.inl de), some (.inl l), some (.inl (sec (vX m) (m 19) (m 26) l)), some (.inl str), some (.inl 0)]) dX9_calmingLine_111 (Nat.le_of_ble_eq_true rfl) rfl ?_
                refine rb_iload hV dX9_calmingLine_113 rfl ?_
                refine rb_iload_n hV dX9_calmingLine_115 rfl rfl ?_
                refine rb_icmp_lt hV (tgt := 124) dX9_calmingLine_116 (by decide) ⟨(by unfold ab_r at *; omega), (by unfold ab_r at *; omega)⟩ (fun c116 => ?_) (fun c116 => ?_)
                · refine rb_iload hV dX9_calmingLine_124 rfl ?_
                  refine rb_istore_n hV (L2 := [some (.inr (some 0)), some (.inl l), some (.inl st), some (.inl de), some (.inl l), some (.inl (sec (vX m) (m 19) (m 26) l)), some (.inl str), some (.inl 0)]) dX9_calmingLine_126 rfl (Nat.le_of_ble_eq_true rfl) rfl ?_
                  refine rb_iload hV dX9_calmingLine_127 rfl ?_
                  refine rb_istore_n hV (L2 := [some (.inr (some 0)), some (.inl l), some (.inl str), some (.inl de), some (.inl l), some (.inl (sec (vX m) (m 19) (m 26) l)), some (.inl str), some (.inl 0)]) dX9_calmingLine_129 rfl (Nat.le_of_ble_eq_true rfl) rfl ?_
                  refine rb_aload_n hV dX9_calmingLine_130 rfl rfl ?_
                  refine rb_get hV (v := .inr (some 37)) dX9_calmingLine_131 ⟨RX9, TX9, 8, rfl, (Nat.le_of_ble_eq_true rfl), lf_X9_64⟩ (gw_0 _) rfl ?_
                  refine rb_get hV (v := .inl dem) dX9_calmingLine_134 ⟨RX1, TX1, 12, rfl, (Nat.le_of_ble_eq_true rfl), lf_X9_138⟩ (gw_37 _) rfl ?_
                  refine rb_istore_n hV (L2 := [some (.inr (some 0)), some (.inl l), some (.inl str), some (.inl dem), some (.inl l), some (.inl (sec (vX m) (m 19) (m 26) l)), some (.inl str), some (.inl 0)]) dX9_calmingLine_137 rfl (Nat.le_of_ble_eq_true rfl) rfl ?_
                  refine rb_iinc hV (L2 := [some (.inr (some 0)), some (.inl l), some (.inl str), some (.inl dem), some (.inl (l + 1)), some (.inl (sec (vX m) (m 19) (m 26) l)), some (.inl str), some (.inl 0)]) dX9_calmingLine_138 rfl rfl rfl ?_
                  refine rb_goto hV (tgt := 18) dX9_calmingLine_141 (by decide) ?_
                  refine rb_weak hV (L2 := [some (.inr (some 0)), some (.inl l), some (.inl str), some (.inl dem), some (.inl (l + 1)), none, none, none]) ⟨rfl, ⟨rfl, ⟨rfl, ⟨rfl, ⟨rfl, trivial⟩⟩⟩⟩⟩ ?_
                  refine ih18 (ab_s (ab_s (ab_s (ab_s (ab_s (ab_s (ab_s (ab_s (ab_s (ab_s (ab_s (ab_s (ab_s (ab_s (ab_s m 112 (fun _ => nl)) 38 fw) 113 (fun _ => dem)) 42 sw) 39 lo) 40 sl) 41 be) 114 (fun _ => am)) 115 (fun _ => str)) 116 (fun _ => gl)) 45 mid) 47 gn) 46 abv) 44 ln) 48 en) l str dem (l + 1) ?_ ?_ ?_ ?_ ?_ ?_
                  · exact XI_tr hx hst.2.2.1 (RVX_ln hst.2.2.2) rfl
                  · exact KEEP_trans hk (fun j hj => ((ab_keep hj (by decide)).trans ((ab_keep hj (by decide)).trans ((ab_keep hj (by decide)).trans ((ab_keep hj (by decide)).trans ((ab_keep hj (by decide)).trans ((ab_keep hj (by decide)).trans ((ab_keep hj (by decide)).trans ((ab_keep hj (by decide)).trans ((ab_keep hj (by decide)).trans ((ab_keep hj (by decide)).trans ((ab_keep hj (by decide)).trans ((ab_keep hj (by decide)).trans ((ab_keep hj (by decide)).trans ((ab_keep hj (by decide)).trans ((ab_keep hj (by decide)).trans rfl))))))))))))))))
                  · show 0 ≤ l + 1 ∧ l + 1 ≤ m 107 0
                    omega
                  · omega
                  · exact CAL_new h1.1 hs1 h2 ⟨nl, fw, ft, am, gl, sw, lo, sl, be, mid, gn, abv, ln, en, hft, hgo, hlv, hst⟩ (by omega)
                  · omega
                · refine rb_iload hV dX9_calmingLine_119 rfl ?_
                  refine rb_if_eq hV (tgt := 138) dX9_calmingLine_121 (by decide) (by unfold ab_r at *; omega) (fun _ => ?_) (fun z => absurd z (by decide))
                  refine rb_iinc hV (L2 := [some (.inr (some 0)), some (.inl fo), some (.inl st), some (.inl de), some (.inl (l + 1)), some (.inl (sec (vX m) (m 19) (m 26) l)), some (.inl str), some (.inl 0)]) dX9_calmingLine_138 rfl rfl rfl ?_
                  refine rb_goto hV (tgt := 18) dX9_calmingLine_141 (by decide) ?_
                  refine rb_weak hV (L2 := [some (.inr (some 0)), some (.inl fo), some (.inl st), some (.inl de), some (.inl (l + 1)), none, none, none]) ⟨rfl, ⟨rfl, ⟨rfl, ⟨rfl, ⟨rfl, trivial⟩⟩⟩⟩⟩ ?_
                  refine ih18 (ab_s (ab_s (ab_s (ab_s (ab_s (ab_s (ab_s (ab_s (ab_s (ab_s (ab_s (ab_s (ab_s (ab_s (ab_s m 112 (fun _ => nl)) 38 fw) 113 (fun _ => dem)) 42 sw) 39 lo) 40 sl) 41 be) 114 (fun _ => am)) 115 (fun _ => str)) 116 (fun _ => gl)) 45 mid) 47 gn) 46 abv) 44 ln) 48 en) fo st de (l + 1) ?_ ?_ ?_ ?_ ?_ ?_
                  · exact XI_tr hx hst.2.2.1 (RVX_ln hst.2.2.2) rfl
                  · exact KEEP_trans hk (fun j hj => ((ab_keep hj (by decide)).trans ((ab_keep hj (by decide)).trans ((ab_keep hj (by decide)).trans ((ab_keep hj (by decide)).trans ((ab_keep hj (by decide)).trans ((ab_keep hj (by decide)).trans ((ab_keep hj (by decide)).trans ((ab_keep hj (by decide)).trans ((ab_keep hj (by decide)).trans ((ab_keep hj (by decide)).trans ((ab_keep hj (by decide)).trans ((ab_keep hj (by decide)).trans ((ab_keep hj (by decide)).trans ((ab_keep hj (by decide)).trans ((ab_keep hj (by decide)).trans rfl))))))))))))))))
                  · show 0 ≤ l + 1 ∧ l + 1 ≤ m 107 0
                    omega
                  · omega
                  · exact CAL_old h2 ⟨nl, fw, ft, am, gl, sw, lo, sl, be, mid, gn, abv, ln, en, hft, hgo, hlv, hst⟩ (by omega)
                  · omega
              · refine rb_iconst hV dX9_calmingLine_106 ?_
                refine rb_goto hV (tgt := 111) dX9_calmingLine_107 (by decide) ?_
                refine rb_istore hV (L2 := [some (.inr (some 0)), some (.inl fo), some (.inl st), some (.inl de), some (.inl l), some (.inl (sec (vX m) (m 19) (m 26) l)), some (.inl str), some (.inl 1)]) dX9_calmingLine_111 (Nat.le_of_ble_eq_true rfl) rfl ?_
                refine rb_iload hV dX9_calmingLine_113 rfl ?_
                refine rb_iload_n hV dX9_calmingLine_115 rfl rfl ?_
                refine rb_icmp_lt hV (tgt := 124) dX9_calmingLine_116 (by decide) ⟨(by unfold ab_r at *; omega), (by unfold ab_r at *; omega)⟩ (fun c116 => ?_) (fun c116 => ?_)
                · refine rb_iload hV dX9_calmingLine_124 rfl ?_
                  refine rb_istore_n hV (L2 := [some (.inr (some 0)), some (.inl l), some (.inl st), some (.inl de), some (.inl l), some (.inl (sec (vX m) (m 19) (m 26) l)), some (.inl str), some (.inl 1)]) dX9_calmingLine_126 rfl (Nat.le_of_ble_eq_true rfl) rfl ?_
                  refine rb_iload hV dX9_calmingLine_127 rfl ?_
                  refine rb_istore_n hV (L2 := [some (.inr (some 0)), some (.inl l), some (.inl str), some (.inl de), some (.inl l), some (.inl (sec (vX m) (m 19) (m 26) l)), some (.inl str), some (.inl 1)]) dX9_calmingLine_129 rfl (Nat.le_of_ble_eq_true rfl) rfl ?_
                  refine rb_aload_n hV dX9_calmingLine_130 rfl rfl ?_
                  refine rb_get hV (v := .inr (some 37)) dX9_calmingLine_131 ⟨RX9, TX9, 8, rfl, (Nat.le_of_ble_eq_true rfl), lf_X9_64⟩ (gw_0 _) rfl ?_
                  refine rb_get hV (v := .inl dem) dX9_calmingLine_134 ⟨RX1, TX1, 12, rfl, (Nat.le_of_ble_eq_true rfl), lf_X9_138⟩ (gw_37 _) rfl ?_
                  refine rb_istore_n hV (L2 := [some (.inr (some 0)), some (.inl l), some (.inl str), some (.inl dem), some (.inl l), some (.inl (sec (vX m) (m 19) (m 26) l)), some (.inl str), some (.inl 1)]) dX9_calmingLine_137 rfl (Nat.le_of_ble_eq_true rfl) rfl ?_
                  refine rb_iinc hV (L2 := [some (.inr (some 0)), some (.inl l), some (.inl str), some (.inl dem), some (.inl (l + 1)), some (.inl (sec (vX m) (m 19) (m 26) l)), some (.inl str), some (.inl 1)]) dX9_calmingLine_138 rfl rfl rfl ?_
                  refine rb_goto hV (tgt := 18) dX9_calmingLine_141 (by decide) ?_
                  refine rb_weak hV (L2 := [some (.inr (some 0)), some (.inl l), some (.inl str), some (.inl dem), some (.inl (l + 1)), none, none, none]) ⟨rfl, ⟨rfl, ⟨rfl, ⟨rfl, ⟨rfl, trivial⟩⟩⟩⟩⟩ ?_
                  refine ih18 (ab_s (ab_s (ab_s (ab_s (ab_s (ab_s (ab_s (ab_s (ab_s (ab_s (ab_s (ab_s (ab_s (ab_s (ab_s m 112 (fun _ => nl)) 38 fw) 113 (fun _ => dem)) 42 sw) 39 lo) 40 sl) 41 be) 114 (fun _ => am)) 115 (fun _ => str)) 116 (fun _ => gl)) 45 mid) 47 gn) 46 abv) 44 ln) 48 en) l str dem (l + 1) ?_ ?_ ?_ ?_ ?_ ?_
                  · exact XI_tr hx hst.2.2.1 (RVX_ln hst.2.2.2) rfl
                  · exact KEEP_trans hk (fun j hj => ((ab_keep hj (by decide)).trans ((ab_keep hj (by decide)).trans ((ab_keep hj (by decide)).trans ((ab_keep hj (by decide)).trans ((ab_keep hj (by decide)).trans ((ab_keep hj (by decide)).trans ((ab_keep hj (by decide)).trans ((ab_keep hj (by decide)).trans ((ab_keep hj (by decide)).trans ((ab_keep hj (by decide)).trans ((ab_keep hj (by decide)).trans ((ab_keep hj (by decide)).trans ((ab_keep hj (by decide)).trans ((ab_keep hj (by decide)).trans ((ab_keep hj (by decide)).trans rfl))))))))))))))))
                  · show 0 ≤ l + 1 ∧ l + 1 ≤ m 107 0
                    omega
                  · omega
                  · exact CAL_new h1.1 hs1 h2 ⟨nl, fw, ft, am, gl, sw, lo, sl, be, mid, gn, abv, ln, en, hft, hgo, hlv, hst⟩ (by omega)
                  · omega
                · refine rb_iload hV dX9_calmingLine_119 rfl ?_
                  refine rb_if_eq hV (tgt := 138) dX9_calmingLine_121 (by decide) (by unfold ab_r at *; omega) (fun z => absurd z (by decide)) (fun _ => ?_)
                  refine rb_iload hV dX9_calmingLine_124 rfl ?_
                  refine rb_istore_n hV (L2 := [some (.inr (some 0)), some (.inl l), some (.inl st), some (.inl de), some (.inl l), some (.inl (sec (vX m) (m 19) (m 26) l)), some (.inl str), some (.inl 1)]) dX9_calmingLine_126 rfl (Nat.le_of_ble_eq_true rfl) rfl ?_
                  refine rb_iload hV dX9_calmingLine_127 rfl ?_
                  refine rb_istore_n hV (L2 := [some (.inr (some 0)), some (.inl l), some (.inl str), some (.inl de), some (.inl l), some (.inl (sec (vX m) (m 19) (m 26) l)), some (.inl str), some (.inl 1)]) dX9_calmingLine_129 rfl (Nat.le_of_ble_eq_true rfl) rfl ?_
                  refine rb_aload_n hV dX9_calmingLine_130 rfl rfl ?_
                  refine rb_get hV (v := .inr (some 37)) dX9_calmingLine_131 ⟨RX9, TX9, 8, rfl, (Nat.le_of_ble_eq_true rfl), lf_X9_64⟩ (gw_0 _) rfl ?_
                  refine rb_get hV (v := .inl dem) dX9_calmingLine_134 ⟨RX1, TX1, 12, rfl, (Nat.le_of_ble_eq_true rfl), lf_X9_138⟩ (gw_37 _) rfl ?_
                  refine rb_istore_n hV (L2 := [some (.inr (some 0)), some (.inl l), some (.inl str), some (.inl dem), some (.inl l), some (.inl (sec (vX m) (m 19) (m 26) l)), some (.inl str), some (.inl 1)]) dX9_calmingLine_137 rfl (Nat.le_of_ble_eq_true rfl) rfl ?_
                  refine rb_iinc hV (L2 := [some (.inr (some 0)), some (.inl l), some (.inl str), some (.inl dem), some (.inl (l + 1)), some (.inl (sec (vX m) (m 19) (m 26) l)), some (.inl str), some (.inl 1)]) dX9_calmingLine_138 rfl rfl rfl ?_
                  refine rb_goto hV (tgt := 18) dX9_calmingLine_141 (by decide) ?_
                  refine rb_weak hV (L2 := [some (.inr (some 0)), some (.inl l), some (.inl str), some (.inl dem), some (.inl (l + 1)), none, none, none]) ⟨rfl, ⟨rfl, ⟨rfl, ⟨rfl, ⟨rfl, trivial⟩⟩⟩⟩⟩ ?_
                  refine ih18 (ab_s (ab_s (ab_s (ab_s (ab_s (ab_s (ab_s (ab_s (ab_s (ab_s (ab_s (ab_s (ab_s (ab_s (ab_s m 112 (fun _ => nl)) 38 fw) 113 (fun _ => dem)) 42 sw) 39 lo) 40 sl) 41 be) 114 (fun _ => am)) 115 (fun _ => str)) 116 (fun _ => gl)) 45 mid) 47 gn) 46 abv) 44 ln) 48 en) l str dem (l + 1) ?_ ?_ ?_ ?_ ?_ ?_
                  · exact XI_tr hx hst.2.2.1 (RVX_ln hst.2.2.2) rfl
                  · exact KEEP_trans hk (fun j hj => ((ab_keep hj (by decide)).trans ((ab_keep hj (by decide)).trans ((ab_keep hj (by decide)).trans ((ab_keep hj (by decide)).trans ((ab_keep hj (by decide)).trans ((ab_keep hj (by decide)).trans ((ab_keep hj (by decide)).trans ((ab_keep hj (by decide)).trans ((ab_keep hj (by decide)).trans ((ab_keep hj (by decide)).trans ((ab_keep hj (by decide)).trans ((ab_keep hj (by decide)).trans ((ab_keep hj (by decide)).trans ((ab_keep hj (by decide)).trans ((ab_keep hj (by decide)).trans rfl))))))))))))))))
                  · show 0 ≤ l + 1 ∧ l + 1 ≤ m 107 0
                    omega
                  · omega
                  · exact CAL_new h1.1 hs1 h2 ⟨nl, fw, ft, am, gl, sw, lo, sl, be, mid, gn, abv, ln, en, hft, hgo, hlv, hst⟩ (by omega)
                  · omega
        · refine rb_goto hV (tgt := 138) dX9_calmingLine_47 (by decide) ?_
          refine rb_iinc hV (L2 := [some (.inr (some 0)), some (.inl fo), some (.inl st), some (.inl de), some (.inl (l + 1)), some (.inl (sec (vX m) (m 19) (m 26) l)), none, none]) dX9_calmingLine_138 rfl rfl rfl ?_
          refine rb_goto hV (tgt := 18) dX9_calmingLine_141 (by decide) ?_
          refine rb_weak hV (L2 := [some (.inr (some 0)), some (.inl fo), some (.inl st), some (.inl de), some (.inl (l + 1)), none, none, none]) ⟨rfl, ⟨rfl, ⟨rfl, ⟨rfl, ⟨rfl, trivial⟩⟩⟩⟩⟩ ?_
          refine ih18 m fo st de (l + 1) ?_ ?_ ?_ ?_ ?_ ?_
          · exact hx
          · exact hk
          · omega
          · omega
          · exact CAL_skip h2 (by omega)
          · omega
  refine h18 _ s (-1) (s 110 0) 0 0 ?_ ?_ ?_ ?_ ?_ (Nat.lt_succ_self _)
  · exact hx
  · exact fun k _ => rfl
  · omega
  · omega
  · exact CAL_0 _ _ _ _ _ _
