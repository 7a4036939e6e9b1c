/-! the reference: the line whose second choice breaks up most -/
def SWB : List Nat := [125, 59, 60, 61, 63, 62, 64]
theorem KEEP_vM {s m : Nat → Int → Int} {L : List Nat} (h : KEEP L s m) (h0 : ∀ k, k ∈ [120, 50, 51, 52, 53, 54, 55, 117, 118, 119] → k ∉ L) : vM m = vM s := by
  funext k
  unfold vM
  have q : ∀ k, k ∈ [120, 50, 51, 52, 53, 54, 55, 117, 118, 119] → m k = s k := fun k hk => h k (h0 k hk)
  rw [q 120 (by decide), q 50 (by decide), q 51 (by decide), q 52 (by decide), q 53 (by decide), q 54 (by decide), q 55 (by decide), q 117 (by decide), q 118 (by decide), q 119 (by decide)]
theorem LV_congr {d : Nat → Int → Int} {fw fw2 : Int → Int} {nl : Int} (h : LV d fw nl) (hf : ∀ j, 0 ≤ j → j ≤ nl → fw2 j = fw j) : LV d fw2 nl := by
  refine ⟨h.1, fun i a b => ?_, fun q => ?_⟩
  · have := h.2.1 i a b
    rw [hf i a (by omega), hf (i + 1) (by omega) (by omega)]
    exact this
  · rw [hf 0 (Int.le_refl 0) h.1.1, hf nl h.1.1 (Int.le_refl _)]
    exact h.2.2 q
theorem sec_congr {d : Nat → Int → Int} {bs fw fw2 : Int → Int} {l : Int} (h1 : fw2 l = fw l) (h2 : fw2 (l + 1) = fw (l + 1)) : sec d bs fw2 l = sec d bs fw l := by
  have e : sc d bs fw2 l = sc d bs fw l := by
    funext b
    unfold sc
    rw [h1, h2]
  unfold sec
  rw [e, h1]
theorem SDm_congr {d : Nat → Int → Int} {bs fw fw2 : Int → Int} {l : Int} (h : ∀ j, 0 ≤ j → j ≤ l + 1 → fw2 j = fw j) (h0 : 0 ≤ l) : SDm d bs fw2 l = SDm d bs fw l := by
  have e : Sm (ldm d fw2) 0 l = Sm (ldm d fw) 0 l := Sm_congr fun j a b => by
    unfold ldm
    rw [h j a (by omega), h (j + 1) (by omega) (by omega)]
  unfold SDm
  rw [e, sec_congr (h l h0 (by omega)) (h (l + 1) (by omega) (by omega)), h l h0 (by omega)]
/-- a layout with the second choice of line l: its strength a -/
def WSM (d : Nat → Int → Int) (bs be fw : Int → Int) (l a : Int) : Prop := ∃ (nl2 : Int) (fw2 ft sw lo bg ln : Int → Int) (dem am gl : Int) (gn abv en : Int → Int), (∀ j, 0 ≤ j → j ≤ l → ft j = fw j) ∧ (nl2, fw2) = go be (d 0 0) (d 0 0 - (sec d bs fw l + 1)).toNat (l + 1) (sec d bs fw l + 1) ft ∧ LV d fw2 nl2 ∧ MSX d fw2 nl2 sw lo bg ln dem am a gl gn abv en
theorem WSM_congr {d : Nat → Int → Int} {bs be fw fw2 : Int → Int} {l a : Int} (h0 : 0 ≤ l) (h : ∀ j, 0 ≤ j → j ≤ l + 1 → fw2 j = fw j) (hw : WSM d bs be fw2 l a) : WSM d bs be fw l a := by
  obtain ⟨nl2, f2, ft, sw, lo, bg, ln, dem, am, gl, gn, abv, en, h1, h2, h3, h4⟩ := hw
  rw [sec_congr (h l h0 (by omega)) (h (l + 1) (by omega) (by omega))] at h2
  exact ⟨nl2, f2, ft, sw, lo, bg, ln, dem, am, gl, gn, abv, en, fun j a b => (h1 j a b).trans (h j a (by omega)), h2, h3, h4⟩
def BRP (d : Nat → Int → Int) (bs be fw : Int → Int) (l fo st : Int) : Prop := ∃ g : Int → Int, (∀ i, 0 ≤ i → i < l → ¬ sec d bs fw i = -1 → WSM d bs be fw i (g i)) ∧
  ((fo = -1 ∧ ∀ i, 0 ≤ i → i < l → sec d bs fw i = -1) ∨
   (0 ≤ fo ∧ fo < l ∧ ¬ sec d bs fw fo = -1 ∧ st = g fo ∧ ∀ i, 0 ≤ i → i < l → ¬ sec d bs fw i = -1 → g fo ≤ g i ∧ (g i = g fo → SDm d bs fw fo ≤ SDm d bs fw i ∧ (SDm d bs fw i = SDm d bs fw fo → fo ≤ i))))
theorem BRP_0 (d : Nat → Int → Int) (bs be fw : Int → Int) (st : Int) : BRP d bs be fw 0 (-1) st := ⟨fun _ => 0, fun i a b => by omega, Or.inl ⟨rfl, fun i a b => by omega⟩⟩
theorem BRP_skip {d : Nat → Int → Int} {bs be fw : Int → Int} {l fo st : Int} (h : BRP d bs be fw l fo st) (hs : sec d bs fw l = -1) : BRP d bs be fw (l + 1) fo st := by
  obtain ⟨g, h1, h2⟩ := h
  have key : ∀ i, i < l + 1 → ¬ sec d bs fw i = -1 → i < l := fun i a b => by
    rcases Int.lt_or_le i l with q | q
    · exact q
    · exact absurd ((show i = l by omega) ▸ hs) b
  refine ⟨g, fun i a b c => h1 i a (key i b c) c, ?_⟩
  rcases h2 with ⟨x1, x2⟩ | ⟨x1, x2, x3, x4, x7⟩
  · refine Or.inl ⟨x1, fun i a b => ?_⟩
    by_cases q : sec d bs fw i = -1
    · exact q
    · exact x2 i a (key i b q)
  · exact Or.inr ⟨x1, by omega, x3, x4, fun i a b c => x7 i a (key i b c) c⟩
theorem BRP_more {d : Nat → Int → Int} {bs be fw : Int → Int} {l a : Int} {g : Int → Int} (h1 : ∀ i, 0 ≤ i → i < l → ¬ sec d bs fw i = -1 → WSM d bs be fw i (g i)) (hw : WSM d bs be fw l a) : ∀ i, 0 ≤ i → i < l + 1 → ¬ sec d bs fw i = -1 → WSM d bs be fw i (ab_u g l a i) := by
  intro i q1 q2 q3
  by_cases q : i = l
  · rw [q, ab_u_eq]
    exact hw
  · rw [ab_u_ne q]
    exact h1 i q1 (by omega) q3
theorem BRP_old {d : Nat → Int → Int} {bs be fw : Int → Int} {l fo st a : Int} (h : BRP d bs be fw l fo st) (hw : WSM d bs be fw l a) (hf0 : ¬ fo = -1) (hn : ¬ a < st ∧ (¬ a = st ∨ SDm d bs fw fo ≤ SDm d bs fw l)) : BRP d bs be fw (l + 1) fo st := by
  obtain ⟨g, h1, h2⟩ := h
  refine ⟨ab_u g l a, BRP_more h1 hw, ?_⟩
  rcases h2 with ⟨x1, x2⟩ | ⟨x1, x2, x3, x4, x7⟩
  · exact absurd x1 hf0
  · have hf : ¬ fo = l := by omega
    refine Or.inr ⟨x1, by omega, x3, by rw [ab_u_ne hf]; exact x4, fun i q1 q2 q3 => ?_⟩
    rw [ab_u_ne hf]
    by_cases q : i = l
    · rw [q, ab_u_eq]
      refine ⟨by omega, fun z => ⟨by omega, fun _ => by omega⟩⟩
    · rw [ab_u_ne q]
      exact x7 i q1 (by omega) q3
theorem BRP_new {d : Nat → Int → Int} {bs be fw : Int → Int} {l fo st a : Int} (h0 : 0 ≤ l) (hs : ¬ sec d bs fw l = -1) (h : BRP d bs be fw l fo st) (hw : WSM d bs be fw l a) (hn : fo < 0 ∨ a < st ∨ (a = st ∧ SDm d bs fw l < SDm d bs fw fo)) : BRP d bs be fw (l + 1) l a := by
  obtain ⟨g, h1, h2⟩ := h
  refine ⟨ab_u g l a, BRP_more h1 hw, Or.inr ⟨h0, by omega, hs, (ab_u_eq _ _ _).symm, fun i q1 q2 q3 => ?_⟩⟩
  rw [ab_u_eq]
  by_cases q : i = l
  · rw [q, ab_u_eq]
    exact ⟨Int.le_refl _, fun _ => ⟨Int.le_refl _, fun _ => Int.le_refl _⟩⟩
  · rw [ab_u_ne q]
    rcases h2 with ⟨x1, x2⟩ | ⟨x1, x2, x3, x4, x7⟩
    · exact absurd (x2 i q1 (by omega)) q3
    · obtain ⟨y1, y2⟩ := x7 i q1 (by omega) q3
      refine ⟨by omega, fun z => ?_⟩
      have y3 := y2 (by omega)
      refine ⟨by omega, fun z2 => by omega⟩

set_option maxRecDepth 20000 in
theorem c_X10_strengthWith (s : Nat → Int → Int) (l : Int) (hx : MI s) (hl : 0 ≤ l ∧ l < s 125 0) (hs : ¬ sec (vM s) (s 57) (s 59) l = -1) : ab_Mt yX10_strengthWith cX10_strengthWith 5 (some .int) ({ frames := 7, cells := 0, slots := 0, locals := 165 } : Room) false 0 0 [.inr (some 49), .inl l] (WW s) (fun r h2 => ∃ a m, r = some (.inl a) ∧ h2 = WW m ∧ MI m ∧ KEEP SWB s m ∧ m 125 0 = s 125 0 ∧ (∀ j, 0 ≤ j → j ≤ s 125 0 → m 59 j = s 59 j) ∧ WSM (vM s) (s 57) (s 58) (s 59) l a) := by
  refine ab_mk RX10 false rfl pn_X10_strengthWith (fun z => by cases z) (Nat.le_of_ble_eq_true rfl) (fun V hV => ?_)
  show V 0 [some (.inr (some 49)), some (.inl l), none, none, none] [] (WW s) 0 0
  obtain ⟨hp, hbw, hv, hms0, hz0, hx3, hx4⟩ := id hx
  have hn : 0 ≤ s 120 0 ∧ s 120 0 ≤ 60 := hp.1
  have hnl : 0 ≤ s 125 0 ∧ s 125 0 ≤ s 120 0 := hv.1
  have hb := BWq_BS hp hbw
  have hsw := (MST_b hms0).1
  have hln := (MST_b hms0).2
  have hl0 := hv.2.1 l (by omega) (by omega)
  have hl02 : s 59 (l + 1) ≤ s 120 0 := hl0.2.2.1
  have hl03 := hl0.2.1
  have hl01 : 0 ≤ s 59 l := hl0.1
  refine rb_aload_n hV dX10_strengthWith_0 rfl rfl ?_
  refine rb_get hV (v := .inl (s 125 0)) dX10_strengthWith_1 ⟨RX10, TX10, 24, rfl, (Nat.le_of_ble_eq_true rfl), lf_X10_147⟩ (gw_49 _) rfl ?_
  refine rb_istore_n hV (L2 := [some (.inr (some 49)), some (.inl l), some (.inl (s 125 0)), none, none]) dX10_strengthWith_4 rfl (Nat.le_of_ble_eq_true rfl) rfl ?_
  refine rb_iconst hV dX10_strengthWith_5 ?_
  refine rb_istore_n hV (L2 := [some (.inr (some 49)), some (.inl l), some (.inl (s 125 0)), some (.inl 0), none]) dX10_strengthWith_6 rfl (Nat.le_of_ble_eq_true rfl) rfl ?_
  refine rb_heq (b := (ab_s s 64 (s 64))) (ab_s_id rfl).symm ?_
  have h7 : ∀ (n7 : Nat) (k : Int) (kf : Int → Int), (0 ≤ k ∧ k ≤ s 125 0 + 1) → (∀ j, 0 ≤ j → j < k → kf j = s 59 j) → ((s 125 0 + 1 - k).toNat) < n7 → V 7 [some (.inr (some 49)), some (.inl l), some (.inl (s 125 0)), some (.inl k), none] [] (WW (ab_s s 64 kf)) 0 0 := by
    intro n7
    induction n7 with
    | zero => intro k kf h1 h2 hm; omega
    | succ n7 ih7 =>
      intro k kf h1 h2 hm
      refine rb_iload_n hV dX10_strengthWith_7 rfl rfl ?_
      refine rb_aload_n hV dX10_strengthWith_8 rfl rfl ?_
      refine rb_get hV (v := .inl (s 125 0)) dX10_strengthWith_9 ⟨RX10, TX10, 24, rfl, (Nat.le_of_ble_eq_true rfl), lf_X10_147⟩ (gw_49 _) rfl ?_
      refine rb_icmp_gt hV (tgt := 33) dX10_strengthWith_12 (by decide) ⟨(by unfold ab_r at *; omega), (by unfold ab_r at *; omega)⟩ (fun c12 => ?_) (fun c12 => ?_)
      · refine rb_aload_n hV dX10_strengthWith_33 rfl rfl ?_
        refine rb_iload_n hV dX10_strengthWith_34 rfl rfl ?_
        refine rb_callV hV (rest := []) dX10_strengthWith_35 (c_X10_takesSecond (ab_s s 64 kf) l (show MI (ab_s s 64 kf) from hx) hl hs) lk_X10_204 rfl (Or.inl ⟨9, _, TX10, 24, gw_49 _, rfl⟩) rfl ⟨rfl, rfl, (Nat.le_of_ble_eq_true rfl), (Nat.le_of_ble_eq_true rfl), (Nat.le_of_ble_eq_true rfl), (Nat.le_of_ble_eq_true rfl)⟩ (Nat.le_of_ble_eq_true rfl) (fun r9 h9 p9 => ?_)
        obtain ⟨s2, rfl, rfl, hmi, hkeep, hgo⟩ := p9
        show V 38 [some (.inr (some 49)), some (.inl l), some (.inl (s 125 0)), some (.inl k), none] [] (WW s2) 0 0
        have hvs : vM s2 = vM s := KEEP_vM (s := ab_s s 64 kf) (L := LBM) hkeep (by decide)
        have hk64 : s2 64 = kf := hkeep 64 (by decide)
        have hwb := MST_b hmi.2.2.2.1
        refine rb_aload_n hV dX10_strengthWith_38 rfl rfl ?_
        refine rb_callV hV (rest := []) dX10_strengthWith_39 (c_X10_strength s2 hmi) lk_X10_236 rfl (Or.inl ⟨9, _, TX10, 24, gw_49 _, rfl⟩) rfl ⟨rfl, rfl, (Nat.le_of_ble_eq_true rfl), (Nat.le_of_ble_eq_true rfl), (Nat.le_of_ble_eq_true rfl), (Nat.le_of_ble_eq_true rfl)⟩ (Nat.le_of_ble_eq_true rfl) (fun r9 h9 p9 => ?_)
        obtain ⟨v9, rfl, rfl, hst9⟩ := p9
        show V 42 [some (.inr (some 49)), some (.inl l), some (.inl (s 125 0)), some (.inl k), none] [.inl v9] (WW s2) 0 0
        refine rb_istore_n hV (L2 := [some (.inr (some 49)), some (.inl l), some (.inl (s 125 0)), some (.inl v9), none]) dX10_strengthWith_42 rfl (Nat.le_of_ble_eq_true rfl) rfl ?_
        refine rb_aload_n hV dX10_strengthWith_43 rfl rfl ?_
        refine rb_iload_n hV dX10_strengthWith_44 rfl rfl ?_
        refine rb_put hV (C := RX10) (T := TX10) (N := 24) (ci := 9) (j := 17) dX10_strengthWith_45 rfl (Nat.le_of_ble_eq_true rfl) lf_X10_147 rfl (gw_49 _) (Nat.le_of_ble_eq_true rfl) (ft_X10_17 _) (pw_49_17 _ _) ?_
        refine rb_iconst hV dX10_strengthWith_48 ?_
        refine rb_istore hV (L2 := [some (.inr (some 49)), some (.inl l), some (.inl (s 125 0)), some (.inl v9), some (.inl 0)]) dX10_strengthWith_49 (Nat.le_of_ble_eq_true rfl) rfl ?_
        refine rb_heq (b := (ab_s (ab_s s2 125 (fun _ => (s 125 0))) 59 (s2 59))) (ab_s_id rfl).symm ?_
        have h51 : ∀ (n51 : Nat) (q : Int) (f : Int → Int), (0 ≤ q ∧ q ≤ s 125 0 + 1) → (∀ j, 0 ≤ j → j < q → f j = s 59 j) → ((s 125 0 + 1 - q).toNat) < n51 → V 51 [some (.inr (some 49)), some (.inl l), some (.inl (s 125 0)), some (.inl v9), some (.inl q)] [] (WW (ab_s (ab_s s2 125 (fun _ => (s 125 0))) 59 f)) 0 0 := by
          intro n51
          induction n51 with
          | zero => intro q f g1 g2 hm; omega
          | succ n51 ih51 =>
            intro q f g1 g2 hm
            refine rb_iload hV dX10_strengthWith_51 rfl ?_
            refine rb_aload_n hV dX10_strengthWith_53 rfl rfl ?_
            refine rb_get hV (v := .inl (s 125 0)) dX10_strengthWith_54 ⟨RX10, TX10, 24, rfl, (Nat.le_of_ble_eq_true rfl), lf_X10_147⟩ (gw_49 _) rfl ?_
            refine rb_icmp_gt hV (tgt := 80) dX10_strengthWith_57 (by decide) ⟨(by unfold ab_r at *; omega), (by unfold ab_r at *; omega)⟩ (fun c57 => ?_) (fun c57 => ?_)
            · have hLf : LV (vM s2) f (s 125 0) := by
                rw [hvs]
                exact LV_congr hv (fun j a b => g2 j a (by omega))
              refine rb_aload_n hV dX10_strengthWith_80 rfl rfl ?_
              refine rb_callV hV (rest := []) dX10_strengthWith_81 (c_X10_layOut (ab_s (ab_s s2 125 (fun _ => (s 125 0))) 59 f) hmi.1 hLf (show 0 < s 125 0 by omega) hwb.1 hwb.2) lk_X10_179 rfl (Or.inl ⟨9, _, TX10, 24, gw_49 _, rfl⟩) rfl ⟨rfl, rfl, (Nat.le_of_ble_eq_true rfl), (Nat.le_of_ble_eq_true rfl), (Nat.le_of_ble_eq_true rfl), (Nat.le_of_ble_eq_true rfl)⟩ (Nat.le_of_ble_eq_true rfl) (fun r9 h9 p9 => ?_)
              obtain ⟨rfl, bg, sw, lo, ln, rfl, hsb, hms⟩ := p9
              show V 84 [some (.inr (some 49)), some (.inl l), some (.inl (s 125 0)), some (.inl v9), some (.inl q)] [] (WW (ab_s (ab_s (ab_s (ab_s (ab_s (ab_s s2 125 (fun _ => (s 125 0))) 59 f) 60 bg) 61 sw) 63 lo) 62 ln)) 0 0
              refine rb_iload_n hV dX10_strengthWith_84 rfl rfl ?_
              refine rb_ret hV (r := some (.inl v9)) dX10_strengthWith_85 rfl ⟨(Nat.le_of_ble_eq_true rfl), (Nat.le_of_ble_eq_true rfl)⟩ trivial ?_
              have hff : ∀ j, 0 ≤ j → j ≤ s 125 0 → f j = s 59 j := fun j a b => g2 j a (by omega)
              have hkp : KEEP SWB s (ab_s (ab_s (ab_s (ab_s (ab_s (ab_s s2 125 (fun _ => s 125 0)) 59 f) 60 bg) 61 sw) 63 lo) 62 ln) := by
                intro j hj
                have e1 : s2 j = ab_s s 64 kf j := hkeep j (fun q => hj ((by decide : ∀ k, k ∈ LBM → k ∈ SWB) j q))
                have e2 : ab_s s 64 kf j = s j := ab_keep hj (by decide)
                exact ((ab_keep hj (by decide)).trans ((ab_keep hj (by decide)).trans ((ab_keep hj (by decide)).trans ((ab_keep hj (by decide)).trans ((ab_keep hj (by decide)).trans (ab_keep hj (by decide))))))).trans (e1.trans e2)
              refine ⟨v9, _, rfl, rfl, ⟨hmi.1, hmi.2.1, hLf, hms, ?_, hmi.2.2.2.2.2⟩, hkp, rfl, hff, ?_⟩
              · show s 125 0 = 0 ↔ ¬ (0 < s2 120 0 ∧ 0 ≤ s2 57 0)
                rw [show s2 120 = s 120 from hkeep 120 (by decide), show s2 57 = s 57 from hkeep 57 (by decide)]
                exact hz0
              · obtain ⟨dem, am, gl, gn, abv, en, hst⟩ := hst9
                replace hst : MSX (vM s2) (s2 59) (s2 125 0) (s2 61) (s2 63) (s2 60) (s2 62) dem am v9 gl gn abv en := hst
                rw [hvs] at hst
                refine ⟨s2 125 0, s2 59, s 59, _, _, _, _, dem, am, gl, gn, abv, en, fun _ _ _ => rfl, hgo, ?_, hst⟩
                rw [← hvs]
                exact hmi.2.2.1
            · refine rb_aload_n hV dX10_strengthWith_60 rfl rfl ?_
              refine rb_get hV (v := .inr (some 59)) dX10_strengthWith_61 ⟨RX10, TX10, 24, rfl, (Nat.le_of_ble_eq_true rfl), lf_X10_48⟩ (gw_49 _) rfl ?_
              refine rb_iload hV dX10_strengthWith_64 rfl ?_
              refine rb_aload_n hV dX10_strengthWith_66 rfl rfl ?_
              refine rb_get hV (v := .inr (some 64)) dX10_strengthWith_67 ⟨RX10, TX10, 24, rfl, (Nat.le_of_ble_eq_true rfl), lf_X10_63⟩ (gw_49 _) rfl ?_
              refine rb_iload hV dX10_strengthWith_70 rfl ?_
              refine rb_iald hV (f := (s2 64)) dX10_strengthWith_72 (gw_64 _) (Nat.le_of_ble_eq_true rfl) (by omega) ?_
              refine rb_iast hV (f := (f)) dX10_strengthWith_73 (gw_59 _) (Nat.le_of_ble_eq_true rfl) (by omega) rfl ((pw_59 _ _).trans (congrArg WW (ab_s_same _ 59 _ _))) ?_
              refine rb_iinc hV (L2 := [some (.inr (some 49)), some (.inl l), some (.inl (s 125 0)), some (.inl v9), some (.inl (q + 1))]) dX10_strengthWith_74 rfl rfl rfl ?_
              refine rb_goto hV (tgt := 51) dX10_strengthWith_77 (by decide) ?_
              refine ih51 (q + 1) (ab_u (f) q (s2 64 q)) ?_ ?_ ?_
              · omega
              · intro j q1 q2
                by_cases e : j = q
                · rw [e, ab_u_eq, hk64]
                  exact h2 q g1.1 (by omega)
                · rw [ab_u_ne e]
                  exact g2 j q1 (by omega)
              · omega
        refine h51 _ 0 (s2 59) ?_ ?_ (Nat.lt_succ_self _)
        · omega
        · intro j q1 q2; omega
      · refine rb_aload_n hV dX10_strengthWith_15 rfl rfl ?_
        refine rb_get hV (v := .inr (some 64)) dX10_strengthWith_16 ⟨RX10, TX10, 24, rfl, (Nat.le_of_ble_eq_true rfl), lf_X10_63⟩ (gw_49 _) rfl ?_
        refine rb_iload_n hV dX10_strengthWith_19 rfl rfl ?_
        refine rb_aload_n hV dX10_strengthWith_20 rfl rfl ?_
        refine rb_get hV (v := .inr (some 59)) dX10_strengthWith_21 ⟨RX10, TX10, 24, rfl, (Nat.le_of_ble_eq_true rfl), lf_X10_48⟩ (gw_49 _) rfl ?_
        refine rb_iload_n hV dX10_strengthWith_24 rfl rfl ?_
        refine rb_iald hV (f := (s 59)) dX10_strengthWith_25 (gw_59 _) (Nat.le_of_ble_eq_true rfl) (by omega) ?_
        refine rb_iast hV (f := (kf)) dX10_strengthWith_26 (gw_64 _) (Nat.le_of_ble_eq_true rfl) (by omega) rfl ((pw_64 _ _).trans (congrArg WW (ab_s_same _ 64 _ _))) ?_
        refine rb_iinc hV (L2 := [some (.inr (some 49)), some (.inl l), some (.inl (s 125 0)), some (.inl (k + 1)), none]) dX10_strengthWith_27 rfl rfl rfl ?_
        refine rb_goto hV (tgt := 7) dX10_strengthWith_30 (by decide) ?_
        refine ih7 (k + 1) (ab_u (kf) k (s 59 k)) ?_ ?_ ?_
        · omega
        · intro j q1 q2
          by_cases e : j = k
          · rw [e, ab_u_eq]
          · rw [ab_u_ne e]
            exact h2 j q1 (by omega)
        · omega
  refine h7 _ 0 (s 64) ?_ ?_ (Nat.lt_succ_self _)
  · omega
  · intro j q1 q2; omega
