/-! the reference: the readers -/
def ycount (s : Nat → Int → Int) (am str gl w : Int) : Int :=
  if w = 0 then s 120 0 else if w = 1 then s 125 0 else if w = 2 then Sm (ldm (vM s) (s 59)) 0 (s 125 0) else if w = 3 then (if s 125 0 = 0 then 0 else s 57 0) else if w = 4 then am else if w = 5 then gl else if w = 6 then str else if w = 7 then s 117 0 else if w = 8 then s 118 0 else if w = 9 then s 119 0 else -1002
def YCT (s : Nat → Int → Int) (w v : Int) : Prop := ∃ dem am str gl gn abv en, MSs s dem am str gl gn abv en ∧ v = ycount s am str gl w
def yspw (s : Nat → Int → Int) (k w : Int) : Int := if ¬ (0 ≤ k ∧ k ≤ 2) then -1001 else if 0 ≤ w ∧ w ≤ 2 then s 50 (3 * k + w) else -1002
def yword (s : Nat → Int → Int) (w k : Int) : Int := if ¬ (0 ≤ w ∧ w < s 120 0) then -1001 else if k = 0 then s 51 w else if k = 1 then s 52 w else if k = 2 then s 53 w else if k = 3 then (if s 125 0 = 0 then -1004 else s 63 w) else -1002
def yline (s : Nat → Int → Int) (l k : Int) : Int := if ¬ (0 ≤ l ∧ l < s 125 0) then -1001 else
  if k = 0 then s 59 l else if k = 1 then s 59 (l + 1) - 1 else if k = 2 then nt (vM s) (s 59 l) (s 59 (l + 1) - 1) else if k = 3 then df (vM s) (s 59 l) (s 59 (l + 1) - 1) else if k = 4 then bd (vM s) (s 59 l) (s 59 (l + 1) - 1) else if k = 5 then dm (vM s) (s 59 l) (s 59 (l + 1) - 1)
  else if k = 6 then hL (vM s) (s 59 l) else if k = 7 then hR (vM s) (s 59 (l + 1) - 1) else if k = 8 then s 60 (s 59 (l + 1) - 1) + s 51 (s 59 (l + 1) - 1) - hR (vM s) (s 59 (l + 1) - 1) else -1002
def yspace (s : Nat → Int → Int) (l p k : Int) : Int := if ¬ (0 ≤ l ∧ l < s 125 0) then -1001 else if ¬ (0 ≤ p ∧ p ≤ s 59 (l + 1) - 1 - s 59 l - 1) then -1001 else
  if k = 0 then s 61 (s 59 l + p) else if k = 1 then s 60 (s 59 l + p) + s 51 (s 59 l + p) else if k = 2 then s 53 (s 59 l + p) else if k = 3 then s 62 (s 59 l + p) else -1002
def ybegin (s : Nat → Int → Int) (w : Int) : Int := if ¬ (0 ≤ w ∧ w < s 120 0) then -1001 else if s 125 0 = 0 then -1004 else s 60 w
def ysecond (s : Nat → Int → Int) (l k : Int) : Int := if ¬ (0 ≤ l ∧ l < s 125 0) then -1001 else if ¬ (0 ≤ k ∧ k ≤ 1) then -1002 else if sec (vM s) (s 57) (s 59) l < 0 then -1004 else if k = 0 then sec (vM s) (s 57) (s 59) l else SDm (vM s) (s 57) (s 59) l
theorem ei_rank {sl ln gn : Int → Int} {n x : Int} (h0 : 0 ≤ x) (h1 : x < n) (he : ei sl ln gn x = 1) : 0 ≤ Sm (ei sl ln gn) 0 x ∧ Sm (ei sl ln gn) 0 x < Sm (ei sl ln gn) 0 n := by
  have a := Sei_b sl ln gn h0
  have b := Sm_split (ei sl ln gn) (a := 0) (b := x + 1) (c := n) (by omega) (by omega)
  have e := Sm_succ (ei sl ln gn) (a := 0) (b := x) h0
  have f := Sm_bound (f := ei sl ln gn) (lo := 0) (hi := 1) (a := x + 1) (b := n) (by omega) (fun j _ _ => ei_b sl ln gn j)
  omega
/-- the greatest length of all -/
def GLM (s : Nat → Int → Int) (w g : Int) : Prop := (0 < s 125 0 → 0 ≤ g ∧ (∀ v, 0 ≤ v → v < w → s 62 v ≤ g) ∧ (g = 0 ∨ ∃ v, 0 ≤ v ∧ v < w ∧ s 62 v = g)) ∧ (¬ 0 < s 125 0 → g = 0)
theorem GLM_b {s : Nat → Int → Int} {w g : Int} (h : GLM s w g) (hl : ∀ v, 0 ≤ s 62 v ∧ s 62 v ≤ 60) : 0 ≤ g ∧ g ≤ 60 := by
  by_cases q : 0 < s 125 0
  · obtain ⟨a, b, c⟩ := h.1 q
    refine ⟨a, ?_⟩
    rcases c with c | ⟨v, c1, c2, c3⟩
    · omega
    · rw [← c3]
      exact (hl v).2
  · have := h.2 q
    omega
theorem GLM_up {s : Nat → Int → Int} {w g : Int} (h0 : 0 ≤ w) (hn : 0 < s 125 0) (h : GLM s w g) (hg : g < s 62 w) : GLM s (w + 1) (s 62 w) := by
  obtain ⟨a, b, c⟩ := h.1 hn
  refine ⟨fun _ => ⟨by omega, fun v q1 q2 => ?_, Or.inr ⟨w, h0, by omega, rfl⟩⟩, fun q => absurd hn q⟩
  by_cases e : v = w
  · rw [e]
    exact Int.le_refl _
  · have := b v q1 (by omega)
    omega
theorem GLM_no {s : Nat → Int → Int} {w g : Int} (hn : 0 < s 125 0) (h : GLM s w g) (hg : s 62 w ≤ g) : GLM s (w + 1) g := by
  obtain ⟨a, b, c⟩ := h.1 hn
  refine ⟨fun _ => ⟨a, fun v q1 q2 => ?_, c.imp id fun ⟨v, z1, z2, z3⟩ => ⟨v, z1, by omega, z3⟩⟩, fun q => absurd hn q⟩
  by_cases e : v = w
  · rw [e]
    exact hg
  · exact b v q1 (by omega)
theorem GLM_end {s : Nat → Int → Int} {dem am str gl g : Int} {gn abv en : Int → Int} (hp : PI (vM s)) (hv : LV (vM s) (s 59) (s 125 0)) (hm : MSs s dem am str gl gn abv en) (h : GLM s (s 120 0) g ∨ (s 125 0 ≤ 0 ∧ g = 0)) : g = gl := by
  by_cases q : 0 < s 125 0
  · have hlm : LM s := LM_of hp hv q hm
    obtain ⟨a, b, c⟩ := (h.resolve_right (by omega)).1 q
    rcases hm.1.2.2.2 with z | z
    · exact absurd z.1 (by omega)
    · have hG : GLp (slM s) (s 62) (s 120 0 - 1) gl := z.2.2.2.2.1
      have hn : 0 ≤ s 120 0 ∧ s 120 0 ≤ 60 := hp.1
      refine GLp_uniq (fun v _ _ => Iff.rfl) (fun v _ _ _ => rfl) ⟨a, fun v q1 q2 q3 => b v q1 (by omega), ?_⟩ hG
      rcases c with c | ⟨v, c1, c2, c3⟩
      · exact Or.inl c
      · by_cases hs : slM s v = -1
        · have hl : s 62 v = 0 := hm.2.2 (by omega) v c1 c2 hs
          exact Or.inl (by omega)
        · exact Or.inr ⟨v, c1, sl_lt hlm c1 c2 hs, hs, c3⟩
  · have hnl : 0 ≤ s 125 0 ∧ s 125 0 ≤ s 120 0 := hv.1
    have e := (EN_no hm (by omega)).2.2
    rcases h with h | h
    · rw [h.2 q, e]
    · rw [h.2, e]

set_option maxRecDepth 20000 in
theorem c_X10_count (s : Nat → Int → Int) (what : Int) (hw0 : ab_r what) (hx : MI s) : ab_Mt yX10_count cX10_count 4 (some .int) ({ frames := 6, cells := 0, slots := 0, locals := 141 } : Room) false 0 0 [.inr (some 49), .inl what] (WW s) (fun r h2 => ∃ v, r = some (.inl v) ∧ h2 = WW s ∧ YCT s what v) := by
  refine ab_mk RX10 false rfl pn_X10_count (fun z => by cases z) (Nat.le_of_ble_eq_true rfl) (fun V hV => ?_)
  show V 0 [some (.inr (some 49)), some (.inl what), none, none] [] (WW s) 0 0
  obtain ⟨hp, hbw, hv, hms0, hz0, hx3, hx4⟩ := id hx
  have hn : 0 ≤ s 120 0 ∧ s 120 0 ≤ 60 := hp.1
  have hnl : 0 ≤ s 125 0 ∧ s 125 0 ≤ s 120 0 := hv.1
  have hb := BWq_BS hp hbw
  have hsw := (MST_b hms0).1
  have hln := (MST_b hms0).2
  obtain ⟨dem, am, str, gl, gn, abv, en, hmx⟩ := id hms0
  refine rb_iconst hV dX10_count_0 ?_
  refine rb_istore_n hV (L2 := [some (.inr (some 49)), some (.inl what), some (.inl 0), none]) dX10_count_1 rfl (Nat.le_of_ble_eq_true rfl) rfl ?_
  refine rb_iconst hV dX10_count_2 ?_
  refine rb_istore_n hV (L2 := [some (.inr (some 49)), some (.inl what), some (.inl 0), some (.inl 0)]) dX10_count_3 rfl (Nat.le_of_ble_eq_true rfl) rfl ?_
  have h4 : ∀ (n4 : Nat) (g : Int) (w : Int), (0 ≤ w ∧ w ≤ s 120 0) → (GLM s w g) → ((s 120 0 - w).toNat) < n4 → V 4 [some (.inr (some 49)), some (.inl what), some (.inl g), some (.inl w)] [] (WW s) 0 0 := by
    intro n4
    induction n4 with
    | zero => intro g w h1 h2 hm; omega
    | succ n4 ih4 =>
      intro g w h1 h2 hm
      have hgb := GLM_b h2 hln
      have hlw := hln w
      refine rb_iload_n hV dX10_count_4 rfl rfl ?_
      refine rb_aload_n hV dX10_count_5 rfl rfl ?_
      refine rb_get hV (v := .inl (s 120 0)) dX10_count_6 ⟨RX10, TX10, 24, rfl, (Nat.le_of_ble_eq_true rfl), lf_X10_90⟩ (gw_49 _) rfl ?_
      refine rb_icmp_ge hV (tgt := 46) dX10_count_9 (by decide) ⟨(by unfold ab_r at *; omega), (by unfold ab_r at *; omega)⟩ (fun c9 => ?_) (fun c9 => ?_)
      · refine rb_iload_n hV dX10_count_46 rfl rfl ?_
        rcases (show what = 0 ∨ what = 1 ∨ what = 2 ∨ what = 3 ∨ what = 4 ∨ what = 5 ∨ what = 6 ∨ what = 7 ∨ what = 8 ∨ what = 9 ∨ (what < 0 ∨ 9 < what) by omega) with c47 | c47 | c47 | c47 | c47 | c47 | c47 | c47 | c47 | c47 | c47
        · refine rb_tabIn hV (off := 53) (tgt := 100) dX10_count_47 (by unfold ab_r at *; omega) (by omega) (by omega) (by rw [c47]; rfl) (by decide) ?_
          refine rb_aload_n hV dX10_count_100 rfl rfl ?_
          refine rb_get hV (v := .inl (s 120 0)) dX10_count_101 ⟨RX10, TX10, 24, rfl, (Nat.le_of_ble_eq_true rfl), lf_X10_90⟩ (gw_49 _) rfl ?_
          refine rb_ret hV (r := some (.inl (s 120 0))) dX10_count_104 rfl ⟨(Nat.le_of_ble_eq_true rfl), (Nat.le_of_ble_eq_true rfl)⟩ trivial ?_
          subst c47
          exact ⟨_, rfl, rfl, dem, am, str, gl, gn, abv, en, hmx, rfl⟩
        · refine rb_tabIn hV (off := 58) (tgt := 105) dX10_count_47 (by unfold ab_r at *; omega) (by omega) (by omega) (by rw [c47]; rfl) (by decide) ?_
          refine rb_aload_n hV dX10_count_105 rfl rfl ?_
          refine rb_get hV (v := .inl (s 125 0)) dX10_count_106 ⟨RX10, TX10, 24, rfl, (Nat.le_of_ble_eq_true rfl), lf_X10_147⟩ (gw_49 _) rfl ?_
          refine rb_ret hV (r := some (.inl (s 125 0))) dX10_count_109 rfl ⟨(Nat.le_of_ble_eq_true rfl), (Nat.le_of_ble_eq_true rfl)⟩ trivial ?_
          subst c47
          exact ⟨_, rfl, rfl, dem, am, str, gl, gn, abv, en, hmx, rfl⟩
        · refine rb_tabIn hV (off := 63) (tgt := 110) dX10_count_47 (by unfold ab_r at *; omega) (by omega) (by omega) (by rw [c47]; rfl) (by decide) ?_
          refine rb_aload_n hV dX10_count_110 rfl rfl ?_
          refine rb_aload_n hV dX10_count_111 rfl rfl ?_
          refine rb_get hV (v := .inl (s 125 0)) dX10_count_112 ⟨RX10, TX10, 24, rfl, (Nat.le_of_ble_eq_true rfl), lf_X10_147⟩ (gw_49 _) rfl ?_
          refine rb_callV hV (rest := []) dX10_count_115 (c_X10_demeritsBefore s (s 125 0) hp hv (show 0 ≤ (s 125 0) ∧ (s 125 0) ≤ (s 125 0) by omega)) lk_X10_198 rfl (Or.inl ⟨9, _, TX10, 24, gw_49 _, rfl⟩) rfl ⟨rfl, rfl, (Nat.le_of_ble_eq_true rfl), (Nat.le_of_ble_eq_true rfl), (Nat.le_of_ble_eq_true rfl), (Nat.le_of_ble_eq_true rfl)⟩ (Nat.le_of_ble_eq_true rfl) (fun r9 h9 p9 => ?_)
          obtain ⟨rfl, rfl⟩ := p9
          show V 118 [some (.inr (some 49)), some (.inl what), some (.inl g), some (.inl w)] [.inl (Sm (ldm (vM s) (s 59)) 0 (s 125 0))] (WW s) 0 0
          refine rb_ret hV (r := some (.inl (Sm (ldm (vM s) (s 59)) 0 (s 125 0)))) dX10_count_118 rfl ⟨(Nat.le_of_ble_eq_true rfl), (Nat.le_of_ble_eq_true rfl)⟩ trivial ?_
          subst c47
          exact ⟨_, rfl, rfl, dem, am, str, gl, gn, abv, en, hmx, rfl⟩
        · refine rb_tabIn hV (off := 72) (tgt := 119) dX10_count_47 (by unfold ab_r at *; omega) (by omega) (by omega) (by rw [c47]; rfl) (by decide) ?_
          refine rb_aload_n hV dX10_count_119 rfl rfl ?_
          refine rb_get hV (v := .inl (s 125 0)) dX10_count_120 ⟨RX10, TX10, 24, rfl, (Nat.le_of_ble_eq_true rfl), lf_X10_147⟩ (gw_49 _) rfl ?_
          refine rb_if_ne hV (tgt := 130) dX10_count_123 (by decide) (by unfold ab_r at *; omega) (fun c123 => ?_) (fun c123 => ?_)
          · refine rb_aload_n hV dX10_count_130 rfl rfl ?_
            refine rb_get hV (v := .inr (some 57)) dX10_count_131 ⟨RX10, TX10, 24, rfl, (Nat.le_of_ble_eq_true rfl), lf_X10_42⟩ (gw_49 _) rfl ?_
            refine rb_iconst hV dX10_count_134 ?_
            refine rb_iald hV (f := (s 57)) dX10_count_135 (gw_57 _) (Nat.le_of_ble_eq_true rfl) (by omega) ?_
            refine rb_ret hV (r := some (.inl (s 57 0))) dX10_count_136 rfl ⟨(Nat.le_of_ble_eq_true rfl), (Nat.le_of_ble_eq_true rfl)⟩ trivial ?_
            subst c47
            exact ⟨_, rfl, rfl, dem, am, str, gl, gn, abv, en, hmx, by show _ = if s 125 0 = 0 then 0 else s 57 0; rw [if_neg (by omega)]⟩
          · refine rb_iconst hV dX10_count_126 ?_
            refine rb_goto hV (tgt := 136) dX10_count_127 (by decide) ?_
            refine rb_ret hV (r := some (.inl 0)) dX10_count_136 rfl ⟨(Nat.le_of_ble_eq_true rfl), (Nat.le_of_ble_eq_true rfl)⟩ trivial ?_
            subst c47
            exact ⟨_, rfl, rfl, dem, am, str, gl, gn, abv, en, hmx, by show _ = if s 125 0 = 0 then 0 else s 57 0; rw [if_pos (by omega)]⟩
        · refine rb_tabIn hV (off := 90) (tgt := 137) dX10_count_47 (by unfold ab_r at *; omega) (by omega) (by omega) (by rw [c47]; rfl) (by decide) ?_
          refine rb_aload_n hV dX10_count_137 rfl rfl ?_
          refine rb_iconst hV dX10_count_138 ?_
          refine rb_callV hV (rest := []) dX10_count_139 (c_X10_endOf s (-1) (by unfold ab_r at *; omega) hx) lk_X10_248 rfl (Or.inl ⟨9, _, TX10, 24, gw_49 _, rfl⟩) rfl ⟨rfl, rfl, (Nat.le_of_ble_eq_true rfl), (Nat.le_of_ble_eq_true rfl), (Nat.le_of_ble_eq_true rfl), (Nat.le_of_ble_eq_true rfl)⟩ (Nat.le_of_ble_eq_true rfl) (fun r9 h9 p9 => ?_)
          obtain ⟨x9, rfl, rfl, hx9⟩ := p9
          have he9 : ∃ dm9 am9 st9 gl9 gn9 ab9 en9, MSs s dm9 am9 st9 gl9 gn9 ab9 en9 ∧ x9 + 1000 = am9 := by
            obtain ⟨dm9, am9, st9, gl9, gn9, ab9, en9, a, b, c⟩ := hx9
            refine ⟨dm9, am9, st9, gl9, gn9, ab9, en9, a, ?_⟩
            rcases c with c | c
            · have := Sei_b (slM s) (s 62) gn9 c.2.1.1
              omega
            · omega
          obtain ⟨dm9, am9, st9, gl9, gn9, ab9, en9, hmx9, he9⟩ := he9
          show V 142 [some (.inr (some 49)), some (.inl what), some (.inl g), some (.inl w)] [.inl x9] (WW s) 0 0
          refine rb_sipush hV dX10_count_142 (by decide) ?_
          refine rb_iadd hV dX10_count_145 ?_
          refine rb_ret hV (r := some (.inl (x9 + 1000))) dX10_count_146 rfl ⟨(Nat.le_of_ble_eq_true rfl), (Nat.le_of_ble_eq_true rfl)⟩ trivial ?_
          subst c47
          exact ⟨_, rfl, rfl, dm9, am9, st9, gl9, gn9, ab9, en9, hmx9, he9⟩
        · refine rb_tabIn hV (off := 100) (tgt := 147) dX10_count_47 (by unfold ab_r at *; omega) (by omega) (by omega) (by rw [c47]; rfl) (by decide) ?_
          refine rb_iload_n hV dX10_count_147 rfl rfl ?_
          refine rb_ret hV (r := some (.inl g)) dX10_count_148 rfl ⟨(Nat.le_of_ble_eq_true rfl), (Nat.le_of_ble_eq_true rfl)⟩ trivial ?_
          subst c47
          have hg : g = gl := GLM_end hp hv hmx (Or.inl (by rw [← show w = s 120 0 by omega]; exact h2))
          exact ⟨_, rfl, rfl, dem, am, str, gl, gn, abv, en, hmx, by rw [hg]; rfl⟩
        · refine rb_tabIn hV (off := 102) (tgt := 149) dX10_count_47 (by unfold ab_r at *; omega) (by omega) (by omega) (by rw [c47]; rfl) (by decide) ?_
          refine rb_aload_n hV dX10_count_149 rfl rfl ?_
          refine rb_callV hV (rest := []) dX10_count_150 (c_X10_strength s hx) lk_X10_236 rfl (Or.inl ⟨9, _, TX10, 24, gw_49 _, rfl⟩) rfl ⟨rfl, rfl, (Nat.le_of_ble_eq_true rfl), (Nat.le_of_ble_eq_true rfl), (Nat.le_of_ble_eq_true rfl), (Nat.le_of_ble_eq_true rfl)⟩ (Nat.le_of_ble_eq_true rfl) (fun r9 h9 p9 => ?_)
          obtain ⟨v9, rfl, rfl, hst9⟩ := p9
          show V 153 [some (.inr (some 49)), some (.inl what), some (.inl g), some (.inl w)] [.inl v9] (WW s) 0 0
          refine rb_ret hV (r := some (.inl v9)) dX10_count_153 rfl ⟨(Nat.le_of_ble_eq_true rfl), (Nat.le_of_ble_eq_true rfl)⟩ trivial ?_
          subst c47
          obtain ⟨dm9, am9, gl9, gn9, ab9, en9, hmx9⟩ := hst9
          exact ⟨_, rfl, rfl, dm9, am9, v9, gl9, gn9, ab9, en9, hmx9, rfl⟩
        · refine rb_tabIn hV (off := 107) (tgt := 154) dX10_count_47 (by unfold ab_r at *; omega) (by omega) (by omega) (by rw [c47]; rfl) (by decide) ?_
          refine rb_aload_n hV dX10_count_154 rfl rfl ?_
          refine rb_get hV (v := .inl (s 117 0)) dX10_count_155 ⟨RX10, TX10, 24, rfl, (Nat.le_of_ble_eq_true rfl), lf_X10_7⟩ (gw_49 _) rfl ?_
          refine rb_ret hV (r := some (.inl (s 117 0))) dX10_count_158 rfl ⟨(Nat.le_of_ble_eq_true rfl), (Nat.le_of_ble_eq_true rfl)⟩ trivial ?_
          subst c47
          exact ⟨_, rfl, rfl, dem, am, str, gl, gn, abv, en, hmx, rfl⟩
        · refine rb_tabIn hV (off := 112) (tgt := 159) dX10_count_47 (by unfold ab_r at *; omega) (by omega) (by omega) (by rw [c47]; rfl) (by decide) ?_
          refine rb_aload_n hV dX10_count_159 rfl rfl ?_
          refine rb_get hV (v := .inl (s 118 0)) dX10_count_160 ⟨RX10, TX10, 24, rfl, (Nat.le_of_ble_eq_true rfl), lf_X10_13⟩ (gw_49 _) rfl ?_
          refine rb_ret hV (r := some (.inl (s 118 0))) dX10_count_163 rfl ⟨(Nat.le_of_ble_eq_true rfl), (Nat.le_of_ble_eq_true rfl)⟩ trivial ?_
          subst c47
          exact ⟨_, rfl, rfl, dem, am, str, gl, gn, abv, en, hmx, rfl⟩
        · refine rb_tabIn hV (off := 117) (tgt := 164) dX10_count_47 (by unfold ab_r at *; omega) (by omega) (by omega) (by rw [c47]; rfl) (by decide) ?_
          refine rb_aload_n hV dX10_count_164 rfl rfl ?_
          refine rb_get hV (v := .inl (s 119 0)) dX10_count_165 ⟨RX10, TX10, 24, rfl, (Nat.le_of_ble_eq_true rfl), lf_X10_16⟩ (gw_49 _) rfl ?_
          refine rb_ret hV (r := some (.inl (s 119 0))) dX10_count_168 rfl ⟨(Nat.le_of_ble_eq_true rfl), (Nat.le_of_ble_eq_true rfl)⟩ trivial ?_
          subst c47
          exact ⟨_, rfl, rfl, dem, am, str, gl, gn, abv, en, hmx, rfl⟩
        · refine rb_tabOut hV (tgt := 169) dX10_count_47 (by unfold ab_r at *; omega) c47 (by decide) ?_
          refine rb_sipush hV dX10_count_169 (by decide) ?_
          refine rb_ret hV (r := some (.inl (-1002))) dX10_count_172 rfl ⟨(Nat.le_of_ble_eq_true rfl), (Nat.le_of_ble_eq_true rfl)⟩ trivial ?_
          exact ⟨_, rfl, rfl, dem, am, str, gl, gn, abv, en, hmx, by unfold ycount; rw [if_neg (by omega), if_neg (by omega), if_neg (by omega), if_neg (by omega), if_neg (by omega), if_neg (by omega), if_neg (by omega), if_neg (by omega), if_neg (by omega), if_neg (by omega)]⟩
      · refine rb_aload_n hV dX10_count_12 rfl rfl ?_
        refine rb_get hV (v := .inl (s 125 0)) dX10_count_13 ⟨RX10, TX10, 24, rfl, (Nat.le_of_ble_eq_true rfl), lf_X10_147⟩ (gw_49 _) rfl ?_
        refine rb_if_le hV (tgt := 46) dX10_count_16 (by decide) (by unfold ab_r at *; omega) (fun c16 => ?_) (fun c16 => ?_)
        · refine rb_iload_n hV dX10_count_46 rfl rfl ?_
          rcases (show what = 0 ∨ what = 1 ∨ what = 2 ∨ what = 3 ∨ what = 4 ∨ what = 5 ∨ what = 6 ∨ what = 7 ∨ what = 8 ∨ what = 9 ∨ (what < 0 ∨ 9 < what) by omega) with c47 | c47 | c47 | c47 | c47 | c47 | c47 | c47 | c47 | c47 | c47
          · refine rb_tabIn hV (off := 53) (tgt := 100) dX10_count_47 (by unfold ab_r at *; omega) (by omega) (by omega) (by rw [c47]; rfl) (by decide) ?_
            refine rb_aload_n hV dX10_count_100 rfl rfl ?_
            refine rb_get hV (v := .inl (s 120 0)) dX10_count_101 ⟨RX10, TX10, 24, rfl, (Nat.le_of_ble_eq_true rfl), lf_X10_90⟩ (gw_49 _) rfl ?_
            refine rb_ret hV (r := some (.inl (s 120 0))) dX10_count_104 rfl ⟨(Nat.le_of_ble_eq_true rfl), (Nat.le_of_ble_eq_true rfl)⟩ trivial ?_
            subst c47
            exact ⟨_, rfl, rfl, dem, am, str, gl, gn, abv, en, hmx, rfl⟩
          · refine rb_tabIn hV (off := 58) (tgt := 105) dX10_count_47 (by unfold ab_r at *; omega) (by omega) (by omega) (by rw [c47]; rfl) (by decide) ?_
            refine rb_aload_n hV dX10_count_105 rfl rfl ?_
            refine rb_get hV (v := .inl (s 125 0)) dX10_count_106 ⟨RX10, TX10, 24, rfl, (Nat.le_of_ble_eq_true rfl), lf_X10_147⟩ (gw_49 _) rfl ?_
            refine rb_ret hV (r := some (.inl (s 125 0))) dX10_count_109 rfl ⟨(Nat.le_of_ble_eq_true rfl), (Nat.le_of_ble_eq_true rfl)⟩ trivial ?_
            subst c47
            exact ⟨_, rfl, rfl, dem, am, str, gl, gn, abv, en, hmx, rfl⟩
          · refine rb_tabIn hV (off := 63) (tgt := 110) dX10_count_47 (by unfold ab_r at *; omega) (by omega) (by omega) (by rw [c47]; rfl) (by decide) ?_
            refine rb_aload_n hV dX10_count_110 rfl rfl ?_
            refine rb_aload_n hV dX10_count_111 rfl rfl ?_
            refine rb_get hV (v := .inl (s 125 0)) dX10_count_112 ⟨RX10, TX10, 24, rfl, (Nat.le_of_ble_eq_true rfl), lf_X10_147⟩ (gw_49 _) rfl ?_
            refine rb_callV hV (rest := []) dX10_count_115 (c_X10_demeritsBefore s (s 125 0) hp hv (show 0 ≤ (s 125 0) ∧ (s 125 0) ≤ (s 125 0) by omega)) lk_X10_198 rfl (Or.inl ⟨9, _, TX10, 24, gw_49 _, rfl⟩) rfl ⟨rfl, rfl, (Nat.le_of_ble_eq_true rfl), (Nat.le_of_ble_eq_true rfl), (Nat.le_of_ble_eq_true rfl), (Nat.le_of_ble_eq_true rfl)⟩ (Nat.le_of_ble_eq_true rfl) (fun r9 h9 p9 => ?_)
            obtain ⟨rfl, rfl⟩ := p9
            show V 118 [some (.inr (some 49)), some (.inl what), some (.inl g), some (.inl w)] [.inl (Sm (ldm (vM s) (s 59)) 0 (s 125 0))] (WW s) 0 0
            refine rb_ret hV (r := some (.inl (Sm (ldm (vM s) (s 59)) 0 (s 125 0)))) dX10_count_118 rfl ⟨(Nat.le_of_ble_eq_true rfl), (Nat.le_of_ble_eq_true rfl)⟩ trivial ?_
            subst c47
            exact ⟨_, rfl, rfl, dem, am, str, gl, gn, abv, en, hmx, rfl⟩
          · refine rb_tabIn hV (off := 72) (tgt := 119) dX10_count_47 (by unfold ab_r at *; omega) (by omega) (by omega) (by rw [c47]; rfl) (by decide) ?_
            refine rb_aload_n hV dX10_count_119 rfl rfl ?_
            refine rb_get hV (v := .inl (s 125 0)) dX10_count_120 ⟨RX10, TX10, 24, rfl, (Nat.le_of_ble_eq_true rfl), lf_X10_147⟩ (gw_49 _) rfl ?_
            refine rb_if_ne hV (tgt := 130) dX10_count_123 (by decide) (by unfold ab_r at *; omega) (fun c123 => ?_) (fun c123 => ?_)
            · refine rb_aload_n hV dX10_count_130 rfl rfl ?_
              refine rb_get hV (v := .inr (some 57)) dX10_count_131 ⟨RX10, TX10, 24, rfl, (Nat.le_of_ble_eq_true rfl), lf_X10_42⟩ (gw_49 _) rfl ?_
              refine rb_iconst hV dX10_count_134 ?_
              refine rb_iald hV (f := (s 57)) dX10_count_135 (gw_57 _) (Nat.le_of_ble_eq_true rfl) (by omega) ?_
              refine rb_ret hV (r := some (.inl (s 57 0))) dX10_count_136 rfl ⟨(Nat.le_of_ble_eq_true rfl), (Nat.le_of_ble_eq_true rfl)⟩ trivial ?_
              subst c47
              exact ⟨_, rfl, rfl, dem, am, str, gl, gn, abv, en, hmx, by show _ = if s 125 0 = 0 then 0 else s 57 0; rw [if_neg (by omega)]⟩
            · refine rb_iconst hV dX10_count_126 ?_
              refine rb_goto hV (tgt := 136) dX10_count_127 (by decide) ?_
              refine rb_ret hV (r := some (.inl 0)) dX10_count_136 rfl ⟨(Nat.le_of_ble_eq_true rfl), (Nat.le_of_ble_eq_true rfl)⟩ trivial ?_
              subst c47
              exact ⟨_, rfl, rfl, dem, am, str, gl, gn, abv, en, hmx, by show _ = if s 125 0 = 0 then 0 else s 57 0; rw [if_pos (by omega)]⟩
          · refine rb_tabIn hV (off := 90) (tgt := 137) dX10_count_47 (by unfold ab_r at *; omega) (by omega) (by omega) (by rw [c47]; rfl) (by decide) ?_
            refine rb_aload_n hV dX10_count_137 rfl rfl ?_
            refine rb_iconst hV dX10_count_138 ?_
            refine rb_callV hV (rest := []) dX10_count_139 (c_X10_endOf s (-1) (by unfold ab_r at *; omega) hx) lk_X10_248 rfl (Or.inl ⟨9, _, TX10, 24, gw_49 _, rfl⟩) rfl ⟨rfl, rfl, (Nat.le_of_ble_eq_true rfl), (Nat.le_of_ble_eq_true rfl), (Nat.le_of_ble_eq_true rfl), (Nat.le_of_ble_eq_true rfl)⟩ (Nat.le_of_ble_eq_true rfl) (fun r9 h9 p9 => ?_)
            obtain ⟨x9, rfl, rfl, hx9⟩ := p9
            have he9 : ∃ dm9 am9 st9 gl9 gn9 ab9 en9, MSs s dm9 am9 st9 gl9 gn9 ab9 en9 ∧ x9 + 1000 = am9 := by
              obtain ⟨dm9, am9, st9, gl9, gn9, ab9, en9, a, b, c⟩ := hx9
              refine ⟨dm9, am9, st9, gl9, gn9, ab9, en9, a, ?_⟩
              rcases c with c | c
              · have := Sei_b (slM s) (s 62) gn9 c.2.1.1
                omega
              · omega
            obtain ⟨dm9, am9, st9, gl9, gn9, ab9, en9, hmx9, he9⟩ := he9
            show V 142 [some (.inr (some 49)), some (.inl what), some (.inl g), some (.inl w)] [.inl x9] (WW s) 0 0
            refine rb_sipush hV dX10_count_142 (by decide) ?_
            refine rb_iadd hV dX10_count_145 ?_
            refine rb_ret hV (r := some (.inl (x9 + 1000))) dX10_count_146 rfl ⟨(Nat.le_of_ble_eq_true rfl), (Nat.le_of_ble_eq_true rfl)⟩ trivial ?_
            subst c47
            exact ⟨_, rfl, rfl, dm9, am9, st9, gl9, gn9, ab9, en9, hmx9, he9⟩
          · refine rb_tabIn hV (off := 100) (tgt := 147) dX10_count_47 (by unfold ab_r at *; omega) (by omega) (by omega) (by rw [c47]; rfl) (by decide) ?_
            refine rb_iload_n hV dX10_count_147 rfl rfl ?_
            refine rb_ret hV (r := some (.inl g)) dX10_count_148 rfl ⟨(Nat.le_of_ble_eq_true rfl), (Nat.le_of_ble_eq_true rfl)⟩ trivial ?_
            subst c47
            have hg : g = gl := GLM_end hp hv hmx (Or.inr ⟨by omega, h2.2 (by omega)⟩)
            exact ⟨_, rfl, rfl, dem, am, str, gl, gn, abv, en, hmx, by rw [hg]; rfl⟩
          · refine rb_tabIn hV (off := 102) (tgt := 149) dX10_count_47 (by unfold ab_r at *; omega) (by omega) (by omega) (by rw [c47]; rfl) (by decide) ?_
            refine rb_aload_n hV dX10_count_149 rfl rfl ?_
            refine rb_callV hV (rest := []) dX10_count_150 (c_X10_strength s hx) lk_X10_236 rfl (Or.inl ⟨9, _, TX10, 24, gw_49 _, rfl⟩) rfl ⟨rfl, rfl, (Nat.le_of_ble_eq_true rfl), (Nat.le_of_ble_eq_true rfl), (Nat.le_of_ble_eq_true rfl), (Nat.le_of_ble_eq_true rfl)⟩ (Nat.le_of_ble_eq_true rfl) (fun r9 h9 p9 => ?_)
            obtain ⟨v9, rfl, rfl, hst9⟩ := p9
            show V 153 [some (.inr (some 49)), some (.inl what), some (.inl g), some (.inl w)] [.inl v9] (WW s) 0 0
            refine rb_ret hV (r := some (.inl v9)) dX10_count_153 rfl ⟨(Nat.le_of_ble_eq_true rfl), (Nat.le_of_ble_eq_true rfl)⟩ trivial ?_
            subst c47
            obtain ⟨dm9, am9, gl9, gn9, ab9, en9, hmx9⟩ := hst9
            exact ⟨_, rfl, rfl, dm9, am9, v9, gl9, gn9, ab9, en9, hmx9, rfl⟩
          · refine rb_tabIn hV (off := 107) (tgt := 154) dX10_count_47 (by unfold ab_r at *; omega) (by omega) (by omega) (by rw [c47]; rfl) (by decide) ?_
            refine rb_aload_n hV dX10_count_154 rfl rfl ?_
            refine rb_get hV (v := .inl (s 117 0)) dX10_count_155 ⟨RX10, TX10, 24, rfl, (Nat.le_of_ble_eq_true rfl), lf_X10_7⟩ (gw_49 _) rfl ?_
            refine rb_ret hV (r := some (.inl (s 117 0))) dX10_count_158 rfl ⟨(Nat.le_of_ble_eq_true rfl), (Nat.le_of_ble_eq_true rfl)⟩ trivial ?_
            subst c47
            exact ⟨_, rfl, rfl, dem, am, str, gl, gn, abv, en, hmx, rfl⟩
          · refine rb_tabIn hV (off := 112) (tgt := 159) dX10_count_47 (by unfold ab_r at *; omega) (by omega) (by omega) (by rw [c47]; rfl) (by decide) ?_
            refine rb_aload_n hV dX10_count_159 rfl rfl ?_
            refine rb_get hV (v := .inl (s 118 0)) dX10_count_160 ⟨RX10, TX10, 24, rfl, (Nat.le_of_ble_eq_true rfl), lf_X10_13⟩ (gw_49 _) rfl ?_
            refine rb_ret hV (r := some (.inl (s 118 0))) dX10_count_163 rfl ⟨(Nat.le_of_ble_eq_true rfl), (Nat.le_of_ble_eq_true rfl)⟩ trivial ?_
            subst c47
            exact ⟨_, rfl, rfl, dem, am, str, gl, gn, abv, en, hmx, rfl⟩
          · refine rb_tabIn hV (off := 117) (tgt := 164) dX10_count_47 (by unfold ab_r at *; omega) (by omega) (by omega) (by rw [c47]; rfl) (by decide) ?_
            refine rb_aload_n hV dX10_count_164 rfl rfl ?_
            refine rb_get hV (v := .inl (s 119 0)) dX10_count_165 ⟨RX10, TX10, 24, rfl, (Nat.le_of_ble_eq_true rfl), lf_X10_16⟩ (gw_49 _) rfl ?_
            refine rb_ret hV (r := some (.inl (s 119 0))) dX10_count_168 rfl ⟨(Nat.le_of_ble_eq_true rfl), (Nat.le_of_ble_eq_true rfl)⟩ trivial ?_
            subst c47
            exact ⟨_, rfl, rfl, dem, am, str, gl, gn, abv, en, hmx, rfl⟩
          · refine rb_tabOut hV (tgt := 169) dX10_count_47 (by unfold ab_r at *; omega) c47 (by decide) ?_
            refine rb_sipush hV dX10_count_169 (by decide) ?_
            refine rb_ret hV (r := some (.inl (-1002))) dX10_count_172 rfl ⟨(Nat.le_of_ble_eq_true rfl), (Nat.le_of_ble_eq_true rfl)⟩ trivial ?_
            exact ⟨_, rfl, rfl, dem, am, str, gl, gn, abv, en, hmx, by unfold ycount; rw [if_neg (by omega), if_neg (by omega), if_neg (by omega), if_neg (by omega), if_neg (by omega), if_neg (by omega), if_neg (by omega), if_neg (by omega), if_neg (by omega), if_neg (by omega)]⟩
        · refine rb_aload_n hV dX10_count_19 rfl rfl ?_
          refine rb_get hV (v := .inr (some 62)) dX10_count_20 ⟨RX10, TX10, 24, rfl, (Nat.le_of_ble_eq_true rfl), lf_X10_57⟩ (gw_49 _) rfl ?_
          refine rb_iload_n hV dX10_count_23 rfl rfl ?_
          refine rb_iald hV (f := (s 62)) dX10_count_24 (gw_62 _) (Nat.le_of_ble_eq_true rfl) (by omega) ?_
          refine rb_iload_n hV dX10_count_25 rfl rfl ?_
          refine rb_icmp_le hV (tgt := 38) dX10_count_26 (by decide) ⟨(by unfold ab_r at *; omega), (by unfold ab_r at *; omega)⟩ (fun c26 => ?_) (fun c26 => ?_)
          · refine rb_iload_n hV dX10_count_38 rfl rfl ?_
            refine rb_istore_n hV (L2 := [some (.inr (some 49)), some (.inl what), some (.inl g), some (.inl w)]) dX10_count_39 rfl (Nat.le_of_ble_eq_true rfl) rfl ?_
            refine rb_iinc hV (L2 := [some (.inr (some 49)), some (.inl what), some (.inl g), some (.inl (w + 1))]) dX10_count_40 rfl rfl rfl ?_
            refine rb_goto hV (tgt := 4) dX10_count_43 (by decide) ?_
            refine ih4 g (w + 1) ?_ ?_ ?_
            · omega
            · exact GLM_no (by omega) h2 (by omega)
            · omega
          · refine rb_aload_n hV dX10_count_29 rfl rfl ?_
            refine rb_get hV (v := .inr (some 62)) dX10_count_30 ⟨RX10, TX10, 24, rfl, (Nat.le_of_ble_eq_true rfl), lf_X10_57⟩ (gw_49 _) rfl ?_
            refine rb_iload_n hV dX10_count_33 rfl rfl ?_
            refine rb_iald hV (f := (s 62)) dX10_count_34 (gw_62 _) (Nat.le_of_ble_eq_true rfl) (by omega) ?_
            refine rb_goto hV (tgt := 39) dX10_count_35 (by decide) ?_
            refine rb_istore_n hV (L2 := [some (.inr (some 49)), some (.inl what), some (.inl (s 62 w)), some (.inl w)]) dX10_count_39 rfl (Nat.le_of_ble_eq_true rfl) rfl ?_
            refine rb_iinc hV (L2 := [some (.inr (some 49)), some (.inl what), some (.inl (s 62 w)), some (.inl (w + 1))]) dX10_count_40 rfl rfl rfl ?_
            refine rb_goto hV (tgt := 4) dX10_count_43 (by decide) ?_
            refine ih4 (s 62 w) (w + 1) ?_ ?_ ?_
            · omega
            · exact GLM_up h1.1 (by omega) h2 (by omega)
            · omega
  refine h4 _ 0 0 ?_ ?_ (Nat.lt_succ_self _)
  · omega
  · exact ⟨fun _ => ⟨Int.le_refl 0, fun v a b => by omega, Or.inl rfl⟩, fun _ => rfl⟩

set_option maxRecDepth 20000 in
theorem c_X10_spaceWidth (s : Nat → Int → Int) (k w : Int) (hk0 : ab_r k) (hw0 : ab_r w) : ab_Mt yX10_spaceWidth cX10_spaceWidth 3 (some .int) ({ frames := 1, cells := 0, slots := 0, locals := 22 } : Room) false 0 0 [.inr (some 49), .inl k, .inl w] (WW s) (RO s (yspw s k w)) := by
  refine ab_mk RX10 false rfl pn_X10_spaceWidth (fun z => by cases z) (Nat.le_of_ble_eq_true rfl) (fun V hV => ?_)
  show V 0 [some (.inr (some 49)), some (.inl k), some (.inl w)] [] (WW s) 0 0
  refine rb_iload_n hV dX10_spaceWidth_0 rfl rfl ?_
  refine rb_iconst hV dX10_spaceWidth_1 ?_
  refine rb_iconst hV dX10_spaceWidth_2 ?_
  refine rb_callS hV (rest := []) dX10_spaceWidth_3 (c_X10_in s k 0 2 (by unfold ab_r at *; omega) (by unfold ab_r at *; omega) (by unfold ab_r at *; omega)) lk_X10_69 rfl rfl ⟨rfl, rfl, (Nat.le_of_ble_eq_true rfl), (Nat.le_of_ble_eq_true rfl), (Nat.le_of_ble_eq_true rfl), (Nat.le_of_ble_eq_true rfl)⟩ (Nat.le_of_ble_eq_true rfl) (fun r9 h9 p9 => ?_)
  obtain ⟨rfl, rfl⟩ := p9
  show V 6 [some (.inr (some 49)), some (.inl k), some (.inl w)] [.inl (if 0 ≤ k ∧ k ≤ 2 then 1 else 0)] (WW s) 0 0
  by_cases e3 : 0 ≤ k ∧ k ≤ 2
  · rw [if_pos e3]
    show V 6 [some (.inr (some 49)), some (.inl k), some (.inl w)] [.inl 1] (WW s) 0 0
    refine rb_if_ne hV (tgt := 13) dX10_spaceWidth_6 (by decide) (by unfold ab_r at *; omega) (fun _ => ?_) (fun z => absurd z (by decide))
    refine rb_iload_n hV dX10_spaceWidth_13 rfl rfl ?_
    refine rb_iconst hV dX10_spaceWidth_14 ?_
    refine rb_iconst hV dX10_spaceWidth_15 ?_
    refine rb_callS hV (rest := []) dX10_spaceWidth_16 (c_X10_in s w 0 2 (by unfold ab_r at *; omega) (by unfold ab_r at *; omega) (by unfold ab_r at *; omega)) lk_X10_69 rfl rfl ⟨rfl, rfl, (Nat.le_of_ble_eq_true rfl), (Nat.le_of_ble_eq_true rfl), (Nat.le_of_ble_eq_true rfl), (Nat.le_of_ble_eq_true rfl)⟩ (Nat.le_of_ble_eq_true rfl) (fun r9 h9 p9 => ?_)
    obtain ⟨rfl, rfl⟩ := p9
    show V 19 [some (.inr (some 49)), some (.inl k), some (.inl w)] [.inl (if 0 ≤ w ∧ w ≤ 2 then 1 else 0)] (WW s) 0 0
    by_cases e16 : 0 ≤ w ∧ w ≤ 2
    · rw [if_pos e16]
      show V 19 [some (.inr (some 49)), some (.inl k), some (.inl w)] [.inl 1] (WW s) 0 0
      refine rb_if_eq hV (tgt := 35) dX10_spaceWidth_19 (by decide) (by unfold ab_r at *; omega) (fun z => absurd z (by decide)) (fun _ => ?_)
      refine rb_aload_n hV dX10_spaceWidth_22 rfl rfl ?_
      refine rb_get hV (v := .inr (some 50)) dX10_spaceWidth_23 ⟨RX10, TX10, 24, rfl, (Nat.le_of_ble_eq_true rfl), lf_X10_19⟩ (gw_49 _) rfl ?_
      refine rb_iconst hV dX10_spaceWidth_26 ?_
      refine rb_iload_n hV dX10_spaceWidth_27 rfl rfl ?_
      refine rb_imul hV dX10_spaceWidth_28 ?_
      refine rb_iload_n hV dX10_spaceWidth_29 rfl rfl ?_
      refine rb_iadd hV dX10_spaceWidth_30 ?_
      refine rb_iald hV (f := (s 50)) dX10_spaceWidth_31 (gw_50 _) (Nat.le_of_ble_eq_true rfl) (by omega) ?_
      refine rb_goto hV (tgt := 38) dX10_spaceWidth_32 (by decide) ?_
      refine rb_ret hV (r := some (.inl (s 50 ((3 * k) + w)))) dX10_spaceWidth_38 rfl ⟨(Nat.le_of_ble_eq_true rfl), (Nat.le_of_ble_eq_true rfl)⟩ trivial ?_
      exact ⟨congrArg (fun z : Int => some (Sum.inl z)) (show yspw s k w = _ from (if_neg (by omega)).trans (if_pos (by omega))).symm, rfl⟩
    · rw [if_neg e16]
      show V 19 [some (.inr (some 49)), some (.inl k), some (.inl w)] [.inl 0] (WW s) 0 0
      refine rb_if_eq hV (tgt := 35) dX10_spaceWidth_19 (by decide) (by unfold ab_r at *; omega) (fun _ => ?_) (fun z => absurd z (by decide))
      refine rb_sipush hV dX10_spaceWidth_35 (by decide) ?_
      refine rb_ret hV (r := some (.inl (-1002))) dX10_spaceWidth_38 rfl ⟨(Nat.le_of_ble_eq_true rfl), (Nat.le_of_ble_eq_true rfl)⟩ trivial ?_
      exact ⟨congrArg (fun z : Int => some (Sum.inl z)) (show yspw s k w = _ from (if_neg (by omega)).trans (if_neg (by omega))).symm, rfl⟩
  · rw [if_neg e3]
    show V 6 [some (.inr (some 49)), some (.inl k), some (.inl w)] [.inl 0] (WW s) 0 0
    refine rb_if_ne hV (tgt := 13) dX10_spaceWidth_6 (by decide) (by unfold ab_r at *; omega) (fun z => absurd z (by decide)) (fun _ => ?_)
    refine rb_sipush hV dX10_spaceWidth_9 (by decide) ?_
    refine rb_ret hV (r := some (.inl (-1001))) dX10_spaceWidth_12 rfl ⟨(Nat.le_of_ble_eq_true rfl), (Nat.le_of_ble_eq_true rfl)⟩ trivial ?_
    exact ⟨congrArg (fun z : Int => some (Sum.inl z)) (show yspw s k w = _ from if_pos e3).symm, rfl⟩

set_option maxRecDepth 20000 in
theorem c_X10_word (s : Nat → Int → Int) (w k : Int) (hw0 : ab_r w) (hk0 : ab_r k) (hx : MI s) : ab_Mt yX10_word cX10_word 3 (some .int) ({ frames := 2, cells := 0, slots := 0, locals := 43 } : Room) false 0 0 [.inr (some 49), .inl w, .inl k] (WW s) (RO s (yword s w k)) := by
  refine ab_mk RX10 false rfl pn_X10_word (fun z => by cases z) (Nat.le_of_ble_eq_true rfl) (fun V hV => ?_)
  show V 0 [some (.inr (some 49)), some (.inl w), some (.inl k)] [] (WW s) 0 0
  obtain ⟨hp, hbw, hv, hms0, hz0, hx3, hx4⟩ := id hx
  have hn : 0 ≤ s 120 0 ∧ s 120 0 ≤ 60 := hp.1
  have hnl : 0 ≤ s 125 0 ∧ s 125 0 ≤ s 120 0 := hv.1
  have hb := BWq_BS hp hbw
  have hsw := (MST_b hms0).1
  have hln := (MST_b hms0).2
  refine rb_aload_n hV dX10_word_0 rfl rfl ?_
  refine rb_iload_n hV dX10_word_1 rfl rfl ?_
  refine rb_callV hV (rest := []) dX10_word_2 (c_X10_noWord s w (by unfold ab_r at *; omega) (show 0 ≤ (s 120 0) ∧ (s 120 0) ≤ 60 by omega)) lk_X10_251 rfl (Or.inl ⟨9, _, TX10, 24, gw_49 _, rfl⟩) rfl ⟨rfl, rfl, (Nat.le_of_ble_eq_true rfl), (Nat.le_of_ble_eq_true rfl), (Nat.le_of_ble_eq_true rfl), (Nat.le_of_ble_eq_true rfl)⟩ (Nat.le_of_ble_eq_true rfl) (fun r9 h9 p9 => ?_)
  obtain ⟨rfl, rfl⟩ := p9
  show V 5 [some (.inr (some 49)), some (.inl w), some (.inl k)] [.inl (if ¬ (0 ≤ w ∧ w < (s 120 0)) then 1 else 0)] (WW s) 0 0
  by_cases e2 : ¬ (0 ≤ w ∧ w < (s 120 0))
  · rw [if_pos e2]
    show V 5 [some (.inr (some 49)), some (.inl w), some (.inl k)] [.inl 1] (WW s) 0 0
    refine rb_if_eq hV (tgt := 12) dX10_word_5 (by decide) (by unfold ab_r at *; omega) (fun z => absurd z (by decide)) (fun _ => ?_)
    refine rb_sipush hV dX10_word_8 (by decide) ?_
    refine rb_ret hV (r := some (.inl (-1001))) dX10_word_11 rfl ⟨(Nat.le_of_ble_eq_true rfl), (Nat.le_of_ble_eq_true rfl)⟩ trivial ?_
    exact ⟨congrArg (fun z : Int => some (Sum.inl z)) (show yword s w k = _ from if_pos e2).symm, rfl⟩
  · rw [if_neg e2]
    show V 5 [some (.inr (some 49)), some (.inl w), some (.inl k)] [.inl 0] (WW s) 0 0
    refine rb_if_eq hV (tgt := 12) dX10_word_5 (by decide) (by unfold ab_r at *; omega) (fun _ => ?_) (fun z => absurd z (by decide))
    refine rb_iload_n hV dX10_word_12 rfl rfl ?_
    rcases (show k = 0 ∨ k = 1 ∨ k = 2 ∨ k = 3 ∨ (k < 0 ∨ 3 < k) by omega) with c13 | c13 | c13 | c13 | c13
    · refine rb_tabIn hV (off := 31) (tgt := 44) dX10_word_13 (by unfold ab_r at *; omega) (by omega) (by omega) (by rw [c13]; rfl) (by decide) ?_
      refine rb_aload_n hV dX10_word_44 rfl rfl ?_
      refine rb_get hV (v := .inr (some 51)) dX10_word_45 ⟨RX10, TX10, 24, rfl, (Nat.le_of_ble_eq_true rfl), lf_X10_23⟩ (gw_49 _) rfl ?_
      refine rb_iload_n hV dX10_word_48 rfl rfl ?_
      refine rb_iald hV (f := (s 51)) dX10_word_49 (gw_51 _) (Nat.le_of_ble_eq_true rfl) (by omega) ?_
      refine rb_ret hV (r := some (.inl (s 51 w))) dX10_word_50 rfl ⟨(Nat.le_of_ble_eq_true rfl), (Nat.le_of_ble_eq_true rfl)⟩ trivial ?_
      subst c13
      refine ⟨congrArg (fun z : Int => some (Sum.inl z)) ?_, rfl⟩
      unfold yword
      rw [if_neg (by omega)]
      rfl
    · refine rb_tabIn hV (off := 38) (tgt := 51) dX10_word_13 (by unfold ab_r at *; omega) (by omega) (by omega) (by rw [c13]; rfl) (by decide) ?_
      refine rb_aload_n hV dX10_word_51 rfl rfl ?_
      refine rb_get hV (v := .inr (some 52)) dX10_word_52 ⟨RX10, TX10, 24, rfl, (Nat.le_of_ble_eq_true rfl), lf_X10_26⟩ (gw_49 _) rfl ?_
      refine rb_iload_n hV dX10_word_55 rfl rfl ?_
      refine rb_iald hV (f := (s 52)) dX10_word_56 (gw_52 _) (Nat.le_of_ble_eq_true rfl) (by omega) ?_
      refine rb_ret hV (r := some (.inl (s 52 w))) dX10_word_57 rfl ⟨(Nat.le_of_ble_eq_true rfl), (Nat.le_of_ble_eq_true rfl)⟩ trivial ?_
      subst c13
      refine ⟨congrArg (fun z : Int => some (Sum.inl z)) ?_, rfl⟩
      unfold yword
      rw [if_neg (by omega)]
      rfl
    · refine rb_tabIn hV (off := 45) (tgt := 58) dX10_word_13 (by unfold ab_r at *; omega) (by omega) (by omega) (by rw [c13]; rfl) (by decide) ?_
      refine rb_aload_n hV dX10_word_58 rfl rfl ?_
      refine rb_get hV (v := .inr (some 53)) dX10_word_59 ⟨RX10, TX10, 24, rfl, (Nat.le_of_ble_eq_true rfl), lf_X10_29⟩ (gw_49 _) rfl ?_
      refine rb_iload_n hV dX10_word_62 rfl rfl ?_
      refine rb_iald hV (f := (s 53)) dX10_word_63 (gw_53 _) (Nat.le_of_ble_eq_true rfl) (by omega) ?_
      refine rb_ret hV (r := some (.inl (s 53 w))) dX10_word_64 rfl ⟨(Nat.le_of_ble_eq_true rfl), (Nat.le_of_ble_eq_true rfl)⟩ trivial ?_
      subst c13
      refine ⟨congrArg (fun z : Int => some (Sum.inl z)) ?_, rfl⟩
      unfold yword
      rw [if_neg (by omega)]
      rfl
    · refine rb_tabIn hV (off := 52) (tgt := 65) dX10_word_13 (by unfold ab_r at *; omega) (by omega) (by omega) (by rw [c13]; rfl) (by decide) ?_
      refine rb_aload_n hV dX10_word_65 rfl rfl ?_
      refine rb_get hV (v := .inl (s 125 0)) dX10_word_66 ⟨RX10, TX10, 24, rfl, (Nat.le_of_ble_eq_true rfl), lf_X10_147⟩ (gw_49 _) rfl ?_
      refine rb_if_ne hV (tgt := 78) dX10_word_69 (by decide) (by unfold ab_r at *; omega) (fun c69 => ?_) (fun c69 => ?_)
      · refine rb_aload_n hV dX10_word_78 rfl rfl ?_
        refine rb_get hV (v := .inr (some 63)) dX10_word_79 ⟨RX10, TX10, 24, rfl, (Nat.le_of_ble_eq_true rfl), lf_X10_60⟩ (gw_49 _) rfl ?_
        refine rb_iload_n hV dX10_word_82 rfl rfl ?_
        refine rb_iald hV (f := (s 63)) dX10_word_83 (gw_63 _) (Nat.le_of_ble_eq_true rfl) (by omega) ?_
        refine rb_ret hV (r := some (.inl (s 63 w))) dX10_word_84 rfl ⟨(Nat.le_of_ble_eq_true rfl), (Nat.le_of_ble_eq_true rfl)⟩ trivial ?_
        subst c13
        refine ⟨congrArg (fun z : Int => some (Sum.inl z)) ?_, rfl⟩
        unfold yword
        rw [if_neg (by omega)]
        show _ = if s 125 0 = 0 then -1004 else s 63 w
        rw [if_neg (by omega)]
      · refine rb_sipush hV dX10_word_72 (by decide) ?_
        refine rb_goto hV (tgt := 84) dX10_word_75 (by decide) ?_
        refine rb_ret hV (r := some (.inl (-1004))) dX10_word_84 rfl ⟨(Nat.le_of_ble_eq_true rfl), (Nat.le_of_ble_eq_true rfl)⟩ trivial ?_
        subst c13
        refine ⟨congrArg (fun z : Int => some (Sum.inl z)) ?_, rfl⟩
        unfold yword
        rw [if_neg (by omega)]
        show _ = if s 125 0 = 0 then -1004 else s 63 w
        rw [if_pos (by omega)]
    · refine rb_tabOut hV (tgt := 85) dX10_word_13 (by unfold ab_r at *; omega) c13 (by decide) ?_
      refine rb_sipush hV dX10_word_85 (by decide) ?_
      refine rb_ret hV (r := some (.inl (-1002))) dX10_word_88 rfl ⟨(Nat.le_of_ble_eq_true rfl), (Nat.le_of_ble_eq_true rfl)⟩ trivial ?_
      refine ⟨congrArg (fun z : Int => some (Sum.inl z)) ?_, rfl⟩
      unfold yword
      rw [if_neg (by omega), if_neg (by omega), if_neg (by omega), if_neg (by omega), if_neg (by omega)]

set_option maxRecDepth 20000 in
theorem c_X10_line (s : Nat → Int → Int) (l k : Int) (hl00 : ab_r l) (hk0 : ab_r k) (hx : MI s) : ab_Mt yX10_line cX10_line 5 (some .int) ({ frames := 5, cells := 0, slots := 0, locals := 118 } : Room) false 0 0 [.inr (some 49), .inl l, .inl k] (WW s) (RO s (yline s l k)) := by
  refine ab_mk RX10 false rfl pn_X10_line (fun z => by cases z) (Nat.le_of_ble_eq_true rfl) (fun V hV => ?_)
  show V 0 [some (.inr (some 49)), some (.inl l), some (.inl k), none, none] [] (WW s) 0 0
  obtain ⟨hp, hbw, hv, hms0, hz0, hx3, hx4⟩ := id hx
  have hn : 0 ≤ s 120 0 ∧ s 120 0 ≤ 60 := hp.1
  have hnl : 0 ≤ s 125 0 ∧ s 125 0 ≤ s 120 0 := hv.1
  have hb := BWq_BS hp hbw
  have hsw := (MST_b hms0).1
  have hln := (MST_b hms0).2
  refine rb_aload_n hV dX10_line_0 rfl rfl ?_
  refine rb_iload_n hV dX10_line_1 rfl rfl ?_
  refine rb_callV hV (rest := []) dX10_line_2 (c_X10_noLine s l (by unfold ab_r at *; omega) (show 0 ≤ (s 125 0) ∧ (s 125 0) ≤ 60 by omega)) lk_X10_201 rfl (Or.inl ⟨9, _, TX10, 24, gw_49 _, rfl⟩) rfl ⟨rfl, rfl, (Nat.le_of_ble_eq_true rfl), (Nat.le_of_ble_eq_true rfl), (Nat.le_of_ble_eq_true rfl), (Nat.le_of_ble_eq_true rfl)⟩ (Nat.le_of_ble_eq_true rfl) (fun r9 h9 p9 => ?_)
  obtain ⟨rfl, rfl⟩ := p9
  show V 5 [some (.inr (some 49)), some (.inl l), some (.inl k), none, none] [.inl (if ¬ (0 ≤ l ∧ l < (s 125 0)) then 1 else 0)] (WW s) 0 0
  by_cases e2 : ¬ (0 ≤ l ∧ l < (s 125 0))
  · rw [if_pos e2]
    show V 5 [some (.inr (some 49)), some (.inl l), some (.inl k), none, none] [.inl 1] (WW s) 0 0
    refine rb_if_eq hV (tgt := 12) dX10_line_5 (by decide) (by unfold ab_r at *; omega) (fun z => absurd z (by decide)) (fun _ => ?_)
    refine rb_sipush hV dX10_line_8 (by decide) ?_
    refine rb_ret hV (r := some (.inl (-1001))) dX10_line_11 rfl ⟨(Nat.le_of_ble_eq_true rfl), (Nat.le_of_ble_eq_true rfl)⟩ trivial ?_
    exact ⟨congrArg (fun z : Int => some (Sum.inl z)) (show yline s l k = _ from if_pos e2).symm, rfl⟩
  · rw [if_neg e2]
    show V 5 [some (.inr (some 49)), some (.inl l), some (.inl k), none, none] [.inl 0] (WW s) 0 0
    refine rb_if_eq hV (tgt := 12) dX10_line_5 (by decide) (by unfold ab_r at *; omega) (fun _ => ?_) (fun z => absurd z (by decide))
    have hl : 0 ≤ l ∧ l < s 125 0 := by omega
    have hl0 := hv.2.1 l (by omega) (by omega)
    have hl02 : s 59 (l + 1) ≤ s 120 0 := hl0.2.2.1
    have hl03 := hl0.2.1
    have hl01 : 0 ≤ s 59 l := hl0.1
    refine rb_aload_n hV dX10_line_12 rfl rfl ?_
    refine rb_get hV (v := .inr (some 59)) dX10_line_13 ⟨RX10, TX10, 24, rfl, (Nat.le_of_ble_eq_true rfl), lf_X10_48⟩ (gw_49 _) rfl ?_
    refine rb_iload_n hV dX10_line_16 rfl rfl ?_
    refine rb_iald hV (f := (s 59)) dX10_line_17 (gw_59 _) (Nat.le_of_ble_eq_true rfl) (by omega) ?_
    refine rb_istore_n hV (L2 := [some (.inr (some 49)), some (.inl l), some (.inl k), some (.inl (s 59 l)), none]) dX10_line_18 rfl (Nat.le_of_ble_eq_true rfl) rfl ?_
    refine rb_aload_n hV dX10_line_19 rfl rfl ?_
    refine rb_iload_n hV dX10_line_20 rfl rfl ?_
    refine rb_callV hV (rest := []) dX10_line_21 (c_X10_lastOf s l (by omega)) lk_X10_192 rfl (Or.inl ⟨9, _, TX10, 24, gw_49 _, rfl⟩) rfl ⟨rfl, rfl, (Nat.le_of_ble_eq_true rfl), (Nat.le_of_ble_eq_true rfl), (Nat.le_of_ble_eq_true rfl), (Nat.le_of_ble_eq_true rfl)⟩ (Nat.le_of_ble_eq_true rfl) (fun r9 h9 p9 => ?_)
    obtain ⟨rfl, rfl⟩ := p9
    show V 24 [some (.inr (some 49)), some (.inl l), some (.inl k), some (.inl (s 59 l)), none] [.inl ((s 59 (l + 1)) - 1)] (WW s) 0 0
    refine rb_istore hV (L2 := [some (.inr (some 49)), some (.inl l), some (.inl k), some (.inl (s 59 l)), some (.inl ((s 59 (l + 1)) - 1))]) dX10_line_24 (Nat.le_of_ble_eq_true rfl) rfl ?_
    refine rb_iload_n hV dX10_line_26 rfl rfl ?_
    rcases (show k = 0 ∨ k = 1 ∨ k = 2 ∨ k = 3 ∨ k = 4 ∨ k = 5 ∨ k = 6 ∨ k = 7 ∨ k = 8 ∨ (k < 0 ∨ 8 < k) by omega) with c27 | c27 | c27 | c27 | c27 | c27 | c27 | c27 | c27 | c27
    · refine rb_tabIn hV (off := 49) (tgt := 76) dX10_line_27 (by unfold ab_r at *; omega) (by omega) (by omega) (by rw [c27]; rfl) (by decide) ?_
      refine rb_iload_n hV dX10_line_76 rfl rfl ?_
      refine rb_ret hV (r := some (.inl (s 59 l))) dX10_line_77 rfl ⟨(Nat.le_of_ble_eq_true rfl), (Nat.le_of_ble_eq_true rfl)⟩ trivial ?_
      subst c27
      refine ⟨congrArg (fun z : Int => some (Sum.inl z)) ?_, rfl⟩
      unfold yline
      rw [if_neg (by omega)]
      rfl
    · refine rb_tabIn hV (off := 51) (tgt := 78) dX10_line_27 (by unfold ab_r at *; omega) (by omega) (by omega) (by rw [c27]; rfl) (by decide) ?_
      refine rb_iload hV dX10_line_78 rfl ?_
      refine rb_ret hV (r := some (.inl ((s 59 (l + 1)) - 1))) dX10_line_80 rfl ⟨(Nat.le_of_ble_eq_true rfl), (Nat.le_of_ble_eq_true rfl)⟩ trivial ?_
      subst c27
      refine ⟨congrArg (fun z : Int => some (Sum.inl z)) ?_, rfl⟩
      unfold yline
      rw [if_neg (by omega)]
      rfl
    · refine rb_tabIn hV (off := 54) (tgt := 81) dX10_line_27 (by unfold ab_r at *; omega) (by omega) (by omega) (by rw [c27]; rfl) (by decide) ?_
      refine rb_aload_n hV dX10_line_81 rfl rfl ?_
      refine rb_iload_n hV dX10_line_82 rfl rfl ?_
      refine rb_iload hV dX10_line_83 rfl ?_
      refine rb_callV hV (rest := []) dX10_line_85 (c_X10_natural s hp (s 59 l) ((s 59 (l + 1)) - 1) (by omega) (by omega) (by omega)) lk_X10_160 rfl (Or.inl ⟨9, _, TX10, 24, gw_49 _, rfl⟩) rfl ⟨rfl, rfl, (Nat.le_of_ble_eq_true rfl), (Nat.le_of_ble_eq_true rfl), (Nat.le_of_ble_eq_true rfl), (Nat.le_of_ble_eq_true rfl)⟩ (Nat.le_of_ble_eq_true rfl) (fun r9 h9 p9 => ?_)
      obtain ⟨rfl, rfl⟩ := p9
      show V 88 [some (.inr (some 49)), some (.inl l), some (.inl k), some (.inl (s 59 l)), some (.inl ((s 59 (l + 1)) - 1))] [.inl (nt (vM s) (s 59 l) ((s 59 (l + 1)) - 1))] (WW s) 0 0
      refine rb_ret hV (r := some (.inl (nt (vM s) (s 59 l) ((s 59 (l + 1)) - 1)))) dX10_line_88 rfl ⟨(Nat.le_of_ble_eq_true rfl), (Nat.le_of_ble_eq_true rfl)⟩ trivial ?_
      subst c27
      refine ⟨congrArg (fun z : Int => some (Sum.inl z)) ?_, rfl⟩
      unfold yline
      rw [if_neg (by omega)]
      rfl
    · refine rb_tabIn hV (off := 62) (tgt := 89) dX10_line_27 (by unfold ab_r at *; omega) (by omega) (by omega) (by rw [c27]; rfl) (by decide) ?_
      refine rb_aload_n hV dX10_line_89 rfl rfl ?_
      refine rb_iload_n hV dX10_line_90 rfl rfl ?_
      refine rb_iload hV dX10_line_91 rfl ?_
      refine rb_callV hV (rest := []) dX10_line_93 (c_X10_difference s hp (s 59 l) ((s 59 (l + 1)) - 1) (by omega) (by omega) (by omega)) lk_X10_163 rfl (Or.inl ⟨9, _, TX10, 24, gw_49 _, rfl⟩) rfl ⟨rfl, rfl, (Nat.le_of_ble_eq_true rfl), (Nat.le_of_ble_eq_true rfl), (Nat.le_of_ble_eq_true rfl), (Nat.le_of_ble_eq_true rfl)⟩ (Nat.le_of_ble_eq_true rfl) (fun r9 h9 p9 => ?_)
      obtain ⟨rfl, rfl⟩ := p9
      show V 96 [some (.inr (some 49)), some (.inl l), some (.inl k), some (.inl (s 59 l)), some (.inl ((s 59 (l + 1)) - 1))] [.inl (df (vM s) (s 59 l) ((s 59 (l + 1)) - 1))] (WW s) 0 0
      refine rb_ret hV (r := some (.inl (df (vM s) (s 59 l) ((s 59 (l + 1)) - 1)))) dX10_line_96 rfl ⟨(Nat.le_of_ble_eq_true rfl), (Nat.le_of_ble_eq_true rfl)⟩ trivial ?_
      subst c27
      refine ⟨congrArg (fun z : Int => some (Sum.inl z)) ?_, rfl⟩
      unfold yline
      rw [if_neg (by omega)]
      rfl
    · refine rb_tabIn hV (off := 70) (tgt := 97) dX10_line_27 (by unfold ab_r at *; omega) (by omega) (by omega) (by rw [c27]; rfl) (by decide) ?_
      refine rb_aload_n hV dX10_line_97 rfl rfl ?_
      refine rb_iload_n hV dX10_line_98 rfl rfl ?_
      refine rb_iload hV dX10_line_99 rfl ?_
      refine rb_callV hV (rest := []) dX10_line_101 (c_X10_badness s hp (s 59 l) ((s 59 (l + 1)) - 1) (by omega) (by omega) (by omega) hl0.2.2.2) lk_X10_169 rfl (Or.inl ⟨9, _, TX10, 24, gw_49 _, rfl⟩) rfl ⟨rfl, rfl, (Nat.le_of_ble_eq_true rfl), (Nat.le_of_ble_eq_true rfl), (Nat.le_of_ble_eq_true rfl), (Nat.le_of_ble_eq_true rfl)⟩ (Nat.le_of_ble_eq_true rfl) (fun r9 h9 p9 => ?_)
      obtain ⟨rfl, rfl⟩ := p9
      show V 104 [some (.inr (some 49)), some (.inl l), some (.inl k), some (.inl (s 59 l)), some (.inl ((s 59 (l + 1)) - 1))] [.inl (bd (vM s) (s 59 l) ((s 59 (l + 1)) - 1))] (WW s) 0 0
      refine rb_ret hV (r := some (.inl (bd (vM s) (s 59 l) ((s 59 (l + 1)) - 1)))) dX10_line_104 rfl ⟨(Nat.le_of_ble_eq_true rfl), (Nat.le_of_ble_eq_true rfl)⟩ trivial ?_
      subst c27
      refine ⟨congrArg (fun z : Int => some (Sum.inl z)) ?_, rfl⟩
      unfold yline
      rw [if_neg (by omega)]
      rfl
    · refine rb_tabIn hV (off := 78) (tgt := 105) dX10_line_27 (by unfold ab_r at *; omega) (by omega) (by omega) (by rw [c27]; rfl) (by decide) ?_
      refine rb_aload_n hV dX10_line_105 rfl rfl ?_
      refine rb_iload_n hV dX10_line_106 rfl rfl ?_
      refine rb_iload hV dX10_line_107 rfl ?_
      refine rb_callV hV (rest := []) dX10_line_109 (c_X10_demerits s hp (s 59 l) ((s 59 (l + 1)) - 1) (by omega) (by omega) (by omega) hl0.2.2.2) lk_X10_176 rfl (Or.inl ⟨9, _, TX10, 24, gw_49 _, rfl⟩) rfl ⟨rfl, rfl, (Nat.le_of_ble_eq_true rfl), (Nat.le_of_ble_eq_true rfl), (Nat.le_of_ble_eq_true rfl), (Nat.le_of_ble_eq_true rfl)⟩ (Nat.le_of_ble_eq_true rfl) (fun r9 h9 p9 => ?_)
      obtain ⟨rfl, rfl⟩ := p9
      show V 112 [some (.inr (some 49)), some (.inl l), some (.inl k), some (.inl (s 59 l)), some (.inl ((s 59 (l + 1)) - 1))] [.inl (dm (vM s) (s 59 l) ((s 59 (l + 1)) - 1))] (WW s) 0 0
      refine rb_ret hV (r := some (.inl (dm (vM s) (s 59 l) ((s 59 (l + 1)) - 1)))) dX10_line_112 rfl ⟨(Nat.le_of_ble_eq_true rfl), (Nat.le_of_ble_eq_true rfl)⟩ trivial ?_
      subst c27
      refine ⟨congrArg (fun z : Int => some (Sum.inl z)) ?_, rfl⟩
      unfold yline
      rw [if_neg (by omega)]
      rfl
    · refine rb_tabIn hV (off := 86) (tgt := 113) dX10_line_27 (by unfold ab_r at *; omega) (by omega) (by omega) (by rw [c27]; rfl) (by decide) ?_
      refine rb_aload_n hV dX10_line_113 rfl rfl ?_
      refine rb_iload_n hV dX10_line_114 rfl rfl ?_
      refine rb_callV hV (rest := []) dX10_line_115 (c_X10_hangLeft s hp (s 59 l) (by omega)) lk_X10_154 rfl (Or.inl ⟨9, _, TX10, 24, gw_49 _, rfl⟩) rfl ⟨rfl, rfl, (Nat.le_of_ble_eq_true rfl), (Nat.le_of_ble_eq_true rfl), (Nat.le_of_ble_eq_true rfl), (Nat.le_of_ble_eq_true rfl)⟩ (Nat.le_of_ble_eq_true rfl) (fun r9 h9 p9 => ?_)
      obtain ⟨rfl, rfl⟩ := p9
      show V 118 [some (.inr (some 49)), some (.inl l), some (.inl k), some (.inl (s 59 l)), some (.inl ((s 59 (l + 1)) - 1))] [.inl (hL (vM s) (s 59 l))] (WW s) 0 0
      refine rb_ret hV (r := some (.inl (hL (vM s) (s 59 l)))) dX10_line_118 rfl ⟨(Nat.le_of_ble_eq_true rfl), (Nat.le_of_ble_eq_true rfl)⟩ trivial ?_
      subst c27
      refine ⟨congrArg (fun z : Int => some (Sum.inl z)) ?_, rfl⟩
      unfold yline
      rw [if_neg (by omega)]
      rfl
    · refine rb_tabIn hV (off := 92) (tgt := 119) dX10_line_27 (by unfold ab_r at *; omega) (by omega) (by omega) (by rw [c27]; rfl) (by decide) ?_
      refine rb_aload_n hV dX10_line_119 rfl rfl ?_
      refine rb_iload hV dX10_line_120 rfl ?_
      refine rb_callV hV (rest := []) dX10_line_122 (c_X10_hangRight s hp ((s 59 (l + 1)) - 1) (by omega)) lk_X10_157 rfl (Or.inl ⟨9, _, TX10, 24, gw_49 _, rfl⟩) rfl ⟨rfl, rfl, (Nat.le_of_ble_eq_true rfl), (Nat.le_of_ble_eq_true rfl), (Nat.le_of_ble_eq_true rfl), (Nat.le_of_ble_eq_true rfl)⟩ (Nat.le_of_ble_eq_true rfl) (fun r9 h9 p9 => ?_)
      obtain ⟨rfl, rfl⟩ := p9
      show V 125 [some (.inr (some 49)), some (.inl l), some (.inl k), some (.inl (s 59 l)), some (.inl ((s 59 (l + 1)) - 1))] [.inl (hR (vM s) ((s 59 (l + 1)) - 1))] (WW s) 0 0
      refine rb_ret hV (r := some (.inl (hR (vM s) ((s 59 (l + 1)) - 1)))) dX10_line_125 rfl ⟨(Nat.le_of_ble_eq_true rfl), (Nat.le_of_ble_eq_true rfl)⟩ trivial ?_
      subst c27
      refine ⟨congrArg (fun z : Int => some (Sum.inl z)) ?_, rfl⟩
      unfold yline
      rw [if_neg (by omega)]
      rfl
    · refine rb_tabIn hV (off := 99) (tgt := 126) dX10_line_27 (by unfold ab_r at *; omega) (by omega) (by omega) (by rw [c27]; rfl) (by decide) ?_
      refine rb_aload_n hV dX10_line_126 rfl rfl ?_
      refine rb_get hV (v := .inr (some 60)) dX10_line_127 ⟨RX10, TX10, 24, rfl, (Nat.le_of_ble_eq_true rfl), lf_X10_51⟩ (gw_49 _) rfl ?_
      refine rb_iload hV dX10_line_130 rfl ?_
      refine rb_iald hV (f := (s 60)) dX10_line_132 (gw_60 _) (Nat.le_of_ble_eq_true rfl) (by omega) ?_
      refine rb_aload_n hV dX10_line_133 rfl rfl ?_
      refine rb_get hV (v := .inr (some 51)) dX10_line_134 ⟨RX10, TX10, 24, rfl, (Nat.le_of_ble_eq_true rfl), lf_X10_23⟩ (gw_49 _) rfl ?_
      refine rb_iload hV dX10_line_137 rfl ?_
      refine rb_iald hV (f := (s 51)) dX10_line_139 (gw_51 _) (Nat.le_of_ble_eq_true rfl) (by omega) ?_
      refine rb_iadd hV dX10_line_140 ?_
      refine rb_aload_n hV dX10_line_141 rfl rfl ?_
      refine rb_iload hV dX10_line_142 rfl ?_
      refine rb_callV hV (rest := [.inl ((s 60 ((s 59 (l + 1)) - 1)) + (s 51 ((s 59 (l + 1)) - 1)))]) dX10_line_144 (c_X10_hangRight s hp ((s 59 (l + 1)) - 1) (by omega)) lk_X10_157 rfl (Or.inl ⟨9, _, TX10, 24, gw_49 _, rfl⟩) rfl ⟨rfl, rfl, (Nat.le_of_ble_eq_true rfl), (Nat.le_of_ble_eq_true rfl), (Nat.le_of_ble_eq_true rfl), (Nat.le_of_ble_eq_true rfl)⟩ (Nat.le_of_ble_eq_true rfl) (fun r9 h9 p9 => ?_)
      obtain ⟨rfl, rfl⟩ := p9
      show V 147 [some (.inr (some 49)), some (.inl l), some (.inl k), some (.inl (s 59 l)), some (.inl ((s 59 (l + 1)) - 1))] [.inl (hR (vM s) ((s 59 (l + 1)) - 1)), .inl ((s 60 ((s 59 (l + 1)) - 1)) + (s 51 ((s 59 (l + 1)) - 1)))] (WW s) 0 0
      refine rb_isub hV dX10_line_147 ?_
      refine rb_ret hV (r := some (.inl (((s 60 ((s 59 (l + 1)) - 1)) + (s 51 ((s 59 (l + 1)) - 1))) - (hR (vM s) ((s 59 (l + 1)) - 1))))) dX10_line_148 rfl ⟨(Nat.le_of_ble_eq_true rfl), (Nat.le_of_ble_eq_true rfl)⟩ trivial ?_
      subst c27
      refine ⟨congrArg (fun z : Int => some (Sum.inl z)) ?_, rfl⟩
      unfold yline
      rw [if_neg (by omega)]
      rfl
    · refine rb_tabOut hV (tgt := 149) dX10_line_27 (by unfold ab_r at *; omega) c27 (by decide) ?_
      refine rb_sipush hV dX10_line_149 (by decide) ?_
      refine rb_ret hV (r := some (.inl (-1002))) dX10_line_152 rfl ⟨(Nat.le_of_ble_eq_true rfl), (Nat.le_of_ble_eq_true rfl)⟩ trivial ?_
      refine ⟨congrArg (fun z : Int => some (Sum.inl z)) ?_, rfl⟩
      unfold yline
      rw [if_neg (by omega), if_neg (by omega), if_neg (by omega), if_neg (by omega), if_neg (by omega), if_neg (by omega), if_neg (by omega), if_neg (by omega), if_neg (by omega), if_neg (by omega)]

set_option maxRecDepth 20000 in
theorem c_X10_space (s : Nat → Int → Int) (l p k : Int) (hl00 : ab_r l) (hp0 : ab_r p) (hk0 : ab_r k) (hx : MI s) : ab_Mt yX10_space cX10_space 5 (some .int) ({ frames := 2, cells := 0, slots := 0, locals := 43 } : Room) false 0 0 [.inr (some 49), .inl l, .inl p, .inl k] (WW s) (RO s (yspace s l p k)) := by
  refine ab_mk RX10 false rfl pn_X10_space (fun z => by cases z) (Nat.le_of_ble_eq_true rfl) (fun V hV => ?_)
  show V 0 [some (.inr (some 49)), some (.inl l), some (.inl p), some (.inl k), none] [] (WW s) 0 0
  obtain ⟨hp, hbw, hv, hms0, hz0, hx3, hx4⟩ := id hx
  have hn : 0 ≤ s 120 0 ∧ s 120 0 ≤ 60 := hp.1
  have hnl : 0 ≤ s 125 0 ∧ s 125 0 ≤ s 120 0 := hv.1
  have hb := BWq_BS hp hbw
  have hsw := (MST_b hms0).1
  have hln := (MST_b hms0).2
  refine rb_aload_n hV dX10_space_0 rfl rfl ?_
  refine rb_iload_n hV dX10_space_1 rfl rfl ?_
  refine rb_callV hV (rest := []) dX10_space_2 (c_X10_noLine s l (by unfold ab_r at *; omega) (show 0 ≤ (s 125 0) ∧ (s 125 0) ≤ 60 by omega)) lk_X10_201 rfl (Or.inl ⟨9, _, TX10, 24, gw_49 _, rfl⟩) rfl ⟨rfl, rfl, (Nat.le_of_ble_eq_true rfl), (Nat.le_of_ble_eq_true rfl), (Nat.le_of_ble_eq_true rfl), (Nat.le_of_ble_eq_true rfl)⟩ (Nat.le_of_ble_eq_true rfl) (fun r9 h9 p9 => ?_)
  obtain ⟨rfl, rfl⟩ := p9
  show V 5 [some (.inr (some 49)), some (.inl l), some (.inl p), some (.inl k), none] [.inl (if ¬ (0 ≤ l ∧ l < (s 125 0)) then 1 else 0)] (WW s) 0 0
  by_cases e2 : ¬ (0 ≤ l ∧ l < (s 125 0))
  · rw [if_pos e2]
    show V 5 [some (.inr (some 49)), some (.inl l), some (.inl p), some (.inl k), none] [.inl 1] (WW s) 0 0
    refine rb_if_ne hV (tgt := 30) dX10_space_5 (by decide) (by unfold ab_r at *; omega) (fun _ => ?_) (fun z => absurd z (by decide))
    refine rb_sipush hV dX10_space_30 (by decide) ?_
    refine rb_ret hV (r := some (.inl (-1001))) dX10_space_33 rfl ⟨(Nat.le_of_ble_eq_true rfl), (Nat.le_of_ble_eq_true rfl)⟩ trivial ?_
    exact ⟨congrArg (fun z : Int => some (Sum.inl z)) (show yspace s l p k = _ from if_pos e2).symm, rfl⟩
  · rw [if_neg e2]
    show V 5 [some (.inr (some 49)), some (.inl l), some (.inl p), some (.inl k), none] [.inl 0] (WW s) 0 0
    refine rb_if_ne hV (tgt := 30) dX10_space_5 (by decide) (by unfold ab_r at *; omega) (fun z => absurd z (by decide)) (fun _ => ?_)
    have hl : 0 ≤ l ∧ l < s 125 0 := by omega
    have hl0 := hv.2.1 l (by omega) (by omega)
    have hl02 : s 59 (l + 1) ≤ s 120 0 := hl0.2.2.1
    have hl03 := hl0.2.1
    have hl01 : 0 ≤ s 59 l := hl0.1
    refine rb_iload_n hV dX10_space_8 rfl rfl ?_
    refine rb_iconst hV dX10_space_9 ?_
    refine rb_aload_n hV dX10_space_10 rfl rfl ?_
    refine rb_iload_n hV dX10_space_11 rfl rfl ?_
    refine rb_callV hV (rest := [.inl 0, .inl p]) dX10_space_12 (c_X10_lastOf s l (by omega)) lk_X10_192 rfl (Or.inl ⟨9, _, TX10, 24, gw_49 _, rfl⟩) rfl ⟨rfl, rfl, (Nat.le_of_ble_eq_true rfl), (Nat.le_of_ble_eq_true rfl), (Nat.le_of_ble_eq_true rfl), (Nat.le_of_ble_eq_true rfl)⟩ (Nat.le_of_ble_eq_true rfl) (fun r9 h9 p9 => ?_)
    obtain ⟨rfl, rfl⟩ := p9
    show V 15 [some (.inr (some 49)), some (.inl l), some (.inl p), some (.inl k), none] [.inl ((s 59 (l + 1)) - 1), .inl 0, .inl p] (WW s) 0 0
    refine rb_aload_n hV dX10_space_15 rfl rfl ?_
    refine rb_get hV (v := .inr (some 59)) dX10_space_16 ⟨RX10, TX10, 24, rfl, (Nat.le_of_ble_eq_true rfl), lf_X10_48⟩ (gw_49 _) rfl ?_
    refine rb_iload_n hV dX10_space_19 rfl rfl ?_
    refine rb_iald hV (f := (s 59)) dX10_space_20 (gw_59 _) (Nat.le_of_ble_eq_true rfl) (by omega) ?_
    refine rb_isub hV dX10_space_21 ?_
    refine rb_iconst hV dX10_space_22 ?_
    refine rb_isub hV dX10_space_23 ?_
    refine rb_callS hV (rest := []) dX10_space_24 (c_X10_in s p 0 ((((s 59 (l + 1)) - 1) - (s 59 l)) - 1) (by unfold ab_r at *; omega) (by unfold ab_r at *; omega) (by unfold ab_r at *; omega)) lk_X10_69 rfl rfl ⟨rfl, rfl, (Nat.le_of_ble_eq_true rfl), (Nat.le_of_ble_eq_true rfl), (Nat.le_of_ble_eq_true rfl), (Nat.le_of_ble_eq_true rfl)⟩ (Nat.le_of_ble_eq_true rfl) (fun r9 h9 p9 => ?_)
    obtain ⟨rfl, rfl⟩ := p9
    show V 27 [some (.inr (some 49)), some (.inl l), some (.inl p), some (.inl k), none] [.inl (if 0 ≤ p ∧ p ≤ ((((s 59 (l + 1)) - 1) - (s 59 l)) - 1) then 1 else 0)] (WW s) 0 0
    by_cases e24 : 0 ≤ p ∧ p ≤ ((((s 59 (l + 1)) - 1) - (s 59 l)) - 1)
    · rw [if_pos e24]
      show V 27 [some (.inr (some 49)), some (.inl l), some (.inl p), some (.inl k), none] [.inl 1] (WW s) 0 0
      refine rb_if_ne hV (tgt := 34) dX10_space_27 (by decide) (by unfold ab_r at *; omega) (fun _ => ?_) (fun z => absurd z (by decide))
      refine rb_aload_n hV dX10_space_34 rfl rfl ?_
      refine rb_get hV (v := .inr (some 59)) dX10_space_35 ⟨RX10, TX10, 24, rfl, (Nat.le_of_ble_eq_true rfl), lf_X10_48⟩ (gw_49 _) rfl ?_
      refine rb_iload_n hV dX10_space_38 rfl rfl ?_
      refine rb_iald hV (f := (s 59)) dX10_space_39 (gw_59 _) (Nat.le_of_ble_eq_true rfl) (by omega) ?_
      refine rb_iload_n hV dX10_space_40 rfl rfl ?_
      refine rb_iadd hV dX10_space_41 ?_
      refine rb_istore hV (L2 := [some (.inr (some 49)), some (.inl l), some (.inl p), some (.inl k), some (.inl ((s 59 l) + p))]) dX10_space_42 (Nat.le_of_ble_eq_true rfl) rfl ?_
      refine rb_iload_n hV dX10_space_44 rfl rfl ?_
      rcases (show k = 0 ∨ k = 1 ∨ k = 2 ∨ k = 3 ∨ (k < 0 ∨ 3 < k) by omega) with c45 | c45 | c45 | c45 | c45
      · refine rb_tabIn hV (off := 31) (tgt := 76) dX10_space_45 (by unfold ab_r at *; omega) (by omega) (by omega) (by rw [c45]; rfl) (by decide) ?_
        refine rb_aload_n hV dX10_space_76 rfl rfl ?_
        refine rb_get hV (v := .inr (some 61)) dX10_space_77 ⟨RX10, TX10, 24, rfl, (Nat.le_of_ble_eq_true rfl), lf_X10_54⟩ (gw_49 _) rfl ?_
        refine rb_iload hV dX10_space_80 rfl ?_
        refine rb_iald hV (f := (s 61)) dX10_space_82 (gw_61 _) (Nat.le_of_ble_eq_true rfl) (by omega) ?_
        refine rb_ret hV (r := some (.inl (s 61 ((s 59 l) + p)))) dX10_space_83 rfl ⟨(Nat.le_of_ble_eq_true rfl), (Nat.le_of_ble_eq_true rfl)⟩ trivial ?_
        subst c45
        refine ⟨congrArg (fun z : Int => some (Sum.inl z)) ?_, rfl⟩
        unfold yspace
        rw [if_neg (by omega), if_neg (by omega)]
        rfl
      · refine rb_tabIn hV (off := 39) (tgt := 84) dX10_space_45 (by unfold ab_r at *; omega) (by omega) (by omega) (by rw [c45]; rfl) (by decide) ?_
        refine rb_aload_n hV dX10_space_84 rfl rfl ?_
        refine rb_iload hV dX10_space_85 rfl ?_
        refine rb_callV hV (rest := []) dX10_space_87 (c_X10_spaceBegin s ((s 59 l) + p) (by omega)) lk_X10_212 rfl (Or.inl ⟨9, _, TX10, 24, gw_49 _, rfl⟩) rfl ⟨rfl, rfl, (Nat.le_of_ble_eq_true rfl), (Nat.le_of_ble_eq_true rfl), (Nat.le_of_ble_eq_true rfl), (Nat.le_of_ble_eq_true rfl)⟩ (Nat.le_of_ble_eq_true rfl) (fun r9 h9 p9 => ?_)
        obtain ⟨rfl, rfl⟩ := p9
        show V 90 [some (.inr (some 49)), some (.inl l), some (.inl p), some (.inl k), some (.inl ((s 59 l) + p))] [.inl ((s 60 ((s 59 l) + p)) + (s 51 ((s 59 l) + p)))] (WW s) 0 0
        refine rb_ret hV (r := some (.inl ((s 60 ((s 59 l) + p)) + (s 51 ((s 59 l) + p))))) dX10_space_90 rfl ⟨(Nat.le_of_ble_eq_true rfl), (Nat.le_of_ble_eq_true rfl)⟩ trivial ?_
        subst c45
        refine ⟨congrArg (fun z : Int => some (Sum.inl z)) ?_, rfl⟩
        unfold yspace
        rw [if_neg (by omega), if_neg (by omega)]
        rfl
      · refine rb_tabIn hV (off := 46) (tgt := 91) dX10_space_45 (by unfold ab_r at *; omega) (by omega) (by omega) (by rw [c45]; rfl) (by decide) ?_
        refine rb_aload_n hV dX10_space_91 rfl rfl ?_
        refine rb_get hV (v := .inr (some 53)) dX10_space_92 ⟨RX10, TX10, 24, rfl, (Nat.le_of_ble_eq_true rfl), lf_X10_29⟩ (gw_49 _) rfl ?_
        refine rb_iload hV dX10_space_95 rfl ?_
        refine rb_iald hV (f := (s 53)) dX10_space_97 (gw_53 _) (Nat.le_of_ble_eq_true rfl) (by omega) ?_
        refine rb_ret hV (r := some (.inl (s 53 ((s 59 l) + p)))) dX10_space_98 rfl ⟨(Nat.le_of_ble_eq_true rfl), (Nat.le_of_ble_eq_true rfl)⟩ trivial ?_
        subst c45
        refine ⟨congrArg (fun z : Int => some (Sum.inl z)) ?_, rfl⟩
        unfold yspace
        rw [if_neg (by omega), if_neg (by omega)]
        rfl
      · refine rb_tabIn hV (off := 54) (tgt := 99) dX10_space_45 (by unfold ab_r at *; omega) (by omega) (by omega) (by rw [c45]; rfl) (by decide) ?_
        refine rb_aload_n hV dX10_space_99 rfl rfl ?_
        refine rb_get hV (v := .inr (some 62)) dX10_space_100 ⟨RX10, TX10, 24, rfl, (Nat.le_of_ble_eq_true rfl), lf_X10_57⟩ (gw_49 _) rfl ?_
        refine rb_iload hV dX10_space_103 rfl ?_
        refine rb_iald hV (f := (s 62)) dX10_space_105 (gw_62 _) (Nat.le_of_ble_eq_true rfl) (by omega) ?_
        refine rb_ret hV (r := some (.inl (s 62 ((s 59 l) + p)))) dX10_space_106 rfl ⟨(Nat.le_of_ble_eq_true rfl), (Nat.le_of_ble_eq_true rfl)⟩ trivial ?_
        subst c45
        refine ⟨congrArg (fun z : Int => some (Sum.inl z)) ?_, rfl⟩
        unfold yspace
        rw [if_neg (by omega), if_neg (by omega)]
        rfl
      · refine rb_tabOut hV (tgt := 107) dX10_space_45 (by unfold ab_r at *; omega) c45 (by decide) ?_
        refine rb_sipush hV dX10_space_107 (by decide) ?_
        refine rb_ret hV (r := some (.inl (-1002))) dX10_space_110 rfl ⟨(Nat.le_of_ble_eq_true rfl), (Nat.le_of_ble_eq_true rfl)⟩ trivial ?_
        refine ⟨congrArg (fun z : Int => some (Sum.inl z)) ?_, rfl⟩
        unfold yspace
        rw [if_neg (by omega), if_neg (by omega), if_neg (by omega), if_neg (by omega), if_neg (by omega), if_neg (by omega)]
    · rw [if_neg e24]
      show V 27 [some (.inr (some 49)), some (.inl l), some (.inl p), some (.inl k), none] [.inl 0] (WW s) 0 0
      refine rb_if_ne hV (tgt := 34) dX10_space_27 (by decide) (by unfold ab_r at *; omega) (fun z => absurd z (by decide)) (fun _ => ?_)
      refine rb_sipush hV dX10_space_30 (by decide) ?_
      refine rb_ret hV (r := some (.inl (-1001))) dX10_space_33 rfl ⟨(Nat.le_of_ble_eq_true rfl), (Nat.le_of_ble_eq_true rfl)⟩ trivial ?_
      refine ⟨congrArg (fun z : Int => some (Sum.inl z)) ?_, rfl⟩
      unfold yspace
      rw [if_neg (by omega), if_pos (by omega)]

set_option maxRecDepth 20000 in
theorem c_X10_begin (s : Nat → Int → Int) (w : Int) (hw0 : ab_r w) (hx : MI s) : ab_Mt yX10_begin cX10_begin 2 (some .int) ({ frames := 2, cells := 0, slots := 0, locals := 43 } : Room) false 0 0 [.inr (some 49), .inl w] (WW s) (RO s (ybegin s w)) := by
  refine ab_mk RX10 false rfl pn_X10_begin (fun z => by cases z) (Nat.le_of_ble_eq_true rfl) (fun V hV => ?_)
  show V 0 [some (.inr (some 49)), some (.inl w)] [] (WW s) 0 0
  obtain ⟨hp, hbw, hv, hms0, hz0, hx3, hx4⟩ := id hx
  have hn : 0 ≤ s 120 0 ∧ s 120 0 ≤ 60 := hp.1
  have hnl : 0 ≤ s 125 0 ∧ s 125 0 ≤ s 120 0 := hv.1
  have hb := BWq_BS hp hbw
  have hsw := (MST_b hms0).1
  have hln := (MST_b hms0).2
  refine rb_aload_n hV dX10_begin_0 rfl rfl ?_
  refine rb_iload_n hV dX10_begin_1 rfl rfl ?_
  refine rb_callV hV (rest := []) dX10_begin_2 (c_X10_noWord s w (by unfold ab_r at *; omega) (show 0 ≤ (s 120 0) ∧ (s 120 0) ≤ 60 by omega)) lk_X10_251 rfl (Or.inl ⟨9, _, TX10, 24, gw_49 _, rfl⟩) rfl ⟨rfl, rfl, (Nat.le_of_ble_eq_true rfl), (Nat.le_of_ble_eq_true rfl), (Nat.le_of_ble_eq_true rfl), (Nat.le_of_ble_eq_true rfl)⟩ (Nat.le_of_ble_eq_true rfl) (fun r9 h9 p9 => ?_)
  obtain ⟨rfl, rfl⟩ := p9
  show V 5 [some (.inr (some 49)), some (.inl w)] [.inl (if ¬ (0 ≤ w ∧ w < (s 120 0)) then 1 else 0)] (WW s) 0 0
  by_cases e2 : ¬ (0 ≤ w ∧ w < (s 120 0))
  · rw [if_pos e2]
    show V 5 [some (.inr (some 49)), some (.inl w)] [.inl 1] (WW s) 0 0
    refine rb_if_eq hV (tgt := 12) dX10_begin_5 (by decide) (by unfold ab_r at *; omega) (fun z => absurd z (by decide)) (fun _ => ?_)
    refine rb_sipush hV dX10_begin_8 (by decide) ?_
    refine rb_ret hV (r := some (.inl (-1001))) dX10_begin_11 rfl ⟨(Nat.le_of_ble_eq_true rfl), (Nat.le_of_ble_eq_true rfl)⟩ trivial ?_
    exact ⟨congrArg (fun z : Int => some (Sum.inl z)) (show ybegin s w = _ from if_pos e2).symm, rfl⟩
  · rw [if_neg e2]
    show V 5 [some (.inr (some 49)), some (.inl w)] [.inl 0] (WW s) 0 0
    refine rb_if_eq hV (tgt := 12) dX10_begin_5 (by decide) (by unfold ab_r at *; omega) (fun _ => ?_) (fun z => absurd z (by decide))
    refine rb_aload_n hV dX10_begin_12 rfl rfl ?_
    refine rb_get hV (v := .inl (s 125 0)) dX10_begin_13 ⟨RX10, TX10, 24, rfl, (Nat.le_of_ble_eq_true rfl), lf_X10_147⟩ (gw_49 _) rfl ?_
    refine rb_if_ne hV (tgt := 25) dX10_begin_16 (by decide) (by unfold ab_r at *; omega) (fun c16 => ?_) (fun c16 => ?_)
    · refine rb_aload_n hV dX10_begin_25 rfl rfl ?_
      refine rb_get hV (v := .inr (some 60)) dX10_begin_26 ⟨RX10, TX10, 24, rfl, (Nat.le_of_ble_eq_true rfl), lf_X10_51⟩ (gw_49 _) rfl ?_
      refine rb_iload_n hV dX10_begin_29 rfl rfl ?_
      refine rb_iald hV (f := (s 60)) dX10_begin_30 (gw_60 _) (Nat.le_of_ble_eq_true rfl) (by omega) ?_
      refine rb_ret hV (r := some (.inl (s 60 w))) dX10_begin_31 rfl ⟨(Nat.le_of_ble_eq_true rfl), (Nat.le_of_ble_eq_true rfl)⟩ trivial ?_
      refine ⟨congrArg (fun z : Int => some (Sum.inl z)) ?_, rfl⟩
      unfold ybegin
      rw [if_neg (by omega), if_neg (by omega)]
    · refine rb_sipush hV dX10_begin_19 (by decide) ?_
      refine rb_goto hV (tgt := 31) dX10_begin_22 (by decide) ?_
      refine rb_ret hV (r := some (.inl (-1004))) dX10_begin_31 rfl ⟨(Nat.le_of_ble_eq_true rfl), (Nat.le_of_ble_eq_true rfl)⟩ trivial ?_
      refine ⟨congrArg (fun z : Int => some (Sum.inl z)) ?_, rfl⟩
      unfold ybegin
      rw [if_neg (by omega), if_pos (by omega)]

set_option maxRecDepth 20000 in
theorem c_X10_second (s : Nat → Int → Int) (l k : Int) (hl00 : ab_r l) (hk0 : ab_r k) (hx : MI s) : ab_Mt yX10_second cX10_second 4 (some .int) ({ frames := 7, cells := 0, slots := 0, locals := 166 } : Room) false 0 0 [.inr (some 49), .inl l, .inl k] (WW s) (RO s (ysecond s l k)) := by
  refine ab_mk RX10 false rfl pn_X10_second (fun z => by cases z) (Nat.le_of_ble_eq_true rfl) (fun V hV => ?_)
  show V 0 [some (.inr (some 49)), some (.inl l), some (.inl k), none] [] (WW s) 0 0
  obtain ⟨hp, hbw, hv, hms0, hz0, hx3, hx4⟩ := id hx
  have hn : 0 ≤ s 120 0 ∧ s 120 0 ≤ 60 := hp.1
  have hnl : 0 ≤ s 125 0 ∧ s 125 0 ≤ s 120 0 := hv.1
  have hb := BWq_BS hp hbw
  have hsw := (MST_b hms0).1
  have hln := (MST_b hms0).2
  refine rb_aload_n hV dX10_second_0 rfl rfl ?_
  refine rb_iload_n hV dX10_second_1 rfl rfl ?_
  refine rb_callV hV (rest := []) dX10_second_2 (c_X10_noLine s l (by unfold ab_r at *; omega) (show 0 ≤ (s 125 0) ∧ (s 125 0) ≤ 60 by omega)) lk_X10_201 rfl (Or.inl ⟨9, _, TX10, 24, gw_49 _, rfl⟩) rfl ⟨rfl, rfl, (Nat.le_of_ble_eq_true rfl), (Nat.le_of_ble_eq_true rfl), (Nat.le_of_ble_eq_true rfl), (Nat.le_of_ble_eq_true rfl)⟩ (Nat.le_of_ble_eq_true rfl) (fun r9 h9 p9 => ?_)
  obtain ⟨rfl, rfl⟩ := p9
  show V 5 [some (.inr (some 49)), some (.inl l), some (.inl k), none] [.inl (if ¬ (0 ≤ l ∧ l < (s 125 0)) then 1 else 0)] (WW s) 0 0
  by_cases e2 : ¬ (0 ≤ l ∧ l < (s 125 0))
  · rw [if_pos e2]
    show V 5 [some (.inr (some 49)), some (.inl l), some (.inl k), none] [.inl 1] (WW s) 0 0
    refine rb_if_eq hV (tgt := 12) dX10_second_5 (by decide) (by unfold ab_r at *; omega) (fun z => absurd z (by decide)) (fun _ => ?_)
    refine rb_sipush hV dX10_second_8 (by decide) ?_
    refine rb_ret hV (r := some (.inl (-1001))) dX10_second_11 rfl ⟨(Nat.le_of_ble_eq_true rfl), (Nat.le_of_ble_eq_true rfl)⟩ trivial ?_
    exact ⟨congrArg (fun z : Int => some (Sum.inl z)) (show ysecond s l k = _ from if_pos e2).symm, rfl⟩
  · rw [if_neg e2]
    show V 5 [some (.inr (some 49)), some (.inl l), some (.inl k), none] [.inl 0] (WW s) 0 0
    refine rb_if_eq hV (tgt := 12) dX10_second_5 (by decide) (by unfold ab_r at *; omega) (fun _ => ?_) (fun z => absurd z (by decide))
    refine rb_iload_n hV dX10_second_12 rfl rfl ?_
    refine rb_iconst hV dX10_second_13 ?_
    refine rb_iconst hV dX10_second_14 ?_
    refine rb_callS hV (rest := []) dX10_second_15 (c_X10_in s k 0 1 (by unfold ab_r at *; omega) (by unfold ab_r at *; omega) (by unfold ab_r at *; omega)) lk_X10_69 rfl rfl ⟨rfl, rfl, (Nat.le_of_ble_eq_true rfl), (Nat.le_of_ble_eq_true rfl), (Nat.le_of_ble_eq_true rfl), (Nat.le_of_ble_eq_true rfl)⟩ (Nat.le_of_ble_eq_true rfl) (fun r9 h9 p9 => ?_)
    obtain ⟨rfl, rfl⟩ := p9
    show V 18 [some (.inr (some 49)), some (.inl l), some (.inl k), none] [.inl (if 0 ≤ k ∧ k ≤ 1 then 1 else 0)] (WW s) 0 0
    by_cases e15 : 0 ≤ k ∧ k ≤ 1
    · rw [if_pos e15]
      show V 18 [some (.inr (some 49)), some (.inl l), some (.inl k), none] [.inl 1] (WW s) 0 0
      refine rb_if_ne hV (tgt := 25) dX10_second_18 (by decide) (by unfold ab_r at *; omega) (fun _ => ?_) (fun z => absurd z (by decide))
      have hl : 0 ≤ l ∧ l < s 125 0 := by omega
      have hsq : (sec (vM s) (s 57) (s 59) l) = -1 ∨ (0 ≤ (sec (vM s) (s 57) (s 59) l) ∧ (sec (vM s) (s 57) (s 59) l) < s 120 0) := by
        by_cases hq : (sec (vM s) (s 57) (s 59) l) = -1
        · exact Or.inl hq
        · have ho := sec_ok hq
          have hl0 := (hv.2.1 l hl.1 hl.2)
          have e0 : vM s 0 0 = s 120 0 := rfl
          have e1 := hl0.1
          have e2 := hl0.2.1
          have e3 := hl0.2.2.1
          exact Or.inr ⟨by omega, by omega⟩
      refine rb_aload_n hV dX10_second_25 rfl rfl ?_
      refine rb_iload_n hV dX10_second_26 rfl rfl ?_
      refine rb_callV hV (rest := []) dX10_second_27 (c_X10_secondOf s l hp hv hb (show 0 ≤ l ∧ l < (s 125 0) by omega)) lk_X10_195 rfl (Or.inl ⟨9, _, TX10, 24, gw_49 _, rfl⟩) rfl ⟨rfl, rfl, (Nat.le_of_ble_eq_true rfl), (Nat.le_of_ble_eq_true rfl), (Nat.le_of_ble_eq_true rfl), (Nat.le_of_ble_eq_true rfl)⟩ (Nat.le_of_ble_eq_true rfl) (fun r9 h9 p9 => ?_)
      obtain ⟨rfl, rfl⟩ := p9
      show V 30 [some (.inr (some 49)), some (.inl l), some (.inl k), none] [.inl (sec (vM s) (s 57) (s 59) l)] (WW s) 0 0
      refine rb_istore_n hV (L2 := [some (.inr (some 49)), some (.inl l), some (.inl k), some (.inl (sec (vM s) (s 57) (s 59) l))]) dX10_second_30 rfl (Nat.le_of_ble_eq_true rfl) rfl ?_
      refine rb_iload_n hV dX10_second_31 rfl rfl ?_
      refine rb_if_ge hV (tgt := 41) dX10_second_32 (by decide) (by unfold ab_r at *; omega) (fun c32 => ?_) (fun c32 => ?_)
      · refine rb_iload_n hV dX10_second_41 rfl rfl ?_
        refine rb_if_ne hV (tgt := 49) dX10_second_42 (by decide) (by unfold ab_r at *; omega) (fun c42 => ?_) (fun c42 => ?_)
        · refine rb_aload_n hV dX10_second_49 rfl rfl ?_
          refine rb_iload_n hV dX10_second_50 rfl rfl ?_
          refine rb_callV hV (rest := []) dX10_second_51 (c_X10_secondDemerits s l hp hv hb (show 0 ≤ l ∧ l < (s 125 0) by omega) (by omega)) lk_X10_242 rfl (Or.inl ⟨9, _, TX10, 24, gw_49 _, rfl⟩) rfl ⟨rfl, rfl, (Nat.le_of_ble_eq_true rfl), (Nat.le_of_ble_eq_true rfl), (Nat.le_of_ble_eq_true rfl), (Nat.le_of_ble_eq_true rfl)⟩ (Nat.le_of_ble_eq_true rfl) (fun r9 h9 p9 => ?_)
          obtain ⟨rfl, rfl⟩ := p9
          show V 54 [some (.inr (some 49)), some (.inl l), some (.inl k), some (.inl (sec (vM s) (s 57) (s 59) l))] [.inl (SDm (vM s) (s 57) (s 59) l)] (WW s) 0 0
          refine rb_ret hV (r := some (.inl (SDm (vM s) (s 57) (s 59) l))) dX10_second_54 rfl ⟨(Nat.le_of_ble_eq_true rfl), (Nat.le_of_ble_eq_true rfl)⟩ trivial ?_
          refine ⟨congrArg (fun z : Int => some (Sum.inl z)) ?_, rfl⟩
          unfold ysecond
          rw [if_neg (by omega), if_neg (by omega), if_neg (by omega), if_neg (by omega)]
        · refine rb_iload_n hV dX10_second_45 rfl rfl ?_
          refine rb_goto hV (tgt := 54) dX10_second_46 (by decide) ?_
          refine rb_ret hV (r := some (.inl (sec (vM s) (s 57) (s 59) l))) dX10_second_54 rfl ⟨(Nat.le_of_ble_eq_true rfl), (Nat.le_of_ble_eq_true rfl)⟩ trivial ?_
          refine ⟨congrArg (fun z : Int => some (Sum.inl z)) ?_, rfl⟩
          unfold ysecond
          rw [if_neg (by omega), if_neg (by omega), if_neg (by omega), if_pos (by omega)]
      · refine rb_sipush hV dX10_second_35 (by decide) ?_
        refine rb_goto hV (tgt := 54) dX10_second_38 (by decide) ?_
        refine rb_ret hV (r := some (.inl (-1004))) dX10_second_54 rfl ⟨(Nat.le_of_ble_eq_true rfl), (Nat.le_of_ble_eq_true rfl)⟩ trivial ?_
        refine ⟨congrArg (fun z : Int => some (Sum.inl z)) ?_, rfl⟩
        unfold ysecond
        rw [if_neg (by omega), if_neg (by omega), if_pos (by omega)]
    · rw [if_neg e15]
      show V 18 [some (.inr (some 49)), some (.inl l), some (.inl k), none] [.inl 0] (WW s) 0 0
      refine rb_if_ne hV (tgt := 25) dX10_second_18 (by decide) (by unfold ab_r at *; omega) (fun z => absurd z (by decide)) (fun _ => ?_)
      refine rb_sipush hV dX10_second_21 (by decide) ?_
      refine rb_ret hV (r := some (.inl (-1002))) dX10_second_24 rfl ⟨(Nat.le_of_ble_eq_true rfl), (Nat.le_of_ble_eq_true rfl)⟩ trivial ?_
      refine ⟨congrArg (fun z : Int => some (Sum.inl z)) ?_, rfl⟩
      unfold ysecond
      rw [if_neg (by omega), if_pos (by omega)]

set_option maxRecDepth 20000 in
theorem c_X10_badnessOf (s : Nat → Int → Int) (l : Int) (hp : PI (vM s)) (hv : LV (vM s) (s 59) (s 125 0)) (hl : 0 ≤ l ∧ l < s 125 0) : ab_Mt yX10_badnessOf cX10_badnessOf 2 (some .int) ({ frames := 4, cells := 0, slots := 0, locals := 95 } : Room) false 0 0 [.inr (some 49), .inl l] (WW s) (fun r h2 => r = some (.inl (lbd (vM s) (s 59) l)) ∧ h2 = WW s) := by
  refine ab_mk RX10 false rfl pn_X10_badnessOf (fun z => by cases z) (Nat.le_of_ble_eq_true rfl) (fun V hV => ?_)
  show V 0 [some (.inr (some 49)), some (.inl l)] [] (WW s) 0 0
  have hn : 0 ≤ s 120 0 ∧ s 120 0 ≤ 60 := hp.1
  have hms : 10 ≤ s 117 0 ∧ s 117 0 ≤ 200 := hp.2.2.1
  have e0 : vM s 0 0 = s 120 0 := rfl
  have hnl : 0 ≤ s 125 0 ∧ s 125 0 ≤ s 120 0 := hv.1
  have hl0 := hv.2.1 l (by omega) (by omega)
  have hl02 : s 59 (l + 1) ≤ s 120 0 := hl0.2.2.1
  have hl03 := hl0.2.1
  have hl01 : 0 ≤ s 59 l := hl0.1
  refine rb_aload_n hV dX10_badnessOf_0 rfl rfl ?_
  refine rb_aload_n hV dX10_badnessOf_1 rfl rfl ?_
  refine rb_get hV (v := .inr (some 59)) dX10_badnessOf_2 ⟨RX10, TX10, 24, rfl, (Nat.le_of_ble_eq_true rfl), lf_X10_48⟩ (gw_49 _) rfl ?_
  refine rb_iload_n hV dX10_badnessOf_5 rfl rfl ?_
  refine rb_iald hV (f := (s 59)) dX10_badnessOf_6 (gw_59 _) (Nat.le_of_ble_eq_true rfl) (by omega) ?_
  refine rb_aload_n hV dX10_badnessOf_7 rfl rfl ?_
  refine rb_iload_n hV dX10_badnessOf_8 rfl rfl ?_
  refine rb_callV hV (rest := [.inl (s 59 l), .inr (some 49)]) dX10_badnessOf_9 (c_X10_lastOf s l (by omega)) lk_X10_192 rfl (Or.inl ⟨9, _, TX10, 24, gw_49 _, rfl⟩) rfl ⟨rfl, rfl, (Nat.le_of_ble_eq_true rfl), (Nat.le_of_ble_eq_true rfl), (Nat.le_of_ble_eq_true rfl), (Nat.le_of_ble_eq_true rfl)⟩ (Nat.le_of_ble_eq_true rfl) (fun r9 h9 p9 => ?_)
  obtain ⟨rfl, rfl⟩ := p9
  show V 12 [some (.inr (some 49)), some (.inl l)] [.inl ((s 59 (l + 1)) - 1), .inl (s 59 l), .inr (some 49)] (WW s) 0 0
  refine rb_callV hV (rest := []) dX10_badnessOf_12 (c_X10_badness s hp (s 59 l) ((s 59 (l + 1)) - 1) (by omega) (by omega) (by omega) hl0.2.2.2) lk_X10_169 rfl (Or.inl ⟨9, _, TX10, 24, gw_49 _, rfl⟩) rfl ⟨rfl, rfl, (Nat.le_of_ble_eq_true rfl), (Nat.le_of_ble_eq_true rfl), (Nat.le_of_ble_eq_true rfl), (Nat.le_of_ble_eq_true rfl)⟩ (Nat.le_of_ble_eq_true rfl) (fun r9 h9 p9 => ?_)
  obtain ⟨rfl, rfl⟩ := p9
  show V 15 [some (.inr (some 49)), some (.inl l)] [.inl (bd (vM s) (s 59 l) ((s 59 (l + 1)) - 1))] (WW s) 0 0
  refine rb_ret hV (r := some (.inl (bd (vM s) (s 59 l) ((s 59 (l + 1)) - 1)))) dX10_badnessOf_15 rfl ⟨(Nat.le_of_ble_eq_true rfl), (Nat.le_of_ble_eq_true rfl)⟩ trivial ?_
  exact ⟨rfl, rfl⟩

set_option maxRecDepth 20000 in
theorem c_X10_worst (s : Nat → Int → Int) (k : Int) (hk0 : ab_r k) (hx : MI s) : ab_Mt yX10_worst cX10_worst 5 (some .int) ({ frames := 5, cells := 0, slots := 0, locals := 116 } : Room) false 0 0 [.inr (some 49), .inl k] (WW s) (fun r h2 => ∃ v, r = some (.inl v) ∧ h2 = WW s ∧ WRS (wr (lbd (vM s) (s 59)) (s 125 0)) (s 125 0) k v) := by
  refine ab_mk RX10 false rfl pn_X10_worst (fun z => by cases z) (Nat.le_of_ble_eq_true rfl) (fun V hV => ?_)
  show V 0 [some (.inr (some 49)), some (.inl k), none, none, none] [] (WW s) 0 0
  obtain ⟨hp, hbw, hv, hms0, hz0, hx3, hx4⟩ := id hx
  have hn : 0 ≤ s 120 0 ∧ s 120 0 ≤ 60 := hp.1
  have hnl : 0 ≤ s 125 0 ∧ s 125 0 ≤ s 120 0 := hv.1
  have hb := BWq_BS hp hbw
  have hsw := (MST_b hms0).1
  have hln := (MST_b hms0).2
  refine rb_iload_n hV dX10_worst_0 rfl rfl ?_
  refine rb_if_ge hV (tgt := 8) dX10_worst_1 (by decide) (by unfold ab_r at *; omega) (fun c1 => ?_) (fun c1 => ?_)
  · refine rb_iconst hV dX10_worst_8 ?_
    refine rb_istore_n hV (L2 := [some (.inr (some 49)), some (.inl k), some (.inl 0), none, none]) dX10_worst_9 rfl (Nat.le_of_ble_eq_true rfl) rfl ?_
    have h10 : ∀ (n10 : Nat) (l : Int), (0 ≤ l ∧ l ≤ s 125 0) → (∀ j, 0 ≤ j → j < l → ¬ wr (lbd (vM s) (s 59)) (s 125 0) j = k) → ((s 125 0 - l).toNat) < n10 → V 10 [some (.inr (some 49)), some (.inl k), some (.inl l), none, none] [] (WW s) 0 0 := by
      intro n10
      induction n10 with
      | zero => intro l h1 h2 hm; omega
      | succ n10 ih10 =>
        intro l h1 h2 hm
        refine rb_iload_n hV dX10_worst_10 rfl rfl ?_
        refine rb_aload_n hV dX10_worst_11 rfl rfl ?_
        refine rb_get hV (v := .inl (s 125 0)) dX10_worst_12 ⟨RX10, TX10, 24, rfl, (Nat.le_of_ble_eq_true rfl), lf_X10_147⟩ (gw_49 _) rfl ?_
        refine rb_icmp_ge hV (tgt := 93) dX10_worst_15 (by decide) ⟨(by unfold ab_r at *; omega), (by unfold ab_r at *; omega)⟩ (fun c15 => ?_) (fun c15 => ?_)
        · refine rb_sipush hV dX10_worst_93 (by decide) ?_
          refine rb_ret hV (r := some (.inl (-1004))) dX10_worst_96 rfl ⟨(Nat.le_of_ble_eq_true rfl), (Nat.le_of_ble_eq_true rfl)⟩ trivial ?_
          exact ⟨_, rfl, rfl, Or.inr ⟨by omega, Or.inr ⟨rfl, fun j q1 q2 => h2 j q1 (by omega)⟩⟩⟩
        · refine rb_iconst hV dX10_worst_18 ?_
          refine rb_istore_n hV (L2 := [some (.inr (some 49)), some (.inl k), some (.inl l), some (.inl 0), none]) dX10_worst_19 rfl (Nat.le_of_ble_eq_true rfl) rfl ?_
          refine rb_iconst hV dX10_worst_20 ?_
          refine rb_istore hV (L2 := [some (.inr (some 49)), some (.inl k), some (.inl l), some (.inl 0), some (.inl 0)]) dX10_worst_21 (Nat.le_of_ble_eq_true rfl) rfl ?_
          have h23 : ∀ (n23 : Nat) (n : Int) (i : Int), (0 ≤ i ∧ i ≤ s 125 0) → (n = Sm (fun i => if lbd (vM s) (s 59) l < lbd (vM s) (s 59) i ∨ (lbd (vM s) (s 59) i = lbd (vM s) (s 59) l ∧ i < l) then 1 else 0) 0 i) → ((s 125 0 - i).toNat) < n23 → V 23 [some (.inr (some 49)), some (.inl k), some (.inl l), some (.inl n), some (.inl i)] [] (WW s) 0 0 := by
            intro n23
            induction n23 with
            | zero => intro n i g1 g2 hm; omega
            | succ n23 ih23 =>
              intro n i g1 g2 hm
              have hbl := lbd_b hp hv (i := l) h1.1 (by omega)
              refine rb_iload hV dX10_worst_23 rfl ?_
              refine rb_aload_n hV dX10_worst_25 rfl rfl ?_
              refine rb_get hV (v := .inl (s 125 0)) dX10_worst_26 ⟨RX10, TX10, 24, rfl, (Nat.le_of_ble_eq_true rfl), lf_X10_147⟩ (gw_49 _) rfl ?_
              refine rb_icmp_ge hV (tgt := 80) dX10_worst_29 (by decide) ⟨(by unfold ab_r at *; omega), (by unfold ab_r at *; omega)⟩ (fun c29 => ?_) (fun c29 => ?_)
              · have hwr : n = wr (lbd (vM s) (s 59)) (s 125 0) l := by
                  rw [g2, show i = s 125 0 by omega]
                  rfl
                have hwb := wr_b (lbd (vM s) (s 59)) hnl.1 l
                refine rb_iload_n hV dX10_worst_80 rfl rfl ?_
                refine rb_iload_n hV dX10_worst_81 rfl rfl ?_
                refine rb_icmp_ne hV (tgt := 87) dX10_worst_82 (by decide) ⟨(by unfold ab_r at *; omega), (by unfold ab_r at *; omega)⟩ (fun c82 => ?_) (fun c82 => ?_)
                · refine rb_iinc hV (L2 := [some (.inr (some 49)), some (.inl k), some (.inl (l + 1)), some (.inl n), some (.inl i)]) dX10_worst_87 rfl rfl rfl ?_
                  refine rb_goto hV (tgt := 10) dX10_worst_90 (by decide) ?_
                  refine rb_weak hV (L2 := [some (.inr (some 49)), some (.inl k), some (.inl (l + 1)), none, none]) ⟨rfl, ⟨rfl, ⟨rfl, trivial⟩⟩⟩ ?_
                  refine ih10 (l + 1) ?_ ?_ ?_
                  · omega
                  · intro j q1 q2
                    by_cases hj : j = l
                    · rw [hj]
                      rw [← hwr]
                      exact c82
                    · exact h2 j q1 (by omega)
                  · omega
                · refine rb_iload_n hV dX10_worst_85 rfl rfl ?_
                  refine rb_ret hV (r := some (.inl l)) dX10_worst_86 rfl ⟨(Nat.le_of_ble_eq_true rfl), (Nat.le_of_ble_eq_true rfl)⟩ trivial ?_
                  exact ⟨_, rfl, rfl, Or.inr ⟨by omega, Or.inl ⟨h1.1, by omega, by rw [← hwr]; exact c82, h2⟩⟩⟩
              · have hbi := lbd_b hp hv (i := i) g1.1 (by omega)
                refine rb_iload_n hV dX10_worst_32 rfl rfl ?_
                refine rb_aload_n hV dX10_worst_33 rfl rfl ?_
                refine rb_iload hV dX10_worst_34 rfl ?_
                refine rb_callV hV (rest := [.inl n]) dX10_worst_36 (c_X10_badnessOf s i hp hv (by omega)) lk_X10_254 rfl (Or.inl ⟨9, _, TX10, 24, gw_49 _, rfl⟩) rfl ⟨rfl, rfl, (Nat.le_of_ble_eq_true rfl), (Nat.le_of_ble_eq_true rfl), (Nat.le_of_ble_eq_true rfl), (Nat.le_of_ble_eq_true rfl)⟩ (Nat.le_of_ble_eq_true rfl) (fun r9 h9 p9 => ?_)
                obtain ⟨rfl, rfl⟩ := p9
                show V 39 [some (.inr (some 49)), some (.inl k), some (.inl l), some (.inl n), some (.inl i)] [.inl (lbd (vM s) (s 59) i), .inl n] (WW s) 0 0
                refine rb_aload_n hV dX10_worst_39 rfl rfl ?_
                refine rb_iload_n hV dX10_worst_40 rfl rfl ?_
                refine rb_callV hV (rest := [.inl (lbd (vM s) (s 59) i), .inl n]) dX10_worst_41 (c_X10_badnessOf s l hp hv (by omega)) lk_X10_254 rfl (Or.inl ⟨9, _, TX10, 24, gw_49 _, rfl⟩) rfl ⟨rfl, rfl, (Nat.le_of_ble_eq_true rfl), (Nat.le_of_ble_eq_true rfl), (Nat.le_of_ble_eq_true rfl), (Nat.le_of_ble_eq_true rfl)⟩ (Nat.le_of_ble_eq_true rfl) (fun r9 h9 p9 => ?_)
                obtain ⟨rfl, rfl⟩ := p9
                show V 44 [some (.inr (some 49)), some (.inl k), some (.inl l), some (.inl n), some (.inl i)] [.inl (lbd (vM s) (s 59) l), .inl (lbd (vM s) (s 59) i), .inl n] (WW s) 0 0
                refine rb_icmp_gt hV (tgt := 67) dX10_worst_44 (by decide) ⟨(by unfold ab_r at *; omega), (by unfold ab_r at *; omega)⟩ (fun c44 => ?_) (fun c44 => ?_)
                · refine rb_iconst hV dX10_worst_67 ?_
                  refine rb_goto hV (tgt := 72) dX10_worst_68 (by decide) ?_
                  refine rb_iadd hV dX10_worst_72 ?_
                  refine rb_istore_n hV (L2 := [some (.inr (some 49)), some (.inl k), some (.inl l), some (.inl (n + 1)), some (.inl i)]) dX10_worst_73 rfl (Nat.le_of_ble_eq_true rfl) rfl ?_
                  refine rb_iinc hV (L2 := [some (.inr (some 49)), some (.inl k), some (.inl l), some (.inl (n + 1)), some (.inl (i + 1))]) dX10_worst_74 rfl rfl rfl ?_
                  refine rb_goto hV (tgt := 23) dX10_worst_77 (by decide) ?_
                  refine ih23 (n + 1) (i + 1) ?_ ?_ ?_
                  · omega
                  · rw [Sm_succ _ g1.1, ← g2]
                    rw [if_pos (by omega)]
                  · omega
                · refine rb_aload_n hV dX10_worst_47 rfl rfl ?_
                  refine rb_iload hV dX10_worst_48 rfl ?_
                  refine rb_callV hV (rest := [.inl n]) dX10_worst_50 (c_X10_badnessOf s i hp hv (by omega)) lk_X10_254 rfl (Or.inl ⟨9, _, TX10, 24, gw_49 _, rfl⟩) rfl ⟨rfl, rfl, (Nat.le_of_ble_eq_true rfl), (Nat.le_of_ble_eq_true rfl), (Nat.le_of_ble_eq_true rfl), (Nat.le_of_ble_eq_true rfl)⟩ (Nat.le_of_ble_eq_true rfl) (fun r9 h9 p9 => ?_)
                  obtain ⟨rfl, rfl⟩ := p9
                  show V 53 [some (.inr (some 49)), some (.inl k), some (.inl l), some (.inl n), some (.inl i)] [.inl (lbd (vM s) (s 59) i), .inl n] (WW s) 0 0
                  refine rb_aload_n hV dX10_worst_53 rfl rfl ?_
                  refine rb_iload_n hV dX10_worst_54 rfl rfl ?_
                  refine rb_callV hV (rest := [.inl (lbd (vM s) (s 59) i), .inl n]) dX10_worst_55 (c_X10_badnessOf s l hp hv (by omega)) lk_X10_254 rfl (Or.inl ⟨9, _, TX10, 24, gw_49 _, rfl⟩) rfl ⟨rfl, rfl, (Nat.le_of_ble_eq_true rfl), (Nat.le_of_ble_eq_true rfl), (Nat.le_of_ble_eq_true rfl), (Nat.le_of_ble_eq_true rfl)⟩ (Nat.le_of_ble_eq_true rfl) (fun r9 h9 p9 => ?_)
                  obtain ⟨rfl, rfl⟩ := p9
                  show V 58 [some (.inr (some 49)), some (.inl k), some (.inl l), some (.inl n), some (.inl i)] [.inl (lbd (vM s) (s 59) l), .inl (lbd (vM s) (s 59) i), .inl n] (WW s) 0 0
                  refine rb_icmp_ne hV (tgt := 71) dX10_worst_58 (by decide) ⟨(by unfold ab_r at *; omega), (by unfold ab_r at *; omega)⟩ (fun c58 => ?_) (fun c58 => ?_)
                  · refine rb_iconst hV dX10_worst_71 ?_
                    refine rb_iadd hV dX10_worst_72 ?_
                    refine rb_istore_n hV (L2 := [some (.inr (some 49)), some (.inl k), some (.inl l), some (.inl (n + 0)), some (.inl i)]) dX10_worst_73 rfl (Nat.le_of_ble_eq_true rfl) rfl ?_
                    refine rb_iinc hV (L2 := [some (.inr (some 49)), some (.inl k), some (.inl l), some (.inl (n + 0)), some (.inl (i + 1))]) dX10_worst_74 rfl rfl rfl ?_
                    refine rb_goto hV (tgt := 23) dX10_worst_77 (by decide) ?_
                    refine ih23 (n + 0) (i + 1) ?_ ?_ ?_
                    · omega
                    · rw [Sm_succ _ g1.1, ← g2]
                      rw [if_neg (by omega)]
                    · omega
                  · refine rb_iload hV dX10_worst_61 rfl ?_
                    refine rb_iload_n hV dX10_worst_63 rfl rfl ?_
                    refine rb_icmp_ge hV (tgt := 71) dX10_worst_64 (by decide) ⟨(by unfold ab_r at *; omega), (by unfold ab_r at *; omega)⟩ (fun c64 => ?_) (fun c64 => ?_)
                    · refine rb_iconst hV dX10_worst_71 ?_
                      refine rb_iadd hV dX10_worst_72 ?_
                      refine rb_istore_n hV (L2 := [some (.inr (some 49)), some (.inl k), some (.inl l), some (.inl (n + 0)), some (.inl i)]) dX10_worst_73 rfl (Nat.le_of_ble_eq_true rfl) rfl ?_
                      refine rb_iinc hV (L2 := [some (.inr (some 49)), some (.inl k), some (.inl l), some (.inl (n + 0)), some (.inl (i + 1))]) dX10_worst_74 rfl rfl rfl ?_
                      refine rb_goto hV (tgt := 23) dX10_worst_77 (by decide) ?_
                      refine ih23 (n + 0) (i + 1) ?_ ?_ ?_
                      · omega
                      · rw [Sm_succ _ g1.1, ← g2]
                        rw [if_neg (by omega)]
                      · omega
                    · refine rb_iconst hV dX10_worst_67 ?_
                      refine rb_goto hV (tgt := 72) dX10_worst_68 (by decide) ?_
                      refine rb_iadd hV dX10_worst_72 ?_
                      refine rb_istore_n hV (L2 := [some (.inr (some 49)), some (.inl k), some (.inl l), some (.inl (n + 1)), some (.inl i)]) dX10_worst_73 rfl (Nat.le_of_ble_eq_true rfl) rfl ?_
                      refine rb_iinc hV (L2 := [some (.inr (some 49)), some (.inl k), some (.inl l), some (.inl (n + 1)), some (.inl (i + 1))]) dX10_worst_74 rfl rfl rfl ?_
                      refine rb_goto hV (tgt := 23) dX10_worst_77 (by decide) ?_
                      refine ih23 (n + 1) (i + 1) ?_ ?_ ?_
                      · omega
                      · rw [Sm_succ _ g1.1, ← g2]
                        rw [if_pos (by omega)]
                      · omega
          refine h23 _ 0 0 ?_ ?_ (Nat.lt_succ_self _)
          · omega
          · rw [Sm_self]
    refine h10 _ 0 ?_ ?_ (Nat.lt_succ_self _)
    · omega
    · intro j q1 q2; omega
  · refine rb_sipush hV dX10_worst_4 (by decide) ?_
    refine rb_ret hV (r := some (.inl (-1002))) dX10_worst_7 rfl ⟨(Nat.le_of_ble_eq_true rfl), (Nat.le_of_ble_eq_true rfl)⟩ trivial ?_
    exact ⟨_, rfl, rfl, Or.inl ⟨by omega, rfl⟩⟩

def YRV (s : Nat → Int → Int) (rv sp x : Int) : Prop := ∃ dem am str gl gn abv en, MSs s dem am str gl gn abv en ∧ RIV (s 120 0) am (s 63) (slM s) (s 62) gn abv (s 59) rv sp x
theorem ENO_no {s : Nat → Int → Int} {rv dem am str gl : Int} {gn abv en : Int → Int} (hp : PI (vM s)) (hv : LV (vM s) (s 59) (s 125 0)) (h : MSs s dem am str gl gn abv en) (hn : 0 < s 125 0 → ∀ v, 0 ≤ v → v < s 120 0 → ei (slM s) (s 62) gn v = 1 → ¬ Sm (ei (slM s) (s 62) gn) 0 v = rv) : ¬ (0 ≤ rv ∧ rv < am) := by
  intro hr
  have hn0 : 0 ≤ s 120 0 ∧ s 120 0 ≤ 60 := hp.1
  have hnl : 0 ≤ s 125 0 ∧ s 125 0 ≤ s 120 0 := hv.1
  by_cases q : 0 < s 125 0
  · have hlm : LM s := LM_of hp hv q h
    have e := (EN_all hlm h).1
    obtain ⟨v, a, b, c, f⟩ := kth (ei_b (slM s) (s 62) gn) (s 120 0).toNat rv hr.1 (by rw [show ((s 120 0).toNat : Int) = s 120 0 by omega, e]; exact hr.2)
    exact hn q v a (by omega) c f
  · have := (EN_no h (by omega)).1
    omega

set_option maxRecDepth 20000 in
theorem c_X10_river (s : Nat → Int → Int) (rv sp : Int) (hrv0 : ab_r rv) (hsp0 : ab_r sp) (hx : MI s) : ab_Mt yX10_river cX10_river 5 (some .int) ({ frames := 6, cells := 0, slots := 0, locals := 132 } : Room) false 0 0 [.inr (some 49), .inl rv, .inl sp] (WW s) (fun r h2 => ∃ x, r = some (.inl x) ∧ h2 = WW s ∧ YRV s rv sp x) := by
  refine ab_mk RX10 false rfl pn_X10_river (fun z => by cases z) (Nat.le_of_ble_eq_true rfl) (fun V hV => ?_)
  show V 0 [some (.inr (some 49)), some (.inl rv), some (.inl sp), none, none] [] (WW s) 0 0
  obtain ⟨hp, hbw, hv, hms0, hz0, hx3, hx4⟩ := id hx
  have hn : 0 ≤ s 120 0 ∧ s 120 0 ≤ 60 := hp.1
  have hnl : 0 ≤ s 125 0 ∧ s 125 0 ≤ s 120 0 := hv.1
  have hb := BWq_BS hp hbw
  have hsw := (MST_b hms0).1
  have hln := (MST_b hms0).2
  refine rb_iload_n hV dX10_river_0 rfl rfl ?_
  refine rb_if_ge hV (tgt := 8) dX10_river_1 (by decide) (by unfold ab_r at *; omega) (fun c1 => ?_) (fun c1 => ?_)
  · refine rb_aload_n hV dX10_river_8 rfl rfl ?_
    refine rb_iload_n hV dX10_river_9 rfl rfl ?_
    refine rb_callV hV (rest := []) dX10_river_10 (c_X10_endOf s rv (by unfold ab_r at *; omega) hx) lk_X10_248 rfl (Or.inl ⟨9, _, TX10, 24, gw_49 _, rfl⟩) rfl ⟨rfl, rfl, (Nat.le_of_ble_eq_true rfl), (Nat.le_of_ble_eq_true rfl), (Nat.le_of_ble_eq_true rfl), (Nat.le_of_ble_eq_true rfl)⟩ (Nat.le_of_ble_eq_true rfl) (fun r9 h9 p9 => ?_)
    obtain ⟨x9, rfl, rfl, hx9⟩ := p9
    have hxr : -1000 ≤ x9 ∧ x9 < 100 := by
      obtain ⟨dem, am, str, gl, gn, abv, en, hmx, ham, hE⟩ := hx9
      rcases hE with q | q
      · have := q.2.1; omega
      · omega
    show V 13 [some (.inr (some 49)), some (.inl rv), some (.inl sp), none, none] [.inl x9] (WW s) 0 0
    refine rb_istore_n hV (L2 := [some (.inr (some 49)), some (.inl rv), some (.inl sp), some (.inl x9), none]) dX10_river_13 rfl (Nat.le_of_ble_eq_true rfl) rfl ?_
    refine rb_iload_n hV dX10_river_14 rfl rfl ?_
    refine rb_if_ge hV (tgt := 22) dX10_river_15 (by decide) (by unfold ab_r at *; omega) (fun c15 => ?_) (fun c15 => ?_)
    · obtain ⟨dem, am, str, gl, gn, abv, en, hmx, ham, hE⟩ := hx9
      have hE := hE.resolve_right (fun q => by have := q.1; omega)
      have hlm : LM s := LM_of hp hv hE.1 hmx
      have hrk := ei_rank hE.2.1.1 (show x9 < s 120 0 by have := hE.2.1.2; omega) hE.2.2.1
      have hrr : 0 ≤ rv ∧ rv < am := by
        rw [(EN_all hlm hmx).1, hE.2.2.2] at hrk
        exact hrk
      have hLN : LNp (s 63) (slM s) (mdM s) (s 62) abv (2 * s 119 0) (s 120 0 - 1) := by
        rcases hmx.1.2.2.2 with q | q
        · exact absurd q.1 (by have := hE.1; omega)
        · exact q.2.2.1
      have hx1 := hE.2.1
      have hlx := hln x9
      refine rb_iload_n hV dX10_river_22 rfl rfl ?_
      refine rb_if_ge hV (tgt := 30) dX10_river_23 (by decide) (by unfold ab_r at *; omega) (fun c23 => ?_) (fun c23 => ?_)
      · refine rb_iload_n hV dX10_river_30 rfl rfl ?_
        refine rb_aload_n hV dX10_river_31 rfl rfl ?_
        refine rb_get hV (v := .inr (some 62)) dX10_river_32 ⟨RX10, TX10, 24, rfl, (Nat.le_of_ble_eq_true rfl), lf_X10_57⟩ (gw_49 _) rfl ?_
        refine rb_iload_n hV dX10_river_35 rfl rfl ?_
        refine rb_iald hV (f := (s 62)) dX10_river_36 (gw_62 _) (Nat.le_of_ble_eq_true rfl) (by omega) ?_
        refine rb_icmp_lt hV (tgt := 44) dX10_river_37 (by decide) ⟨(by unfold ab_r at *; omega), (by unfold ab_r at *; omega)⟩ (fun c37 => ?_) (fun c37 => ?_)
        · refine rb_iconst hV dX10_river_44 ?_
          refine rb_istore hV (L2 := [some (.inr (some 49)), some (.inl rv), some (.inl sp), some (.inl x9), some (.inl 0)]) dX10_river_45 (Nat.le_of_ble_eq_true rfl) rfl ?_
          have h47 : ∀ (n47 : Nat) (p : Int) (i : Int), (0 ≤ i ∧ i ≤ sp) → (p = upn abv i.toNat x9) → ((sp - i).toNat) < n47 → V 47 [some (.inr (some 49)), some (.inl rv), some (.inl sp), some (.inl p), some (.inl i)] [] (WW s) 0 0 := by
            intro n47
            induction n47 with
            | zero => intro p i h1 h2 hm; omega
            | succ n47 ih47 =>
              intro p i h1 h2 hm
              have hu := upn_ok hLN hE.2.1.1 hE.2.1.2 (ei_1 hE.2.2.1).1 i.toNat (by omega)
              rw [← h2] at hu
              have hu1 := hu.1
              refine rb_iload hV dX10_river_47 rfl ?_
              refine rb_iload_n hV dX10_river_49 rfl rfl ?_
              refine rb_icmp_ge hV (tgt := 65) dX10_river_50 (by decide) ⟨(by unfold ab_r at *; omega), (by unfold ab_r at *; omega)⟩ (fun c50 => ?_) (fun c50 => ?_)
              · have hu := upn_ok hLN hE.2.1.1 hE.2.1.2 (ei_1 hE.2.2.1).1 i.toNat (by omega)
                rw [← h2] at hu
                have hu1 := hu.1
                have hfp := LM_f hlm (v := p) (by omega) (by omega)
                refine rb_bipush hV dX10_river_65 (by decide) ?_
                refine rb_aload_n hV dX10_river_67 rfl rfl ?_
                refine rb_get hV (v := .inr (some 63)) dX10_river_68 ⟨RX10, TX10, 24, rfl, (Nat.le_of_ble_eq_true rfl), lf_X10_60⟩ (gw_49 _) rfl ?_
                refine rb_iload_n hV dX10_river_71 rfl rfl ?_
                refine rb_iald hV (f := (s 63)) dX10_river_72 (gw_63 _) (Nat.le_of_ble_eq_true rfl) (by omega) ?_
                refine rb_imul hV dX10_river_73 ?_
                refine rb_iload_n hV dX10_river_74 rfl rfl ?_
                refine rb_iadd hV dX10_river_75 ?_
                refine rb_aload_n hV dX10_river_76 rfl rfl ?_
                refine rb_get hV (v := .inr (some 59)) dX10_river_77 ⟨RX10, TX10, 24, rfl, (Nat.le_of_ble_eq_true rfl), lf_X10_48⟩ (gw_49 _) rfl ?_
                refine rb_aload_n hV dX10_river_80 rfl rfl ?_
                refine rb_get hV (v := .inr (some 63)) dX10_river_81 ⟨RX10, TX10, 24, rfl, (Nat.le_of_ble_eq_true rfl), lf_X10_60⟩ (gw_49 _) rfl ?_
                refine rb_iload_n hV dX10_river_84 rfl rfl ?_
                refine rb_iald hV (f := (s 63)) dX10_river_85 (gw_63 _) (Nat.le_of_ble_eq_true rfl) (by omega) ?_
                refine rb_iald hV (f := (s 59)) dX10_river_86 (gw_59 _) (Nat.le_of_ble_eq_true rfl) (by omega) ?_
                refine rb_isub hV dX10_river_87 ?_
                refine rb_ret hV (r := some (.inl (((100 * (s 63 p)) + p) - (s 59 (s 63 p))))) dX10_river_88 rfl ⟨(Nat.le_of_ble_eq_true rfl), (Nat.le_of_ble_eq_true rfl)⟩ trivial ?_
                refine ⟨_, rfl, rfl, dem, am, str, gl, gn, abv, en, hmx, Or.inr (Or.inr ⟨hrr, by omega, x9, hE.2.1.1, hE.2.1.2, hE.2.2.1, hE.2.2.2, Or.inr ⟨by omega, ?_⟩⟩)⟩
                rw [← show i = sp by omega, ← h2]
                omega
              · refine rb_aload_n hV dX10_river_53 rfl rfl ?_
                refine rb_iload_n hV dX10_river_54 rfl rfl ?_
                refine rb_callV hV (rest := []) dX10_river_55 (c_X10_above s p hlm (by omega) hu.2.1) lk_X10_227 rfl (Or.inl ⟨9, _, TX10, 24, gw_49 _, rfl⟩) rfl ⟨rfl, rfl, (Nat.le_of_ble_eq_true rfl), (Nat.le_of_ble_eq_true rfl), (Nat.le_of_ble_eq_true rfl), (Nat.le_of_ble_eq_true rfl)⟩ (Nat.le_of_ble_eq_true rfl) (fun r9 h9 p9 => ?_)
                obtain ⟨xa, rfl, rfl, hab9⟩ := p9
                show V 58 [some (.inr (some 49)), some (.inl rv), some (.inl sp), some (.inl p), some (.inl i)] [.inl xa] (WW s) 0 0
                refine rb_istore_n hV (L2 := [some (.inr (some 49)), some (.inl rv), some (.inl sp), some (.inl xa), some (.inl i)]) dX10_river_58 rfl (Nat.le_of_ble_eq_true rfl) rfl ?_
                refine rb_iinc hV (L2 := [some (.inr (some 49)), some (.inl rv), some (.inl sp), some (.inl xa), some (.inl (i + 1))]) dX10_river_59 rfl rfl rfl ?_
                refine rb_goto hV (tgt := 47) dX10_river_62 (by decide) ?_
                refine ih47 xa (i + 1) ?_ ?_ ?_
                · omega
                · rw [show (i + 1).toNat = i.toNat + 1 by omega]
                  show xa = abv (upn abv i.toNat x9)
                  rw [← h2]
                  exact AB_uniq hab9 (hLN p hu.1.1 hu.1.2 hu.2.1).1
                · omega
          refine h47 _ x9 0 ?_ ?_ (Nat.lt_succ_self _)
          · omega
          · rfl
        · refine rb_sipush hV dX10_river_40 (by decide) ?_
          refine rb_ret hV (r := some (.inl (-1004))) dX10_river_43 rfl ⟨(Nat.le_of_ble_eq_true rfl), (Nat.le_of_ble_eq_true rfl)⟩ trivial ?_
          exact ⟨_, rfl, rfl, dem, am, str, gl, gn, abv, en, hmx, Or.inr (Or.inr ⟨hrr, by omega, x9, hE.2.1.1, hE.2.1.2, hE.2.2.1, hE.2.2.2, Or.inl ⟨by omega, rfl⟩⟩)⟩
      · refine rb_sipush hV dX10_river_26 (by decide) ?_
        refine rb_ret hV (r := some (.inl (-1002))) dX10_river_29 rfl ⟨(Nat.le_of_ble_eq_true rfl), (Nat.le_of_ble_eq_true rfl)⟩ trivial ?_
        exact ⟨_, rfl, rfl, dem, am, str, gl, gn, abv, en, hmx, Or.inr (Or.inl ⟨hrr, by omega, rfl⟩)⟩
    · refine rb_sipush hV dX10_river_18 (by decide) ?_
      refine rb_ret hV (r := some (.inl (-1001))) dX10_river_21 rfl ⟨(Nat.le_of_ble_eq_true rfl), (Nat.le_of_ble_eq_true rfl)⟩ trivial ?_
      obtain ⟨dem, am, str, gl, gn, abv, en, hmx, ham, hE⟩ := hx9
      have hE := hE.resolve_left (fun q => by have := q.2.1; omega)
      exact ⟨_, rfl, rfl, dem, am, str, gl, gn, abv, en, hmx, Or.inl ⟨ENO_no hp hv hmx hE.2, rfl⟩⟩
  · refine rb_iconst hV dX10_river_4 ?_
    refine rb_goto hV (tgt := 13) dX10_river_5 (by decide) ?_
    refine rb_istore_n hV (L2 := [some (.inr (some 49)), some (.inl rv), some (.inl sp), some (.inl (-1)), none]) dX10_river_13 rfl (Nat.le_of_ble_eq_true rfl) rfl ?_
    refine rb_iload_n hV dX10_river_14 rfl rfl ?_
    refine rb_if_ge hV (tgt := 22) dX10_river_15 (by decide) (by unfold ab_r at *; omega) (fun z => absurd z (by decide)) (fun _ => ?_)
    refine rb_sipush hV dX10_river_18 (by decide) ?_
    refine rb_ret hV (r := some (.inl (-1001))) dX10_river_21 rfl ⟨(Nat.le_of_ble_eq_true rfl), (Nat.le_of_ble_eq_true rfl)⟩ trivial ?_
    obtain ⟨dem, am, str, gl, gn, abv, en, hmx⟩ := hms0
    exact ⟨_, rfl, rfl, dem, am, str, gl, gn, abv, en, hmx, Or.inl ⟨by omega, rfl⟩⟩
