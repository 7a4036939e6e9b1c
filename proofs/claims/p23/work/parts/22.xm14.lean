/-! typing, reading, parsing -/
noncomputable def cif (p : Prop) (a b : Int) : Int := @ite Int p (Classical.propDecidable p) a b
theorem cif_pos {p : Prop} {a b : Int} (h : p) : cif p a b = a := by unfold cif; exact if_pos h
theorem cif_neg {p : Prop} {a b : Int} (h : ¬ p) : cif p a b = b := by unfold cif; exact if_neg h
noncomputable def sbj (t : Int → Int) (n a b : Int) : Int := cif (isNm t n 9 a b) 0 (cif (isNm t n 10 a b) 1 (cif (isNm t n 11 a b) 2 (cif (isNm t n 12 a b) 3 (-1))))
noncomputable def kdn (t : Int → Int) (n a b : Int) : Int := cif (isNm t n 13 a b) 0 (cif (isNm t n 14 a b) 1 (cif (isNm t n 15 a b) 2 (-1)))
noncomputable def num (t : Int → Int) (a b : Int) : Int := cif (isNu t a b) (nv t a (b - a).toNat) (-1)
theorem cif_r {p : Prop} {a b lo hi : Int} (h1 : lo ≤ a ∧ a ≤ hi) (h2 : lo ≤ b ∧ b ≤ hi) : lo ≤ cif p a b ∧ cif p a b ≤ hi := by
  by_cases h : p
  · rw [cif_pos h]; exact h1
  · rw [cif_neg h]; exact h2
theorem sbj_b (t : Int → Int) (n a b : Int) : -1 ≤ sbj t n a b ∧ sbj t n a b ≤ 3 := cif_r (by decide) (cif_r (by decide) (cif_r (by decide) (cif_r (by decide) (by decide))))
theorem kdn_b (t : Int → Int) (n a b : Int) : -1 ≤ kdn t n a b ∧ kdn t n a b ≤ 2 := cif_r (by decide) (cif_r (by decide) (cif_r (by decide) (by decide)))
theorem num_b (t : Int → Int) (a b : Int) : -1 ≤ num t a b ∧ num t a b ≤ 999 := by
  by_cases h : isNu t a b
  · have := nv_b h
    unfold num
    rw [cif_pos h]
    omega
  · unfold num
    rw [cif_neg h]
    omega
theorem num_eq {t : Int → Int} {a b v : Int} (h : (v = -1 ∧ ¬ isNu t a b) ∨ (isNu t a b ∧ v = nv t a (b - a).toNat)) : v = num t a b := by
  rcases h with ⟨h, g⟩ | ⟨g, h⟩
  · rw [h]; exact (cif_neg g).symm
  · rw [h]; exact (cif_pos g).symm
def tLo (sub : Int) (nu : Int → Int) (ix : Int) : Int := if sub = 3 then (if ix = 0 then 1 else nu (ix - 1)) else if sub = 0 then 10 else 0
def tHi (sub : Int) : Int := if sub = 0 then 200 else if sub = 1 then 100 else if sub = 2 then 20 else 40
def wp (sub : Int) : Int := if sub = 3 then 5 else 2
theorem wp_b (sub : Int) : (sub = 3 ∧ wp sub = 5) ∨ (¬ sub = 3 ∧ wp sub = 2) := by
  unfold wp
  split <;> omega
def TN (sub : Int) (nu : Int → Int) (ix x w : Int) (nu2 : Int → Int) : Prop := ((tLo sub nu ix ≤ x ∧ x ≤ tHi sub) ∧ w = 1 ∧ nu2 = ab_u nu ix x) ∨ (¬ (tLo sub nu ix ≤ x ∧ x ≤ tHi sub) ∧ w = 0 ∧ nu2 = nu)
theorem TN_01 {sub : Int} {nu : Int → Int} {ix x w : Int} {nu2 : Int → Int} (h : TN sub nu ix x w nu2) : w = 0 ∨ w = 1 := by
  rcases h with h | h
  · exact Or.inr h.2.1
  · exact Or.inl h.2.1
def gd (t : Int → Int) (n k a b sub : Int) (nu : Int → Int) : Prop := (k = 0 ∧ ¬ sbj t n a b = -1) ∨ (k = 1 ∧ sub = 3 ∧ ¬ kdn t n a b = -1) ∨ (2 ≤ k ∧ sub = 3 ∧ tLo sub nu (k - 2) ≤ num t a b ∧ num t a b ≤ tHi sub) ∨ (k = 1 ∧ ¬ sub = 3 ∧ tLo sub nu 0 ≤ num t a b ∧ num t a b ≤ tHi sub)
def uS (k sub x : Int) : Int := if k = 0 then x else sub
def uK (k sub kd x : Int) : Int := if k = 1 ∧ sub = 3 then x else kd
def uN (k sub : Int) (nu : Int → Int) (x : Int) : Int → Int := if 2 ≤ k ∧ sub = 3 then ab_u nu (k - 2) x else if k = 1 ∧ ¬ sub = 3 then ab_u nu 0 x else nu
/-- the parse from piece k on, which begins at p: the fault or -1, the subject, the class, the numbers -/
noncomputable def prs (t : Int → Int) (n : Int) : Nat → Int → Int → Int → Int → (Int → Int) → Int × Int × Int × (Int → Int)
  | 0, _, p, sub, kd, nu => (p, sub, kd, nu)
  | f + 1, k, p, sub, kd, nu => @ite _ (gd t n k p (eo t p (n - p).toNat) sub nu) (Classical.propDecidable _)
      (if n ≤ eo t p (n - p).toNat then (if k + 1 < wp (uS k sub (sbj t n p (eo t p (n - p).toNat))) then n else -1, uS k sub (sbj t n p (eo t p (n - p).toNat)), uK k sub kd (kdn t n p (eo t p (n - p).toNat)), uN k sub nu (num t p (eo t p (n - p).toNat)))
        else prs t n f (k + 1) (eo t p (n - p).toNat + 1) (uS k sub (sbj t n p (eo t p (n - p).toNat))) (uK k sub kd (kdn t n p (eo t p (n - p).toNat))) (uN k sub nu (num t p (eo t p (n - p).toNat))))
      (p, sub, kd, nu)
theorem prs_bad {t : Int → Int} {n : Int} {f : Nat} {k p sub kd : Int} {nu : Int → Int} (h : ¬ gd t n k p (eo t p (n - p).toNat) sub nu) : prs t n (f + 1) k p sub kd nu = (p, sub, kd, nu) := by
  unfold prs
  exact if_neg h
theorem prs_end {t : Int → Int} {n : Int} {f : Nat} {k p sub kd : Int} {nu : Int → Int} (h : gd t n k p (eo t p (n - p).toNat) sub nu) (h2 : n ≤ eo t p (n - p).toNat) : prs t n (f + 1) k p sub kd nu = (if k + 1 < wp (uS k sub (sbj t n p (eo t p (n - p).toNat))) then n else -1, uS k sub (sbj t n p (eo t p (n - p).toNat)), uK k sub kd (kdn t n p (eo t p (n - p).toNat)), uN k sub nu (num t p (eo t p (n - p).toNat))) := by
  unfold prs
  exact (if_pos h).trans (if_pos h2)
theorem prs_go {t : Int → Int} {n : Int} {f : Nat} {k p sub kd : Int} {nu : Int → Int} (h : gd t n k p (eo t p (n - p).toNat) sub nu) (h2 : ¬ n ≤ eo t p (n - p).toNat) : prs t n (f + 1) k p sub kd nu = prs t n f (k + 1) (eo t p (n - p).toNat + 1) (uS k sub (sbj t n p (eo t p (n - p).toNat))) (uK k sub kd (kdn t n p (eo t p (n - p).toNat))) (uN k sub nu (num t p (eo t p (n - p).toNat))) := by
  rw [prs]
  exact (if_pos h).trans (if_neg h2)
/-- what a command that is fine asks -/
def OKC (sub kd : Int) (nu : Int → Int) : Prop := (sub = 0 ∧ 10 ≤ nu 0 ∧ nu 0 ≤ 200) ∨ (sub = 1 ∧ 0 ≤ nu 0 ∧ nu 0 ≤ 100) ∨ (sub = 2 ∧ 0 ≤ nu 0 ∧ nu 0 ≤ 20) ∨ (sub = 3 ∧ (0 ≤ kd ∧ kd < 3) ∧ 1 ≤ nu 0 ∧ nu 0 ≤ nu 1 ∧ nu 1 ≤ nu 2 ∧ nu 2 ≤ 40)

set_option maxRecDepth 20000 in
theorem c_X3_subjectAt (s : Nat → Int → Int) (a b : Int) (ha : 0 ≤ a ∧ a ≤ 121) (hb : 0 ≤ b ∧ b ≤ s 104 0) (hn : 0 ≤ s 104 0 ∧ s 104 0 ≤ 120) (ht : ∀ v, 0 ≤ s 22 v ∧ s 22 v < 65536) : ab_Mt yX3_subjectAt cX3_subjectAt 3 (some .int) ({ frames := 5, cells := 0, slots := 0, locals := 109 } : Room) false 0 0 [.inr (some 21), .inl a, .inl b] (WW s) (fun r h2 => r = some (.inl (sbj (s 22) (s 104 0) a b)) ∧ h2 = WW s) := by
  refine ab_mk RX3 false rfl pn_X3_subjectAt (fun z => by cases z) (Nat.le_of_ble_eq_true rfl) (fun V hV => ?_)
  show V 0 [some (.inr (some 21)), some (.inl a), some (.inl b)] [] (WW s) 0 0
  refine rb_aload_n hV dX3_subjectAt_0 rfl rfl ?_
  refine rb_iload_n hV dX3_subjectAt_1 rfl rfl ?_
  refine rb_iload_n hV dX3_subjectAt_2 rfl rfl ?_
  refine rb_ldcS hV (i := 9) dX3_subjectAt_3 rfl ?_
  refine rb_callV hV (rest := []) dX3_subjectAt_5 (c_X8_isName s 9 (by decide) a b (by omega) (by omega) hn ht) lk_X3_80 rfl (Or.inl ⟨7, _, TX8, 2, gw_21 _, rfl⟩) rfl ⟨rfl, rfl, (Nat.le_of_ble_eq_true rfl), (Nat.le_of_ble_eq_true rfl), (Nat.le_of_ble_eq_true rfl), (Nat.le_of_ble_eq_true rfl)⟩ (Nat.le_of_ble_eq_true rfl) (fun r9 h9 p9 => ?_)
  obtain ⟨v9, rfl, rfl, hv9⟩ := p9
  rcases hv9 with ⟨e5, rfl⟩ | ⟨e5, rfl⟩
  · show V 8 [some (.inr (some 21)), some (.inl a), some (.inl b)] [.inl 1] (WW s) 0 0
    refine rb_if_eq hV (tgt := 13) dX3_subjectAt_8 (by decide) (by unfold ab_r at *; omega) (fun z => absurd z (by decide)) (fun _ => ?_)
    refine rb_iconst hV dX3_subjectAt_11 ?_
    refine rb_ret hV (r := some (.inl 0)) dX3_subjectAt_12 rfl ⟨(Nat.le_of_ble_eq_true rfl), (Nat.le_of_ble_eq_true rfl)⟩ trivial ?_
    exact ⟨congrArg (fun z : Int => some (Sum.inl z)) (cif_pos e5).symm, rfl⟩
  · show V 8 [some (.inr (some 21)), some (.inl a), some (.inl b)] [.inl 0] (WW s) 0 0
    refine rb_if_eq hV (tgt := 13) dX3_subjectAt_8 (by decide) (by unfold ab_r at *; omega) (fun _ => ?_) (fun z => absurd z (by decide))
    refine rb_aload_n hV dX3_subjectAt_13 rfl rfl ?_
    refine rb_iload_n hV dX3_subjectAt_14 rfl rfl ?_
    refine rb_iload_n hV dX3_subjectAt_15 rfl rfl ?_
    refine rb_ldcS hV (i := 10) dX3_subjectAt_16 rfl ?_
    refine rb_callV hV (rest := []) dX3_subjectAt_18 (c_X8_isName s 10 (by decide) a b (by omega) (by omega) hn ht) lk_X3_80 rfl (Or.inl ⟨7, _, TX8, 2, gw_21 _, rfl⟩) rfl ⟨rfl, rfl, (Nat.le_of_ble_eq_true rfl), (Nat.le_of_ble_eq_true rfl), (Nat.le_of_ble_eq_true rfl), (Nat.le_of_ble_eq_true rfl)⟩ (Nat.le_of_ble_eq_true rfl) (fun r9 h9 p9 => ?_)
    obtain ⟨v9, rfl, rfl, hv9⟩ := p9
    rcases hv9 with ⟨e18, rfl⟩ | ⟨e18, rfl⟩
    · show V 21 [some (.inr (some 21)), some (.inl a), some (.inl b)] [.inl 1] (WW s) 0 0
      refine rb_if_eq hV (tgt := 26) dX3_subjectAt_21 (by decide) (by unfold ab_r at *; omega) (fun z => absurd z (by decide)) (fun _ => ?_)
      refine rb_iconst hV dX3_subjectAt_24 ?_
      refine rb_ret hV (r := some (.inl 1)) dX3_subjectAt_25 rfl ⟨(Nat.le_of_ble_eq_true rfl), (Nat.le_of_ble_eq_true rfl)⟩ trivial ?_
      exact ⟨congrArg (fun z : Int => some (Sum.inl z)) ((cif_neg e5).trans (cif_pos e18)).symm, rfl⟩
    · show V 21 [some (.inr (some 21)), some (.inl a), some (.inl b)] [.inl 0] (WW s) 0 0
      refine rb_if_eq hV (tgt := 26) dX3_subjectAt_21 (by decide) (by unfold ab_r at *; omega) (fun _ => ?_) (fun z => absurd z (by decide))
      refine rb_aload_n hV dX3_subjectAt_26 rfl rfl ?_
      refine rb_iload_n hV dX3_subjectAt_27 rfl rfl ?_
      refine rb_iload_n hV dX3_subjectAt_28 rfl rfl ?_
      refine rb_ldcS hV (i := 11) dX3_subjectAt_29 rfl ?_
      refine rb_callV hV (rest := []) dX3_subjectAt_31 (c_X8_isName s 11 (by decide) a b (by omega) (by omega) hn ht) lk_X3_80 rfl (Or.inl ⟨7, _, TX8, 2, gw_21 _, rfl⟩) rfl ⟨rfl, rfl, (Nat.le_of_ble_eq_true rfl), (Nat.le_of_ble_eq_true rfl), (Nat.le_of_ble_eq_true rfl), (Nat.le_of_ble_eq_true rfl)⟩ (Nat.le_of_ble_eq_true rfl) (fun r9 h9 p9 => ?_)
      obtain ⟨v9, rfl, rfl, hv9⟩ := p9
      rcases hv9 with ⟨e31, rfl⟩ | ⟨e31, rfl⟩
      · show V 34 [some (.inr (some 21)), some (.inl a), some (.inl b)] [.inl 1] (WW s) 0 0
        refine rb_if_eq hV (tgt := 39) dX3_subjectAt_34 (by decide) (by unfold ab_r at *; omega) (fun z => absurd z (by decide)) (fun _ => ?_)
        refine rb_iconst hV dX3_subjectAt_37 ?_
        refine rb_ret hV (r := some (.inl 2)) dX3_subjectAt_38 rfl ⟨(Nat.le_of_ble_eq_true rfl), (Nat.le_of_ble_eq_true rfl)⟩ trivial ?_
        exact ⟨congrArg (fun z : Int => some (Sum.inl z)) ((cif_neg e5).trans ((cif_neg e18).trans (cif_pos e31))).symm, rfl⟩
      · show V 34 [some (.inr (some 21)), some (.inl a), some (.inl b)] [.inl 0] (WW s) 0 0
        refine rb_if_eq hV (tgt := 39) dX3_subjectAt_34 (by decide) (by unfold ab_r at *; omega) (fun _ => ?_) (fun z => absurd z (by decide))
        refine rb_aload_n hV dX3_subjectAt_39 rfl rfl ?_
        refine rb_iload_n hV dX3_subjectAt_40 rfl rfl ?_
        refine rb_iload_n hV dX3_subjectAt_41 rfl rfl ?_
        refine rb_ldcS hV (i := 12) dX3_subjectAt_42 rfl ?_
        refine rb_callV hV (rest := []) dX3_subjectAt_44 (c_X8_isName s 12 (by decide) a b (by omega) (by omega) hn ht) lk_X3_80 rfl (Or.inl ⟨7, _, TX8, 2, gw_21 _, rfl⟩) rfl ⟨rfl, rfl, (Nat.le_of_ble_eq_true rfl), (Nat.le_of_ble_eq_true rfl), (Nat.le_of_ble_eq_true rfl), (Nat.le_of_ble_eq_true rfl)⟩ (Nat.le_of_ble_eq_true rfl) (fun r9 h9 p9 => ?_)
        obtain ⟨v9, rfl, rfl, hv9⟩ := p9
        rcases hv9 with ⟨e44, rfl⟩ | ⟨e44, rfl⟩
        · show V 47 [some (.inr (some 21)), some (.inl a), some (.inl b)] [.inl 1] (WW s) 0 0
          refine rb_if_eq hV (tgt := 54) dX3_subjectAt_47 (by decide) (by unfold ab_r at *; omega) (fun z => absurd z (by decide)) (fun _ => ?_)
          refine rb_iconst hV dX3_subjectAt_50 ?_
          refine rb_goto hV (tgt := 55) dX3_subjectAt_51 (by decide) ?_
          refine rb_ret hV (r := some (.inl 3)) dX3_subjectAt_55 rfl ⟨(Nat.le_of_ble_eq_true rfl), (Nat.le_of_ble_eq_true rfl)⟩ trivial ?_
          exact ⟨congrArg (fun z : Int => some (Sum.inl z)) ((cif_neg e5).trans ((cif_neg e18).trans ((cif_neg e31).trans (cif_pos e44)))).symm, rfl⟩
        · show V 47 [some (.inr (some 21)), some (.inl a), some (.inl b)] [.inl 0] (WW s) 0 0
          refine rb_if_eq hV (tgt := 54) dX3_subjectAt_47 (by decide) (by unfold ab_r at *; omega) (fun _ => ?_) (fun z => absurd z (by decide))
          refine rb_iconst hV dX3_subjectAt_54 ?_
          refine rb_ret hV (r := some (.inl (-1))) dX3_subjectAt_55 rfl ⟨(Nat.le_of_ble_eq_true rfl), (Nat.le_of_ble_eq_true rfl)⟩ trivial ?_
          exact ⟨congrArg (fun z : Int => some (Sum.inl z)) ((cif_neg e5).trans ((cif_neg e18).trans ((cif_neg e31).trans (cif_neg e44)))).symm, rfl⟩

set_option maxRecDepth 20000 in
theorem c_X3_kindAt (s : Nat → Int → Int) (a b : Int) (ha : 0 ≤ a ∧ a ≤ 121) (hb : 0 ≤ b ∧ b ≤ s 104 0) (hn : 0 ≤ s 104 0 ∧ s 104 0 ≤ 120) (ht : ∀ v, 0 ≤ s 22 v ∧ s 22 v < 65536) : ab_Mt yX3_kindAt cX3_kindAt 3 (some .int) ({ frames := 5, cells := 0, slots := 0, locals := 109 } : Room) false 0 0 [.inr (some 21), .inl a, .inl b] (WW s) (fun r h2 => r = some (.inl (kdn (s 22) (s 104 0) a b)) ∧ h2 = WW s) := by
  refine ab_mk RX3 false rfl pn_X3_kindAt (fun z => by cases z) (Nat.le_of_ble_eq_true rfl) (fun V hV => ?_)
  show V 0 [some (.inr (some 21)), some (.inl a), some (.inl b)] [] (WW s) 0 0
  refine rb_aload_n hV dX3_kindAt_0 rfl rfl ?_
  refine rb_iload_n hV dX3_kindAt_1 rfl rfl ?_
  refine rb_iload_n hV dX3_kindAt_2 rfl rfl ?_
  refine rb_ldcS hV (i := 13) dX3_kindAt_3 rfl ?_
  refine rb_callV hV (rest := []) dX3_kindAt_5 (c_X8_isName s 13 (by decide) a b (by omega) (by omega) hn ht) lk_X3_80 rfl (Or.inl ⟨7, _, TX8, 2, gw_21 _, rfl⟩) rfl ⟨rfl, rfl, (Nat.le_of_ble_eq_true rfl), (Nat.le_of_ble_eq_true rfl), (Nat.le_of_ble_eq_true rfl), (Nat.le_of_ble_eq_true rfl)⟩ (Nat.le_of_ble_eq_true rfl) (fun r9 h9 p9 => ?_)
  obtain ⟨v9, rfl, rfl, hv9⟩ := p9
  rcases hv9 with ⟨e5, rfl⟩ | ⟨e5, rfl⟩
  · show V 8 [some (.inr (some 21)), some (.inl a), some (.inl b)] [.inl 1] (WW s) 0 0
    refine rb_if_eq hV (tgt := 13) dX3_kindAt_8 (by decide) (by unfold ab_r at *; omega) (fun z => absurd z (by decide)) (fun _ => ?_)
    refine rb_iconst hV dX3_kindAt_11 ?_
    refine rb_ret hV (r := some (.inl 0)) dX3_kindAt_12 rfl ⟨(Nat.le_of_ble_eq_true rfl), (Nat.le_of_ble_eq_true rfl)⟩ trivial ?_
    exact ⟨congrArg (fun z : Int => some (Sum.inl z)) (cif_pos e5).symm, rfl⟩
  · show V 8 [some (.inr (some 21)), some (.inl a), some (.inl b)] [.inl 0] (WW s) 0 0
    refine rb_if_eq hV (tgt := 13) dX3_kindAt_8 (by decide) (by unfold ab_r at *; omega) (fun _ => ?_) (fun z => absurd z (by decide))
    refine rb_aload_n hV dX3_kindAt_13 rfl rfl ?_
    refine rb_iload_n hV dX3_kindAt_14 rfl rfl ?_
    refine rb_iload_n hV dX3_kindAt_15 rfl rfl ?_
    refine rb_ldcS hV (i := 14) dX3_kindAt_16 rfl ?_
    refine rb_callV hV (rest := []) dX3_kindAt_18 (c_X8_isName s 14 (by decide) a b (by omega) (by omega) hn ht) lk_X3_80 rfl (Or.inl ⟨7, _, TX8, 2, gw_21 _, rfl⟩) rfl ⟨rfl, rfl, (Nat.le_of_ble_eq_true rfl), (Nat.le_of_ble_eq_true rfl), (Nat.le_of_ble_eq_true rfl), (Nat.le_of_ble_eq_true rfl)⟩ (Nat.le_of_ble_eq_true rfl) (fun r9 h9 p9 => ?_)
    obtain ⟨v9, rfl, rfl, hv9⟩ := p9
    rcases hv9 with ⟨e18, rfl⟩ | ⟨e18, rfl⟩
    · show V 21 [some (.inr (some 21)), some (.inl a), some (.inl b)] [.inl 1] (WW s) 0 0
      refine rb_if_eq hV (tgt := 26) dX3_kindAt_21 (by decide) (by unfold ab_r at *; omega) (fun z => absurd z (by decide)) (fun _ => ?_)
      refine rb_iconst hV dX3_kindAt_24 ?_
      refine rb_ret hV (r := some (.inl 1)) dX3_kindAt_25 rfl ⟨(Nat.le_of_ble_eq_true rfl), (Nat.le_of_ble_eq_true rfl)⟩ trivial ?_
      exact ⟨congrArg (fun z : Int => some (Sum.inl z)) ((cif_neg e5).trans (cif_pos e18)).symm, rfl⟩
    · show V 21 [some (.inr (some 21)), some (.inl a), some (.inl b)] [.inl 0] (WW s) 0 0
      refine rb_if_eq hV (tgt := 26) dX3_kindAt_21 (by decide) (by unfold ab_r at *; omega) (fun _ => ?_) (fun z => absurd z (by decide))
      refine rb_aload_n hV dX3_kindAt_26 rfl rfl ?_
      refine rb_iload_n hV dX3_kindAt_27 rfl rfl ?_
      refine rb_iload_n hV dX3_kindAt_28 rfl rfl ?_
      refine rb_ldcS hV (i := 15) dX3_kindAt_29 rfl ?_
      refine rb_callV hV (rest := []) dX3_kindAt_31 (c_X8_isName s 15 (by decide) a b (by omega) (by omega) hn ht) lk_X3_80 rfl (Or.inl ⟨7, _, TX8, 2, gw_21 _, rfl⟩) rfl ⟨rfl, rfl, (Nat.le_of_ble_eq_true rfl), (Nat.le_of_ble_eq_true rfl), (Nat.le_of_ble_eq_true rfl), (Nat.le_of_ble_eq_true rfl)⟩ (Nat.le_of_ble_eq_true rfl) (fun r9 h9 p9 => ?_)
      obtain ⟨v9, rfl, rfl, hv9⟩ := p9
      rcases hv9 with ⟨e31, rfl⟩ | ⟨e31, rfl⟩
      · show V 34 [some (.inr (some 21)), some (.inl a), some (.inl b)] [.inl 1] (WW s) 0 0
        refine rb_if_eq hV (tgt := 41) dX3_kindAt_34 (by decide) (by unfold ab_r at *; omega) (fun z => absurd z (by decide)) (fun _ => ?_)
        refine rb_iconst hV dX3_kindAt_37 ?_
        refine rb_goto hV (tgt := 42) dX3_kindAt_38 (by decide) ?_
        refine rb_ret hV (r := some (.inl 2)) dX3_kindAt_42 rfl ⟨(Nat.le_of_ble_eq_true rfl), (Nat.le_of_ble_eq_true rfl)⟩ trivial ?_
        exact ⟨congrArg (fun z : Int => some (Sum.inl z)) ((cif_neg e5).trans ((cif_neg e18).trans (cif_pos e31))).symm, rfl⟩
      · show V 34 [some (.inr (some 21)), some (.inl a), some (.inl b)] [.inl 0] (WW s) 0 0
        refine rb_if_eq hV (tgt := 41) dX3_kindAt_34 (by decide) (by unfold ab_r at *; omega) (fun _ => ?_) (fun z => absurd z (by decide))
        refine rb_iconst hV dX3_kindAt_41 ?_
        refine rb_ret hV (r := some (.inl (-1))) dX3_kindAt_42 rfl ⟨(Nat.le_of_ble_eq_true rfl), (Nat.le_of_ble_eq_true rfl)⟩ trivial ?_
        exact ⟨congrArg (fun z : Int => some (Sum.inl z)) ((cif_neg e5).trans ((cif_neg e18).trans (cif_neg e31))).symm, rfl⟩

set_option maxRecDepth 20000 in
theorem c_X3_wantedPieces (s : Nat → Int → Int) (hsb : 0 ≤ s 105 0 ∧ s 105 0 ≤ 3) : ab_Mt yX3_wantedPieces cX3_wantedPieces 1 (some .int) ({ frames := 0, cells := 0, slots := 0, locals := 0 } : Room) false 0 0 [.inr (some 23)] (WW s) (fun r h2 => r = some (.inl (wp (s 105 0))) ∧ h2 = WW s) := by
  refine ab_mk RX3 false rfl pn_X3_wantedPieces (fun z => by cases z) (Nat.le_of_ble_eq_true rfl) (fun V hV => ?_)
  show V 0 [some (.inr (some 23))] [] (WW s) 0 0
  refine rb_aload_n hV dX3_wantedPieces_0 rfl rfl ?_
  refine rb_get hV (v := .inl (s 105 0)) dX3_wantedPieces_1 ⟨RX3, TX3, 3, rfl, (Nat.le_of_ble_eq_true rfl), lf_X3_15⟩ (gw_23 _) rfl ?_
  refine rb_iconst hV dX3_wantedPieces_4 ?_
  refine rb_icmp_ne hV (tgt := 12) dX3_wantedPieces_5 (by decide) ⟨(by unfold ab_r at *; omega), (by unfold ab_r at *; omega)⟩ (fun c5 => ?_) (fun c5 => ?_)
  · refine rb_iconst hV dX3_wantedPieces_12 ?_
    refine rb_ret hV (r := some (.inl 2)) dX3_wantedPieces_13 rfl ⟨(Nat.le_of_ble_eq_true rfl), (Nat.le_of_ble_eq_true rfl)⟩ trivial ?_
    exact ⟨congrArg (fun z : Int => some (Sum.inl z)) (show wp (s 105 0) = 2 from if_neg (by omega)).symm, rfl⟩
  · refine rb_iconst hV dX3_wantedPieces_8 ?_
    refine rb_goto hV (tgt := 13) dX3_wantedPieces_9 (by decide) ?_
    refine rb_ret hV (r := some (.inl 5)) dX3_wantedPieces_13 rfl ⟨(Nat.le_of_ble_eq_true rfl), (Nat.le_of_ble_eq_true rfl)⟩ trivial ?_
    exact ⟨congrArg (fun z : Int => some (Sum.inl z)) (show wp (s 105 0) = 5 from if_pos (by omega)).symm, rfl⟩

set_option maxRecDepth 20000 in
theorem c_X3_leastNumber (s : Nat → Int → Int) (ix : Int) (hix : 0 ≤ ix ∧ ix ≤ 2) (hsb : 0 ≤ s 105 0 ∧ s 105 0 ≤ 3) : ab_Mt yX3_leastNumber cX3_leastNumber 2 (some .int) ({ frames := 1, cells := 0, slots := 0, locals := 21 } : Room) false 0 0 [.inr (some 23), .inl ix] (WW s) (fun r h2 => r = some (.inl (tLo (s 105 0) (s 24) ix)) ∧ h2 = WW s) := by
  refine ab_mk RX3 false rfl pn_X3_leastNumber (fun z => by cases z) (Nat.le_of_ble_eq_true rfl) (fun V hV => ?_)
  show V 0 [some (.inr (some 23)), some (.inl ix)] [] (WW s) 0 0
  refine rb_aload_n hV dX3_leastNumber_0 rfl rfl ?_
  refine rb_get hV (v := .inl (s 105 0)) dX3_leastNumber_1 ⟨RX3, TX3, 3, rfl, (Nat.le_of_ble_eq_true rfl), lf_X3_15⟩ (gw_23 _) rfl ?_
  refine rb_iconst hV dX3_leastNumber_4 ?_
  refine rb_icmp_ne hV (tgt := 27) dX3_leastNumber_5 (by decide) ⟨(by unfold ab_r at *; omega), (by unfold ab_r at *; omega)⟩ (fun c5 => ?_) (fun c5 => ?_)
  · refine rb_aload_n hV dX3_leastNumber_27 rfl rfl ?_
    refine rb_get hV (v := .inl (s 105 0)) dX3_leastNumber_28 ⟨RX3, TX3, 3, rfl, (Nat.le_of_ble_eq_true rfl), lf_X3_15⟩ (gw_23 _) rfl ?_
    refine rb_if_ne hV (tgt := 39) dX3_leastNumber_31 (by decide) (by unfold ab_r at *; omega) (fun c31 => ?_) (fun c31 => ?_)
    · refine rb_iconst hV dX3_leastNumber_39 ?_
      refine rb_ret hV (r := some (.inl 0)) dX3_leastNumber_40 rfl ⟨(Nat.le_of_ble_eq_true rfl), (Nat.le_of_ble_eq_true rfl)⟩ trivial ?_
      exact ⟨congrArg (fun z : Int => some (Sum.inl z)) (show tLo (s 105 0) (s 24) ix = _ from (if_neg (by omega)).trans (if_neg (by omega))).symm, rfl⟩
    · refine rb_bipush hV dX3_leastNumber_34 (by decide) ?_
      refine rb_goto hV (tgt := 40) dX3_leastNumber_36 (by decide) ?_
      refine rb_ret hV (r := some (.inl 10)) dX3_leastNumber_40 rfl ⟨(Nat.le_of_ble_eq_true rfl), (Nat.le_of_ble_eq_true rfl)⟩ trivial ?_
      exact ⟨congrArg (fun z : Int => some (Sum.inl z)) (show tLo (s 105 0) (s 24) ix = _ from (if_neg (by omega)).trans (if_pos (by omega))).symm, rfl⟩
  · refine rb_iload_n hV dX3_leastNumber_8 rfl rfl ?_
    refine rb_if_ne hV (tgt := 16) dX3_leastNumber_9 (by decide) (by unfold ab_r at *; omega) (fun c9 => ?_) (fun c9 => ?_)
    · refine rb_aload_n hV dX3_leastNumber_16 rfl rfl ?_
      refine rb_get hV (v := .inr (some 24)) dX3_leastNumber_17 ⟨RX3, TX3, 3, rfl, (Nat.le_of_ble_eq_true rfl), lf_X3_11⟩ (gw_23 _) rfl ?_
      refine rb_iload_n hV dX3_leastNumber_20 rfl rfl ?_
      refine rb_iconst hV dX3_leastNumber_21 ?_
      refine rb_isub hV dX3_leastNumber_22 ?_
      refine rb_callS hV (rest := []) dX3_leastNumber_23 (c_X9_at s 24 _ (s 24) (ix - 1) (gw_24 _) (Nat.le_of_ble_eq_true rfl) (by omega)) lk_X3_75 rfl rfl ⟨rfl, rfl, (Nat.le_of_ble_eq_true rfl), (Nat.le_of_ble_eq_true rfl), (Nat.le_of_ble_eq_true rfl), (Nat.le_of_ble_eq_true rfl)⟩ (Nat.le_of_ble_eq_true rfl) (fun r9 h9 p9 => ?_)
      obtain ⟨rfl, rfl⟩ := p9
      show V 26 [some (.inr (some 23)), some (.inl ix)] [.inl (s 24 (ix - 1))] (WW s) 0 0
      refine rb_ret hV (r := some (.inl (s 24 (ix - 1)))) dX3_leastNumber_26 rfl ⟨(Nat.le_of_ble_eq_true rfl), (Nat.le_of_ble_eq_true rfl)⟩ trivial ?_
      exact ⟨congrArg (fun z : Int => some (Sum.inl z)) (show tLo (s 105 0) (s 24) ix = _ from (if_pos (by omega)).trans (if_neg (by omega))).symm, rfl⟩
    · refine rb_iconst hV dX3_leastNumber_12 ?_
      refine rb_goto hV (tgt := 26) dX3_leastNumber_13 (by decide) ?_
      refine rb_ret hV (r := some (.inl 1)) dX3_leastNumber_26 rfl ⟨(Nat.le_of_ble_eq_true rfl), (Nat.le_of_ble_eq_true rfl)⟩ trivial ?_
      exact ⟨congrArg (fun z : Int => some (Sum.inl z)) (show tLo (s 105 0) (s 24) ix = _ from (if_pos (by omega)).trans (if_pos (by omega))).symm, rfl⟩

set_option maxRecDepth 20000 in
theorem c_X3_greatestNumber (s : Nat → Int → Int) (hsb : 0 ≤ s 105 0 ∧ s 105 0 ≤ 3) : ab_Mt yX3_greatestNumber cX3_greatestNumber 1 (some .int) ({ frames := 0, cells := 0, slots := 0, locals := 0 } : Room) false 0 0 [.inr (some 23)] (WW s) (fun r h2 => r = some (.inl (tHi (s 105 0))) ∧ h2 = WW s) := by
  refine ab_mk RX3 false rfl pn_X3_greatestNumber (fun z => by cases z) (Nat.le_of_ble_eq_true rfl) (fun V hV => ?_)
  show V 0 [some (.inr (some 23))] [] (WW s) 0 0
  refine rb_aload_n hV dX3_greatestNumber_0 rfl rfl ?_
  refine rb_get hV (v := .inl (s 105 0)) dX3_greatestNumber_1 ⟨RX3, TX3, 3, rfl, (Nat.le_of_ble_eq_true rfl), lf_X3_15⟩ (gw_23 _) rfl ?_
  rcases (show (s 105 0) = 0 ∨ (s 105 0) = 1 ∨ (s 105 0) = 2 ∨ ((s 105 0) < 0 ∨ 2 < (s 105 0)) by omega) with c4 | c4 | c4 | c4
  · refine rb_tabIn hV (off := 28) (tgt := 32) dX3_greatestNumber_4 (by unfold ab_r at *; omega) (by omega) (by omega) (by rw [c4]; rfl) (by decide) ?_
    refine rb_sipush hV dX3_greatestNumber_32 (by decide) ?_
    refine rb_ret hV (r := some (.inl 200)) dX3_greatestNumber_35 rfl ⟨(Nat.le_of_ble_eq_true rfl), (Nat.le_of_ble_eq_true rfl)⟩ trivial ?_
    exact ⟨congrArg (fun z : Int => some (Sum.inl z)) (show tHi (s 105 0) = _ from (if_pos (by omega))).symm, rfl⟩
  · refine rb_tabIn hV (off := 32) (tgt := 36) dX3_greatestNumber_4 (by unfold ab_r at *; omega) (by omega) (by omega) (by rw [c4]; rfl) (by decide) ?_
    refine rb_bipush hV dX3_greatestNumber_36 (by decide) ?_
    refine rb_ret hV (r := some (.inl 100)) dX3_greatestNumber_38 rfl ⟨(Nat.le_of_ble_eq_true rfl), (Nat.le_of_ble_eq_true rfl)⟩ trivial ?_
    exact ⟨congrArg (fun z : Int => some (Sum.inl z)) (show tHi (s 105 0) = _ from ((if_neg (by omega)).trans (if_pos (by omega)))).symm, rfl⟩
  · refine rb_tabIn hV (off := 35) (tgt := 39) dX3_greatestNumber_4 (by unfold ab_r at *; omega) (by omega) (by omega) (by rw [c4]; rfl) (by decide) ?_
    refine rb_bipush hV dX3_greatestNumber_39 (by decide) ?_
    refine rb_ret hV (r := some (.inl 20)) dX3_greatestNumber_41 rfl ⟨(Nat.le_of_ble_eq_true rfl), (Nat.le_of_ble_eq_true rfl)⟩ trivial ?_
    exact ⟨congrArg (fun z : Int => some (Sum.inl z)) (show tHi (s 105 0) = _ from ((if_neg (by omega)).trans ((if_neg (by omega)).trans (if_pos (by omega))))).symm, rfl⟩
  · refine rb_tabOut hV (tgt := 42) dX3_greatestNumber_4 (by unfold ab_r at *; omega) c4 (by decide) ?_
    refine rb_bipush hV dX3_greatestNumber_42 (by decide) ?_
    refine rb_ret hV (r := some (.inl 40)) dX3_greatestNumber_44 rfl ⟨(Nat.le_of_ble_eq_true rfl), (Nat.le_of_ble_eq_true rfl)⟩ trivial ?_
    exact ⟨congrArg (fun z : Int => some (Sum.inl z)) (show tHi (s 105 0) = _ from ((if_neg (by omega)).trans ((if_neg (by omega)).trans (if_neg (by omega))))).symm, rfl⟩

set_option maxRecDepth 20000 in
theorem c_X3_takeNumber (s : Nat → Int → Int) (ix x : Int) (hix : 0 ≤ ix ∧ ix ≤ 2) (hx : -1 ≤ x ∧ x ≤ 999) (hlo : 0 ≤ tLo (s 105 0) (s 24) ix ∧ tLo (s 105 0) (s 24) ix ≤ 999) (hsb : 0 ≤ s 105 0 ∧ s 105 0 ≤ 3) : ab_Mt yX3_takeNumber cX3_takeNumber 3 (some .boolean) ({ frames := 2, cells := 0, slots := 0, locals := 42 } : Room) false 0 0 [.inr (some 23), .inl ix, .inl x] (WW s) (fun r h2 => ∃ v nu, r = some (.inl v) ∧ h2 = WW (ab_s s 24 nu) ∧ TN (s 105 0) (s 24) ix x v nu) := by
  refine ab_mk RX3 false rfl pn_X3_takeNumber (fun z => by cases z) (Nat.le_of_ble_eq_true rfl) (fun V hV => ?_)
  show V 0 [some (.inr (some 23)), some (.inl ix), some (.inl x)] [] (WW s) 0 0
  have hhi : 0 ≤ tHi (s 105 0) ∧ tHi (s 105 0) ≤ 200 := by unfold tHi; (repeat' split) <;> decide
  refine rb_heq (b := (ab_s s 24 (s 24))) (ab_s_id rfl).symm ?_
  refine rb_iload_n hV dX3_takeNumber_0 rfl rfl ?_
  refine rb_if_lt hV (tgt := 9) dX3_takeNumber_1 (by decide) (by unfold ab_r at *; omega) (fun c1 => absurd c1 (by omega)) (fun c1 => ?_)
  refine rb_iload_n hV dX3_takeNumber_4 rfl rfl ?_
  refine rb_iconst hV dX3_takeNumber_5 ?_
  refine rb_icmp_lt hV (tgt := 11) dX3_takeNumber_6 (by decide) ⟨(by unfold ab_r at *; omega), (by unfold ab_r at *; omega)⟩ (fun c6 => ?_) (fun c6 => absurd c6 (by omega))
  refine rb_iload_n hV dX3_takeNumber_11 rfl rfl ?_
  refine rb_aload_n hV dX3_takeNumber_12 rfl rfl ?_
  refine rb_iload_n hV dX3_takeNumber_13 rfl rfl ?_
  refine rb_callV hV (rest := [.inl x]) dX3_takeNumber_14 (c_X3_leastNumber (ab_s s 24 (s 24)) ix (by omega) (by show 0 ≤ (s 105 0) ∧ (s 105 0) ≤ 3; omega)) lk_X3_69 rfl (Or.inl ⟨3, _, TX3, 3, gw_23 _, rfl⟩) rfl ⟨rfl, rfl, (Nat.le_of_ble_eq_true rfl), (Nat.le_of_ble_eq_true rfl), (Nat.le_of_ble_eq_true rfl), (Nat.le_of_ble_eq_true rfl)⟩ (Nat.le_of_ble_eq_true rfl) (fun r9 h9 p9 => ?_)
  obtain ⟨rfl, rfl⟩ := p9
  show V 17 [some (.inr (some 23)), some (.inl ix), some (.inl x)] [.inl (tLo ((s 105 0)) (s 24) ix), .inl x] (WW (ab_s s 24 (s 24))) 0 0
  refine rb_icmp_lt hV (tgt := 28) dX3_takeNumber_17 (by decide) ⟨(by unfold ab_r at *; omega), (by unfold ab_r at *; omega)⟩ (fun c17 => ?_) (fun c17 => ?_)
  · refine rb_iconst hV dX3_takeNumber_28 ?_
    refine rb_ret hV (r := some (.inl 0)) dX3_takeNumber_29 rfl ⟨(Nat.le_of_ble_eq_true rfl), (Nat.le_of_ble_eq_true rfl)⟩ (by first | exact Or.inl rfl | exact Or.inr rfl | omega) ?_
    exact ⟨_, _, rfl, rfl, Or.inr ⟨by omega, rfl, rfl⟩⟩
  · refine rb_iload_n hV dX3_takeNumber_20 rfl rfl ?_
    refine rb_aload_n hV dX3_takeNumber_21 rfl rfl ?_
    refine rb_callV hV (rest := [.inl x]) dX3_takeNumber_22 (c_X3_greatestNumber (ab_s s 24 (s 24)) (by show 0 ≤ (s 105 0) ∧ (s 105 0) ≤ 3; omega)) lk_X3_72 rfl (Or.inl ⟨3, _, TX3, 3, gw_23 _, rfl⟩) rfl ⟨rfl, rfl, (Nat.le_of_ble_eq_true rfl), (Nat.le_of_ble_eq_true rfl), (Nat.le_of_ble_eq_true rfl), (Nat.le_of_ble_eq_true rfl)⟩ (Nat.le_of_ble_eq_true rfl) (fun r9 h9 p9 => ?_)
    obtain ⟨rfl, rfl⟩ := p9
    show V 25 [some (.inr (some 23)), some (.inl ix), some (.inl x)] [.inl (tHi ((s 105 0))), .inl x] (WW (ab_s s 24 (s 24))) 0 0
    refine rb_icmp_le hV (tgt := 30) dX3_takeNumber_25 (by decide) ⟨(by unfold ab_r at *; omega), (by unfold ab_r at *; omega)⟩ (fun c25 => ?_) (fun c25 => ?_)
    · refine rb_aload_n hV dX3_takeNumber_30 rfl rfl ?_
      refine rb_get hV (v := .inr (some 24)) dX3_takeNumber_31 ⟨RX3, TX3, 3, rfl, (Nat.le_of_ble_eq_true rfl), lf_X3_11⟩ (gw_23 _) rfl ?_
      refine rb_iload_n hV dX3_takeNumber_34 rfl rfl ?_
      refine rb_iload_n hV dX3_takeNumber_35 rfl rfl ?_
      refine rb_iast hV (f := (s 24)) dX3_takeNumber_36 (gw_24 _) (Nat.le_of_ble_eq_true rfl) (by omega) rfl ((pw_24 _ _).trans (congrArg WW (ab_s_same _ 24 _ _))) ?_
      refine rb_iconst hV dX3_takeNumber_37 ?_
      refine rb_ret hV (r := some (.inl 1)) dX3_takeNumber_38 rfl ⟨(Nat.le_of_ble_eq_true rfl), (Nat.le_of_ble_eq_true rfl)⟩ (by first | exact Or.inl rfl | exact Or.inr rfl | omega) ?_
      exact ⟨_, _, rfl, rfl, Or.inl ⟨by omega, rfl, rfl⟩⟩
    · refine rb_iconst hV dX3_takeNumber_28 ?_
      refine rb_ret hV (r := some (.inl 0)) dX3_takeNumber_29 rfl ⟨(Nat.le_of_ble_eq_true rfl), (Nat.le_of_ble_eq_true rfl)⟩ (by first | exact Or.inl rfl | exact Or.inr rfl | omega) ?_
      exact ⟨_, _, rfl, rfl, Or.inr ⟨by omega, rfl, rfl⟩⟩

set_option maxRecDepth 20000 in
theorem c_X3_takePiece (s : Nat → Int → Int) (k : Int) (hk : 0 ≤ k ∧ k ≤ 4) (a b : Int) (ha : 0 ≤ a ∧ a ≤ 121) (hb : 0 ≤ b ∧ b ≤ s 104 0) (hn : 0 ≤ s 104 0 ∧ s 104 0 ≤ 120) (ht : ∀ v, 0 ≤ s 22 v ∧ s 22 v < 65536) (hsb1 : ¬ k = 0 → 0 ≤ s 105 0 ∧ s 105 0 ≤ 3) (hlo1 : 2 ≤ k → s 105 0 = 3 → 0 ≤ tLo (s 105 0) (s 24) (k - 2) ∧ tLo (s 105 0) (s 24) (k - 2) ≤ 999) : ab_Mt yX3_takePiece cX3_takePiece 5 (some .boolean) ({ frames := 6, cells := 0, slots := 0, locals := 131 } : Room) false 0 0 [.inr (some 23), .inr (some 21), .inl k, .inl a, .inl b] (WW s) (fun r h2 => ∃ v sub2 kd2 nu2, r = some (.inl v) ∧ h2 = WW (ab_s (ab_s (ab_s s 105 sub2) 106 kd2) 24 nu2) ∧ (((gd (s 22) (s 104 0) k a b (s 105 0) (s 24) ∧ sub2 0 = uS k (s 105 0) (sbj (s 22) (s 104 0) a b) ∧ kd2 0 = uK k (s 105 0) (s 106 0) (kdn (s 22) (s 104 0) a b) ∧ nu2 = uN k (s 105 0) (s 24) (num (s 22) a b)) ∧ v = 1) ∨ (¬ gd (s 22) (s 104 0) k a b (s 105 0) (s 24) ∧ v = 0))) := by
  refine ab_mk RX3 false rfl pn_X3_takePiece (fun z => by cases z) (Nat.le_of_ble_eq_true rfl) (fun V hV => ?_)
  show V 0 [some (.inr (some 23)), some (.inr (some 21)), some (.inl k), some (.inl a), some (.inl b)] [] (WW s) 0 0
  refine rb_heq (b := (ab_s (ab_s (ab_s s 105 (s 105)) 106 (s 106)) 24 (s 24))) ((ab_s_id rfl).trans ((ab_s_id rfl).trans (ab_s_id rfl))).symm ?_
  refine rb_iload_n hV dX3_takePiece_0 rfl rfl ?_
  refine rb_if_ne hV (tgt := 29) dX3_takePiece_1 (by decide) (by unfold ab_r at *; omega) (fun c1 => ?_) (fun c1 => ?_)
  · have hsb := hsb1 c1
    have hwp := wp_b (s 105 0)
    refine rb_iload_n hV dX3_takePiece_29 rfl rfl ?_
    refine rb_aload_n hV dX3_takePiece_30 rfl rfl ?_
    refine rb_callV hV (rest := [.inl k]) dX3_takePiece_31 (c_X3_wantedPieces (ab_s (ab_s (ab_s s 105 (s 105)) 106 (s 106)) 24 (s 24)) (by show 0 ≤ ((s 105) 0) ∧ ((s 105) 0) ≤ 3; omega)) lk_X3_35 rfl (Or.inl ⟨3, _, TX3, 3, gw_23 _, rfl⟩) rfl ⟨rfl, rfl, (Nat.le_of_ble_eq_true rfl), (Nat.le_of_ble_eq_true rfl), (Nat.le_of_ble_eq_true rfl), (Nat.le_of_ble_eq_true rfl)⟩ (Nat.le_of_ble_eq_true rfl) (fun r9 h9 p9 => ?_)
    obtain ⟨rfl, rfl⟩ := p9
    show V 34 [some (.inr (some 23)), some (.inr (some 21)), some (.inl k), some (.inl a), some (.inl b)] [.inl (wp (((s 105) 0))), .inl k] (WW (ab_s (ab_s (ab_s s 105 (s 105)) 106 (s 106)) 24 (s 24))) 0 0
    refine rb_icmp_lt hV (tgt := 39) dX3_takePiece_34 (by decide) ⟨(by unfold ab_r at *; omega), (by unfold ab_r at *; omega)⟩ (fun c34 => ?_) (fun c34 => ?_)
    · refine rb_aload_n hV dX3_takePiece_39 rfl rfl ?_
      refine rb_get hV (v := .inl ((s 105) 0)) dX3_takePiece_40 ⟨RX3, TX3, 3, rfl, (Nat.le_of_ble_eq_true rfl), lf_X3_15⟩ (gw_23 _) rfl ?_
      refine rb_iconst hV dX3_takePiece_43 ?_
      refine rb_icmp_eq hV (tgt := 60) dX3_takePiece_44 (by decide) ⟨(by unfold ab_r at *; omega), (by unfold ab_r at *; omega)⟩ (fun c44 => ?_) (fun c44 => ?_)
      · refine rb_iload_n hV dX3_takePiece_60 rfl rfl ?_
        refine rb_iconst hV dX3_takePiece_61 ?_
        refine rb_icmp_ne hV (tgt := 90) dX3_takePiece_62 (by decide) ⟨(by unfold ab_r at *; omega), (by unfold ab_r at *; omega)⟩ (fun c62 => ?_) (fun c62 => ?_)
        · refine rb_aload_n hV dX3_takePiece_90 rfl rfl ?_
          refine rb_iload_n hV dX3_takePiece_91 rfl rfl ?_
          refine rb_iconst hV dX3_takePiece_92 ?_
          refine rb_isub hV dX3_takePiece_93 ?_
          refine rb_aload_n hV dX3_takePiece_94 rfl rfl ?_
          refine rb_iload_n hV dX3_takePiece_95 rfl rfl ?_
          refine rb_iload hV dX3_takePiece_96 rfl ?_
          refine rb_callV hV (rest := [.inl (k - 2), .inr (some 23)]) dX3_takePiece_98 (c_X8_numberAt (ab_s (ab_s (ab_s s 105 (s 105)) 106 (s 106)) 24 (s 24)) a b (by omega) (by show 0 ≤ b ∧ b ≤ (s 104 0); omega) hn ht) lk_X3_58 rfl (Or.inl ⟨7, _, TX8, 2, gw_21 _, rfl⟩) rfl ⟨rfl, rfl, (Nat.le_of_ble_eq_true rfl), (Nat.le_of_ble_eq_true rfl), (Nat.le_of_ble_eq_true rfl), (Nat.le_of_ble_eq_true rfl)⟩ (Nat.le_of_ble_eq_true rfl) (fun r9 h9 p9 => ?_)
          obtain ⟨v9, rfl, rfl, hv9⟩ := p9
          obtain rfl := num_eq hv9
          show V 101 [some (.inr (some 23)), some (.inr (some 21)), some (.inl k), some (.inl a), some (.inl b)] [.inl (num (s 22) a b), .inl (k - 2), .inr (some 23)] (WW (ab_s (ab_s (ab_s s 105 (s 105)) 106 (s 106)) 24 (s 24))) 0 0
          refine rb_callV hV (rest := []) dX3_takePiece_101 (c_X3_takeNumber (ab_s (ab_s (ab_s s 105 (s 105)) 106 (s 106)) 24 (s 24)) (k - 2) (num (s 22) a b) (by omega) (num_b _ _ _) (hlo1 (by omega) c44) (by show 0 ≤ ((s 105) 0) ∧ ((s 105) 0) ≤ 3; omega)) lk_X3_62 rfl (Or.inl ⟨3, _, TX3, 3, gw_23 _, rfl⟩) rfl ⟨rfl, rfl, (Nat.le_of_ble_eq_true rfl), (Nat.le_of_ble_eq_true rfl), (Nat.le_of_ble_eq_true rfl), (Nat.le_of_ble_eq_true rfl)⟩ (Nat.le_of_ble_eq_true rfl) (fun r9 h9 p9 => ?_)
          obtain ⟨w9, nu9, rfl, rfl, hw9⟩ := p9
          replace hw9 : TN (((s 105) 0)) (s 24) (k - 2) (num (s 22) a b) w9 nu9 := hw9
          refine rb_heq (b := (ab_s (ab_s (ab_s s 105 (s 105)) 106 (s 106)) 24 nu9)) (ab_s_same _ 24 _ _) ?_
          show V 104 [some (.inr (some 23)), some (.inr (some 21)), some (.inl k), some (.inl a), some (.inl b)] [.inl w9] (WW (ab_s (ab_s (ab_s s 105 (s 105)) 106 (s 106)) 24 nu9)) 0 0
          refine rb_ret hV (r := some (.inl w9)) dX3_takePiece_104 rfl ⟨(Nat.le_of_ble_eq_true rfl), (Nat.le_of_ble_eq_true rfl)⟩ (TN_01 hw9) ?_
          rcases hw9 with ⟨g, rfl, rfl⟩ | ⟨g, rfl, rfl⟩
          · exact ⟨_, _, _, _, rfl, rfl, Or.inl ⟨⟨Or.inr (Or.inr (Or.inl ⟨by omega, c44, g⟩)), (if_neg (by omega)).symm, (if_neg (by omega)).symm, (if_pos (by omega)).symm⟩, rfl⟩⟩
          · exact ⟨_, _, _, _, rfl, rfl, Or.inr ⟨fun q => by unfold gd at q; omega, rfl⟩⟩
        · refine rb_aload_n hV dX3_takePiece_65 rfl rfl ?_
          refine rb_aload_n hV dX3_takePiece_66 rfl rfl ?_
          refine rb_iload_n hV dX3_takePiece_67 rfl rfl ?_
          refine rb_iload hV dX3_takePiece_68 rfl ?_
          refine rb_callS hV (rest := [.inr (some 23)]) dX3_takePiece_70 (c_X3_kindAt (ab_s (ab_s (ab_s s 105 (s 105)) 106 (s 106)) 24 (s 24)) a b (by omega) (by show 0 ≤ b ∧ b ≤ (s 104 0); omega) hn ht) lk_X3_66 rfl rfl ⟨rfl, rfl, (Nat.le_of_ble_eq_true rfl), (Nat.le_of_ble_eq_true rfl), (Nat.le_of_ble_eq_true rfl), (Nat.le_of_ble_eq_true rfl)⟩ (Nat.le_of_ble_eq_true rfl) (fun r9 h9 p9 => ?_)
          obtain ⟨rfl, rfl⟩ := p9
          show V 73 [some (.inr (some 23)), some (.inr (some 21)), some (.inl k), some (.inl a), some (.inl b)] [.inl (kdn (s 22) ((s 104 0)) a b), .inr (some 23)] (WW (ab_s (ab_s (ab_s s 105 (s 105)) 106 (s 106)) 24 (s 24))) 0 0
          refine rb_put hV (C := RX3) (T := TX3) (N := 3) (ci := 3) (j := 2) dX3_takePiece_73 rfl (Nat.le_of_ble_eq_true rfl) lf_X3_19 rfl (gw_23 _) (Nat.le_of_ble_eq_true rfl) (ft_X3_2 _) ((pw_23_2 _ _).trans (congrArg WW ((ab_s_sw (by decide)).trans (congrArg (fun x => ab_s x 24 _) (ab_s_same _ 106 _ _))))) ?_
          have hkj := kdn_b (s 22) (s 104 0) a b
          refine rb_aload_n hV dX3_takePiece_76 rfl rfl ?_
          refine rb_get hV (v := .inl (kdn (s 22) ((s 104 0)) a b)) dX3_takePiece_77 ⟨RX3, TX3, 3, rfl, (Nat.le_of_ble_eq_true rfl), lf_X3_19⟩ (gw_23 _) rfl ?_
          refine rb_iconst hV dX3_takePiece_80 ?_
          refine rb_icmp_eq hV (tgt := 88) dX3_takePiece_81 (by decide) ⟨(by unfold ab_r at *; omega), (by unfold ab_r at *; omega)⟩ (fun c81 => ?_) (fun c81 => ?_)
          · refine rb_iconst hV dX3_takePiece_88 ?_
            refine rb_ret hV (r := some (.inl 0)) dX3_takePiece_89 rfl ⟨(Nat.le_of_ble_eq_true rfl), (Nat.le_of_ble_eq_true rfl)⟩ (by first | exact Or.inl rfl | exact Or.inr rfl | omega) ?_
            exact ⟨_, _, _, _, rfl, rfl, Or.inr ⟨fun q => by unfold gd at q; omega, rfl⟩⟩
          · refine rb_iconst hV dX3_takePiece_84 ?_
            refine rb_goto hV (tgt := 89) dX3_takePiece_85 (by decide) ?_
            refine rb_ret hV (r := some (.inl 1)) dX3_takePiece_89 rfl ⟨(Nat.le_of_ble_eq_true rfl), (Nat.le_of_ble_eq_true rfl)⟩ (by first | exact Or.inl rfl | exact Or.inr rfl | omega) ?_
            exact ⟨_, _, _, _, rfl, rfl, Or.inl ⟨⟨Or.inr (Or.inl ⟨by omega, c44, c81⟩), (if_neg (by omega)).symm, (if_pos (by omega)).symm, ((if_neg (by omega)).trans (if_neg (by omega))).symm⟩, rfl⟩⟩
      · refine rb_aload_n hV dX3_takePiece_47 rfl rfl ?_
        refine rb_iconst hV dX3_takePiece_48 ?_
        refine rb_aload_n hV dX3_takePiece_49 rfl rfl ?_
        refine rb_iload_n hV dX3_takePiece_50 rfl rfl ?_
        refine rb_iload hV dX3_takePiece_51 rfl ?_
        refine rb_callV hV (rest := [.inl 0, .inr (some 23)]) dX3_takePiece_53 (c_X8_numberAt (ab_s (ab_s (ab_s s 105 (s 105)) 106 (s 106)) 24 (s 24)) a b (by omega) (by show 0 ≤ b ∧ b ≤ (s 104 0); omega) hn ht) lk_X3_58 rfl (Or.inl ⟨7, _, TX8, 2, gw_21 _, rfl⟩) rfl ⟨rfl, rfl, (Nat.le_of_ble_eq_true rfl), (Nat.le_of_ble_eq_true rfl), (Nat.le_of_ble_eq_true rfl), (Nat.le_of_ble_eq_true rfl)⟩ (Nat.le_of_ble_eq_true rfl) (fun r9 h9 p9 => ?_)
        obtain ⟨v9, rfl, rfl, hv9⟩ := p9
        obtain rfl := num_eq hv9
        show V 56 [some (.inr (some 23)), some (.inr (some 21)), some (.inl k), some (.inl a), some (.inl b)] [.inl (num (s 22) a b), .inl 0, .inr (some 23)] (WW (ab_s (ab_s (ab_s s 105 (s 105)) 106 (s 106)) 24 (s 24))) 0 0
        refine rb_callV hV (rest := []) dX3_takePiece_56 (c_X3_takeNumber (ab_s (ab_s (ab_s s 105 (s 105)) 106 (s 106)) 24 (s 24)) 0 (num (s 22) a b) (by omega) (num_b _ _ _) (by show 0 ≤ tLo (s 105 0) (s 24) 0 ∧ tLo (s 105 0) (s 24) 0 ≤ 999; unfold tLo; rw [if_neg c44]; split <;> decide) (by show 0 ≤ ((s 105) 0) ∧ ((s 105) 0) ≤ 3; omega)) lk_X3_62 rfl (Or.inl ⟨3, _, TX3, 3, gw_23 _, rfl⟩) rfl ⟨rfl, rfl, (Nat.le_of_ble_eq_true rfl), (Nat.le_of_ble_eq_true rfl), (Nat.le_of_ble_eq_true rfl), (Nat.le_of_ble_eq_true rfl)⟩ (Nat.le_of_ble_eq_true rfl) (fun r9 h9 p9 => ?_)
        obtain ⟨w9, nu9, rfl, rfl, hw9⟩ := p9
        replace hw9 : TN (((s 105) 0)) (s 24) 0 (num (s 22) a b) w9 nu9 := hw9
        refine rb_heq (b := (ab_s (ab_s (ab_s s 105 (s 105)) 106 (s 106)) 24 nu9)) (ab_s_same _ 24 _ _) ?_
        show V 59 [some (.inr (some 23)), some (.inr (some 21)), some (.inl k), some (.inl a), some (.inl b)] [.inl w9] (WW (ab_s (ab_s (ab_s s 105 (s 105)) 106 (s 106)) 24 nu9)) 0 0
        refine rb_ret hV (r := some (.inl w9)) dX3_takePiece_59 rfl ⟨(Nat.le_of_ble_eq_true rfl), (Nat.le_of_ble_eq_true rfl)⟩ (TN_01 hw9) ?_
        rcases hw9 with ⟨g, rfl, rfl⟩ | ⟨g, rfl, rfl⟩
        · exact ⟨_, _, _, _, rfl, rfl, Or.inl ⟨⟨Or.inr (Or.inr (Or.inr ⟨by omega, c44, g⟩)), (if_neg (by omega)).symm, (if_neg (by omega)).symm, ((if_neg (by omega)).trans (if_pos (by omega))).symm⟩, rfl⟩⟩
        · exact ⟨_, _, _, _, rfl, rfl, Or.inr ⟨fun q => by unfold gd at q; omega, rfl⟩⟩
    · refine rb_iconst hV dX3_takePiece_37 ?_
      refine rb_ret hV (r := some (.inl 0)) dX3_takePiece_38 rfl ⟨(Nat.le_of_ble_eq_true rfl), (Nat.le_of_ble_eq_true rfl)⟩ (by first | exact Or.inl rfl | exact Or.inr rfl | omega) ?_
      exact ⟨_, _, _, _, rfl, rfl, Or.inr ⟨fun q => by unfold gd at q; omega, rfl⟩⟩
  · refine rb_aload_n hV dX3_takePiece_4 rfl rfl ?_
    refine rb_aload_n hV dX3_takePiece_5 rfl rfl ?_
    refine rb_iload_n hV dX3_takePiece_6 rfl rfl ?_
    refine rb_iload hV dX3_takePiece_7 rfl ?_
    refine rb_callS hV (rest := [.inr (some 23)]) dX3_takePiece_9 (c_X3_subjectAt (ab_s (ab_s (ab_s s 105 (s 105)) 106 (s 106)) 24 (s 24)) a b (by omega) (by show 0 ≤ b ∧ b ≤ (s 104 0); omega) hn ht) lk_X3_54 rfl rfl ⟨rfl, rfl, (Nat.le_of_ble_eq_true rfl), (Nat.le_of_ble_eq_true rfl), (Nat.le_of_ble_eq_true rfl), (Nat.le_of_ble_eq_true rfl)⟩ (Nat.le_of_ble_eq_true rfl) (fun r9 h9 p9 => ?_)
    obtain ⟨rfl, rfl⟩ := p9
    show V 12 [some (.inr (some 23)), some (.inr (some 21)), some (.inl k), some (.inl a), some (.inl b)] [.inl (sbj (s 22) ((s 104 0)) a b), .inr (some 23)] (WW (ab_s (ab_s (ab_s s 105 (s 105)) 106 (s 106)) 24 (s 24))) 0 0
    refine rb_put hV (C := RX3) (T := TX3) (N := 3) (ci := 3) (j := 1) dX3_takePiece_12 rfl (Nat.le_of_ble_eq_true rfl) lf_X3_15 rfl (gw_23 _) (Nat.le_of_ble_eq_true rfl) (ft_X3_1 _) ((pw_23_1 _ _).trans (congrArg WW ((ab_s_sw (by decide)).trans (congrArg (fun x => ab_s x 24 _) ((ab_s_sw (by decide)).trans (congrArg (fun x => ab_s x 106 _) (ab_s_same _ 105 _ _))))))) ?_
    have hsj := sbj_b (s 22) (s 104 0) a b
    refine rb_aload_n hV dX3_takePiece_15 rfl rfl ?_
    refine rb_get hV (v := .inl (sbj (s 22) ((s 104 0)) a b)) dX3_takePiece_16 ⟨RX3, TX3, 3, rfl, (Nat.le_of_ble_eq_true rfl), lf_X3_15⟩ (gw_23 _) rfl ?_
    refine rb_iconst hV dX3_takePiece_19 ?_
    refine rb_icmp_eq hV (tgt := 27) dX3_takePiece_20 (by decide) ⟨(by unfold ab_r at *; omega), (by unfold ab_r at *; omega)⟩ (fun c20 => ?_) (fun c20 => ?_)
    · refine rb_iconst hV dX3_takePiece_27 ?_
      refine rb_ret hV (r := some (.inl 0)) dX3_takePiece_28 rfl ⟨(Nat.le_of_ble_eq_true rfl), (Nat.le_of_ble_eq_true rfl)⟩ (by first | exact Or.inl rfl | exact Or.inr rfl | omega) ?_
      exact ⟨_, _, _, _, rfl, rfl, Or.inr ⟨fun q => by unfold gd at q; omega, rfl⟩⟩
    · refine rb_iconst hV dX3_takePiece_23 ?_
      refine rb_goto hV (tgt := 28) dX3_takePiece_24 (by decide) ?_
      refine rb_ret hV (r := some (.inl 1)) dX3_takePiece_28 rfl ⟨(Nat.le_of_ble_eq_true rfl), (Nat.le_of_ble_eq_true rfl)⟩ (by first | exact Or.inl rfl | exact Or.inr rfl | omega) ?_
      exact ⟨_, _, _, _, rfl, rfl, Or.inl ⟨⟨Or.inl ⟨c1, c20⟩, (if_pos (by omega)).symm, (if_neg (by omega)).symm, ((if_neg (by omega)).trans (if_neg (by omega))).symm⟩, rfl⟩⟩
