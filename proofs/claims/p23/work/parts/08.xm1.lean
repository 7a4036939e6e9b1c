/-! the paragraph and the settings, as the class and as the reference hold them -/
def vX (s : Nat → Int → Int) : Nat → Int → Int := fun k => match k with
  | 0 => fun _ => s 103 0
  | 1 => s 6
  | 2 => s 7
  | 3 => s 8
  | 4 => s 9
  | 5 => s 10
  | 6 => fun _ => s 100 0
  | 7 => fun _ => s 101 0
  | 8 => fun _ => s 102 0
  | 9 => s 2
  | 10 => s 3
  | _ => s 4
def vM (s : Nat → Int → Int) : Nat → Int → Int := fun k => match k with
  | 0 => fun _ => s 120 0
  | 1 => s 51
  | 2 => s 52
  | 3 => s 53
  | 4 => s 54
  | 5 => s 55
  | 6 => fun _ => s 117 0
  | 7 => fun _ => s 118 0
  | 8 => fun _ => s 119 0
  | 9 => fun k => s 50 (3 * k)
  | 10 => fun k => s 50 (3 * k + 1)
  | _ => fun k => s 50 (3 * k + 2)
/-- the class's sums over the words before a word, and its hangs -/
def RUf (d : Nat → Int → Int) (f12 f13 f14 f15 f16 f17 : Int → Int) (i : Int) : Prop :=
  (∀ j, 0 ≤ j → j ≤ i → f12 j = Sm (d 1) 0 j ∧ f13 j = Sm (fun w => d 10 (d 3 w)) 0 j ∧ f14 j = Sm (fun w => d 11 (d 3 w) - d 10 (d 3 w)) 0 j ∧ f15 j = Sm (fun w => d 10 (d 3 w) - d 9 (d 3 w)) 0 j) ∧ ∀ j, 0 ≤ j → j < i → f16 j = hL d j ∧ f17 j = hR d j
def RU (s : Nat → Int → Int) : Prop := RUf (vX s) (s 12) (s 13) (s 14) (s 15) (s 16) (s 17) (s 103 0)
theorem RU_nt {s : Nat → Int → Int} (hr : RU s) {a b : Int} (h0 : 0 ≤ a) (h1 : a ≤ b) (h2 : b < s 103 0) : s 12 (b + 1) - s 12 a + (s 13 b - s 13 a) - s 16 a - s 17 b = nt (vX s) a b := by
  obtain ⟨h3, h4⟩ := hr
  have a1 := h3 (b + 1) (by omega) (by omega)
  have a2 := h3 a h0 (by omega)
  have a3 := h3 b (by omega) (by omega)
  have a4 := h4 a h0 (by omega)
  have a5 := h4 b (by omega) h2
  have s1 := Sm_split (vX s 1) (a := 0) (b := a) (c := b + 1) h0 (by omega)
  have s2 := Sm_split (fun w => vX s 10 (vX s 3 w)) (a := 0) (b := a) (c := b) h0 h1
  unfold nt
  omega
theorem RU_st {s : Nat → Int → Int} (hr : RU s) {a b : Int} (h0 : 0 ≤ a) (h1 : a ≤ b) (h2 : b < s 103 0) : s 14 b - s 14 a = st (vX s) a b ∧ s 15 b - s 15 a = sh (vX s) a b := by
  obtain ⟨h3, h4⟩ := hr
  have a2 := h3 a h0 (by omega)
  have a3 := h3 b (by omega) (by omega)
  have s1 := Sm_split (fun w => vX s 11 (vX s 3 w) - vX s 10 (vX s 3 w)) (a := 0) (b := a) (c := b) h0 h1
  have s2 := Sm_split (fun w => vX s 10 (vX s 3 w) - vX s 9 (vX s 3 w)) (a := 0) (b := a) (c := b) h0 h1
  unfold st sh
  omega
/-- what the class answers for badness and demerits of any line -/
def xb (d : Nat → Int → Int) (a b : Int) : Int := if ps d a b = true then bd d a b else -1
def xd (d : Nat → Int → Int) (a b : Int) : Int := if ps d a b = true then dm d a b else -1
theorem xb_0 {d : Nat → Int → Int} (hp : PI d) {a b : Int} (h0 : 0 ≤ a) (h1 : a ≤ b) (h2 : b < d 0 0) (hz : df d a b = 0 ∨ (0 < df d a b ∧ b = d 0 0 - 1)) : xb d a b = 0 := by
  have e1 := st_b hp (a := a) (b := b) h0 h1 (by omega)
  have e2 := sh_b hp (a := a) (b := b) h0 h1 (by omega)
  have e3 : ps d a b = true := ps_iff.mpr (by omega)
  unfold xb bd
  rw [if_pos e3, if_pos hz]
theorem xb_no {d : Nat → Int → Int} (hp : PI d) {a b : Int} (h0 : 0 ≤ a) (h1 : a ≤ b) (h2 : b < d 0 0) (hz : ¬ (df d a b = 0 ∨ (0 < df d a b ∧ b = d 0 0 - 1))) (h : rmm d a b < 1 ∨ rmm d a b < df d a b ∨ rmm d a b < - df d a b) : xb d a b = -1 := by
  unfold xb
  by_cases e : ps d a b = true
  · have := rmm_b hp h0 h1 h2 e hz
    omega
  · rw [if_neg e]
theorem xb_yes {d : Nat → Int → Int} (hp : PI d) {a b : Int} (h0 : 0 ≤ a) (h1 : a ≤ b) (h2 : b < d 0 0) (hz : ¬ (df d a b = 0 ∨ (0 < df d a b ∧ b = d 0 0 - 1))) (h : ¬ (rmm d a b < 1 ∨ rmm d a b < df d a b ∨ rmm d a b < - df d a b)) : xb d a b = (100 * df d a b * df d a b).tdiv (rmm d a b * rmm d a b) ∧ - rmm d a b ≤ df d a b ∧ df d a b ≤ rmm d a b := by
  have e1 := st_b hp (a := a) (b := b) h0 h1 (by omega)
  have e2 := sh_b hp (a := a) (b := b) h0 h1 (by omega)
  have e3 : ps d a b = true := ps_iff.mpr (by unfold rmm at h; split at h <;> omega)
  unfold xb bd
  rw [if_pos e3, if_neg hz]
  exact ⟨rfl, by omega, by omega⟩
theorem xb_b {d : Nat → Int → Int} (hp : PI d) {a b : Int} (h0 : 0 ≤ a) (h1 : a ≤ b) (h2 : b < d 0 0) : -1 ≤ xb d a b ∧ xb d a b ≤ 100 := by
  unfold xb
  split
  · rename_i h
    have := bd_b hp h0 h1 h2 h
    omega
  · omega
theorem xd_b {d : Nat → Int → Int} (hp : PI d) {a b : Int} (h0 : 0 ≤ a) (h1 : a ≤ b) (h2 : b < d 0 0) : -1 ≤ xd d a b ∧ xd d a b ≤ 12200 := by
  unfold xd
  split
  · rename_i h
    have := dm_b hp h0 h1 h2 h
    omega
  · omega
theorem xd_no {d : Nat → Int → Int} (hp : PI d) {a b : Int} (h0 : 0 ≤ a) (h1 : a ≤ b) (h2 : b < d 0 0) (h : xb d a b = -1) : xd d a b = -1 := by
  unfold xb at h
  unfold xd
  split at h
  · rename_i h3
    have := bd_b hp h0 h1 h2 h3
    omega
  · rename_i h3
    rw [if_neg h3]
theorem xd_y1 {d : Nat → Int → Int} {a b : Int} (h : ¬ xb d a b = -1) (hs : ¬ b = d 0 0 - 1 ∧ d 2 b ≤ 2) : xd d a b = (10 + xb d a b) * (10 + xb d a b) + 100 := by
  unfold xb at h ⊢
  unfold xd dm
  by_cases z : ps d a b = true
  · rw [if_pos z, if_pos z, if_pos hs]
  · rw [if_neg z] at h
    exact absurd rfl h
theorem xd_y0 {d : Nat → Int → Int} {a b : Int} (h : ¬ xb d a b = -1) (hs : ¬ (¬ b = d 0 0 - 1 ∧ d 2 b ≤ 2)) : xd d a b = (10 + xb d a b) * (10 + xb d a b) + 0 := by
  unfold xb at h ⊢
  unfold xd dm
  by_cases z : ps d a b = true
  · rw [if_pos z, if_pos z, if_neg hs]
  · rw [if_neg z] at h
    exact absurd rfl h
theorem cd_no {d : Nat → Int → Int} {bs : Int → Int} {a b : Int} (h : ¬ 0 ≤ bs (b + 1) ∨ xd d a b = -1) (hp : PI d) (h0 : 0 ≤ a) (h1 : a ≤ b) (h2 : b < d 0 0) : cd d bs a b = -1 := by
  unfold cd
  rw [if_neg]
  intro z
  rcases h with h | h
  · exact h z.1
  · unfold xd at h
    rw [if_pos z.2] at h
    have := dm_b hp h0 h1 h2 z.2
    omega
theorem cd_yes {d : Nat → Int → Int} {bs : Int → Int} {a b : Int} (h : 0 ≤ bs (b + 1)) (h3 : ¬ xd d a b = -1) : cd d bs a b = xd d a b + bs (b + 1) := by
  unfold cd
  unfold xd at h3 ⊢
  by_cases z : ps d a b = true
  · rw [if_pos ⟨h, z⟩, if_pos z]
  · rw [if_neg z] at h3
    exact absurd rfl h3
theorem cd_bnd {d : Nat → Int → Int} {bs : Int → Int} (hp : PI d) {a b M : Int} (h0 : 0 ≤ a) (h1 : a ≤ b) (h2 : b < d 0 0) (hM : bs (b + 1) ≤ M) (hM0 : 0 ≤ M) : -1 ≤ cd d bs a b ∧ cd d bs a b ≤ 12200 + M := by
  unfold cd
  split
  · rename_i h
    have := dm_b hp h0 h1 h2 h.2
    omega
  · omega
theorem cd_congr {d : Nat → Int → Int} {bs bs2 : Int → Int} {a b : Int} (h : bs (b + 1) = bs2 (b + 1)) : cd d bs a b = cd d bs2 a b := by
  unfold cd
  rw [h]
theorem am_take {c : Int → Int} {a b : Int} (hab : a ≤ b) (h0 : 0 ≤ c b) (h : (am c a (b - a).toNat).1 < 0 ∨ c b ≤ (am c a (b - a).toNat).1) : am c a (b + 1 - a).toNat = (c b, b) := by
  rw [show (b + 1 - a).toNat = (b - a).toNat + 1 by omega, am, show a + ((b - a).toNat : Int) = b by omega, if_pos ⟨h0, h⟩]
theorem am_skip {c : Int → Int} {a b : Int} (hab : a ≤ b) (h : c b < 0 ∨ (0 ≤ (am c a (b - a).toNat).1 ∧ (am c a (b - a).toNat).1 < c b)) : am c a (b + 1 - a).toNat = am c a (b - a).toNat := by
  rw [show (b + 1 - a).toNat = (b - a).toNat + 1 by omega, am, show a + ((b - a).toNat : Int) = b by omega, if_neg (by omega)]
theorem am_0 (c : Int → Int) (a : Int) : am c a (a - a).toNat = (-1, -1) := by
  rw [show (a - a).toNat = 0 by omega]
  rfl
/-- the search for the best way, done for the words behind a -/
def BWp (d : Nat → Int → Int) (bs be : Int → Int) (a : Int) : Prop := bs (d 0 0) = 0 ∧ (∀ j, a < j → j < d 0 0 → bs j = (am (cd d bs j) j (d 0 0 - j).toNat).1 ∧ be j = (am (cd d bs j) j (d 0 0 - j).toNat).2) ∧ ∀ j, a < j → j ≤ d 0 0 → -1 ≤ bs j ∧ bs j ≤ 12200 * (d 0 0 - j)
theorem BWp_step {d : Nat → Int → Int} {f g be ge : Int → Int} {a : Int} (hp : PI d) (h0 : 0 ≤ a) (h1 : a < d 0 0) (h : BWp d f be a) (hg : ∀ j, ¬ j = a → g j = f j ∧ ge j = be j) (h2 : g a = (am (cd d f a) a (d 0 0 - a).toNat).1) (h3 : ge a = (am (cd d f a) a (d 0 0 - a).toNat).2) : BWp d g ge (a + (-1)) := by
  obtain ⟨b1, b2, b3⟩ := h
  have e : ∀ j, a ≤ j → am (cd d g j) j (d 0 0 - j).toNat = am (cd d f j) j (d 0 0 - j).toNat := fun j hj => am_congr _ fun i q1 q2 => cd_congr (hg (i + 1) (by omega)).1
  refine ⟨by rw [(hg _ (by omega)).1, b1], fun j q1 q2 => ?_, fun j q1 q2 => ?_⟩
  · by_cases hj : j = a
    · subst hj
      rw [e j (by omega), h2, h3]
      exact ⟨rfl, rfl⟩
    · rw [e j (by omega), (hg j hj).1, (hg j hj).2]
      exact b2 j (by omega) q2
  · by_cases hj : j = a
    · subst hj
      rw [h2]
      rcases am_in (c := cd d f j) (lo := j) (d 0 0 - j).toNat with ⟨i1, -, -⟩ | ⟨i1, i2, i3, i4⟩
      · rw [i1]
        omega
      · have q := b3 ((am (cd d f j) j (d 0 0 - j).toNat).2 + 1) (by omega) (by omega)
        have q3 := cd_bnd (bs := f) hp h0 i2 (by omega) (M := 12200 * (d 0 0 - j) - 12200) (by omega) (by omega)
        rw [← i4]
        omega
    · rw [(hg j hj).1]
      exact b3 j (by omega) q2
theorem BWp_BW {d : Nat → Int → Int} {f be : Int → Int} (h : BWp d f be (-1)) : BW d f be := ⟨h.1, fun a q1 q2 => ⟨(h.2.1 a (by omega) q2).1, fun _ => (h.2.1 a (by omega) q2).2⟩⟩
def BS (d : Nat → Int → Int) (bs : Int → Int) : Prop := ∀ j, 0 ≤ j → j ≤ d 0 0 → -1 ≤ bs j ∧ bs j ≤ 732000
theorem BWp_BS {d : Nat → Int → Int} {f be : Int → Int} (hp : PI d) (h : BWp d f be (-1)) : BS d f := fun j q1 q2 => by
  have := h.2.2 j (by omega) q2
  have := hp.1
  omega
theorem bw_take {d : Nat → Int → Int} {f g be ge : Int → Int} {a b : Int} (q1 : a ≤ b) (q2 : ∀ j, ¬ j = a → g j = f j ∧ ge j = be j) (q3 : g a = (am (cd d f a) a (b - a).toNat).1 ∧ ge a = (am (cd d f a) a (b - a).toNat).2) (hc : ¬ cd d g a b = -1) (hb : -1 ≤ cd d g a b) (h : g a = -1 ∨ cd d g a b ≤ g a) : ab_u g a (cd d g a b) a = (am (cd d f a) a (b + 1 - a).toNat).1 ∧ ab_u ge a b a = (am (cd d f a) a (b + 1 - a).toNat).2 := by
  have e : cd d g a b = cd d f a b := cd_congr (q2 (b + 1) (by omega)).1
  rw [am_take q1 (by omega) (by omega)]
  unfold ab_u
  rw [if_pos rfl, if_pos rfl]
  exact ⟨e, rfl⟩
theorem bw_skip {d : Nat → Int → Int} {f g be ge : Int → Int} {a b : Int} (q1 : a ≤ b) (q2 : ∀ j, ¬ j = a → g j = f j ∧ ge j = be j) (q3 : g a = (am (cd d f a) a (b - a).toNat).1 ∧ ge a = (am (cd d f a) a (b - a).toNat).2) (h : cd d g a b = -1 ∨ (¬ g a = -1 ∧ g a < cd d g a b)) : g a = (am (cd d f a) a (b + 1 - a).toNat).1 ∧ ge a = (am (cd d f a) a (b + 1 - a).toNat).2 := by
  have e : cd d g a b = cd d f a b := cd_congr (q2 (b + 1) (by omega)).1
  have := am_in (c := cd d f a) (lo := a) (b - a).toNat
  rw [am_skip q1 (by omega)]
  exact q3
theorem bw_hb {d : Nat → Int → Int} {f g be ge : Int → Int} {a b : Int} (hp : PI d) (h0 : 0 ≤ a) (q1 : a ≤ b) (qn : b < d 0 0) (h : BWp d f be a) (q2 : ∀ j, ¬ j = a → g j = f j ∧ ge j = be j) (q3 : g a = (am (cd d f a) a (b - a).toNat).1 ∧ ge a = (am (cd d f a) a (b - a).toNat).2) : (-1 ≤ g (b + 1) ∧ g (b + 1) ≤ 732000) ∧ (-1 ≤ cd d g a b ∧ cd d g a b ≤ 744200) ∧ (-1 ≤ g a ∧ g a ≤ 744200) := by
  have hn := hp.1
  have hall : ∀ j, a < j → j ≤ d 0 0 → -1 ≤ g j ∧ g j ≤ 732000 := fun j j1 j2 => by
    rw [(q2 j (by omega)).1]
    have := h.2.2 j j1 j2
    omega
  have h1 := hall (b + 1) (by omega) (by omega)
  refine ⟨h1, ?_, ?_⟩
  · have := cd_bnd (bs := g) hp h0 q1 qn h1.2 (by omega)
    omega
  · rw [q3.1]
    rcases am_in (c := cd d f a) (lo := a) (b - a).toNat with ⟨i1, -, -⟩ | ⟨i1, i2, i3, i4⟩
    · rw [i1]
      omega
    · have e2 := h.2.2 ((am (cd d f a) a (b - a).toNat).2 + 1) (by omega) (by omega)
      have := cd_bnd (bs := f) (M := 732000) hp h0 i2 (by omega) (by omega) (by omega)
      rw [← i4]
      omega

set_option maxRecDepth 20000 in
theorem c_X9_at (s : Nat → Int → Int) (q n : Nat) (f : Int → Int) (i : Int) (hq : (WW s)[q]? = some (.inl (0, n, f))) (hn : n < 2147483648) (hi : 0 ≤ i ∧ i < n) : ab_Mt yX9_at cX9_at 2 (some .int) ({ frames := 0, cells := 0, slots := 0, locals := 0 } : Room) false 0 0 [.inr (some q), .inl i] (WW s) (fun r h2 => r = some (.inl (f i)) ∧ h2 = WW s) := by
  refine ab_mk RX9 false rfl pn_X9_at (fun z => by cases z) (Nat.le_of_ble_eq_true rfl) (fun V hV => ?_)
  show V 0 [some (.inr (some q)), some (.inl i)] [] (WW s) 0 0
  refine rb_iload_n hV dX9_at_0 rfl rfl ?_
  refine rb_if_lt hV (tgt := 16) dX9_at_1 (by decide) (by first | assumption | (unfold ab_r at *; omega)) (fun c1 => absurd c1 (by omega)) (fun c1 => ?_)
  refine rb_iload_n hV dX9_at_4 rfl rfl ?_
  refine rb_aload_n hV dX9_at_5 rfl rfl ?_
  refine rb_alen hV dX9_at_6 hq (Nat.le_of_ble_eq_true rfl) ?_
  refine rb_icmp_ge hV (tgt := 16) dX9_at_7 (by decide) ⟨(by first | assumption | (unfold ab_r at *; omega)), (by first | assumption | (unfold ab_r at *; omega))⟩ (fun c7 => absurd c7 (by omega)) (fun c7 => ?_)
  refine rb_aload_n hV dX9_at_10 rfl rfl ?_
  refine rb_iload_n hV dX9_at_11 rfl rfl ?_
  refine rb_iald hV dX9_at_12 hq hn (by omega) ?_
  refine rb_goto hV (tgt := 17) dX9_at_13 (by decide) ?_
  refine rb_ret hV (r := some (.inl (f i))) dX9_at_17 rfl ⟨(Nat.le_of_ble_eq_true rfl), (Nat.le_of_ble_eq_true rfl)⟩ trivial ?_
  exact ⟨rfl, rfl⟩

set_option maxRecDepth 20000 in
theorem c_X9_isKind (s : Nat → Int → Int) (a : Int) (ha : ab_r a) : ab_Mt yX9_isKind cX9_isKind 1 (some .boolean) ({ frames := 0, cells := 0, slots := 0, locals := 0 } : Room) false 0 0 [.inl a] (WW s) (fun r h2 => r = some (.inl (if 0 ≤ a ∧ a < 3 then 1 else 0)) ∧ h2 = WW s) := by
  refine ab_mk RX9 false rfl pn_X9_isKind (fun z => by cases z) (Nat.le_of_ble_eq_true rfl) (fun V hV => ?_)
  show V 0 [some (.inl a)] [] (WW s) 0 0
  refine rb_iload_n hV dX9_isKind_0 rfl rfl ?_
  refine rb_if_lt hV (tgt := 13) dX9_isKind_1 (by decide) (by first | assumption | (unfold ab_r at *; omega)) (fun c1 => ?_) (fun c1 => ?_)
  · refine rb_iconst hV dX9_isKind_13 ?_
    refine rb_ret hV (r := some (.inl 0)) dX9_isKind_14 rfl ⟨(Nat.le_of_ble_eq_true rfl), (Nat.le_of_ble_eq_true rfl)⟩ (by first | exact Or.inl rfl | exact Or.inr rfl | omega) ?_
    exact ⟨by first | (rw [if_pos (by omega)]; done) | (rw [if_neg (by omega)]; done), rfl⟩
  · refine rb_iload_n hV dX9_isKind_4 rfl rfl ?_
    refine rb_iconst hV dX9_isKind_5 ?_
    refine rb_icmp_ge hV (tgt := 13) dX9_isKind_6 (by decide) ⟨(by first | assumption | (unfold ab_r at *; omega)), (by first | assumption | (unfold ab_r at *; omega))⟩ (fun c6 => ?_) (fun c6 => ?_)
    · refine rb_iconst hV dX9_isKind_13 ?_
      refine rb_ret hV (r := some (.inl 0)) dX9_isKind_14 rfl ⟨(Nat.le_of_ble_eq_true rfl), (Nat.le_of_ble_eq_true rfl)⟩ (by first | exact Or.inl rfl | exact Or.inr rfl | omega) ?_
      exact ⟨by first | (rw [if_pos (by omega)]; done) | (rw [if_neg (by omega)]; done), rfl⟩
    · refine rb_iconst hV dX9_isKind_9 ?_
      refine rb_goto hV (tgt := 14) dX9_isKind_10 (by decide) ?_
      refine rb_ret hV (r := some (.inl 1)) dX9_isKind_14 rfl ⟨(Nat.le_of_ble_eq_true rfl), (Nat.le_of_ble_eq_true rfl)⟩ (by first | exact Or.inl rfl | exact Or.inr rfl | omega) ?_
      exact ⟨by first | (rw [if_pos (by omega)]; done) | (rw [if_neg (by omega)]; done), rfl⟩

set_option maxRecDepth 20000 in
theorem c_X2_isEnd (s : Nat → Int → Int) (b : Int) (hb : ab_r b) (hw : 0 ≤ s 103 0 ∧ s 103 0 ≤ 60) : ab_Mt yX2_isEnd cX2_isEnd 2 (some .boolean) ({ frames := 0, cells := 0, slots := 0, locals := 0 } : Room) false 0 0 [.inr (some 11), .inl b] (WW s) (fun r h2 => r = some (.inl (if b = s 103 0 - 1 then 1 else 0)) ∧ h2 = WW s) := by
  refine ab_mk RX2 false rfl pn_X2_isEnd (fun z => by cases z) (Nat.le_of_ble_eq_true rfl) (fun V hV => ?_)
  show V 0 [some (.inr (some 11)), some (.inl b)] [] (WW s) 0 0
  refine rb_iload_n hV dX2_isEnd_0 rfl rfl ?_
  refine rb_aload_n hV dX2_isEnd_1 rfl rfl ?_
  refine rb_get hV (v := .inr (some 5)) dX2_isEnd_2 ⟨RX2, TX2, 8, rfl, (Nat.le_of_ble_eq_true rfl), lf_X2_9⟩ (gw_11 _) rfl ?_
  refine rb_get hV (v := .inl (s 103 0)) dX2_isEnd_5 ⟨RX4, TX4, 6, rfl, (Nat.le_of_ble_eq_true rfl), lf_X2_38⟩ (gw_5 _) rfl ?_
  refine rb_iconst hV dX2_isEnd_8 ?_
  refine rb_isub hV dX2_isEnd_9 ?_
  refine rb_icmp_ne hV (tgt := 17) dX2_isEnd_10 (by decide) ⟨(by first | assumption | (unfold ab_r at *; omega)), (by first | assumption | (unfold ab_r at *; omega))⟩ (fun c10 => ?_) (fun c10 => ?_)
  · refine rb_iconst hV dX2_isEnd_17 ?_
    refine rb_ret hV (r := some (.inl 0)) dX2_isEnd_18 rfl ⟨(Nat.le_of_ble_eq_true rfl), (Nat.le_of_ble_eq_true rfl)⟩ (by first | exact Or.inl rfl | exact Or.inr rfl | omega) ?_
    exact ⟨by first | (rw [if_pos (by omega)]; done) | (rw [if_neg (by omega)]; done), rfl⟩
  · refine rb_iconst hV dX2_isEnd_13 ?_
    refine rb_goto hV (tgt := 18) dX2_isEnd_14 (by decide) ?_
    refine rb_ret hV (r := some (.inl 1)) dX2_isEnd_18 rfl ⟨(Nat.le_of_ble_eq_true rfl), (Nat.le_of_ble_eq_true rfl)⟩ (by first | exact Or.inl rfl | exact Or.inr rfl | omega) ?_
    exact ⟨by first | (rw [if_pos (by omega)]; done) | (rw [if_neg (by omega)]; done), rfl⟩

set_option maxRecDepth 20000 in
theorem c_X2_naturalWidth (s : Nat → Int → Int) (a b : Int) (hp : PI (vX s)) (hr : RU s) (h : 0 ≤ a ∧ a ≤ b ∧ b < s 103 0) : ab_Mt yX2_naturalWidth cX2_naturalWidth 5 (some .int) ({ frames := 0, cells := 0, slots := 0, locals := 0 } : Room) false 0 0 [.inr (some 11), .inl a, .inl b] (WW s) (fun r h2 => r = some (.inl (nt (vX s) a b)) ∧ h2 = WW s) := by
  refine ab_mk RX2 false rfl pn_X2_naturalWidth (fun z => by cases z) (Nat.le_of_ble_eq_true rfl) (fun V hV => ?_)
  show V 0 [some (.inr (some 11)), some (.inl a), some (.inl b), none, none] [] (WW s) 0 0
  have hn : 0 ≤ s 103 0 ∧ s 103 0 ≤ 60 := hp.1
  refine rb_iload_n hV dX2_naturalWidth_0 rfl rfl ?_
  refine rb_if_lt hV (tgt := 15) dX2_naturalWidth_1 (by decide) (by first | assumption | (unfold ab_r at *; omega)) (fun c1 => absurd c1 (by omega)) (fun c1 => ?_)
  refine rb_iload_n hV dX2_naturalWidth_4 rfl rfl ?_
  refine rb_iload_n hV dX2_naturalWidth_5 rfl rfl ?_
  refine rb_icmp_lt hV (tgt := 15) dX2_naturalWidth_6 (by decide) ⟨(by first | assumption | (unfold ab_r at *; omega)), (by first | assumption | (unfold ab_r at *; omega))⟩ (fun c6 => absurd c6 (by omega)) (fun c6 => ?_)
  refine rb_iload_n hV dX2_naturalWidth_9 rfl rfl ?_
  refine rb_bipush hV dX2_naturalWidth_10 (by decide) ?_
  refine rb_icmp_lt hV (tgt := 17) dX2_naturalWidth_12 (by decide) ⟨(by first | assumption | (unfold ab_r at *; omega)), (by first | assumption | (unfold ab_r at *; omega))⟩ (fun c12 => ?_) (fun c12 => absurd c12 (by omega))
  refine rb_aload_n hV dX2_naturalWidth_17 rfl rfl ?_
  refine rb_get hV (v := .inr (some 12)) dX2_naturalWidth_18 ⟨RX2, TX2, 8, rfl, (Nat.le_of_ble_eq_true rfl), lf_X2_19⟩ (gw_11 _) rfl ?_
  refine rb_iload_n hV dX2_naturalWidth_21 rfl rfl ?_
  refine rb_iconst hV dX2_naturalWidth_22 ?_
  refine rb_iadd hV dX2_naturalWidth_23 ?_
  refine rb_iald hV (f := (s 12)) dX2_naturalWidth_24 (gw_12 _) (Nat.le_of_ble_eq_true rfl) (by omega) ?_
  refine rb_aload_n hV dX2_naturalWidth_25 rfl rfl ?_
  refine rb_get hV (v := .inr (some 12)) dX2_naturalWidth_26 ⟨RX2, TX2, 8, rfl, (Nat.le_of_ble_eq_true rfl), lf_X2_19⟩ (gw_11 _) rfl ?_
  refine rb_iload_n hV dX2_naturalWidth_29 rfl rfl ?_
  refine rb_iald hV (f := (s 12)) dX2_naturalWidth_30 (gw_12 _) (Nat.le_of_ble_eq_true rfl) (by omega) ?_
  refine rb_isub hV dX2_naturalWidth_31 ?_
  refine rb_istore_n hV (L2 := [some (.inr (some 11)), some (.inl a), some (.inl b), some (.inl ((s 12 (b + 1)) - (s 12 a))), none]) dX2_naturalWidth_32 rfl (Nat.le_of_ble_eq_true rfl) rfl ?_
  refine rb_aload_n hV dX2_naturalWidth_33 rfl rfl ?_
  refine rb_get hV (v := .inr (some 13)) dX2_naturalWidth_34 ⟨RX2, TX2, 8, rfl, (Nat.le_of_ble_eq_true rfl), lf_X2_23⟩ (gw_11 _) rfl ?_
  refine rb_iload_n hV dX2_naturalWidth_37 rfl rfl ?_
  refine rb_iald hV (f := (s 13)) dX2_naturalWidth_38 (gw_13 _) (Nat.le_of_ble_eq_true rfl) (by omega) ?_
  refine rb_aload_n hV dX2_naturalWidth_39 rfl rfl ?_
  refine rb_get hV (v := .inr (some 13)) dX2_naturalWidth_40 ⟨RX2, TX2, 8, rfl, (Nat.le_of_ble_eq_true rfl), lf_X2_23⟩ (gw_11 _) rfl ?_
  refine rb_iload_n hV dX2_naturalWidth_43 rfl rfl ?_
  refine rb_iald hV (f := (s 13)) dX2_naturalWidth_44 (gw_13 _) (Nat.le_of_ble_eq_true rfl) (by omega) ?_
  refine rb_isub hV dX2_naturalWidth_45 ?_
  refine rb_istore hV (L2 := [some (.inr (some 11)), some (.inl a), some (.inl b), some (.inl ((s 12 (b + 1)) - (s 12 a))), some (.inl ((s 13 b) - (s 13 a)))]) dX2_naturalWidth_46 (Nat.le_of_ble_eq_true rfl) rfl ?_
  refine rb_iload_n hV dX2_naturalWidth_48 rfl rfl ?_
  refine rb_iload hV dX2_naturalWidth_49 rfl ?_
  refine rb_iadd hV dX2_naturalWidth_51 ?_
  refine rb_aload_n hV dX2_naturalWidth_52 rfl rfl ?_
  refine rb_get hV (v := .inr (some 16)) dX2_naturalWidth_53 ⟨RX2, TX2, 8, rfl, (Nat.le_of_ble_eq_true rfl), lf_X2_32⟩ (gw_11 _) rfl ?_
  refine rb_iload_n hV dX2_naturalWidth_56 rfl rfl ?_
  refine rb_iald hV (f := (s 16)) dX2_naturalWidth_57 (gw_16 _) (Nat.le_of_ble_eq_true rfl) (by omega) ?_
  refine rb_isub hV dX2_naturalWidth_58 ?_
  refine rb_aload_n hV dX2_naturalWidth_59 rfl rfl ?_
  refine rb_get hV (v := .inr (some 17)) dX2_naturalWidth_60 ⟨RX2, TX2, 8, rfl, (Nat.le_of_ble_eq_true rfl), lf_X2_35⟩ (gw_11 _) rfl ?_
  refine rb_iload_n hV dX2_naturalWidth_63 rfl rfl ?_
  refine rb_iald hV (f := (s 17)) dX2_naturalWidth_64 (gw_17 _) (Nat.le_of_ble_eq_true rfl) (by omega) ?_
  refine rb_isub hV dX2_naturalWidth_65 ?_
  refine rb_ret hV (r := some (.inl (((((s 12 (b + 1)) - (s 12 a)) + ((s 13 b) - (s 13 a))) - (s 16 a)) - (s 17 b)))) dX2_naturalWidth_66 rfl ⟨(Nat.le_of_ble_eq_true rfl), (Nat.le_of_ble_eq_true rfl)⟩ trivial ?_
  exact ⟨congrArg (fun z : Int => some (Sum.inl z)) (RU_nt hr h.1 h.2.1 h.2.2), rfl⟩

set_option maxRecDepth 20000 in
theorem c_X2_badness (s : Nat → Int → Int) (a b : Int) (hp : PI (vX s)) (hr : RU s) (h : 0 ≤ a ∧ a ≤ b ∧ b < s 103 0) : ab_Mt yX2_badness cX2_badness 6 (some .int) ({ frames := 1, cells := 0, slots := 0, locals := 24 } : Room) false 0 0 [.inr (some 11), .inl a, .inl b] (WW s) (fun r h2 => r = some (.inl (xb (vX s) a b)) ∧ h2 = WW s) := by
  refine ab_mk RX2 false rfl pn_X2_badness (fun z => by cases z) (Nat.le_of_ble_eq_true rfl) (fun V hV => ?_)
  show V 0 [some (.inr (some 11)), some (.inl a), some (.inl b), none, none, none] [] (WW s) 0 0
  have hn : 0 ≤ s 103 0 ∧ s 103 0 ≤ 60 := hp.1
  have hd := df_b hp h.1 h.2.1 h.2.2
  have hnt := nt_b hp h.1 h.2.1 h.2.2
  have hm : 10 ≤ s 100 0 ∧ s 100 0 ≤ 200 := hp.2.2.1
  have hst := st_b hp h.1 h.2.1 (Int.le_of_lt h.2.2)
  have hsh := sh_b hp h.1 h.2.1 (Int.le_of_lt h.2.2)
  have hru := RU_st hr h.1 h.2.1 h.2.2
  have hdf : df (vX s) a b = s 100 0 - nt (vX s) a b := rfl
  refine rb_aload_n hV dX2_badness_0 rfl rfl ?_
  refine rb_get hV (v := .inr (some 1)) dX2_badness_1 ⟨RX2, TX2, 8, rfl, (Nat.le_of_ble_eq_true rfl), lf_X2_15⟩ (gw_11 _) rfl ?_
  refine rb_get hV (v := .inl (s 100 0)) dX2_badness_4 ⟨RX6, TX6, 6, rfl, (Nat.le_of_ble_eq_true rfl), lf_X2_74⟩ (gw_1 _) rfl ?_
  refine rb_aload_n hV dX2_badness_7 rfl rfl ?_
  refine rb_iload_n hV dX2_badness_8 rfl rfl ?_
  refine rb_iload_n hV dX2_badness_9 rfl rfl ?_
  refine rb_callV hV (rest := [.inl (s 100 0)]) dX2_badness_10 (c_X2_naturalWidth s a b hp hr (show 0 ≤ a ∧ a ≤ b ∧ b < (s 103 0) by omega)) lk_X2_77 rfl (Or.inl ⟨2, _, TX2, 8, gw_11 _, rfl⟩) rfl ⟨rfl, rfl, (Nat.le_of_ble_eq_true rfl), (Nat.le_of_ble_eq_true rfl), (Nat.le_of_ble_eq_true rfl), (Nat.le_of_ble_eq_true rfl)⟩ (Nat.le_of_ble_eq_true rfl) (fun r9 h9 p9 => ?_)
  obtain ⟨rfl, rfl⟩ := p9
  show V 13 [some (.inr (some 11)), some (.inl a), some (.inl b), none, none, none] [.inl (nt (vX s) a b), .inl (s 100 0)] (WW s) 0 0
  refine rb_isub hV dX2_badness_13 ?_
  refine rb_istore_n hV (L2 := [some (.inr (some 11)), some (.inl a), some (.inl b), some (.inl ((s 100 0) - (nt (vX s) a b))), none, none]) dX2_badness_14 rfl (Nat.le_of_ble_eq_true rfl) rfl ?_
  refine rb_iload_n hV dX2_badness_15 rfl rfl ?_
  refine rb_if_eq hV (tgt := 31) dX2_badness_16 (by decide) (by first | assumption | (unfold ab_r at *; omega)) (fun c16 => ?_) (fun c16 => ?_)
  · refine rb_iconst hV dX2_badness_31 ?_
    refine rb_ret hV (r := some (.inl 0)) dX2_badness_32 rfl ⟨(Nat.le_of_ble_eq_true rfl), (Nat.le_of_ble_eq_true rfl)⟩ trivial ?_
    exact ⟨congrArg (fun z : Int => some (Sum.inl z)) (xb_0 hp h.1 h.2.1 h.2.2 (by show (df (vX s) a b = 0 ∨ (0 < df (vX s) a b ∧ b = s 103 0 - 1)); omega)).symm, rfl⟩
  · refine rb_iload_n hV dX2_badness_19 rfl rfl ?_
    refine rb_if_le hV (tgt := 33) dX2_badness_20 (by decide) (by first | assumption | (unfold ab_r at *; omega)) (fun c20 => ?_) (fun c20 => ?_)
    · refine rb_iload_n hV dX2_badness_33 rfl rfl ?_
      refine rb_if_le hV (tgt := 44) dX2_badness_34 (by decide) (by first | assumption | (unfold ab_r at *; omega)) (fun c34 => ?_) (fun c34 => absurd c34 (by omega))
      refine rb_aload_n hV dX2_badness_44 rfl rfl ?_
      refine rb_get hV (v := .inr (some 15)) dX2_badness_45 ⟨RX2, TX2, 8, rfl, (Nat.le_of_ble_eq_true rfl), lf_X2_29⟩ (gw_11 _) rfl ?_
      refine rb_astore hV (L2 := [some (.inr (some 11)), some (.inl a), some (.inl b), some (.inl ((s 100 0) - (nt (vX s) a b))), some (.inr (some 15)), none]) dX2_badness_48 (Nat.le_of_ble_eq_true rfl) rfl ?_
      refine rb_aload hV dX2_badness_50 rfl ?_
      refine rb_iload_n hV dX2_badness_52 rfl rfl ?_
      refine rb_callS hV (rest := []) dX2_badness_53 (c_X9_at s 15 _ (s 15) b (gw_15 _) (Nat.le_of_ble_eq_true rfl) (by omega)) lk_X2_52 rfl rfl ⟨rfl, rfl, (Nat.le_of_ble_eq_true rfl), (Nat.le_of_ble_eq_true rfl), (Nat.le_of_ble_eq_true rfl), (Nat.le_of_ble_eq_true rfl)⟩ (Nat.le_of_ble_eq_true rfl) (fun r9 h9 p9 => ?_)
      obtain ⟨rfl, rfl⟩ := p9
      show V 56 [some (.inr (some 11)), some (.inl a), some (.inl b), some (.inl ((s 100 0) - (nt (vX s) a b))), some (.inr (some 15)), none] [.inl (s 15 b)] (WW s) 0 0
      refine rb_aload hV dX2_badness_56 rfl ?_
      refine rb_iload_n hV dX2_badness_58 rfl rfl ?_
      refine rb_callS hV (rest := [.inl (s 15 b)]) dX2_badness_59 (c_X9_at s 15 _ (s 15) a (gw_15 _) (Nat.le_of_ble_eq_true rfl) (by omega)) lk_X2_52 rfl rfl ⟨rfl, rfl, (Nat.le_of_ble_eq_true rfl), (Nat.le_of_ble_eq_true rfl), (Nat.le_of_ble_eq_true rfl), (Nat.le_of_ble_eq_true rfl)⟩ (Nat.le_of_ble_eq_true rfl) (fun r9 h9 p9 => ?_)
      obtain ⟨rfl, rfl⟩ := p9
      show V 62 [some (.inr (some 11)), some (.inl a), some (.inl b), some (.inl ((s 100 0) - (nt (vX s) a b))), some (.inr (some 15)), none] [.inl (s 15 a), .inl (s 15 b)] (WW s) 0 0
      refine rb_isub hV dX2_badness_62 ?_
      refine rb_istore hV (L2 := [some (.inr (some 11)), some (.inl a), some (.inl b), some (.inl ((s 100 0) - (nt (vX s) a b))), some (.inr (some 15)), some (.inl ((s 15 b) - (s 15 a)))]) dX2_badness_63 (Nat.le_of_ble_eq_true rfl) rfl ?_
      refine rb_iload hV dX2_badness_65 rfl ?_
      refine rb_iconst hV dX2_badness_67 ?_
      refine rb_icmp_lt hV (tgt := 80) dX2_badness_68 (by decide) ⟨(by first | assumption | (unfold ab_r at *; omega)), (by first | assumption | (unfold ab_r at *; omega))⟩ (fun c68 => ?_) (fun c68 => ?_)
      · refine rb_iconst hV dX2_badness_80 ?_
        refine rb_ret hV (r := some (.inl (-1))) dX2_badness_81 rfl ⟨(Nat.le_of_ble_eq_true rfl), (Nat.le_of_ble_eq_true rfl)⟩ trivial ?_
        exact ⟨congrArg (fun z : Int => some (Sum.inl z)) (xb_no hp h.1 h.2.1 h.2.2 (by show ¬ (df (vX s) a b = 0 ∨ (0 < df (vX s) a b ∧ b = s 103 0 - 1)); omega) (by unfold rmm; split <;> omega)).symm, rfl⟩
      · refine rb_iload hV dX2_badness_71 rfl ?_
        refine rb_iload_n hV dX2_badness_73 rfl rfl ?_
        refine rb_mabs hV dX2_badness_74 lk_X2_85 (by first | assumption | (unfold ab_r at *; omega)) (Nat.le_of_ble_eq_true rfl) (Nat.le_of_ble_eq_true rfl) ⟨(Nat.le_of_ble_eq_true rfl), (Nat.le_of_ble_eq_true rfl)⟩ ?_
        rw [if_neg (show ¬ 0 ≤ ((s 100 0) - (nt (vX s) a b)) by omega)]
        refine rb_icmp_ge hV (tgt := 82) dX2_badness_77 (by decide) ⟨(by first | assumption | (unfold ab_r at *; omega)), (by first | assumption | (unfold ab_r at *; omega))⟩ (fun c77 => ?_) (fun c77 => ?_)
        · refine rb_bipush hV dX2_badness_82 (by decide) ?_
          refine rb_iload_n hV dX2_badness_84 rfl rfl ?_
          refine rb_imul hV dX2_badness_85 ?_
          refine rb_iload_n hV dX2_badness_86 rfl rfl ?_
          refine rb_imul hV dX2_badness_87 ?_
          refine rb_iload hV dX2_badness_88 rfl ?_
          refine rb_iload hV dX2_badness_90 rfl ?_
          refine rb_imul hV dX2_badness_92 ?_
          refine rb_idiv hV dX2_badness_93 (by have e9 := sq_r (x := s 100 0 - nt (vX s) a b) (r := s 15 b - s 15 a) (by omega) (by omega) (by omega) (by omega); unfold ab_r; omega) (by have e9 : 1 * 1 ≤ (s 15 b - s 15 a) * (s 15 b - s 15 a) := Int.mul_le_mul (by omega) (by omega) (by omega) (by omega); omega) ?_
          refine rb_ret hV (r := some (.inl ((((100 * ((s 100 0) - (nt (vX s) a b))) * ((s 100 0) - (nt (vX s) a b)))).tdiv (((s 15 b) - (s 15 a)) * ((s 15 b) - (s 15 a)))))) dX2_badness_94 rfl ⟨(Nat.le_of_ble_eq_true rfl), (Nat.le_of_ble_eq_true rfl)⟩ trivial ?_
          refine ⟨congrArg (fun z : Int => some (Sum.inl z)) ?_, rfl⟩
          rw [(xb_yes hp h.1 h.2.1 h.2.2 (by show ¬ (df (vX s) a b = 0 ∨ (0 < df (vX s) a b ∧ b = s 103 0 - 1)); omega) (by unfold rmm; split <;> omega)).1, hdf, show rmm (vX s) a b = (s 15 b - s 15 a) by unfold rmm; split <;> omega]
        · refine rb_iconst hV dX2_badness_80 ?_
          refine rb_ret hV (r := some (.inl (-1))) dX2_badness_81 rfl ⟨(Nat.le_of_ble_eq_true rfl), (Nat.le_of_ble_eq_true rfl)⟩ trivial ?_
          exact ⟨congrArg (fun z : Int => some (Sum.inl z)) (xb_no hp h.1 h.2.1 h.2.2 (by show ¬ (df (vX s) a b = 0 ∨ (0 < df (vX s) a b ∧ b = s 103 0 - 1)); omega) (by unfold rmm; split <;> omega)).symm, rfl⟩
    · refine rb_aload_n hV dX2_badness_23 rfl rfl ?_
      refine rb_iload_n hV dX2_badness_24 rfl rfl ?_
      refine rb_callV hV (rest := []) dX2_badness_25 (c_X2_isEnd s b (by unfold ab_r; omega) (show 0 ≤ (s 103 0) ∧ (s 103 0) ≤ 60 by omega)) lk_X2_81 rfl (Or.inl ⟨2, _, TX2, 8, gw_11 _, rfl⟩) rfl ⟨rfl, rfl, (Nat.le_of_ble_eq_true rfl), (Nat.le_of_ble_eq_true rfl), (Nat.le_of_ble_eq_true rfl), (Nat.le_of_ble_eq_true rfl)⟩ (Nat.le_of_ble_eq_true rfl) (fun r9 h9 p9 => ?_)
      obtain ⟨rfl, rfl⟩ := p9
      show V 28 [some (.inr (some 11)), some (.inl a), some (.inl b), some (.inl ((s 100 0) - (nt (vX s) a b))), none, none] [.inl (if b = s 103 0 - 1 then 1 else 0)] (WW s) 0 0
      by_cases e25 : b = s 103 0 - 1
      · rw [if_pos e25]
        show V 28 [some (.inr (some 11)), some (.inl a), some (.inl b), some (.inl ((s 100 0) - (nt (vX s) a b))), none, none] [.inl 1] (WW s) 0 0
        refine rb_if_eq hV (tgt := 33) dX2_badness_28 (by decide) (by first | assumption | (unfold ab_r at *; omega)) (fun z => absurd z (by decide)) (fun _ => ?_)
        refine rb_iconst hV dX2_badness_31 ?_
        refine rb_ret hV (r := some (.inl 0)) dX2_badness_32 rfl ⟨(Nat.le_of_ble_eq_true rfl), (Nat.le_of_ble_eq_true rfl)⟩ trivial ?_
        exact ⟨congrArg (fun z : Int => some (Sum.inl z)) (xb_0 hp h.1 h.2.1 h.2.2 (by show (df (vX s) a b = 0 ∨ (0 < df (vX s) a b ∧ b = s 103 0 - 1)); omega)).symm, rfl⟩
      · rw [if_neg e25]
        show V 28 [some (.inr (some 11)), some (.inl a), some (.inl b), some (.inl ((s 100 0) - (nt (vX s) a b))), none, none] [.inl 0] (WW s) 0 0
        refine rb_if_eq hV (tgt := 33) dX2_badness_28 (by decide) (by first | assumption | (unfold ab_r at *; omega)) (fun _ => ?_) (fun z => absurd z (by decide))
        refine rb_iload_n hV dX2_badness_33 rfl rfl ?_
        refine rb_if_le hV (tgt := 44) dX2_badness_34 (by decide) (by first | assumption | (unfold ab_r at *; omega)) (fun c34 => absurd c34 (by omega)) (fun c34 => ?_)
        refine rb_aload_n hV dX2_badness_37 rfl rfl ?_
        refine rb_get hV (v := .inr (some 14)) dX2_badness_38 ⟨RX2, TX2, 8, rfl, (Nat.le_of_ble_eq_true rfl), lf_X2_26⟩ (gw_11 _) rfl ?_
        refine rb_goto hV (tgt := 48) dX2_badness_41 (by decide) ?_
        refine rb_astore hV (L2 := [some (.inr (some 11)), some (.inl a), some (.inl b), some (.inl ((s 100 0) - (nt (vX s) a b))), some (.inr (some 14)), none]) dX2_badness_48 (Nat.le_of_ble_eq_true rfl) rfl ?_
        refine rb_aload hV dX2_badness_50 rfl ?_
        refine rb_iload_n hV dX2_badness_52 rfl rfl ?_
        refine rb_callS hV (rest := []) dX2_badness_53 (c_X9_at s 14 _ (s 14) b (gw_14 _) (Nat.le_of_ble_eq_true rfl) (by omega)) lk_X2_52 rfl rfl ⟨rfl, rfl, (Nat.le_of_ble_eq_true rfl), (Nat.le_of_ble_eq_true rfl), (Nat.le_of_ble_eq_true rfl), (Nat.le_of_ble_eq_true rfl)⟩ (Nat.le_of_ble_eq_true rfl) (fun r9 h9 p9 => ?_)
        obtain ⟨rfl, rfl⟩ := p9
        show V 56 [some (.inr (some 11)), some (.inl a), some (.inl b), some (.inl ((s 100 0) - (nt (vX s) a b))), some (.inr (some 14)), none] [.inl (s 14 b)] (WW s) 0 0
        refine rb_aload hV dX2_badness_56 rfl ?_
        refine rb_iload_n hV dX2_badness_58 rfl rfl ?_
        refine rb_callS hV (rest := [.inl (s 14 b)]) dX2_badness_59 (c_X9_at s 14 _ (s 14) a (gw_14 _) (Nat.le_of_ble_eq_true rfl) (by omega)) lk_X2_52 rfl rfl ⟨rfl, rfl, (Nat.le_of_ble_eq_true rfl), (Nat.le_of_ble_eq_true rfl), (Nat.le_of_ble_eq_true rfl), (Nat.le_of_ble_eq_true rfl)⟩ (Nat.le_of_ble_eq_true rfl) (fun r9 h9 p9 => ?_)
        obtain ⟨rfl, rfl⟩ := p9
        show V 62 [some (.inr (some 11)), some (.inl a), some (.inl b), some (.inl ((s 100 0) - (nt (vX s) a b))), some (.inr (some 14)), none] [.inl (s 14 a), .inl (s 14 b)] (WW s) 0 0
        refine rb_isub hV dX2_badness_62 ?_
        refine rb_istore hV (L2 := [some (.inr (some 11)), some (.inl a), some (.inl b), some (.inl ((s 100 0) - (nt (vX s) a b))), some (.inr (some 14)), some (.inl ((s 14 b) - (s 14 a)))]) dX2_badness_63 (Nat.le_of_ble_eq_true rfl) rfl ?_
        refine rb_iload hV dX2_badness_65 rfl ?_
        refine rb_iconst hV dX2_badness_67 ?_
        refine rb_icmp_lt hV (tgt := 80) dX2_badness_68 (by decide) ⟨(by first | assumption | (unfold ab_r at *; omega)), (by first | assumption | (unfold ab_r at *; omega))⟩ (fun c68 => ?_) (fun c68 => ?_)
        · refine rb_iconst hV dX2_badness_80 ?_
          refine rb_ret hV (r := some (.inl (-1))) dX2_badness_81 rfl ⟨(Nat.le_of_ble_eq_true rfl), (Nat.le_of_ble_eq_true rfl)⟩ trivial ?_
          exact ⟨congrArg (fun z : Int => some (Sum.inl z)) (xb_no hp h.1 h.2.1 h.2.2 (by show ¬ (df (vX s) a b = 0 ∨ (0 < df (vX s) a b ∧ b = s 103 0 - 1)); omega) (by unfold rmm; split <;> omega)).symm, rfl⟩
        · refine rb_iload hV dX2_badness_71 rfl ?_
          refine rb_iload_n hV dX2_badness_73 rfl rfl ?_
          refine rb_mabs hV dX2_badness_74 lk_X2_85 (by first | assumption | (unfold ab_r at *; omega)) (Nat.le_of_ble_eq_true rfl) (Nat.le_of_ble_eq_true rfl) ⟨(Nat.le_of_ble_eq_true rfl), (Nat.le_of_ble_eq_true rfl)⟩ ?_
          rw [if_pos (show 0 ≤ ((s 100 0) - (nt (vX s) a b)) by omega)]
          refine rb_icmp_ge hV (tgt := 82) dX2_badness_77 (by decide) ⟨(by first | assumption | (unfold ab_r at *; omega)), (by first | assumption | (unfold ab_r at *; omega))⟩ (fun c77 => ?_) (fun c77 => ?_)
          · refine rb_bipush hV dX2_badness_82 (by decide) ?_
            refine rb_iload_n hV dX2_badness_84 rfl rfl ?_
            refine rb_imul hV dX2_badness_85 ?_
            refine rb_iload_n hV dX2_badness_86 rfl rfl ?_
            refine rb_imul hV dX2_badness_87 ?_
            refine rb_iload hV dX2_badness_88 rfl ?_
            refine rb_iload hV dX2_badness_90 rfl ?_
            refine rb_imul hV dX2_badness_92 ?_
            refine rb_idiv hV dX2_badness_93 (by have e9 := sq_r (x := s 100 0 - nt (vX s) a b) (r := s 14 b - s 14 a) (by omega) (by omega) (by omega) (by omega); unfold ab_r; omega) (by have e9 : 1 * 1 ≤ (s 14 b - s 14 a) * (s 14 b - s 14 a) := Int.mul_le_mul (by omega) (by omega) (by omega) (by omega); omega) ?_
            refine rb_ret hV (r := some (.inl ((((100 * ((s 100 0) - (nt (vX s) a b))) * ((s 100 0) - (nt (vX s) a b)))).tdiv (((s 14 b) - (s 14 a)) * ((s 14 b) - (s 14 a)))))) dX2_badness_94 rfl ⟨(Nat.le_of_ble_eq_true rfl), (Nat.le_of_ble_eq_true rfl)⟩ trivial ?_
            refine ⟨congrArg (fun z : Int => some (Sum.inl z)) ?_, rfl⟩
            rw [(xb_yes hp h.1 h.2.1 h.2.2 (by show ¬ (df (vX s) a b = 0 ∨ (0 < df (vX s) a b ∧ b = s 103 0 - 1)); omega) (by unfold rmm; split <;> omega)).1, hdf, show rmm (vX s) a b = (s 14 b - s 14 a) by unfold rmm; split <;> omega]
          · refine rb_iconst hV dX2_badness_80 ?_
            refine rb_ret hV (r := some (.inl (-1))) dX2_badness_81 rfl ⟨(Nat.le_of_ble_eq_true rfl), (Nat.le_of_ble_eq_true rfl)⟩ trivial ?_
            exact ⟨congrArg (fun z : Int => some (Sum.inl z)) (xb_no hp h.1 h.2.1 h.2.2 (by show ¬ (df (vX s) a b = 0 ∨ (0 < df (vX s) a b ∧ b = s 103 0 - 1)); omega) (by unfold rmm; split <;> omega)).symm, rfl⟩

set_option maxRecDepth 20000 in
theorem c_X2_demerits (s : Nat → Int → Int) (a b : Int) (hp : PI (vX s)) (hr : RU s) (h : 0 ≤ a ∧ a ≤ b ∧ b < s 103 0) : ab_Mt yX2_demerits cX2_demerits 5 (some .int) ({ frames := 2, cells := 0, slots := 0, locals := 49 } : Room) false 0 0 [.inr (some 11), .inl a, .inl b] (WW s) (fun r h2 => r = some (.inl (xd (vX s) a b)) ∧ h2 = WW s) := by
  refine ab_mk RX2 false rfl pn_X2_demerits (fun z => by cases z) (Nat.le_of_ble_eq_true rfl) (fun V hV => ?_)
  show V 0 [some (.inr (some 11)), some (.inl a), some (.inl b), none, none] [] (WW s) 0 0
  have hn : 0 ≤ s 103 0 ∧ s 103 0 ≤ 60 := hp.1
  have hx := xb_b hp h.1 h.2.1 h.2.2
  have hz : 1 ≤ s 7 b ∧ s 7 b ≤ 120 := (hp.2.1 b (by omega) h.2.2).2.1
  refine rb_aload_n hV dX2_demerits_0 rfl rfl ?_
  refine rb_iload_n hV dX2_demerits_1 rfl rfl ?_
  refine rb_iload_n hV dX2_demerits_2 rfl rfl ?_
  refine rb_callV hV (rest := []) dX2_demerits_3 (c_X2_badness s a b hp hr (show 0 ≤ a ∧ a ≤ b ∧ b < (s 103 0) by omega)) lk_X2_91 rfl (Or.inl ⟨2, _, TX2, 8, gw_11 _, rfl⟩) rfl ⟨rfl, rfl, (Nat.le_of_ble_eq_true rfl), (Nat.le_of_ble_eq_true rfl), (Nat.le_of_ble_eq_true rfl), (Nat.le_of_ble_eq_true rfl)⟩ (Nat.le_of_ble_eq_true rfl) (fun r9 h9 p9 => ?_)
  obtain ⟨rfl, rfl⟩ := p9
  show V 6 [some (.inr (some 11)), some (.inl a), some (.inl b), none, none] [.inl (xb (vX s) a b)] (WW s) 0 0
  refine rb_istore_n hV (L2 := [some (.inr (some 11)), some (.inl a), some (.inl b), some (.inl (xb (vX s) a b)), none]) dX2_demerits_6 rfl (Nat.le_of_ble_eq_true rfl) rfl ?_
  refine rb_iload_n hV dX2_demerits_7 rfl rfl ?_
  refine rb_iconst hV dX2_demerits_8 ?_
  refine rb_icmp_ne hV (tgt := 14) dX2_demerits_9 (by decide) ⟨(by first | assumption | (unfold ab_r at *; omega)), (by first | assumption | (unfold ab_r at *; omega))⟩ (fun c9 => ?_) (fun c9 => ?_)
  · refine rb_aload_n hV dX2_demerits_14 rfl rfl ?_
    refine rb_iload_n hV dX2_demerits_15 rfl rfl ?_
    refine rb_callV hV (rest := []) dX2_demerits_16 (c_X2_isEnd s b (by unfold ab_r; omega) (show 0 ≤ (s 103 0) ∧ (s 103 0) ≤ 60 by omega)) lk_X2_81 rfl (Or.inl ⟨2, _, TX2, 8, gw_11 _, rfl⟩) rfl ⟨rfl, rfl, (Nat.le_of_ble_eq_true rfl), (Nat.le_of_ble_eq_true rfl), (Nat.le_of_ble_eq_true rfl), (Nat.le_of_ble_eq_true rfl)⟩ (Nat.le_of_ble_eq_true rfl) (fun r9 h9 p9 => ?_)
    obtain ⟨rfl, rfl⟩ := p9
    show V 19 [some (.inr (some 11)), some (.inl a), some (.inl b), some (.inl (xb (vX s) a b)), none] [.inl (if b = s 103 0 - 1 then 1 else 0)] (WW s) 0 0
    by_cases e16 : b = s 103 0 - 1
    · rw [if_pos e16]
      show V 19 [some (.inr (some 11)), some (.inl a), some (.inl b), some (.inl (xb (vX s) a b)), none] [.inl 1] (WW s) 0 0
      refine rb_if_ne hV (tgt := 41) dX2_demerits_19 (by decide) (by first | assumption | (unfold ab_r at *; omega)) (fun _ => ?_) (fun z => absurd z (by decide))
      refine rb_iconst hV dX2_demerits_41 ?_
      refine rb_istore hV (L2 := [some (.inr (some 11)), some (.inl a), some (.inl b), some (.inl (xb (vX s) a b)), some (.inl 0)]) dX2_demerits_42 (Nat.le_of_ble_eq_true rfl) rfl ?_
      refine rb_bipush hV dX2_demerits_44 (by decide) ?_
      refine rb_iload_n hV dX2_demerits_46 rfl rfl ?_
      refine rb_iadd hV dX2_demerits_47 ?_
      refine rb_bipush hV dX2_demerits_48 (by decide) ?_
      refine rb_iload_n hV dX2_demerits_50 rfl rfl ?_
      refine rb_iadd hV dX2_demerits_51 ?_
      refine rb_imul hV dX2_demerits_52 ?_
      refine rb_iload hV dX2_demerits_53 rfl ?_
      refine rb_if_eq hV (tgt := 63) dX2_demerits_55 (by decide) (by first | assumption | (unfold ab_r at *; omega)) (fun _ => ?_) (fun z => absurd z (by decide))
      refine rb_iconst hV dX2_demerits_63 ?_
      refine rb_iadd hV dX2_demerits_64 ?_
      refine rb_ret hV (r := some (.inl (((10 + (xb (vX s) a b)) * (10 + (xb (vX s) a b))) + 0))) dX2_demerits_65 rfl ⟨(Nat.le_of_ble_eq_true rfl), (Nat.le_of_ble_eq_true rfl)⟩ trivial ?_
      exact ⟨congrArg (fun z : Int => some (Sum.inl z)) (xd_y0 c9 (by show ¬ (¬ b = s 103 0 - 1 ∧ s 7 b ≤ 2); omega)).symm, rfl⟩
    · rw [if_neg e16]
      show V 19 [some (.inr (some 11)), some (.inl a), some (.inl b), some (.inl (xb (vX s) a b)), none] [.inl 0] (WW s) 0 0
      refine rb_if_ne hV (tgt := 41) dX2_demerits_19 (by decide) (by first | assumption | (unfold ab_r at *; omega)) (fun z => absurd z (by decide)) (fun _ => ?_)
      refine rb_aload_n hV dX2_demerits_22 rfl rfl ?_
      refine rb_get hV (v := .inr (some 5)) dX2_demerits_23 ⟨RX2, TX2, 8, rfl, (Nat.le_of_ble_eq_true rfl), lf_X2_9⟩ (gw_11 _) rfl ?_
      refine rb_get hV (v := .inr (some 7)) dX2_demerits_26 ⟨RX4, TX4, 6, rfl, (Nat.le_of_ble_eq_true rfl), lf_X2_94⟩ (gw_5 _) rfl ?_
      refine rb_iload_n hV dX2_demerits_29 rfl rfl ?_
      refine rb_callS hV (rest := []) dX2_demerits_30 (c_X9_at s 7 _ (s 7) b (gw_7 _) (Nat.le_of_ble_eq_true rfl) (by omega)) lk_X2_52 rfl rfl ⟨rfl, rfl, (Nat.le_of_ble_eq_true rfl), (Nat.le_of_ble_eq_true rfl), (Nat.le_of_ble_eq_true rfl), (Nat.le_of_ble_eq_true rfl)⟩ (Nat.le_of_ble_eq_true rfl) (fun r9 h9 p9 => ?_)
      obtain ⟨rfl, rfl⟩ := p9
      show V 33 [some (.inr (some 11)), some (.inl a), some (.inl b), some (.inl (xb (vX s) a b)), none] [.inl (s 7 b)] (WW s) 0 0
      refine rb_iconst hV dX2_demerits_33 ?_
      refine rb_icmp_gt hV (tgt := 41) dX2_demerits_34 (by decide) ⟨(by first | assumption | (unfold ab_r at *; omega)), (by first | assumption | (unfold ab_r at *; omega))⟩ (fun c34 => ?_) (fun c34 => ?_)
      · refine rb_iconst hV dX2_demerits_41 ?_
        refine rb_istore hV (L2 := [some (.inr (some 11)), some (.inl a), some (.inl b), some (.inl (xb (vX s) a b)), some (.inl 0)]) dX2_demerits_42 (Nat.le_of_ble_eq_true rfl) rfl ?_
        refine rb_bipush hV dX2_demerits_44 (by decide) ?_
        refine rb_iload_n hV dX2_demerits_46 rfl rfl ?_
        refine rb_iadd hV dX2_demerits_47 ?_
        refine rb_bipush hV dX2_demerits_48 (by decide) ?_
        refine rb_iload_n hV dX2_demerits_50 rfl rfl ?_
        refine rb_iadd hV dX2_demerits_51 ?_
        refine rb_imul hV dX2_demerits_52 ?_
        refine rb_iload hV dX2_demerits_53 rfl ?_
        refine rb_if_eq hV (tgt := 63) dX2_demerits_55 (by decide) (by first | assumption | (unfold ab_r at *; omega)) (fun _ => ?_) (fun z => absurd z (by decide))
        refine rb_iconst hV dX2_demerits_63 ?_
        refine rb_iadd hV dX2_demerits_64 ?_
        refine rb_ret hV (r := some (.inl (((10 + (xb (vX s) a b)) * (10 + (xb (vX s) a b))) + 0))) dX2_demerits_65 rfl ⟨(Nat.le_of_ble_eq_true rfl), (Nat.le_of_ble_eq_true rfl)⟩ trivial ?_
        exact ⟨congrArg (fun z : Int => some (Sum.inl z)) (xd_y0 c9 (by show ¬ (¬ b = s 103 0 - 1 ∧ s 7 b ≤ 2); omega)).symm, rfl⟩
      · refine rb_iconst hV dX2_demerits_37 ?_
        refine rb_goto hV (tgt := 42) dX2_demerits_38 (by decide) ?_
        refine rb_istore hV (L2 := [some (.inr (some 11)), some (.inl a), some (.inl b), some (.inl (xb (vX s) a b)), some (.inl 1)]) dX2_demerits_42 (Nat.le_of_ble_eq_true rfl) rfl ?_
        refine rb_bipush hV dX2_demerits_44 (by decide) ?_
        refine rb_iload_n hV dX2_demerits_46 rfl rfl ?_
        refine rb_iadd hV dX2_demerits_47 ?_
        refine rb_bipush hV dX2_demerits_48 (by decide) ?_
        refine rb_iload_n hV dX2_demerits_50 rfl rfl ?_
        refine rb_iadd hV dX2_demerits_51 ?_
        refine rb_imul hV dX2_demerits_52 ?_
        refine rb_iload hV dX2_demerits_53 rfl ?_
        refine rb_if_eq hV (tgt := 63) dX2_demerits_55 (by decide) (by first | assumption | (unfold ab_r at *; omega)) (fun z => absurd z (by decide)) (fun _ => ?_)
        refine rb_bipush hV dX2_demerits_58 (by decide) ?_
        refine rb_goto hV (tgt := 64) dX2_demerits_60 (by decide) ?_
        refine rb_iadd hV dX2_demerits_64 ?_
        refine rb_ret hV (r := some (.inl (((10 + (xb (vX s) a b)) * (10 + (xb (vX s) a b))) + 100))) dX2_demerits_65 rfl ⟨(Nat.le_of_ble_eq_true rfl), (Nat.le_of_ble_eq_true rfl)⟩ trivial ?_
        exact ⟨congrArg (fun z : Int => some (Sum.inl z)) (xd_y1 c9 (by show ¬ b = s 103 0 - 1 ∧ s 7 b ≤ 2; omega)).symm, rfl⟩
  · refine rb_iconst hV dX2_demerits_12 ?_
    refine rb_ret hV (r := some (.inl (-1))) dX2_demerits_13 rfl ⟨(Nat.le_of_ble_eq_true rfl), (Nat.le_of_ble_eq_true rfl)⟩ trivial ?_
    exact ⟨congrArg (fun z : Int => some (Sum.inl z)) (xd_no hp h.1 h.2.1 h.2.2 c9).symm, rfl⟩

set_option maxRecDepth 20000 in
theorem c_X0_sumWith (s : Nat → Int → Int) (a b : Int) (hp : PI (vX s)) (hr : RU s) (h : 0 ≤ a ∧ a ≤ b ∧ b < s 103 0) (hb : -1 ≤ s 19 (b + 1) ∧ s 19 (b + 1) ≤ 732000) : ab_Mt yX0_sumWith cX0_sumWith 5 (some .int) ({ frames := 3, cells := 0, slots := 0, locals := 73 } : Room) false 0 0 [.inr (some 18), .inl a, .inl b] (WW s) (fun r h2 => r = some (.inl (cd (vX s) (s 19) a b)) ∧ h2 = WW s) := by
  refine ab_mk RX0 false rfl pn_X0_sumWith (fun z => by cases z) (Nat.le_of_ble_eq_true rfl) (fun V hV => ?_)
  show V 0 [some (.inr (some 18)), some (.inl a), some (.inl b), none, none] [] (WW s) 0 0
  have hn : 0 ≤ s 103 0 ∧ s 103 0 ≤ 60 := hp.1
  have hx := xd_b hp h.1 h.2.1 h.2.2
  refine rb_aload_n hV dX0_sumWith_0 rfl rfl ?_
  refine rb_get hV (v := .inr (some 19)) dX0_sumWith_1 ⟨RX0, TX0, 4, rfl, (Nat.le_of_ble_eq_true rfl), lf_X0_19⟩ (gw_18 _) rfl ?_
  refine rb_iload_n hV dX0_sumWith_4 rfl rfl ?_
  refine rb_iconst hV dX0_sumWith_5 ?_
  refine rb_iadd hV dX0_sumWith_6 ?_
  refine rb_callS hV (rest := []) dX0_sumWith_7 (c_X9_at s 19 _ (s 19) (b + 1) (gw_19 _) (Nat.le_of_ble_eq_true rfl) (by omega)) lk_X0_36 rfl rfl ⟨rfl, rfl, (Nat.le_of_ble_eq_true rfl), (Nat.le_of_ble_eq_true rfl), (Nat.le_of_ble_eq_true rfl), (Nat.le_of_ble_eq_true rfl)⟩ (Nat.le_of_ble_eq_true rfl) (fun r9 h9 p9 => ?_)
  obtain ⟨rfl, rfl⟩ := p9
  show V 10 [some (.inr (some 18)), some (.inl a), some (.inl b), none, none] [.inl (s 19 (b + 1))] (WW s) 0 0
  refine rb_istore_n hV (L2 := [some (.inr (some 18)), some (.inl a), some (.inl b), some (.inl (s 19 (b + 1))), none]) dX0_sumWith_10 rfl (Nat.le_of_ble_eq_true rfl) rfl ?_
  refine rb_iload_n hV dX0_sumWith_11 rfl rfl ?_
  refine rb_iconst hV dX0_sumWith_12 ?_
  refine rb_icmp_ne hV (tgt := 18) dX0_sumWith_13 (by decide) ⟨(by first | assumption | (unfold ab_r at *; omega)), (by first | assumption | (unfold ab_r at *; omega))⟩ (fun c13 => ?_) (fun c13 => ?_)
  · refine rb_aload_n hV dX0_sumWith_18 rfl rfl ?_
    refine rb_get hV (v := .inr (some 11)) dX0_sumWith_19 ⟨RX0, TX0, 4, rfl, (Nat.le_of_ble_eq_true rfl), lf_X0_15⟩ (gw_18 _) rfl ?_
    refine rb_iload_n hV dX0_sumWith_22 rfl rfl ?_
    refine rb_iload_n hV dX0_sumWith_23 rfl rfl ?_
    refine rb_callV hV (rest := []) dX0_sumWith_24 (c_X2_demerits s a b hp hr (show 0 ≤ a ∧ a ≤ b ∧ b < (s 103 0) by omega)) lk_X0_40 rfl (Or.inl ⟨2, _, TX2, 8, gw_11 _, rfl⟩) rfl ⟨rfl, rfl, (Nat.le_of_ble_eq_true rfl), (Nat.le_of_ble_eq_true rfl), (Nat.le_of_ble_eq_true rfl), (Nat.le_of_ble_eq_true rfl)⟩ (Nat.le_of_ble_eq_true rfl) (fun r9 h9 p9 => ?_)
    obtain ⟨rfl, rfl⟩ := p9
    show V 27 [some (.inr (some 18)), some (.inl a), some (.inl b), some (.inl (s 19 (b + 1))), none] [.inl (xd (vX s) a b)] (WW s) 0 0
    refine rb_istore hV (L2 := [some (.inr (some 18)), some (.inl a), some (.inl b), some (.inl (s 19 (b + 1))), some (.inl (xd (vX s) a b))]) dX0_sumWith_27 (Nat.le_of_ble_eq_true rfl) rfl ?_
    refine rb_iload hV dX0_sumWith_29 rfl ?_
    refine rb_iconst hV dX0_sumWith_31 ?_
    refine rb_icmp_ne hV (tgt := 39) dX0_sumWith_32 (by decide) ⟨(by first | assumption | (unfold ab_r at *; omega)), (by first | assumption | (unfold ab_r at *; omega))⟩ (fun c32 => ?_) (fun c32 => ?_)
    · refine rb_iload hV dX0_sumWith_39 rfl ?_
      refine rb_iload_n hV dX0_sumWith_41 rfl rfl ?_
      refine rb_iadd hV dX0_sumWith_42 ?_
      refine rb_ret hV (r := some (.inl ((xd (vX s) a b) + (s 19 (b + 1))))) dX0_sumWith_43 rfl ⟨(Nat.le_of_ble_eq_true rfl), (Nat.le_of_ble_eq_true rfl)⟩ trivial ?_
      exact ⟨congrArg (fun z : Int => some (Sum.inl z)) (cd_yes (by omega) (by omega)).symm, rfl⟩
    · refine rb_iconst hV dX0_sumWith_35 ?_
      refine rb_goto hV (tgt := 43) dX0_sumWith_36 (by decide) ?_
      refine rb_ret hV (r := some (.inl (-1))) dX0_sumWith_43 rfl ⟨(Nat.le_of_ble_eq_true rfl), (Nat.le_of_ble_eq_true rfl)⟩ trivial ?_
      exact ⟨congrArg (fun z : Int => some (Sum.inl z)) (cd_no (by omega) hp h.1 h.2.1 h.2.2).symm, rfl⟩
  · refine rb_iconst hV dX0_sumWith_16 ?_
    refine rb_ret hV (r := some (.inl (-1))) dX0_sumWith_17 rfl ⟨(Nat.le_of_ble_eq_true rfl), (Nat.le_of_ble_eq_true rfl)⟩ trivial ?_
    exact ⟨congrArg (fun z : Int => some (Sum.inl z)) (cd_no (by omega) hp h.1 h.2.1 h.2.2).symm, rfl⟩

set_option maxRecDepth 20000 in
theorem c_X0_exists (s : Nat → Int → Int) (hw : 0 ≤ s 103 0 ∧ s 103 0 ≤ 60) (hb : -1 ≤ s 19 0 ∧ s 19 0 ≤ 732000) : ab_Mt yX0_exists cX0_exists 1 (some .boolean) ({ frames := 0, cells := 0, slots := 0, locals := 0 } : Room) false 0 0 [.inr (some 18)] (WW s) (fun r h2 => r = some (.inl (if 0 < s 103 0 ∧ ¬ s 19 0 = -1 then 1 else 0)) ∧ h2 = WW s) := by
  refine ab_mk RX0 false rfl pn_X0_exists (fun z => by cases z) (Nat.le_of_ble_eq_true rfl) (fun V hV => ?_)
  show V 0 [some (.inr (some 18))] [] (WW s) 0 0
  refine rb_aload_n hV dX0_exists_0 rfl rfl ?_
  refine rb_get hV (v := .inr (some 5)) dX0_exists_1 ⟨RX0, TX0, 4, rfl, (Nat.le_of_ble_eq_true rfl), lf_X0_9⟩ (gw_18 _) rfl ?_
  refine rb_get hV (v := .inl (s 103 0)) dX0_exists_4 ⟨RX4, TX4, 6, rfl, (Nat.le_of_ble_eq_true rfl), lf_X0_26⟩ (gw_5 _) rfl ?_
  refine rb_if_le hV (tgt := 24) dX0_exists_7 (by decide) (by first | assumption | (unfold ab_r at *; omega)) (fun c7 => ?_) (fun c7 => ?_)
  · refine rb_iconst hV dX0_exists_24 ?_
    refine rb_ret hV (r := some (.inl 0)) dX0_exists_25 rfl ⟨(Nat.le_of_ble_eq_true rfl), (Nat.le_of_ble_eq_true rfl)⟩ (by first | exact Or.inl rfl | exact Or.inr rfl | omega) ?_
    exact ⟨by first | (rw [if_pos (by omega)]; done) | (rw [if_neg (by omega)]; done), rfl⟩
  · refine rb_aload_n hV dX0_exists_10 rfl rfl ?_
    refine rb_get hV (v := .inr (some 19)) dX0_exists_11 ⟨RX0, TX0, 4, rfl, (Nat.le_of_ble_eq_true rfl), lf_X0_19⟩ (gw_18 _) rfl ?_
    refine rb_iconst hV dX0_exists_14 ?_
    refine rb_iald hV (f := (s 19)) dX0_exists_15 (gw_19 _) (Nat.le_of_ble_eq_true rfl) (by omega) ?_
    refine rb_iconst hV dX0_exists_16 ?_
    refine rb_icmp_eq hV (tgt := 24) dX0_exists_17 (by decide) ⟨(by first | assumption | (unfold ab_r at *; omega)), (by first | assumption | (unfold ab_r at *; omega))⟩ (fun c17 => ?_) (fun c17 => ?_)
    · refine rb_iconst hV dX0_exists_24 ?_
      refine rb_ret hV (r := some (.inl 0)) dX0_exists_25 rfl ⟨(Nat.le_of_ble_eq_true rfl), (Nat.le_of_ble_eq_true rfl)⟩ (by first | exact Or.inl rfl | exact Or.inr rfl | omega) ?_
      exact ⟨by first | (rw [if_pos (by omega)]; done) | (rw [if_neg (by omega)]; done), rfl⟩
    · refine rb_iconst hV dX0_exists_20 ?_
      refine rb_goto hV (tgt := 25) dX0_exists_21 (by decide) ?_
      refine rb_ret hV (r := some (.inl 1)) dX0_exists_25 rfl ⟨(Nat.le_of_ble_eq_true rfl), (Nat.le_of_ble_eq_true rfl)⟩ (by first | exact Or.inl rfl | exact Or.inr rfl | omega) ?_
      exact ⟨by first | (rw [if_pos (by omega)]; done) | (rw [if_neg (by omega)]; done), rfl⟩

set_option maxRecDepth 20000 in
theorem c_X0_find (s : Nat → Int → Int) (hp : PI (vX s)) (hr : RU s) : ab_Mt yX0_find cX0_find 4 none ({ frames := 4, cells := 0, slots := 0, locals := 97 } : Room) false 0 0 [.inr (some 18)] (WW s) (fun r h2 => r = none ∧ ∃ f19 f20, h2 = WW (ab_s (ab_s s 19 f19) 20 f20) ∧ BWp (vX s) f19 f20 (-1)) := by
  refine ab_mk RX0 false rfl pn_X0_find (fun z => by cases z) (Nat.le_of_ble_eq_true rfl) (fun V hV => ?_)
  show V 0 [some (.inr (some 18)), none, none, none] [] (WW s) 0 0
  have hn : 0 ≤ s 103 0 ∧ s 103 0 ≤ 60 := hp.1
  have e0 : vX s 0 0 = s 103 0 := rfl
  refine rb_aload_n hV dX0_find_0 rfl rfl ?_
  refine rb_get hV (v := .inr (some 19)) dX0_find_1 ⟨RX0, TX0, 4, rfl, (Nat.le_of_ble_eq_true rfl), lf_X0_19⟩ (gw_18 _) rfl ?_
  refine rb_aload_n hV dX0_find_4 rfl rfl ?_
  refine rb_get hV (v := .inr (some 5)) dX0_find_5 ⟨RX0, TX0, 4, rfl, (Nat.le_of_ble_eq_true rfl), lf_X0_9⟩ (gw_18 _) rfl ?_
  refine rb_get hV (v := .inl (s 103 0)) dX0_find_8 ⟨RX4, TX4, 6, rfl, (Nat.le_of_ble_eq_true rfl), lf_X0_26⟩ (gw_5 _) rfl ?_
  refine rb_iconst hV dX0_find_11 ?_
  refine rb_iast hV (f := (s 19)) dX0_find_12 (gw_19 _) (Nat.le_of_ble_eq_true rfl) (by omega) rfl (pw_19 _ _) ?_
  refine rb_aload_n hV dX0_find_13 rfl rfl ?_
  refine rb_get hV (v := .inr (some 5)) dX0_find_14 ⟨RX0, TX0, 4, rfl, (Nat.le_of_ble_eq_true rfl), lf_X0_9⟩ (gw_18 _) rfl ?_
  refine rb_get hV (v := .inl (s 103 0)) dX0_find_17 ⟨RX4, TX4, 6, rfl, (Nat.le_of_ble_eq_true rfl), lf_X0_26⟩ (gw_5 _) rfl ?_
  refine rb_iconst hV dX0_find_20 ?_
  refine rb_isub hV dX0_find_21 ?_
  refine rb_istore_n hV (L2 := [some (.inr (some 18)), some (.inl ((s 103 0) - 1)), none, none]) dX0_find_22 rfl (Nat.le_of_ble_eq_true rfl) rfl ?_
  refine rb_heq (b := (ab_s (ab_s s 19 (ab_u (s 19) (s 103 0) 0)) 20 (s 20))) (ab_s_id rfl).symm ?_
  have h23 : ∀ (n23 : Nat) (a : Int) (f19 : Int → Int) (f20 : Int → Int), (-1 ≤ a ∧ a < s 103 0) → (BWp (vX s) f19 f20 a) → ((a + 1).toNat) < n23 → V 23 [some (.inr (some 18)), some (.inl a), none, none] [] (WW (ab_s (ab_s s 19 f19) 20 f20)) 0 0 := by
    intro n23
    induction n23 with
    | zero => intro a f19 f20 h1 h2 hm; omega
    | succ n23 ih23 =>
      intro a f19 f20 h1 h2 hm
      refine rb_iload_n hV dX0_find_23 rfl rfl ?_
      refine rb_if_lt hV (tgt := 112) dX0_find_24 (by decide) (by first | assumption | (unfold ab_r at *; omega)) (fun c24 => ?_) (fun c24 => ?_)
      · refine rb_ret hV (r := none) dX0_find_112 rfl ⟨(Nat.le_of_ble_eq_true rfl), (Nat.le_of_ble_eq_true rfl)⟩ trivial ?_
        have e : a = -1 := by omega
        exact ⟨rfl, f19, f20, rfl, e ▸ h2⟩
      · refine rb_aload_n hV dX0_find_27 rfl rfl ?_
        refine rb_get hV (v := .inr (some 19)) dX0_find_28 ⟨RX0, TX0, 4, rfl, (Nat.le_of_ble_eq_true rfl), lf_X0_19⟩ (gw_18 _) rfl ?_
        refine rb_iload_n hV dX0_find_31 rfl rfl ?_
        refine rb_iconst hV dX0_find_32 ?_
        refine rb_iast hV (f := (f19)) dX0_find_33 (gw_19 _) (Nat.le_of_ble_eq_true rfl) (by omega) rfl ((pw_19 _ _).trans (congrArg WW ((ab_s_sw (by decide)).trans (congrArg (fun x => ab_s x 20 _) (ab_s_same _ 19 _ _))))) ?_
        refine rb_aload_n hV dX0_find_34 rfl rfl ?_
        refine rb_get hV (v := .inr (some 20)) dX0_find_35 ⟨RX0, TX0, 4, rfl, (Nat.le_of_ble_eq_true rfl), lf_X0_23⟩ (gw_18 _) rfl ?_
        refine rb_iload_n hV dX0_find_38 rfl rfl ?_
        refine rb_iconst hV dX0_find_39 ?_
        refine rb_iast hV (f := (f20)) dX0_find_40 (gw_20 _) (Nat.le_of_ble_eq_true rfl) (by omega) rfl ((pw_20 _ _).trans (congrArg WW (ab_s_same _ 20 _ _))) ?_
        refine rb_iload_n hV dX0_find_41 rfl rfl ?_
        refine rb_istore_n hV (L2 := [some (.inr (some 18)), some (.inl a), some (.inl a), none]) dX0_find_42 rfl (Nat.le_of_ble_eq_true rfl) rfl ?_
        have h43 : ∀ (n43 : Nat) (b : Int) (g19 : Int → Int) (g20 : Int → Int), (a ≤ b ∧ b ≤ s 103 0) → (∀ j, ¬ j = a → g19 j = f19 j ∧ g20 j = f20 j) → (g19 a = (am (cd (vX s) f19 a) a (b - a).toNat).1 ∧ g20 a = (am (cd (vX s) f19 a) a (b - a).toNat).2) → ((s 103 0 - b).toNat) < n43 → V 43 [some (.inr (some 18)), some (.inl a), some (.inl b), none] [] (WW (ab_s (ab_s s 19 g19) 20 g20)) 0 0 := by
          intro n43
          induction n43 with
          | zero => intro b g19 g20 q1 q2 q3 hm; omega
          | succ n43 ih43 =>
            intro b g19 g20 q1 q2 q3 hm
            refine rb_iload_n hV dX0_find_43 rfl rfl ?_
            refine rb_aload_n hV dX0_find_44 rfl rfl ?_
            refine rb_get hV (v := .inr (some 5)) dX0_find_45 ⟨RX0, TX0, 4, rfl, (Nat.le_of_ble_eq_true rfl), lf_X0_9⟩ (gw_18 _) rfl ?_
            refine rb_get hV (v := .inl (s 103 0)) dX0_find_48 ⟨RX4, TX4, 6, rfl, (Nat.le_of_ble_eq_true rfl), lf_X0_26⟩ (gw_5 _) rfl ?_
            refine rb_icmp_ge hV (tgt := 106) dX0_find_51 (by decide) ⟨(by first | assumption | (unfold ab_r at *; omega)), (by first | assumption | (unfold ab_r at *; omega))⟩ (fun c51 => ?_) (fun c51 => ?_)
            · refine rb_iinc hV (L2 := [some (.inr (some 18)), some (.inl (a + (-1))), some (.inl b), none]) dX0_find_106 rfl rfl rfl ?_
              refine rb_goto hV (tgt := 23) dX0_find_109 (by decide) ?_
              refine rb_weak hV (L2 := [some (.inr (some 18)), some (.inl (a + (-1))), none, none]) ⟨rfl, ⟨rfl, trivial⟩⟩ ?_
              refine ih23 (a + (-1)) (g19) (g20) ?_ ?_ ?_
              · omega
              · exact BWp_step hp (by omega) h1.2 h2 q2 (by rw [q3.1, show b = s 103 0 by omega]; rfl) (by rw [q3.2, show b = s 103 0 by omega]; rfl)
              · omega
            · have hB := bw_hb hp (by omega) q1.1 (show b < s 103 0 by omega) h2 q2 q3
              refine rb_aload_n hV dX0_find_54 rfl rfl ?_
              refine rb_iload_n hV dX0_find_55 rfl rfl ?_
              refine rb_iload_n hV dX0_find_56 rfl rfl ?_
              refine rb_callV hV (rest := []) dX0_find_57 (c_X0_sumWith (ab_s (ab_s s 19 g19) 20 g20) a b hp hr (show 0 ≤ a ∧ a ≤ b ∧ b < (s 103 0) by omega) hB.1) lk_X0_32 rfl (Or.inl ⟨0, _, TX0, 4, gw_18 _, rfl⟩) rfl ⟨rfl, rfl, (Nat.le_of_ble_eq_true rfl), (Nat.le_of_ble_eq_true rfl), (Nat.le_of_ble_eq_true rfl), (Nat.le_of_ble_eq_true rfl)⟩ (Nat.le_of_ble_eq_true rfl) (fun r9 h9 p9 => ?_)
              obtain ⟨rfl, rfl⟩ := p9
              show V 60 [some (.inr (some 18)), some (.inl a), some (.inl b), none] [.inl (cd (vX s) (g19) a b)] (WW (ab_s (ab_s s 19 g19) 20 g20)) 0 0
              refine rb_istore_n hV (L2 := [some (.inr (some 18)), some (.inl a), some (.inl b), some (.inl (cd (vX s) (g19) a b))]) dX0_find_60 rfl (Nat.le_of_ble_eq_true rfl) rfl ?_
              refine rb_iload_n hV dX0_find_61 rfl rfl ?_
              refine rb_iconst hV dX0_find_62 ?_
              refine rb_icmp_eq hV (tgt := 100) dX0_find_63 (by decide) ⟨(by first | assumption | (unfold ab_r at *; omega)), (by first | assumption | (unfold ab_r at *; omega))⟩ (fun c63 => ?_) (fun c63 => ?_)
              · refine rb_iinc hV (L2 := [some (.inr (some 18)), some (.inl a), some (.inl (b + 1)), some (.inl (cd (vX s) (g19) a b))]) dX0_find_100 rfl rfl rfl ?_
                refine rb_goto hV (tgt := 43) dX0_find_103 (by decide) ?_
                refine rb_weak hV (L2 := [some (.inr (some 18)), some (.inl a), some (.inl (b + 1)), none]) ⟨rfl, ⟨rfl, ⟨rfl, trivial⟩⟩⟩ ?_
                refine ih43 (b + 1) (g19) (g20) ?_ ?_ ?_ ?_
                · omega
                · exact q2
                · exact bw_skip q1.1 q2 q3 (by omega)
                · omega
              · refine rb_aload_n hV dX0_find_66 rfl rfl ?_
                refine rb_get hV (v := .inr (some 19)) dX0_find_67 ⟨RX0, TX0, 4, rfl, (Nat.le_of_ble_eq_true rfl), lf_X0_19⟩ (gw_18 _) rfl ?_
                refine rb_iload_n hV dX0_find_70 rfl rfl ?_
                refine rb_iald hV (f := (g19)) dX0_find_71 (gw_19 _) (Nat.le_of_ble_eq_true rfl) (by omega) ?_
                refine rb_iconst hV dX0_find_72 ?_
                refine rb_icmp_eq hV (tgt := 86) dX0_find_73 (by decide) ⟨(by first | assumption | (unfold ab_r at *; omega)), (by first | assumption | (unfold ab_r at *; omega))⟩ (fun c73 => ?_) (fun c73 => ?_)
                · refine rb_aload_n hV dX0_find_86 rfl rfl ?_
                  refine rb_get hV (v := .inr (some 19)) dX0_find_87 ⟨RX0, TX0, 4, rfl, (Nat.le_of_ble_eq_true rfl), lf_X0_19⟩ (gw_18 _) rfl ?_
                  refine rb_iload_n hV dX0_find_90 rfl rfl ?_
                  refine rb_iload_n hV dX0_find_91 rfl rfl ?_
                  refine rb_iast hV (f := (g19)) dX0_find_92 (gw_19 _) (Nat.le_of_ble_eq_true rfl) (by omega) rfl ((pw_19 _ _).trans (congrArg WW ((ab_s_sw (by decide)).trans (congrArg (fun x => ab_s x 20 _) (ab_s_same _ 19 _ _))))) ?_
                  refine rb_aload_n hV dX0_find_93 rfl rfl ?_
                  refine rb_get hV (v := .inr (some 20)) dX0_find_94 ⟨RX0, TX0, 4, rfl, (Nat.le_of_ble_eq_true rfl), lf_X0_23⟩ (gw_18 _) rfl ?_
                  refine rb_iload_n hV dX0_find_97 rfl rfl ?_
                  refine rb_iload_n hV dX0_find_98 rfl rfl ?_
                  refine rb_iast hV (f := (g20)) dX0_find_99 (gw_20 _) (Nat.le_of_ble_eq_true rfl) (by omega) rfl ((pw_20 _ _).trans (congrArg WW (ab_s_same _ 20 _ _))) ?_
                  refine rb_iinc hV (L2 := [some (.inr (some 18)), some (.inl a), some (.inl (b + 1)), some (.inl (cd (vX s) (g19) a b))]) dX0_find_100 rfl rfl rfl ?_
                  refine rb_goto hV (tgt := 43) dX0_find_103 (by decide) ?_
                  refine rb_weak hV (L2 := [some (.inr (some 18)), some (.inl a), some (.inl (b + 1)), none]) ⟨rfl, ⟨rfl, ⟨rfl, trivial⟩⟩⟩ ?_
                  refine ih43 (b + 1) (ab_u (g19) a (cd (vX s) (g19) a b)) (ab_u (g20) a b) ?_ ?_ ?_ ?_
                  · omega
                  · exact fun j hj => ⟨(if_neg hj).trans (q2 j hj).1, (if_neg hj).trans (q2 j hj).2⟩
                  · exact bw_take q1.1 q2 q3 (by omega) (by omega) (by omega)
                  · omega
                · refine rb_iload_n hV dX0_find_76 rfl rfl ?_
                  refine rb_aload_n hV dX0_find_77 rfl rfl ?_
                  refine rb_get hV (v := .inr (some 19)) dX0_find_78 ⟨RX0, TX0, 4, rfl, (Nat.le_of_ble_eq_true rfl), lf_X0_19⟩ (gw_18 _) rfl ?_
                  refine rb_iload_n hV dX0_find_81 rfl rfl ?_
                  refine rb_iald hV (f := (g19)) dX0_find_82 (gw_19 _) (Nat.le_of_ble_eq_true rfl) (by omega) ?_
                  refine rb_icmp_gt hV (tgt := 100) dX0_find_83 (by decide) ⟨(by first | assumption | (unfold ab_r at *; omega)), (by first | assumption | (unfold ab_r at *; omega))⟩ (fun c83 => ?_) (fun c83 => ?_)
                  · refine rb_iinc hV (L2 := [some (.inr (some 18)), some (.inl a), some (.inl (b + 1)), some (.inl (cd (vX s) (g19) a b))]) dX0_find_100 rfl rfl rfl ?_
                    refine rb_goto hV (tgt := 43) dX0_find_103 (by decide) ?_
                    refine rb_weak hV (L2 := [some (.inr (some 18)), some (.inl a), some (.inl (b + 1)), none]) ⟨rfl, ⟨rfl, ⟨rfl, trivial⟩⟩⟩ ?_
                    refine ih43 (b + 1) (g19) (g20) ?_ ?_ ?_ ?_
                    · omega
                    · exact q2
                    · exact bw_skip q1.1 q2 q3 (by omega)
                    · omega
                  · refine rb_aload_n hV dX0_find_86 rfl rfl ?_
                    refine rb_get hV (v := .inr (some 19)) dX0_find_87 ⟨RX0, TX0, 4, rfl, (Nat.le_of_ble_eq_true rfl), lf_X0_19⟩ (gw_18 _) rfl ?_
                    refine rb_iload_n hV dX0_find_90 rfl rfl ?_
                    refine rb_iload_n hV dX0_find_91 rfl rfl ?_
                    refine rb_iast hV (f := (g19)) dX0_find_92 (gw_19 _) (Nat.le_of_ble_eq_true rfl) (by omega) rfl ((pw_19 _ _).trans (congrArg WW ((ab_s_sw (by decide)).trans (congrArg (fun x => ab_s x 20 _) (ab_s_same _ 19 _ _))))) ?_
                    refine rb_aload_n hV dX0_find_93 rfl rfl ?_
                    refine rb_get hV (v := .inr (some 20)) dX0_find_94 ⟨RX0, TX0, 4, rfl, (Nat.le_of_ble_eq_true rfl), lf_X0_23⟩ (gw_18 _) rfl ?_
                    refine rb_iload_n hV dX0_find_97 rfl rfl ?_
                    refine rb_iload_n hV dX0_find_98 rfl rfl ?_
                    refine rb_iast hV (f := (g20)) dX0_find_99 (gw_20 _) (Nat.le_of_ble_eq_true rfl) (by omega) rfl ((pw_20 _ _).trans (congrArg WW (ab_s_same _ 20 _ _))) ?_
                    refine rb_iinc hV (L2 := [some (.inr (some 18)), some (.inl a), some (.inl (b + 1)), some (.inl (cd (vX s) (g19) a b))]) dX0_find_100 rfl rfl rfl ?_
                    refine rb_goto hV (tgt := 43) dX0_find_103 (by decide) ?_
                    refine rb_weak hV (L2 := [some (.inr (some 18)), some (.inl a), some (.inl (b + 1)), none]) ⟨rfl, ⟨rfl, ⟨rfl, trivial⟩⟩⟩ ?_
                    refine ih43 (b + 1) (ab_u (g19) a (cd (vX s) (g19) a b)) (ab_u (g20) a b) ?_ ?_ ?_ ?_
                    · omega
                    · exact fun j hj => ⟨(if_neg hj).trans (q2 j hj).1, (if_neg hj).trans (q2 j hj).2⟩
                    · exact bw_take q1.1 q2 q3 (by omega) (by omega) (by omega)
                    · omega
        refine h43 _ a (ab_u (f19) a (-1)) (ab_u (f20) a (-1)) ?_ ?_ ?_ (Nat.lt_succ_self _)
        · omega
        · exact fun j hj => ⟨if_neg hj, if_neg hj⟩
        · rw [am_0]; exact ⟨if_pos rfl, if_pos rfl⟩
  refine h23 _ ((s 103 0) - 1) (ab_u (s 19) (s 103 0) 0) (s 20) ?_ ?_ (Nat.lt_succ_self _)
  · omega
  · exact ⟨if_pos rfl, fun j j1 j2 => absurd (show s 103 0 ≤ j by omega) (show ¬ s 103 0 ≤ j from Int.not_le.mpr j2), fun j j1 j2 => by
      have e : j = s 103 0 := by omega
      subst e
      rw [show ab_u (s 19) (s 103 0) 0 (s 103 0) = 0 from if_pos rfl]
      omega⟩
