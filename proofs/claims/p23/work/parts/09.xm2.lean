/-! MATHEMATICS 2: layouts -/
def LV (d : Nat → Int → Int) (fw : Int → Int) (nl : Int) : Prop := (0 ≤ nl ∧ nl ≤ d 0 0) ∧ (∀ i, 0 ≤ i → i < nl → 0 ≤ fw i ∧ fw i < fw (i + 1) ∧ fw (i + 1) ≤ d 0 0 ∧ ps d (fw i) (fw (i + 1) - 1) = true) ∧ (0 < nl → fw 0 = 0 ∧ fw nl = d 0 0)
def ldm (d : Nat → Int → Int) (fw : Int → Int) (i : Int) : Int := dm d (fw i) (fw (i + 1) - 1)
def lbd (d : Nat → Int → Int) (fw : Int → Int) (i : Int) : Int := bd d (fw i) (fw (i + 1) - 1)
theorem ps_xd {d : Nat → Int → Int} {a b : Int} (h : ps d a b = true) : xd d a b = dm d a b := if_pos h
theorem ps_xb {d : Nat → Int → Int} {a b : Int} (h : ps d a b = true) : xb d a b = bd d a b := if_pos h
theorem ldm_b {d : Nat → Int → Int} {fw : Int → Int} {nl i : Int} (hp : PI d) (h : LV d fw nl) (h0 : 0 ≤ i) (h1 : i < nl) : 100 ≤ ldm d fw i ∧ ldm d fw i ≤ 12200 := by
  have := h.2.1 i h0 h1
  exact dm_b hp this.1 (by omega) (by omega) this.2.2.2
theorem lbd_b {d : Nat → Int → Int} {fw : Int → Int} {nl i : Int} (hp : PI d) (h : LV d fw nl) (h0 : 0 ≤ i) (h1 : i < nl) : 0 ≤ lbd d fw i ∧ lbd d fw i ≤ 100 := by
  have := h.2.1 i h0 h1
  exact bd_b hp this.1 (by omega) (by omega) this.2.2.2
theorem Sldm_b {d : Nat → Int → Int} {fw : Int → Int} {nl i : Int} (hp : PI d) (h : LV d fw nl) (h0 : 0 ≤ i) (h1 : i ≤ nl) : 0 ≤ Sm (ldm d fw) 0 i ∧ Sm (ldm d fw) 0 i ≤ 732000 := by
  have h2 := hp.1
  have h3 := h.1
  have := Sm_b60 (f := ldm d fw) (hi := 12200) (a := 0) (b := i) (by omega) h0 (by omega) (by omega) (fun j q1 q2 => by have := ldm_b hp h (i := j) q1 (by omega); omega)
  omega
/-- the number of lines ahead of a line in the order of badness -/
def wr (g : Int → Int) (nl l : Int) : Int := Sm (fun i => if g l < g i ∨ (g i = g l ∧ i < l) then 1 else 0) 0 nl
/-- the last word of a line with its second choice; -1: none -/
def sc (d : Nat → Int → Int) (bs fw : Int → Int) (l : Int) (b : Int) : Int := if b = fw (l + 1) - 1 then -1 else cd d bs (fw l) b
def sec (d : Nat → Int → Int) (bs fw : Int → Int) (l : Int) : Int := (am (sc d bs fw l) (fw l) (d 0 0 - fw l).toNat).2
theorem sc_bnd {d : Nat → Int → Int} {bs fw : Int → Int} {l b : Int} (hp : PI d) (hb : BS d bs) (h0 : 0 ≤ fw l) (h1 : fw l ≤ b) (h2 : b < d 0 0) : -1 ≤ sc d bs fw l b ∧ sc d bs fw l b ≤ 744200 := by
  unfold sc
  split
  · omega
  · have := cd_bnd (bs := bs) hp h0 h1 h2 (hb (b + 1) (by omega) (by omega)).2 (by omega)
    omega
theorem am_bnd {c : Int → Int} {lo M : Int} (hM : 0 ≤ M) (k : Nat) (h : ∀ j, lo ≤ j → j < lo + k → c j ≤ M) : -1 ≤ (am c lo k).1 ∧ (am c lo k).1 ≤ M := by
  rcases am_in (c := c) (lo := lo) k with ⟨i1, -, -⟩ | ⟨i1, i2, i3, i4⟩
  · omega
  · have := h _ i2 i3
    omega
/-- from a line on: the best lines from a word on -/
def go (be : Int → Int) (n : Int) : Nat → Int → Int → (Int → Int) → Int × (Int → Int)
  | 0, l, _, fw => (l, ab_u fw l n)
  | m + 1, l, w, fw => if w < n then go be n m (l + 1) (be w + 1) (ab_u fw l w) else (l, ab_u fw l n)
theorem go_end {be : Int → Int} {n : Int} (m : Nat) {l w : Int} {fw : Int → Int} (h : n ≤ w) : go be n m l w fw = (l, ab_u fw l n) := by
  cases m with
  | zero => rfl
  | succ m => rw [go, if_neg (by omega)]
/-- the ways out of the words from which there is one -/
def WY (be : Int → Int) (n : Int) (ok : Int → Prop) : Prop := ∀ w, 0 ≤ w → w < n → ok w → w ≤ be w ∧ be w < n ∧ ok (be w + 1)
theorem go_fuel {be : Int → Int} {n : Int} {ok : Int → Prop} (hw : WY be n ok) : ∀ (m m' : Nat) (l w : Int) (fw : Int → Int), 0 ≤ w → ok w → n - w ≤ m → n - w ≤ m' → go be n m l w fw = go be n m' l w fw
  | 0, m', l, w, fw, _, _, h, _ => by
    rw [go_end m' (by omega)]
    rfl
  | m + 1, 0, l, w, fw, _, _, _, h => by
    rw [go_end (m + 1) (by omega)]
    rfl
  | m + 1, m' + 1, l, w, fw, h0, hk, h, h' => by
    rw [go, go]
    by_cases hn : w < n
    · rw [if_pos hn, if_pos hn]
      obtain ⟨q1, q2, q3⟩ := hw w h0 hn hk
      exact go_fuel hw m m' _ _ _ (by omega) q3 (by omega) (by omega)
    · rw [if_neg hn, if_neg hn]
theorem go_step {be : Int → Int} {n : Int} {ok : Int → Prop} (hw : WY be n ok) {l w : Int} {fw : Int → Int} (h0 : 0 ≤ w) (hn : w < n) (hk : ok w) : go be n (n - w).toNat l w fw = go be n (n - (be w + 1)).toNat (l + 1) (be w + 1) (ab_u fw l w) := by
  obtain ⟨q1, q2, q3⟩ := hw w h0 hn hk
  rw [show (n - w).toNat = (n - w).toNat - 1 + 1 by omega, go, if_pos hn]
  exact go_fuel hw _ _ _ _ _ (by omega) q3 (by omega) (by omega)
theorem ab_u_eq (f : Int → Int) (k v : Int) : ab_u f k v k = v := if_pos rfl
theorem ab_u_ne {f : Int → Int} {k j v : Int} (h : ¬ j = k) : ab_u f k v j = f j := if_neg h
theorem BW_WY {d : Nat → Int → Int} {bs be : Int → Int} (h : BW d bs be) : WY be (d 0 0) (fun w => 0 ≤ bs w) := fun w h0 h1 hk => by
  obtain ⟨e1, e2⟩ := h.2 w h0 h1
  have hk : 0 ≤ bs w := hk
  have e3 := e2 hk
  rw [e1] at hk
  show w ≤ be w ∧ be w < d 0 0 ∧ 0 ≤ bs (be w + 1)
  have hA := am_in (c := cd d bs w) (lo := w) (d 0 0 - w).toNat
  generalize am (cd d bs w) w (d 0 0 - w).toNat = M at hA e1 e3 hk
  rcases hA with ⟨i1, -, -⟩ | ⟨i1, i2, i3, i4⟩
  · omega
  · rw [← e3] at i2 i3 i4
    refine ⟨i2, by omega, ?_⟩
    unfold cd at i4
    split at i4
    · rename_i q
      exact q.1
    · omega
theorem BW_at {d : Nat → Int → Int} {bs be : Int → Int} (h : BW d bs be) {w : Int} (h0 : 0 ≤ w) (h1 : w < d 0 0) (hk : 0 ≤ bs w) : ps d w (be w) = true ∧ bs w = dm d w (be w) + bs (be w + 1) := by
  obtain ⟨e1, e2⟩ := h.2 w h0 h1
  have hk2 := hk
  rw [e1] at hk
  have e3 := e2 hk2
  have hA := am_in (c := cd d bs w) (lo := w) (d 0 0 - w).toNat
  generalize am (cd d bs w) w (d 0 0 - w).toNat = M at hA e1 e3 hk
  rcases hA with ⟨i1, -, -⟩ | ⟨i1, i2, i3, i4⟩
  · omega
  · rw [← e3, ← e1] at i4
    unfold cd at i4
    split at i4
    · rename_i q
      exact ⟨q.2, i4.symm⟩
    · omega
/-- what stands behind 'go': l lines and the word w before -/
theorem go_props {d : Nat → Int → Int} {bs be : Int → Int} (h : BW d bs be) : ∀ (m : Nat) (l w : Int) (fw : Int → Int), 0 ≤ w → w ≤ d 0 0 → 0 ≤ bs w → d 0 0 - w ≤ m → 0 ≤ l →
    (l ≤ (go be (d 0 0) m l w fw).1 ∧ (go be (d 0 0) m l w fw).1 ≤ l + (d 0 0 - w) ∧ (w < d 0 0 → l < (go be (d 0 0) m l w fw).1)) ∧ (∀ j, j < l → (go be (d 0 0) m l w fw).2 j = fw j) ∧ (go be (d 0 0) m l w fw).2 l = w ∧ (go be (d 0 0) m l w fw).2 (go be (d 0 0) m l w fw).1 = d 0 0 ∧
    (∀ j, l ≤ j → j < (go be (d 0 0) m l w fw).1 → w ≤ (go be (d 0 0) m l w fw).2 j ∧ (go be (d 0 0) m l w fw).2 j < (go be (d 0 0) m l w fw).2 (j + 1) ∧ (go be (d 0 0) m l w fw).2 (j + 1) ≤ d 0 0 ∧ ps d ((go be (d 0 0) m l w fw).2 j) ((go be (d 0 0) m l w fw).2 (j + 1) - 1) = true) ∧
    Sm (ldm d (go be (d 0 0) m l w fw).2) l (go be (d 0 0) m l w fw).1 = bs w := by
  intro m
  induction m with
  | zero =>
    intro l w fw h0 h1 hk hm hl
    have e : w = d 0 0 := by omega
    subst e
    refine ⟨⟨Int.le_refl _, by show l ≤ _; omega, fun q => by omega⟩, fun j hj => ab_u_ne (by omega), ab_u_eq _ _ _, ab_u_eq _ _ _, fun j q1 q2 => ?_, ?_⟩
    · exact absurd q2 (by show ¬ j < l; omega)
    · rw [h.1]
      exact Sm_self _ _
  | succ m ih =>
    intro l w fw h0 h1 hk hm hl
    by_cases hn : w < d 0 0
    · obtain ⟨q1, q2, q3⟩ := BW_WY h w h0 hn hk
      obtain ⟨p1, p2⟩ := BW_at h h0 hn hk
      rw [go, if_pos hn]
      obtain ⟨⟨i1, i1b, i1c⟩, i2, i3, i4, i5, i6⟩ := ih (l + 1) (be w + 1) (ab_u fw l w) (by omega) (by omega) q3 (by omega) (by omega)
      generalize go be (d 0 0) m (l + 1) (be w + 1) (ab_u fw l w) = R at i1 i1b i1c i2 i3 i4 i5 i6 ⊢
      have eL : R.2 l = w := by rw [i2 l (by omega), ab_u_eq]
      refine ⟨⟨by omega, by omega, fun _ => by omega⟩, fun j hj => by rw [i2 j (by omega), ab_u_ne (by omega)], eL, i4, fun j r1 r2 => ?_, ?_⟩
      · by_cases hj : j = l
        · subst hj
          rw [eL, i3, show be w + 1 - 1 = be w by omega]
          exact ⟨Int.le_refl _, by omega, by omega, p1⟩
        · have := i5 j (by omega) r2
          exact ⟨by omega, this.2⟩
      · rw [Sm_split (ldm d R.2) (a := l) (b := l + 1) (by omega) (by omega), i6, Sm_succ _ (Int.le_refl l), Sm_self]
        unfold ldm
        rw [eL, i3, show be w + 1 - 1 = be w by omega]
        omega
    · have e : w = d 0 0 := by omega
      rw [go_end (m + 1) (by omega)]
      subst e
      refine ⟨⟨Int.le_refl _, by show l ≤ _; omega, fun q => by omega⟩, fun j hj => ab_u_ne (by omega), ab_u_eq _ _ _, ab_u_eq _ _ _, fun j q1 q2 => ?_, ?_⟩
      · exact absurd q2 (by show ¬ j < l; omega)
      · rw [h.1]
        exact Sm_self _ _
/-- a layout that goes on behind l good lines -/
theorem go_LV {d : Nat → Int → Int} {bs be fw : Int → Int} {l w : Int} (h : BW d bs be) (h0 : 0 ≤ w) (h1 : w ≤ d 0 0) (hk : 0 ≤ bs w) (hl : 0 ≤ l) (hlw : l ≤ w) (hz : 0 < l ∨ (w = 0 ∧ 0 < d 0 0)) (hb : ∀ i, 0 ≤ i → i < l → 0 ≤ fw i ∧ fw i < (if i + 1 = l then w else fw (i + 1)) ∧ (if i + 1 = l then w else fw (i + 1)) ≤ d 0 0 ∧ ps d (fw i) ((if i + 1 = l then w else fw (i + 1)) - 1) = true) (hf0 : 0 < l → fw 0 = 0) :
    LV d (go be (d 0 0) (d 0 0 - w).toNat l w fw).2 (go be (d 0 0) (d 0 0 - w).toNat l w fw).1 := by
  obtain ⟨⟨i1, i1b, i1c⟩, i2, i3, i4, i5, i6⟩ := go_props h (d 0 0 - w).toNat l w fw h0 h1 hk (by omega) hl
  generalize go be (d 0 0) (d 0 0 - w).toNat l w fw = R at i1 i1b i1c i2 i3 i4 i5 i6 ⊢
  refine ⟨⟨by omega, by omega⟩, fun i q1 q2 => ?_, fun q => ⟨?_, i4⟩⟩
  · by_cases hi : i < l
    · have := hb i q1 hi
      rw [i2 i hi]
      by_cases he : i + 1 = l
      · rw [if_pos he] at this
        rw [he, i3]
        exact this
      · rw [if_neg he] at this
        rw [i2 (i + 1) (by omega)]
        exact this
    · have := i5 i (by omega) q2
      exact ⟨by omega, this.2⟩
  · by_cases hl0 : 0 < l
    · rw [i2 0 hl0]
      exact hf0 hl0
    · have e : l = 0 := by omega
      subst e
      rw [i3]
      omega

theorem RUf_step {d : Nat → Int → Int} {f12 f13 f14 f15 f16 f17 : Int → Int} {i : Int} (h0 : 0 ≤ i) (h : RUf d f12 f13 f14 f15 f16 f17 i) : RUf d (ab_u f12 (i + 1) (f12 i + d 1 i)) (ab_u f13 (i + 1) (f13 i + d 10 (d 3 i))) (ab_u f14 (i + 1) (f14 i + (d 11 (d 3 i) - d 10 (d 3 i)))) (ab_u f15 (i + 1) (f15 i + (d 10 (d 3 i) - d 9 (d 3 i)))) (ab_u f16 i (hL d i)) (ab_u f17 i (hR d i)) (i + 1) := by
  obtain ⟨h1, h2⟩ := h
  refine ⟨fun j q1 q2 => ?_, fun j q1 q2 => ?_⟩
  · by_cases hj : j = i + 1
    · subst hj
      obtain ⟨e1, e2, e3, e4⟩ := h1 i h0 (Int.le_refl i)
      rw [ab_u_eq, ab_u_eq, ab_u_eq, ab_u_eq, Sm_succ _ h0, Sm_succ _ h0, Sm_succ _ h0, Sm_succ _ h0, e1, e2, e3, e4]
      exact ⟨rfl, rfl, rfl, rfl⟩
    · rw [ab_u_ne hj, ab_u_ne hj, ab_u_ne hj, ab_u_ne hj]
      exact h1 j q1 (by omega)
  · by_cases hj : j = i
    · subst hj
      rw [ab_u_eq, ab_u_eq]
      exact ⟨rfl, rfl⟩
    · rw [ab_u_ne hj, ab_u_ne hj]
      exact h2 j q1 (by omega)
theorem RUf_0 {d : Nat → Int → Int} {f12 f13 f14 f15 f16 f17 : Int → Int} (h : f12 0 = 0 ∧ f13 0 = 0 ∧ f14 0 = 0 ∧ f15 0 = 0) : RUf d f12 f13 f14 f15 f16 f17 0 := by
  refine ⟨fun j q1 q2 => ?_, fun j q1 q2 => by omega⟩
  have e : j = 0 := by omega
  subst e
  rw [Sm_self, Sm_self, Sm_self, Sm_self]
  exact h

set_option maxRecDepth 20000 in
theorem c_X2_prepare (s : Nat → Int → Int) (hp : PI (vX s)) (hz : s 12 0 = 0 ∧ s 13 0 = 0 ∧ s 14 0 = 0 ∧ s 15 0 = 0) : ab_Mt yX2_prepare cX2_prepare 6 none ({ frames := 1, cells := 0, slots := 0, locals := 21 } : Room) false 0 0 [.inr (some 11)] (WW s) (fun r h2 => r = none ∧ ∃ f12 f13 f14 f15 f16 f17, h2 = WW (ab_s (ab_s (ab_s (ab_s (ab_s (ab_s s 12 f12) 13 f13) 14 f14) 15 f15) 16 f16) 17 f17) ∧ RUf (vX s) f12 f13 f14 f15 f16 f17 (s 103 0)) := by
  refine ab_mk RX2 false rfl pn_X2_prepare (fun z => by cases z) (Nat.le_of_ble_eq_true rfl) (fun V hV => ?_)
  show V 0 [some (.inr (some 11)), none, none, none, none, none] [] (WW s) 0 0
  have hn : 0 ≤ s 103 0 ∧ s 103 0 ≤ 60 := hp.1
  refine rb_iconst hV dX2_prepare_0 ?_
  refine rb_istore_n hV (L2 := [some (.inr (some 11)), some (.inl 0), none, none, none, none]) dX2_prepare_1 rfl (Nat.le_of_ble_eq_true rfl) rfl ?_
  refine rb_heq (b := (ab_s (ab_s (ab_s (ab_s (ab_s (ab_s s 12 (s 12)) 13 (s 13)) 14 (s 14)) 15 (s 15)) 16 (s 16)) 17 (s 17))) ((ab_s_id rfl).trans ((ab_s_id rfl).trans ((ab_s_id rfl).trans ((ab_s_id rfl).trans ((ab_s_id rfl).trans (ab_s_id rfl)))))).symm ?_
  have h2 : ∀ (n2 : Nat) (i : Int) (f12 : Int → Int) (f13 : Int → Int) (f14 : Int → Int) (f15 : Int → Int) (f16 : Int → Int) (f17 : Int → Int), (0 ≤ i ∧ i ≤ s 103 0) → (RUf (vX s) f12 f13 f14 f15 f16 f17 i) → ((s 103 0 - i).toNat) < n2 → V 2 [some (.inr (some 11)), some (.inl i), none, none, none, none] [] (WW (ab_s (ab_s (ab_s (ab_s (ab_s (ab_s s 12 f12) 13 f13) 14 f14) 15 f15) 16 f16) 17 f17)) 0 0 := by
    intro n2
    induction n2 with
    | zero => intro i f12 f13 f14 f15 f16 f17 h1 h2 hm; omega
    | succ n2 ih2 =>
      intro i f12 f13 f14 f15 f16 f17 h1 h2 hm
      refine rb_iload_n hV dX2_prepare_2 rfl rfl ?_
      refine rb_aload_n hV dX2_prepare_3 rfl rfl ?_
      refine rb_get hV (v := .inr (some 5)) dX2_prepare_4 ⟨RX2, TX2, 8, rfl, (Nat.le_of_ble_eq_true rfl), lf_X2_9⟩ (gw_11 _) rfl ?_
      refine rb_get hV (v := .inl (s 103 0)) dX2_prepare_7 ⟨RX4, TX4, 6, rfl, (Nat.le_of_ble_eq_true rfl), lf_X2_38⟩ (gw_5 _) rfl ?_
      refine rb_icmp_ge hV (tgt := 197) dX2_prepare_10 (by decide) ⟨(by first | assumption | (unfold ab_r at *; omega)), (by first | assumption | (unfold ab_r at *; omega))⟩ (fun c10 => ?_) (fun c10 => ?_)
      · refine rb_ret hV (r := none) dX2_prepare_197 rfl ⟨(Nat.le_of_ble_eq_true rfl), (Nat.le_of_ble_eq_true rfl)⟩ trivial ?_
        have e : i = s 103 0 := by omega
        exact ⟨rfl, f12, f13, f14, f15, f16, f17, rfl, e ▸ h2⟩
      · have hk : 0 ≤ s 8 i ∧ s 8 i ≤ 2 := (hp.2.1 i h1.1 (by show i < s 103 0; omega)).2.2.1
        have hm1 : 0 ≤ s 9 i * s 101 0 ∧ s 9 i * s 101 0 ≤ 500 := mk5 (hp.2.1 i h1.1 (by show i < s 103 0; omega)).2.2.2.1 hp.2.2.2.1
        have hm2 : 0 ≤ s 10 i * s 101 0 ∧ s 10 i * s 101 0 ≤ 500 := mk5 (hp.2.1 i h1.1 (by show i < s 103 0; omega)).2.2.2.2 hp.2.2.2.1
        refine rb_aload_n hV dX2_prepare_13 rfl rfl ?_
        refine rb_get hV (v := .inr (some 5)) dX2_prepare_14 ⟨RX2, TX2, 8, rfl, (Nat.le_of_ble_eq_true rfl), lf_X2_9⟩ (gw_11 _) rfl ?_
        refine rb_get hV (v := .inr (some 8)) dX2_prepare_17 ⟨RX4, TX4, 6, rfl, (Nat.le_of_ble_eq_true rfl), lf_X2_44⟩ (gw_5 _) rfl ?_
        refine rb_iload_n hV dX2_prepare_20 rfl rfl ?_
        refine rb_iald hV (f := (s 8)) dX2_prepare_21 (gw_8 _) (Nat.le_of_ble_eq_true rfl) (by omega) ?_
        refine rb_istore_n hV (L2 := [some (.inr (some 11)), some (.inl i), some (.inl (s 8 i)), none, none, none]) dX2_prepare_22 rfl (Nat.le_of_ble_eq_true rfl) rfl ?_
        refine rb_aload_n hV dX2_prepare_23 rfl rfl ?_
        refine rb_get hV (v := .inr (some 1)) dX2_prepare_24 ⟨RX2, TX2, 8, rfl, (Nat.le_of_ble_eq_true rfl), lf_X2_15⟩ (gw_11 _) rfl ?_
        refine rb_get hV (v := .inr (some 3)) dX2_prepare_27 ⟨RX6, TX6, 6, rfl, (Nat.le_of_ble_eq_true rfl), lf_X2_47⟩ (gw_1 _) rfl ?_
        refine rb_iload_n hV dX2_prepare_30 rfl rfl ?_
        refine rb_callS hV (rest := []) dX2_prepare_31 (c_X9_at (ab_s (ab_s (ab_s (ab_s (ab_s (ab_s s 12 f12) 13 f13) 14 f14) 15 f15) 16 f16) 17 f17) 3 _ (s 3) (s 8 i) (gw_3 _) (Nat.le_of_ble_eq_true rfl) (by omega)) lk_X2_52 rfl rfl ⟨rfl, rfl, (Nat.le_of_ble_eq_true rfl), (Nat.le_of_ble_eq_true rfl), (Nat.le_of_ble_eq_true rfl), (Nat.le_of_ble_eq_true rfl)⟩ (Nat.le_of_ble_eq_true rfl) (fun r9 h9 p9 => ?_)
        obtain ⟨rfl, rfl⟩ := p9
        show V 34 [some (.inr (some 11)), some (.inl i), some (.inl (s 8 i)), none, none, none] [.inl (s 3 (s 8 i))] (WW (ab_s (ab_s (ab_s (ab_s (ab_s (ab_s s 12 f12) 13 f13) 14 f14) 15 f15) 16 f16) 17 f17)) 0 0
        refine rb_istore_n hV (L2 := [some (.inr (some 11)), some (.inl i), some (.inl (s 8 i)), some (.inl (s 3 (s 8 i))), none, none]) dX2_prepare_34 rfl (Nat.le_of_ble_eq_true rfl) rfl ?_
        refine rb_aload_n hV dX2_prepare_35 rfl rfl ?_
        refine rb_get hV (v := .inr (some 1)) dX2_prepare_36 ⟨RX2, TX2, 8, rfl, (Nat.le_of_ble_eq_true rfl), lf_X2_15⟩ (gw_11 _) rfl ?_
        refine rb_get hV (v := .inr (some 4)) dX2_prepare_39 ⟨RX6, TX6, 6, rfl, (Nat.le_of_ble_eq_true rfl), lf_X2_56⟩ (gw_1 _) rfl ?_
        refine rb_iload_n hV dX2_prepare_42 rfl rfl ?_
        refine rb_callS hV (rest := []) dX2_prepare_43 (c_X9_at (ab_s (ab_s (ab_s (ab_s (ab_s (ab_s s 12 f12) 13 f13) 14 f14) 15 f15) 16 f16) 17 f17) 4 _ (s 4) (s 8 i) (gw_4 _) (Nat.le_of_ble_eq_true rfl) (by omega)) lk_X2_52 rfl rfl ⟨rfl, rfl, (Nat.le_of_ble_eq_true rfl), (Nat.le_of_ble_eq_true rfl), (Nat.le_of_ble_eq_true rfl), (Nat.le_of_ble_eq_true rfl)⟩ (Nat.le_of_ble_eq_true rfl) (fun r9 h9 p9 => ?_)
        obtain ⟨rfl, rfl⟩ := p9
        show V 46 [some (.inr (some 11)), some (.inl i), some (.inl (s 8 i)), some (.inl (s 3 (s 8 i))), none, none] [.inl (s 4 (s 8 i))] (WW (ab_s (ab_s (ab_s (ab_s (ab_s (ab_s s 12 f12) 13 f13) 14 f14) 15 f15) 16 f16) 17 f17)) 0 0
        refine rb_iload_n hV dX2_prepare_46 rfl rfl ?_
        refine rb_isub hV dX2_prepare_47 ?_
        refine rb_istore hV (L2 := [some (.inr (some 11)), some (.inl i), some (.inl (s 8 i)), some (.inl (s 3 (s 8 i))), some (.inl ((s 4 (s 8 i)) - (s 3 (s 8 i)))), none]) dX2_prepare_48 (Nat.le_of_ble_eq_true rfl) rfl ?_
        refine rb_iload_n hV dX2_prepare_50 rfl rfl ?_
        refine rb_aload_n hV dX2_prepare_51 rfl rfl ?_
        refine rb_get hV (v := .inr (some 1)) dX2_prepare_52 ⟨RX2, TX2, 8, rfl, (Nat.le_of_ble_eq_true rfl), lf_X2_15⟩ (gw_11 _) rfl ?_
        refine rb_get hV (v := .inr (some 2)) dX2_prepare_55 ⟨RX6, TX6, 6, rfl, (Nat.le_of_ble_eq_true rfl), lf_X2_59⟩ (gw_1 _) rfl ?_
        refine rb_iload_n hV dX2_prepare_58 rfl rfl ?_
        refine rb_callS hV (rest := [.inl (s 3 (s 8 i))]) dX2_prepare_59 (c_X9_at (ab_s (ab_s (ab_s (ab_s (ab_s (ab_s s 12 f12) 13 f13) 14 f14) 15 f15) 16 f16) 17 f17) 2 _ (s 2) (s 8 i) (gw_2 _) (Nat.le_of_ble_eq_true rfl) (by omega)) lk_X2_52 rfl rfl ⟨rfl, rfl, (Nat.le_of_ble_eq_true rfl), (Nat.le_of_ble_eq_true rfl), (Nat.le_of_ble_eq_true rfl), (Nat.le_of_ble_eq_true rfl)⟩ (Nat.le_of_ble_eq_true rfl) (fun r9 h9 p9 => ?_)
        obtain ⟨rfl, rfl⟩ := p9
        show V 62 [some (.inr (some 11)), some (.inl i), some (.inl (s 8 i)), some (.inl (s 3 (s 8 i))), some (.inl ((s 4 (s 8 i)) - (s 3 (s 8 i)))), none] [.inl (s 2 (s 8 i)), .inl (s 3 (s 8 i))] (WW (ab_s (ab_s (ab_s (ab_s (ab_s (ab_s s 12 f12) 13 f13) 14 f14) 15 f15) 16 f16) 17 f17)) 0 0
        refine rb_isub hV dX2_prepare_62 ?_
        refine rb_istore hV (L2 := [some (.inr (some 11)), some (.inl i), some (.inl (s 8 i)), some (.inl (s 3 (s 8 i))), some (.inl ((s 4 (s 8 i)) - (s 3 (s 8 i)))), some (.inl ((s 3 (s 8 i)) - (s 2 (s 8 i))))]) dX2_prepare_63 (Nat.le_of_ble_eq_true rfl) rfl ?_
        refine rb_aload_n hV dX2_prepare_65 rfl rfl ?_
        refine rb_get hV (v := .inr (some 12)) dX2_prepare_66 ⟨RX2, TX2, 8, rfl, (Nat.le_of_ble_eq_true rfl), lf_X2_19⟩ (gw_11 _) rfl ?_
        refine rb_iload_n hV dX2_prepare_69 rfl rfl ?_
        refine rb_iconst hV dX2_prepare_70 ?_
        refine rb_iadd hV dX2_prepare_71 ?_
        refine rb_aload_n hV dX2_prepare_72 rfl rfl ?_
        refine rb_get hV (v := .inr (some 12)) dX2_prepare_73 ⟨RX2, TX2, 8, rfl, (Nat.le_of_ble_eq_true rfl), lf_X2_19⟩ (gw_11 _) rfl ?_
        refine rb_iload_n hV dX2_prepare_76 rfl rfl ?_
        refine rb_iald hV (f := (f12)) dX2_prepare_77 (gw_12 _) (Nat.le_of_ble_eq_true rfl) (by omega) ?_
        refine rb_aload_n hV dX2_prepare_78 rfl rfl ?_
        refine rb_get hV (v := .inr (some 5)) dX2_prepare_79 ⟨RX2, TX2, 8, rfl, (Nat.le_of_ble_eq_true rfl), lf_X2_9⟩ (gw_11 _) rfl ?_
        refine rb_get hV (v := .inr (some 6)) dX2_prepare_82 ⟨RX4, TX4, 6, rfl, (Nat.le_of_ble_eq_true rfl), lf_X2_62⟩ (gw_5 _) rfl ?_
        refine rb_iload_n hV dX2_prepare_85 rfl rfl ?_
        refine rb_iald hV (f := (s 6)) dX2_prepare_86 (gw_6 _) (Nat.le_of_ble_eq_true rfl) (by omega) ?_
        refine rb_iadd hV dX2_prepare_87 ?_
        refine rb_iast hV (f := (f12)) dX2_prepare_88 (gw_12 _) (Nat.le_of_ble_eq_true rfl) (by omega) rfl ((pw_12 _ _).trans (congrArg WW ((ab_s_sw (by decide)).trans (congrArg (fun x => ab_s x 17 _) ((ab_s_sw (by decide)).trans (congrArg (fun x => ab_s x 16 _) ((ab_s_sw (by decide)).trans (congrArg (fun x => ab_s x 15 _) ((ab_s_sw (by decide)).trans (congrArg (fun x => ab_s x 14 _) ((ab_s_sw (by decide)).trans (congrArg (fun x => ab_s x 13 _) (ab_s_same _ 12 _ _))))))))))))) ?_
        refine rb_aload_n hV dX2_prepare_89 rfl rfl ?_
        refine rb_get hV (v := .inr (some 13)) dX2_prepare_90 ⟨RX2, TX2, 8, rfl, (Nat.le_of_ble_eq_true rfl), lf_X2_23⟩ (gw_11 _) rfl ?_
        refine rb_iload_n hV dX2_prepare_93 rfl rfl ?_
        refine rb_iconst hV dX2_prepare_94 ?_
        refine rb_iadd hV dX2_prepare_95 ?_
        refine rb_aload_n hV dX2_prepare_96 rfl rfl ?_
        refine rb_get hV (v := .inr (some 13)) dX2_prepare_97 ⟨RX2, TX2, 8, rfl, (Nat.le_of_ble_eq_true rfl), lf_X2_23⟩ (gw_11 _) rfl ?_
        refine rb_iload_n hV dX2_prepare_100 rfl rfl ?_
        refine rb_iald hV (f := (f13)) dX2_prepare_101 (gw_13 _) (Nat.le_of_ble_eq_true rfl) (by omega) ?_
        refine rb_iload_n hV dX2_prepare_102 rfl rfl ?_
        refine rb_iadd hV dX2_prepare_103 ?_
        refine rb_iast hV (f := (f13)) dX2_prepare_104 (gw_13 _) (Nat.le_of_ble_eq_true rfl) (by omega) rfl ((pw_13 _ _).trans (congrArg WW ((ab_s_sw (by decide)).trans (congrArg (fun x => ab_s x 17 _) ((ab_s_sw (by decide)).trans (congrArg (fun x => ab_s x 16 _) ((ab_s_sw (by decide)).trans (congrArg (fun x => ab_s x 15 _) ((ab_s_sw (by decide)).trans (congrArg (fun x => ab_s x 14 _) (ab_s_same _ 13 _ _))))))))))) ?_
        refine rb_aload_n hV dX2_prepare_105 rfl rfl ?_
        refine rb_get hV (v := .inr (some 14)) dX2_prepare_106 ⟨RX2, TX2, 8, rfl, (Nat.le_of_ble_eq_true rfl), lf_X2_26⟩ (gw_11 _) rfl ?_
        refine rb_iload_n hV dX2_prepare_109 rfl rfl ?_
        refine rb_iconst hV dX2_prepare_110 ?_
        refine rb_iadd hV dX2_prepare_111 ?_
        refine rb_aload_n hV dX2_prepare_112 rfl rfl ?_
        refine rb_get hV (v := .inr (some 14)) dX2_prepare_113 ⟨RX2, TX2, 8, rfl, (Nat.le_of_ble_eq_true rfl), lf_X2_26⟩ (gw_11 _) rfl ?_
        refine rb_iload_n hV dX2_prepare_116 rfl rfl ?_
        refine rb_iald hV (f := (f14)) dX2_prepare_117 (gw_14 _) (Nat.le_of_ble_eq_true rfl) (by omega) ?_
        refine rb_iload hV dX2_prepare_118 rfl ?_
        refine rb_iadd hV dX2_prepare_120 ?_
        refine rb_iast hV (f := (f14)) dX2_prepare_121 (gw_14 _) (Nat.le_of_ble_eq_true rfl) (by omega) rfl ((pw_14 _ _).trans (congrArg WW ((ab_s_sw (by decide)).trans (congrArg (fun x => ab_s x 17 _) ((ab_s_sw (by decide)).trans (congrArg (fun x => ab_s x 16 _) ((ab_s_sw (by decide)).trans (congrArg (fun x => ab_s x 15 _) (ab_s_same _ 14 _ _))))))))) ?_
        refine rb_aload_n hV dX2_prepare_122 rfl rfl ?_
        refine rb_get hV (v := .inr (some 15)) dX2_prepare_123 ⟨RX2, TX2, 8, rfl, (Nat.le_of_ble_eq_true rfl), lf_X2_29⟩ (gw_11 _) rfl ?_
        refine rb_iload_n hV dX2_prepare_126 rfl rfl ?_
        refine rb_iconst hV dX2_prepare_127 ?_
        refine rb_iadd hV dX2_prepare_128 ?_
        refine rb_aload_n hV dX2_prepare_129 rfl rfl ?_
        refine rb_get hV (v := .inr (some 15)) dX2_prepare_130 ⟨RX2, TX2, 8, rfl, (Nat.le_of_ble_eq_true rfl), lf_X2_29⟩ (gw_11 _) rfl ?_
        refine rb_iload_n hV dX2_prepare_133 rfl rfl ?_
        refine rb_iald hV (f := (f15)) dX2_prepare_134 (gw_15 _) (Nat.le_of_ble_eq_true rfl) (by omega) ?_
        refine rb_iload hV dX2_prepare_135 rfl ?_
        refine rb_iadd hV dX2_prepare_137 ?_
        refine rb_iast hV (f := (f15)) dX2_prepare_138 (gw_15 _) (Nat.le_of_ble_eq_true rfl) (by omega) rfl ((pw_15 _ _).trans (congrArg WW ((ab_s_sw (by decide)).trans (congrArg (fun x => ab_s x 17 _) ((ab_s_sw (by decide)).trans (congrArg (fun x => ab_s x 16 _) (ab_s_same _ 15 _ _))))))) ?_
        refine rb_aload_n hV dX2_prepare_139 rfl rfl ?_
        refine rb_get hV (v := .inr (some 16)) dX2_prepare_140 ⟨RX2, TX2, 8, rfl, (Nat.le_of_ble_eq_true rfl), lf_X2_32⟩ (gw_11 _) rfl ?_
        refine rb_iload_n hV dX2_prepare_143 rfl rfl ?_
        refine rb_aload_n hV dX2_prepare_144 rfl rfl ?_
        refine rb_get hV (v := .inr (some 5)) dX2_prepare_145 ⟨RX2, TX2, 8, rfl, (Nat.le_of_ble_eq_true rfl), lf_X2_9⟩ (gw_11 _) rfl ?_
        refine rb_get hV (v := .inr (some 9)) dX2_prepare_148 ⟨RX4, TX4, 6, rfl, (Nat.le_of_ble_eq_true rfl), lf_X2_65⟩ (gw_5 _) rfl ?_
        refine rb_iload_n hV dX2_prepare_151 rfl rfl ?_
        refine rb_iald hV (f := (s 9)) dX2_prepare_152 (gw_9 _) (Nat.le_of_ble_eq_true rfl) (by omega) ?_
        refine rb_aload_n hV dX2_prepare_153 rfl rfl ?_
        refine rb_get hV (v := .inr (some 1)) dX2_prepare_154 ⟨RX2, TX2, 8, rfl, (Nat.le_of_ble_eq_true rfl), lf_X2_15⟩ (gw_11 _) rfl ?_
        refine rb_get hV (v := .inl (s 101 0)) dX2_prepare_157 ⟨RX6, TX6, 6, rfl, (Nat.le_of_ble_eq_true rfl), lf_X2_68⟩ (gw_1 _) rfl ?_
        refine rb_imul hV dX2_prepare_160 ?_
        refine rb_bipush hV dX2_prepare_161 (by decide) ?_
        refine rb_idiv hV dX2_prepare_163 ⟨(by first | assumption | (unfold ab_r at *; omega)), (by first | assumption | (unfold ab_r at *; omega))⟩ (by omega) ?_
        refine rb_iast hV (f := (f16)) dX2_prepare_164 (gw_16 _) (Nat.le_of_ble_eq_true rfl) (by omega) rfl ((pw_16 _ _).trans (congrArg WW ((ab_s_sw (by decide)).trans (congrArg (fun x => ab_s x 17 _) (ab_s_same _ 16 _ _))))) ?_
        refine rb_aload_n hV dX2_prepare_165 rfl rfl ?_
        refine rb_get hV (v := .inr (some 17)) dX2_prepare_166 ⟨RX2, TX2, 8, rfl, (Nat.le_of_ble_eq_true rfl), lf_X2_35⟩ (gw_11 _) rfl ?_
        refine rb_iload_n hV dX2_prepare_169 rfl rfl ?_
        refine rb_aload_n hV dX2_prepare_170 rfl rfl ?_
        refine rb_get hV (v := .inr (some 5)) dX2_prepare_171 ⟨RX2, TX2, 8, rfl, (Nat.le_of_ble_eq_true rfl), lf_X2_9⟩ (gw_11 _) rfl ?_
        refine rb_get hV (v := .inr (some 10)) dX2_prepare_174 ⟨RX4, TX4, 6, rfl, (Nat.le_of_ble_eq_true rfl), lf_X2_71⟩ (gw_5 _) rfl ?_
        refine rb_iload_n hV dX2_prepare_177 rfl rfl ?_
        refine rb_iald hV (f := (s 10)) dX2_prepare_178 (gw_10 _) (Nat.le_of_ble_eq_true rfl) (by omega) ?_
        refine rb_aload_n hV dX2_prepare_179 rfl rfl ?_
        refine rb_get hV (v := .inr (some 1)) dX2_prepare_180 ⟨RX2, TX2, 8, rfl, (Nat.le_of_ble_eq_true rfl), lf_X2_15⟩ (gw_11 _) rfl ?_
        refine rb_get hV (v := .inl (s 101 0)) dX2_prepare_183 ⟨RX6, TX6, 6, rfl, (Nat.le_of_ble_eq_true rfl), lf_X2_68⟩ (gw_1 _) rfl ?_
        refine rb_imul hV dX2_prepare_186 ?_
        refine rb_bipush hV dX2_prepare_187 (by decide) ?_
        refine rb_idiv hV dX2_prepare_189 ⟨(by first | assumption | (unfold ab_r at *; omega)), (by first | assumption | (unfold ab_r at *; omega))⟩ (by omega) ?_
        refine rb_iast hV (f := (f17)) dX2_prepare_190 (gw_17 _) (Nat.le_of_ble_eq_true rfl) (by omega) rfl ((pw_17 _ _).trans (congrArg WW (ab_s_same _ 17 _ _))) ?_
        refine rb_iinc hV (L2 := [some (.inr (some 11)), some (.inl (i + 1)), some (.inl (s 8 i)), some (.inl (s 3 (s 8 i))), some (.inl ((s 4 (s 8 i)) - (s 3 (s 8 i)))), some (.inl ((s 3 (s 8 i)) - (s 2 (s 8 i))))]) dX2_prepare_191 rfl rfl rfl ?_
        refine rb_goto hV (tgt := 2) dX2_prepare_194 (by decide) ?_
        refine rb_weak hV (L2 := [some (.inr (some 11)), some (.inl (i + 1)), none, none, none, none]) ⟨rfl, ⟨rfl, trivial⟩⟩ ?_
        refine ih2 (i + 1) (ab_u (f12) (i + 1) (((f12) i) + (s 6 i))) (ab_u (f13) (i + 1) (((f13) i) + (s 3 (s 8 i)))) (ab_u (f14) (i + 1) (((f14) i) + ((s 4 (s 8 i)) - (s 3 (s 8 i))))) (ab_u (f15) (i + 1) (((f15) i) + ((s 3 (s 8 i)) - (s 2 (s 8 i))))) (ab_u (f16) i ((((s 9 i) * (s 101 0))).tdiv 100)) (ab_u (f17) i ((((s 10 i) * (s 101 0))).tdiv 100)) ?_ ?_ ?_
        · omega
        · exact RUf_step h1.1 h2
        · omega
  refine h2 _ 0 (s 12) (s 13) (s 14) (s 15) (s 16) (s 17) ?_ ?_ (Nat.lt_succ_self _)
  · omega
  · exact RUf_0 hz

set_option maxRecDepth 20000 in
theorem c_X1_hasLine_la (s : Nat → Int → Int) (l : Int) (hl : ab_r l) (hn : 0 ≤ s 107 0 ∧ s 107 0 ≤ 60) : ab_Mt yX1_hasLine cX1_hasLine 2 (some .boolean) ({ frames := 0, cells := 0, slots := 0, locals := 0 } : Room) false 0 0 [.inr (some 25), .inl l] (WW s) (fun r h2 => r = some (.inl (if 0 ≤ l ∧ l < s 107 0 then 1 else 0)) ∧ h2 = WW s) := by
  refine ab_mk RX1 false rfl pn_X1_hasLine (fun z => by cases z) (Nat.le_of_ble_eq_true rfl) (fun V hV => ?_)
  show V 0 [some (.inr (some 25)), some (.inl l)] [] (WW s) 0 0
  refine rb_iload_n hV dX1_hasLine_0 rfl rfl ?_
  refine rb_if_lt hV (tgt := 16) dX1_hasLine_1 (by decide) (by first | assumption | (unfold ab_r at *; omega)) (fun c1 => ?_) (fun c1 => ?_)
  · refine rb_iconst hV dX1_hasLine_16 ?_
    refine rb_ret hV (r := some (.inl 0)) dX1_hasLine_17 rfl ⟨(Nat.le_of_ble_eq_true rfl), (Nat.le_of_ble_eq_true rfl)⟩ (by first | exact Or.inl rfl | exact Or.inr rfl | omega) ?_
    exact ⟨by first | (rw [if_pos (by omega)]; done) | (rw [if_neg (by omega)]; done), rfl⟩
  · refine rb_iload_n hV dX1_hasLine_4 rfl rfl ?_
    refine rb_aload_n hV dX1_hasLine_5 rfl rfl ?_
    refine rb_get hV (v := .inl (s 107 0)) dX1_hasLine_6 ⟨RX1, TX1, 12, rfl, (Nat.le_of_ble_eq_true rfl), lf_X1_27⟩ (gw_25 _) rfl ?_
    refine rb_icmp_ge hV (tgt := 16) dX1_hasLine_9 (by decide) ⟨(by first | assumption | (unfold ab_r at *; omega)), (by first | assumption | (unfold ab_r at *; omega))⟩ (fun c9 => ?_) (fun c9 => ?_)
    · refine rb_iconst hV dX1_hasLine_16 ?_
      refine rb_ret hV (r := some (.inl 0)) dX1_hasLine_17 rfl ⟨(Nat.le_of_ble_eq_true rfl), (Nat.le_of_ble_eq_true rfl)⟩ (by first | exact Or.inl rfl | exact Or.inr rfl | omega) ?_
      exact ⟨by first | (rw [if_pos (by omega)]; done) | (rw [if_neg (by omega)]; done), rfl⟩
    · refine rb_iconst hV dX1_hasLine_12 ?_
      refine rb_goto hV (tgt := 17) dX1_hasLine_13 (by decide) ?_
      refine rb_ret hV (r := some (.inl 1)) dX1_hasLine_17 rfl ⟨(Nat.le_of_ble_eq_true rfl), (Nat.le_of_ble_eq_true rfl)⟩ (by first | exact Or.inl rfl | exact Or.inr rfl | omega) ?_
      exact ⟨by first | (rw [if_pos (by omega)]; done) | (rw [if_neg (by omega)]; done), rfl⟩

set_option maxRecDepth 20000 in
theorem c_X1_hasLine_tr (s : Nat → Int → Int) (l : Int) (hl : ab_r l) (hn : 0 ≤ s 112 0 ∧ s 112 0 ≤ 60) : ab_Mt yX1_hasLine cX1_hasLine 2 (some .boolean) ({ frames := 0, cells := 0, slots := 0, locals := 0 } : Room) false 0 0 [.inr (some 37), .inl l] (WW s) (fun r h2 => r = some (.inl (if 0 ≤ l ∧ l < s 112 0 then 1 else 0)) ∧ h2 = WW s) := by
  refine ab_mk RX1 false rfl pn_X1_hasLine (fun z => by cases z) (Nat.le_of_ble_eq_true rfl) (fun V hV => ?_)
  show V 0 [some (.inr (some 37)), some (.inl l)] [] (WW s) 0 0
  refine rb_iload_n hV dX1_hasLine_0 rfl rfl ?_
  refine rb_if_lt hV (tgt := 16) dX1_hasLine_1 (by decide) (by first | assumption | (unfold ab_r at *; omega)) (fun c1 => ?_) (fun c1 => ?_)
  · refine rb_iconst hV dX1_hasLine_16 ?_
    refine rb_ret hV (r := some (.inl 0)) dX1_hasLine_17 rfl ⟨(Nat.le_of_ble_eq_true rfl), (Nat.le_of_ble_eq_true rfl)⟩ (by first | exact Or.inl rfl | exact Or.inr rfl | omega) ?_
    exact ⟨by first | (rw [if_pos (by omega)]; done) | (rw [if_neg (by omega)]; done), rfl⟩
  · refine rb_iload_n hV dX1_hasLine_4 rfl rfl ?_
    refine rb_aload_n hV dX1_hasLine_5 rfl rfl ?_
    refine rb_get hV (v := .inl (s 112 0)) dX1_hasLine_6 ⟨RX1, TX1, 12, rfl, (Nat.le_of_ble_eq_true rfl), lf_X1_27⟩ (gw_37 _) rfl ?_
    refine rb_icmp_ge hV (tgt := 16) dX1_hasLine_9 (by decide) ⟨(by first | assumption | (unfold ab_r at *; omega)), (by first | assumption | (unfold ab_r at *; omega))⟩ (fun c9 => ?_) (fun c9 => ?_)
    · refine rb_iconst hV dX1_hasLine_16 ?_
      refine rb_ret hV (r := some (.inl 0)) dX1_hasLine_17 rfl ⟨(Nat.le_of_ble_eq_true rfl), (Nat.le_of_ble_eq_true rfl)⟩ (by first | exact Or.inl rfl | exact Or.inr rfl | omega) ?_
      exact ⟨by first | (rw [if_pos (by omega)]; done) | (rw [if_neg (by omega)]; done), rfl⟩
    · refine rb_iconst hV dX1_hasLine_12 ?_
      refine rb_goto hV (tgt := 17) dX1_hasLine_13 (by decide) ?_
      refine rb_ret hV (r := some (.inl 1)) dX1_hasLine_17 rfl ⟨(Nat.le_of_ble_eq_true rfl), (Nat.le_of_ble_eq_true rfl)⟩ (by first | exact Or.inl rfl | exact Or.inr rfl | omega) ?_
      exact ⟨by first | (rw [if_pos (by omega)]; done) | (rw [if_neg (by omega)]; done), rfl⟩

set_option maxRecDepth 20000 in
theorem c_X1_firstWord_la (s : Nat → Int → Int) (l : Int) (hn : 0 ≤ s 107 0 ∧ s 107 0 ≤ 60) (hl : 0 ≤ l ∧ l < s 107 0) : ab_Mt yX1_firstWord cX1_firstWord 2 (some .int) ({ frames := 1, cells := 0, slots := 0, locals := 21 } : Room) false 0 0 [.inr (some 25), .inl l] (WW s) (fun r h2 => r = some (.inl (s 26 l)) ∧ h2 = WW s) := by
  refine ab_mk RX1 false rfl pn_X1_firstWord (fun z => by cases z) (Nat.le_of_ble_eq_true rfl) (fun V hV => ?_)
  show V 0 [some (.inr (some 25)), some (.inl l)] [] (WW s) 0 0
  refine rb_aload_n hV dX1_firstWord_0 rfl rfl ?_
  refine rb_iload_n hV dX1_firstWord_1 rfl rfl ?_
  refine rb_callV hV (rest := []) dX1_firstWord_2 (c_X1_hasLine_la s l (by first | assumption | (unfold ab_r at *; omega)) (show 0 ≤ (s 107 0) ∧ (s 107 0) ≤ 60 by omega)) lk_X1_57 rfl (Or.inl ⟨1, _, TX1, 12, gw_25 _, rfl⟩) rfl ⟨rfl, rfl, (Nat.le_of_ble_eq_true rfl), (Nat.le_of_ble_eq_true rfl), (Nat.le_of_ble_eq_true rfl), (Nat.le_of_ble_eq_true rfl)⟩ (Nat.le_of_ble_eq_true rfl) (fun r9 h9 p9 => ?_)
  obtain ⟨rfl, rfl⟩ := p9
  show V 5 [some (.inr (some 25)), some (.inl l)] [.inl (if 0 ≤ l ∧ l < (s 107 0) then 1 else 0)] (WW s) 0 0
  rw [if_pos (show 0 ≤ l ∧ l < (s 107 0) by omega)]
  show V 5 [some (.inr (some 25)), some (.inl l)] [.inl 1] (WW s) 0 0
  refine rb_if_eq hV (tgt := 17) dX1_firstWord_5 (by decide) (by first | assumption | (unfold ab_r at *; omega)) (fun z => absurd z (by decide)) (fun _ => ?_)
  refine rb_aload_n hV dX1_firstWord_8 rfl rfl ?_
  refine rb_get hV (v := .inr (some 26)) dX1_firstWord_9 ⟨RX1, TX1, 12, rfl, (Nat.le_of_ble_eq_true rfl), lf_X1_34⟩ (gw_25 _) rfl ?_
  refine rb_iload_n hV dX1_firstWord_12 rfl rfl ?_
  refine rb_iald hV (f := (s 26)) dX1_firstWord_13 (gw_26 _) (Nat.le_of_ble_eq_true rfl) (by omega) ?_
  refine rb_goto hV (tgt := 18) dX1_firstWord_14 (by decide) ?_
  refine rb_ret hV (r := some (.inl (s 26 l))) dX1_firstWord_18 rfl ⟨(Nat.le_of_ble_eq_true rfl), (Nat.le_of_ble_eq_true rfl)⟩ trivial ?_
  exact ⟨rfl, rfl⟩

set_option maxRecDepth 20000 in
theorem c_X1_lastWord_la (s : Nat → Int → Int) (l : Int) (hn : 0 ≤ s 107 0 ∧ s 107 0 ≤ 60) (hl : 0 ≤ l ∧ l < s 107 0) : ab_Mt yX1_lastWord cX1_lastWord 2 (some .int) ({ frames := 1, cells := 0, slots := 0, locals := 21 } : Room) false 0 0 [.inr (some 25), .inl l] (WW s) (fun r h2 => r = some (.inl (s 26 (l + 1) - 1)) ∧ h2 = WW s) := by
  refine ab_mk RX1 false rfl pn_X1_lastWord (fun z => by cases z) (Nat.le_of_ble_eq_true rfl) (fun V hV => ?_)
  show V 0 [some (.inr (some 25)), some (.inl l)] [] (WW s) 0 0
  refine rb_aload_n hV dX1_lastWord_0 rfl rfl ?_
  refine rb_iload_n hV dX1_lastWord_1 rfl rfl ?_
  refine rb_callV hV (rest := []) dX1_lastWord_2 (c_X1_hasLine_la s l (by first | assumption | (unfold ab_r at *; omega)) (show 0 ≤ (s 107 0) ∧ (s 107 0) ≤ 60 by omega)) lk_X1_57 rfl (Or.inl ⟨1, _, TX1, 12, gw_25 _, rfl⟩) rfl ⟨rfl, rfl, (Nat.le_of_ble_eq_true rfl), (Nat.le_of_ble_eq_true rfl), (Nat.le_of_ble_eq_true rfl), (Nat.le_of_ble_eq_true rfl)⟩ (Nat.le_of_ble_eq_true rfl) (fun r9 h9 p9 => ?_)
  obtain ⟨rfl, rfl⟩ := p9
  show V 5 [some (.inr (some 25)), some (.inl l)] [.inl (if 0 ≤ l ∧ l < (s 107 0) then 1 else 0)] (WW s) 0 0
  rw [if_pos (show 0 ≤ l ∧ l < (s 107 0) by omega)]
  show V 5 [some (.inr (some 25)), some (.inl l)] [.inl 1] (WW s) 0 0
  refine rb_if_eq hV (tgt := 21) dX1_lastWord_5 (by decide) (by first | assumption | (unfold ab_r at *; omega)) (fun z => absurd z (by decide)) (fun _ => ?_)
  refine rb_aload_n hV dX1_lastWord_8 rfl rfl ?_
  refine rb_get hV (v := .inr (some 26)) dX1_lastWord_9 ⟨RX1, TX1, 12, rfl, (Nat.le_of_ble_eq_true rfl), lf_X1_34⟩ (gw_25 _) rfl ?_
  refine rb_iload_n hV dX1_lastWord_12 rfl rfl ?_
  refine rb_iconst hV dX1_lastWord_13 ?_
  refine rb_iadd hV dX1_lastWord_14 ?_
  refine rb_iald hV (f := (s 26)) dX1_lastWord_15 (gw_26 _) (Nat.le_of_ble_eq_true rfl) (by omega) ?_
  refine rb_iconst hV dX1_lastWord_16 ?_
  refine rb_isub hV dX1_lastWord_17 ?_
  refine rb_goto hV (tgt := 22) dX1_lastWord_18 (by decide) ?_
  refine rb_ret hV (r := some (.inl ((s 26 (l + 1)) - 1))) dX1_lastWord_22 rfl ⟨(Nat.le_of_ble_eq_true rfl), (Nat.le_of_ble_eq_true rfl)⟩ trivial ?_
  exact ⟨rfl, rfl⟩

set_option maxRecDepth 20000 in
theorem c_X1_firstWord_tr (s : Nat → Int → Int) (l : Int) (hn : 0 ≤ s 112 0 ∧ s 112 0 ≤ 60) (hl : 0 ≤ l ∧ l < s 112 0) : ab_Mt yX1_firstWord cX1_firstWord 2 (some .int) ({ frames := 1, cells := 0, slots := 0, locals := 21 } : Room) false 0 0 [.inr (some 37), .inl l] (WW s) (fun r h2 => r = some (.inl (s 38 l)) ∧ h2 = WW s) := by
  refine ab_mk RX1 false rfl pn_X1_firstWord (fun z => by cases z) (Nat.le_of_ble_eq_true rfl) (fun V hV => ?_)
  show V 0 [some (.inr (some 37)), some (.inl l)] [] (WW s) 0 0
  refine rb_aload_n hV dX1_firstWord_0 rfl rfl ?_
  refine rb_iload_n hV dX1_firstWord_1 rfl rfl ?_
  refine rb_callV hV (rest := []) dX1_firstWord_2 (c_X1_hasLine_tr s l (by first | assumption | (unfold ab_r at *; omega)) (show 0 ≤ (s 112 0) ∧ (s 112 0) ≤ 60 by omega)) lk_X1_57 rfl (Or.inl ⟨1, _, TX1, 12, gw_37 _, rfl⟩) rfl ⟨rfl, rfl, (Nat.le_of_ble_eq_true rfl), (Nat.le_of_ble_eq_true rfl), (Nat.le_of_ble_eq_true rfl), (Nat.le_of_ble_eq_true rfl)⟩ (Nat.le_of_ble_eq_true rfl) (fun r9 h9 p9 => ?_)
  obtain ⟨rfl, rfl⟩ := p9
  show V 5 [some (.inr (some 37)), some (.inl l)] [.inl (if 0 ≤ l ∧ l < (s 112 0) then 1 else 0)] (WW s) 0 0
  rw [if_pos (show 0 ≤ l ∧ l < (s 112 0) by omega)]
  show V 5 [some (.inr (some 37)), some (.inl l)] [.inl 1] (WW s) 0 0
  refine rb_if_eq hV (tgt := 17) dX1_firstWord_5 (by decide) (by first | assumption | (unfold ab_r at *; omega)) (fun z => absurd z (by decide)) (fun _ => ?_)
  refine rb_aload_n hV dX1_firstWord_8 rfl rfl ?_
  refine rb_get hV (v := .inr (some 38)) dX1_firstWord_9 ⟨RX1, TX1, 12, rfl, (Nat.le_of_ble_eq_true rfl), lf_X1_34⟩ (gw_37 _) rfl ?_
  refine rb_iload_n hV dX1_firstWord_12 rfl rfl ?_
  refine rb_iald hV (f := (s 38)) dX1_firstWord_13 (gw_38 _) (Nat.le_of_ble_eq_true rfl) (by omega) ?_
  refine rb_goto hV (tgt := 18) dX1_firstWord_14 (by decide) ?_
  refine rb_ret hV (r := some (.inl (s 38 l))) dX1_firstWord_18 rfl ⟨(Nat.le_of_ble_eq_true rfl), (Nat.le_of_ble_eq_true rfl)⟩ trivial ?_
  exact ⟨rfl, rfl⟩

set_option maxRecDepth 20000 in
theorem c_X1_lastWord_tr (s : Nat → Int → Int) (l : Int) (hn : 0 ≤ s 112 0 ∧ s 112 0 ≤ 60) (hl : 0 ≤ l ∧ l < s 112 0) : ab_Mt yX1_lastWord cX1_lastWord 2 (some .int) ({ frames := 1, cells := 0, slots := 0, locals := 21 } : Room) false 0 0 [.inr (some 37), .inl l] (WW s) (fun r h2 => r = some (.inl (s 38 (l + 1) - 1)) ∧ h2 = WW s) := by
  refine ab_mk RX1 false rfl pn_X1_lastWord (fun z => by cases z) (Nat.le_of_ble_eq_true rfl) (fun V hV => ?_)
  show V 0 [some (.inr (some 37)), some (.inl l)] [] (WW s) 0 0
  refine rb_aload_n hV dX1_lastWord_0 rfl rfl ?_
  refine rb_iload_n hV dX1_lastWord_1 rfl rfl ?_
  refine rb_callV hV (rest := []) dX1_lastWord_2 (c_X1_hasLine_tr s l (by first | assumption | (unfold ab_r at *; omega)) (show 0 ≤ (s 112 0) ∧ (s 112 0) ≤ 60 by omega)) lk_X1_57 rfl (Or.inl ⟨1, _, TX1, 12, gw_37 _, rfl⟩) rfl ⟨rfl, rfl, (Nat.le_of_ble_eq_true rfl), (Nat.le_of_ble_eq_true rfl), (Nat.le_of_ble_eq_true rfl), (Nat.le_of_ble_eq_true rfl)⟩ (Nat.le_of_ble_eq_true rfl) (fun r9 h9 p9 => ?_)
  obtain ⟨rfl, rfl⟩ := p9
  show V 5 [some (.inr (some 37)), some (.inl l)] [.inl (if 0 ≤ l ∧ l < (s 112 0) then 1 else 0)] (WW s) 0 0
  rw [if_pos (show 0 ≤ l ∧ l < (s 112 0) by omega)]
  show V 5 [some (.inr (some 37)), some (.inl l)] [.inl 1] (WW s) 0 0
  refine rb_if_eq hV (tgt := 21) dX1_lastWord_5 (by decide) (by first | assumption | (unfold ab_r at *; omega)) (fun z => absurd z (by decide)) (fun _ => ?_)
  refine rb_aload_n hV dX1_lastWord_8 rfl rfl ?_
  refine rb_get hV (v := .inr (some 38)) dX1_lastWord_9 ⟨RX1, TX1, 12, rfl, (Nat.le_of_ble_eq_true rfl), lf_X1_34⟩ (gw_37 _) rfl ?_
  refine rb_iload_n hV dX1_lastWord_12 rfl rfl ?_
  refine rb_iconst hV dX1_lastWord_13 ?_
  refine rb_iadd hV dX1_lastWord_14 ?_
  refine rb_iald hV (f := (s 38)) dX1_lastWord_15 (gw_38 _) (Nat.le_of_ble_eq_true rfl) (by omega) ?_
  refine rb_iconst hV dX1_lastWord_16 ?_
  refine rb_isub hV dX1_lastWord_17 ?_
  refine rb_goto hV (tgt := 22) dX1_lastWord_18 (by decide) ?_
  refine rb_ret hV (r := some (.inl ((s 38 (l + 1)) - 1))) dX1_lastWord_22 rfl ⟨(Nat.le_of_ble_eq_true rfl), (Nat.le_of_ble_eq_true rfl)⟩ trivial ?_
  exact ⟨rfl, rfl⟩
