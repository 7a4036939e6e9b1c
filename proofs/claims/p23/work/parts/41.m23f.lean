/-! p23 MATHEMATICS 6: what a command's text is -/
theorem SEG_get {t : Int → Int} : ∀ (l : List Int) (p q : Int), SEG t p l → p ≤ q → q < p + l.length → t q = l.getD (q - p).toNat 0
  | [], p, q, _, h1, h2 => by
    have h2 : q < p + ((0 : Nat) : Int) := h2
    omega
  | c :: l, p, q, ⟨a, b⟩, h1, h2 => by
    have e : ((c :: l).length : Int) = (l.length : Int) + 1 := by
      rw [List.length_cons]
      omega
    by_cases z : q = p
    · rw [z, show (p - p).toNat = 0 by omega]
      exact a
    · rw [show (q - p).toNat = (q - (p + 1)).toNat + 1 by omega]
      exact SEG_get l (p + 1) q b (by omega) (by omega)
theorem gd_map (l : List Int32) (k : Nat) : (l.map Int32.toInt).getD k 0 = (l.getD k 0).toInt := by
  rw [List.getD_eq_getElem?_getD, List.getD_eq_getElem?_getD, List.getElem?_map]
  cases l[k]? <;> rfl
theorem isNm_seg {t : Int → Int} {n p : Int} {i : Nat} {l : List Int} (h : SEG t p l) (hl : l = (xsB.getD i []).map Int32.toInt) (hL : xsL.getD i 0 = l.length) (p0 : 0 ≤ p) (hn : p + l.length ≤ n) : isNm t n i p (p + l.length) := by
  refine ⟨p0, hn, by rw [hL]; omega, fun q h1 h2 => ?_⟩
  rw [SEG_get l p q h h1 h2, hl, gd_map]
  rfl
theorem nm_no {t : Int → Int} {n p e : Int} {i : Nat} (h : ¬ e - p = ((xsL.getD i 0 : Nat) : Int)) : ¬ isNm t n i p e := fun z => h z.2.2.1
theorem eo_seg {t : Int → Int} {n : Int} : ∀ (l : List Int) (p : Int), SEG t p l → (∀ c ∈ l, ¬ c = 32) → (n = p + l.length ∨ (p + l.length < n ∧ t (p + l.length) = 32)) → eo t p (n - p).toNat = p + l.length
  | [], p, _, _, hn => by
    have hn : n = p + ((0 : Nat) : Int) ∨ (p + ((0 : Nat) : Int) < n ∧ t (p + ((0 : Nat) : Int)) = 32) := hn
    show _ = p + ((0 : Nat) : Int)
    rw [show p + ((0 : Nat) : Int) = p by omega] at hn ⊢
    rcases hn with q | ⟨q, q2⟩
    · rw [show (n - p).toNat = 0 by omega]
      rfl
    · rw [show (n - p).toNat = (n - p).toNat - 1 + 1 by omega]
      unfold eo
      rw [if_pos q2]
  | c :: l, p, ⟨a, b⟩, hb, hn => by
    have e : ((c :: l).length : Int) = (l.length : Int) + 1 := by
      rw [List.length_cons]
      omega
    rw [e] at hn ⊢
    have ih := eo_seg (n := n) l (p + 1) b (fun x hx => hb x (List.mem_cons_of_mem _ hx)) (by rw [show p + 1 + (l.length : Int) = p + ((l.length : Int) + 1) by omega]; exact hn)
    rw [show (n - p).toNat = (n - (p + 1)).toNat + 1 by omega]
    unfold eo
    rw [if_neg (by rw [a]; exact hb c List.mem_cons_self), ih]
    omega
section PR
variable {t : Int → Int} {n : Int} {f : Nat} {k p sub kd e : Int} {nu : Int → Int}
theorem prs_bad2 (he : eo t p (n - p).toNat = e) (h : ¬ gd t n k p e sub nu) : prs t n (f + 1) k p sub kd nu = (p, sub, kd, nu) := by
  subst he
  exact prs_bad h
theorem prs_end2 (he : eo t p (n - p).toNat = e) (h : gd t n k p e sub nu) (h2 : n ≤ e) : prs t n (f + 1) k p sub kd nu = (if k + 1 < wp (uS k sub (sbj t n p e)) then n else -1, uS k sub (sbj t n p e), uK k sub kd (kdn t n p e), uN k sub nu (num t p e)) := by
  subst he
  exact prs_end h h2
theorem prs_go2 (he : eo t p (n - p).toNat = e) (h : gd t n k p e sub nu) (h2 : ¬ n ≤ e) : prs t n (f + 1) k p sub kd nu = prs t n f (k + 1) (e + 1) (uS k sub (sbj t n p e)) (uK k sub kd (kdn t n p e)) (uN k sub nu (num t p e)) := by
  subst he
  exact prs_go h h2
end PR
theorem wl_0 : wrd 0 = [109, 101, 97, 115, 117, 114, 101] := rfl
theorem wl_1 : wrd 1 = [104, 97, 110, 103] := rfl
theorem wl_2 : wrd 2 = [114, 105, 118, 101, 114] := rfl
theorem wl_3 : wrd 3 = [115, 112, 97, 99, 101] := rfl
theorem wrd_b {a : Int} (ha : a = 0 ∨ a = 1 ∨ a = 2 ∨ a = 3) : (∀ c ∈ wrd a, ¬ c = 32) ∧ 4 ≤ (wrd a).length ∧ (wrd a).length ≤ 7 := by
  rcases ha with rfl | rfl | rfl | rfl
  · rw [wl_0]
    decide
  · rw [wl_1]
    decide
  · rw [wl_2]
    decide
  · rw [wl_3]
    decide
theorem sbj_w {t : Int → Int} {n a : Int} (ha : a = 0 ∨ a = 1 ∨ a = 2 ∨ a = 3) (h : SEG t 0 (wrd a)) (hn : ((wrd a).length : Int) ≤ n) : sbj t n 0 ((wrd a).length : Int) = a := by
  have g : ∀ i, wrd a = (xsB.getD i []).map Int32.toInt → xsL.getD i 0 = (wrd a).length → isNm t n i 0 ((wrd a).length : Int) := fun i q1 q2 => by
    have := isNm_seg (n := n) (i := i) h q1 q2 (Int.le_refl 0) (by omega)
    rwa [Int.zero_add] at this
  have l9 : ((xsL.getD 9 0 : Nat) : Int) = 7 := rfl
  have l10 : ((xsL.getD 10 0 : Nat) : Int) = 4 := rfl
  have l11 : ((xsL.getD 11 0 : Nat) : Int) = 5 := rfl
  unfold sbj
  rcases ha with rfl | rfl | rfl | rfl
  · rw [cif_pos (g 9 (by decide) (by decide))]
  · have e : ((wrd 1).length : Int) = 4 := rfl
    rw [cif_neg (nm_no (by omega)), cif_pos (g 10 (by decide) (by decide))]
  · have e : ((wrd 2).length : Int) = 5 := rfl
    rw [cif_neg (nm_no (by omega)), cif_neg (nm_no (by omega)), cif_pos (g 11 (by decide) (by decide))]
  · have e : ((wrd 3).length : Int) = 5 := rfl
    have no : ¬ isNm t n 11 0 ((wrd 3).length : Int) := fun z => by
      have q := z.2.2.2 0 (Int.le_refl 0) (by omega)
      rw [wl_3] at h
      have q2 : bt 11 (0 - 0) = 114 := by decide
      have q3 := h.1
      omega
    rw [cif_neg (nm_no (by omega)), cif_neg (nm_no (by omega)), cif_neg no, cif_pos (g 12 (by decide) (by decide))]
theorem DG_b {v : Int} {ds : List Int} (h : DG v ds) : (∀ c ∈ ds, ¬ c = 32) ∧ (1 ≤ ds.length ∧ ds.length ≤ 3) ∧ (ds.length : Int) = (if 99 < v then 3 else if 9 < v then 2 else 1) := by
  rcases h with ⟨a, b, c, rfl, h1, h2, h3, h4, h5⟩ | ⟨b, c, rfl, h2, h3, h4, h5, h6⟩ | ⟨c, rfl, h3, h4, h5⟩
  · refine ⟨fun x hx => ?_, ⟨Nat.le_of_ble_eq_true rfl, Nat.le_of_ble_eq_true rfl⟩, by rw [if_pos h5]; rfl⟩
    simp only [List.mem_cons, List.not_mem_nil, or_false] at hx
    omega
  · refine ⟨fun x hx => ?_, ⟨Nat.le_of_ble_eq_true rfl, Nat.le_of_ble_eq_true rfl⟩, by rw [if_neg (by omega), if_pos h5]; rfl⟩
    simp only [List.mem_cons, List.not_mem_nil, or_false] at hx
    omega
  · refine ⟨fun x hx => ?_, ⟨Nat.le_of_ble_eq_true rfl, Nat.le_of_ble_eq_true rfl⟩, by rw [if_neg (by omega), if_neg (by omega)]; rfl⟩
    simp only [List.mem_cons, List.not_mem_nil, or_false] at hx
    omega
theorem num_dg {t : Int → Int} {p v : Int} {ds : List Int} (h : SEG t p ds) (hd : DG v ds) : num t p (p + ds.length) = v := by
  have hnu : isNu t p (p + ds.length) := by
    have b := DG_b hd
    refine ⟨by omega, by omega, fun q h1 h2 => ?_⟩
    refine SEG_all (P := fun c => 48 ≤ c ∧ c ≤ 57) ds p h (fun c hc => ?_) q h1 h2
    rcases hd with ⟨a, b, c, rfl, h1, h2, h3, h4, h5⟩ | ⟨b, c, rfl, h2, h3, h4, h5, h6⟩ | ⟨c, rfl, h3, h4, h5⟩
    all_goals
      simp only [List.mem_cons, List.not_mem_nil, or_false] at hc
      omega
  unfold num
  rw [cif_pos hnu]
  rcases hd with ⟨a, b, c, rfl, h1, h2, h3, h4, h5⟩ | ⟨b, c, rfl, h2, h3, h4, h5, h6⟩ | ⟨c, rfl, h3, h4, h5⟩
  · obtain ⟨g1, g2, g3, -⟩ := h
    rw [show (p + (([a, b, c] : List Int).length : Int) - p).toNat = 0 + 1 + 1 + 1 by show (p + ((3 : Nat) : Int) - p).toNat = 3; omega]
    unfold nv nv nv nv
    rw [show p + ((0 : Nat) : Int) = p by omega, show p + ((0 + 1 : Nat) : Int) = p + 1 by omega, show p + ((0 + 1 + 1 : Nat) : Int) = p + 1 + 1 by omega]
    omega
  · obtain ⟨g1, g2, -⟩ := h
    rw [show (p + (([b, c] : List Int).length : Int) - p).toNat = 0 + 1 + 1 by show (p + ((2 : Nat) : Int) - p).toNat = 2; omega]
    unfold nv nv nv
    rw [show p + ((0 : Nat) : Int) = p by omega, show p + ((0 + 1 : Nat) : Int) = p + 1 by omega]
    omega
  · obtain ⟨g1, -⟩ := h
    rw [show (p + (([c] : List Int).length : Int) - p).toNat = 0 + 1 by show (p + ((1 : Nat) : Int) - p).toNat = 1; omega]
    unfold nv nv
    rw [show p + ((0 : Nat) : Int) = p by omega]
    omega
/-- the word alone -/
theorem PR_w {m : Nat → Int → Int} {a x y : Int} {z : Int → Int} (ha : a = 0 ∨ a = 1 ∨ a = 2 ∨ a = 3) (ht : TXL m (wrd a)) : (prs (m 22) (m 104 0) 5 0 0 x y z).1 = ((wrd a).length : Int) := by
  obtain ⟨h1, h2⟩ := ht
  have he := eo_seg (n := m 104 0) (wrd a) 0 h2 (wrd_b ha).1 (Or.inl (by omega))
  rw [Int.zero_add] at he
  have hs := sbj_w ha h2 (n := m 104 0) (by omega)
  rw [prs_end2 he (Or.inl ⟨rfl, by rw [hs]; omega⟩) (by omega), hs]
  show (if (0 : Int) + 1 < wp (uS 0 x a) then m 104 0 else -1) = _
  have hw := wp_b (uS 0 x a)
  rw [if_pos (by omega), h1]
/-- behind the word -/
theorem PR_1 {m : Nat → Int → Int} {a x y : Int} {z : Int → Int} {f : Nat} {r : List Int} (ha : a = 0 ∨ a = 1 ∨ a = 2 ∨ a = 3) (ht : TXL m (wrd a ++ 32 :: r)) : prs (m 22) (m 104 0) (f + 1) 0 0 x y z = prs (m 22) (m 104 0) f 1 (((wrd a).length : Int) + 1) a y z ∧ SEG (m 22) (((wrd a).length : Int) + 1) r ∧ m 104 0 = ((wrd a).length : Int) + 1 + r.length := by
  obtain ⟨h1, h2⟩ := ht
  rw [SEG_app, Int.zero_add] at h2
  obtain ⟨h2, h3, h4⟩ := h2
  rw [List.length_append, List.length_cons] at h1
  have he := eo_seg (n := m 104 0) (wrd a) 0 h2 (wrd_b ha).1 (Or.inr ⟨by omega, by rw [Int.zero_add]; exact h3⟩)
  rw [Int.zero_add] at he
  have hs := sbj_w ha h2 (n := m 104 0) (by omega)
  refine ⟨?_, h4, by omega⟩
  rw [prs_go2 he (Or.inl ⟨rfl, by rw [hs]; omega⟩) (by omega), hs]
  show prs (m 22) (m 104 0) f (0 + 1) _ (uS 0 x a) (uK 0 x y _) (uN 0 x z _) = _
  have e1 : uS 0 x a = a := if_pos rfl
  have e2 : ∀ q, uK 0 x y q = y := fun q => if_neg (fun w => absurd w.1 (by decide))
  have e3 : ∀ q, uN 0 x z q = z := fun q => (if_neg (fun w => absurd w.1 (by decide))).trans (if_neg (fun w => absurd w.1 (by decide)))
  rw [e1, e2, e3]
  rfl
theorem tLo_a {a : Int} (ha : a = 0 ∨ a = 1 ∨ a = 2) (nu : Int → Int) : tLo a nu 0 = (if a = 0 then 10 else 0) := by
  unfold tLo
  rw [if_neg (by omega)]
/-- a setting's number: wrong, fine, with a blank behind -/
theorem PR_n {m : Nat → Int → Int} {a v x y : Int} {z : Int → Int} {ds : List Int} (ha : a = 0 ∨ a = 1 ∨ a = 2) (ht : TXL m (wrd a ++ 32 :: ds)) (hd : DG v ds) :
    (¬ ((if a = 0 then 10 else 0) ≤ v ∧ v ≤ tHi a) → (prs (m 22) (m 104 0) 5 0 0 x y z).1 = ((wrd a).length : Int) + 1) ∧ (((if a = 0 then 10 else 0) ≤ v ∧ v ≤ tHi a) → ∃ kd nu, prs (m 22) (m 104 0) 5 0 0 x y z = (-1, a, kd, nu) ∧ nu 0 = v) := by
  obtain ⟨h1, h2, h3⟩ := PR_1 (f := 4) (x := x) (y := y) (z := z) (by omega) ht
  have hb := DG_b hd
  have he := eo_seg (n := m 104 0) ds (((wrd a).length : Int) + 1) h2 hb.1 (Or.inl (by omega))
  have hv := num_dg h2 hd
  have hg : gd (m 22) (m 104 0) 1 (((wrd a).length : Int) + 1) (((wrd a).length : Int) + 1 + ds.length) a z ↔ ((if a = 0 then 10 else 0) ≤ v ∧ v ≤ tHi a) := by
    unfold gd
    rw [hv, tLo_a ha]
    omega
  refine ⟨fun q => ?_, fun q => ?_⟩
  · rw [h1, prs_bad2 he (fun g => q (hg.mp g))]
  · rw [h1, prs_end2 he (hg.mpr q) (by omega), hv]
    have e1 : ∀ q, uS 1 a q = a := fun q => if_neg (by omega)
    have e3 : uN 1 a z v = ab_u z 0 v := (if_neg (fun w => absurd w.1 (by decide))).trans (if_pos ⟨rfl, by omega⟩)
    rw [e1, e3, if_neg (by have := wp_b a; omega)]
    exact ⟨_, _, rfl, ab_u_eq _ _ _⟩
theorem PR_b {m : Nat → Int → Int} {a v x y : Int} {z : Int → Int} {ds : List Int} (ha : a = 0 ∨ a = 1 ∨ a = 2) (ht : TXL m ((wrd a ++ 32 :: ds) ++ [32])) (hd : DG v ds) (hv : (if a = 0 then 10 else 0) ≤ v ∧ v ≤ tHi a) : (prs (m 22) (m 104 0) 5 0 0 x y z).1 = ((wrd a).length : Int) + 1 + ds.length + 1 := by
  rw [List.append_assoc, List.cons_append] at ht
  obtain ⟨h1, h2, h3⟩ := PR_1 (f := 4) (x := x) (y := y) (z := z) (by omega) ht
  rw [SEG_app] at h2
  obtain ⟨h2, h4, -⟩ := h2
  rw [List.length_append, List.length_cons, List.length_nil] at h3
  have hb := DG_b hd
  have he := eo_seg (n := m 104 0) ds (((wrd a).length : Int) + 1) h2 hb.1 (Or.inr ⟨by omega, h4⟩)
  have hn := num_dg h2 hd
  have hg : gd (m 22) (m 104 0) 1 (((wrd a).length : Int) + 1) (((wrd a).length : Int) + 1 + ds.length) a z := by
    unfold gd
    rw [hn, tLo_a ha]
    omega
  have e1 : ∀ q, uS 1 a q = a := fun q => if_neg (by omega)
  rw [h1, prs_go2 he hg (by omega), e1]
  have he2 := eo_seg (t := m 22) (n := m 104 0) [] (((wrd a).length : Int) + 1 + ds.length + 1) trivial (fun c hc => absurd hc List.not_mem_nil) (Or.inl (by show m 104 0 = _ + ((0 : Nat) : Int); omega))
  rw [prs_bad2 he2 (fun g => by unfold gd at g; omega)]
def W4 : List Int := [119, 111, 114, 100]
theorem kdn_w {t : Int → Int} {n p : Int} (h : SEG t p W4) (p0 : 0 ≤ p) (hn : p + 4 ≤ n) : kdn t n p (p + 4) = 0 := cif_pos (isNm_seg (i := 13) h (by decide) (by decide) p0 hn)
theorem PR_s1 {m : Nat → Int → Int} {x y : Int} {z : Int → Int} (ht : TXL m (wrd 3 ++ 32 :: [119, 111, 114])) : (prs (m 22) (m 104 0) 5 0 0 x y z).1 = 6 := by
  obtain ⟨h1, h2, h3⟩ := PR_1 (f := 4) (x := x) (y := y) (z := z) (by omega) ht
  have e5 : ((wrd 3).length : Int) = 5 := rfl
  have e3 : (([119, 111, 114] : List Int).length : Int) = 3 := rfl
  rw [e5] at h1 h2 h3
  rw [e3] at h3
  have he := eo_seg (n := m 104 0) [119, 111, 114] (5 + 1) h2 (by decide) (Or.inl (by omega))
  rw [e3] at he
  have l13 : ((xsL.getD 13 0 : Nat) : Int) = 4 := rfl
  have l14 : ((xsL.getD 14 0 : Nat) : Int) = 6 := rfl
  have l15 : ((xsL.getD 15 0 : Nat) : Int) = 8 := rfl
  have hk : kdn (m 22) (m 104 0) (5 + 1) (5 + 1 + 3) = -1 := by
    unfold kdn
    rw [cif_neg (nm_no (by omega)), cif_neg (nm_no (by omega)), cif_neg (nm_no (by omega))]
  rw [h1, prs_bad2 he (fun g => by unfold gd at g; omega)]
  rfl
/-- the widths of the class of words -/
theorem PR_2 {m : Nat → Int → Int} {x y : Int} {z : Int → Int} {f : Nat} {r : List Int} (ht : TXL m (wrd 3 ++ 32 :: (W4 ++ 32 :: r))) : prs (m 22) (m 104 0) (f + 2) 0 0 x y z = prs (m 22) (m 104 0) f 2 11 3 0 z ∧ SEG (m 22) 11 r ∧ m 104 0 = 11 + r.length := by
  obtain ⟨h1, h2, h3⟩ := PR_1 (f := f + 1) (x := x) (y := y) (z := z) (by omega) ht
  have e5 : ((wrd 3).length : Int) = 5 := rfl
  have e4 : (W4.length : Int) = 4 := rfl
  rw [e5] at h1 h2 h3
  rw [SEG_app, e4] at h2
  obtain ⟨h2, h4, h5⟩ := h2
  rw [List.length_append, List.length_cons] at h3
  have he := eo_seg (n := m 104 0) W4 (5 + 1) h2 (by decide) (Or.inr ⟨by omega, h4⟩)
  rw [e4] at he
  have hk := kdn_w (n := m 104 0) h2 (by omega) (by omega)
  refine ⟨?_, h5, by omega⟩
  rw [h1, prs_go2 he (Or.inr (Or.inl ⟨rfl, rfl, by rw [hk]; decide⟩)) (by omega), hk]
  have e1 : ∀ q, uS 1 3 q = 3 := fun q => if_neg (by decide)
  have e2 : uK 1 3 y 0 = 0 := if_pos ⟨rfl, rfl⟩
  have e3 : ∀ q, uN 1 3 z q = z := fun q => (if_neg (fun w => absurd w.1 (by decide))).trans (if_neg (fun w => w.2 rfl))
  rw [e1, e2, e3]
  rfl
theorem gd_num {t : Int → Int} {n k p e v : Int} {nu : Int → Int} (hk : 2 ≤ k) (hv : num t p e = v) (h : tLo 3 nu (k - 2) ≤ v ∧ v ≤ 40) : gd t n k p e 3 nu := Or.inr (Or.inr (Or.inl ⟨hk, rfl, by rw [hv]; exact h.1, by rw [hv]; exact h.2⟩))
theorem PR_3 {m : Nat → Int → Int} {k p v kd : Int} {nu : Int → Int} {f : Nat} {ds r : List Int} (hk : 2 ≤ k) (hs : SEG (m 22) p (ds ++ 32 :: r)) (hn : m 104 0 = p + (ds ++ 32 :: r).length) (hd : DG v ds) (hg : tLo 3 nu (k - 2) ≤ v ∧ v ≤ 40) :
    prs (m 22) (m 104 0) (f + 1) k p 3 kd nu = prs (m 22) (m 104 0) f (k + 1) (p + ds.length + 1) 3 kd (ab_u nu (k - 2) v) ∧ SEG (m 22) (p + ds.length + 1) r ∧ m 104 0 = p + ds.length + 1 + r.length := by
  rw [SEG_app] at hs
  obtain ⟨h2, h4, h5⟩ := hs
  rw [List.length_append, List.length_cons] at hn
  have hb := DG_b hd
  have he := eo_seg (n := m 104 0) ds p h2 hb.1 (Or.inr ⟨by omega, h4⟩)
  have hv := num_dg h2 hd
  refine ⟨?_, h5, by omega⟩
  rw [prs_go2 he (gd_num hk hv hg) (by omega), hv]
  have e1 : ∀ q, uS k 3 q = 3 := fun q => if_neg (by omega)
  have e2 : ∀ q, uK k 3 kd q = kd := fun q => if_neg (by omega)
  have e3 : uN k 3 nu v = ab_u nu (k - 2) v := if_pos ⟨hk, rfl⟩
  rw [e1, e2, e3]
theorem PR_4 {m : Nat → Int → Int} {k p v kd : Int} {nu : Int → Int} {f : Nat} {ds : List Int} (hk : 2 ≤ k) (hs : SEG (m 22) p ds) (hn : m 104 0 = p + ds.length) (hd : DG v ds) (hg : tLo 3 nu (k - 2) ≤ v ∧ v ≤ 40) :
    prs (m 22) (m 104 0) (f + 1) k p 3 kd nu = (if k + 1 < 5 then m 104 0 else -1, 3, kd, ab_u nu (k - 2) v) := by
  have hb := DG_b hd
  have he := eo_seg (n := m 104 0) ds p hs hb.1 (Or.inl hn)
  have hv := num_dg hs hd
  rw [prs_end2 he (gd_num hk hv hg) (by omega), hv]
  have e1 : ∀ q, uS k 3 q = 3 := fun q => if_neg (by omega)
  have e2 : ∀ q, uK k 3 kd q = kd := fun q => if_neg (by omega)
  have e3 : uN k 3 nu v = ab_u nu (k - 2) v := if_pos ⟨hk, rfl⟩
  rw [e1, e2, e3]
  rfl
theorem tLo_0 (nu : Int → Int) : tLo 3 nu (2 - 2) = 1 := rfl
theorem tLo_1 (nu : Int → Int) (v : Int) : tLo 3 (ab_u nu (2 - 2) v) (3 - 2) = v := rfl
theorem tLo_2 (nu : Int → Int) (v : Int) : tLo 3 (ab_u nu (3 - 2) v) (4 - 2) = v := rfl
theorem PR_s2 {m : Nat → Int → Int} {x y a b : Int} {z : Int → Int} {d1 d2 : List Int} (ht : TXL m (wrd 3 ++ 32 :: (W4 ++ 32 :: (d1 ++ 32 :: d2)))) (h1 : DG a d1) (h2 : DG b d2) (hab : 1 ≤ a ∧ a ≤ b ∧ b ≤ 40) : (prs (m 22) (m 104 0) 5 0 0 x y z).1 = m 104 0 ∧ 14 ≤ m 104 0 ∧ m 104 0 ≤ 18 := by
  obtain ⟨p1, p2, p3⟩ := PR_2 (f := 3) (x := x) (y := y) (z := z) ht
  obtain ⟨q1, q2, q3⟩ := PR_3 (k := 2) (kd := 0) (nu := z) (f := 2) (by decide) p2 p3 h1 (by rw [tLo_0]; omega)
  have b1 := DG_b h1
  have b2 := DG_b h2
  have r1 := PR_4 (k := 3) (kd := 0) (nu := ab_u z (2 - 2) a) (f := 1) (by decide) q2 q3 h2 (by rw [tLo_1]; omega)
  rw [p1, q1]
  exact ⟨congrArg Prod.fst r1, by omega, by omega⟩
theorem PR_s3 {m : Nat → Int → Int} {x y a b c : Int} {z : Int → Int} {d1 d2 d3 : List Int} (ht : TXL m (wrd 3 ++ 32 :: (W4 ++ 32 :: (d1 ++ 32 :: (d2 ++ 32 :: d3))))) (h1 : DG a d1) (h2 : DG b d2) (h3 : DG c d3) (hab : 1 ≤ a ∧ a ≤ b ∧ b ≤ c ∧ c ≤ 40) : ∃ nu, prs (m 22) (m 104 0) 5 0 0 x y z = (-1, 3, 0, nu) ∧ nu 0 = a ∧ nu 1 = b ∧ nu 2 = c := by
  obtain ⟨p1, p2, p3⟩ := PR_2 (f := 3) (x := x) (y := y) (z := z) ht
  obtain ⟨q1, q2, q3⟩ := PR_3 (k := 2) (kd := 0) (nu := z) (f := 2) (by decide) p2 p3 h1 (by rw [tLo_0]; omega)
  obtain ⟨r1, r2, r3⟩ := PR_3 (k := 3) (kd := 0) (nu := ab_u z (2 - 2) a) (f := 1) (by decide) q2 q3 h2 (by rw [tLo_1]; omega)
  have s1 := PR_4 (k := 4) (kd := 0) (nu := ab_u (ab_u z (2 - 2) a) (3 - 2) b) (f := 0) (by decide) r2 r3 h3 (by rw [tLo_2]; omega)
  rw [p1, q1]
  exact ⟨_, r1.trans s1, rfl, rfl, rfl⟩
/-- a command's two ends -/
def CMP (t : Nat → Int → Int) (r : Option ab_V) (h2 : List ab_E) : Prop := ∃ v sub2 kd2 nu2, (prs (t 22) (t 104 0) 5 0 0 (t 105 0) (t 106 0) (t 24)).1 = v ∧ ((¬v = -1 ∧ r = some (.inl (-100 - v)) ∧ h2 = WW (ab_s (ab_s (ab_s t 105 sub2) 106 kd2) 24 nu2) ∧ XI (ab_s (ab_s (ab_s t 105 sub2) 106 kd2) 24 nu2)) ∨ (v = -1 ∧ ((prs (t 22) (t 104 0) 5 0 0 (t 105 0) (t 106 0) (t 24)).2.1 = sub2 0 ∧ (prs (t 22) (t 104 0) 5 0 0 (t 105 0) (t 106 0) (t 24)).2.2.1 = kd2 0 ∧ (prs (t 22) (t 104 0) 5 0 0 (t 105 0) (t 106 0) (t 24)).2.2.2 = nu2 ∧ OKC (sub2 0) (kd2 0) nu2) ∧ ∃ s1 s2, APM (ab_s (ab_s (ab_s t 105 sub2) 106 kd2) 24 nu2) s1 ∧ r = some (.inl (s2 107 0)) ∧ h2 = WW s2 ∧ XI s2 ∧ BESTL s2 ∧ KEEP RB s1 s2))
theorem CMD_bad {t : Nat → Int → Int} {r : Option ab_V} {h2 : List ab_E} {f : Int} (hf : (prs (t 22) (t 104 0) 5 0 0 (t 105 0) (t 106 0) (t 24)).1 = f) (hn : ¬ f = -1) (hp : CMP t r h2) : ∃ m, r = some (.inl (-100 - f)) ∧ h2 = WW m ∧ XI m ∧ KEEP [105, 106, 24] t m := by
  obtain ⟨v, sub2, kd2, nu2, e, hp⟩ := hp
  have ev : v = f := e.symm.trans hf
  subst ev
  rcases hp with ⟨-, q1, q2, q3⟩ | ⟨q, -⟩
  · exact ⟨_, q1, q2, q3, fun k hk => (ab_s_ne (fun q => hk (by rw [q]; decide))).trans ((ab_s_ne (fun q => hk (by rw [q]; decide))).trans (ab_s_ne (fun q => hk (by rw [q]; decide))))⟩
  · exact absurd q hn
theorem CMD_set {t : Nat → Int → Int} {r : Option ab_V} {h2 : List ab_E} {a v : Int} (ha : a = 0 ∨ a = 1 ∨ a = 2) (hs : ∃ kd nu, prs (t 22) (t 104 0) 5 0 0 (t 105 0) (t 106 0) (t 24) = (-1, a, kd, nu) ∧ nu 0 = v) (hp : CMP t r h2) : ∃ m, r = some (.inl (m 107 0)) ∧ h2 = WW m ∧ XI m ∧ (m 22 = t 22 ∧ m 104 = t 104) ∧ (a = 0 → m 100 0 = v) ∧ (a = 1 → m 101 0 = v) ∧ (a = 2 → m 102 0 = v) := by
  obtain ⟨kd, nu, hs, hv⟩ := hs
  obtain ⟨w, sub2, kd2, nu2, e, hp⟩ := hp
  rw [hs] at e hp
  have e : -1 = w := e
  subst e
  rcases hp with ⟨q, -⟩ | ⟨-, ⟨q1, q2, q3, q4⟩, s1, s2, q5, q6, q7, q8, q9, q10⟩
  · exact absurd rfl q
  · have q1 : a = sub2 0 := q1
    have q3 : nu = nu2 := q3
    subst q3
    refine ⟨s2, q6, q7, q8, ?_⟩
    rcases q5 with ⟨z1, z2⟩ | ⟨z1, z2⟩ | ⟨z1, z2⟩ | ⟨z1, z2⟩
    · have z1 : sub2 0 = 0 := z1
      subst z2
      exact ⟨⟨q10 22 (by decide), q10 104 (by decide)⟩, fun _ => (congrFun (q10 100 (by decide)) 0).trans hv, fun z => by omega, fun z => by omega⟩
    · have z1 : sub2 0 = 1 := z1
      subst z2
      exact ⟨⟨q10 22 (by decide), q10 104 (by decide)⟩, fun z => by omega, fun _ => (congrFun (q10 101 (by decide)) 0).trans hv, fun z => by omega⟩
    · have z1 : sub2 0 = 2 := z1
      subst z2
      exact ⟨⟨q10 22 (by decide), q10 104 (by decide)⟩, fun z => by omega, fun z => by omega, fun _ => (congrFun (q10 102 (by decide)) 0).trans hv⟩
    · have z1 : sub2 0 = 3 := z1
      omega
theorem CMD_sp {t : Nat → Int → Int} {r : Option ab_V} {h2 : List ab_E} {a b c : Int} (hs : ∃ nu, prs (t 22) (t 104 0) 5 0 0 (t 105 0) (t 106 0) (t 24) = (-1, 3, 0, nu) ∧ nu 0 = a ∧ nu 1 = b ∧ nu 2 = c) (hp : CMP t r h2) : ∃ m, r = some (.inl (m 107 0)) ∧ h2 = WW m ∧ XI m ∧ m 2 0 = a ∧ m 3 0 = b ∧ m 4 0 = c := by
  obtain ⟨nu, hs, hv1, hv2, hv3⟩ := hs
  obtain ⟨w, sub2, kd2, nu2, e, hp⟩ := hp
  rw [hs] at e hp
  have e : -1 = w := e
  subst e
  rcases hp with ⟨q, -⟩ | ⟨-, ⟨q1, q2, q3, q4⟩, s1, s2, q5, q6, q7, q8, q9, q10⟩
  · exact absurd rfl q
  · have q1 : 3 = sub2 0 := q1
    have q2 : 0 = kd2 0 := q2
    have q3 : nu = nu2 := q3
    subst q3
    refine ⟨s2, q6, q7, q8, ?_⟩
    rcases q5 with ⟨z1, z2⟩ | ⟨z1, z2⟩ | ⟨z1, z2⟩ | ⟨z1, z2⟩
    · have z1 : sub2 0 = 0 := z1
      omega
    · have z1 : sub2 0 = 1 := z1
      omega
    · have z1 : sub2 0 = 2 := z1
      omega
    · subst z2
      have g : ∀ (F : Int → Int) (u : Int), ab_u F (kd2 0) u 0 = u := fun F u => by
        rw [← q2]
        rfl
      have e2 := congrFun (q10 2 (by decide)) 0
      have e3 := congrFun (q10 3 (by decide)) 0
      have e4 := congrFun (q10 4 (by decide)) 0
      exact ⟨e2.trans ((g _ _).trans hv1), e3.trans ((g _ _).trans hv2), e4.trans ((g _ _).trans hv3)⟩
theorem TXL_of {m t : Nat → Int → Int} {cs : List Int} (h : TXL t cs) (e1 : m 22 = t 22) (e2 : m 104 = t 104) : TXL m cs := by
  unfold TXL
  rw [e1, e2]
  exact h
theorem TXL_as {m : Nat → Int → Int} {cs ds : List Int} (h : TXL m cs) (e : cs = ds) : TXL m ds := e ▸ h
