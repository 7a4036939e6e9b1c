/-! p23 MATHEMATICS 3: texts -/
theorem low_r {z n : Int} (h : 0 ≤ z) (hn : 0 < n) : 0 ≤ z - z.tdiv n * n ∧ z - z.tdiv n * n < n := by
  rw [Int.tdiv_eq_ediv_of_nonneg h, Int.mul_comm, ← Int.emod_def]
  exact ⟨Int.emod_nonneg _ (by omega), Int.emod_lt_of_pos _ hn⟩
/-- a sign that a word may have -/
def SGN (z : Int) : Prop := (0 ≤ z ∧ z < 65536) ∧ ¬ z = 32 ∧ ¬ sgW z = 0
theorem SGN_of {z : Int} (h : (97 ≤ z ∧ z ≤ 122) ∨ (65 ≤ z ∧ z ≤ 90) ∨ (48 ≤ z ∧ z ≤ 57) ∨ z = 46 ∨ z = 33 ∨ z = 63 ∨ z = 44 ∨ z = 59 ∨ z = 58 ∨ z = 45 ∨ z = 39 ∨ z = 34 ∨ z = 40 ∨ z = 41) : SGN z := by
  refine ⟨by omega, by omega, ?_⟩
  unfold sgW
  repeat' split
  all_goals omega
theorem KEEP_TYP (s : Nat → Int → Int) (z : Int) : KEEP [22, 104] s (TYP s z) := fun k hk => (ab_s_ne (fun q => hk (by rw [q]; decide))).trans (ab_s_ne (fun q => hk (by rw [q]; decide)))
theorem TYP_104 (s : Nat → Int → Int) (z : Int) : TYP s z 104 0 = s 104 0 + 1 := rfl
theorem TYP_22 (s : Nat → Int → Int) (z : Int) : TYP s z 22 = ab_u (s 22) (s 104 0) z := rfl
theorem tk_congr (d : Nat → Int → Int) {t t2 : Int → Int} : ∀ k : Nat, (∀ q, 0 ≤ q → q < (k : Int) → t q = t2 q) → tk d t k = tk d t2 k
  | 0, _ => rfl
  | k + 1, h => by
    show tkS (t k) (tk d t k) = tkS (t2 k) (tk d t2 k)
    rw [h k (by omega) (by omega), tk_congr d k (fun q a b => h q a (by omega))]
/-- what the law keeps while it types a paragraph -/
def RDI (d m : Nat → Int → Int) (k words blank : Int) : Prop := (0 ≤ k ∧ m 104 0 = k) ∧ (∀ q, 0 ≤ q → q < k → okc (m 22 q)) ∧ words = tk d (m 22) k.toNat 0 0 ∧ ((blank = 1 ∧ tk d (m 22) k.toNat 20 0 = 0) ∨ (blank = 0 ∧ ¬ tk d (m 22) k.toNat 20 0 = 0))
theorem RDI_0 {d m : Nat → Int → Int} (h : m 104 0 = 0) : RDI d m 0 0 1 := ⟨⟨Int.le_refl 0, h⟩, fun q a b => by omega, rfl, Or.inl ⟨rfl, rfl⟩⟩
theorem RDI_w {d m : Nat → Int → Int} {k words blank : Int} (h : RDI d m k words blank) : 0 ≤ words ∧ words ≤ k + 1 := by
  obtain ⟨⟨h1, h2⟩, -, h3, -⟩ := h
  have := tk_in d (m 22) k.toNat
  rw [h3]
  omega
section RD
variable {d m : Nat → Int → Int} {k words : Int}
theorem RD_t {z : Int} (hm : m 104 0 = k) (h0 : 0 ≤ k) : tk d (TYP m z 22) (k + 1).toNat = tkS z (tk d (m 22) k.toNat) := by
  rw [tk_S d _ h0, TYP_22, hm, ab_u_eq, tk_congr d (t2 := m 22) k.toNat (fun q a b => ab_u_ne (by omega))]
theorem RD_ok {blank z : Int} (h : RDI d m k words blank) (hz : okc z) : ∀ q, 0 ≤ q → q < k + 1 → okc (TYP m z 22 q) := fun q a b => by
  rw [TYP_22, h.1.2]
  by_cases e : q = k
  · rw [e, ab_u_eq]
    exact hz
  · rw [ab_u_ne e]
    exact h.2.1 q a (by omega)
theorem RD_b {blank : Int} (h : RDI d m k words blank) : RDI d (TYP m 32) (k + 1) words 1 := by
  have h1 := h.1
  refine ⟨⟨by omega, by rw [TYP_104]; omega⟩, RD_ok h (Or.inl rfl), ?_, Or.inl ⟨rfl, ?_⟩⟩
  · rw [RD_t h1.2 h1.1, tkS_b rfl]
    exact h.2.2.1
  · rw [RD_t h1.2 h1.1, tkS_b rfl]
    rfl
theorem RD_1 {z : Int} (h : RDI d m k words 1) (hz : SGN z) : RDI d (TYP m z) (k + 1) (words + 1) 0 := by
  have h1 := h.1
  have h2 := (h.2.2.2.resolve_right (fun q => absurd q.1 (by decide))).2
  refine ⟨⟨by omega, by rw [TYP_104]; omega⟩, RD_ok h (Or.inr hz.2.2), ?_, Or.inr ⟨rfl, ?_⟩⟩
  · rw [RD_t h1.2 h1.1, tkS_o hz.2.1 h2, h.2.2.1]
    rfl
  · rw [RD_t h1.2 h1.1, tkS_o hz.2.1 h2]
    exact (by decide : ¬ (1 : Int) = 0)
theorem RD_l {z : Int} (h : RDI d m k words 0) (hz : SGN z) : RDI d (TYP m z) (k + 1) (words + 0) 0 := by
  have h1 := h.1
  have h2 := (h.2.2.2.resolve_left (fun q => absurd q.1 (by decide))).2
  refine ⟨⟨by omega, by rw [TYP_104]; omega⟩, RD_ok h (Or.inr hz.2.2), ?_, Or.inr ⟨rfl, ?_⟩⟩
  · rw [RD_t h1.2 h1.1, tkS_l hz.2.1 h2, h.2.2.1, Int.add_zero]
    rfl
  · rw [RD_t h1.2 h1.1, tkS_l hz.2.1 h2]
    exact (by decide : ¬ (1 : Int) = 0)
end RD
theorem TKM_103 (s : Nat → Int → Int) : TKM s 103 0 = tk (vX s) (s 22) (s 104 0).toNat 0 0 := rfl
/-- the paragraph is taken -/
theorem RD_read {s m : Nat → Int → Int} {k words blank : Int} {r : Option ab_V} {h2 : List ab_E} (hk : vX m = vX s) (h : RDI (vX s) m k words blank) (hp : ∃ v, FLT (m 22) (m 104 0) v ∧ ((¬ v = -1 ∧ RO m (-100 - v) r h2) ∨ (v = -1 ∧ UPD (TKM m) (TKM m 103 0) r h2))) :
    ∃ m2, r = some (.inl words) ∧ h2 = WW m2 ∧ XI m2 ∧ m2 103 0 = words ∧ m2 104 0 = k ∧ ∀ q, 0 ≤ q → q < k → okc (m2 22 q) := by
  obtain ⟨v, hf, hp⟩ := hp
  obtain ⟨⟨h0, h1⟩, h3, h4, -⟩ := h
  have e : v = -1 := by
    rcases hf with q | q
    · exact q.1
    · exact absurd (h3 v q.1 (by omega)) q.2.2.1
  rcases hp with ⟨q, -⟩ | ⟨-, m2, q1, q2, q3, q4, q5⟩
  · exact absurd e q
  · have e1 : TKM m 103 0 = words := by rw [TKM_103, hk, h1, h4]
    have e2 : m2 103 = TKM m 103 := q5 103 (by decide)
    have e3 : m2 104 = m 104 := q5 104 (by decide)
    have e4 : m2 22 = m 22 := q5 22 (by decide)
    refine ⟨m2, by rw [q1, e1], q2, q3, by rw [e2, e1], by rw [e3, h1], fun q a b => by rw [e4]; exact h3 q a b⟩
/-- a fault at the end -/
theorem RD_bad {m : Nat → Int → Int} {k : Int} {r : Option ab_V} {h2 : List ab_E} (h0 : 0 ≤ k) (h1 : m 104 0 = k) (h3 : ∀ q, 0 ≤ q → q < k → okc (m 22 q)) (hp : ∃ v, FLT (TYP m 42 22) (TYP m 42 104 0) v ∧ ((¬ v = -1 ∧ RO (TYP m 42) (-100 - v) r h2) ∨ (v = -1 ∧ UPD (TKM (TYP m 42)) (TKM (TYP m 42) 103 0) r h2))) : r = some (.inl (-100 - k)) ∧ h2 = WW (TYP m 42) := by
  obtain ⟨v, hf, hp⟩ := hp
  have a1 : ∀ q, 0 ≤ q → q < k → okc (TYP m 42 22 q) := fun q a b => by
    rw [TYP_22, ab_u_ne (by omega)]
    exact h3 q a b
  have a2 : ¬ okc (TYP m 42 22 k) := by
    rw [TYP_22, h1, ab_u_eq]
    rintro (z | z)
    · omega
    · exact z rfl
  have a3 : TYP m 42 104 0 = k + 1 := by rw [TYP_104, h1]
  have e : v = k := by
    rcases hf with ⟨-, q⟩ | ⟨q1, q2, q3, q4⟩
    · exact absurd (q k h0 (by omega)) a2
    · rcases Int.lt_trichotomy v k with z | z | z
      · exact absurd (a1 v q1 z) q3
      · exact z
      · exact absurd (q4 k h0 z) a2
  subst e
  rcases hp with ⟨-, q1, q2⟩ | ⟨q, -⟩
  · exact ⟨q1, q2⟩
  · omega
/-- a text of known signs, from a place on -/
def SEG (t : Int → Int) : Int → List Int → Prop
  | _, [] => True
  | p, c :: l => t p = c ∧ SEG t (p + 1) l
theorem SEG_app {t : Int → Int} : ∀ (l : List Int) (p : Int) (l2 : List Int), SEG t p (l ++ l2) ↔ SEG t p l ∧ SEG t (p + l.length) l2
  | [], p, l2 => by
    show SEG t p l2 ↔ True ∧ SEG t (p + ((0 : Nat) : Int)) l2
    rw [show p + ((0 : Nat) : Int) = p by omega, true_and]
  | c :: l, p, l2 => by
    show (t p = c ∧ SEG t (p + 1) (l ++ l2)) ↔ (t p = c ∧ SEG t (p + 1) l) ∧ SEG t (p + ((l.length + 1 : Nat) : Int)) l2
    rw [SEG_app l (p + 1) l2, show p + 1 + (l.length : Int) = p + ((l.length + 1 : Nat) : Int) by omega, and_assoc]
theorem SEG_congr {t t2 : Int → Int} : ∀ (l : List Int) (p : Int), (∀ q, p ≤ q → q < p + l.length → t q = t2 q) → SEG t p l → SEG t2 p l
  | [], _, _, _ => trivial
  | c :: l, p, h, ⟨a, b⟩ => by
    have e : ((c :: l).length : Int) = (l.length : Int) + 1 := by
      rw [List.length_cons]
      omega
    exact ⟨by rw [← h p (Int.le_refl p) (by omega)]; exact a, SEG_congr l (p + 1) (fun q x y => h q (by omega) (by omega)) b⟩
theorem SEG_all {t : Int → Int} {P : Int → Prop} : ∀ (l : List Int) (p : Int), SEG t p l → (∀ c ∈ l, P c) → ∀ q, p ≤ q → q < p + l.length → P (t q)
  | [], p, _, _, q, h1, h2 => by
    have h2 : q < p + ((0 : Nat) : Int) := h2
    omega
  | c :: l, p, ⟨a, b⟩, hP, q, h1, h2 => by
    have e : ((c :: l).length : Int) = (l.length : Int) + 1 := by
      rw [List.length_cons]
      omega
    by_cases z : q = p
    · rw [z, a]
      exact hP c List.mem_cons_self
    · exact SEG_all l (p + 1) b (fun x hx => hP x (List.mem_cons_of_mem _ hx)) q (by omega) (by omega)
def TXL (m : Nat → Int → Int) (cs : List Int) : Prop := m 104 0 = cs.length ∧ SEG (m 22) 0 cs
theorem TXL_0 {m : Nat → Int → Int} (h : m 104 0 = 0) : TXL m [] := ⟨h, trivial⟩
/-- a sign is typed -/
theorem ty_ok {m : Nat → Int → Int} {cs : List Int} {z : Int} {r : Option ab_V} {h : List ab_E} (ht : TXL m cs) (hl : cs.length < 120) (hp : (¬ m 104 0 < 120 ∧ RO m (-1003) r h) ∨ (m 104 0 < 120 ∧ r = some (.inl (m 104 0 + 1)) ∧ h = WW (TYP m z) ∧ XI (TYP m z))) :
    ∃ t v, r = some (.inl v) ∧ h = WW t ∧ XI t ∧ KEEP [22, 104] m t ∧ TXL t (cs ++ [z]) := by
  obtain ⟨h1, h2⟩ := ht
  rcases hp with ⟨q, -⟩ | ⟨-, q1, q2, q3⟩
  · omega
  · refine ⟨_, _, q1, q2, q3, KEEP_TYP m z, ?_, ?_⟩
    · rw [TYP_104, h1, List.length_append]
      rfl
    · rw [SEG_app, TYP_22]
      refine ⟨SEG_congr _ _ (fun q a b => (ab_u_ne (by omega)).symm) h2, ?_, trivial⟩
      rw [h1, Int.zero_add, ab_u_eq]
/-- the digits of a number -/
def DG (v : Int) (ds : List Int) : Prop := (∃ a b c : Int, ds = [a, b, c] ∧ (48 ≤ a ∧ a ≤ 57) ∧ (48 ≤ b ∧ b ≤ 57) ∧ (48 ≤ c ∧ c ≤ 57) ∧ v = (a - 48) * 100 + (b - 48) * 10 + (c - 48) ∧ 99 < v) ∨ (∃ b c : Int, ds = [b, c] ∧ (48 ≤ b ∧ b ≤ 57) ∧ (48 ≤ c ∧ c ≤ 57) ∧ v = (b - 48) * 10 + (c - 48) ∧ 9 < v ∧ v ≤ 99) ∨ (∃ c : Int, ds = [c] ∧ (48 ≤ c ∧ c ≤ 57) ∧ v = c - 48 ∧ v ≤ 9)
def wrd (w : Int) : List Int := if w = 0 then [109, 101, 97, 115, 117, 114, 101] else if w = 1 then [104, 97, 110, 103] else if w = 2 then [114, 105, 118, 101, 114] else [115, 112, 97, 99, 101]
