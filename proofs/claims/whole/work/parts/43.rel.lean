/-! the law: class and reference hold the same -/
def XKl : List Nat := [103, 6, 7, 8, 9, 10, 100, 101, 102, 2, 3, 4, 12, 13, 14, 15, 16, 17, 19, 20, 26, 107, 108, 109, 110, 111, 30, 27, 28, 29, 33, 35, 34, 32, 36, 42, 44, 104, 22]
def MKl : List Nat := [120, 50, 51, 52, 53, 54, 55, 117, 118, 119, 57, 58, 125, 59, 60, 61, 62, 63, 121, 56]
theorem vX_of {s m : Nat → Int → Int} (q : ∀ k, k ∈ XKl → m k = s k) : vX m = vX s := by
  funext k
  unfold vX
  rw [q 103 (by decide), q 6 (by decide), q 7 (by decide), q 8 (by decide), q 9 (by decide), q 10 (by decide), q 100 (by decide), q 101 (by decide), q 102 (by decide), q 2 (by decide), q 3 (by decide), q 4 (by decide)]
theorem vM_of {s m : Nat → Int → Int} (q : ∀ k, k ∈ MKl → m k = s k) : vM m = vM s := by
  funext k
  unfold vM
  rw [q 120 (by decide), q 50 (by decide), q 51 (by decide), q 52 (by decide), q 53 (by decide), q 54 (by decide), q 55 (by decide), q 117 (by decide), q 118 (by decide), q 119 (by decide)]
theorem XI_of {s m : Nat → Int → Int} (q : ∀ k, k ∈ XKl → m k = s k) (h : XI s) : XI m := by
  unfold XI RU at h ⊢
  rw [vX_of q, q 12 (by decide), q 13 (by decide), q 14 (by decide), q 15 (by decide), q 16 (by decide), q 17 (by decide), q 103 (by decide), q 19 (by decide), q 20 (by decide), q 26 (by decide), q 107 (by decide), q 108 (by decide), q 109 (by decide), q 110 (by decide), q 111 (by decide), q 30 (by decide), q 27 (by decide), q 28 (by decide), q 29 (by decide), q 33 (by decide), q 35 (by decide), q 34 (by decide), q 32 (by decide), q 36 (by decide), q 42 (by decide), q 44 (by decide), q 104 (by decide), q 22 (by decide)]
  exact h
theorem MI_of {s m : Nat → Int → Int} (q : ∀ k, k ∈ MKl → m k = s k) (h : MI s) : MI m := by
  unfold MI at h ⊢
  rw [vM_of q, q 57 (by decide), q 58 (by decide), q 59 (by decide), q 125 (by decide), q 61 (by decide), q 63 (by decide), q 60 (by decide), q 62 (by decide), q 120 (by decide), q 121 (by decide), q 56 (by decide)]
  exact h
theorem BESTL_of {s m : Nat → Int → Int} (q : ∀ k, k ∈ XKl → m k = s k) (h : BESTL s) : BESTL m := by
  unfold BESTL at h ⊢
  rw [q 103 (by decide), q 19 (by decide), q 107 (by decide), q 26 (by decide), q 20 (by decide)]
  exact h
def REL (s : Nat → Int → Int) : Prop := XI s ∧ MI s ∧ vX s = vM s ∧ (s 22 = s 56 ∧ s 104 0 = s 121 0) ∧ s 107 0 = s 125 0 ∧ (0 < s 107 0 → ∀ j, 0 ≤ j → j ≤ s 107 0 → s 26 j = s 59 j)
theorem V_ext {s t : Nat → Int → Int} (h0 : s 103 0 = t 120 0) (h1 : s 6 = t 51) (h2 : s 7 = t 52) (h3 : s 8 = t 53) (h4 : s 9 = t 54) (h5 : s 10 = t 55) (h6 : s 100 0 = t 117 0) (h7 : s 101 0 = t 118 0) (h8 : s 102 0 = t 119 0) (h9 : s 2 = fun k => t 50 (3 * k)) (h10 : s 3 = fun k => t 50 (3 * k + 1)) (h11 : s 4 = fun k => t 50 (3 * k + 2)) : vX s = vM t := by
  funext k
  rcases (show k = 0 ∨ k = 1 ∨ k = 2 ∨ k = 3 ∨ k = 4 ∨ k = 5 ∨ k = 6 ∨ k = 7 ∨ k = 8 ∨ k = 9 ∨ k = 10 ∨ 11 ≤ k by omega) with rfl | rfl | rfl | rfl | rfl | rfl | rfl | rfl | rfl | rfl | rfl | h
  · funext _
    exact h0
  · exact h1
  · exact h2
  · exact h3
  · exact h4
  · exact h5
  · funext _
    exact h6
  · funext _
    exact h7
  · funext _
    exact h8
  · exact h9
  · exact h10
  · by_cases e : k = 11
    · subst e
      exact h11
    · rw [vX_12 (by omega), vM_12 (by omega)]
      exact h11
theorem V_of {s t : Nat → Int → Int} (h : vX s = vM t) : (s 103 0 = t 120 0 ∧ s 6 = t 51 ∧ s 7 = t 52 ∧ s 8 = t 53 ∧ s 9 = t 54 ∧ s 10 = t 55) ∧ (s 100 0 = t 117 0 ∧ s 101 0 = t 118 0 ∧ s 102 0 = t 119 0) ∧ s 2 = (fun k => t 50 (3 * k)) ∧ s 3 = (fun k => t 50 (3 * k + 1)) ∧ s 4 = fun k => t 50 (3 * k + 2) :=
  ⟨⟨congrFun (congrFun h 0) 0, congrFun h 1, congrFun h 2, congrFun h 3, congrFun h 4, congrFun h 5⟩, ⟨congrFun (congrFun h 6) 0, congrFun (congrFun h 7) 0, congrFun (congrFun h 8) 0⟩, congrFun h 9, congrFun h 10, congrFun h 11⟩
/-- the best ways of both -/
theorem BW_X {s : Nat → Int → Int} (h : XI s) : BW (vX s) (s 19) (s 20) := BWp_BW h.2.2.1
theorem BW_M {s : Nat → Int → Int} (h : MI s) (hv : vX s = vM s) : BW (vX s) (s 57) (s 58) := by
  rw [hv]
  exact BWq_BW h.2.1
theorem way_X {s : Nat → Int → Int} (h : XI s) : (0 < s 103 0 ∧ ¬ s 19 0 = -1) ↔ (0 < s 103 0 ∧ 0 ≤ s 19 0) := by
  have b := BWp_BS h.1 h.2.2.1 0 (Int.le_refl 0) h.1.1.1
  constructor <;> rintro ⟨a, c⟩ <;> exact ⟨a, by omega⟩
theorem BEST_REL {t : Nat → Int → Int} (hx : XI t) (hm : MI t) (hb : BESTL t) (hc : MBEST t) (hv : vX t = vM t) : t 107 0 = t 125 0 ∧ (0 < t 107 0 → ∀ j, 0 ≤ j → j ≤ t 107 0 → t 26 j = t 59 j) := by
  have b1 := BW_X hx
  have b2 := BW_M hm hv
  have n0 : t 103 0 = t 120 0 := (V_of hv).1.1
  have hp : 0 ≤ t 103 0 ∧ t 103 0 ≤ 60 := hx.1.1
  have e0 : t 19 0 = t 57 0 := BW_bs b1 b2 0 (Int.le_refl 0) hp.1
  have w := way_X hx
  have i1 := hx.2.2.2.2.2.1
  have i2 := hm.2.2.2.2.1
  by_cases q : 0 < t 103 0 ∧ ¬ t 19 0 = -1
  · obtain ⟨f1, g1⟩ := hb q
    obtain ⟨f2, g2⟩ := hc (by have := w.mp q; omega)
    have q2 := w.mp q
    rw [← n0] at g2
    have g := go_rel b1 b2 (t 103 0 - 0).toNat 0 0 f1 f2 (Int.le_refl 0) (Int.le_refl 0) hp.1 q2.2 (fun j a b => by omega)
    have g : (go (t 20) (t 103 0) (t 103 0 - 0).toNat 0 0 f1).1 = (go (t 58) (t 103 0) (t 103 0 - 0).toNat 0 0 f2).1 ∧ ∀ j, 0 ≤ j → j ≤ (go (t 20) (t 103 0) (t 103 0 - 0).toNat 0 0 f1).1 → (go (t 20) (t 103 0) (t 103 0 - 0).toNat 0 0 f1).2 j = (go (t 58) (t 103 0) (t 103 0 - 0).toNat 0 0 f2).2 j := g
    rw [← g1, ← g2] at g
    exact ⟨g.1, fun _ => g.2⟩
  · have a1 : t 107 0 = 0 := i1.mpr q
    have a2 : t 125 0 = 0 := i2.mpr (fun z => q (w.mpr (by omega)))
    exact ⟨by omega, fun z => by omega⟩
theorem KEEP_M {L : List Nat} {s m : Nat → Int → Int} (h : KEEP L s m) (hL : ∀ k, k ∈ MKl → k ∉ L) : ∀ k, k ∈ MKl → m k = s k := fun k hk => h k (hL k hk)
theorem KEEP_X {L : List Nat} {s m : Nat → Int → Int} (h : KEEP L s m) (hL : ∀ k, k ∈ XKl → k ∉ L) : ∀ k, k ∈ XKl → m k = s k := fun k hk => h k (hL k hk)
/-- an update on both sides: s1, t1 the memories with the change alone -/
theorem UPD_REL {s1 m t1 t2 : Nat → Int → Int} (hx : XI m) (hb : BESTL m) (k1 : KEEP RB s1 m) (ht : ∀ k, k ∈ XKl → t1 k = m k) (hm : MI t2) (hc : MBEST t2) (k2 : KEEP MBk t1 t2) (hv : vX s1 = vM t1) (htx : s1 22 = t1 56 ∧ s1 104 0 = t1 121 0) : REL t2 := by
  have q : ∀ k, k ∈ XKl → t2 k = m k := fun k hk => (k2 k ((by decide : ∀ k, k ∈ XKl → k ∉ MBk) k hk)).trans (ht k hk)
  have hx2 := XI_of q hx
  have hv2 : vX t2 = vM t2 := by
    rw [vX_of q, KEEP_vX k1 (by decide), hv, KEEP_vM k2 (by decide)]
  refine ⟨hx2, hm, hv2, ⟨?_, ?_⟩, BEST_REL hx2 hm (BESTL_of q hb) hc hv2⟩
  · rw [q 22 (by decide), k1 22 (by decide), htx.1, k2 56 (by decide)]
  · rw [q 104 (by decide), k1 104 (by decide), htx.2, k2 121 (by decide)]

def CU (s s1 m : Nat → Int → Int) (w v : Int) : Prop := v = w ∧ XI m ∧ BESTL m ∧ KEEP RB s1 m ∧ ∀ k, k ∈ MKl → m k = s k

def C_setMeasure (s m : Nat → Int → Int) (z v : Int) : Prop := (¬ (10 ≤ z ∧ z ≤ 200) ∧ v = -1002 ∧ m = s) ∨ ((10 ≤ z ∧ z ≤ 200) ∧ CU s (ab_s s 100 (fun _ => z)) m (s 100 0) v)
theorem cx_setMeasure {s : Nat → Int → Int} {z : Int} {r : Option ab_V} {h : List ab_E} (hr : REL s) (hp : (¬ (10 ≤ z ∧ z ≤ 200) ∧ RO s (-1002) r h) ∨ ((10 ≤ z ∧ z ≤ 200) ∧ UPD (ab_s s 100 (fun _ => z)) (s 100 0) r h)) : ∃ v m, r = some (.inl v) ∧ h = WW m ∧ MI m ∧ C_setMeasure s m z v := by
  rcases hp with ⟨a, rfl, rfl⟩ | ⟨a, m, rfl, rfl, b, c, e⟩
  · exact ⟨_, s, rfl, rfl, hr.2.1, Or.inl ⟨a, rfl, rfl⟩⟩
  · have q : ∀ k, k ∈ MKl → m k = s k := fun k hk => (e k ((by decide : ∀ k, k ∈ MKl → k ∉ RB) k hk)).trans (ab_s_ne ((by decide : ∀ k, k ∈ MKl → k ≠ 100) k hk))
    exact ⟨_, m, rfl, rfl, MI_of q hr.2.1, Or.inr ⟨a, rfl, b, c, e, q⟩⟩
theorem cy_setMeasure {s m : Nat → Int → Int} {z v : Int} {r : Option ab_V} {h : List ab_E} (hr : REL s) (hc : C_setMeasure s m z v) (hp : (¬ (10 ≤ z ∧ z ≤ 200) ∧ RO m (-1002) r h) ∨ ((10 ≤ z ∧ z ≤ 200) ∧ UPDM (ab_s m 117 (fun _ => z)) (m 117 0) r h)) : ∃ t, r = some (.inl v) ∧ h = WW t ∧ REL t := by
  rcases hc with ⟨a, rfl, rfl⟩ | ⟨a, rfl, x1, x2, x3, x4⟩
  · rcases hp with ⟨b, rfl, rfl⟩ | ⟨b, c⟩
    · exact ⟨m, rfl, rfl, hr⟩
    · exact absurd b a
  · rcases hp with ⟨b, c⟩ | ⟨b, t, rfl, rfl, y1, y2, y3⟩
    · exact absurd a b
    · obtain ⟨⟨e0, e1, e2, e3, e4, e5⟩, ⟨e6, e7, e8⟩, e9, e10, e11⟩ := V_of hr.2.2.1
      refine ⟨t, ?_, rfl, UPD_REL x1 x2 x3 (fun k hk => ab_s_ne ((by decide : ∀ k, k ∈ XKl → k ≠ 117) k hk)) y1 y2 y3 ?_ ?_⟩
      · rw [show m 117 = s 117 from x4 117 (by decide), e6]
      · rw [← x4 120 (by decide)] at e0
        rw [← x4 51 (by decide)] at e1
        rw [← x4 52 (by decide)] at e2
        rw [← x4 53 (by decide)] at e3
        rw [← x4 54 (by decide)] at e4
        rw [← x4 55 (by decide)] at e5
        rw [← x4 117 (by decide)] at e6
        rw [← x4 118 (by decide)] at e7
        rw [← x4 119 (by decide)] at e8
        rw [← x4 50 (by decide)] at e9 e10 e11
        exact V_ext e0 e1 e2 e3 e4 e5 rfl e7 e8 e9 e10 e11
      · show s 22 = m 56 ∧ s 104 0 = m 121 0
        rw [x4 56 (by decide), x4 121 (by decide)]
        exact hr.2.2.2.1

def C_setHang (s m : Nat → Int → Int) (z v : Int) : Prop := (¬ (0 ≤ z ∧ z ≤ 100) ∧ v = -1002 ∧ m = s) ∨ ((0 ≤ z ∧ z ≤ 100) ∧ CU s (ab_s s 101 (fun _ => z)) m (s 101 0) v)
theorem cx_setHang {s : Nat → Int → Int} {z : Int} {r : Option ab_V} {h : List ab_E} (hr : REL s) (hp : (¬ (0 ≤ z ∧ z ≤ 100) ∧ RO s (-1002) r h) ∨ ((0 ≤ z ∧ z ≤ 100) ∧ UPD (ab_s s 101 (fun _ => z)) (s 101 0) r h)) : ∃ v m, r = some (.inl v) ∧ h = WW m ∧ MI m ∧ C_setHang s m z v := by
  rcases hp with ⟨a, rfl, rfl⟩ | ⟨a, m, rfl, rfl, b, c, e⟩
  · exact ⟨_, s, rfl, rfl, hr.2.1, Or.inl ⟨a, rfl, rfl⟩⟩
  · have q : ∀ k, k ∈ MKl → m k = s k := fun k hk => (e k ((by decide : ∀ k, k ∈ MKl → k ∉ RB) k hk)).trans (ab_s_ne ((by decide : ∀ k, k ∈ MKl → k ≠ 101) k hk))
    exact ⟨_, m, rfl, rfl, MI_of q hr.2.1, Or.inr ⟨a, rfl, b, c, e, q⟩⟩
theorem cy_setHang {s m : Nat → Int → Int} {z v : Int} {r : Option ab_V} {h : List ab_E} (hr : REL s) (hc : C_setHang s m z v) (hp : (¬ (0 ≤ z ∧ z ≤ 100) ∧ RO m (-1002) r h) ∨ ((0 ≤ z ∧ z ≤ 100) ∧ UPDM (ab_s m 118 (fun _ => z)) (m 118 0) r h)) : ∃ t, r = some (.inl v) ∧ h = WW t ∧ REL t := by
  rcases hc with ⟨a, rfl, rfl⟩ | ⟨a, rfl, x1, x2, x3, x4⟩
  · rcases hp with ⟨b, rfl, rfl⟩ | ⟨b, c⟩
    · exact ⟨m, rfl, rfl, hr⟩
    · exact absurd b a
  · rcases hp with ⟨b, c⟩ | ⟨b, t, rfl, rfl, y1, y2, y3⟩
    · exact absurd a b
    · obtain ⟨⟨e0, e1, e2, e3, e4, e5⟩, ⟨e6, e7, e8⟩, e9, e10, e11⟩ := V_of hr.2.2.1
      refine ⟨t, ?_, rfl, UPD_REL x1 x2 x3 (fun k hk => ab_s_ne ((by decide : ∀ k, k ∈ XKl → k ≠ 118) k hk)) y1 y2 y3 ?_ ?_⟩
      · rw [show m 118 = s 118 from x4 118 (by decide), e7]
      · rw [← x4 120 (by decide)] at e0
        rw [← x4 51 (by decide)] at e1
        rw [← x4 52 (by decide)] at e2
        rw [← x4 53 (by decide)] at e3
        rw [← x4 54 (by decide)] at e4
        rw [← x4 55 (by decide)] at e5
        rw [← x4 117 (by decide)] at e6
        rw [← x4 118 (by decide)] at e7
        rw [← x4 119 (by decide)] at e8
        rw [← x4 50 (by decide)] at e9 e10 e11
        exact V_ext e0 e1 e2 e3 e4 e5 e6 rfl e8 e9 e10 e11
      · show s 22 = m 56 ∧ s 104 0 = m 121 0
        rw [x4 56 (by decide), x4 121 (by decide)]
        exact hr.2.2.2.1

def C_setTolerance (s m : Nat → Int → Int) (z v : Int) : Prop := (¬ (0 ≤ z ∧ z ≤ 20) ∧ v = -1002 ∧ m = s) ∨ ((0 ≤ z ∧ z ≤ 20) ∧ CU s (ab_s s 102 (fun _ => z)) m (s 102 0) v)
theorem cx_setTolerance {s : Nat → Int → Int} {z : Int} {r : Option ab_V} {h : List ab_E} (hr : REL s) (hp : (¬ (0 ≤ z ∧ z ≤ 20) ∧ RO s (-1002) r h) ∨ ((0 ≤ z ∧ z ≤ 20) ∧ UPD (ab_s s 102 (fun _ => z)) (s 102 0) r h)) : ∃ v m, r = some (.inl v) ∧ h = WW m ∧ MI m ∧ C_setTolerance s m z v := by
  rcases hp with ⟨a, rfl, rfl⟩ | ⟨a, m, rfl, rfl, b, c, e⟩
  · exact ⟨_, s, rfl, rfl, hr.2.1, Or.inl ⟨a, rfl, rfl⟩⟩
  · have q : ∀ k, k ∈ MKl → m k = s k := fun k hk => (e k ((by decide : ∀ k, k ∈ MKl → k ∉ RB) k hk)).trans (ab_s_ne ((by decide : ∀ k, k ∈ MKl → k ≠ 102) k hk))
    exact ⟨_, m, rfl, rfl, MI_of q hr.2.1, Or.inr ⟨a, rfl, b, c, e, q⟩⟩
theorem cy_setTolerance {s m : Nat → Int → Int} {z v : Int} {r : Option ab_V} {h : List ab_E} (hr : REL s) (hc : C_setTolerance s m z v) (hp : (¬ (0 ≤ z ∧ z ≤ 20) ∧ RO m (-1002) r h) ∨ ((0 ≤ z ∧ z ≤ 20) ∧ UPDM (ab_s m 119 (fun _ => z)) (m 119 0) r h)) : ∃ t, r = some (.inl v) ∧ h = WW t ∧ REL t := by
  rcases hc with ⟨a, rfl, rfl⟩ | ⟨a, rfl, x1, x2, x3, x4⟩
  · rcases hp with ⟨b, rfl, rfl⟩ | ⟨b, c⟩
    · exact ⟨m, rfl, rfl, hr⟩
    · exact absurd b a
  · rcases hp with ⟨b, c⟩ | ⟨b, t, rfl, rfl, y1, y2, y3⟩
    · exact absurd a b
    · obtain ⟨⟨e0, e1, e2, e3, e4, e5⟩, ⟨e6, e7, e8⟩, e9, e10, e11⟩ := V_of hr.2.2.1
      refine ⟨t, ?_, rfl, UPD_REL x1 x2 x3 (fun k hk => ab_s_ne ((by decide : ∀ k, k ∈ XKl → k ≠ 119) k hk)) y1 y2 y3 ?_ ?_⟩
      · rw [show m 119 = s 119 from x4 119 (by decide), e8]
      · rw [← x4 120 (by decide)] at e0
        rw [← x4 51 (by decide)] at e1
        rw [← x4 52 (by decide)] at e2
        rw [← x4 53 (by decide)] at e3
        rw [← x4 54 (by decide)] at e4
        rw [← x4 55 (by decide)] at e5
        rw [← x4 117 (by decide)] at e6
        rw [← x4 118 (by decide)] at e7
        rw [← x4 119 (by decide)] at e8
        rw [← x4 50 (by decide)] at e9 e10 e11
        exact V_ext e0 e1 e2 e3 e4 e5 e6 e7 rfl e9 e10 e11
      · show s 22 = m 56 ∧ s 104 0 = m 121 0
        rw [x4 56 (by decide), x4 121 (by decide)]
        exact hr.2.2.2.1

theorem tab3 {f g0 : Int → Int} {k a b e : Int} (h : f = fun j => g0 (3 * j)) : ab_u f k a = fun j => ab_u (ab_u (ab_u g0 (3 * k) a) (3 * k + 1) b) (3 * k + 2) e (3 * j) := by
  funext j
  rw [ab_u_ne (show ¬ 3 * j = 3 * k + 2 by omega), ab_u_ne (show ¬ 3 * j = 3 * k + 1 by omega)]
  by_cases q : j = k
  · rw [q, ab_u_eq, ab_u_eq]
  · rw [ab_u_ne q, ab_u_ne (show ¬ 3 * j = 3 * k by omega), h]
theorem tab4 {f g0 : Int → Int} {k a b e : Int} (h : f = fun j => g0 (3 * j + 1)) : ab_u f k b = fun j => ab_u (ab_u (ab_u g0 (3 * k) a) (3 * k + 1) b) (3 * k + 2) e (3 * j + 1) := by
  funext j
  rw [ab_u_ne (show ¬ 3 * j + 1 = 3 * k + 2 by omega)]
  by_cases q : j = k
  · rw [q, ab_u_eq, ab_u_eq]
  · rw [ab_u_ne q, ab_u_ne (show ¬ 3 * j + 1 = 3 * k + 1 by omega), ab_u_ne (show ¬ 3 * j + 1 = 3 * k by omega), h]
theorem tab5 {f g0 : Int → Int} {k a b e : Int} (h : f = fun j => g0 (3 * j + 2)) : ab_u f k e = fun j => ab_u (ab_u (ab_u g0 (3 * k) a) (3 * k + 1) b) (3 * k + 2) e (3 * j + 2) := by
  funext j
  by_cases q : j = k
  · rw [q, ab_u_eq, ab_u_eq]
  · rw [ab_u_ne q, ab_u_ne (show ¬ 3 * j + 2 = 3 * k + 2 by omega), ab_u_ne (show ¬ 3 * j + 2 = 3 * k + 1 by omega), ab_u_ne (show ¬ 3 * j + 2 = 3 * k by omega), h]
def C_setSpace (s m : Nat → Int → Int) (k a b e v : Int) : Prop := (¬ (0 ≤ k ∧ k < 3) ∧ v = -1001 ∧ m = s) ∨ ((0 ≤ k ∧ k < 3) ∧ ¬ (1 ≤ a ∧ a ≤ b ∧ b ≤ e ∧ e ≤ 40) ∧ v = -1002 ∧ m = s) ∨ ((0 ≤ k ∧ k < 3) ∧ (1 ≤ a ∧ a ≤ b ∧ b ≤ e ∧ e ≤ 40) ∧ CU s (ab_s (ab_s (ab_s s 2 (ab_u (s 2) k a)) 3 (ab_u (s 3) k b)) 4 (ab_u (s 4) k e)) m (s 3 k) v)
theorem cx_setSpace {s : Nat → Int → Int} {k a b e : Int} {r : Option ab_V} {h : List ab_E} (hr : REL s) (hp : (¬ (0 ≤ k ∧ k < 3) ∧ RO s (-1001) r h) ∨ ((0 ≤ k ∧ k < 3) ∧ ¬ (1 ≤ a ∧ a ≤ b ∧ b ≤ e ∧ e ≤ 40) ∧ RO s (-1002) r h) ∨ ((0 ≤ k ∧ k < 3) ∧ (1 ≤ a ∧ a ≤ b ∧ b ≤ e ∧ e ≤ 40) ∧ UPD (ab_s (ab_s (ab_s s 2 (ab_u (s 2) k a)) 3 (ab_u (s 3) k b)) 4 (ab_u (s 4) k e)) (s 3 k) r h)) : ∃ v m, r = some (.inl v) ∧ h = WW m ∧ MI m ∧ C_setSpace s m k a b e v := by
  rcases hp with ⟨x, rfl, rfl⟩ | ⟨x, x2, rfl, rfl⟩ | ⟨x, x2, m, rfl, rfl, y1, y2, y3⟩
  · exact ⟨_, s, rfl, rfl, hr.2.1, Or.inl ⟨x, rfl, rfl⟩⟩
  · exact ⟨_, s, rfl, rfl, hr.2.1, Or.inr (Or.inl ⟨x, x2, rfl, rfl⟩)⟩
  · have q : ∀ k, k ∈ MKl → m k = s k := fun k hk => (y3 k ((by decide : ∀ k, k ∈ MKl → k ∉ RB) k hk)).trans ((ab_s_ne ((by decide : ∀ k, k ∈ MKl → k ≠ 4) k hk)).trans ((ab_s_ne ((by decide : ∀ k, k ∈ MKl → k ≠ 3) k hk)).trans (ab_s_ne ((by decide : ∀ k, k ∈ MKl → k ≠ 2) k hk))))
    exact ⟨_, m, rfl, rfl, MI_of q hr.2.1, Or.inr (Or.inr ⟨x, x2, rfl, y1, y2, y3, q⟩)⟩
theorem cy_setSpace {s m : Nat → Int → Int} {k a b e v : Int} {r : Option ab_V} {h : List ab_E} (hr : REL s) (hc : C_setSpace s m k a b e v) (hp : (¬ (0 ≤ k ∧ k < 3) ∧ RO m (-1001) r h) ∨ ((0 ≤ k ∧ k < 3) ∧ ¬ (1 ≤ a ∧ a ≤ b ∧ b ≤ e ∧ e ≤ 40) ∧ RO m (-1002) r h) ∨ ((0 ≤ k ∧ k < 3) ∧ (1 ≤ a ∧ a ≤ b ∧ b ≤ e ∧ e ≤ 40) ∧ UPDM (ab_s m 50 (ab_u (ab_u (ab_u (m 50) (3 * k) a) (3 * k + 1) b) (3 * k + 2) e)) (m 50 (3 * k + 1)) r h)) : ∃ t, r = some (.inl v) ∧ h = WW t ∧ REL t := by
  rcases hc with ⟨x, rfl, rfl⟩ | ⟨x, x2, rfl, rfl⟩ | ⟨x, xx, rfl, x1, x2, x3, x4⟩
  · rcases hp with ⟨y, rfl, rfl⟩ | ⟨y, y2, y3⟩ | ⟨y, y2, y3⟩
    · exact ⟨m, rfl, rfl, hr⟩
    · exact absurd y x
    · exact absurd y x
  · rcases hp with ⟨y, y2⟩ | ⟨y, y2, rfl, rfl⟩ | ⟨y, y2, y3⟩
    · exact absurd x y
    · exact ⟨m, rfl, rfl, hr⟩
    · exact absurd y2 x2
  · rcases hp with ⟨y, y2⟩ | ⟨y, yy, y3⟩ | ⟨y, yy, t, rfl, rfl, y1, y2, y3⟩
    · exact absurd x y
    · exact absurd xx yy
    · obtain ⟨⟨e0, e1, e2, e3, e4, e5⟩, ⟨e6, e7, e8⟩, e9, e10, e11⟩ := V_of hr.2.2.1
      refine ⟨t, ?_, rfl, UPD_REL x1 x2 x3 (fun k hk => ab_s_ne ((by decide : ∀ k, k ∈ XKl → k ≠ 50) k hk)) y1 y2 y3 ?_ ?_⟩
      · rw [show m 50 = s 50 from x4 50 (by decide), e10]
      · rw [← x4 120 (by decide)] at e0
        rw [← x4 51 (by decide)] at e1
        rw [← x4 52 (by decide)] at e2
        rw [← x4 53 (by decide)] at e3
        rw [← x4 54 (by decide)] at e4
        rw [← x4 55 (by decide)] at e5
        rw [← x4 117 (by decide)] at e6
        rw [← x4 118 (by decide)] at e7
        rw [← x4 119 (by decide)] at e8
        rw [← x4 50 (by decide)] at e9 e10 e11
        exact V_ext e0 e1 e2 e3 e4 e5 e6 e7 e8 (tab3 e9) (tab4 e10) (tab5 e11)
      · show s 22 = m 56 ∧ s 104 0 = m 121 0
        rw [x4 56 (by decide), x4 121 (by decide)]
        exact hr.2.2.2.1

theorem REL_same {s t : Nat → Int → Int} (hr : REL s) (hx : XI t) (hm : MI t) (q1 : ∀ k, k ∈ [103, 6, 7, 8, 9, 10, 100, 101, 102, 2, 3, 4, 107, 26, 120, 50, 51, 52, 53, 54, 55, 117, 118, 119, 125, 59] → t k = s k) (ht : t 22 = t 56 ∧ t 104 0 = t 121 0) : REL t := by
  have a : vX t = vX s := by
    funext k
    unfold vX
    rw [q1 103 (by decide), q1 6 (by decide), q1 7 (by decide), q1 8 (by decide), q1 9 (by decide), q1 10 (by decide), q1 100 (by decide), q1 101 (by decide), q1 102 (by decide), q1 2 (by decide), q1 3 (by decide), q1 4 (by decide)]
  have b : vM t = vM s := by
    funext k
    unfold vM
    rw [q1 120 (by decide), q1 50 (by decide), q1 51 (by decide), q1 52 (by decide), q1 53 (by decide), q1 54 (by decide), q1 55 (by decide), q1 117 (by decide), q1 118 (by decide), q1 119 (by decide)]
  refine ⟨hx, hm, by rw [a, b]; exact hr.2.2.1, ht, ?_, ?_⟩
  · rw [q1 107 (by decide), q1 125 (by decide)]
    exact hr.2.2.2.2.1
  · rw [q1 107 (by decide), q1 26 (by decide), q1 59 (by decide)]
    exact hr.2.2.2.2.2
def C_type (s m : Nat → Int → Int) (z v : Int) : Prop := (¬ s 104 0 < 120 ∧ v = -1003 ∧ m = s) ∨ (s 104 0 < 120 ∧ v = s 104 0 + 1 ∧ m = TYP s z ∧ XI (TYP s z))
theorem cx_type {s : Nat → Int → Int} {z : Int} {r : Option ab_V} {h : List ab_E} (hr : REL s) (hp : (¬ s 104 0 < 120 ∧ RO s (-1003) r h) ∨ (s 104 0 < 120 ∧ r = some (.inl (s 104 0 + 1)) ∧ h = WW (TYP s z) ∧ XI (TYP s z))) : ∃ v m, r = some (.inl v) ∧ h = WW m ∧ MI m ∧ C_type s m z v := by
  rcases hp with ⟨a, rfl, rfl⟩ | ⟨a, rfl, rfl, b⟩
  · exact ⟨_, s, rfl, rfl, hr.2.1, Or.inl ⟨a, rfl, rfl⟩⟩
  · exact ⟨_, _, rfl, rfl, MI_of (fun k hk => (ab_s_ne ((by decide : ∀ k, k ∈ MKl → k ≠ 104) k hk)).trans (ab_s_ne ((by decide : ∀ k, k ∈ MKl → k ≠ 22) k hk))) hr.2.1, Or.inr ⟨a, rfl, rfl, b⟩⟩
theorem cy_type {s m : Nat → Int → Int} {z v : Int} {r : Option ab_V} {h : List ab_E} (hr : REL s) (hc : C_type s m z v) (hp : (¬ m 121 0 < 120 ∧ RO m (-1003) r h) ∨ (m 121 0 < 120 ∧ r = some (.inl (m 121 0 + 1)) ∧ h = WW (TYM m z) ∧ MI (TYM m z))) : ∃ t, r = some (.inl v) ∧ h = WW t ∧ REL t := by
  have e := hr.2.2.2.1
  rcases hc with ⟨a, rfl, rfl⟩ | ⟨a, rfl, rfl, x⟩
  · rcases hp with ⟨b, rfl, rfl⟩ | ⟨b, c⟩
    · exact ⟨m, rfl, rfl, hr⟩
    · omega
  · rcases hp with ⟨b, c⟩ | ⟨b, rfl, rfl, y⟩
    · have b : ¬ s 121 0 < 120 := b
      omega
    · refine ⟨_, ?_, rfl, REL_same hr (XI_of (fun k hk => (ab_s_ne ((by decide : ∀ k, k ∈ XKl → k ≠ 121) k hk)).trans (ab_s_ne ((by decide : ∀ k, k ∈ XKl → k ≠ 56) k hk))) x) y (fun k hk => ?_) ?_⟩
      · show some (Sum.inl (s 121 0 + 1)) = _
        rw [e.2]
      · exact (ab_s_ne ((by decide : ∀ k, k ∈ [103, 6, 7, 8, 9, 10, 100, 101, 102, 2, 3, 4, 107, 26, 120, 50, 51, 52, 53, 54, 55, 117, 118, 119, 125, 59] → k ≠ 121) k hk)).trans ((ab_s_ne ((by decide : ∀ k, k ∈ [103, 6, 7, 8, 9, 10, 100, 101, 102, 2, 3, 4, 107, 26, 120, 50, 51, 52, 53, 54, 55, 117, 118, 119, 125, 59] → k ≠ 56) k hk)).trans ((ab_s_ne ((by decide : ∀ k, k ∈ [103, 6, 7, 8, 9, 10, 100, 101, 102, 2, 3, 4, 107, 26, 120, 50, 51, 52, 53, 54, 55, 117, 118, 119, 125, 59] → k ≠ 104) k hk)).trans (ab_s_ne ((by decide : ∀ k, k ∈ [103, 6, 7, 8, 9, 10, 100, 101, 102, 2, 3, 4, 107, 26, 120, 50, 51, 52, 53, 54, 55, 117, 118, 119, 125, 59] → k ≠ 22) k hk))))
      · show ab_u (s 22) (s 104 0) z = ab_u (s 56) (s 121 0) z ∧ s 104 0 + 1 = s 121 0 + 1
        rw [e.1, e.2]
        exact ⟨rfl, rfl⟩
def C_clearText (s m : Nat → Int → Int) (v : Int) : Prop := v = s 104 0 ∧ m = ab_s s 104 (fun _ => 0) ∧ XI m
theorem cx_clearText {s : Nat → Int → Int} {r : Option ab_V} {h : List ab_E} (hr : REL s) (hp : r = some (.inl (s 104 0)) ∧ h = WW (ab_s s 104 (fun _ => 0)) ∧ XI (ab_s s 104 (fun _ => 0))) : ∃ v m, r = some (.inl v) ∧ h = WW m ∧ MI m ∧ C_clearText s m v := by
  obtain ⟨rfl, rfl, b⟩ := hp
  exact ⟨_, _, rfl, rfl, MI_of (fun k hk => ab_s_ne ((by decide : ∀ k, k ∈ MKl → k ≠ 104) k hk)) hr.2.1, rfl, rfl, b⟩
theorem cy_clearText {s m : Nat → Int → Int} {v : Int} {r : Option ab_V} {h : List ab_E} (hr : REL s) (hc : C_clearText s m v) (hp : r = some (.inl (m 121 0)) ∧ h = WW (ab_s m 121 (fun _ => 0)) ∧ MI (ab_s m 121 (fun _ => 0))) : ∃ t, r = some (.inl v) ∧ h = WW t ∧ REL t := by
  have e := hr.2.2.2.1
  obtain ⟨rfl, rfl, x⟩ := hc
  obtain ⟨rfl, rfl, y⟩ := hp
  refine ⟨_, ?_, rfl, REL_same hr (XI_of (fun k hk => ab_s_ne ((by decide : ∀ k, k ∈ XKl → k ≠ 121) k hk)) x) y (fun k hk => ?_) ?_⟩
  · show some (Sum.inl (s 121 0)) = _
    rw [e.2]
  · exact (ab_s_ne ((by decide : ∀ k, k ∈ [103, 6, 7, 8, 9, 10, 100, 101, 102, 2, 3, 4, 107, 26, 120, 50, 51, 52, 53, 54, 55, 117, 118, 119, 125, 59] → k ≠ 121) k hk)).trans (ab_s_ne ((by decide : ∀ k, k ∈ [103, 6, 7, 8, 9, 10, 100, 101, 102, 2, 3, 4, 107, 26, 120, 50, 51, 52, 53, 54, 55, 117, 118, 119, 125, 59] → k ≠ 104) k hk))
  · exact ⟨e.1, rfl⟩

theorem FLT_uniq {t : Int → Int} {n v w : Int} (h : FLT t n v) (h2 : FLT t n w) : v = w := by
  rcases h with ⟨a, b⟩ | ⟨a, b, c, e⟩
  · rcases h2 with ⟨a2, b2⟩ | ⟨a2, b2, c2, e2⟩
    · omega
    · exact absurd (b w a2 b2) c2
  · rcases h2 with ⟨a2, b2⟩ | ⟨a2, b2, c2, e2⟩
    · exact absurd (b2 v a b) c
    · rcases Int.lt_trichotomy v w with q | q | q
      · exact absurd (e2 v a q) c
      · exact q
      · exact absurd (e w a2 q) c2
def C_readParagraph (s m : Nat → Int → Int) (v : Int) : Prop := ∃ f, FLT (s 22) (s 104 0) f ∧ ((¬ f = -1 ∧ v = -100 - f ∧ m = s) ∨ (f = -1 ∧ CU s (TKM s) m (TKM s 103 0) v))
theorem cx_readParagraph {s : Nat → Int → Int} {r : Option ab_V} {h : List ab_E} (hr : REL s) (hp : ∃ v, FLT (s 22) (s 104 0) v ∧ ((¬ v = -1 ∧ RO s (-100 - v) r h) ∨ (v = -1 ∧ UPD (TKM s) (TKM s 103 0) r h))) : ∃ v m, r = some (.inl v) ∧ h = WW m ∧ MI m ∧ C_readParagraph s m v := by
  obtain ⟨f, hf, ⟨a, rfl, rfl⟩ | ⟨a, m, rfl, rfl, b, c, e⟩⟩ := hp
  · exact ⟨_, s, rfl, rfl, hr.2.1, f, hf, Or.inl ⟨a, rfl, rfl⟩⟩
  · have q : ∀ k, k ∈ MKl → m k = s k := fun k hk => (e k ((by decide : ∀ k, k ∈ MKl → k ∉ RB) k hk)).trans ((ab_s_ne ((by decide : ∀ k, k ∈ MKl → k ≠ 10) k hk)).trans ((ab_s_ne ((by decide : ∀ k, k ∈ MKl → k ≠ 9) k hk)).trans ((ab_s_ne ((by decide : ∀ k, k ∈ MKl → k ≠ 8) k hk)).trans ((ab_s_ne ((by decide : ∀ k, k ∈ MKl → k ≠ 7) k hk)).trans ((ab_s_ne ((by decide : ∀ k, k ∈ MKl → k ≠ 6) k hk)).trans (ab_s_ne ((by decide : ∀ k, k ∈ MKl → k ≠ 103) k hk)))))))
    exact ⟨_, m, rfl, rfl, MI_of q hr.2.1, f, hf, Or.inr ⟨a, rfl, b, c, e, q⟩⟩
theorem cy_readParagraph {s m : Nat → Int → Int} {v : Int} {r : Option ab_V} {h : List ab_E} (hr : REL s) (hc : C_readParagraph s m v) (hp : ∃ v, FLT (m 56) (m 121 0) v ∧ ((¬ v = -1 ∧ RO m (-100 - v) r h) ∨ (v = -1 ∧ UPDM (TKN m) (TKN m 120 0) r h))) : ∃ t, r = some (.inl v) ∧ h = WW t ∧ REL t := by
  have et := hr.2.2.2.1
  obtain ⟨f, hf, hc⟩ := hc
  obtain ⟨f2, hf2, hp⟩ := hp
  rcases hc with ⟨a, rfl, rfl⟩ | ⟨a, rfl, x1, x2, x3, x4⟩
  · rw [← et.1, ← et.2] at hf2
    have ef := FLT_uniq hf hf2
    subst ef
    rcases hp with ⟨b, rfl, rfl⟩ | ⟨b, c⟩
    · exact ⟨m, rfl, rfl, hr⟩
    · exact absurd b a
  · rw [x4 56 (by decide), x4 121 (by decide), ← et.1, ← et.2] at hf2
    have ef := FLT_uniq hf hf2
    subst ef
    rcases hp with ⟨b, c⟩ | ⟨b, t, rfl, rfl, y1, y2, y3⟩
    · exact absurd a b
    · have hv : vX (TKM s) = vM (TKN m) := by
        rw [TKM_vX, TKN_vM, vM_of x4, x4 56 (by decide), x4 121 (by decide), ← et.1, ← et.2, hr.2.2.1]
      refine ⟨t, ?_, rfl, UPD_REL x1 x2 x3 (fun k hk => (ab_s_ne ((by decide : ∀ k, k ∈ XKl → k ≠ 55) k hk)).trans ((ab_s_ne ((by decide : ∀ k, k ∈ XKl → k ≠ 54) k hk)).trans ((ab_s_ne ((by decide : ∀ k, k ∈ XKl → k ≠ 53) k hk)).trans ((ab_s_ne ((by decide : ∀ k, k ∈ XKl → k ≠ 52) k hk)).trans ((ab_s_ne ((by decide : ∀ k, k ∈ XKl → k ≠ 51) k hk)).trans (ab_s_ne ((by decide : ∀ k, k ∈ XKl → k ≠ 120) k hk))))))) y1 y2 y3 hv ?_⟩
      · rw [(V_of hv).1.1]
      · show s 22 = m 56 ∧ s 104 0 = m 121 0
        rw [x4 56 (by decide), x4 121 (by decide)]
        exact et
noncomputable def P5 (s : Nat → Int → Int) : Int × Int × Int × (Int → Int) := prs (s 22) (s 104 0) 5 0 0 (s 105 0) (s 106 0) (s 24)
def AP5 (s s1 : Nat → Int → Int) (sub kd : Int) (nu : Int → Int) : Prop := (sub = 0 ∧ s1 = ab_s s 100 (fun _ => nu 0)) ∨ (sub = 1 ∧ s1 = ab_s s 101 (fun _ => nu 0)) ∨ (sub = 2 ∧ s1 = ab_s s 102 (fun _ => nu 0)) ∨ (sub = 3 ∧ s1 = ab_s (ab_s (ab_s s 2 (ab_u (s 2) kd (nu 0))) 3 (ab_u (s 3) kd (nu 1))) 4 (ab_u (s 4) kd (nu 2)))
def C_command (s m : Nat → Int → Int) (v : Int) : Prop := (¬ (P5 s).1 = -1 ∧ v = -100 - (P5 s).1 ∧ XI m ∧ ∀ k, k ∉ [105, 106, 24] → m k = s k) ∨ ((P5 s).1 = -1 ∧ ∃ m0 s1, (∀ k, k ∉ [105, 106, 24] → m0 k = s k) ∧ AP5 m0 s1 (P5 s).2.1 (P5 s).2.2.1 (P5 s).2.2.2 ∧ CU s s1 m (m 107 0) v)
theorem K3_od {s : Nat → Int → Int} {f g e : Int → Int} : ∀ k, k ∉ [105, 106, 24] → ab_s (ab_s (ab_s s 105 f) 106 g) 24 e k = s k := fun k hk => (ab_keep hk (by decide)).trans ((ab_keep hk (by decide)).trans (ab_keep hk (by decide)))
theorem AP5_M {s s1 : Nat → Int → Int} {sub kd : Int} {nu : Int → Int} (h : AP5 s s1 sub kd nu) : ∀ k, k ∈ MKl → s1 k = s k := by
  intro k hk
  rcases h with ⟨_, rfl⟩ | ⟨_, rfl⟩ | ⟨_, rfl⟩ | ⟨_, rfl⟩
  · exact ab_s_ne ((by decide : ∀ k, k ∈ MKl → k ≠ 100) k hk)
  · exact ab_s_ne ((by decide : ∀ k, k ∈ MKl → k ≠ 101) k hk)
  · exact ab_s_ne ((by decide : ∀ k, k ∈ MKl → k ≠ 102) k hk)
  · exact (ab_s_ne ((by decide : ∀ k, k ∈ MKl → k ≠ 4) k hk)).trans ((ab_s_ne ((by decide : ∀ k, k ∈ MKl → k ≠ 3) k hk)).trans (ab_s_ne ((by decide : ∀ k, k ∈ MKl → k ≠ 2) k hk)))
theorem cx_command {s : Nat → Int → Int} {r : Option ab_V} {h : List ab_E} (hr : REL s) (hp : ∃ v sub2 kd2 nu2, (prs (s 22) (s 104 0) 5 0 0 (s 105 0) (s 106 0) (s 24)).1 = v ∧ ((¬ v = -1 ∧ r = some (.inl (-100 - v)) ∧ h = WW (ab_s (ab_s (ab_s s 105 sub2) 106 kd2) 24 nu2) ∧ XI (ab_s (ab_s (ab_s s 105 sub2) 106 kd2) 24 nu2)) ∨ (v = -1 ∧ ((prs (s 22) (s 104 0) 5 0 0 (s 105 0) (s 106 0) (s 24)).2.1 = sub2 0 ∧ (prs (s 22) (s 104 0) 5 0 0 (s 105 0) (s 106 0) (s 24)).2.2.1 = kd2 0 ∧ (prs (s 22) (s 104 0) 5 0 0 (s 105 0) (s 106 0) (s 24)).2.2.2 = nu2 ∧ OKC (sub2 0) (kd2 0) nu2) ∧ ∃ s1 s2, APM (ab_s (ab_s (ab_s s 105 sub2) 106 kd2) 24 nu2) s1 ∧ r = some (.inl (s2 107 0)) ∧ h = WW s2 ∧ XI s2 ∧ BESTL s2 ∧ KEEP RB s1 s2))) : ∃ v m, r = some (.inl v) ∧ h = WW m ∧ MI m ∧ C_command s m v := by
  obtain ⟨v, sub2, kd2, nu2, hv, ⟨a, rfl, rfl, x⟩ | ⟨a, ⟨b1, b2, b3, b4⟩, s1, m, c, rfl, rfl, x, y, z⟩⟩ := hp
  · subst hv
    exact ⟨_, _, rfl, rfl, MI_of (fun k hk => K3_od k ((by decide : ∀ k, k ∈ MKl → k ∉ [105, 106, 24]) k hk)) hr.2.1, Or.inl ⟨a, rfl, x, K3_od⟩⟩
  · have c2 : AP5 (ab_s (ab_s (ab_s s 105 sub2) 106 kd2) 24 nu2) s1 (sub2 0) (kd2 0) nu2 := c
    have q : ∀ k, k ∈ MKl → m k = s k := fun k hk => (z k ((by decide : ∀ k, k ∈ MKl → k ∉ RB) k hk)).trans ((AP5_M c2 k hk).trans (K3_od k ((by decide : ∀ k, k ∈ MKl → k ∉ [105, 106, 24]) k hk)))
    rw [← b1, ← b2, ← b3] at c2
    exact ⟨_, m, rfl, rfl, MI_of q hr.2.1, Or.inr ⟨hv.trans a, _, s1, K3_od, c2, rfl, x, y, z, q⟩⟩
theorem K3_sc {s : Nat → Int → Int} {f g e : Int → Int} : ∀ k, k ∉ [122, 123, 124] → ab_s (ab_s (ab_s s 122 f) 123 g) 124 e k = s k := fun k hk => (ab_keep hk (by decide)).trans ((ab_keep hk (by decide)).trans (ab_keep hk (by decide)))
theorem APY_X {s s1 : Nat → Int → Int} {sub kd : Int} {nu : Int → Int} (h : APY s s1 sub kd nu) : ∀ k, k ∈ XKl → s1 k = s k := by
  intro k hk
  rcases h with ⟨_, rfl⟩ | ⟨_, rfl⟩ | ⟨_, rfl⟩ | ⟨_, rfl⟩
  · exact ab_s_ne ((by decide : ∀ k, k ∈ XKl → k ≠ 117) k hk)
  · exact ab_s_ne ((by decide : ∀ k, k ∈ XKl → k ≠ 118) k hk)
  · exact ab_s_ne ((by decide : ∀ k, k ∈ XKl → k ≠ 119) k hk)
  · exact ab_s_ne ((by decide : ∀ k, k ∈ XKl → k ≠ 50) k hk)
theorem AP_V {s t s1 t1 : Nat → Int → Int} {sub kd : Int} {nu : Int → Int} (hv : vX s = vM t) (ht : s 22 = t 56 ∧ s 104 0 = t 121 0) (h : AP5 s s1 sub kd nu) (h2 : APY t t1 sub kd nu) : vX s1 = vM t1 ∧ s1 22 = t1 56 ∧ s1 104 0 = t1 121 0 := by
  obtain ⟨⟨e0, e1, e2, e3, e4, e5⟩, ⟨e6, e7, e8⟩, e9, e10, e11⟩ := V_of hv
  rcases h with ⟨a, rfl⟩ | ⟨a, rfl⟩ | ⟨a, rfl⟩ | ⟨a, rfl⟩
  · rcases h2 with ⟨b, rfl⟩ | ⟨b, rfl⟩ | ⟨b, rfl⟩ | ⟨b, rfl⟩
    · exact ⟨V_ext e0 e1 e2 e3 e4 e5 rfl e7 e8 e9 e10 e11, ht⟩
    all_goals omega
  · rcases h2 with ⟨b, rfl⟩ | ⟨b, rfl⟩ | ⟨b, rfl⟩ | ⟨b, rfl⟩
    · omega
    · exact ⟨V_ext e0 e1 e2 e3 e4 e5 e6 rfl e8 e9 e10 e11, ht⟩
    all_goals omega
  · rcases h2 with ⟨b, rfl⟩ | ⟨b, rfl⟩ | ⟨b, rfl⟩ | ⟨b, rfl⟩
    · omega
    · omega
    · exact ⟨V_ext e0 e1 e2 e3 e4 e5 e6 e7 rfl e9 e10 e11, ht⟩
    · omega
  · rcases h2 with ⟨b, rfl⟩ | ⟨b, rfl⟩ | ⟨b, rfl⟩ | ⟨b, rfl⟩
    · omega
    · omega
    · omega
    · exact ⟨V_ext e0 e1 e2 e3 e4 e5 e6 e7 e8 (tab3 e9) (tab4 e10) (tab5 e11), ht⟩
theorem cy_command {s m : Nat → Int → Int} {v : Int} {r : Option ab_V} {h : List ab_E} (hr : REL s) (hc : C_command s m v) (hp : CMD m (prs (m 56) (m 121 0) 5 0 0 (s 105 0) (s 106 0) (s 24)) r h) : ∃ t, r = some (.inl v) ∧ h = WW t ∧ REL t := by
  have et := hr.2.2.2.1
  have hm : ∀ k, k ∈ MKl → m k = s k := by
    rcases hc with ⟨_, _, _, q⟩ | ⟨_, _, _, _, _, _, _, _, _, q⟩
    · exact fun k hk => q k ((by decide : ∀ k, k ∈ MKl → k ∉ [105, 106, 24]) k hk)
    · exact q
  rw [hm 56 (by decide), hm 121 (by decide), ← et.1, ← et.2] at hp
  replace hp : CMD m (P5 s) r h := hp
  obtain ⟨fa, fb, fc, hp⟩ := hp
  rcases hc with ⟨a, rfl, x, x4⟩ | ⟨a, m0, s1, x0, xa, rfl, x1, x2, x3, x4⟩
  · rcases hp with ⟨b, rfl, rfl, y⟩ | ⟨b, c⟩
    · refine ⟨_, rfl, rfl, REL_same hr (XI_of (fun k hk => K3_sc k ((by decide : ∀ k, k ∈ XKl → k ∉ [122, 123, 124]) k hk)) x) y (fun k hk => (K3_sc k ((by decide : ∀ k, k ∈ [103, 6, 7, 8, 9, 10, 100, 101, 102, 2, 3, 4, 107, 26, 120, 50, 51, 52, 53, 54, 55, 117, 118, 119, 125, 59] → k ∉ [122, 123, 124]) k hk)).trans (x4 k ((by decide : ∀ k, k ∈ [103, 6, 7, 8, 9, 10, 100, 101, 102, 2, 3, 4, 107, 26, 120, 50, 51, 52, 53, 54, 55, 117, 118, 119, 125, 59] → k ∉ [105, 106, 24]) k hk))) ?_⟩
      show m 22 = m 56 ∧ m 104 0 = m 121 0
      rw [x4 22 (by decide), x4 56 (by decide), x4 104 (by decide), x4 121 (by decide)]
      exact et
    · exact absurd b a
  · rcases hp with ⟨b, c⟩ | ⟨b, t1, t, c, rfl, rfl, y1, y2, y3⟩
    · exact absurd a b
    · have hq : ∀ k, k ∈ MKl → ab_s (ab_s (ab_s m 122 fa) 123 fb) 124 fc k = s k := fun k hk => (K3_sc k ((by decide : ∀ k, k ∈ MKl → k ∉ [122, 123, 124]) k hk)).trans (hm k hk)
      have hv : vX m0 = vM (ab_s (ab_s (ab_s m 122 fa) 123 fb) 124 fc) := by
        rw [vX_of (fun k hk => x0 k ((by decide : ∀ k, k ∈ XKl → k ∉ [105, 106, 24]) k hk)), vM_of hq, hr.2.2.1]
      have ht : m0 22 = ab_s (ab_s (ab_s m 122 fa) 123 fb) 124 fc 56 ∧ m0 104 0 = ab_s (ab_s (ab_s m 122 fa) 123 fb) 124 fc 121 0 := by
        rw [hq 56 (by decide), hq 121 (by decide), x0 22 (by decide), x0 104 (by decide)]
        exact et
      obtain ⟨z1, z2⟩ := AP_V hv ht xa c
      have hR : REL t := UPD_REL x1 x2 x3 (fun k hk => (APY_X c k hk).trans (K3_sc k ((by decide : ∀ k, k ∈ XKl → k ∉ [122, 123, 124]) k hk))) y1 y2 y3 z1 z2
      refine ⟨t, ?_, rfl, hR⟩
      rw [← hR.2.2.2.2.1, show t 107 = m 107 from (y3 107 (by decide)).trans ((APY_X c 107 (by decide)).trans (K3_sc 107 (by decide)))]

def C_layBest (s m : Nat → Int → Int) (v : Int) : Prop := v = (if m 107 0 = 0 then -1004 else m 107 0) ∧ XI m ∧ BESTL m ∧ KEEP LB s m
theorem cx_layBest {s : Nat → Int → Int} {r : Option ab_V} {h : List ab_E} (hr : REL s) (hp : ∃ s2, h = WW s2 ∧ XI s2 ∧ BESTL s2 ∧ KEEP LB s s2 ∧ r = some (.inl (if s2 107 0 = 0 then -1004 else s2 107 0))) : ∃ v m, r = some (.inl v) ∧ h = WW m ∧ MI m ∧ C_layBest s m v := by
  obtain ⟨m, rfl, a, b, c, rfl⟩ := hp
  exact ⟨_, m, rfl, rfl, MI_of (KEEP_M c (by decide)) hr.2.1, rfl, a, b, c⟩
theorem lay_V {s m : Nat → Int → Int} (hr : REL s) (c : KEEP LB s m) : vX m = vM m ∧ m 22 = m 56 ∧ m 104 0 = m 121 0 := by
  refine ⟨?_, ?_⟩
  · rw [KEEP_vX c (by decide), vM_of (KEEP_M c (by decide)), hr.2.2.1]
  · rw [c 22 (by decide), c 56 (by decide), c 104 (by decide), c 121 (by decide)]
    exact hr.2.2.2.1
theorem cy_layBest {s m : Nat → Int → Int} {v : Int} {r : Option ab_V} {h : List ab_E} (hr : REL s) (hc : C_layBest s m v) (hp : (¬ (0 < m 120 0 ∧ 0 ≤ m 57 0) ∧ RO m (-1004) r h) ∨ ((0 < m 120 0 ∧ 0 ≤ m 57 0) ∧ ∃ s2, r = some (.inl (s2 125 0)) ∧ h = WW s2 ∧ MI s2 ∧ MBEST s2 ∧ KEEP LBM m s2)) : ∃ t, r = some (.inl v) ∧ h = WW t ∧ REL t := by
  obtain ⟨rfl, x, xb, xk⟩ := hc
  have hv := lay_V hr xk
  have hm : MI m := MI_of (KEEP_M xk (by decide)) hr.2.1
  rcases hp with ⟨a, rfl, rfl⟩ | ⟨a, t, rfl, rfl, b, c, e⟩
  · have g := BEST_REL x hm xb (fun z => absurd z a) hv.1
    have z : m 125 0 = 0 := hm.2.2.2.2.1.mpr a
    refine ⟨m, ?_, rfl, x, hm, hv.1, hv.2, g⟩
    rw [if_pos (by omega)]
  · have q : ∀ k, k ∈ XKl → t k = m k := KEEP_X e (by decide)
    have hx2 := XI_of q x
    have hv2 : vX t = vM t := by
      rw [vX_of q, KEEP_vM e (by decide)]
      exact hv.1
    have g := BEST_REL hx2 b (BESTL_of q xb) c hv2
    have z : ¬ t 125 0 = 0 := fun z => b.2.2.2.2.1.mp z (by rw [show t 120 = m 120 from e 120 (by decide), show t 57 = m 57 from e 57 (by decide)]; exact a)
    have e107 : t 107 = m 107 := q 107 (by decide)
    refine ⟨t, ?_, rfl, hx2, b, hv2, ?_, g⟩
    · rw [← e107, if_neg (by omega), g.1]
    · rw [q 22 (by decide), q 104 (by decide), e 56 (by decide), e 121 (by decide)]
      exact hv.2
/-- the second choices of both -/
theorem REL_sec {s : Nat → Int → Int} (hr : REL s) {l : Int} (h0 : 0 ≤ l) (h1 : l < s 107 0) : sec (vX s) (s 19) (s 26) l = sec (vX s) (s 57) (s 59) l := by
  have hx := hr.1
  have q := hx.2.2.2.1.2.1 l h0 h1
  have hf := hr.2.2.2.2.2 (by omega)
  exact sec_rel (BW_bs (BW_X hx) (BW_M hr.2.1 hr.2.2.1)) q.1 (by omega) (hf l h0 (by omega)) (hf (l + 1) (by omega) (by omega))
def C_takeSecond (s m : Nat → Int → Int) (l v : Int) : Prop := (¬ (0 ≤ l ∧ l < s 107 0) ∧ v = -1001 ∧ m = s) ∨ ((0 ≤ l ∧ l < s 107 0) ∧ sec (vX s) (s 19) (s 26) l = -1 ∧ v = -1004 ∧ m = s) ∨ ((0 ≤ l ∧ l < s 107 0) ∧ ¬ sec (vX s) (s 19) (s 26) l = -1 ∧ v = m 107 0 ∧ XI m ∧ KEEP LB s m ∧ (m 107 0, m 26) = go (s 20) (s 103 0) (s 103 0 - (sec (vX s) (s 19) (s 26) l + 1)).toNat (l + 1) (sec (vX s) (s 19) (s 26) l + 1) (s 26))
theorem cx_takeSecond {s : Nat → Int → Int} {l : Int} {r : Option ab_V} {h : List ab_E} (hr : REL s) (hp : (¬ (0 ≤ l ∧ l < s 107 0) ∧ RO s (-1001) r h) ∨ ((0 ≤ l ∧ l < s 107 0) ∧ sec (vX s) (s 19) (s 26) l = -1 ∧ RO s (-1004) r h) ∨ ((0 ≤ l ∧ l < s 107 0) ∧ ¬ sec (vX s) (s 19) (s 26) l = -1 ∧ ∃ s2, r = some (.inl (s2 107 0)) ∧ h = WW s2 ∧ XI s2 ∧ KEEP LB s s2 ∧ (s2 107 0, s2 26) = go (s 20) (s 103 0) (s 103 0 - (sec (vX s) (s 19) (s 26) l + 1)).toNat (l + 1) (sec (vX s) (s 19) (s 26) l + 1) (s 26))) : ∃ v m, r = some (.inl v) ∧ h = WW m ∧ MI m ∧ C_takeSecond s m l v := by
  rcases hp with ⟨a, rfl, rfl⟩ | ⟨a, b, rfl, rfl⟩ | ⟨a, b, m, rfl, rfl, c, e, g⟩
  · exact ⟨_, s, rfl, rfl, hr.2.1, Or.inl ⟨a, rfl, rfl⟩⟩
  · exact ⟨_, s, rfl, rfl, hr.2.1, Or.inr (Or.inl ⟨a, b, rfl, rfl⟩)⟩
  · exact ⟨_, m, rfl, rfl, MI_of (KEEP_M e (by decide)) hr.2.1, Or.inr (Or.inr ⟨a, b, rfl, c, e, g⟩)⟩
theorem cy_takeSecond {s m : Nat → Int → Int} {l v : Int} {r : Option ab_V} {h : List ab_E} (hr : REL s) (hc : C_takeSecond s m l v) (hp : (¬ (0 ≤ l ∧ l < m 125 0) ∧ RO m (-1001) r h) ∨ ((0 ≤ l ∧ l < m 125 0) ∧ sec (vM m) (m 57) (m 59) l = -1 ∧ RO m (-1004) r h) ∨ ((0 ≤ l ∧ l < m 125 0) ∧ ¬ sec (vM m) (m 57) (m 59) l = -1 ∧ ∃ s2, r = some (.inl (s2 125 0)) ∧ h = WW s2 ∧ MI s2 ∧ KEEP LBM m s2 ∧ (s2 125 0, s2 59) = go (m 58) (m 120 0) (m 120 0 - (sec (vM m) (m 57) (m 59) l + 1)).toNat (l + 1) (sec (vM m) (m 57) (m 59) l + 1) (m 59))) : ∃ t, r = some (.inl v) ∧ h = WW t ∧ REL t := by
  have el := hr.2.2.2.2.1
  have hv := hr.2.2.1
  have hM : ∀ k, k ∈ MKl → m k = s k := by
    rcases hc with ⟨_, _, q⟩ | ⟨_, _, _, q⟩ | ⟨_, _, _, _, q, _⟩
    · exact fun k _ => by rw [q]
    · exact fun k _ => by rw [q]
    · exact KEEP_M q (by decide)
  rw [vM_of hM, hM 57 (by decide), hM 58 (by decide), hM 59 (by decide), hM 120 (by decide), hM 125 (by decide), ← hv, ← el] at hp
  rcases hc with ⟨a, rfl, rfl⟩ | ⟨a, b, rfl, rfl⟩ | ⟨a, b, rfl, x, xk, xg⟩
  · rcases hp with ⟨y, rfl, rfl⟩ | ⟨y, _⟩ | ⟨y, _⟩
    · exact ⟨m, rfl, rfl, hr⟩
    · exact absurd y a
    · exact absurd y a
  · rw [REL_sec hr a.1 a.2] at b
    rcases hp with ⟨y, _⟩ | ⟨y, y2, rfl, rfl⟩ | ⟨y, y2, _⟩
    · exact absurd a y
    · exact ⟨m, rfl, rfl, hr⟩
    · exact absurd b y2
  · have es := REL_sec hr a.1 a.2
    have ho := sec_ok b
    rcases hp with ⟨y, _⟩ | ⟨y, y2, _⟩ | ⟨y, y2, t, rfl, rfl, y3, y4, y5⟩
    · exact absurd a y
    · rw [es] at b
      exact absurd y2 b
    · have q : ∀ k, k ∈ XKl → t k = m k := KEEP_X y4 (by decide)
      have hx2 := XI_of q x
      have lv := lay_V hr xk
      have hv2 : vX t = vM t := by
        rw [vX_of q, KEEP_vM y4 (by decide)]
        exact lv.1
      have n0 : s 103 0 = s 120 0 := (V_of hv).1.1
      rw [← es, ← n0] at y5
      have hf := hr.2.2.2.2.2 (by omega)
      have q1 := hr.1.2.2.2.1.2.1 l a.1 a.2
      have e0 : vX s 0 0 = s 103 0 := rfl
      have g := go_rel (BW_X hr.1) (BW_M hr.2.1 hv) (s 103 0 - (sec (vX s) (s 19) (s 26) l + 1)).toNat (l + 1) (sec (vX s) (s 19) (s 26) l + 1) (s 26) (s 59) (by omega) (by omega) (by omega) ho.2.2.2 (fun j j0 j1 => hf j j0 (by omega))
      rw [e0, ← xg, ← y5] at g
      have g : m 107 0 = t 125 0 ∧ ∀ j, 0 ≤ j → j ≤ m 107 0 → m 26 j = t 59 j := g
      refine ⟨t, by rw [g.1], rfl, hx2, y3, hv2, ?_, ?_, ?_⟩
      · rw [q 22 (by decide), q 104 (by decide), y4 56 (by decide), y4 121 (by decide)]
        exact lv.2
      · rw [q 107 (by decide)]
        exact g.1
      · rw [q 107 (by decide), q 26 (by decide)]
        exact fun _ => g.2
def C_breakRivers (s m : Nat → Int → Int) (n : Int) : Prop := XI m ∧ KEEP BRB s m ∧ (0 ≤ n ∧ n ≤ 10) ∧ BRN (vX s) (s 19) (s 20) n.toNat (s 26) (s 107 0) (s 110 0) (m 26) (m 107 0) (m 110 0) ∧ (n = 10 ∨ ∃ st de, CAL (vX s) (s 19) (s 20) (m 26) (m 110 0) (m 107 0) (-1) st de)
theorem cx_breakRivers {s : Nat → Int → Int} {r : Option ab_V} {h : List ab_E} (hr : REL s) (hp : ∃ n s2, r = some (.inl n) ∧ h = WW s2 ∧ XI s2 ∧ KEEP BRB s s2 ∧ (0 ≤ n ∧ n ≤ 10) ∧ BRN (vX s) (s 19) (s 20) n.toNat (s 26) (s 107 0) (s 110 0) (s2 26) (s2 107 0) (s2 110 0) ∧ (n = 10 ∨ ∃ st de, CAL (vX s) (s 19) (s 20) (s2 26) (s2 110 0) (s2 107 0) (-1) st de)) : ∃ v m, r = some (.inl v) ∧ h = WW m ∧ MI m ∧ C_breakRivers s m v := by
  obtain ⟨n, m, rfl, rfl, a, b, c⟩ := hp
  exact ⟨n, m, rfl, rfl, MI_of (KEEP_M b (by decide)) hr.2.1, a, b, c⟩
theorem cy_breakRivers {s m : Nat → Int → Int} {v : Int} {r : Option ab_V} {h : List ab_E} (hr : REL s) (hc : C_breakRivers s m v) (hp : ∃ n t, r = some (.inl n) ∧ h = WW t ∧ MI t ∧ KEEP SWB m t ∧ (0 ≤ n ∧ n ≤ 10) ∧ BRMN (vM m) (m 57) (m 58) n.toNat (m 59) (m 125 0) (t 59) (t 125 0) ∧ (n = 10 ∨ ∃ fb, (∀ j, 0 ≤ j → j ≤ t 125 0 → t 59 j = fb j) ∧ BRK (vM m) (m 57) (m 58) fb (t 125 0) (-1))) : ∃ t, r = some (.inl v) ∧ h = WW t ∧ REL t := by
  obtain ⟨n, t, rfl, rfl, y1, y2, y3, y4, y5⟩ := hp
  obtain ⟨x, xk, x3, x4, x5⟩ := hc
  have hM : ∀ k, k ∈ MKl → m k = s k := KEEP_M xk (by decide)
  have hv := hr.2.2.1
  have el := hr.2.2.2.2.1
  rw [vM_of hM, hM 57 (by decide), hM 58 (by decide), ← hv] at y4 y5
  rw [hM 59 (by decide), hM 125 (by decide), ← el] at y4
  have hx := hr.1
  have b1 := BW_X hx
  have b2 := BW_M hr.2.1 hv
  have hST : STc (vX s) (s 26) (s 107 0) (s 110 0) := ⟨_, _, _, _, _, _, _, _, _, _, _, _, hx.2.2.2.2.1⟩
  have hn := BR_num hx.1 b1 b2 hx.2.2.2.1 hST hr.2.2.2.2.2 x3 y3 x4 y4 x5 y5
  subst hn
  have g := BRN_rel hx.1 b1 b2 hx.2.2.2.1 hST hr.2.2.2.2.2 v.toNat _ _ _ _ _ x4 y4
  have q : ∀ k, k ∈ XKl → t k = m k := KEEP_X y2 (by decide)
  have hx2 := XI_of q x
  refine ⟨t, rfl, rfl, hx2, y1, ?_, ?_, ?_, ?_⟩
  · rw [vX_of q, KEEP_vM y2 (by decide), vM_of hM, KEEP_vX xk (by decide)]
    exact hv
  · rw [q 22 (by decide), q 104 (by decide), y2 56 (by decide), y2 121 (by decide), xk 22 (by decide), xk 104 (by decide), xk 56 (by decide), xk 121 (by decide)]
    exact hr.2.2.2.1
  · rw [q 107 (by decide)]
    exact g.1
  · rw [q 107 (by decide), q 26 (by decide)]
    exact g.2.1
