/-! p23: more rows of the engine -/
section ABR2
variable {cc : ByteArray} {own : String} {nL : Nat} {R : Room} {al : Bool} {n0 : Nat} {ini : Bool} {sc : Option (Nat × (Int → Int))} {ret : Option FieldType} {post : Option ab_V → List ab_E → Prop} {mc ms : Nat} {V : ab_J} {pc : Nat} {L : ab_L} {st : List ab_V} {h : List ab_E} {kc ks : Nat}
theorem rb_iandx (hV : ab_Cl cc own nL R al n0 ini sc ret post mc ms V) {x y : Int} (hd : decode cc pc = .ok (.iand, 1)) (k : ∀ z, ab_r z → V (pc + 1) L (.inl z :: st) h kc ks) : V pc L (.inl y :: .inl x :: st) h kc ks := by
  obtain ⟨p, l, e, s, m, args, below, meth, c, D, cA, A0, Af, Q, ⟨hx, hb, hml, hown, hts, hK, hAf, hX, hini, hsc, hret⟩, rfl⟩ := hV
  intro A H locs ls hag hL hP hD hS hl
  have k1 := k (ab_i x &&& ab_i y).toInt (ab_rng _) A H locs ls hag hL hP hD hS hl
  refine lv_iand hx hb hd ?_
  rw [← ab_of (ab_i x &&& ab_i y)]
  exact k1
theorem rb_iandp (hV : ab_Cl cc own nL R al n0 ini sc ret post mc ms V) {x : Int} (hd : decode cc pc = .ok (.iand, 1)) (k : ∀ z, 0 ≤ z → ab_r z → V (pc + 1) L (.inl z :: st) h kc ks) : V pc L (.inl 2147483647 :: .inl x :: st) h kc ks := by
  obtain ⟨p, l, e, s, m, args, below, meth, c, D, cA, A0, Af, Q, ⟨hx, hb, hml, hown, hts, hK, hAf, hX, hini, hsc, hret⟩, rfl⟩ := hV
  intro A H locs ls hag hL hP hD hS hl
  have h1 := pk_and (ab_i x) (m := ab_i 2147483647) 31 (by decide)
  have h2 := ab_toN (z := (((ab_i x).toBitVec.toNat % 2 ^ 31 : Nat) : Int)) (by omega) (by omega)
  have k1 := k (((ab_i x).toBitVec.toNat % 2 ^ 31 : Nat) : Int) (by omega) ⟨by omega, by omega⟩ A H locs ls hag hL hP hD hS hl
  refine lv_iand hx hb hd ?_
  rw [h1, show nI ((ab_i x).toBitVec.toNat % 2 ^ 31) = ab_i (((ab_i x).toBitVec.toNat % 2 ^ 31 : Nat) : Int) from by rw [h2, show (((((ab_i x).toBitVec.toNat % 2 ^ 31 : Nat) : Int)).toNat) = (ab_i x).toBitVec.toNat % 2 ^ 31 by omega]]
  exact k1
theorem rb_ishrx (hV : ab_Cl cc own nL R al n0 ini sc ret post mc ms V) {x y : Int} (hd : decode cc pc = .ok (.ishr, 1)) (k : ∀ z, ab_r z → V (pc + 1) L (.inl z :: st) h kc ks) : V pc L (.inl y :: .inl x :: st) h kc ks := by
  obtain ⟨p, l, e, s, m, args, below, meth, c, D, cA, A0, Af, Q, ⟨hx, hb, hml, hown, hts, hK, hAf, hX, hini, hsc, hret⟩, rfl⟩ := hV
  intro A H locs ls hag hL hP hD hS hl
  have k1 := k (ab_i x >>> (ab_i y &&& 31)).toInt (ab_rng _) A H locs ls hag hL hP hD hS hl
  refine lv_ishr hx hb hd ?_
  rw [← ab_of (ab_i x >>> (ab_i y &&& 31))]
  exact k1
theorem rb_irem (hV : ab_Cl cc own nL R al n0 ini sc ret post mc ms V) {x y : Int} (hd : decode cc pc = .ok (.irem, 1)) (hr : ab_r x ∧ ab_r y) (hy : y ≠ 0) (k : V (pc + 1) L (.inl (x - x.tdiv y * y) :: st) h kc ks) : V pc L (.inl y :: .inl x :: st) h kc ks := by
  obtain ⟨p, l, e, s, m, args, below, meth, c, D, cA, A0, Af, Q, ⟨hx, hb, hml, hown, hts, hK, hAf, hX, hini, hsc, hret⟩, rfl⟩ := hV
  intro A H locs ls hag hL hP hD hS hl
  have k1 := k A H locs ls hag hL hP hD hS hl
  refine lv_irem hx hb hd (fun z => hy ((ab_eq hr.2 ab_r0).mp (by rw [z, ab_0]))) ?_
  rw [ab_div hr.1 hr.2, ab_mul, ab_sub]
  exact k1
theorem rb_ldcI (hV : ab_Cl cc own nL R al n0 ini sc ret post mc ms V) {idx : Nat} {w : Int32} {z : Int} (hd : decode cc pc = .ok (.ldc idx, 2)) (hw : Cond.constant own idx w ∈ xtb) (hz : w = ab_i z) (k : V (pc + 2) L (.inl z :: st) h kc ks) : V pc L st h kc ks := by
  obtain ⟨p, l, e, s, m, args, below, meth, c, D, cA, A0, Af, Q, ⟨hx, hb, hml, hown, hts, hK, hAf, hX, hini, hsc, hret⟩, rfl⟩ := hV
  intro A H locs ls hag hL hP hD hS hl
  subst hz
  exact lv_ldc hx hb hown (hts _ hw) hd (k A H locs ls hag hL hP hD hS hl)
end ABR2
def ab_Ps (n : Nat) (f : Int → Int) (D : va_G) (cA : Nat → ClassId) (A : Nat → Nat) (sz : Nat) (as : List ab_V) (h : List ab_E) : Array Value → State → Prop :=
  va_Pc (as.map (ab_v A)) (fun U => (U.heap.size = sz ∧ va_P D xcl (ab_w A cA 0 h) U.heap ∧ va_K D xcl (ab_ty cA) U ∧ va_D (fun _ => True) (ab_w A cA 0 h) ∧ ab_X A (va_A (ab_w A cA 0 h) sz) U U.heap) ∧ va_X (A 3000) n (fun j => ab_i (f (j : Int))) U U.heap ∧ A 3000 < U.heap.size ∧ ¬ va_A (ab_w A cA 0 h) sz (A 3000))
/-- a contract of a method that reads the script (n ints, f) -/
def ab_Ms (n : Nat) (f : Int → Int) (y : MethodName) (cc : ByteArray) (nL : Nat) (ret : Option FieldType) (rm : Room) (as : List ab_V) (h : List ab_E) (post : Option ab_V → List ab_E → Prop) : Prop :=
  ∀ (l : Launch) (D : va_G) (cA : Nat → ClassId) (A : Nat → Nat) (sz : Nat), Met l y (.code y cc nL ret :: xtb) rm (ab_Ps n f D cA A sz as h) (ab_Qc post D cA (ab_Ag false A h.length) (va_A (ab_w A cA 0 h) sz)) 0 0 (va_A (ab_w A cA 0 h) sz)
theorem ab_blindS {n : Nat} {f : Int → Int} {D : va_G} {cA : Nat → ClassId} {A : Nat → Nat} {sz : Nat} {as : List ab_V} {h : List ab_E} : FrameBlind (ab_Ps n f D cA A sz as h) := fun a U g mk q => by
  obtain ⟨e, ⟨q1, q2, q3, q4, q5⟩, q6, q7, q8⟩ := q
  exact ⟨e, ⟨q1, q2, va_K.moved (u := U) (U := U.calling g mk a) (Vm.Alike.refl U.vm) q3, q4, ab_X.same (u := U) (U := U.calling g mk a) rfl (Vm.Alike.refl U.vm) q5⟩, va_X.moved (u := U) (U := U.calling g mk a) (Vm.Alike.refl U.vm) q6, q7, q8⟩
theorem ab_mkS {n : Nat} {f : Int → Int} {y : MethodName} {cc : ByteArray} {nL : Nat} {ret : Option FieldType} {rm : Room} {as : List ab_V} {h : List ab_E} {post : Option ab_V → List ab_E → Prop} (own : String) (ini : Bool)
    (hown : y.cls = own) (hy : plainName y.cls = true) (hin : ini = true → y.name = "<init>") (hlen : as.length ≤ nL)
    (body : ∀ V : ab_J, ab_Cl cc own nL rm false h.length ini (some (n, f)) ret post 0 0 V → V 0 (as.map some ++ List.replicate (nL - as.length) none) [] h 0 0) : ab_Ms n f y cc nL ret rm as h post := by
  intro l D cA A0 sz
  refine Met.ofW (cc := cc) (maxL := nL) (ret := ret) hy rfl ?_
  intro p e s m args below meth c s₁ B hml hv
  obtain ⟨rfl, ⟨hsz, hP, hK, hD0, hX⟩, hs1, hs2, hs3⟩ := hv
  have hx := B.exec
  have hb := B.bytes
  have hr := B.returns
  have hts0 := atoms_spec (ws := .code y cc nL ret :: xtb) B.pre
  have hts : ∀ w ∈ xtb, w.before (as.map (ab_v A0)).toArray s = true := fun w hw => hts0 w (List.mem_cons_of_mem _ hw)
  have hown' : s.vm.findClass own = some m.cls := by rw [← hown]; exact findClass_of_methodNamed B.named
  have hlocks := B.notSynchronized
  subst hsz
  have hD := hD0.self (sz := s.heap.size)
  have hS : va_S (va_A (ab_w A0 cA 0 h) s.heap.size) s.heap s.heap [] := va_S.rf
  have hAg0 : ab_Ag false A0 h.length A0 := rfl
  have hXA : ∀ A, ab_Ag false A0 h.length A → ab_X A (va_A (ab_w A0 cA 0 h) s.heap.size) s s.heap := by
    intro A hA
    have hA' : ∀ k, 1000 ≤ k → A k = A0 k := fun k _ => by rw [show A = A0 from hA]
    have e1 : (fun i => A (1000 + i)) = fun i => A0 (1000 + i) := funext fun i => hA' _ (by omega)
    have e2 : (fun i => A (2000 + i)) = fun i => A0 (2000 + i) := funext fun i => hA' _ (by omega)
    have e3 : A 3001 = A0 3001 := hA' _ (by omega)
    unfold ab_X at hX ⊢
    rw [e1, e2, e3]
    exact ⟨hX.1, hX.2.1, hX.2.2.1, fun i q hq => by rw [hA' (1000 + i) (by omega)]; exact hX.2.2.2.1 i q hq, hX.2.2.2.2⟩
  have C : ab_Cl cc own nL rm false h.length ini (some (n, f)) ret post 0 0 (ab_W p l e rm s m (as.map (ab_v A0)).toArray below meth c D cA nL (ab_Ag false A0 h.length) (va_A (ab_w A0 cA 0 h) s.heap.size) (MQ below (ab_Qc post D cA (ab_Ag false A0 h.length) (va_A (ab_w A0 cA 0 h) s.heap.size)) (as.map (ab_v A0)).toArray s 0 0 (va_A (ab_w A0 cA 0 h) s.heap.size))) := by
    refine ⟨p, l, e, s, m, _, below, meth, c, D, cA, A0, _, _, ⟨hx, hb, hml, hown', hts, hK, fun q hq => Or.inr hq, hXA, fun hi => ?_, fun L f2 hsc A hA => (by cases hsc; have hA : A = A0 := hA; subst hA; exact ⟨hs1, hs2, hs3⟩), ?_⟩, rfl⟩
    · rw [(name_of_methodNamed B.named B.method).1]
      exact hin hi
    · intro A H locs ls pc r u hag hP' hD' hS' hpost hrt hd
      have hq : ∀ t : State, t.heap = H → s.WarmedH t.vm → ab_Qc post D cA (ab_Ag false A0 h.length) (va_A (ab_w A0 cA 0 h) s.heap.size) (as.map (ab_v A0)).toArray s (.returned (r.map (ab_v A))) t := fun t ht hW =>
        ⟨⟨r, u, A, rfl, hpost, hag, by rw [ht]; exact hP', va_K.moved hW.alike hK, hD'⟩, hS'.F ht⟩
      rcases r with _ | (z | k)
      · cases ret with
        | none => exact W.vret hx hb hr hq hS'.2.2 hd
        | some ty => cases ty <;> exact hrt.elim
      · cases ret with
        | none => exact hrt.elim
        | some ty =>
          cases ty with
          | int => exact W.iret (v := ab_i z) hx hb hr hq hS'.2.2 hd
          | boolean => exact W.zret (v := ab_i z) hx hb hr (ab_nrz hrt) hq hS'.2.2 hd
          | char => exact W.zret (v := ab_i z) hx hb hr (ab_nrc hrt) hq hS'.2.2 hd
          | byte => exact W.zret (v := ab_i z) hx hb hr (ab_nrb hrt) hq hS'.2.2 hd
          | _ => exact hrt.elim
      · cases ret with
        | none => exact hrt.elim
        | some ty => cases ty <;> exact hrt.elim
  have k1 := body _ C
  have hl := lv_entry (as.map (ab_v A0)) (n := nL) ?_
  · rw [lg_entry_eq]
    refine k1 A0 s.heap [] _ hAg0 ?_ hP hD hS ?_
    · rw [List.length_append, List.length_map, List.length_replicate]; omega
    · refine ab_lmono hl fun q hq => ?_
      obtain ⟨i, v, h1, h2⟩ := (ab_l_mem A0 _ 0 q).mp hq
      rw [Nat.zero_add] at h2
      have hi : as[i]? = some v := by
        by_cases hi : i < (as.map some).length
        · rw [List.getElem?_append_left hi, List.getElem?_map] at h1
          cases hz : as[i]? with
          | none => rw [hz] at h1; cases h1
          | some w => rw [hz] at h1; cases h1; rfl
        · rw [List.getElem?_append_right (by omega)] at h1
          have := List.getElem?_replicate (n := nL - as.length) (a := (none : Option ab_V)) (i := i - (as.map some).length)
          rw [this] at h1
          split at h1 <;> cases h1
      rw [h2]
      have := ab_args A0 as 0 i v hi
      rwa [Nat.zero_add] at this
  · rw [ab_sl_len]
    exact hlen
section ABC2
variable {cc : ByteArray} {own : String} {nL : Nat} {R : Room} {al : Bool} {n0 : Nat} {ini : Bool} {sc : Option (Nat × (Int → Int))} {ret : Option FieldType} {post : Option ab_V → List ab_E → Prop} {mc ms : Nat} {V : ab_J} {pc : Nat} {L : ab_L} {st rest : List ab_V} {h : List ab_E} {kc ks : Nat}
variable {y : MethodName} {cc2 : ByteArray} {nL2 : Nat} {ret2 : Option FieldType} {rm2 : Room} {as : List ab_V} {post2 : Option ab_V → List ab_E → Prop} {idx q n : Nat}
theorem rb_callSs {n1 : Nat} {f1 : Int → Int} (hV : ab_Cl cc own nL R al n0 ini sc ret post mc ms V) (hd : decode cc pc = .ok (.invokestatic idx, 3)) (hs : sc = some (n1, f1)) (hM : ab_Ms n1 f1 y cc2 nL2 ret2 rm2 as h post2) (hlk : ab_LS own idx y cc2 nL2 ret2 n) (hn : as.length = n) (hst : st = as.reverse ++ rest) (hrm : ab_Rm rm2 R nL2 0 0 kc ks) (hre : rest.length ≤ 8) (k : ∀ (r : Option ab_V) (h2 : List ab_E), post2 r h2 → V (pc + 3) L (r.toList ++ rest) h2 kc ks) : V pc L st h kc ks := by
  obtain ⟨p, l, e, s, m, args, below, meth, c, D, cA, A0, Af, Q, ⟨hx, hb, hml, hown, hts, hK, hAf, hX, hini, hsc, hret⟩, rfl⟩ := hV
  intro A H locs ls hag hL hP hD hS hl
  subst hst
  have hfree : ∀ z, va_A (ab_w A cA 0 h) H.size z → Af z := fun z hz => by
    rcases hz with ⟨k, e, he⟩ | hz
    · exact hD.2 k _ he
    · exact hAf _ (Nat.le_trans hS.1 hz)
  have hsq := hsc n1 f1 hs A hag
  have hpre : ∀ U : State, U.heap = H → s.WarmedH U.vm → ab_Ps n1 f1 D cA A H.size as h (as.map (ab_v A)).toArray U := fun U hU hW =>
    ⟨rfl, ⟨by rw [hU], by rw [hU]; exact hP, va_K.moved hW.alike hK, hD.weaken (fun _ _ _ _ => trivial), by rw [hU]; exact ((hX A hag).warm hW hS.2.1).narrow hfree⟩, by rw [hU]; exact (va_X.moved hW.alike hsq.1).kept (hS.2.1 _ hsq.2.1 hsq.2.2), by rw [hU]; exact Nat.lt_of_lt_of_le hsq.2.1 hS.1, fun z => hsq.2.2 (hfree _ z)⟩
  obtain ⟨⟨g1, g2, g4, g5⟩, g6, g7, g8⟩ := hlk
  obtain ⟨r1, r2, r3, r4, r5, r6⟩ := hrm
  have hstk : (as.reverse ++ rest).map (ab_v A) = (as.map (ab_v A)).reverse ++ rest.map (ab_v A) := by rw [List.map_append, List.map_reverse]
  have hW8 : 2 * (F0 m pc ls ((as.reverse ++ rest).map (ab_v A))).monitorRoom + ((rest.map (ab_v A)).map fun v => v.category).sum ≤ 8 := by show 2 * 0 + _ ≤ 8; rw [ab_sum]; omega
  rcases g1 with g1 | ⟨host, g1⟩
  · have hG : GoodIn xtb (va_wsS own idx y (.code y cc2 nL2 ret2 :: xtb)) := ab_good_in fun w hw => by
      simp only [va_wsS, List.mem_append, List.mem_cons, List.not_mem_nil, or_false] at hw
      rcases hw with (rfl | rfl | rfl) | rfl | hw
      · exact g1
      · exact g2
      · exact g4
      · exact g5
      · exact hw
    have hrun := va_runS (locs := locs) (meth := meth) (below := below) (e := e) (As := as.map (ab_v A)) (rest := rest.map (ab_v A)) (g := F0 m pc ls ((as.reverse ++ rest).map (ab_v A))) ⟨hx, hb, hml, hown, hts⟩ (hM l D cA A H.size) (va_cwS n hts hG rfl r1 r2 ⟨g6, g7, g8⟩ ⟨r3, r4⟩) ⟨ab_blindS, hpre⟩ rfl (by rw [List.length_map]; exact hn) hl.1 hstk hW8 hd ⟨r5, r6⟩
    refine ab_callg hrun hS hfree hfree (fun r u A' H1 locs1 hp hag' P1 D1 S1 => ?_)
    have hA' : A' = A := hag'
    subst hA'
    rw [ab_pushed]
    exact k r u hp A' H1 locs1 ls hag hL P1 D1 S1 hl
  · have hG : GoodIn xtb (.code y cc2 nL2 ret2 :: xtb) := ab_good_in fun w hw => by
      rcases List.mem_cons.mp hw with rfl | hw
      · exact g5
      · exact hw
    have hrun := va_runSN (locs := locs) (meth := meth) (below := below) (e := e) (As := as.map (ab_v A)) (rest := rest.map (ab_v A)) (g := F0 m pc ls ((as.reverse ++ rest).map (ab_v A))) ⟨hx, hb, hml, hown, hts⟩ (hM l D cA A H.size) ⟨va_cnB n hts hG rfl r1 r2 ((hX A hag).2.2.2.2 _ g1) (hts _ g4) ⟨g6, g7, g8⟩ ⟨r3, r4⟩, hts _ g2, trivial⟩ ⟨ab_blindS, hpre⟩ rfl (by rw [List.length_map]; exact hn) hl.1 hstk hW8 hd ⟨r5, r6⟩
    refine ab_callg hrun hS hfree hfree (fun r u A' H1 locs1 hp hag' P1 D1 S1 => ?_)
    have hA' : A' = A := hag'
    subst hA'
    rw [ab_pushed]
    exact k r u hp A' H1 locs1 ls hag hL P1 D1 S1 hl
end ABC2
