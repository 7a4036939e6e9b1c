/-! THE CLAIM OUT OF ONE WALK OF THE LAW'S BODY. Your part is whole_start (and what it stands on); all else here is the same for every law, but numbers. -/
def R_law : String := "RiverJustifierLaw"
def lw_P (b : Addr) (xs : List Int32) (args : Array Value) (s : State) : Prop := args = #[.ref b] ∧ s.IntsAt b xs ∧ xs.length ≤ 260 ∧ (Jvm.Cond.and given_1 narrow_1).before args s = true
def lw_Q (_ : Array Value) (s : State) (o : Outcome) (t : State) : Prop := o = .returned (some (.int 1)) ∧ Framed s o t [] 49 2196
def lw_Z (below : List Frame) (a : Array Value) (s : State) : State → Prop := fun t => ∃ o, t.status = .running ∧ Ended t below o ∧ lw_Q a s o t
/-- the law's own end, with 1 on the stack, nothing written that was there before, its room as the claim has it -/
theorem lw_ret {p : Program} {l : Launch} {e : Env} {s : State} {m : MethodId} {below : List Frame} {meth : Method} {c : Code} {b : Nat} (hx : p.tables.exec = Jvm.exec) (hb : c.code = code) (hr : meth.sig.returnType = ret) (hlocks : meth.locks = false) {pc : Nat} {H : Heap} {ls : Array Slot} (hdg : decode code pc = .ok (.ireturn, 1)) : W p l e room_1 s m #[Value.ref b] below meth c H [] 49 2196 (lw_Z below #[Value.ref b] s) (F0 m pc ls [.int 1]) := by
  intro T hT X
  obtain ⟨fs, hret, hrun, hended, hW, hframe⟩ := X.leave (v := some (.int 1)) (hlocks := hlocks) (fun h => by rw [hr] at h; cases h)
  have hmeth' : T.vm.method? m = some meth := X.method'
  refine ⟨T.setFrames fs, ?_, .returned (some (.int 1)), hrun, hended, rfl, ⟨_, rfl⟩, hW, hframe⟩
  jvm_step X.here [X.here.top, hx, hb, hdg, hmeth', hr, ret, narrow_b1]
  (try refine ⟨rfl, ?_⟩); (try refine ⟨rfl, ?_⟩)
  first | (intro acts; rw [hret _ acts rfl rfl rfl]) | rw [hret _ _ rfl rfl rfl]
  exact Steps.refl _
/-- what holds at the law's entry: the machine, the code, the tables' words (any of lw_tbl by 'hts w (by decide +kernel)'), the script of L ints xs at the cell b, what the Statement gives of the start (any of its parts by flat_of_before) -/
def lw_At (p : Program) (s : State) (m : MethodId) (meth : Method) (c : Code) (b L : Nat) (xs : Nat → Int32) : Prop :=
  p.tables.exec = Jvm.exec ∧ c.code = code ∧ meth.sig.returnType = ret ∧ c.maxLocals = 7 ∧ s.vm.findClass R_law = some m.cls ∧ (∀ w ∈ lw_tbl, w.before #[Value.ref b] s = true) ∧ va_X b L xs s s.heap ∧ b < s.heap.size ∧ meth.locks = false ∧ (Jvm.Cond.and given_1 narrow_1).before #[Value.ref b] s = true
/-! the start -/
def tmS (i : Nat) : Term := Term.string (xsK.getD i ("", 0, "")).1 (xsK.getD i ("", 0, "")).2.1
theorem sr_in : ∀ e ∈ xsK, Cond.stringRef e.1 e.2.1 e.2.2 ∈ tables_1 := by decide +kernel
theorem nw_in : ∀ q ∈ xsN, Cond.methodLinkNest q.1 q.2.1 q.2.2.1 q.2.2.2 ∈ tables_1 := by decide +kernel
def gvF : List Cond := flatC (Jvm.Cond.and given_1 narrow_1)
theorem st_ex : ∀ i, i < 16 → Cond.exactly (tmS i) "java/lang/String" ∈ gvF := by decide +kernel
theorem st_co : ∀ i, i < 16 → Cond.eq (.field (tmS i) "java/lang/String" "coder" "B") (.int 0) ∈ gvF := by decide +kernel
theorem st_ar : ∀ i, i < 16 → Cond.arrayOf (.field (tmS i) "java/lang/String" "value" "[B") .byte ∈ gvF := by decide +kernel
theorem st_le : ∀ i, i < 16 → Cond.eq (.length (.field (tmS i) "java/lang/String" "value" "[B")) (.int (Int32.ofNat (xsL.getD i 0))) ∈ gvF := by decide +kernel
theorem st_el : ∀ i, i < 16 → ∀ j, j < xsL.getD i 0 → Cond.eq (.elem (.field (tmS i) "java/lang/String" "value" "[B") (.int (Int32.ofNat j))) (.int ((xsB.getD i []).getD j 0)) ∈ gvF := by decide +kernel
def neI : List (List Nat) := [[], [25], [32, 33], [44, 45, 46], [56, 57, 58, 59], [67, 68, 69, 70, 71], [79, 80, 81, 82, 83, 84], [92, 93, 94, 95, 96, 97, 98], [112, 113, 114, 115, 116, 117, 118, 119], [131, 132, 133, 134, 135, 136, 137, 138, 139], [148, 149, 150, 151, 152, 153, 154, 155, 156, 157], [167, 168, 169, 170, 171, 172, 173, 174, 175, 176, 177], [187, 188, 189, 190, 191, 192, 193, 194, 195, 196, 197, 198], [207, 208, 209, 210, 211, 212, 213, 214, 215, 216, 217, 218, 219], [230, 231, 232, 233, 234, 235, 236, 237, 238, 239, 240, 241, 242, 243], [256, 257, 258, 259, 260, 261, 262, 263, 264, 265, 266, 267, 268, 269, 270]]
theorem st_n0 : ∀ i, i < 16 → ∀ j, j < i → gvF[(neI.getD i []).getD j 0]? = some (Cond.not (Cond.eq (tmS j) (tmS i))) := by decide +kernel
theorem st_ne (i j : Nat) (hi : i < 16) (hj : j < 16) (hn : i ≠ j) : Cond.not (Cond.eq (tmS i) (tmS j)) ∈ gvF ∨ Cond.not (Cond.eq (tmS j) (tmS i)) ∈ gvF := by
  rcases (show i < j ∨ j < i by omega) with q | q
  · exact Or.inl (List.mem_of_getElem? (st_n0 j hj i q))
  · exact Or.inr (List.mem_of_getElem? (st_n0 i hi j q))
theorem st_cs : Cond.eq (.static "java/lang/String" "COMPACT_STRINGS" "Z") (.int 1) ∈ gvF := by decide +kernel
theorem st_sf : Cond.isRef (.static "jdk/internal/util/Preconditions" "SIOOBE_FORMATTER" "Ljava/util/function/BiFunction;") ∈ gvF := by decide +kernel
theorem st_sm : ∀ i, i < 16 → xsL.getD i 0 < 2 ^ 31 := by decide +kernel
set_option maxRecDepth 20000 in
set_option maxHeartbeats 4000000 in
/-- YOUR PART: from the entry, for every script of at most 260 ints, the law comes to its end with true ('hflags': the launch's flags, for a law that throws: no stack traces) -/
theorem whole_start {p : Program} {e : Env} {s : State} {m : MethodId} {below : List Frame} {meth : Method} {c : Code} (l : Launch) (hflags : l.flags = flags0) {b L : Nat} {xs : Nat → Int32} (hL : L ≤ 260) (C0 : lw_At p s m meth c b L xs) : W p l e room_1 s m #[Value.ref b] below meth c s.heap [] 0 0 (lw_Z below #[Value.ref b] s) (entryFrame m ([Value.ref b] : List Value).toArray 7) := by
  obtain ⟨hx, hb, hr, hml, hown, hts0, hX, hbl, hlocks, hgv⟩ := id C0
  have hts : ∀ w ∈ xtb, w.before #[Value.ref b] s = true := fun w hw => hts0 w (List.mem_filter.mp hw).1
  have hfl := flat_of_before _ hgv
  have hA : ∀ a : Nat, a < s.heap.size → ¬ (fun q : Nat => s.heap.size ≤ q) a := fun a h1 h2 => by
    have h2 : s.heap.size ≤ a := h2
    omega
  obtain ⟨c0, i0, k0⟩ := u_known (C := RX0) (T := TX0) (N := 4) (n := 4) hts inX0 (hts _ ln_X9_18.2.1)
  obtain ⟨c1, i1, k1⟩ := u_known (C := RX1) (T := TX1) (N := 12) (n := 12) hts inX1 (hts _ ln_X9_55.2.1)
  obtain ⟨c2, i2, k2⟩ := u_known (C := RX2) (T := TX2) (N := 8) (n := 8) hts inX2 (hts _ ln_X9_13.2.1)
  obtain ⟨c3, i3, k3⟩ := u_known (C := RX3) (T := TX3) (N := 3) (n := 3) hts inX3 (hts _ ln_X9_32.2.1)
  obtain ⟨c4, i4, k4⟩ := u_known (C := RX4) (T := TX4) (N := 6) (n := 6) hts inX4 (hts _ ln_X9_10.2.1)
  obtain ⟨c5, i5, k5⟩ := u_known (C := RX5) (T := TX5) (N := 8) (n := 8) hts inX5 (hts _ ln_X1_50.2.1)
  obtain ⟨c6, i6, k6⟩ := u_known (C := RX6) (T := TX6) (N := 6) (n := 6) hts inX6 (hts _ ln_X9_7.2.1)
  obtain ⟨c7, i7, k7⟩ := u_known (C := RX8) (T := TX8) (N := 2) (n := 2) hts inX8 (hts _ ln_X9_23.2.1)
  obtain ⟨c8, i8, k8⟩ := u_known (C := RX9) (T := TX9) (N := 8) (n := 8) hts inX9 (hts _ ln_L_16.2.1)
  obtain ⟨dC, dI, hKc⟩ : ∃ (dC : Nat → ClassId) (dI : Nat → Nat → Nat), ∀ (k : Nat) (q : vw_C), xcl[k]? = some q → u_Kn s q.1 q.2.1 q.2.2 (dC k) (dI k) := by
    refine ⟨fun k => match k with | 0 => c0 | 1 => c1 | 2 => c2 | 3 => c3 | 4 => c4 | 5 => c5 | 6 => c6 | 7 => c7 | _ => c8, fun k => match k with | 0 => i0 | 1 => i1 | 2 => i2 | 3 => i3 | 4 => i4 | 5 => i5 | 6 => i6 | 7 => i7 | _ => i8, ?_⟩
    intro k q hq
    match k, hq with
    | 0, hq => cases hq; exact k0
    | 1, hq => cases hq; exact k1
    | 2, hq => cases hq; exact k2
    | 3, hq => cases hq; exact k3
    | 4, hq => cases hq; exact k4
    | 5, hq => cases hq; exact k5
    | 6, hq => cases hq; exact k6
    | 7, hq => cases hq; exact k7
    | 8, hq => cases hq; exact k8
    | k + 9, hq => simp [xcl] at hq
  obtain ⟨a0, ka0, co0, ha0, hb0, he0⟩ := Cond.arrayClass_spec (hts _ xw_arr.2.1)
  obtain ⟨a1, ka1, co1, ha1, hb1, he1⟩ := Cond.arrayClass_spec (hts _ xw_arr.2.2.1)
  obtain ⟨a2, ka2, co2, ha2, hb2, he2⟩ := Cond.arrayClass_spec (hts _ xw_arr.2.2.2)
  obtain ⟨cA, hK⟩ : ∃ cA : Nat → ClassId, va_K (dC, dI) xcl (ab_ty cA) s := by
    refine ⟨fun k => match k with | 0 => a0 | 1 => a1 | _ => a2, hKc, fun k q h => ?_⟩
    match k, h with
    | 0, h => cases h; exact ⟨fun N z => ⟨fun k h => (by cases h), ka0, hb0, co0, he0⟩, ha0⟩
    | 1, h => cases h; exact ⟨fun N z => ⟨fun k h => (by cases h), ka1, hb1, co1, he1⟩, ha1⟩
    | 2, h => cases h; exact ⟨fun N z => ⟨fun k h => (by cases h), ka2, hb2, co2, he2⟩, ha2⟩
    | k + 3, h => simp [ab_ty] at h
  obtain ⟨adK, adV, hVS, hAd⟩ := vk_Sof (args := #[Value.ref b]) (s := s) (N := 16) (tm := tmS) (len := xsL) (byt := xsB) (A := fun q : Nat => s.heap.size ≤ q) st_sm (fun i hi => hfl _ (st_ex i hi)) (fun i hi => hfl _ (st_co i hi)) (fun i hi => hfl _ (st_ar i hi)) (fun i hi => hfl _ (st_le i hi)) (fun i hi j hj => hfl _ (st_el i hi j hj)) (fun i j hi hj hn => (st_ne i j hi hj hn).imp (fun z => hfl _ z) (fun z => hfl _ z)) hA
  have hCS : va_Z "java/lang/String" "COMPACT_STRINGS" "Z" (.int 1) (fun q : Nat => s.heap.size ≤ q) s s.heap := va_Zof (hts0 _ (List.mem_append_right _ (List.mem_of_getElem? (i := 342) (by decide +kernel)))) (hts0 _ (List.mem_append_right _ (List.mem_of_getElem? (i := 11) (by decide +kernel)))) (va_eqt (hfl _ st_cs)) hA
  obtain ⟨t, hSF⟩ : ∃ t : Nat, va_Z "jdk/internal/util/Preconditions" "SIOOBE_FORMATTER" "Ljava/util/function/BiFunction;" .null (fun q : Nat => s.heap.size ≤ q) s s.heap ∨ va_Z "jdk/internal/util/Preconditions" "SIOOBE_FORMATTER" "Ljava/util/function/BiFunction;" (.ref t) (fun q : Nat => s.heap.size ≤ q) s s.heap := by
    rcases va_Zqof (A := fun q : Nat => s.heap.size ≤ q) (hts0 _ (List.mem_append_right _ (List.mem_of_getElem? (i := 385) (by decide +kernel)))) (hts0 _ (List.mem_append_right _ (List.mem_of_getElem? (i := 15) (by decide +kernel)))) (hfl _ st_sf) hA with z | ⟨t, z⟩
    · exact ⟨0, Or.inl z⟩
    · exact ⟨t, Or.inr z⟩
  obtain ⟨A0, g3, g4, g1, g2⟩ : ∃ A0 : Nat → Nat, A0 3000 = b ∧ A0 3001 = t ∧ (∀ i, i < 16 → A0 (1000 + i) = adK i) ∧ ∀ i, i < 16 → A0 (2000 + i) = adV i := by
    refine ⟨fun k => if k = 3000 then b else if k = 3001 then t else if 2000 ≤ k then adV (k - 2000) else adK (k - 1000), rfl, rfl, fun i hi => ?_, fun i hi => ?_⟩
    · dsimp only
      rw [if_neg (by omega), if_neg (by omega), if_neg (by omega), show 1000 + i - 1000 = i by omega]
    · dsimp only
      rw [if_neg (by omega), if_neg (by omega), if_pos (by omega), show 2000 + i - 2000 = i by omega]
  have hag0 : ∀ A, ab_Ag true A0 0 A → ∀ k, 1000 ≤ k → A k = A0 k := fun A h k hk => by
    unfold ab_Ag at h
    rw [if_pos rfl] at h
    exact h k (Or.inr hk)
  have hAX : ∀ A, ab_Ag true A0 0 A → ab_X A (fun q : Nat => s.heap.size ≤ q) s s.heap := by
    intro A hag
    have h := hag0 A hag
    have e1 : ∀ i, i < 16 → A (1000 + i) = adK i := fun i hi => (h _ (by omega)).trans (g1 i hi)
    have e2 : ∀ i, i < 16 → A (2000 + i) = adV i := fun i hi => (h _ (by omega)).trans (g2 i hi)
    have e3 : A 3001 = t := (h _ (by omega)).trans g4
    refine ⟨⟨fun i hi => ?_, fun i j hi hj e => ?_⟩, hCS, ?_, fun i e he => ?_, fun q hq => va_Nw.of rfl (hts0 _ (List.mem_append_right _ (nw_in q hq)))⟩
    · dsimp only
      rw [e1 i hi, e2 i hi]
      exact hVS.1 i hi
    · have e : A (1000 + i) = A (1000 + j) := e
      rw [e1 i hi, e1 j hj] at e
      exact hVS.2 i j hi hj e
    · rw [e3]
      exact hSF
    · have hi : i < 16 := (List.getElem?_eq_some_iff.mp he).1
      have hg : xsK.getD i ("", 0, "") = e := by
        rw [List.getD_eq_getElem?_getD, he]
        rfl
      have hs := hAd i hi
      unfold tmS at hs
      rw [hg] at hs
      rw [e1 i hi]
      exact vk_R.of (hts0 _ (List.mem_append_right _ (sr_in e (List.mem_of_getElem? he)))) hs
  have ef : (fun j : Nat => ab_i ((fun j : Int => (xs j.toNat).toInt) (j : Int))) = xs := funext fun j => by
    show ab_i ((xs ((j : Int).toNat)).toInt) = xs j
    rw [ab_of]
    rfl
  have C : ab_Cl cL_law RL 7 room_1 true 0 false (some (L, fun j : Int => (xs j.toNat).toInt)) ret (fun r _ => r = some (.inl 1)) 49 2196 (ab_W p l e room_1 s m #[Value.ref b] below meth c (dC, dI) cA 7 (ab_Ag true A0 0) (fun q : Nat => s.heap.size ≤ q) (lw_Z below #[Value.ref b] s)) := by
    refine ⟨p, l, e, s, m, #[Value.ref b], below, meth, c, (dC, dI), cA, A0, _, _, ⟨hx, hb, hml, hown, hts, hK, fun q hq => hq, hAX, fun z => (by cases z), fun L' f hs A hag => ?_, ?_⟩, rfl⟩
    · cases hs
      rw [(hag0 A hag 3000 (by omega)).trans g3, ef]
      exact ⟨hX, hbl, hA b hbl⟩
    · intro A H locs ls pc r u hag hP hD hS hpost hrt hd
      subst hpost
      have hd : decode code pc = .ok (.ireturn, 1) := hd
      have e1 : ab_i 1 = 1 := by decide
      show W p l e room_1 s m #[Value.ref b] below meth c H locs 49 2196 (lw_Z below #[Value.ref b] s) (F0 m pc ls [.int (ab_i 1)])
      rw [e1]
      exact va_forget (fun q hq => hS.2.2 q hq) (lw_ret hx hb hr hlocks hd)
  have k1 := law_body hL (fun j => ab_rng _) _ C
  have hl := lv_entry ([.ref b]) (n := 7) (Nat.le_of_ble_eq_true rfl)
  rw [lg_entry_eq]
  refine k1 A0 s.heap [] _ ?_ rfl (fun k q h => by simp [ab_w] at h) ⟨fun i j p q h => by simp [ab_w] at h, fun k q h => by simp [ab_w] at h⟩ va_S.rf ?_
  · unfold ab_Ag
    rw [if_pos rfl]
    exact fun _ _ => rfl
  · have e : ab_l A0 0 [some (.inr (some 3000)), none, none, none, none, none, none] = [(0, Value.ref b)] := by
      show [(0, Value.ref (A0 3000))] = _
      rw [g3]
    rw [e]
    exact hl
set_option maxHeartbeats 4000000 in
theorem lw_walk (l : Launch) (hflags : l.flags = flags0) (b : Addr) (xs : List Int32) : MetFree l x (headSpec (Jvm.Cond.code x code maxLocals ret :: tables_1) room_1) (lw_P b xs) (fun _ _ _ _ _ => True) lw_Q := by
  refine MetFree.of_bodyS (code := code) (maxLocals := maxLocals) (ret := ret) (by decide) ?_ ?_
  · intro args s m h hn
    obtain ⟨meth, c, h1, h2, h3, h4, h5, h6, -, -⟩ := Cond.code_spec hn (atoms_spec (ws := Jvm.Cond.code x code maxLocals ret :: tables_1) h _ List.mem_cons_self)
    exact ⟨meth, c, h1, h2, h3, h4, h5, h6⟩
  · intro p e s m args below meth c s₁ B hml0 hP _
    obtain ⟨rfl, hx, hbd, hgv⟩ := hP
    obtain ⟨scr, harrAt, hlist, hof, hsmall⟩ := hx
    obtain ⟨hcb, hkn, -, -⟩ := State.arrayAt?_spec harrAt
    have hown : s.vm.findClass R_law = some m.cls := findClass_of_methodNamed B.named
    have hts0 : ∀ c ∈ (Jvm.Cond.code x code maxLocals ret :: tables_1), c.before #[Value.ref b] s = true := atoms_spec (ws := Jvm.Cond.code x code maxLocals ret :: tables_1) B.pre
    have hts : ∀ w ∈ lw_tbl, w.before #[Value.ref b] s = true := k2_hts_sels lw_privs (fun w hw => hts0 w (List.mem_cons_of_mem _ hw)) lw_privs_ok
    have hml : c.maxLocals = 7 := B.maxLocals_eq (hts0 _ List.mem_cons_self)
    have X₀ : Stand p l e room_1 s m #[Value.ref b] below meth c s₁ [] 0 0 := Stand.of_body B
    have hh0 : s₁.heap = s.heap := by rw [B.state]; rfl
    have hsz : scr.slots.size = xs.length := by rw [← Array.length_toList, hlist, List.length_map]
    have hval : ∀ j : Nat, j < xs.length → scr.slots[j]? = some (.int (xs.getD j 0)) := fun j hj => by
      rw [← Array.getElem?_toList, hlist]
      simp [hj]
    have hbl : b < s.heap.size := (Array.getElem?_eq_some_iff.mp hcb).1
    have hX : va_X b xs.length (fun j => xs.getD j 0) s s.heap := ⟨scr, hcb, hof, hkn, hsz, hval⟩
    have K : W p l e room_1 s m #[Value.ref b] below meth c s₁.heap [] 0 0 (lw_Z below #[Value.ref b] s) (entryFrame m ([Value.ref b] : List Value).toArray 7) := by
      rw [hh0]
      exact whole_start l hflags hbd ⟨B.exec, B.bytes, B.returns, hml, hown, hts, hX, hbl, B.notSynchronized, hgv⟩
    obtain ⟨t, a1, o, b1, b2, b3⟩ := K s₁ rfl X₀
    exact ⟨t, o, a1, b1, b2, b3⟩
theorem lw_pre_spec {args : Array Value} {s : State} (h : (Jvm.Cond.and given_1 narrow_1).before args s = true) (hr : rest_1_c.before args s = true) : ∃ (b : Addr) (xs : List Int32), lw_P b xs args s := by
  have hs := flat_of_before _ h
  have hq := flat_of_before _ hr
  have hc : (Cond.count 1).before args s = true := hs _ (by decide +kernel)
  have harr : (Cond.arrayOf (.arg 0) .int).before args s = true := hs _ (by decide +kernel)
  have hle : (Cond.le (.length (.arg 0)) (.int 260)).before args s = true := hs _ (by decide +kernel)
  have hlen : (Cond.isInt (.length (.arg 0))).before args s = true := hq _ (by decide +kernel)
  have hall : (Cond.all (.arg 0) (.isInt (.elem (.arg 0) (.index 0)))).before args s = true := hq _ (by decide +kernel)
  obtain ⟨b, xs, hb, hx⟩ := State.ints_of_pre rfl harr hlen hall
  have hsm : xs.length < 2 ^ 31 := hx.choose_spec.2.2.2
  have hev : (Term.length (.arg 0)).eval args s none [] s = some (.int xs.length.toInt32) := hx.length_eval hb
  have hv := Cond.le_ints hev (show (Term.int 260).eval args s none [] s = some (.int 260) from rfl)
  have hd : xs.length.toInt32 ≤ 260 := by
    simpa [Cond.before, Cond.holds, hv] using hle
  have hN : xs.length ≤ 260 := (Int32.ofNat_le_ofNat hsm (by decide)).mp (show Int32.ofNat xs.length ≤ Int32.ofNat 260 from hd)
  exact ⟨b, xs, Cond.one_arg hc (show args[0]? = some (.ref b) from hb), hx, hN, h⟩
theorem lw_comes (l : Launch) (hflags : l.flags = flags0) : Comes l x (Jvm.Cond.code x code maxLocals ret :: tables_1) room_1 (fun tb e args s => Calls_1 tb e args s ∧ rest_1 tb e args s ∧ Pre_1 tb e args s)
    (fun _ _ args s o t => lw_Q args s o t) := by
  intro p e ha hc hk s m args below hf hfit hheap happ hpre
  obtain ⟨b, xs, hP⟩ := lw_pre_spec hpre.2.2 hpre.2.1
  obtain ⟨k, o, h1, h2, h3, hQ⟩ := lw_walk l hflags b xs p e ha hc hk s m args below hf ((Spec.applies_iff_loose hf).mp happ).1 hP trivial
  exact ⟨k, o, h1, h2, h3, hQ⟩
theorem lw_frame {s t : State} {o : Outcome} {args : Array Value} (h : Framed s o t [] 49 2196) :
    Framed s o t (fieldLocs frame_1_writes args s ++ arrayLocs frame_1_arrays args s ++ staticLocs frame_1_statics s) 49 2196 := h
theorem lw_limb (L : Cond) (hL : ∀ (args : Array Value) (s t : State), L.after args s (.returned (some (.int 1))) t = true) :
    ArmFor flags0 classFile x code maxLocals ret World_1 tables_1 room_1 Calls_1 rest_1 Pre_1
      (fun tb e a s o t => postC L tb e a s o t ∧ Framed s o t (fieldLocs frame_1_writes a s ++ arrayLocs frame_1_arrays a s ++ staticLocs frame_1_statics s) 49 2196) := by
  intro l hflags _ _ p e ha hc hk s m args below hf hfit hheap happ hpre
  obtain ⟨k, o, h1, h2, h3, rfl, hF⟩ := lw_comes l hflags p e ha hc hk s m args below hf hfit hheap happ hpre
  exact ⟨k, _, h1, h2, h3, hL args s _, lw_frame hF⟩
theorem i_vc : Claimed_1_1 ∧ Claimed_1_2 := ⟨lw_limb limb_1_1 (fun args s t => by simp [limb_1_1, Cond.after, Cond.holds, Cond.value]), lw_limb limb_1_2 (fun args s t => Cond.after_iff.mpr (by
  first | (rw [show limb_1_2 = Cond.eq .result (.int 1) from rfl, Cond.eq_ints (x := 1) (y := 1) rfl rfl]; simp; done) | (simp [limb_1_2, Cond.value, Term.eval]; done)))⟩
