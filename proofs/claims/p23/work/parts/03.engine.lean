/-! THE ENGINE: a small machine over whole numbers (ints as Int, cells by their places), sound for the kit's W; a method is walked in it -/
abbrev ab_V : Type := Int ⊕ Option Nat
abbrev ab_E : Type := (Nat × Nat × (Int → Int)) ⊕ (Nat × List ab_V)
abbrev ab_L : Type := List (Option ab_V)
def ab_i (z : Int) : Int32 := Int32.ofInt z
def ab_r (z : Int) : Prop := -2147483648 ≤ z ∧ z ≤ 2147483647
def ab_v (A : Nat → Nat) (v : ab_V) : Value := match v with
  | .inl z => .int (ab_i z)
  | .inr none => .null
  | .inr (some k) => .ref (A k)
def ab_e (A : Nat → Nat) (cA : Nat → ClassId) (e : ab_E) : va_E := match e with
  | .inl (t, n, f) => .inl (cA t, n, .inl (fun j => ab_i (f (j : Int))))
  | .inr (ci, fs) => .inr (ci, fs.map (ab_v A))
def ab_w (A : Nat → Nat) (cA : Nat → ClassId) : Nat → List ab_E → va_W
  | _, [] => []
  | k, e :: r => (A k, ab_e A cA e) :: ab_w A cA (k + 1) r
def ab_l (A : Nat → Nat) : Nat → ab_L → List (Nat × Value)
  | _, [] => []
  | k, none :: r => ab_l A (k + 1) r
  | k, some v :: r => (k, ab_v A v) :: ab_l A (k + 1) r
/-- an int array's function with one place changed -/
def ab_u (f : Int → Int) (k v : Int) : Int → Int := fun j => if j = k then v else f j
theorem ab_toInt {z : Int} (h : ab_r z) : (ab_i z).toInt = z := Int32.toInt_ofInt_of_le (by have := h.1; omega) (by have := h.2; omega)
theorem ab_of (x : Int32) : ab_i x.toInt = x := Int32.ofInt_toInt x
theorem ab_rng (x : Int32) : ab_r x.toInt := by
  have h1 := Int32.toInt_lt x
  have h2 := Int32.le_toInt x
  exact ⟨by omega, by omega⟩
theorem ab_lt {x y : Int} (hx : ab_r x) (hy : ab_r y) : ab_i x < ab_i y ↔ x < y := by rw [Int32.lt_iff_toInt_lt, ab_toInt hx, ab_toInt hy]
theorem ab_le {x y : Int} (hx : ab_r x) (hy : ab_r y) : ab_i x ≤ ab_i y ↔ x ≤ y := by rw [Int32.le_iff_toInt_le, ab_toInt hx, ab_toInt hy]
theorem ab_eq {x y : Int} (hx : ab_r x) (hy : ab_r y) : ab_i x = ab_i y ↔ x = y := by
  refine ⟨fun h => ?_, fun h => by rw [h]⟩
  have := congrArg Int32.toInt h
  rwa [ab_toInt hx, ab_toInt hy] at this
theorem ab_add (x y : Int) : ab_i x + ab_i y = ab_i (x + y) := (Int32.ofInt_add x y).symm
theorem ab_sub (x y : Int) : ab_i x - ab_i y = ab_i (x - y) := (Int32.ofInt_sub x y).symm
theorem ab_mul (x y : Int) : ab_i x * ab_i y = ab_i (x * y) := (Int32.ofInt_mul x y).symm
theorem ab_neg (x : Int) : - ab_i x = ab_i (-x) := (Int32.ofInt_neg x).symm
theorem ab_div {x y : Int} (hx : ab_r x) (hy : ab_r y) : ab_i x / ab_i y = ab_i (x.tdiv y) := by
  have m1 : Int32.minValue.toInt = -2147483648 := by decide
  have m2 : Int32.maxValue.toInt = 2147483647 := by decide
  exact (Int32.ofInt_tdiv (by rw [m1]; exact hx.1) (by rw [m2]; exact hx.2) (by rw [m1]; exact hy.1) (by rw [m2]; exact hy.2)).symm
theorem ab_0 : ab_i 0 = 0 := by decide
theorem ab_r0 : ab_r 0 := by unfold ab_r; omega
theorem ab_clamp {z : Int} (h : ab_r z) : (ab_i z).toNatClampNeg = z.toNat := by
  show (ab_i z).toInt.toNat = z.toNat
  rw [ab_toInt h]
theorem ab_vin {z : Int} {n : Nat} (hn : n < 2147483648) (h0 : 0 ≤ z) (h1 : z < n) : vp_in (ab_i z) n := by
  have hr : ab_r z := ⟨by omega, by omega⟩
  refine vp_in_iff.mpr ?_
  rw [ab_toInt hr]
  exact ⟨h0, h1⟩
theorem ab_cat (A : Nat → Nat) (v : ab_V) : (ab_v A v).category = 1 := by
  rcases v with z | (_ | k) <;> rfl
theorem ab_w_get (A : Nat → Nat) (cA : Nat → ClassId) : ∀ (h : List ab_E) (k j : Nat), (ab_w A cA k h)[j]? = (h[j]?).map (fun e => (A (k + j), ab_e A cA e))
  | [], k, j => by simp [ab_w]
  | e :: r, k, 0 => by simp [ab_w]
  | e :: r, k, j + 1 => by
    rw [ab_w, List.getElem?_cons_succ, List.getElem?_cons_succ, ab_w_get A cA r (k + 1) j, show k + 1 + j = k + (j + 1) by omega]
theorem ab_w_at {A : Nat → Nat} {cA : Nat → ClassId} {h : List ab_E} {j : Nat} {e : ab_E} (he : h[j]? = some e) : (ab_w A cA 0 h)[j]? = some (A j, ab_e A cA e) := by
  rw [ab_w_get, he, Nat.zero_add]
  rfl
theorem ab_w_set (A : Nat → Nat) (cA : Nat → ClassId) (e : ab_E) : ∀ (h : List ab_E) (k j : Nat), (ab_w A cA k h).set j (A (k + j), ab_e A cA e) = ab_w A cA k (h.set j e)
  | [], k, j => by simp [ab_w]
  | x :: r, k, 0 => by simp [ab_w]
  | x :: r, k, j + 1 => by
    rw [ab_w, List.set_cons_succ, List.set_cons_succ, ab_w, show k + (j + 1) = k + 1 + j by omega, ab_w_set A cA e r (k + 1) j]
theorem ab_w_put (A : Nat → Nat) (cA : Nat → ClassId) (e : ab_E) (h : List ab_E) (j : Nat) : (ab_w A cA 0 h).set j (A j, ab_e A cA e) = ab_w A cA 0 (h.set j e) := by
  have := ab_w_set A cA e h 0 j
  rwa [Nat.zero_add] at this
theorem ab_w_app (A : Nat → Nat) (cA : Nat → ClassId) (e : ab_E) : ∀ (h : List ab_E) (k : Nat), ab_w A cA k (h ++ [e]) = ab_w A cA k h ++ [(A (k + h.length), ab_e A cA e)]
  | [], k => rfl
  | x :: r, k => by
    rw [List.cons_append, ab_w, ab_w, ab_w_app A cA e r (k + 1), List.cons_append, List.length_cons, show k + 1 + r.length = k + (r.length + 1) by omega]
theorem ab_l_mem (A : Nat → Nat) : ∀ (L : ab_L) (k : Nat) (q : Nat × Value), q ∈ ab_l A k L ↔ ∃ (i : Nat) (v : ab_V), L[i]? = some (some v) ∧ q = (k + i, ab_v A v)
  | [], k, q => by simp [ab_l]
  | none :: r, k, q => by
    rw [ab_l, ab_l_mem A r (k + 1) q]
    constructor
    · rintro ⟨i, v, h1, h2⟩
      exact ⟨i + 1, v, by rw [List.getElem?_cons_succ]; exact h1, by rw [h2]; congr 1; omega⟩
    · rintro ⟨i, v, h1, h2⟩
      cases i with
      | zero => simp at h1
      | succ i => exact ⟨i, v, by rwa [List.getElem?_cons_succ] at h1, by rw [h2]; congr 1; omega⟩
  | some w :: r, k, q => by
    rw [ab_l, List.mem_cons, ab_l_mem A r (k + 1) q]
    constructor
    · rintro (h | ⟨i, v, h1, h2⟩)
      · exact ⟨0, w, rfl, by rw [h]; rfl⟩
      · exact ⟨i + 1, v, by rw [List.getElem?_cons_succ]; exact h1, by rw [h2]; congr 1; omega⟩
    · rintro ⟨i, v, h1, h2⟩
      cases i with
      | zero => simp at h1; exact Or.inl (by rw [h2, h1]; rfl)
      | succ i => exact Or.inr ⟨i, v, by rwa [List.getElem?_cons_succ] at h1, by rw [h2]; congr 1; omega⟩
theorem ab_lmono {ls : Array Slot} {n : Nat} {l l' : List (Nat × Value)} (h : lv_has ls n l) (hm : ∀ q ∈ l', q ∈ l) : lv_has ls n l' := ⟨h.1, h.2.1, fun q hq => h.2.2 q (hm q hq)⟩
theorem ab_load {A : Nat → Nat} {ls : Array Slot} {n i : Nat} {L : ab_L} {v : ab_V} (h : lv_has ls n (ab_l A 0 L)) (hi : L[i]? = some (some v)) : ls[i]? = some (.val (ab_v A v)) :=
  h.2.2 (i, ab_v A v) ((ab_l_mem A L 0 _).mpr ⟨i, v, hi, by rw [Nat.zero_add]⟩)
theorem ab_store {A : Nat → Nat} {ls : Array Slot} {n i : Nat} {L : ab_L} {v : ab_V} (h : lv_has ls n ((i, ab_v A v) :: (ab_l A 0 L).filter (fun q => !(q.1 == i) && !(q.1 + 1 == i && q.2.category == 2)))) : lv_has ls n (ab_l A 0 (L.set i (some v))) := by
  refine ab_lmono h fun q hq => ?_
  obtain ⟨j, w, h1, h2⟩ := (ab_l_mem A _ 0 q).mp hq
  rw [Nat.zero_add] at h2
  by_cases hj : j = i
  · subst hj
    have hl : j < L.length := by
      have := (List.getElem?_eq_some_iff.mp h1).1
      rwa [List.length_set] at this
    rw [List.getElem?_set_self hl] at h1
    cases h1
    rw [h2]
    exact List.mem_cons_self
  · rw [List.getElem?_set_ne (Ne.symm hj)] at h1
    refine List.mem_cons_of_mem _ (List.mem_filter.mpr ⟨(ab_l_mem A L 0 q).mpr ⟨j, w, h1, by rw [Nat.zero_add]; exact h2⟩, ?_⟩)
    rw [h2]
    have c1 := ab_cat A w
    simp [hj, c1]
/-- locals that are forgotten -/
theorem ab_lsub {A : Nat → Nat} {ls : Array Slot} {n : Nat} {L L' : ab_L} (h : lv_has ls n (ab_l A 0 L)) (hs : ∀ (i : Nat) (v : ab_V), L'[i]? = some (some v) → L[i]? = some (some v)) : lv_has ls n (ab_l A 0 L') :=
  ab_lmono h fun q hq => by
    obtain ⟨i, v, h1, h2⟩ := (ab_l_mem A L' 0 q).mp hq
    exact (ab_l_mem A L 0 q).mpr ⟨i, v, hs i v h1, h2⟩
/-- fewer: by places -/
def ab_less : ab_L → ab_L → Prop
  | [], [] => True
  | none :: r, _ :: r' => ab_less r r'
  | some v :: r, w :: r' => w = some v ∧ ab_less r r'
  | _, _ => False
theorem ab_less_at : ∀ (L' L : ab_L), ab_less L' L → L'.length = L.length ∧ ∀ (i : Nat) (v : ab_V), L'[i]? = some (some v) → L[i]? = some (some v)
  | [], [], _ => ⟨rfl, fun _ _ h => by simp at h⟩
  | none :: r, w :: r', h => by
    obtain ⟨h1, h2⟩ := ab_less_at r r' h
    refine ⟨by simp [h1], fun i v hi => ?_⟩
    cases i with
    | zero => simp at hi
    | succ i => rw [List.getElem?_cons_succ] at hi ⊢; exact h2 i v hi
  | some x :: r, w :: r', h => by
    obtain ⟨h1, h2⟩ := ab_less_at r r' h.2
    refine ⟨by simp [h1], fun i v hi => ?_⟩
    cases i with
    | zero => simp at hi; simp [h.1, hi]
    | succ i => rw [List.getElem?_cons_succ] at hi ⊢; exact h2 i v hi
  | [], _ :: _, h => h.elim
  | none :: _, [], h => h.elim
  | some _ :: _, [], h => h.elim
/-- a value, a world whose places lie under n (or are constants, from 1000 on) -/
def ab_ok (n : Nat) (v : ab_V) : Bool := match v with
  | .inr (some k) => decide (k < n) || decide (1000 ≤ k)
  | _ => true
def ab_eok (n : Nat) (e : ab_E) : Bool := match e with
  | .inr (_, fs) => fs.all (ab_ok n)
  | _ => true
def ab_lok (n : Nat) (L : ab_L) : Bool := L.all (fun x => match x with | some v => ab_ok n v | none => true)
theorem ab_v_ext {A A' : Nat → Nat} {n : Nat} (h : ∀ k, k < n ∨ 1000 ≤ k → A' k = A k) {v : ab_V} (hv : ab_ok n v = true) : ab_v A' v = ab_v A v := by
  rcases v with z | (_ | k)
  · rfl
  · rfl
  · simp only [ab_ok, Bool.or_eq_true, decide_eq_true_eq] at hv
    show Value.ref (A' k) = Value.ref (A k)
    rw [h k hv]
theorem ab_vs_ext {A A' : Nat → Nat} {n : Nat} (h : ∀ k, k < n ∨ 1000 ≤ k → A' k = A k) {st : List ab_V} (hv : st.all (ab_ok n) = true) : st.map (ab_v A') = st.map (ab_v A) :=
  List.map_congr_left fun v hm => ab_v_ext h (List.all_eq_true.mp hv v hm)
theorem ab_e_ext {A A' : Nat → Nat} {n : Nat} {cA : Nat → ClassId} (h : ∀ k, k < n ∨ 1000 ≤ k → A' k = A k) {e : ab_E} (he : ab_eok n e = true) : ab_e A' cA e = ab_e A cA e := by
  rcases e with ⟨t, m, f⟩ | ⟨ci, fs⟩
  · rfl
  · show Sum.inr (ci, fs.map (ab_v A')) = Sum.inr (ci, fs.map (ab_v A))
    rw [ab_vs_ext h he]
theorem ab_w_ext {A A' : Nat → Nat} {n : Nat} {cA : Nat → ClassId} (h : ∀ k, k < n ∨ 1000 ≤ k → A' k = A k) : ∀ (hp : List ab_E) (k : Nat), hp.all (ab_eok n) = true → k + hp.length ≤ n → ab_w A' cA k hp = ab_w A cA k hp
  | [], _, _, _ => rfl
  | e :: r, k, he, hk => by
    rw [List.all_cons, Bool.and_eq_true] at he
    rw [List.length_cons] at hk
    rw [ab_w, ab_w, ab_e_ext h he.1, h k (Or.inl (by omega)), ab_w_ext h r (k + 1) he.2 (by omega)]
theorem ab_l_ext {A A' : Nat → Nat} {n : Nat} (h : ∀ k, k < n ∨ 1000 ≤ k → A' k = A k) : ∀ (L : ab_L) (k : Nat), ab_lok n L = true → ab_l A' k L = ab_l A k L
  | [], _, _ => rfl
  | none :: r, k, he => by
    rw [ab_l, ab_l]
    exact ab_l_ext h r (k + 1) (by simpa [ab_lok] using he)
  | some v :: r, k, he => by
    have h1 : ab_ok n v = true ∧ ab_lok n r = true := by simpa [ab_lok] using he
    rw [ab_l, ab_l, ab_v_ext h h1.1, ab_l_ext h r (k + 1) h1.2]
def ab_fit (d : Option FieldType) (v : ab_V) : Prop := match d, v with
  | some .int, .inl _ => True
  | some (.object _), .inr _ => True
  | some (.array _), .inr _ => True
  | _, _ => False
theorem ab_fit_ok (A : Nat → Nat) {d : Option FieldType} {v : ab_V} (h : ab_fit d v) : ∃ ty, d = some ty ∧ narrow ty (ab_v A v) = ab_v A v ∧ fits ty (ab_v A v) = true := by
  cases d with
  | none => exact h.elim
  | some ty =>
    refine ⟨ty, rfl, ?_⟩
    rcases v with z | (_ | k) <;> cases ty <;> first | exact h.elim | exact ⟨rfl, rfl⟩
theorem ab_toN {z : Int} (h0 : 0 ≤ z) (h : z < 2147483648) : ab_i z = nI z.toNat := by
  show Int32.ofInt z = Int32.ofNat z.toNat
  rw [← Int32.ofInt_eq_ofNat, Int.toNat_of_nonneg h0]
theorem ab_nar_char {z : Int} (h : 0 ≤ z ∧ z < 65536) : vp_nar .char (ab_i z) = ab_i z := by
  rw [ab_toN h.1 (by omega)]
  have := (pk_charN (q := z.toNat) (by omega)).1
  show (match narrow .char (.int (nI z.toNat)) with | .int y => y | _ => 0) = _
  rw [this]
theorem ab_nrc {z : Int} (h : 0 ≤ z ∧ z < 65536) : narrow .char (.int (ab_i z)) = .int (ab_i z) := by
  rw [ab_toN h.1 (by omega)]
  exact (pk_charN (q := z.toNat) (by omega)).1
theorem ab_nar_boolean {z : Int} (h : z = 0 ∨ z = 1) : vp_nar .boolean (ab_i z) = ab_i z := by
  rcases h with rfl | rfl <;> decide +kernel
theorem ab_nrz {z : Int} (h : z = 0 ∨ z = 1) : narrow .boolean (.int (ab_i z)) = .int (ab_i z) := by
  rcases h with rfl | rfl <;> decide +kernel
theorem ab_b8 {z : Int} (h : -128 ≤ z ∧ z < 128) : (ab_i z).toInt8.toInt32 = ab_i z := by
  have k : ∀ n : Nat, n < 256 → (ab_i ((n : Int) - 128)).toInt8.toInt32 = ab_i ((n : Int) - 128) := by decide +kernel
  have := k (z + 128).toNat (by omega)
  rwa [show (((z + 128).toNat : Nat) : Int) - 128 = z by omega] at this
theorem ab_nrb {z : Int} (h : -128 ≤ z ∧ z < 128) : narrow .byte (.int (ab_i z)) = .int (ab_i z) := by
  have k : ∀ n : Nat, n < 256 → narrow .byte (.int (ab_i ((n : Int) - 128))) = .int (ab_i ((n : Int) - 128)) := by decide +kernel
  have := k (z + 128).toNat (by omega)
  rwa [show (((z + 128).toNat : Nat) : Int) - 128 = z by omega] at this
theorem ab_c16 (z : Int) : ((ab_i z).toUInt32 % 65536).toInt32 = ab_i (z % 65536) := by
  rw [pk_char, ab_toN (z := z % 65536) (by omega) (by omega)]
  congr 1
  have h1 : (ab_i z).toBitVec.toNat = (z % 4294967296).toNat := by
    show (BitVec.ofInt 32 z).toNat = _
    rw [BitVec.toNat_ofInt]
    rfl
  rw [h1]
  omega
theorem ab_sum (A : Nat → Nat) (st : List ab_V) : ((st.map (ab_v A)).map fun v => v.category).sum = st.length := by
  induction st with
  | nil => rfl
  | cons v r ih => rw [List.map_cons, List.map_cons, List.sum_cons, ih, ab_cat, List.length_cons]; omega
theorem ab_mmax {x y : Int} (hx : ab_r x) (hy : ab_r y) : (if ab_i x < ab_i y then ab_i y else ab_i x) = ab_i (max x y) := by
  by_cases h : x < y
  · rw [if_pos ((ab_lt hx hy).mpr h), show max x y = y by omega]
  · rw [if_neg (fun z => h ((ab_lt hx hy).mp z)), show max x y = x by omega]
theorem ab_mmin {x y : Int} (hx : ab_r x) (hy : ab_r y) : (if ab_i y < ab_i x then ab_i y else ab_i x) = ab_i (min x y) := by
  by_cases h : y < x
  · rw [if_pos ((ab_lt hy hx).mpr h), show min x y = y by omega]
  · rw [if_neg (fun z => h ((ab_lt hy hx).mp z)), show min x y = x by omega]
theorem ab_mabs {x : Int} (hx : ab_r x) : (if 0 ≤ ab_i x then ab_i x else 0 - ab_i x) = ab_i (if 0 ≤ x then x else -x) := by
  by_cases h : 0 ≤ x
  · rw [if_pos (by rw [← ab_0]; exact (ab_le ab_r0 hx).mpr h), if_pos h]
  · rw [if_neg (fun z => h ((ab_le ab_r0 hx).mp (by rw [ab_0]; exact z))), if_neg h, ← ab_neg]
    exact Int32.zero_sub _
theorem ab_sl_len (A : Nat → Nat) (as : List ab_V) : (lg_sl (as.map (ab_v A))).length = as.length := by
  induction as with
  | nil => rfl
  | cons v r ih =>
    unfold lg_sl at ih ⊢
    rw [List.map_cons, List.flatMap_cons, if_neg (by rw [ab_cat]; decide), List.length_append, ih, List.length_cons, List.length_cons, List.length_nil]
    omega
theorem ab_args (A : Nat → Nat) : ∀ (as : List ab_V) (k i : Nat) (v : ab_V), as[i]? = some v → (k + i, ab_v A v) ∈ lv_args k (as.map (ab_v A))
  | [], _, _, _, h => by simp at h
  | w :: r, k, 0, v, h => by
    simp at h
    subst h
    rw [List.map_cons, lv_args]
    exact List.mem_cons_self
  | w :: r, k, i + 1, v, h => by
    rw [List.getElem?_cons_succ] at h
    rw [List.map_cons, lv_args, if_neg (by rw [ab_cat]; decide)]
    have := ab_args A r (k + 1) i v h
    rw [show k + (i + 1) = k + 1 + i by omega]
    exact List.mem_cons_of_mem _ this
def ab_ty (cA : Nat → ClassId) : List (ClassId × FieldType) := [(cA 0, .int), (cA 1, .char), (cA 2, .boolean)]
def ab_X (A : Nat → Nat) (Af : Nat → Prop) (U : State) (H : Heap) : Prop :=
  vk_S 16 xsL xsB (fun i => A (1000 + i)) (fun i => A (2000 + i)) Af U H ∧ va_Z "java/lang/String" "COMPACT_STRINGS" "Z" (.int 1) Af U H ∧
  (va_Z "jdk/internal/util/Preconditions" "SIOOBE_FORMATTER" "Ljava/util/function/BiFunction;" .null Af U H ∨ va_Z "jdk/internal/util/Preconditions" "SIOOBE_FORMATTER" "Ljava/util/function/BiFunction;" (.ref (A 3001)) Af U H) ∧
  (∀ (i : Nat) (e : String × Nat × String), xsK[i]? = some e → vk_R e.1 e.2.1 e.2.2 (A (1000 + i)) U) ∧ ∀ q ∈ xsN, va_Nw (.methodLinkNest q.1 q.2.1 q.2.2.1 q.2.2.2) U
theorem ab_X.same {A : Nat → Nat} {Af : Nat → Prop} {u U : State} {H : Heap} (hv : U.vm = u.vm) (hvm : u.vm.Alike U.vm) (h : ab_X A Af u H) : ab_X A Af U H :=
  ⟨h.1.moved hvm, h.2.1.moved hvm, h.2.2.1.imp (va_Z.moved hvm) (va_Z.moved hvm), fun i e he => (h.2.2.2.1 i e he).same hv, fun q hq => va_tabs rfl hv.symm (h.2.2.2.2 q hq)⟩
theorem ab_X.narrow {A : Nat → Nat} {Af B : Nat → Prop} {U : State} {H : Heap} (hB : ∀ q, B q → Af q) (h : ab_X A Af U H) : ab_X A B U H :=
  ⟨h.1.narrow hB, h.2.1.narrow hB, h.2.2.1.imp (fun z => z.narrow hB) (fun z => z.narrow hB), h.2.2.2⟩
theorem ab_X.warm {A : Nat → Nat} {Af : Nat → Prop} {s U : State} {H H1 : Heap} (hW : s.WarmedH U.vm) (hq : ∀ a : Nat, a < H.size → ¬ Af a → H1[a]? = H[a]?) (h : ab_X A Af s H) : ab_X A Af U H1 :=
  ⟨(h.1.moved hW.alike).kept hq, (h.2.1.moved hW.alike).kept hq, h.2.2.1.imp (fun z => (z.moved hW.alike).kept hq) (fun z => (z.moved hW.alike).kept hq), fun i e he => (h.2.2.2.1 i e he).warm hW, fun q hq => (h.2.2.2.2 q hq).warmM hW⟩
def ab_Ag (al : Bool) (A0 : Nat → Nat) (n0 : Nat) (A : Nat → Nat) : Prop := if al = true then ∀ k, k < n0 ∨ 1000 ≤ k → A k = A0 k else A = A0
def ab_Pc (D : va_G) (cA : Nat → ClassId) (A : Nat → Nat) (sz : Nat) (as : List ab_V) (h : List ab_E) : Array Value → State → Prop :=
  va_Pc (as.map (ab_v A)) (fun U => U.heap.size = sz ∧ va_P D xcl (ab_w A cA 0 h) U.heap ∧ va_K D xcl (ab_ty cA) U ∧ va_D (fun _ => True) (ab_w A cA 0 h) ∧ ab_X A (va_A (ab_w A cA 0 h) sz) U U.heap)
def ab_Qc (post : Option ab_V → List ab_E → Prop) (D : va_G) (cA : Nat → ClassId) (Ag : (Nat → Nat) → Prop) (Af : Nat → Prop) : Array Value → State → Outcome → State → Prop := fun _ st oc t =>
  (∃ (r : Option ab_V) (u : List ab_E) (A' : Nat → Nat), oc = .returned (r.map (ab_v A')) ∧ post r u ∧ Ag A' ∧ va_P D xcl (ab_w A' cA 0 u) t.heap ∧ va_K D xcl (ab_ty cA) t ∧ va_D Af (ab_w A' cA 0 u)) ∧ va_F Af st t
/-- a method's contract: from these arguments and this heap it returns with an answer and a heap of 'post' -/
def ab_Mt (y : MethodName) (cc : ByteArray) (nL : Nat) (ret : Option FieldType) (rm : Room) (al : Bool) (mc ms : Nat) (as : List ab_V) (h : List ab_E) (post : Option ab_V → List ab_E → Prop) : Prop :=
  ∀ (l : Launch) (D : va_G) (cA : Nat → ClassId) (A : Nat → Nat) (sz : Nat), Met l y (.code y cc nL ret :: xtb) rm (ab_Pc D cA A sz as h) (ab_Qc post D cA (ab_Ag al A h.length) (va_A (ab_w A cA 0 h) sz)) mc ms (va_A (ab_w A cA 0 h) sz)
def ab_rt (ret : Option FieldType) (r : Option ab_V) : Prop := match ret, r with
  | none, none => True
  | some .int, some (.inl _) => True
  | some .boolean, some (.inl z) => z = 0 ∨ z = 1
  | some .char, some (.inl z) => 0 ≤ z ∧ z < 65536
  | some .byte, some (.inl z) => -128 ≤ z ∧ z < 128
  | _, _ => False
def ab_ri (r : Option ab_V) : Instr := match r with
  | none => .return_
  | some _ => .ireturn
abbrev ab_J : Type := Nat → ab_L → List ab_V → List ab_E → Nat → Nat → Prop
/-- the judgement -/
def ab_W (p : Program) (l : Launch) (e : Env) (R : Room) (s : State) (m : MethodId) (args : Array Value) (below : List Frame) (meth : Method) (c : Code) (D : va_G) (cA : Nat → ClassId) (nL : Nat) (Ag : (Nat → Nat) → Prop) (Af : Nat → Prop) (Q : State → Prop) : ab_J := fun pc L st h kc ks =>
  ∀ (A : Nat → Nat) (H : Heap) (locs : List Loc) (ls : Array Slot), Ag A → L.length = nL → va_P D xcl (ab_w A cA 0 h) H → va_D Af (ab_w A cA 0 h) → va_S Af s.heap H locs → lv_has ls nL (ab_l A 0 L) → W p l e R s m args below meth c H locs kc ks Q (F0 m pc ls (st.map (ab_v A)))
/-- V is the judgement of a method (bytes cc, of class own) in some state of the machine -/
def ab_Cl (cc : ByteArray) (own : String) (nL : Nat) (R : Room) (al : Bool) (n0 : Nat) (ini : Bool) (sc : Option (Nat × (Int → Int))) (ret : Option FieldType) (post : Option ab_V → List ab_E → Prop) (mc ms : Nat) (V : ab_J) : Prop :=
  ∃ (p : Program) (l : Launch) (e : Env) (s : State) (m : MethodId) (args : Array Value) (below : List Frame) (meth : Method) (c : Code) (D : va_G) (cA : Nat → ClassId) (A0 : Nat → Nat) (Af : Nat → Prop) (Q : State → Prop),
    (p.tables.exec = Jvm.exec ∧ c.code = cc ∧ c.maxLocals = nL ∧ s.vm.findClass own = some m.cls ∧ (∀ w ∈ xtb, w.before args s = true) ∧ va_K D xcl (ab_ty cA) s ∧ (∀ q, s.heap.size ≤ q → Af q) ∧ (∀ A, ab_Ag al A0 n0 A → ab_X A Af s s.heap) ∧ (ini = true → meth.name = "<init>") ∧
      (∀ (L : Nat) (f : Int → Int), sc = some (L, f) → ∀ A, ab_Ag al A0 n0 A → va_X (A 3000) L (fun j => ab_i (f (j : Int))) s s.heap ∧ A 3000 < s.heap.size ∧ ¬ Af (A 3000)) ∧
      (∀ (A : Nat → Nat) (H : Heap) (locs : List Loc) (ls : Array Slot) (pc : Nat) (r : Option ab_V) (u : List ab_E), ab_Ag al A0 n0 A → va_P D xcl (ab_w A cA 0 u) H → va_D Af (ab_w A cA 0 u) → va_S Af s.heap H locs → post r u → ab_rt ret r → decode cc pc = .ok (ab_ri r, 1) → W p l e R s m args below meth c H locs mc ms Q (F0 m pc ls (r.toList.map (ab_v A))))) ∧
    V = ab_W p l e R s m args below meth c D cA nL (ab_Ag al A0 n0) Af Q
section ABR
variable {cc : ByteArray} {own : String} {nL : Nat} {R : Room} {al : Bool} {n0 : Nat} {ini : Bool} {sc : Option (Nat × (Int → Int))} {ret : Option FieldType} {post : Option ab_V → List ab_E → Prop} {mc ms : Nat} {V : ab_J} {pc : Nat} {L : ab_L} {st : List ab_V} {h : List ab_E} {kc ks : Nat}
theorem rb_iconst (hV : ab_Cl cc own nL R al n0 ini sc ret post mc ms V) {n : Int} (hd : decode cc pc = .ok (.iconst n, 1)) (k : V (pc + 1) L (.inl n :: st) h kc ks) : V pc L st h kc ks := by
  obtain ⟨p, l, e, s, m, args, below, meth, c, D, cA, A0, Af, Q, ⟨hx, hb, hml, hown, hts, hK, hAf, hX, hini, hsc, hret⟩, rfl⟩ := hV
  intro A H locs ls hag hL hP hD hS hl
  exact lv_iconst hx hb hd rfl (k A H locs ls hag hL hP hD hS hl)
theorem rb_bipush (hV : ab_Cl cc own nL R al n0 ini sc ret post mc ms V) {n : Int} (hd : decode cc pc = .ok (.bipush n, 2)) (hn : (Int8.ofInt n).toInt32 = ab_i n) (k : V (pc + 2) L (.inl n :: st) h kc ks) : V pc L st h kc ks := by
  obtain ⟨p, l, e, s, m, args, below, meth, c, D, cA, A0, Af, Q, ⟨hx, hb, hml, hown, hts, hK, hAf, hX, hini, hsc, hret⟩, rfl⟩ := hV
  intro A H locs ls hag hL hP hD hS hl
  exact lv_bipush hx hb hd hn (k A H locs ls hag hL hP hD hS hl)
theorem rb_sipush (hV : ab_Cl cc own nL R al n0 ini sc ret post mc ms V) {n : Int} (hd : decode cc pc = .ok (.sipush n, 3)) (hn : (Int16.ofInt n).toInt32 = ab_i n) (k : V (pc + 3) L (.inl n :: st) h kc ks) : V pc L st h kc ks := by
  obtain ⟨p, l, e, s, m, args, below, meth, c, D, cA, A0, Af, Q, ⟨hx, hb, hml, hown, hts, hK, hAf, hX, hini, hsc, hret⟩, rfl⟩ := hV
  intro A H locs ls hag hL hP hD hS hl
  exact lv_sipush hx hb hd hn (k A H locs ls hag hL hP hD hS hl)
theorem rb_iload_n (hV : ab_Cl cc own nL R al n0 ini sc ret post mc ms V) {j : Fin 4} {i : Nat} {z : Int} (hd : decode cc pc = .ok (.iload_n j, 1)) (hj : (j : Nat) = i) (hi : L[i]? = some (some (.inl z))) (k : V (pc + 1) L (.inl z :: st) h kc ks) : V pc L st h kc ks := by
  obtain ⟨p, l, e, s, m, args, below, meth, c, D, cA, A0, Af, Q, ⟨hx, hb, hml, hown, hts, hK, hAf, hX, hini, hsc, hret⟩, rfl⟩ := hV
  intro A H locs ls hag hL hP hD hS hl
  exact lv_iload_n hx hb hd hj (ab_load hl hi) (k A H locs ls hag hL hP hD hS hl)
theorem rb_iload (hV : ab_Cl cc own nL R al n0 ini sc ret post mc ms V) {i : Nat} {z : Int} (hd : decode cc pc = .ok (.iload i, 2)) (hi : L[i]? = some (some (.inl z))) (k : V (pc + 2) L (.inl z :: st) h kc ks) : V pc L st h kc ks := by
  obtain ⟨p, l, e, s, m, args, below, meth, c, D, cA, A0, Af, Q, ⟨hx, hb, hml, hown, hts, hK, hAf, hX, hini, hsc, hret⟩, rfl⟩ := hV
  intro A H locs ls hag hL hP hD hS hl
  exact lv_iload hx hb hd (ab_load hl hi) (k A H locs ls hag hL hP hD hS hl)
theorem rb_aload_n (hV : ab_Cl cc own nL R al n0 ini sc ret post mc ms V) {j : Fin 4} {i : Nat} {z : Nat} (hd : decode cc pc = .ok (.aload_n j, 1)) (hj : (j : Nat) = i) (hi : L[i]? = some (some (.inr (some z)))) (k : V (pc + 1) L (.inr (some z) :: st) h kc ks) : V pc L st h kc ks := by
  obtain ⟨p, l, e, s, m, args, below, meth, c, D, cA, A0, Af, Q, ⟨hx, hb, hml, hown, hts, hK, hAf, hX, hini, hsc, hret⟩, rfl⟩ := hV
  intro A H locs ls hag hL hP hD hS hl
  exact lv_aload_n hx hb hd hj (ab_load hl hi) (k A H locs ls hag hL hP hD hS hl)
theorem rb_aload (hV : ab_Cl cc own nL R al n0 ini sc ret post mc ms V) {i : Nat} {z : Nat} (hd : decode cc pc = .ok (.aload i, 2)) (hi : L[i]? = some (some (.inr (some z)))) (k : V (pc + 2) L (.inr (some z) :: st) h kc ks) : V pc L st h kc ks := by
  obtain ⟨p, l, e, s, m, args, below, meth, c, D, cA, A0, Af, Q, ⟨hx, hb, hml, hown, hts, hK, hAf, hX, hini, hsc, hret⟩, rfl⟩ := hV
  intro A H locs ls hag hL hP hD hS hl
  exact lv_aload hx hb hd (ab_load hl hi) (k A H locs ls hag hL hP hD hS hl)
theorem rb_istore_n (hV : ab_Cl cc own nL R al n0 ini sc ret post mc ms V) {j : Fin 4} {i : Nat} {z : Int} {L2 : ab_L} (hd : decode cc pc = .ok (.istore_n j, 1)) (hj : (j : Nat) = i) (hi : i < L.length) (hL2 : L.set i (some (.inl z)) = L2) (k : V (pc + 1) L2 st h kc ks) : V pc L (.inl z :: st) h kc ks := by
  obtain ⟨p, l, e, s, m, args, below, meth, c, D, cA, A0, Af, Q, ⟨hx, hb, hml, hown, hts, hK, hAf, hX, hini, hsc, hret⟩, rfl⟩ := hV
  intro A H locs ls hag hL hP hD hS hl
  subst hL2
  refine lv_istore_n hx hb hd hj hl (by omega) rfl (fun ls' hl' => ?_)
  exact k A H locs ls' hag (by rw [List.length_set]; exact hL) hP hD hS (ab_store (v := .inl z) hl')
theorem rb_istore (hV : ab_Cl cc own nL R al n0 ini sc ret post mc ms V) {i : Nat} {z : Int} {L2 : ab_L} (hd : decode cc pc = .ok (.istore i, 2)) (hi : i < L.length) (hL2 : L.set i (some (.inl z)) = L2) (k : V (pc + 2) L2 st h kc ks) : V pc L (.inl z :: st) h kc ks := by
  obtain ⟨p, l, e, s, m, args, below, meth, c, D, cA, A0, Af, Q, ⟨hx, hb, hml, hown, hts, hK, hAf, hX, hini, hsc, hret⟩, rfl⟩ := hV
  intro A H locs ls hag hL hP hD hS hl
  subst hL2
  refine lv_istore hx hb hd hl (by omega) rfl (fun ls' hl' => ?_)
  exact k A H locs ls' hag (by rw [List.length_set]; exact hL) hP hD hS (ab_store (v := .inl z) hl')
theorem rb_astore_n (hV : ab_Cl cc own nL R al n0 ini sc ret post mc ms V) {j : Fin 4} {i : Nat} {z : Nat} {L2 : ab_L} (hd : decode cc pc = .ok (.astore_n j, 1)) (hj : (j : Nat) = i) (hi : i < L.length) (hL2 : L.set i (some (.inr (some z))) = L2) (k : V (pc + 1) L2 st h kc ks) : V pc L (.inr (some z) :: st) h kc ks := by
  obtain ⟨p, l, e, s, m, args, below, meth, c, D, cA, A0, Af, Q, ⟨hx, hb, hml, hown, hts, hK, hAf, hX, hini, hsc, hret⟩, rfl⟩ := hV
  intro A H locs ls hag hL hP hD hS hl
  subst hL2
  refine lv_astore_n hx hb hd hj hl (by omega) rfl (fun ls' hl' => ?_)
  exact k A H locs ls' hag (by rw [List.length_set]; exact hL) hP hD hS (ab_store (v := .inr (some z)) hl')
theorem rb_astore (hV : ab_Cl cc own nL R al n0 ini sc ret post mc ms V) {i : Nat} {z : Nat} {L2 : ab_L} (hd : decode cc pc = .ok (.astore i, 2)) (hi : i < L.length) (hL2 : L.set i (some (.inr (some z))) = L2) (k : V (pc + 2) L2 st h kc ks) : V pc L (.inr (some z) :: st) h kc ks := by
  obtain ⟨p, l, e, s, m, args, below, meth, c, D, cA, A0, Af, Q, ⟨hx, hb, hml, hown, hts, hK, hAf, hX, hini, hsc, hret⟩, rfl⟩ := hV
  intro A H locs ls hag hL hP hD hS hl
  subst hL2
  refine lv_astore hx hb hd hl (by omega) rfl (fun ls' hl' => ?_)
  exact k A H locs ls' hag (by rw [List.length_set]; exact hL) hP hD hS (ab_store (v := .inr (some z)) hl')
theorem rb_iinc (hV : ab_Cl cc own nL R al n0 ini sc ret post mc ms V) {i : Nat} {n z z2 : Int} {L2 : ab_L} (hd : decode cc pc = .ok (.iinc i n, 3)) (hi : L[i]? = some (some (.inl z))) (hz : z + n = z2) (hL2 : L.set i (some (.inl z2)) = L2) (k : V (pc + 3) L2 st h kc ks) : V pc L st h kc ks := by
  obtain ⟨p, l, e, s, m, args, below, meth, c, D, cA, A0, Af, Q, ⟨hx, hb, hml, hown, hts, hK, hAf, hX, hini, hsc, hret⟩, rfl⟩ := hV
  intro A H locs ls hag hL hP hD hS hl
  subst hL2
  have hm : (i, ab_v A (.inl z)) ∈ ab_l A 0 L := (ab_l_mem A L 0 _).mpr ⟨i, .inl z, hi, by rw [Nat.zero_add]⟩
  obtain ⟨q, hq⟩ := List.getElem?_of_mem hm
  have hi2 : i < nL := by rw [← hL]; exact (List.getElem?_eq_some_iff.mp hi).1
  refine lv_iinc (v := ab_i z2) hx hb hd hl hq (by rw [← hz]; exact ab_add z n) hi2 rfl (fun ls' hl' => ?_)
  exact k A H locs ls' hag (by rw [List.length_set]; exact hL) hP hD hS (ab_store (v := .inl z2) hl')
theorem rb_iadd (hV : ab_Cl cc own nL R al n0 ini sc ret post mc ms V) {x y : Int} (hd : decode cc pc = .ok (.iadd, 1)) (k : V (pc + 1) L (.inl (x + y) :: st) h kc ks) : V pc L (.inl y :: .inl x :: st) h kc ks := by
  obtain ⟨p, l, e, s, m, args, below, meth, c, D, cA, A0, Af, Q, ⟨hx, hb, hml, hown, hts, hK, hAf, hX, hini, hsc, hret⟩, rfl⟩ := hV
  intro A H locs ls hag hL hP hD hS hl
  have k1 := k A H locs ls hag hL hP hD hS hl
  refine lv_iadd hx hb hd ?_
  rw [ab_add]
  exact k1
theorem rb_isub (hV : ab_Cl cc own nL R al n0 ini sc ret post mc ms V) {x y : Int} (hd : decode cc pc = .ok (.isub, 1)) (k : V (pc + 1) L (.inl (x - y) :: st) h kc ks) : V pc L (.inl y :: .inl x :: st) h kc ks := by
  obtain ⟨p, l, e, s, m, args, below, meth, c, D, cA, A0, Af, Q, ⟨hx, hb, hml, hown, hts, hK, hAf, hX, hini, hsc, hret⟩, rfl⟩ := hV
  intro A H locs ls hag hL hP hD hS hl
  have k1 := k A H locs ls hag hL hP hD hS hl
  refine lv_isub hx hb hd ?_
  rw [ab_sub]
  exact k1
theorem rb_imul (hV : ab_Cl cc own nL R al n0 ini sc ret post mc ms V) {x y : Int} (hd : decode cc pc = .ok (.imul, 1)) (k : V (pc + 1) L (.inl (x * y) :: st) h kc ks) : V pc L (.inl y :: .inl x :: st) h kc ks := by
  obtain ⟨p, l, e, s, m, args, below, meth, c, D, cA, A0, Af, Q, ⟨hx, hb, hml, hown, hts, hK, hAf, hX, hini, hsc, hret⟩, rfl⟩ := hV
  intro A H locs ls hag hL hP hD hS hl
  have k1 := k A H locs ls hag hL hP hD hS hl
  refine lv_imul hx hb hd ?_
  rw [ab_mul]
  exact k1
theorem rb_idiv (hV : ab_Cl cc own nL R al n0 ini sc ret post mc ms V) {x y : Int} (hd : decode cc pc = .ok (.idiv, 1)) (hr : ab_r x ∧ ab_r y) (hy : y ≠ 0) (k : V (pc + 1) L (.inl (x.tdiv y) :: st) h kc ks) : V pc L (.inl y :: .inl x :: st) h kc ks := by
  obtain ⟨p, l, e, s, m, args, below, meth, c, D, cA, A0, Af, Q, ⟨hx, hb, hml, hown, hts, hK, hAf, hX, hini, hsc, hret⟩, rfl⟩ := hV
  intro A H locs ls hag hL hP hD hS hl
  have k1 := k A H locs ls hag hL hP hD hS hl
  refine lv_idiv hx hb hd (fun z => hy ((ab_eq hr.2 ab_r0).mp (by rw [z, ab_0]))) ?_
  rw [ab_div hr.1 hr.2]
  exact k1
theorem rb_ineg (hV : ab_Cl cc own nL R al n0 ini sc ret post mc ms V) {x : Int} (hd : decode cc pc = .ok (.ineg, 1)) (k : V (pc + 1) L (.inl (-x) :: st) h kc ks) : V pc L (.inl x :: st) h kc ks := by
  obtain ⟨p, l, e, s, m, args, below, meth, c, D, cA, A0, Af, Q, ⟨hx, hb, hml, hown, hts, hK, hAf, hX, hini, hsc, hret⟩, rfl⟩ := hV
  intro A H locs ls hag hL hP hD hS hl
  have k1 := k A H locs ls hag hL hP hD hS hl
  refine lv_ineg hx hb hd ?_
  rw [ab_neg]
  exact k1
theorem rb_pop (hV : ab_Cl cc own nL R al n0 ini sc ret post mc ms V) {v : ab_V} (hd : decode cc pc = .ok (.pop, 1)) (k : V (pc + 1) L st h kc ks) : V pc L (v :: st) h kc ks := by
  obtain ⟨p, l, e, s, m, args, below, meth, c, D, cA, A0, Af, Q, ⟨hx, hb, hml, hown, hts, hK, hAf, hX, hini, hsc, hret⟩, rfl⟩ := hV
  intro A H locs ls hag hL hP hD hS hl
  exact lv_pop hx hb hd (ab_cat A v) (k A H locs ls hag hL hP hD hS hl)
theorem rb_dup (hV : ab_Cl cc own nL R al n0 ini sc ret post mc ms V) {v : ab_V} (hd : decode cc pc = .ok (.dup, 1)) (k : V (pc + 1) L (v :: v :: st) h kc ks) : V pc L (v :: st) h kc ks := by
  obtain ⟨p, l, e, s, m, args, below, meth, c, D, cA, A0, Af, Q, ⟨hx, hb, hml, hown, hts, hK, hAf, hX, hini, hsc, hret⟩, rfl⟩ := hV
  intro A H locs ls hag hL hP hD hS hl
  exact lv_dup hx hb hd (ab_cat A v) (k A H locs ls hag hL hP hD hS hl)
theorem rb_dup2 (hV : ab_Cl cc own nL R al n0 ini sc ret post mc ms V) {v w : ab_V} (hd : decode cc pc = .ok (.dup2, 1)) (k : V (pc + 1) L (v :: w :: v :: w :: st) h kc ks) : V pc L (v :: w :: st) h kc ks := by
  obtain ⟨p, l, e, s, m, args, below, meth, c, D, cA, A0, Af, Q, ⟨hx, hb, hml, hown, hts, hK, hAf, hX, hini, hsc, hret⟩, rfl⟩ := hV
  intro A H locs ls hag hL hP hD hS hl
  exact lv_dup2_11 hx hb hd (ab_cat A v) (ab_cat A w) (k A H locs ls hag hL hP hD hS hl)
theorem rb_goto (hV : ab_Cl cc own nL R al n0 ini sc ret post mc ms V) {off : Int} {tgt : Nat} (hd : decode cc pc = .ok (.goto off, 3)) (ht : (pc : Int) + off = (tgt : Int)) (k : V tgt L st h kc ks) : V pc L st h kc ks := by
  obtain ⟨p, l, e, s, m, args, below, meth, c, D, cA, A0, Af, Q, ⟨hx, hb, hml, hown, hts, hK, hAf, hX, hini, hsc, hret⟩, rfl⟩ := hV
  intro A H locs ls hag hL hP hD hS hl
  exact lv_goto hx hb hd ht (k A H locs ls hag hL hP hD hS hl)
theorem rb_icmp_eq (hV : ab_Cl cc own nL R al n0 ini sc ret post mc ms V) {x y : Int} {off : Int} {tgt : Nat} (hd : decode cc pc = .ok (.if_icmp .eq off, 3)) (ht : (pc : Int) + off = (tgt : Int)) (hr : ab_r x ∧ ab_r y) (kt : x = y → V tgt L st h kc ks) (kf : ¬ x = y → V (pc + 3) L st h kc ks) : V pc L (.inl y :: .inl x :: st) h kc ks := by
  obtain ⟨p, l, e, s, m, args, below, meth, c, D, cA, A0, Af, Q, ⟨hx, hb, hml, hown, hts, hK, hAf, hX, hini, hsc, hret⟩, rfl⟩ := hV
  intro A H locs ls hag hL hP hD hS hl
  exact lv_icmp_eq hx hb hd ht (fun z => kt ((ab_eq hr.1 hr.2).mp z) A H locs ls hag hL hP hD hS hl) (fun z => kf (fun q => z ((ab_eq hr.1 hr.2).mpr q)) A H locs ls hag hL hP hD hS hl)
theorem rb_icmp_ne (hV : ab_Cl cc own nL R al n0 ini sc ret post mc ms V) {x y : Int} {off : Int} {tgt : Nat} (hd : decode cc pc = .ok (.if_icmp .ne off, 3)) (ht : (pc : Int) + off = (tgt : Int)) (hr : ab_r x ∧ ab_r y) (kt : ¬ x = y → V tgt L st h kc ks) (kf : x = y → V (pc + 3) L st h kc ks) : V pc L (.inl y :: .inl x :: st) h kc ks := by
  obtain ⟨p, l, e, s, m, args, below, meth, c, D, cA, A0, Af, Q, ⟨hx, hb, hml, hown, hts, hK, hAf, hX, hini, hsc, hret⟩, rfl⟩ := hV
  intro A H locs ls hag hL hP hD hS hl
  exact lv_icmp_ne hx hb hd ht (fun z => kt (fun q => z ((ab_eq hr.1 hr.2).mpr q)) A H locs ls hag hL hP hD hS hl) (fun z => kf ((ab_eq hr.1 hr.2).mp z) A H locs ls hag hL hP hD hS hl)
theorem rb_icmp_lt (hV : ab_Cl cc own nL R al n0 ini sc ret post mc ms V) {x y : Int} {off : Int} {tgt : Nat} (hd : decode cc pc = .ok (.if_icmp .lt off, 3)) (ht : (pc : Int) + off = (tgt : Int)) (hr : ab_r x ∧ ab_r y) (kt : x < y → V tgt L st h kc ks) (kf : ¬ x < y → V (pc + 3) L st h kc ks) : V pc L (.inl y :: .inl x :: st) h kc ks := by
  obtain ⟨p, l, e, s, m, args, below, meth, c, D, cA, A0, Af, Q, ⟨hx, hb, hml, hown, hts, hK, hAf, hX, hini, hsc, hret⟩, rfl⟩ := hV
  intro A H locs ls hag hL hP hD hS hl
  exact lv_icmp_lt hx hb hd ht (fun z => kt ((ab_lt hr.1 hr.2).mp z) A H locs ls hag hL hP hD hS hl) (fun z => kf (fun q => z ((ab_lt hr.1 hr.2).mpr q)) A H locs ls hag hL hP hD hS hl)
theorem rb_icmp_ge (hV : ab_Cl cc own nL R al n0 ini sc ret post mc ms V) {x y : Int} {off : Int} {tgt : Nat} (hd : decode cc pc = .ok (.if_icmp .ge off, 3)) (ht : (pc : Int) + off = (tgt : Int)) (hr : ab_r x ∧ ab_r y) (kt : y ≤ x → V tgt L st h kc ks) (kf : ¬ y ≤ x → V (pc + 3) L st h kc ks) : V pc L (.inl y :: .inl x :: st) h kc ks := by
  obtain ⟨p, l, e, s, m, args, below, meth, c, D, cA, A0, Af, Q, ⟨hx, hb, hml, hown, hts, hK, hAf, hX, hini, hsc, hret⟩, rfl⟩ := hV
  intro A H locs ls hag hL hP hD hS hl
  exact lv_icmp_ge hx hb hd ht (fun z => kt ((ab_le hr.2 hr.1).mp z) A H locs ls hag hL hP hD hS hl) (fun z => kf (fun q => z ((ab_le hr.2 hr.1).mpr q)) A H locs ls hag hL hP hD hS hl)
theorem rb_icmp_gt (hV : ab_Cl cc own nL R al n0 ini sc ret post mc ms V) {x y : Int} {off : Int} {tgt : Nat} (hd : decode cc pc = .ok (.if_icmp .gt off, 3)) (ht : (pc : Int) + off = (tgt : Int)) (hr : ab_r x ∧ ab_r y) (kt : y < x → V tgt L st h kc ks) (kf : ¬ y < x → V (pc + 3) L st h kc ks) : V pc L (.inl y :: .inl x :: st) h kc ks := by
  obtain ⟨p, l, e, s, m, args, below, meth, c, D, cA, A0, Af, Q, ⟨hx, hb, hml, hown, hts, hK, hAf, hX, hini, hsc, hret⟩, rfl⟩ := hV
  intro A H locs ls hag hL hP hD hS hl
  exact lv_icmp_gt hx hb hd ht (fun z => kt ((ab_lt hr.2 hr.1).mp z) A H locs ls hag hL hP hD hS hl) (fun z => kf (fun q => z ((ab_lt hr.2 hr.1).mpr q)) A H locs ls hag hL hP hD hS hl)
theorem rb_icmp_le (hV : ab_Cl cc own nL R al n0 ini sc ret post mc ms V) {x y : Int} {off : Int} {tgt : Nat} (hd : decode cc pc = .ok (.if_icmp .le off, 3)) (ht : (pc : Int) + off = (tgt : Int)) (hr : ab_r x ∧ ab_r y) (kt : x ≤ y → V tgt L st h kc ks) (kf : ¬ x ≤ y → V (pc + 3) L st h kc ks) : V pc L (.inl y :: .inl x :: st) h kc ks := by
  obtain ⟨p, l, e, s, m, args, below, meth, c, D, cA, A0, Af, Q, ⟨hx, hb, hml, hown, hts, hK, hAf, hX, hini, hsc, hret⟩, rfl⟩ := hV
  intro A H locs ls hag hL hP hD hS hl
  exact lv_icmp_le hx hb hd ht (fun z => kt ((ab_le hr.1 hr.2).mp z) A H locs ls hag hL hP hD hS hl) (fun z => kf (fun q => z ((ab_le hr.1 hr.2).mpr q)) A H locs ls hag hL hP hD hS hl)
theorem rb_if_eq (hV : ab_Cl cc own nL R al n0 ini sc ret post mc ms V) {x : Int} {off : Int} {tgt : Nat} (hd : decode cc pc = .ok (.ifCond .eq off, 3)) (ht : (pc : Int) + off = (tgt : Int)) (hr : ab_r x) (kt : x = 0 → V tgt L st h kc ks) (kf : ¬ x = 0 → V (pc + 3) L st h kc ks) : V pc L (.inl x :: st) h kc ks := by
  obtain ⟨p, l, e, s, m, args, below, meth, c, D, cA, A0, Af, Q, ⟨hx, hb, hml, hown, hts, hK, hAf, hX, hini, hsc, hret⟩, rfl⟩ := hV
  intro A H locs ls hag hL hP hD hS hl
  exact lv_if_eq hx hb hd ht (fun z => kt ((ab_eq hr ab_r0).mp z) A H locs ls hag hL hP hD hS hl) (fun z => kf (fun q => z ((ab_eq hr ab_r0).mpr q)) A H locs ls hag hL hP hD hS hl)
theorem rb_if_ne (hV : ab_Cl cc own nL R al n0 ini sc ret post mc ms V) {x : Int} {off : Int} {tgt : Nat} (hd : decode cc pc = .ok (.ifCond .ne off, 3)) (ht : (pc : Int) + off = (tgt : Int)) (hr : ab_r x) (kt : ¬ x = 0 → V tgt L st h kc ks) (kf : x = 0 → V (pc + 3) L st h kc ks) : V pc L (.inl x :: st) h kc ks := by
  obtain ⟨p, l, e, s, m, args, below, meth, c, D, cA, A0, Af, Q, ⟨hx, hb, hml, hown, hts, hK, hAf, hX, hini, hsc, hret⟩, rfl⟩ := hV
  intro A H locs ls hag hL hP hD hS hl
  exact lv_if_ne hx hb hd ht (fun z => kt (fun q => z ((ab_eq hr ab_r0).mpr q)) A H locs ls hag hL hP hD hS hl) (fun z => kf ((ab_eq hr ab_r0).mp z) A H locs ls hag hL hP hD hS hl)
theorem rb_if_lt (hV : ab_Cl cc own nL R al n0 ini sc ret post mc ms V) {x : Int} {off : Int} {tgt : Nat} (hd : decode cc pc = .ok (.ifCond .lt off, 3)) (ht : (pc : Int) + off = (tgt : Int)) (hr : ab_r x) (kt : x < 0 → V tgt L st h kc ks) (kf : ¬ x < 0 → V (pc + 3) L st h kc ks) : V pc L (.inl x :: st) h kc ks := by
  obtain ⟨p, l, e, s, m, args, below, meth, c, D, cA, A0, Af, Q, ⟨hx, hb, hml, hown, hts, hK, hAf, hX, hini, hsc, hret⟩, rfl⟩ := hV
  intro A H locs ls hag hL hP hD hS hl
  exact lv_if_lt hx hb hd ht (fun z => kt ((ab_lt hr ab_r0).mp z) A H locs ls hag hL hP hD hS hl) (fun z => kf (fun q => z ((ab_lt hr ab_r0).mpr q)) A H locs ls hag hL hP hD hS hl)
theorem rb_if_ge (hV : ab_Cl cc own nL R al n0 ini sc ret post mc ms V) {x : Int} {off : Int} {tgt : Nat} (hd : decode cc pc = .ok (.ifCond .ge off, 3)) (ht : (pc : Int) + off = (tgt : Int)) (hr : ab_r x) (kt : 0 ≤ x → V tgt L st h kc ks) (kf : ¬ 0 ≤ x → V (pc + 3) L st h kc ks) : V pc L (.inl x :: st) h kc ks := by
  obtain ⟨p, l, e, s, m, args, below, meth, c, D, cA, A0, Af, Q, ⟨hx, hb, hml, hown, hts, hK, hAf, hX, hini, hsc, hret⟩, rfl⟩ := hV
  intro A H locs ls hag hL hP hD hS hl
  exact lv_if_ge hx hb hd ht (fun z => kt ((ab_le ab_r0 hr).mp z) A H locs ls hag hL hP hD hS hl) (fun z => kf (fun q => z ((ab_le ab_r0 hr).mpr q)) A H locs ls hag hL hP hD hS hl)
theorem rb_if_gt (hV : ab_Cl cc own nL R al n0 ini sc ret post mc ms V) {x : Int} {off : Int} {tgt : Nat} (hd : decode cc pc = .ok (.ifCond .gt off, 3)) (ht : (pc : Int) + off = (tgt : Int)) (hr : ab_r x) (kt : 0 < x → V tgt L st h kc ks) (kf : ¬ 0 < x → V (pc + 3) L st h kc ks) : V pc L (.inl x :: st) h kc ks := by
  obtain ⟨p, l, e, s, m, args, below, meth, c, D, cA, A0, Af, Q, ⟨hx, hb, hml, hown, hts, hK, hAf, hX, hini, hsc, hret⟩, rfl⟩ := hV
  intro A H locs ls hag hL hP hD hS hl
  exact lv_if_gt hx hb hd ht (fun z => kt ((ab_lt ab_r0 hr).mp z) A H locs ls hag hL hP hD hS hl) (fun z => kf (fun q => z ((ab_lt ab_r0 hr).mpr q)) A H locs ls hag hL hP hD hS hl)
theorem rb_if_le (hV : ab_Cl cc own nL R al n0 ini sc ret post mc ms V) {x : Int} {off : Int} {tgt : Nat} (hd : decode cc pc = .ok (.ifCond .le off, 3)) (ht : (pc : Int) + off = (tgt : Int)) (hr : ab_r x) (kt : x ≤ 0 → V tgt L st h kc ks) (kf : ¬ x ≤ 0 → V (pc + 3) L st h kc ks) : V pc L (.inl x :: st) h kc ks := by
  obtain ⟨p, l, e, s, m, args, below, meth, c, D, cA, A0, Af, Q, ⟨hx, hb, hml, hown, hts, hK, hAf, hX, hini, hsc, hret⟩, rfl⟩ := hV
  intro A H locs ls hag hL hP hD hS hl
  exact lv_if_le hx hb hd ht (fun z => kt ((ab_le hr ab_r0).mp z) A H locs ls hag hL hP hD hS hl) (fun z => kf (fun q => z ((ab_le hr ab_r0).mpr q)) A H locs ls hag hL hP hD hS hl)
theorem rb_tabIn (hV : ab_Cl cc own nL R al n0 ini sc ret post mc ms V) {dflt lo hi : Int} {offs : Array Int} {len : Nat} {x : Int} {off : Int} {tgt : Nat} (hd : decode cc pc = .ok (.tableswitch dflt lo hi offs, len)) (hr : ab_r x) (h1 : lo ≤ x) (h2 : x ≤ hi) (ho : offs[(x - lo).toNat]? = some off) (ht : (pc : Int) + off = (tgt : Int)) (k : V tgt L st h kc ks) : V pc L (.inl x :: st) h kc ks := by
  obtain ⟨p, l, e, s, m, args, below, meth, c, D, cA, A0, Af, Q, ⟨hx, hb, hml, hown, hts, hK, hAf, hX, hini, hsc, hret⟩, rfl⟩ := hV
  intro A H locs ls hag hL hP hD hS hl
  have hz := ab_toInt hr
  exact lv_tableIn hx hb hd (by rw [hz]; omega) (by rw [hz]; omega) (by rw [hz]; exact ho) ht (k A H locs ls hag hL hP hD hS hl)
theorem rb_tabOut (hV : ab_Cl cc own nL R al n0 ini sc ret post mc ms V) {dflt lo hi : Int} {offs : Array Int} {len : Nat} {x : Int} {tgt : Nat} (hd : decode cc pc = .ok (.tableswitch dflt lo hi offs, len)) (hr : ab_r x) (h1 : x < lo ∨ hi < x) (ht : (pc : Int) + dflt = (tgt : Int)) (k : V tgt L st h kc ks) : V pc L (.inl x :: st) h kc ks := by
  obtain ⟨p, l, e, s, m, args, below, meth, c, D, cA, A0, Af, Q, ⟨hx, hb, hml, hown, hts, hK, hAf, hX, hini, hsc, hret⟩, rfl⟩ := hV
  intro A H locs ls hag hL hP hD hS hl
  have hz := ab_toInt hr
  exact lv_tableOut hx hb hd (by rw [hz]; exact h1) ht (k A H locs ls hag hL hP hD hS hl)
/-- a field's place in its class's table, by the constant pool's entry -/
def ab_F (own : String) (idx ci k : Nat) : Prop := ∃ (C : String) (T : u_T) (N : Nat), xcl[ci]? = some (C, T, N) ∧ k < N ∧ Cond.fieldLink own idx (T k).1 (T k).2.1 (T k).2.2.1 ∈ xtb
theorem rb_get (hV : ab_Cl cc own nL R al n0 ini sc ret post mc ms V) {idx ci j q : Nat} {fs : List ab_V} {v : ab_V} (hd : decode cc pc = .ok (.getfield idx, 3)) (hf : ab_F own idx ci j) (hq : h[q]? = some (.inr (ci, fs))) (hv : fs[j]? = some v) (k : V (pc + 3) L (v :: st) h kc ks) : V pc L (.inr (some q) :: st) h kc ks := by
  obtain ⟨p, l, e, s, m, args, below, meth, c, D, cA, A0, Af, Q, ⟨hx, hb, hml, hown, hts, hK, hAf, hX, hini, hsc, hret⟩, rfl⟩ := hV
  intro A H locs ls hag hL hP hD hS hl
  obtain ⟨C, T, N, h1, h2, h3⟩ := hf
  refine va_get (C := C) (T := T) (N := N) (ci := ci) hx hb hts (xcl_ok h1).1 hown hK hP q (ab_w_at hq) h1 j h2 (hts _ h3) (fun _ z => z) (v := ab_v A v) ?_ hd (k A H locs ls hag hL hP hD hS hl)
  rw [List.getElem?_map, hv]
  rfl
theorem rb_put (hV : ab_Cl cc own nL R al n0 ini sc ret post mc ms V) {idx ci j q : Nat} {fs : List ab_V} {v : ab_V} {h2 : List ab_E} {C : String} {T : u_T} {N : Nat} (hd : decode cc pc = .ok (.putfield idx, 3)) (hc : xcl[ci]? = some (C, T, N)) (hj : j < N) (hlk : Cond.fieldLink own idx (T j).1 (T j).2.1 (T j).2.2.1 ∈ xtb) (hfin : (T j).2.2.2 = false) (hq : h[q]? = some (.inr (ci, fs))) (hl2 : j < fs.length) (hty : ab_fit (parseFieldDescriptor (T j).2.2.1) v) (hh : h.set q (.inr (ci, fs.set j v)) = h2) (k : V (pc + 3) L st h2 kc ks) : V pc L (v :: .inr (some q) :: st) h kc ks := by
  obtain ⟨p, l, e, s, m, args, below, meth, c, D, cA, A0, Af, Q, ⟨hx, hb, hml, hown, hts, hK, hAf, hX, hini, hsc, hret⟩, rfl⟩ := hV
  intro A H locs ls hag hL hP hD hS hl
  subst hh
  obtain ⟨ty, t1, t2, t3⟩ := ab_fit_ok A hty
  obtain ⟨ty0, hn1, hn2⟩ := (xcl_ok hc).2
  refine va_put (C := C) (T := T) (N := N) (ci := ci) hx hb hts (xcl_ok hc).1 ty0 hn1 hn2 hown hK hP hD hS q (ab_w_at hq) hc j hj (hts _ hlk) (fun _ z => z) hfin (ty := ty) (v := ab_v A v) t1 t2 t3 (by rw [List.length_map]; exact hl2) hd (fun H1 locs1 P1 D1 S1 => ?_)
  have e1 : (ab_w A cA 0 h).set q (A q, .inr (ci, (fs.map (ab_v A)).set j (ab_v A v))) = ab_w A cA 0 (h.set q (.inr (ci, fs.set j v))) := by
    rw [← ab_w_put, ← List.map_set]
    rfl
  rw [e1] at P1 D1
  exact k A H1 locs1 ls hag hL P1 D1 S1 hl
theorem rb_putF (hV : ab_Cl cc own nL R al n0 ini sc ret post mc ms V) {idx ci j q : Nat} {fs : List ab_V} {v : ab_V} {h2 : List ab_E} {C : String} {T : u_T} {N : Nat} (hd : decode cc pc = .ok (.putfield idx, 3)) (hc : xcl[ci]? = some (C, T, N)) (hj : j < N) (hlk : Cond.fieldLink own idx (T j).1 (T j).2.1 (T j).2.2.1 ∈ xtb) (hfin : (T j).2.2.2 = true) (hi : ini = true) (hdc : (T j).1 = own) (hq : h[q]? = some (.inr (ci, fs))) (hl2 : j < fs.length) (hty : ab_fit (parseFieldDescriptor (T j).2.2.1) v) (hh : h.set q (.inr (ci, fs.set j v)) = h2) (k : V (pc + 3) L st h2 kc ks) : V pc L (v :: .inr (some q) :: st) h kc ks := by
  obtain ⟨p, l, e, s, m, args, below, meth, c, D, cA, A0, Af, Q, ⟨hx, hb, hml, hown, hts, hK, hAf, hX, hini, hsc, hret⟩, rfl⟩ := hV
  intro A H locs ls hag hL hP hD hS hl
  subst hh
  obtain ⟨ty, t1, t2, t3⟩ := ab_fit_ok A hty
  obtain ⟨ty0, hn1, hn2⟩ := (xcl_ok hc).2
  refine va_putF (C := C) (T := T) (N := N) (ci := ci) hx hb hts (xcl_ok hc).1 ty0 hn1 hn2 hown hK hP hD hS q (ab_w_at hq) hc j hj (hts _ hlk) (fun _ z => z) hfin (hini hi) hdc (ty := ty) (v := ab_v A v) t1 t2 t3 (by rw [List.length_map]; exact hl2) hd (fun H1 locs1 P1 D1 S1 => ?_)
  have e1 : (ab_w A cA 0 h).set q (A q, .inr (ci, (fs.map (ab_v A)).set j (ab_v A v))) = ab_w A cA 0 (h.set q (.inr (ci, fs.set j v))) := by
    rw [← ab_w_put, ← List.map_set]
    rfl
  rw [e1] at P1 D1
  exact k A H1 locs1 ls hag hL P1 D1 S1 hl
theorem ab_upd (f : Int → Int) (z v : Int) (hz : 0 ≤ z) : (fun j : Nat => ab_i (ab_u f z v (j : Int))) = upd (fun j : Nat => ab_i (f (j : Int))) z.toNat (ab_i v) := by
  funext j
  unfold ab_u upd
  by_cases hj : j = z.toNat
  · rw [if_pos hj, if_pos (show (j : Int) = z by omega)]
  · rw [if_neg hj, if_neg (show ¬ (j : Int) = z by omega)]
theorem rb_iald (hV : ab_Cl cc own nL R al n0 ini sc ret post mc ms V) {q n : Nat} {f : Int → Int} {z : Int} (hd : decode cc pc = .ok (.iaload, 1)) (hq : h[q]? = some (.inl (0, n, f))) (hn : n < 2147483648) (hz : 0 ≤ z ∧ z < n) (k : V (pc + 1) L (.inl (f z) :: st) h kc ks) : V pc L (.inl z :: .inr (some q) :: st) h kc ks := by
  obtain ⟨p, l, e, s, m, args, below, meth, c, D, cA, A0, Af, Q, ⟨hx, hb, hml, hown, hts, hK, hAf, hX, hini, hsc, hret⟩, rfl⟩ := hV
  intro A H locs ls hag hL hP hD hS hl
  have k1 := k A H locs ls hag hL hP hD hS hl
  have hr : ab_r z := ⟨by omega, by omega⟩
  refine va_iald hx hb hK hP q 0 (ab_w_at hq) rfl (ab_vin hn hz.1 hz.2) hd ?_
  rw [ab_clamp hr, show ((z.toNat : Nat) : Int) = z by omega]
  exact k1
theorem rb_cald (hV : ab_Cl cc own nL R al n0 ini sc ret post mc ms V) {q n : Nat} {f : Int → Int} {z : Int} (hd : decode cc pc = .ok (.caload, 1)) (hq : h[q]? = some (.inl (1, n, f))) (hn : n < 2147483648) (hz : 0 ≤ z ∧ z < n) (k : V (pc + 1) L (.inl (f z) :: st) h kc ks) : V pc L (.inl z :: .inr (some q) :: st) h kc ks := by
  obtain ⟨p, l, e, s, m, args, below, meth, c, D, cA, A0, Af, Q, ⟨hx, hb, hml, hown, hts, hK, hAf, hX, hini, hsc, hret⟩, rfl⟩ := hV
  intro A H locs ls hag hL hP hD hS hl
  have k1 := k A H locs ls hag hL hP hD hS hl
  have hr : ab_r z := ⟨by omega, by omega⟩
  refine va_cald hx hb hK hP q 1 (ab_w_at hq) rfl (ab_vin hn hz.1 hz.2) hd ?_
  rw [ab_clamp hr, show ((z.toNat : Nat) : Int) = z by omega]
  exact k1
theorem rb_zald (hV : ab_Cl cc own nL R al n0 ini sc ret post mc ms V) {q n : Nat} {f : Int → Int} {z : Int} (hd : decode cc pc = .ok (.baload, 1)) (hq : h[q]? = some (.inl (2, n, f))) (hn : n < 2147483648) (hz : 0 ≤ z ∧ z < n) (k : V (pc + 1) L (.inl (f z) :: st) h kc ks) : V pc L (.inl z :: .inr (some q) :: st) h kc ks := by
  obtain ⟨p, l, e, s, m, args, below, meth, c, D, cA, A0, Af, Q, ⟨hx, hb, hml, hown, hts, hK, hAf, hX, hini, hsc, hret⟩, rfl⟩ := hV
  intro A H locs ls hag hL hP hD hS hl
  have k1 := k A H locs ls hag hL hP hD hS hl
  have hr : ab_r z := ⟨by omega, by omega⟩
  refine va_zald hx hb hK hP q 2 (ab_w_at hq) rfl (ab_vin hn hz.1 hz.2) hd ?_
  rw [ab_clamp hr, show ((z.toNat : Nat) : Int) = z by omega]
  exact k1
theorem rb_iast (hV : ab_Cl cc own nL R al n0 ini sc ret post mc ms V) {q n : Nat} {f f2 : Int → Int} {z v : Int} {h2 : List ab_E} (hd : decode cc pc = .ok (.iastore, 1)) (hq : h[q]? = some (.inl (0, n, f))) (hn : n < 2147483648) (hz : 0 ≤ z ∧ z < n) (hf : ab_u f z v = f2) (hh : h.set q (.inl (0, n, f2)) = h2) (k : V (pc + 1) L st h2 kc ks) : V pc L (.inl v :: .inl z :: .inr (some q) :: st) h kc ks := by
  obtain ⟨p, l, e, s, m, args, below, meth, c, D, cA, A0, Af, Q, ⟨hx, hb, hml, hown, hts, hK, hAf, hX, hini, hsc, hret⟩, rfl⟩ := hV
  intro A H locs ls hag hL hP hD hS hl
  subst hh
  subst hf
  have hr : ab_r z := ⟨by omega, by omega⟩
  refine va_iast hx hb hK hP hD hS q 0 (ab_w_at hq) rfl (ab_vin hn hz.1 hz.2) hd (fun H1 locs1 P1 D1 S1 => ?_)
  rw [ab_clamp hr, ← ab_upd f z v hz.1] at P1 D1
  have e1 : (ab_w A cA 0 h).set q (A q, .inl (cA 0, n, .inl (fun j : Nat => ab_i (ab_u f z v (j : Int))))) = ab_w A cA 0 (h.set q (.inl (0, n, ab_u f z v))) := by
    rw [← ab_w_put]
    rfl
  have P2 := e1 ▸ P1
  have D2 := e1 ▸ D1
  exact k A H1 locs1 ls hag hL P2 D2 S1 hl
theorem rb_cast (hV : ab_Cl cc own nL R al n0 ini sc ret post mc ms V) {q n : Nat} {f f2 : Int → Int} {z v : Int} {h2 : List ab_E} (hd : decode cc pc = .ok (.castore, 1)) (hq : h[q]? = some (.inl (1, n, f))) (hn : n < 2147483648) (hz : 0 ≤ z ∧ z < n) (hc : 0 ≤ v ∧ v < 65536) (hf : ab_u f z v = f2) (hh : h.set q (.inl (1, n, f2)) = h2) (k : V (pc + 1) L st h2 kc ks) : V pc L (.inl v :: .inl z :: .inr (some q) :: st) h kc ks := by
  obtain ⟨p, l, e, s, m, args, below, meth, c, D, cA, A0, Af, Q, ⟨hx, hb, hml, hown, hts, hK, hAf, hX, hini, hsc, hret⟩, rfl⟩ := hV
  intro A H locs ls hag hL hP hD hS hl
  subst hh
  subst hf
  have hr : ab_r z := ⟨by omega, by omega⟩
  refine va_cast hx hb hK hP hD hS q 1 (ab_w_at hq) rfl (ab_vin hn hz.1 hz.2) hd (fun H1 locs1 P1 D1 S1 => ?_)
  rw [ab_nar_char hc] at P1 D1
  rw [ab_clamp hr, ← ab_upd f z v hz.1] at P1 D1
  have e1 : (ab_w A cA 0 h).set q (A q, .inl (cA 1, n, .inl (fun j : Nat => ab_i (ab_u f z v (j : Int))))) = ab_w A cA 0 (h.set q (.inl (1, n, ab_u f z v))) := by
    rw [← ab_w_put]
    rfl
  have P2 := e1 ▸ P1
  have D2 := e1 ▸ D1
  exact k A H1 locs1 ls hag hL P2 D2 S1 hl
theorem rb_zast (hV : ab_Cl cc own nL R al n0 ini sc ret post mc ms V) {q n : Nat} {f f2 : Int → Int} {z v : Int} {h2 : List ab_E} (hd : decode cc pc = .ok (.bastore, 1)) (hq : h[q]? = some (.inl (2, n, f))) (hn : n < 2147483648) (hz : 0 ≤ z ∧ z < n) (hc : v = 0 ∨ v = 1) (hf : ab_u f z v = f2) (hh : h.set q (.inl (2, n, f2)) = h2) (k : V (pc + 1) L st h2 kc ks) : V pc L (.inl v :: .inl z :: .inr (some q) :: st) h kc ks := by
  obtain ⟨p, l, e, s, m, args, below, meth, c, D, cA, A0, Af, Q, ⟨hx, hb, hml, hown, hts, hK, hAf, hX, hini, hsc, hret⟩, rfl⟩ := hV
  intro A H locs ls hag hL hP hD hS hl
  subst hh
  subst hf
  have hr : ab_r z := ⟨by omega, by omega⟩
  refine va_zast hx hb hK hP hD hS q 2 (ab_w_at hq) rfl (ab_vin hn hz.1 hz.2) hd (fun H1 locs1 P1 D1 S1 => ?_)
  rw [ab_nar_boolean hc] at P1 D1
  rw [ab_clamp hr, ← ab_upd f z v hz.1] at P1 D1
  have e1 : (ab_w A cA 0 h).set q (A q, .inl (cA 2, n, .inl (fun j : Nat => ab_i (ab_u f z v (j : Int))))) = ab_w A cA 0 (h.set q (.inl (2, n, ab_u f z v))) := by
    rw [← ab_w_put]
    rfl
  have P2 := e1 ▸ P1
  have D2 := e1 ▸ D1
  exact k A H1 locs1 ls hag hL P2 D2 S1 hl
theorem rb_alen (hV : ab_Cl cc own nL R al n0 ini sc ret post mc ms V) {q t n : Nat} {f : Int → Int} (hd : decode cc pc = .ok (.arraylength, 1)) (hq : h[q]? = some (.inl (t, n, f))) (ht : t < 3) (k : V (pc + 1) L (.inl (n : Int) :: st) h kc ks) : V pc L (.inr (some q) :: st) h kc ks := by
  obtain ⟨p, l, e, s, m, args, below, meth, c, D, cA, A0, Af, Q, ⟨hx, hb, hml, hown, hts, hK, hAf, hX, hini, hsc, hret⟩, rfl⟩ := hV
  intro A H locs ls hag hL hP hD hS hl
  have k1 := k A H locs ls hag hL hP hD hS hl
  obtain ⟨ty, hty⟩ : ∃ ty, (ab_ty cA)[t]? = some (cA t, ty) := by
    match t, ht with
    | 0, _ => exact ⟨_, rfl⟩
    | 1, _ => exact ⟨_, rfl⟩
    | 2, _ => exact ⟨_, rfl⟩
  exact va_alen hx hb hK hP q t (ab_w_at hq) hty (v := ab_i (n : Int)) rfl hd k1
theorem rb_sld (hV : ab_Cl cc own nL R al n0 ini sc ret post mc ms V) {n : Nat} {f : Int → Int} {z : Int} (hd : decode cc pc = .ok (.iaload, 1)) (hs : sc = some (n, f)) (hn : n < 2147483648) (hz : 0 ≤ z ∧ z < n) (k : V (pc + 1) L (.inl (f z) :: st) h kc ks) : V pc L (.inl z :: .inr (some 3000) :: st) h kc ks := by
  obtain ⟨p, l, e, s, m, args, below, meth, c, D, cA, A0, Af, Q, ⟨hx, hb, hml, hown, hts, hK, hAf, hX, hini, hsc, hret⟩, rfl⟩ := hV
  intro A H locs ls hag hL hP hD hS hl
  have k1 := k A H locs ls hag hL hP hD hS hl
  have hr : ab_r z := ⟨by omega, by omega⟩
  obtain ⟨s1, s2, s3⟩ := hsc n f hs A hag
  refine va_sld hx hb s1 s2 s3 hS (ab_vin hn hz.1 hz.2) hd ?_
  rw [ab_clamp hr, show ((z.toNat : Nat) : Int) = z by omega]
  exact k1
theorem rb_slen (hV : ab_Cl cc own nL R al n0 ini sc ret post mc ms V) {n : Nat} {f : Int → Int} (hd : decode cc pc = .ok (.arraylength, 1)) (hs : sc = some (n, f)) (k : V (pc + 1) L (.inl (n : Int) :: st) h kc ks) : V pc L (.inr (some 3000) :: st) h kc ks := by
  obtain ⟨p, l, e, s, m, args, below, meth, c, D, cA, A0, Af, Q, ⟨hx, hb, hml, hown, hts, hK, hAf, hX, hini, hsc, hret⟩, rfl⟩ := hV
  intro A H locs ls hag hL hP hD hS hl
  obtain ⟨s1, s2, s3⟩ := hsc n f hs A hag
  exact va_slen hx hb s1 s2 s3 hS hd (k A H locs ls hag hL hP hD hS hl)
theorem rb_i2c (hV : ab_Cl cc own nL R al n0 ini sc ret post mc ms V) {x : Int} (hd : decode cc pc = .ok (.i2c, 1)) (k : V (pc + 1) L (.inl (x % 65536) :: st) h kc ks) : V pc L (.inl x :: st) h kc ks := by
  obtain ⟨p, l, e, s, m, args, below, meth, c, D, cA, A0, Af, Q, ⟨hx, hb, hml, hown, hts, hK, hAf, hX, hini, hsc, hret⟩, rfl⟩ := hV
  intro A H locs ls hag hL hP hD hS hl
  exact lv_i2c (v := ab_i (x % 65536)) hx hb hd (ab_c16 x) (k A H locs ls hag hL hP hD hS hl)
theorem rb_i2b (hV : ab_Cl cc own nL R al n0 ini sc ret post mc ms V) {x : Int} (hd : decode cc pc = .ok (.i2b, 1)) (hr : -128 ≤ x ∧ x < 128) (k : V (pc + 1) L (.inl x :: st) h kc ks) : V pc L (.inl x :: st) h kc ks := by
  obtain ⟨p, l, e, s, m, args, below, meth, c, D, cA, A0, Af, Q, ⟨hx, hb, hml, hown, hts, hK, hAf, hX, hini, hsc, hret⟩, rfl⟩ := hV
  intro A H locs ls hag hL hP hD hS hl
  exact lv_i2b (v := ab_i x) hx hb hd (ab_b8 hr) (k A H locs ls hag hL hP hD hS hl)
theorem rb_iand (hV : ab_Cl cc own nL R al n0 ini sc ret post mc ms V) {x y z : Int} (hd : decode cc pc = .ok (.iand, 1)) (hz : ab_i x &&& ab_i y = ab_i z) (k : V (pc + 1) L (.inl z :: st) h kc ks) : V pc L (.inl y :: .inl x :: st) h kc ks := by
  obtain ⟨p, l, e, s, m, args, below, meth, c, D, cA, A0, Af, Q, ⟨hx, hb, hml, hown, hts, hK, hAf, hX, hini, hsc, hret⟩, rfl⟩ := hV
  intro A H locs ls hag hL hP hD hS hl
  have k1 := k A H locs ls hag hL hP hD hS hl
  refine lv_iand hx hb hd ?_
  rw [hz]
  exact k1
theorem rb_ishr0 (hV : ab_Cl cc own nL R al n0 ini sc ret post mc ms V) {x : Int} (hd : decode cc pc = .ok (.ishr, 1)) (k : V (pc + 1) L (.inl x :: st) h kc ks) : V pc L (.inl 0 :: .inl x :: st) h kc ks := by
  obtain ⟨p, l, e, s, m, args, below, meth, c, D, cA, A0, Af, Q, ⟨hx, hb, hml, hown, hts, hK, hAf, hX, hini, hsc, hret⟩, rfl⟩ := hV
  intro A H locs ls hag hL hP hD hS hl
  have k1 := k A H locs ls hag hL hP hD hS hl
  refine lv_ishr hx hb hd ?_
  rw [show ab_i x >>> (ab_i 0 &&& 31) = ab_i x from sb_shr0 (ab_i x)]
  exact k1
theorem rb_mmax (hV : ab_Cl cc own nL R al n0 ini sc ret post mc ms V) {idx : Nat} {x y : Int} (hd : decode cc pc = .ok (.invokestatic idx, 3)) (hlk : Cond.methodLink own idx Lib.Math.max.name ∈ xtb) (hr : ab_r x ∧ ab_r y) (hf : 1 ≤ R.frames) (hlo : st.length + 13 ≤ R.locals) (hcs : kc ≤ R.cells ∧ ks ≤ R.slots) (k : V (pc + 3) L (.inl (max x y) :: st) h kc ks) : V pc L (.inl y :: .inl x :: st) h kc ks := by
  obtain ⟨p, l, e, s, m, args, below, meth, c, D, cA, A0, Af, Q, ⟨hx, hb, hml, hown, hts, hK, hAf, hX, hini, hsc, hret⟩, rfl⟩ := hV
  intro A H locs ls hag hL hP hD hS hl
  have k1 := k A H locs ls hag hL hP hD hS hl
  refine va_mmax hx hb (by rw [hml]; exact hl.1.symm) hown (hts _ hlk) (hts _ xw_mmax.1) (hts _ xw_mmax.2.1) (hts _ xw_mmax.2.2) hf (by rw [ab_sum]; exact hlo) hcs.1 hcs.2 hd ?_
  have e1 : (if ab_i x < ab_i y then ab_i y else ab_i x) = ab_i (max x y) := ab_mmax hr.1 hr.2
  rw [e1]
  exact k1
theorem rb_mmin (hV : ab_Cl cc own nL R al n0 ini sc ret post mc ms V) {idx : Nat} {x y : Int} (hd : decode cc pc = .ok (.invokestatic idx, 3)) (hlk : Cond.methodLink own idx Lib.Math.min.name ∈ xtb) (hr : ab_r x ∧ ab_r y) (hf : 1 ≤ R.frames) (hlo : st.length + 13 ≤ R.locals) (hcs : kc ≤ R.cells ∧ ks ≤ R.slots) (k : V (pc + 3) L (.inl (min x y) :: st) h kc ks) : V pc L (.inl y :: .inl x :: st) h kc ks := by
  obtain ⟨p, l, e, s, m, args, below, meth, c, D, cA, A0, Af, Q, ⟨hx, hb, hml, hown, hts, hK, hAf, hX, hini, hsc, hret⟩, rfl⟩ := hV
  intro A H locs ls hag hL hP hD hS hl
  have k1 := k A H locs ls hag hL hP hD hS hl
  refine va_mmin hx hb (by rw [hml]; exact hl.1.symm) hown (hts _ hlk) (hts _ xw_mmin.1) (hts _ xw_mmin.2.1) (hts _ xw_mmin.2.2) hf (by rw [ab_sum]; exact hlo) hcs.1 hcs.2 hd ?_
  have e1 : (if ab_i y < ab_i x then ab_i y else ab_i x) = ab_i (min x y) := ab_mmin hr.1 hr.2
  rw [e1]
  exact k1
theorem rb_mabs (hV : ab_Cl cc own nL R al n0 ini sc ret post mc ms V) {idx : Nat} {x : Int} (hd : decode cc pc = .ok (.invokestatic idx, 3)) (hlk : Cond.methodLink own idx Lib.Math.abs.name ∈ xtb) (hr : ab_r x) (hf : 1 ≤ R.frames) (hlo : st.length + 13 ≤ R.locals) (hcs : kc ≤ R.cells ∧ ks ≤ R.slots) (k : V (pc + 3) L (.inl (if 0 ≤ x then x else -x) :: st) h kc ks) : V pc L (.inl x :: st) h kc ks := by
  obtain ⟨p, l, e, s, m, args, below, meth, c, D, cA, A0, Af, Q, ⟨hx, hb, hml, hown, hts, hK, hAf, hX, hini, hsc, hret⟩, rfl⟩ := hV
  intro A H locs ls hag hL hP hD hS hl
  have k1 := k A H locs ls hag hL hP hD hS hl
  refine va_mabs hx hb (by rw [hml]; exact hl.1.symm) hown (hts _ hlk) (hts _ xw_mabs.1) (hts _ xw_mabs.2.1) (hts _ xw_mabs.2.2) hf (by rw [ab_sum]; exact hlo) hcs.1 hcs.2 hd ?_
  have e1 : (if 0 ≤ ab_i x then ab_i x else 0 - ab_i x) = ab_i (if 0 ≤ x then x else -x) := ab_mabs hr
  rw [e1]
  exact k1
theorem rb_ldcS (hV : ab_Cl cc own nL R al n0 ini sc ret post mc ms V) {idx i : Nat} {tx : String} (hd : decode cc pc = .ok (.ldc idx, 2)) (hi : xsK[i]? = some (own, idx, tx)) (k : V (pc + 2) L (.inr (some (1000 + i)) :: st) h kc ks) : V pc L st h kc ks := by
  obtain ⟨p, l, e, s, m, args, below, meth, c, D, cA, A0, Af, Q, ⟨hx, hb, hml, hown, hts, hK, hAf, hX, hini, hsc, hret⟩, rfl⟩ := hV
  intro A H locs ls hag hL hP hD hS hl
  exact va_ldcS hx hb hown ((hX A hag).2.2.2.1 i _ hi) hd (k A H locs ls hag hL hP hD hS hl)
theorem rb_getSv (hV : ab_Cl cc own nL R al n0 ini sc ret post mc ms V) {idx i : Nat} (hd : decode cc pc = .ok (.getfield idx, 3)) (hi : i < 16) (hlk : Cond.fieldLink own idx "java/lang/String" "value" "[B" ∈ xtb) (k : V (pc + 3) L (.inr (some (2000 + i)) :: st) h kc ks) : V pc L (.inr (some (1000 + i)) :: st) h kc ks := by
  obtain ⟨p, l, e, s, m, args, below, meth, c, D, cA, A0, Af, Q, ⟨hx, hb, hml, hown, hts, hK, hAf, hX, hini, hsc, hret⟩, rfl⟩ := hV
  intro A H locs ls hag hL hP hD hS hl
  exact vk_getf hx hb ((hX A hag).1.1 i hi).2.2.1 hS hown (hts _ hlk) (fun _ z => z) hd (k A H locs ls hag hL hP hD hS hl)
theorem rb_getSc (hV : ab_Cl cc own nL R al n0 ini sc ret post mc ms V) {idx i : Nat} (hd : decode cc pc = .ok (.getfield idx, 3)) (hi : i < 16) (hlk : Cond.fieldLink own idx "java/lang/String" "coder" "B" ∈ xtb) (k : V (pc + 3) L (.inl 0 :: st) h kc ks) : V pc L (.inr (some (1000 + i)) :: st) h kc ks := by
  obtain ⟨p, l, e, s, m, args, below, meth, c, D, cA, A0, Af, Q, ⟨hx, hb, hml, hown, hts, hK, hAf, hX, hini, hsc, hret⟩, rfl⟩ := hV
  intro A H locs ls hag hL hP hD hS hl
  exact vk_getf hx hb ((hX A hag).1.1 i hi).2.1 hS hown (hts _ hlk) (fun _ z => z) hd (k A H locs ls hag hL hP hD hS hl)
theorem rb_getCS (hV : ab_Cl cc own nL R al n0 ini sc ret post mc ms V) {idx : Nat} (hd : decode cc pc = .ok (.getstatic idx, 3)) (hlk : Cond.fieldLink own idx "java/lang/String" "COMPACT_STRINGS" "Z" ∈ xtb) (k : V (pc + 3) L (.inl 1 :: st) h kc ks) : V pc L st h kc ks := by
  obtain ⟨p, l, e, s, m, args, below, meth, c, D, cA, A0, Af, Q, ⟨hx, hb, hml, hown, hts, hK, hAf, hX, hini, hsc, hret⟩, rfl⟩ := hV
  intro A H locs ls hag hL hP hD hS hl
  exact va_gets hx hb (hX A hag).2.1 hS hown (hts _ hlk) (fun _ z => z) hd (k A H locs ls hag hL hP hD hS hl)
theorem rb_getSF (hV : ab_Cl cc own nL R al n0 ini sc ret post mc ms V) {idx : Nat} (hd : decode cc pc = .ok (.getstatic idx, 3)) (hlk : Cond.fieldLink own idx "jdk/internal/util/Preconditions" "SIOOBE_FORMATTER" "Ljava/util/function/BiFunction;" ∈ xtb) (k : ∀ v : ab_V, V (pc + 3) L (v :: st) h kc ks) : V pc L st h kc ks := by
  obtain ⟨p, l, e, s, m, args, below, meth, c, D, cA, A0, Af, Q, ⟨hx, hb, hml, hown, hts, hK, hAf, hX, hini, hsc, hret⟩, rfl⟩ := hV
  intro A H locs ls hag hL hP hD hS hl
  rcases (hX A hag).2.2.1 with z | z
  · exact va_gets hx hb z hS hown (hts _ hlk) (fun _ z => z) hd (k (.inr none) A H locs ls hag hL hP hD hS hl)
  · exact va_gets hx hb z hS hown (hts _ hlk) (fun _ z => z) hd (k (.inr (some 3001)) A H locs ls hag hL hP hD hS hl)
theorem rb_lenS (hV : ab_Cl cc own nL R al n0 ini sc ret post mc ms V) {i : Nat} (hd : decode cc pc = .ok (.arraylength, 1)) (hi : i < 16) (k : V (pc + 1) L (.inl ((xsL.getD i 0 : Nat) : Int) :: st) h kc ks) : V pc L (.inr (some (2000 + i)) :: st) h kc ks := by
  obtain ⟨p, l, e, s, m, args, below, meth, c, D, cA, A0, Af, Q, ⟨hx, hb, hml, hown, hts, hK, hAf, hX, hini, hsc, hret⟩, rfl⟩ := hV
  intro A H locs ls hag hL hP hD hS hl
  exact va_tlen hx hb ((hX A hag).1.1 i hi).2.2.2 hS (v := ab_i ((xsL.getD i 0 : Nat) : Int)) rfl hd (k A H locs ls hag hL hP hD hS hl)
theorem rb_baldS (hV : ab_Cl cc own nL R al n0 ini sc ret post mc ms V) {i : Nat} {z : Int} (hd : decode cc pc = .ok (.baload, 1)) (hi : i < 16) (hz : 0 ≤ z ∧ z < (xsL.getD i 0 : Nat)) (k : V (pc + 1) L (.inl ((xsB.getD i []).getD z.toNat 0).toInt :: st) h kc ks) : V pc L (.inl z :: .inr (some (2000 + i)) :: st) h kc ks := by
  obtain ⟨p, l, e, s, m, args, below, meth, c, D, cA, A0, Af, Q, ⟨hx, hb, hml, hown, hts, hK, hAf, hX, hini, hsc, hret⟩, rfl⟩ := hV
  intro A H locs ls hag hL hP hD hS hl
  have k1 := k A H locs ls hag hL hP hD hS hl
  have hlt : xsL.getD i 0 < 2147483648 := xs_small i hi
  have hr : ab_r z := ⟨by omega, by omega⟩
  refine va_tb hx hb ((hX A hag).1.1 i hi).2.2.2 hS (ab_vin hlt hz.1 hz.2) (v := .int (ab_i ((xsB.getD i []).getD z.toNat 0).toInt)) ?_ hd k1
  rw [ab_clamp hr, ab_of]
theorem ab_Ag_new {A0 : Nat → Nat} {A : Nat → Nat} {n q : Nat} (hn : n0 ≤ n) (hn2 : n < 1000) (h : ab_Ag true A0 n0 A) : ab_Ag true A0 n0 (fun k => if k = n then q else A k) := by
  unfold ab_Ag at h ⊢
  rw [if_pos rfl] at h ⊢
  intro k hk
  dsimp only
  rw [if_neg (by omega)]
  exact h k hk
theorem rb_new (hV : ab_Cl cc own nL R al n0 ini sc ret post mc ms V) {idx ci : Nat} {C : String} {T : u_T} {N : Nat} {ty : Nat → FieldType} {fs : List ab_V} {h2 : List ab_E} {n kc2 ks2 : Nat} (hd : decode cc pc = .ok (.new idx, 3)) (hal : al = true) (hc : xcl[ci]? = some (C, T, N)) (hty : ∀ k, k < N → parseFieldDescriptor (T k).2.2.1 = some (ty k)) (hlk : Cond.classLink own idx C ∈ xtb ∧ Cond.instantiable C N ∈ xtb ∧ Cond.initialized C ∈ xtb) (hfs : ∀ j, j < N → defaultValue (ty j) = vp_V (fs.map (ab_v (fun _ => 0))) j) (hf0 : fs.all (ab_ok 0) = true ∧ fs.all (fun v => match v with | .inr (some _) => false | _ => true) = true) (hn : h.length = n) (hn0 : n0 ≤ n ∧ n < 1000) (hok : h.all (ab_eok n) = true ∧ ab_lok n L = true ∧ st.all (ab_ok n) = true) (hh : h ++ [.inr (ci, fs)] = h2) (hkc : kc + 1 = kc2 ∧ kc2 ≤ R.cells) (hks : ks + N = ks2 ∧ ks2 ≤ R.slots) (k : V (pc + 3) L (.inr (some n) :: st) h2 kc2 ks2) : V pc L st h kc ks := by
  obtain ⟨p, l, e, s, m, args, below, meth, c, D, cA, A0, Af, Q, ⟨hx, hb, hml, hown, hts, hK, hAf, hX, hini, hsc, hret⟩, rfl⟩ := hV
  intro A H locs ls hag hL hP hD hS hl
  subst hh
  subst hal
  obtain ⟨hc1, hc2⟩ := hkc
  obtain ⟨hs1, hs2⟩ := hks
  subst hc1
  subst hs1
  have hfsA : ∀ B : Nat → Nat, fs.map (ab_v B) = fs.map (ab_v (fun _ => 0)) := fun B => List.map_congr_left fun v hm => by
    have := List.all_eq_true.mp hf0.2 v hm
    rcases v with z | (_ | z)
    · rfl
    · rfl
    · cases this
  refine va_new (C := C) (T := T) (N := N) (ci := ci) (fs := fs.map (ab_v (fun _ => 0))) hx hb hts (xcl_ok hc).1 ty hty hown (hts _ hlk.1) (hts _ hlk.2.1) (hts _ hlk.2.2) hK hP hD hS hAf hc hfs hc2 hs2 hd (fun q H1 P1 D1 S1 => ?_)
  have hA' : ∀ k, k < n ∨ 1000 ≤ k → (fun k => if k = n then q else A k) k = A k := fun k hk => by
    dsimp only
    rw [if_neg (by omega)]
  have e1 : ab_w (fun k => if k = n then q else A k) cA 0 (h ++ [.inr (ci, fs)]) = ab_w A cA 0 h ++ [(q, .inr (ci, fs.map (ab_v (fun _ => 0))))] := by
    rw [ab_w_app, ab_w_ext hA' h 0 hok.1 (by omega), Nat.zero_add, hn, if_pos rfl]
    show _ ++ [(q, ab_e _ cA (.inr (ci, fs)))] = _
    rw [show ab_e (fun k => if k = n then q else A k) cA (.inr (ci, fs)) = .inr (ci, fs.map (ab_v (fun k => if k = n then q else A k))) from rfl, hfsA]
  have e2 := ab_vs_ext hA' hok.2.2
  have k1 := k (fun k => if k = n then q else A k) H1 locs ls (ab_Ag_new hn0.1 hn0.2 hag) hL (by rw [e1]; exact P1) (by rw [e1]; exact D1) S1 (by rw [ab_l_ext hA' L 0 hok.2.1]; exact hl)
  rw [List.map_cons, e2, show ab_v (fun k => if k = n then q else A k) (.inr (some n)) = .ref q from congrArg Value.ref (if_pos rfl)] at k1
  exact k1
theorem rb_newI (hV : ab_Cl cc own nL R al n0 ini sc ret post mc ms V) {z : Int} {N : Nat} {h2 : List ab_E} {n kc2 ks2 : Nat} (hd : decode cc pc = .ok (.newarray .int, 2)) (hal : al = true) (hz : z = (N : Int)) (hN : N ≤ 1000) (hn : h.length = n) (hn0 : n0 ≤ n ∧ n < 1000) (hok : h.all (ab_eok n) = true ∧ ab_lok n L = true ∧ st.all (ab_ok n) = true) (hh : h ++ [.inl (0, N, fun _ => 0)] = h2) (hkc : kc + 1 = kc2 ∧ kc2 ≤ R.cells) (hks : ks + N = ks2 ∧ ks2 ≤ R.slots) (k : V (pc + 2) L (.inr (some n) :: st) h2 kc2 ks2) : V pc L (.inl z :: st) h kc ks := by
  obtain ⟨p, l, e, s, m, args, below, meth, c, D, cA, A0, Af, Q, ⟨hx, hb, hml, hown, hts, hK, hAf, hX, hini, hsc, hret⟩, rfl⟩ := hV
  intro A H locs ls hag hL hP hD hS hl
  subst hh
  subst hal
  subst hz
  obtain ⟨hc1, hc2⟩ := hkc
  obtain ⟨hs1, hs2⟩ := hks
  subst hc1
  subst hs1
  have hr : ab_r (N : Int) := ⟨by omega, by omega⟩
  refine va_newa (atype := .int) (ty := .int) (N' := N) (a0 := (N, .inl (fun _ => ab_i 0))) hx hb (hts _ xw_arr.2.1) rfl hK hP hD hS hAf (fun cA => by rw [vp_cell_i]; rfl) (fun z => ?_) (by rw [ab_clamp hr]; omega) (by show N * 4 ≤ _; omega) hc2 hs2 hd (fun q cA' H1 K1 P1 D1 S1 => ?_)
  · have := (ab_lt hr ab_r0).mp (by rw [ab_0]; exact z)
    omega
  have hcA : cA' = cA 0 := by
    have a1 := (K1.2 3 (cA', .int) rfl).2
    have a2 := (hK.2 0 (cA 0, .int) rfl).2
    exact Option.some.inj (a1.symm.trans a2)
  subst hcA
  have hA' : ∀ k, k < n ∨ 1000 ≤ k → (fun k => if k = n then q else A k) k = A k := fun k hk => by
    dsimp only
    rw [if_neg (by omega)]
  have e1 : ab_w (fun k => if k = n then q else A k) cA 0 (h ++ [.inl (0, N, fun _ => 0)]) = ab_w A cA 0 h ++ [(q, .inl (cA 0, N, .inl (fun _ => ab_i 0)))] := by
    rw [ab_w_app, ab_w_ext hA' h 0 hok.1 (by omega), Nat.zero_add, hn, if_pos rfl]
    rfl
  have e2 := ab_vs_ext hA' hok.2.2
  have k1 := k (fun k => if k = n then q else A k) H1 locs ls (ab_Ag_new hn0.1 hn0.2 hag) hL (by rw [e1]; exact P1) (by rw [e1]; exact D1) S1 (by rw [ab_l_ext hA' L 0 hok.2.1]; exact hl)
  rw [List.map_cons, e2, show ab_v (fun k => if k = n then q else A k) (.inr (some n)) = .ref q from congrArg Value.ref (if_pos rfl)] at k1
  exact k1
theorem rb_newC (hV : ab_Cl cc own nL R al n0 ini sc ret post mc ms V) {z : Int} {N : Nat} {h2 : List ab_E} {n kc2 ks2 : Nat} (hd : decode cc pc = .ok (.newarray .char, 2)) (hal : al = true) (hz : z = (N : Int)) (hN : N ≤ 1000) (hn : h.length = n) (hn0 : n0 ≤ n ∧ n < 1000) (hok : h.all (ab_eok n) = true ∧ ab_lok n L = true ∧ st.all (ab_ok n) = true) (hh : h ++ [.inl (1, N, fun _ => 0)] = h2) (hkc : kc + 1 = kc2 ∧ kc2 ≤ R.cells) (hks : ks + N = ks2 ∧ ks2 ≤ R.slots) (k : V (pc + 2) L (.inr (some n) :: st) h2 kc2 ks2) : V pc L (.inl z :: st) h kc ks := by
  obtain ⟨p, l, e, s, m, args, below, meth, c, D, cA, A0, Af, Q, ⟨hx, hb, hml, hown, hts, hK, hAf, hX, hini, hsc, hret⟩, rfl⟩ := hV
  intro A H locs ls hag hL hP hD hS hl
  subst hh
  subst hal
  subst hz
  obtain ⟨hc1, hc2⟩ := hkc
  obtain ⟨hs1, hs2⟩ := hks
  subst hc1
  subst hs1
  have hr : ab_r (N : Int) := ⟨by omega, by omega⟩
  refine va_newa (atype := .char) (ty := .char) (N' := N) (a0 := (N, .inl (fun _ => ab_i 0))) hx hb (hts _ xw_arr.2.2.1) rfl hK hP hD hS hAf (fun cA => by rw [vp_cell_i]; rfl) (fun z => ?_) (by rw [ab_clamp hr]; omega) (by show N * 2 ≤ _; omega) hc2 hs2 hd (fun q cA' H1 K1 P1 D1 S1 => ?_)
  · have := (ab_lt hr ab_r0).mp (by rw [ab_0]; exact z)
    omega
  have hcA : cA' = cA 1 := by
    have a1 := (K1.2 3 (cA', .char) rfl).2
    have a2 := (hK.2 1 (cA 1, .char) rfl).2
    exact Option.some.inj (a1.symm.trans a2)
  subst hcA
  have hA' : ∀ k, k < n ∨ 1000 ≤ k → (fun k => if k = n then q else A k) k = A k := fun k hk => by
    dsimp only
    rw [if_neg (by omega)]
  have e1 : ab_w (fun k => if k = n then q else A k) cA 0 (h ++ [.inl (1, N, fun _ => 0)]) = ab_w A cA 0 h ++ [(q, .inl (cA 1, N, .inl (fun _ => ab_i 0)))] := by
    rw [ab_w_app, ab_w_ext hA' h 0 hok.1 (by omega), Nat.zero_add, hn, if_pos rfl]
    rfl
  have e2 := ab_vs_ext hA' hok.2.2
  have k1 := k (fun k => if k = n then q else A k) H1 locs ls (ab_Ag_new hn0.1 hn0.2 hag) hL (by rw [e1]; exact P1) (by rw [e1]; exact D1) S1 (by rw [ab_l_ext hA' L 0 hok.2.1]; exact hl)
  rw [List.map_cons, e2, show ab_v (fun k => if k = n then q else A k) (.inr (some n)) = .ref q from congrArg Value.ref (if_pos rfl)] at k1
  exact k1
theorem rb_newZ (hV : ab_Cl cc own nL R al n0 ini sc ret post mc ms V) {z : Int} {N : Nat} {h2 : List ab_E} {n kc2 ks2 : Nat} (hd : decode cc pc = .ok (.newarray .boolean, 2)) (hal : al = true) (hz : z = (N : Int)) (hN : N ≤ 1000) (hn : h.length = n) (hn0 : n0 ≤ n ∧ n < 1000) (hok : h.all (ab_eok n) = true ∧ ab_lok n L = true ∧ st.all (ab_ok n) = true) (hh : h ++ [.inl (2, N, fun _ => 0)] = h2) (hkc : kc + 1 = kc2 ∧ kc2 ≤ R.cells) (hks : ks + N = ks2 ∧ ks2 ≤ R.slots) (k : V (pc + 2) L (.inr (some n) :: st) h2 kc2 ks2) : V pc L (.inl z :: st) h kc ks := by
  obtain ⟨p, l, e, s, m, args, below, meth, c, D, cA, A0, Af, Q, ⟨hx, hb, hml, hown, hts, hK, hAf, hX, hini, hsc, hret⟩, rfl⟩ := hV
  intro A H locs ls hag hL hP hD hS hl
  subst hh
  subst hal
  subst hz
  obtain ⟨hc1, hc2⟩ := hkc
  obtain ⟨hs1, hs2⟩ := hks
  subst hc1
  subst hs1
  have hr : ab_r (N : Int) := ⟨by omega, by omega⟩
  refine va_newa (atype := .boolean) (ty := .boolean) (N' := N) (a0 := (N, .inl (fun _ => ab_i 0))) hx hb (hts _ xw_arr.2.2.2) rfl hK hP hD hS hAf (fun cA => by rw [vp_cell_i]; rfl) (fun z => ?_) (by rw [ab_clamp hr]; omega) (by show N * 1 ≤ _; omega) hc2 hs2 hd (fun q cA' H1 K1 P1 D1 S1 => ?_)
  · have := (ab_lt hr ab_r0).mp (by rw [ab_0]; exact z)
    omega
  have hcA : cA' = cA 2 := by
    have a1 := (K1.2 3 (cA', .boolean) rfl).2
    have a2 := (hK.2 2 (cA 2, .boolean) rfl).2
    exact Option.some.inj (a1.symm.trans a2)
  subst hcA
  have hA' : ∀ k, k < n ∨ 1000 ≤ k → (fun k => if k = n then q else A k) k = A k := fun k hk => by
    dsimp only
    rw [if_neg (by omega)]
  have e1 : ab_w (fun k => if k = n then q else A k) cA 0 (h ++ [.inl (2, N, fun _ => 0)]) = ab_w A cA 0 h ++ [(q, .inl (cA 2, N, .inl (fun _ => ab_i 0)))] := by
    rw [ab_w_app, ab_w_ext hA' h 0 hok.1 (by omega), Nat.zero_add, hn, if_pos rfl]
    rfl
  have e2 := ab_vs_ext hA' hok.2.2
  have k1 := k (fun k => if k = n then q else A k) H1 locs ls (ab_Ag_new hn0.1 hn0.2 hag) hL (by rw [e1]; exact P1) (by rw [e1]; exact D1) S1 (by rw [ab_l_ext hA' L 0 hok.2.1]; exact hl)
  rw [List.map_cons, e2, show ab_v (fun k => if k = n then q else A k) (.inr (some n)) = .ref q from congrArg Value.ref (if_pos rfl)] at k1
  exact k1
theorem rb_objInit (hV : ab_Cl cc own nL R al n0 ini sc ret post mc ms V) {idx q : Nat} (hd : decode cc pc = .ok (.invokespecial idx, 3)) (hlk : Cond.methodLink own idx Lib.objectInit ∈ xtb) (hf : 1 ≤ R.frames) (hlo : st.length + 12 ≤ R.locals) (k : V (pc + 3) L st h kc ks) : V pc L (.inr (some q) :: st) h kc ks := by
  obtain ⟨p, l, e, s, m, args, below, meth, c, D, cA, A0, Af, Q, ⟨hx, hb, hml, hown, hts, hK, hAf, hX, hini, hsc, hret⟩, rfl⟩ := hV
  intro A H locs ls hag hL hP hD hS hl
  refine W.objInit hx hb hown (hts _ hlk) (hts _ xw_obj.1) (hts _ xw_obj.2) rfl (by rw [hml]; exact hl.1) rfl hd hf (by show 2 * 0 + _ + 12 ≤ _; rw [ab_sum]; omega) ?_
  exact W.eq (g2 := F0 m (pc + 3) ls (st.map (ab_v A))) rfl (k A H locs ls hag hL hP hD hS hl)
theorem rb_ret (hV : ab_Cl cc own nL R al n0 ini sc ret post mc ms V) {r : Option ab_V} (hd : decode cc pc = .ok (ab_ri r, 1)) (hst : st = r.toList) (hk : kc ≤ mc ∧ ks ≤ ms) (hrt : ab_rt ret r) (hp : post r h) : V pc L st h kc ks := by
  obtain ⟨p, l, e, s, m, args, below, meth, c, D, cA, A0, Af, Q, ⟨hx, hb, hml, hown, hts, hK, hAf, hX, hini, hsc, hret⟩, rfl⟩ := hV
  intro A H locs ls hag hL hP hD hS hl
  subst hst
  exact W.widen hk.1 hk.2 (hret A H locs ls pc r h hag hP hD hS hp hrt hd)
theorem rb_weak (hV : ab_Cl cc own nL R al n0 ini sc ret post mc ms V) {L2 : ab_L} (hw : ab_less L2 L) (k : V pc L2 st h kc ks) : V pc L st h kc ks := by
  obtain ⟨p, l, e, s, m, args, below, meth, c, D, cA, A0, Af, Q, ⟨hx, hb, hml, hown, hts, hK, hAf, hX, hini, hsc, hret⟩, rfl⟩ := hV
  intro A H locs ls hag hL hP hD hS hl
  obtain ⟨w1, w2⟩ := ab_less_at L2 L hw
  exact k A H locs ls hag (by rw [w1]; exact hL) hP hD hS (ab_lsub hl w2)
theorem rb_widen (hV : ab_Cl cc own nL R al n0 ini sc ret post mc ms V) {kc2 ks2 : Nat} (hw : kc ≤ kc2 ∧ ks ≤ ks2) (k : V pc L st h kc2 ks2) : V pc L st h kc ks := by
  obtain ⟨p, l, e, s, m, args, below, meth, c, D, cA, A0, Af, Q, ⟨hx, hb, hml, hown, hts, hK, hAf, hX, hini, hsc, hret⟩, rfl⟩ := hV
  intro A H locs ls hag hL hP hD hS hl
  exact W.widen hw.1 hw.2 (k A H locs ls hag hL hP hD hS hl)
end ABR
section ABM
/-- a contract out of a walk in the engine -/
theorem ab_mk {y : MethodName} {cc : ByteArray} {nL : Nat} {ret : Option FieldType} {rm : Room} {al : Bool} {mc ms : Nat} {as : List ab_V} {h : List ab_E} {post : Option ab_V → List ab_E → Prop} (own : String) (ini : Bool)
    (hown : y.cls = own) (hy : plainName y.cls = true) (hin : ini = true → y.name = "<init>") (hlen : as.length ≤ nL)
    (body : ∀ V : ab_J, ab_Cl cc own nL rm al h.length ini none ret post mc ms V → V 0 (as.map some ++ List.replicate (nL - as.length) none) [] h 0 0) : ab_Mt y cc nL ret rm al mc ms as h post := by
  intro l D cA A0 sz
  refine Met.ofW (cc := cc) (maxL := nL) (ret := ret) hy rfl ?_
  intro p e s m args below meth c s₁ B hml hv
  obtain ⟨rfl, hsz, hP, hK, hD0, hX⟩ := hv
  have hx := B.exec
  have hb := B.bytes
  have hr := B.returns
  have hts0 := atoms_spec (ws := .code y cc nL ret :: xtb) B.pre
  have hts : ∀ w ∈ xtb, w.before (as.map (ab_v A0)).toArray s = true := fun w hw => hts0 w (List.mem_cons_of_mem _ hw)
  have hown' : s.vm.findClass own = some m.cls := by rw [← hown]; exact findClass_of_methodNamed B.named
  have hlocks := B.notSynchronized
  subst hsz
  have hD := hD0.self (sz := s.heap.size)
  have hS : va_S (va_A (ab_w A0 cA 0 h) s.heap.size) s.heap s.heap [] := va_S.rf
  have hAg0 : ab_Ag al A0 h.length A0 := by
    unfold ab_Ag
    split
    · exact fun _ _ => rfl
    · rfl
  have hXA : ∀ A, ab_Ag al A0 h.length A → ab_X A (va_A (ab_w A0 cA 0 h) s.heap.size) s s.heap := by
    intro A hA
    have hA' : ∀ k, 1000 ≤ k → A k = A0 k := by
      unfold ab_Ag at hA
      split at hA
      · exact fun k hk => hA k (Or.inr hk)
      · exact fun k _ => by rw [hA]
    have e1 : (fun i => A (1000 + i)) = fun i => A0 (1000 + i) := funext fun i => hA' _ (by omega)
    have e2 : (fun i => A (2000 + i)) = fun i => A0 (2000 + i) := funext fun i => hA' _ (by omega)
    have e3 : A 3001 = A0 3001 := hA' _ (by omega)
    unfold ab_X at hX ⊢
    rw [e1, e2, e3]
    exact ⟨hX.1, hX.2.1, hX.2.2.1, fun i q hq => by rw [hA' (1000 + i) (by omega)]; exact hX.2.2.2.1 i q hq, hX.2.2.2.2⟩
  have C : ab_Cl cc own nL rm al h.length ini none ret post mc ms (ab_W p l e rm s m (as.map (ab_v A0)).toArray below meth c D cA nL (ab_Ag al A0 h.length) (va_A (ab_w A0 cA 0 h) s.heap.size) (MQ below (ab_Qc post D cA (ab_Ag al A0 h.length) (va_A (ab_w A0 cA 0 h) s.heap.size)) (as.map (ab_v A0)).toArray s mc ms (va_A (ab_w A0 cA 0 h) s.heap.size))) := by
    refine ⟨p, l, e, s, m, _, below, meth, c, D, cA, A0, _, _, ⟨hx, hb, hml, hown', hts, hK, fun q hq => Or.inr hq, hXA, fun hi => ?_, fun L f hsc => (by cases hsc), ?_⟩, rfl⟩
    · rw [(name_of_methodNamed B.named B.method).1]
      exact hin hi
    · intro A H locs ls pc r u hag hP' hD' hS' hpost hrt hd
      have hq : ∀ t : State, t.heap = H → s.WarmedH t.vm → ab_Qc post D cA (ab_Ag al A0 h.length) (va_A (ab_w A0 cA 0 h) s.heap.size) (as.map (ab_v A0)).toArray s (.returned (r.map (ab_v A))) t := fun t ht hW =>
        ⟨⟨r, u, A, rfl, hpost, hag, by rw [ht]; exact hP', va_K.moved hW.alike hK, hD'⟩, hS'.F ht⟩
      rcases r with _ | (z | k)
      · cases ret with
        | none => exact W.vret hx hb hr hq hS'.2.2 hd
        | some ty => cases ty <;> exact hrt.elim
      · cases ret with
        | none => exact hrt.elim
        | some ty =>
          cases ty with
          | int => exact W.iret (v := ab_i z) hx hb hr hq hS'.2.2 hd
          | boolean => exact W.zret (v := ab_i z) hx hb hr (ab_nrz hrt) hq hS'.2.2 hd
          | char => exact W.zret (v := ab_i z) hx hb hr (ab_nrc hrt) hq hS'.2.2 hd
          | byte => exact W.zret (v := ab_i z) hx hb hr (ab_nrb hrt) hq hS'.2.2 hd
          | _ => exact hrt.elim
      · cases ret with
        | none => exact hrt.elim
        | some ty => cases ty <;> exact hrt.elim
  have k1 := body _ C
  have hl := lv_entry (as.map (ab_v A0)) (n := nL) ?_
  · rw [lg_entry_eq]
    refine k1 A0 s.heap [] _ hAg0 ?_ hP hD hS ?_
    · rw [List.length_append, List.length_map, List.length_replicate]; omega
    · refine ab_lmono hl fun q hq => ?_
      obtain ⟨i, v, h1, h2⟩ := (ab_l_mem A0 _ 0 q).mp hq
      rw [Nat.zero_add] at h2
      have hi : as[i]? = some v := by
        by_cases hi : i < (as.map some).length
        · rw [List.getElem?_append_left hi, List.getElem?_map] at h1
          cases hz : as[i]? with
          | none => rw [hz] at h1; cases h1
          | some w => rw [hz] at h1; cases h1; rfl
        · rw [List.getElem?_append_right (by omega)] at h1
          have := List.getElem?_replicate (n := nL - as.length) (a := (none : Option ab_V)) (i := i - (as.map some).length)
          rw [this] at h1
          split at h1 <;> cases h1
      rw [h2]
      have := ab_args A0 as 0 i v hi
      rwa [Nat.zero_add] at this
  · rw [ab_sl_len]
    exact hlen
end ABM
section ABC
theorem ab_good_in {ws : List Cond} (h : ∀ w ∈ ws, w ∈ xtb) : GoodIn xtb ws := fun w hw => ⟨h w hw, good_of_word (ab_good w (h w hw))⟩
theorem ab_blind {D : va_G} {cA : Nat → ClassId} {A : Nat → Nat} {sz : Nat} {as : List ab_V} {h : List ab_E} : FrameBlind (ab_Pc D cA A sz as h) := fun a U g mk q => by
  obtain ⟨e, q1, q2, q3, q4, q5⟩ := q
  exact ⟨e, q1, q2, va_K.moved (u := U) (U := U.calling g mk a) (Vm.Alike.refl U.vm) q3, q4, ab_X.same (u := U) (U := U.calling g mk a) rfl (Vm.Alike.refl U.vm) q5⟩
theorem ab_callg {p : Program} {l : Launch} {e : Env} {R : Room} {s : State} {m : MethodId} {args : Array Value} {below : List Frame} {meth : Method} {c : Code} {H : Heap} {locs : List Loc} {cells slots : Nat} {Q : State → Prop} {pc : Nat} {ls : Array Slot} {rest st0 : List Value} {a : Array Value} {A0 A1 : Nat → Prop} {H0 : Heap} {mc ms : Nat} {free : Addr → Prop}
    {post : Option ab_V → List ab_E → Prop} {D : va_G} {cA : Nat → ClassId} {Ag : (Nat → Nat) → Prop}
    (hr : va_Run p l e R s m args below meth c H locs cells slots mc ms (F0 m pc ls st0) rest (ab_Qc post D cA Ag A1 a) free) (hS : va_S A0 H0 H locs) (hA : ∀ q, A1 q → A0 q) (hf : ∀ q, free q → A0 q)
    (kk : ∀ (r : Option ab_V) (u : List ab_E) (A' : Nat → Nat) (H1 : Heap) (locs1 : List Loc), post r u → Ag A' → va_P D xcl (ab_w A' cA 0 u) H1 → va_D A0 (ab_w A' cA 0 u) → va_S A0 H0 H1 locs1 → W p l e R s m args below meth c H1 locs1 (cells + mc) (slots + ms) Q (F0 m (pc + 3) ls ((r.map (ab_v A')).toList ++ rest))) : W p l e R s m args below meth c H locs cells slots Q (F0 m pc ls st0) := by
  intro T hT X
  obtain ⟨v, st₀, t, T', L, h0, X', hL, e1, e2, ⟨⟨r, u, A', hv, hp, hag, hP, hK, hD⟩, hz, hk⟩, st⟩ := hr T hT X
  cases hv
  rw [h0] at hz hk
  obtain ⟨t2, a1, b1⟩ := kk r u A' T'.heap (locs ++ L) hp hag (by rw [e1]; exact hP) (hD.weaken (fun _ _ _ z => hA _ z))
    ⟨Nat.le_trans hS.1 (by rw [e1]; exact hz), fun q h1 h2 => by rw [e1, hk q (Nat.lt_of_lt_of_le h1 hS.1) (fun z => h2 (hA q z))]; exact hS.2.1 q h1 h2, fun q hq => by
      rcases List.mem_append.mp hq with h | h
      · exact hS.2.2 q h
      · exact hf _ (hL q h)⟩ T' rfl X'
  exact ⟨t2, st t2 a1, b1⟩
theorem ab_pushed (A : Nat → Nat) (r : Option ab_V) (rest : List ab_V) : (r.map (ab_v A)).toList ++ rest.map (ab_v A) = (r.toList ++ rest).map (ab_v A) := by
  cases r <;> rfl
def ab_LV (own : String) (idx : Nat) (y : MethodName) (cc : ByteArray) (nL : Nat) (ret : Option FieldType) (n : Nat) : Prop :=
  (Cond.methodLink own idx y ∈ xtb ∧ Cond.instanceMethod y ∈ xtb ∧ Cond.selects y.cls y y ∈ xtb ∧ Cond.initialized y.cls ∈ xtb ∧ Cond.code y cc nL ret ∈ xtb) ∧ y.cls ≠ "java/lang/invoke/MethodHandle" ∧ y.cls ≠ "java/lang/invoke/VarHandle" ∧ (parseMethodDescriptor y.desc).map (fun d => d.parameters.length) = some n
def ab_LS (own : String) (idx : Nat) (y : MethodName) (cc : ByteArray) (nL : Nat) (ret : Option FieldType) (n : Nat) : Prop :=
  ((Cond.methodLink own idx y ∈ xtb ∨ ∃ host, (own, idx, y, host) ∈ xsN) ∧ Cond.static y ∈ xtb ∧ Cond.initialized y.cls ∈ xtb ∧ Cond.code y cc nL ret ∈ xtb) ∧ y.cls ≠ "java/lang/invoke/MethodHandle" ∧ y.cls ≠ "java/lang/invoke/VarHandle" ∧ (parseMethodDescriptor y.desc).map (fun d => d.parameters.length) = some n
def ab_LI (own : String) (idx : Nat) (y : MethodName) (cc : ByteArray) (nL : Nat) (n : Nat) : Prop :=
  (Cond.methodLink own idx y ∈ xtb ∧ Cond.instanceMethod y ∈ xtb ∧ Cond.initialized y.cls ∈ xtb ∧ Cond.code y cc nL none ∈ xtb) ∧ y.name = "<init>" ∧ y.cls ≠ "java/lang/invoke/MethodHandle" ∧ y.cls ≠ "java/lang/invoke/VarHandle" ∧ (parseMethodDescriptor y.desc).map (fun d => d.parameters.length) = some n
def ab_Rc (h : List ab_E) (q : Nat) (C : String) : Prop := (∃ (ci : Nat) (fs : List ab_V) (T : u_T) (N : Nat), h[q]? = some (.inr (ci, fs)) ∧ xcl[ci]? = some (C, T, N)) ∨ (C = "java/lang/String" ∧ ∃ i, i < 16 ∧ q = 1000 + i)
def ab_Rm (rm R : Room) (nL mc ms kc ks : Nat) : Prop := rm.cells = mc ∧ rm.slots = ms ∧ rm.frames + 1 ≤ R.frames ∧ 8 + (nL + 11) + rm.locals ≤ R.locals ∧ kc + mc ≤ R.cells ∧ ks + ms ≤ R.slots
variable {cc : ByteArray} {own : String} {nL : Nat} {R : Room} {al : Bool} {n0 : Nat} {ini : Bool} {sc : Option (Nat × (Int → Int))} {ret : Option FieldType} {post : Option ab_V → List ab_E → Prop} {mc ms : Nat} {V : ab_J} {pc : Nat} {L : ab_L} {st rest : List ab_V} {h : List ab_E} {kc ks : Nat}
variable {y : MethodName} {cc2 : ByteArray} {nL2 : Nat} {ret2 : Option FieldType} {rm2 : Room} {as : List ab_V} {post2 : Option ab_V → List ab_E → Prop} {idx q n : Nat}
theorem rb_callV (hV : ab_Cl cc own nL R al n0 ini sc ret post mc ms V) (hd : decode cc pc = .ok (.invokevirtual idx, 3)) (hM : ab_Mt y cc2 nL2 ret2 rm2 false 0 0 (.inr (some q) :: as) h post2) (hlk : ab_LV own idx y cc2 nL2 ret2 n) (hn : as.length = n) (hrc : ab_Rc h q y.cls) (hst : st = as.reverse ++ .inr (some q) :: rest) (hrm : ab_Rm rm2 R nL2 0 0 kc ks) (hre : rest.length ≤ 8) (k : ∀ (r : Option ab_V) (h2 : List ab_E), post2 r h2 → V (pc + 3) L (r.toList ++ rest) h2 kc ks) : V pc L st h kc ks := by
  obtain ⟨p, l, e, s, m, args, below, meth, c, D, cA, A0, Af, Q, ⟨hx, hb, hml, hown, hts, hK, hAf, hX, hini, hsc, hret⟩, rfl⟩ := hV
  intro A H locs ls hag hL hP hD hS hl
  subst hst
  have hfree : ∀ z, va_A (ab_w A cA 0 h) H.size z → Af z := fun z hz => by
    rcases hz with ⟨k, e, he⟩ | hz
    · exact hD.2 k _ he
    · exact hAf _ (Nat.le_trans hS.1 hz)
  have hpre : ∀ U : State, U.heap = H → s.WarmedH U.vm → ab_Pc D cA A H.size (.inr (some q) :: as) h ((.inr (some q) :: as).map (ab_v A)).toArray U := fun U hU hW =>
    ⟨rfl, by rw [hU], by rw [hU]; exact hP, va_K.moved hW.alike hK, hD.weaken (fun _ _ _ _ => trivial), by rw [hU]; exact ((hX A hag).warm hW hS.2.1).narrow hfree⟩
  obtain ⟨⟨g1, g2, g3, g4, g5⟩, g6, g7, g8⟩ := hlk
  obtain ⟨r1, r2, r3, r4, r5, r6⟩ := hrm
  have hG : GoodIn xtb (wsV own idx y.cls y (.code y cc2 nL2 ret2 :: xtb)) := ab_good_in fun w hw => by
    simp only [wsV, List.mem_append, List.mem_cons, List.not_mem_nil, or_false] at hw
    rcases hw with (rfl | rfl | rfl | rfl) | rfl | hw
    · exact g1
    · exact g2
    · exact g3
    · exact g4
    · exact g5
    · exact hw
  have hrv : ∃ cellB : Cell, H[A q]? = some cellB ∧ cellB.vm.isStatics = false ∧ s.vm.findClass y.cls = some cellB.cls := by
    rcases hrc with ⟨ci, fs, T, N, c1, c2⟩ | ⟨c1, i, c2, c3⟩
    · exact va_recv hK hP c2 (ab_w_at c1)
    · rw [c1, c3]
      exact vk_recv (adK := fun i => A (1000 + i)) (i := i) (hX A hag).1 c2 hS
  have hrun := va_runV (locs := locs) (meth := meth) (below := below) (e := e) (As := as.map (ab_v A)) (rest := rest.map (ab_v A)) (g := F0 m pc ls ((as.reverse ++ .inr (some q) :: rest).map (ab_v A))) ⟨hx, hb, hml, hown, hts⟩ (hM l D cA A H.size) (cwV n hts hG rfl r1 r2 ⟨rfl, g6, g7, g8⟩ ⟨r3, r4⟩) ⟨ab_blind, hrv, hpre⟩ rfl (by rw [List.length_map]; exact hn) hl.1 (by rw [List.map_append, List.map_reverse]; rfl) (by show 2 * 0 + _ ≤ 8; rw [ab_sum]; omega) hd ⟨r5, r6⟩
  refine ab_callg hrun hS hfree hfree (fun r u A' H1 locs1 hp hag' P1 D1 S1 => ?_)
  have hA' : A' = A := hag'
  subst hA'
  rw [ab_pushed]
  exact k r u hp A' H1 locs1 ls hag hL P1 D1 S1 hl
theorem rb_callS (hV : ab_Cl cc own nL R al n0 ini sc ret post mc ms V) (hd : decode cc pc = .ok (.invokestatic idx, 3)) (hM : ab_Mt y cc2 nL2 ret2 rm2 false 0 0 as h post2) (hlk : ab_LS own idx y cc2 nL2 ret2 n) (hn : as.length = n) (hst : st = as.reverse ++ rest) (hrm : ab_Rm rm2 R nL2 0 0 kc ks) (hre : rest.length ≤ 8) (k : ∀ (r : Option ab_V) (h2 : List ab_E), post2 r h2 → V (pc + 3) L (r.toList ++ rest) h2 kc ks) : V pc L st h kc ks := by
  obtain ⟨p, l, e, s, m, args, below, meth, c, D, cA, A0, Af, Q, ⟨hx, hb, hml, hown, hts, hK, hAf, hX, hini, hsc, hret⟩, rfl⟩ := hV
  intro A H locs ls hag hL hP hD hS hl
  subst hst
  have hfree : ∀ z, va_A (ab_w A cA 0 h) H.size z → Af z := fun z hz => by
    rcases hz with ⟨k, e, he⟩ | hz
    · exact hD.2 k _ he
    · exact hAf _ (Nat.le_trans hS.1 hz)
  have hpre : ∀ U : State, U.heap = H → s.WarmedH U.vm → ab_Pc D cA A H.size as h (as.map (ab_v A)).toArray U := fun U hU hW =>
    ⟨rfl, by rw [hU], by rw [hU]; exact hP, va_K.moved hW.alike hK, hD.weaken (fun _ _ _ _ => trivial), by rw [hU]; exact ((hX A hag).warm hW hS.2.1).narrow hfree⟩
  obtain ⟨⟨g1, g2, g4, g5⟩, g6, g7, g8⟩ := hlk
  obtain ⟨r1, r2, r3, r4, r5, r6⟩ := hrm
  have hstk : (as.reverse ++ rest).map (ab_v A) = (as.map (ab_v A)).reverse ++ rest.map (ab_v A) := by rw [List.map_append, List.map_reverse]
  have hW8 : 2 * (F0 m pc ls ((as.reverse ++ rest).map (ab_v A))).monitorRoom + ((rest.map (ab_v A)).map fun v => v.category).sum ≤ 8 := by show 2 * 0 + _ ≤ 8; rw [ab_sum]; omega
  rcases g1 with g1 | ⟨host, g1⟩
  · have hG : GoodIn xtb (va_wsS own idx y (.code y cc2 nL2 ret2 :: xtb)) := ab_good_in fun w hw => by
      simp only [va_wsS, List.mem_append, List.mem_cons, List.not_mem_nil, or_false] at hw
      rcases hw with (rfl | rfl | rfl) | rfl | hw
      · exact g1
      · exact g2
      · exact g4
      · exact g5
      · exact hw
    have hrun := va_runS (locs := locs) (meth := meth) (below := below) (e := e) (As := as.map (ab_v A)) (rest := rest.map (ab_v A)) (g := F0 m pc ls ((as.reverse ++ rest).map (ab_v A))) ⟨hx, hb, hml, hown, hts⟩ (hM l D cA A H.size) (va_cwS n hts hG rfl r1 r2 ⟨g6, g7, g8⟩ ⟨r3, r4⟩) ⟨ab_blind, hpre⟩ rfl (by rw [List.length_map]; exact hn) hl.1 hstk hW8 hd ⟨r5, r6⟩
    refine ab_callg hrun hS hfree hfree (fun r u A' H1 locs1 hp hag' P1 D1 S1 => ?_)
    have hA' : A' = A := hag'
    subst hA'
    rw [ab_pushed]
    exact k r u hp A' H1 locs1 ls hag hL P1 D1 S1 hl
  · have hG : GoodIn xtb (.code y cc2 nL2 ret2 :: xtb) := ab_good_in fun w hw => by
      rcases List.mem_cons.mp hw with rfl | hw
      · exact g5
      · exact hw
    have hrun := va_runSN (locs := locs) (meth := meth) (below := below) (e := e) (As := as.map (ab_v A)) (rest := rest.map (ab_v A)) (g := F0 m pc ls ((as.reverse ++ rest).map (ab_v A))) ⟨hx, hb, hml, hown, hts⟩ (hM l D cA A H.size) ⟨va_cnB n hts hG rfl r1 r2 ((hX A hag).2.2.2.2 _ g1) (hts _ g4) ⟨g6, g7, g8⟩ ⟨r3, r4⟩, hts _ g2, trivial⟩ ⟨ab_blind, hpre⟩ rfl (by rw [List.length_map]; exact hn) hl.1 hstk hW8 hd ⟨r5, r6⟩
    refine ab_callg hrun hS hfree hfree (fun r u A' H1 locs1 hp hag' P1 D1 S1 => ?_)
    have hA' : A' = A := hag'
    subst hA'
    rw [ab_pushed]
    exact k r u hp A' H1 locs1 ls hag hL P1 D1 S1 hl
theorem rb_callI (hV : ab_Cl cc own nL R al n0 ini sc ret post mc ms V) {mc2 ms2 kc2 ks2 : Nat} (hd : decode cc pc = .ok (.invokespecial idx, 3)) (hal : al = true) (hM : ab_Mt y cc2 nL2 none rm2 true mc2 ms2 (.inr (some q) :: as) h post2) (hlk : ab_LI own idx y cc2 nL2 n) (hn : as.length = n) (hst : st = as.reverse ++ .inr (some q) :: rest) (hrm : ab_Rm rm2 R nL2 mc2 ms2 kc ks) (hkc : kc + mc2 = kc2 ∧ ks + ms2 = ks2) (hre : rest.length ≤ 8) (hok : n0 ≤ h.length ∧ ab_lok h.length L = true ∧ rest.all (ab_ok h.length) = true) (k : ∀ (r : Option ab_V) (h2 : List ab_E), post2 r h2 → V (pc + 3) L (r.toList ++ rest) h2 kc2 ks2) : V pc L st h kc ks := by
  obtain ⟨p, l, e, s, m, args, below, meth, c, D, cA, A0, Af, Q, ⟨hx, hb, hml, hown, hts, hK, hAf, hX, hini, hsc, hret⟩, rfl⟩ := hV
  intro A H locs ls hag hL hP hD hS hl
  subst hst
  subst hal
  obtain ⟨hk1, hk2⟩ := hkc
  subst hk1
  subst hk2
  have hfree : ∀ z, va_A (ab_w A cA 0 h) H.size z → Af z := fun z hz => by
    rcases hz with ⟨k, e, he⟩ | hz
    · exact hD.2 k _ he
    · exact hAf _ (Nat.le_trans hS.1 hz)
  have hpre : ∀ U : State, U.heap = H → s.WarmedH U.vm → ab_Pc D cA A H.size (.inr (some q) :: as) h ((.inr (some q) :: as).map (ab_v A)).toArray U := fun U hU hW =>
    ⟨rfl, by rw [hU], by rw [hU]; exact hP, va_K.moved hW.alike hK, hD.weaken (fun _ _ _ _ => trivial), by rw [hU]; exact ((hX A hag).warm hW hS.2.1).narrow hfree⟩
  obtain ⟨⟨g1, g2, g4, g5⟩, g0, g6, g7, g8⟩ := hlk
  obtain ⟨r1, r2, r3, r4, r5, r6⟩ := hrm
  have hG : GoodIn xtb (.code y cc2 nL2 none :: xtb) := ab_good_in fun w hw => by
    rcases List.mem_cons.mp hw with rfl | hw
    · exact g5
    · exact hw
  have hrun := va_runI (locs := locs) (meth := meth) (below := below) (e := e) (As := as.map (ab_v A)) (rest := rest.map (ab_v A)) (g := F0 m pc ls ((as.reverse ++ .inr (some q) :: rest).map (ab_v A))) ⟨hx, hb, hml, hown, hts⟩ (hM l D cA A H.size) (cwI n hts hG rfl r1 r2 (hts _ g4) (hts _ g1) (hts _ g2) g0 ⟨g6, g7, g8⟩ ⟨r3, r4⟩) ⟨ab_blind, hpre⟩ rfl (by rw [List.length_map]; exact hn) hl.1 (by rw [List.map_append, List.map_reverse]; rfl) (by show 2 * 0 + _ ≤ 8; rw [ab_sum]; omega) hd ⟨r5, r6⟩
  refine ab_callg hrun hS hfree hfree (fun r u A' H1 locs1 hp hag' P1 D1 S1 => ?_)
  have hA' : ∀ k, k < h.length ∨ 1000 ≤ k → A' k = A k := hag'
  have hag2 : ab_Ag true A0 n0 A' := by
    unfold ab_Ag at hag ⊢
    rw [if_pos rfl] at hag ⊢
    intro k hk
    rw [hA' k (by omega)]
    exact hag k hk
  rw [← ab_vs_ext hA' hok.2.2, ab_pushed]
  exact k r u hp A' H1 locs1 ls hag2 hL P1 D1 S1 (by rw [ab_l_ext hA' L 0 hok.2.1]; exact hl)
end ABC
