/-! the world: all cells of the class and of the reference, over one memory s (key, place) -/
def ab_s (s : Nat → Int → Int) (k : Nat) (f : Int → Int) : Nat → Int → Int := fun j => if j = k then f else s j
theorem ab_s_eq (s : Nat → Int → Int) (k : Nat) (f : Int → Int) : ab_s s k f k = f := if_pos rfl
theorem ab_s_ne {s : Nat → Int → Int} {k j : Nat} {f : Int → Int} (h : j ≠ k) : ab_s s k f j = s j := if_neg h
theorem ab_s_same (s : Nat → Int → Int) (k : Nat) (f g : Int → Int) : ab_s (ab_s s k f) k g = ab_s s k g := by
  funext j
  unfold ab_s
  split <;> rfl
theorem ab_s_sw {s : Nat → Int → Int} {j k : Nat} {f g : Int → Int} (h : j ≠ k) : ab_s (ab_s s j f) k g = ab_s (ab_s s k g) j f := by
  funext i
  unfold ab_s
  by_cases h1 : i = k
  · by_cases h2 : i = j
    · exact absurd (h2.symm.trans h1) h
    · rw [if_pos h1, if_neg h2, if_pos h1]
  · rw [if_neg h1]
    by_cases h2 : i = j
    · rw [if_pos h2, if_pos h2]
    · rw [if_neg h2, if_neg h2, if_neg h1]
theorem ab_s_id {s : Nat → Int → Int} {k : Nat} {f : Int → Int} (h : s k = f) : ab_s s k f = s := by
  funext j
  unfold ab_s
  split
  · rename_i e
    rw [e, h]
  · rfl
def WW (s : Nat → Int → Int) : List ab_E := [.inr (8, [.inr (some 21), .inr (some 23), .inr (some 1), .inr (some 5), .inr (some 11), .inr (some 18), .inr (some 25), .inr (some 37)]), .inr (6, [.inl (s 100 0), .inl (s 101 0), .inl (s 102 0), .inr (some 2), .inr (some 3), .inr (some 4)]), .inl (0, 3, s 2), .inl (0, 3, s 3), .inl (0, 3, s 4), .inr (4, [.inl (s 103 0), .inr (some 6), .inr (some 7), .inr (some 8), .inr (some 9), .inr (some 10)]), .inl (0, 60, s 6), .inl (0, 60, s 7), .inl (0, 60, s 8), .inl (0, 60, s 9), .inl (0, 60, s 10), .inr (2, [.inr (some 5), .inr (some 1), .inr (some 12), .inr (some 13), .inr (some 14), .inr (some 15), .inr (some 16), .inr (some 17)]), .inl (0, 61, s 12), .inl (0, 61, s 13), .inl (0, 61, s 14), .inl (0, 61, s 15), .inl (0, 60, s 16), .inl (0, 60, s 17), .inr (0, [.inr (some 5), .inr (some 11), .inr (some 19), .inr (some 20)]), .inl (0, 61, s 19), .inl (0, 60, s 20), .inr (7, [.inr (some 22), .inl (s 104 0)]), .inl (1, 120, s 22), .inr (3, [.inr (some 24), .inl (s 105 0), .inl (s 106 0)]), .inl (0, 3, s 24), .inr (1, [.inr (some 5), .inr (some 1), .inr (some 11), .inr (some 18), .inl (s 107 0), .inl (s 108 0), .inr (some 26), .inr (some 27), .inr (some 28), .inr (some 29), .inr (some 30), .inr (some 31)]), .inl (0, 61, s 26), .inl (0, 60, s 27), .inl (0, 60, s 28), .inl (0, 60, s 29), .inl (0, 60, s 30), .inr (5, [.inl (s 109 0), .inl (s 110 0), .inl (s 111 0), .inr (some 32), .inr (some 33), .inr (some 34), .inr (some 35), .inr (some 36)]), .inl (0, 60, s 32), .inl (0, 60, s 33), .inl (0, 60, s 34), .inl (2, 60, s 35), .inl (0, 60, s 36), .inr (1, [.inr (some 5), .inr (some 1), .inr (some 11), .inr (some 18), .inl (s 112 0), .inl (s 113 0), .inr (some 38), .inr (some 39), .inr (some 40), .inr (some 41), .inr (some 42), .inr (some 43)]), .inl (0, 61, s 38), .inl (0, 60, s 39), .inl (0, 60, s 40), .inl (0, 60, s 41), .inl (0, 60, s 42), .inr (5, [.inl (s 114 0), .inl (s 115 0), .inl (s 116 0), .inr (some 44), .inr (some 45), .inr (some 46), .inr (some 47), .inr (some 48)]), .inl (0, 60, s 44), .inl (0, 60, s 45), .inl (0, 60, s 46), .inl (2, 60, s 47), .inl (0, 60, s 48)]
theorem ww_len (s : Nat → Int → Int) : (WW s).length = 49 := rfl
theorem gw_0 (s : Nat → Int → Int) : (WW s)[0]? = some (.inr (8, [.inr (some 21), .inr (some 23), .inr (some 1), .inr (some 5), .inr (some 11), .inr (some 18), .inr (some 25), .inr (some 37)])) := rfl
theorem gw_1 (s : Nat → Int → Int) : (WW s)[1]? = some (.inr (6, [.inl (s 100 0), .inl (s 101 0), .inl (s 102 0), .inr (some 2), .inr (some 3), .inr (some 4)])) := rfl
theorem gw_2 (s : Nat → Int → Int) : (WW s)[2]? = some (.inl (0, 3, s 2)) := rfl
theorem gw_3 (s : Nat → Int → Int) : (WW s)[3]? = some (.inl (0, 3, s 3)) := rfl
theorem gw_4 (s : Nat → Int → Int) : (WW s)[4]? = some (.inl (0, 3, s 4)) := rfl
theorem gw_5 (s : Nat → Int → Int) : (WW s)[5]? = some (.inr (4, [.inl (s 103 0), .inr (some 6), .inr (some 7), .inr (some 8), .inr (some 9), .inr (some 10)])) := rfl
theorem gw_6 (s : Nat → Int → Int) : (WW s)[6]? = some (.inl (0, 60, s 6)) := rfl
theorem gw_7 (s : Nat → Int → Int) : (WW s)[7]? = some (.inl (0, 60, s 7)) := rfl
theorem gw_8 (s : Nat → Int → Int) : (WW s)[8]? = some (.inl (0, 60, s 8)) := rfl
theorem gw_9 (s : Nat → Int → Int) : (WW s)[9]? = some (.inl (0, 60, s 9)) := rfl
theorem gw_10 (s : Nat → Int → Int) : (WW s)[10]? = some (.inl (0, 60, s 10)) := rfl
theorem gw_11 (s : Nat → Int → Int) : (WW s)[11]? = some (.inr (2, [.inr (some 5), .inr (some 1), .inr (some 12), .inr (some 13), .inr (some 14), .inr (some 15), .inr (some 16), .inr (some 17)])) := rfl
theorem gw_12 (s : Nat → Int → Int) : (WW s)[12]? = some (.inl (0, 61, s 12)) := rfl
theorem gw_13 (s : Nat → Int → Int) : (WW s)[13]? = some (.inl (0, 61, s 13)) := rfl
theorem gw_14 (s : Nat → Int → Int) : (WW s)[14]? = some (.inl (0, 61, s 14)) := rfl
theorem gw_15 (s : Nat → Int → Int) : (WW s)[15]? = some (.inl (0, 61, s 15)) := rfl
theorem gw_16 (s : Nat → Int → Int) : (WW s)[16]? = some (.inl (0, 60, s 16)) := rfl
theorem gw_17 (s : Nat → Int → Int) : (WW s)[17]? = some (.inl (0, 60, s 17)) := rfl
theorem gw_18 (s : Nat → Int → Int) : (WW s)[18]? = some (.inr (0, [.inr (some 5), .inr (some 11), .inr (some 19), .inr (some 20)])) := rfl
theorem gw_19 (s : Nat → Int → Int) : (WW s)[19]? = some (.inl (0, 61, s 19)) := rfl
theorem gw_20 (s : Nat → Int → Int) : (WW s)[20]? = some (.inl (0, 60, s 20)) := rfl
theorem gw_21 (s : Nat → Int → Int) : (WW s)[21]? = some (.inr (7, [.inr (some 22), .inl (s 104 0)])) := rfl
theorem gw_22 (s : Nat → Int → Int) : (WW s)[22]? = some (.inl (1, 120, s 22)) := rfl
theorem gw_23 (s : Nat → Int → Int) : (WW s)[23]? = some (.inr (3, [.inr (some 24), .inl (s 105 0), .inl (s 106 0)])) := rfl
theorem gw_24 (s : Nat → Int → Int) : (WW s)[24]? = some (.inl (0, 3, s 24)) := rfl
theorem gw_25 (s : Nat → Int → Int) : (WW s)[25]? = some (.inr (1, [.inr (some 5), .inr (some 1), .inr (some 11), .inr (some 18), .inl (s 107 0), .inl (s 108 0), .inr (some 26), .inr (some 27), .inr (some 28), .inr (some 29), .inr (some 30), .inr (some 31)])) := rfl
theorem gw_26 (s : Nat → Int → Int) : (WW s)[26]? = some (.inl (0, 61, s 26)) := rfl
theorem gw_27 (s : Nat → Int → Int) : (WW s)[27]? = some (.inl (0, 60, s 27)) := rfl
theorem gw_28 (s : Nat → Int → Int) : (WW s)[28]? = some (.inl (0, 60, s 28)) := rfl
theorem gw_29 (s : Nat → Int → Int) : (WW s)[29]? = some (.inl (0, 60, s 29)) := rfl
theorem gw_30 (s : Nat → Int → Int) : (WW s)[30]? = some (.inl (0, 60, s 30)) := rfl
theorem gw_31 (s : Nat → Int → Int) : (WW s)[31]? = some (.inr (5, [.inl (s 109 0), .inl (s 110 0), .inl (s 111 0), .inr (some 32), .inr (some 33), .inr (some 34), .inr (some 35), .inr (some 36)])) := rfl
theorem gw_32 (s : Nat → Int → Int) : (WW s)[32]? = some (.inl (0, 60, s 32)) := rfl
theorem gw_33 (s : Nat → Int → Int) : (WW s)[33]? = some (.inl (0, 60, s 33)) := rfl
theorem gw_34 (s : Nat → Int → Int) : (WW s)[34]? = some (.inl (0, 60, s 34)) := rfl
theorem gw_35 (s : Nat → Int → Int) : (WW s)[35]? = some (.inl (2, 60, s 35)) := rfl
theorem gw_36 (s : Nat → Int → Int) : (WW s)[36]? = some (.inl (0, 60, s 36)) := rfl
theorem gw_37 (s : Nat → Int → Int) : (WW s)[37]? = some (.inr (1, [.inr (some 5), .inr (some 1), .inr (some 11), .inr (some 18), .inl (s 112 0), .inl (s 113 0), .inr (some 38), .inr (some 39), .inr (some 40), .inr (some 41), .inr (some 42), .inr (some 43)])) := rfl
theorem gw_38 (s : Nat → Int → Int) : (WW s)[38]? = some (.inl (0, 61, s 38)) := rfl
theorem gw_39 (s : Nat → Int → Int) : (WW s)[39]? = some (.inl (0, 60, s 39)) := rfl
theorem gw_40 (s : Nat → Int → Int) : (WW s)[40]? = some (.inl (0, 60, s 40)) := rfl
theorem gw_41 (s : Nat → Int → Int) : (WW s)[41]? = some (.inl (0, 60, s 41)) := rfl
theorem gw_42 (s : Nat → Int → Int) : (WW s)[42]? = some (.inl (0, 60, s 42)) := rfl
theorem gw_43 (s : Nat → Int → Int) : (WW s)[43]? = some (.inr (5, [.inl (s 114 0), .inl (s 115 0), .inl (s 116 0), .inr (some 44), .inr (some 45), .inr (some 46), .inr (some 47), .inr (some 48)])) := rfl
theorem gw_44 (s : Nat → Int → Int) : (WW s)[44]? = some (.inl (0, 60, s 44)) := rfl
theorem gw_45 (s : Nat → Int → Int) : (WW s)[45]? = some (.inl (0, 60, s 45)) := rfl
theorem gw_46 (s : Nat → Int → Int) : (WW s)[46]? = some (.inl (0, 60, s 46)) := rfl
theorem gw_47 (s : Nat → Int → Int) : (WW s)[47]? = some (.inl (2, 60, s 47)) := rfl
theorem gw_48 (s : Nat → Int → Int) : (WW s)[48]? = some (.inl (0, 60, s 48)) := rfl
theorem pw_1_0 (s : Nat → Int → Int) (v : Int) : (WW s).set 1 (.inr (6, List.set [.inl (s 100 0), .inl (s 101 0), .inl (s 102 0), .inr (some 2), .inr (some 3), .inr (some 4)] 0 (.inl v))) = WW (ab_s s 100 (fun _ => v)) := rfl
theorem pw_1_1 (s : Nat → Int → Int) (v : Int) : (WW s).set 1 (.inr (6, List.set [.inl (s 100 0), .inl (s 101 0), .inl (s 102 0), .inr (some 2), .inr (some 3), .inr (some 4)] 1 (.inl v))) = WW (ab_s s 101 (fun _ => v)) := rfl
theorem pw_1_2 (s : Nat → Int → Int) (v : Int) : (WW s).set 1 (.inr (6, List.set [.inl (s 100 0), .inl (s 101 0), .inl (s 102 0), .inr (some 2), .inr (some 3), .inr (some 4)] 2 (.inl v))) = WW (ab_s s 102 (fun _ => v)) := rfl
theorem pw_2 (s : Nat → Int → Int) (f : Int → Int) : (WW s).set 2 (.inl (0, 3, f)) = WW (ab_s s 2 f) := rfl
theorem pw_3 (s : Nat → Int → Int) (f : Int → Int) : (WW s).set 3 (.inl (0, 3, f)) = WW (ab_s s 3 f) := rfl
theorem pw_4 (s : Nat → Int → Int) (f : Int → Int) : (WW s).set 4 (.inl (0, 3, f)) = WW (ab_s s 4 f) := rfl
theorem pw_5_0 (s : Nat → Int → Int) (v : Int) : (WW s).set 5 (.inr (4, List.set [.inl (s 103 0), .inr (some 6), .inr (some 7), .inr (some 8), .inr (some 9), .inr (some 10)] 0 (.inl v))) = WW (ab_s s 103 (fun _ => v)) := rfl
theorem pw_6 (s : Nat → Int → Int) (f : Int → Int) : (WW s).set 6 (.inl (0, 60, f)) = WW (ab_s s 6 f) := rfl
theorem pw_7 (s : Nat → Int → Int) (f : Int → Int) : (WW s).set 7 (.inl (0, 60, f)) = WW (ab_s s 7 f) := rfl
theorem pw_8 (s : Nat → Int → Int) (f : Int → Int) : (WW s).set 8 (.inl (0, 60, f)) = WW (ab_s s 8 f) := rfl
theorem pw_9 (s : Nat → Int → Int) (f : Int → Int) : (WW s).set 9 (.inl (0, 60, f)) = WW (ab_s s 9 f) := rfl
theorem pw_10 (s : Nat → Int → Int) (f : Int → Int) : (WW s).set 10 (.inl (0, 60, f)) = WW (ab_s s 10 f) := rfl
theorem pw_12 (s : Nat → Int → Int) (f : Int → Int) : (WW s).set 12 (.inl (0, 61, f)) = WW (ab_s s 12 f) := rfl
theorem pw_13 (s : Nat → Int → Int) (f : Int → Int) : (WW s).set 13 (.inl (0, 61, f)) = WW (ab_s s 13 f) := rfl
theorem pw_14 (s : Nat → Int → Int) (f : Int → Int) : (WW s).set 14 (.inl (0, 61, f)) = WW (ab_s s 14 f) := rfl
theorem pw_15 (s : Nat → Int → Int) (f : Int → Int) : (WW s).set 15 (.inl (0, 61, f)) = WW (ab_s s 15 f) := rfl
theorem pw_16 (s : Nat → Int → Int) (f : Int → Int) : (WW s).set 16 (.inl (0, 60, f)) = WW (ab_s s 16 f) := rfl
theorem pw_17 (s : Nat → Int → Int) (f : Int → Int) : (WW s).set 17 (.inl (0, 60, f)) = WW (ab_s s 17 f) := rfl
theorem pw_19 (s : Nat → Int → Int) (f : Int → Int) : (WW s).set 19 (.inl (0, 61, f)) = WW (ab_s s 19 f) := rfl
theorem pw_20 (s : Nat → Int → Int) (f : Int → Int) : (WW s).set 20 (.inl (0, 60, f)) = WW (ab_s s 20 f) := rfl
theorem pw_21_1 (s : Nat → Int → Int) (v : Int) : (WW s).set 21 (.inr (7, List.set [.inr (some 22), .inl (s 104 0)] 1 (.inl v))) = WW (ab_s s 104 (fun _ => v)) := rfl
theorem pw_22 (s : Nat → Int → Int) (f : Int → Int) : (WW s).set 22 (.inl (1, 120, f)) = WW (ab_s s 22 f) := rfl
theorem pw_23_1 (s : Nat → Int → Int) (v : Int) : (WW s).set 23 (.inr (3, List.set [.inr (some 24), .inl (s 105 0), .inl (s 106 0)] 1 (.inl v))) = WW (ab_s s 105 (fun _ => v)) := rfl
theorem pw_23_2 (s : Nat → Int → Int) (v : Int) : (WW s).set 23 (.inr (3, List.set [.inr (some 24), .inl (s 105 0), .inl (s 106 0)] 2 (.inl v))) = WW (ab_s s 106 (fun _ => v)) := rfl
theorem pw_24 (s : Nat → Int → Int) (f : Int → Int) : (WW s).set 24 (.inl (0, 3, f)) = WW (ab_s s 24 f) := rfl
theorem pw_25_4 (s : Nat → Int → Int) (v : Int) : (WW s).set 25 (.inr (1, List.set [.inr (some 5), .inr (some 1), .inr (some 11), .inr (some 18), .inl (s 107 0), .inl (s 108 0), .inr (some 26), .inr (some 27), .inr (some 28), .inr (some 29), .inr (some 30), .inr (some 31)] 4 (.inl v))) = WW (ab_s s 107 (fun _ => v)) := rfl
theorem pw_25_5 (s : Nat → Int → Int) (v : Int) : (WW s).set 25 (.inr (1, List.set [.inr (some 5), .inr (some 1), .inr (some 11), .inr (some 18), .inl (s 107 0), .inl (s 108 0), .inr (some 26), .inr (some 27), .inr (some 28), .inr (some 29), .inr (some 30), .inr (some 31)] 5 (.inl v))) = WW (ab_s s 108 (fun _ => v)) := rfl
theorem pw_26 (s : Nat → Int → Int) (f : Int → Int) : (WW s).set 26 (.inl (0, 61, f)) = WW (ab_s s 26 f) := rfl
theorem pw_27 (s : Nat → Int → Int) (f : Int → Int) : (WW s).set 27 (.inl (0, 60, f)) = WW (ab_s s 27 f) := rfl
theorem pw_28 (s : Nat → Int → Int) (f : Int → Int) : (WW s).set 28 (.inl (0, 60, f)) = WW (ab_s s 28 f) := rfl
theorem pw_29 (s : Nat → Int → Int) (f : Int → Int) : (WW s).set 29 (.inl (0, 60, f)) = WW (ab_s s 29 f) := rfl
theorem pw_30 (s : Nat → Int → Int) (f : Int → Int) : (WW s).set 30 (.inl (0, 60, f)) = WW (ab_s s 30 f) := rfl
theorem pw_31_0 (s : Nat → Int → Int) (v : Int) : (WW s).set 31 (.inr (5, List.set [.inl (s 109 0), .inl (s 110 0), .inl (s 111 0), .inr (some 32), .inr (some 33), .inr (some 34), .inr (some 35), .inr (some 36)] 0 (.inl v))) = WW (ab_s s 109 (fun _ => v)) := rfl
theorem pw_31_1 (s : Nat → Int → Int) (v : Int) : (WW s).set 31 (.inr (5, List.set [.inl (s 109 0), .inl (s 110 0), .inl (s 111 0), .inr (some 32), .inr (some 33), .inr (some 34), .inr (some 35), .inr (some 36)] 1 (.inl v))) = WW (ab_s s 110 (fun _ => v)) := rfl
theorem pw_31_2 (s : Nat → Int → Int) (v : Int) : (WW s).set 31 (.inr (5, List.set [.inl (s 109 0), .inl (s 110 0), .inl (s 111 0), .inr (some 32), .inr (some 33), .inr (some 34), .inr (some 35), .inr (some 36)] 2 (.inl v))) = WW (ab_s s 111 (fun _ => v)) := rfl
theorem pw_32 (s : Nat → Int → Int) (f : Int → Int) : (WW s).set 32 (.inl (0, 60, f)) = WW (ab_s s 32 f) := rfl
theorem pw_33 (s : Nat → Int → Int) (f : Int → Int) : (WW s).set 33 (.inl (0, 60, f)) = WW (ab_s s 33 f) := rfl
theorem pw_34 (s : Nat → Int → Int) (f : Int → Int) : (WW s).set 34 (.inl (0, 60, f)) = WW (ab_s s 34 f) := rfl
theorem pw_35 (s : Nat → Int → Int) (f : Int → Int) : (WW s).set 35 (.inl (2, 60, f)) = WW (ab_s s 35 f) := rfl
theorem pw_36 (s : Nat → Int → Int) (f : Int → Int) : (WW s).set 36 (.inl (0, 60, f)) = WW (ab_s s 36 f) := rfl
theorem pw_37_4 (s : Nat → Int → Int) (v : Int) : (WW s).set 37 (.inr (1, List.set [.inr (some 5), .inr (some 1), .inr (some 11), .inr (some 18), .inl (s 112 0), .inl (s 113 0), .inr (some 38), .inr (some 39), .inr (some 40), .inr (some 41), .inr (some 42), .inr (some 43)] 4 (.inl v))) = WW (ab_s s 112 (fun _ => v)) := rfl
theorem pw_37_5 (s : Nat → Int → Int) (v : Int) : (WW s).set 37 (.inr (1, List.set [.inr (some 5), .inr (some 1), .inr (some 11), .inr (some 18), .inl (s 112 0), .inl (s 113 0), .inr (some 38), .inr (some 39), .inr (some 40), .inr (some 41), .inr (some 42), .inr (some 43)] 5 (.inl v))) = WW (ab_s s 113 (fun _ => v)) := rfl
theorem pw_38 (s : Nat → Int → Int) (f : Int → Int) : (WW s).set 38 (.inl (0, 61, f)) = WW (ab_s s 38 f) := rfl
theorem pw_39 (s : Nat → Int → Int) (f : Int → Int) : (WW s).set 39 (.inl (0, 60, f)) = WW (ab_s s 39 f) := rfl
theorem pw_40 (s : Nat → Int → Int) (f : Int → Int) : (WW s).set 40 (.inl (0, 60, f)) = WW (ab_s s 40 f) := rfl
theorem pw_41 (s : Nat → Int → Int) (f : Int → Int) : (WW s).set 41 (.inl (0, 60, f)) = WW (ab_s s 41 f) := rfl
theorem pw_42 (s : Nat → Int → Int) (f : Int → Int) : (WW s).set 42 (.inl (0, 60, f)) = WW (ab_s s 42 f) := rfl
theorem pw_43_0 (s : Nat → Int → Int) (v : Int) : (WW s).set 43 (.inr (5, List.set [.inl (s 114 0), .inl (s 115 0), .inl (s 116 0), .inr (some 44), .inr (some 45), .inr (some 46), .inr (some 47), .inr (some 48)] 0 (.inl v))) = WW (ab_s s 114 (fun _ => v)) := rfl
theorem pw_43_1 (s : Nat → Int → Int) (v : Int) : (WW s).set 43 (.inr (5, List.set [.inl (s 114 0), .inl (s 115 0), .inl (s 116 0), .inr (some 44), .inr (some 45), .inr (some 46), .inr (some 47), .inr (some 48)] 1 (.inl v))) = WW (ab_s s 115 (fun _ => v)) := rfl
theorem pw_43_2 (s : Nat → Int → Int) (v : Int) : (WW s).set 43 (.inr (5, List.set [.inl (s 114 0), .inl (s 115 0), .inl (s 116 0), .inr (some 44), .inr (some 45), .inr (some 46), .inr (some 47), .inr (some 48)] 2 (.inl v))) = WW (ab_s s 116 (fun _ => v)) := rfl
theorem pw_44 (s : Nat → Int → Int) (f : Int → Int) : (WW s).set 44 (.inl (0, 60, f)) = WW (ab_s s 44 f) := rfl
theorem pw_45 (s : Nat → Int → Int) (f : Int → Int) : (WW s).set 45 (.inl (0, 60, f)) = WW (ab_s s 45 f) := rfl
theorem pw_46 (s : Nat → Int → Int) (f : Int → Int) : (WW s).set 46 (.inl (0, 60, f)) = WW (ab_s s 46 f) := rfl
theorem pw_47 (s : Nat → Int → Int) (f : Int → Int) : (WW s).set 47 (.inl (2, 60, f)) = WW (ab_s s 47 f) := rfl
theorem pw_48 (s : Nat → Int → Int) (f : Int → Int) : (WW s).set 48 (.inl (0, 60, f)) = WW (ab_s s 48 f) := rfl
theorem rb_heq {V : ab_J} {pc : Nat} {L : ab_L} {st : List ab_V} {a b : Nat → Int → Int} {kc ks : Nat} (e : a = b) (k : V pc L st (WW b) kc ks) : V pc L st (WW a) kc ks := by
  rw [e]
  exact k
