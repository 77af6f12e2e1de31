theorem l_near {a x y : Nat} (ha : a < 2 ^ 31) (hx : x < 2 ^ 31) (hy : y < 2 ^ 31) : lN a - lN x - lN y < 50 ↔ a < x + y + 50 := by
  rw [Int64.lt_iff_toInt_lt, Int64.toInt_sub, l_sub_toInt ha hx, lN_toInt hy, Int.bmod_eq_of_le (by omega) (by omega)]
  have : (50 : Int64).toInt = 50 := by decide
  omega
theorem mHead_add {m0 : Nat} {v : gV} {o : List Nat} {a l : Nat} : mHead m0 (addI v a l) o = .inr (kMo, [.int 0, .int (nI (v 12 0)), .int (nI (v 12 1 + 1)), .ref (m0 + 1), .ref (m0 + 2), .ref (m0 + 3), .ref (m0 + 4), .ref (m0 + 5), .ref (m0 + 6), .ref (m0 + 7), .ref (m0 + 8), .ref (m0 + 9), .ref (m0 + 10), .ref (m0 + 11), .ref (m0 + 12), .ref (m0 + 13), .ref (m0 + 14), .long (lN (v 12 2)), .int (nI o.length), .ref (m0 + 15), .int (nI (v 12 3))]) := by
  unfold mHead
  rw [addI_n, addI_k v a l (k := 12) (j := 0) (by decide) (by decide) (by decide), addI_k v a l (k := 12) (j := 2) (by decide) (by decide) (by decide), addI_k v a l (k := 12) (j := 3) (by decide) (by decide) (by decide)]
theorem wr_is {v : gV} {j : Nat} : wr v j = true ↔ (v 2 j ≠ 0 ∧ v 2 j ≠ v 3 j) := by
  unfold wr
  simp
