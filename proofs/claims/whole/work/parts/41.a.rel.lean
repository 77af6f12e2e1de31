section MA
variable {v : gV} {i g : Nat}
theorem evx_6 (h : Nat) : evt v i g 6 h = if h = g then opv v i g else v 6 h := by
  by_cases e : h = g
  · rw [e, evt_6, if_pos rfl]
  · rw [evt_g 6 (by decide) e, if_neg e]
theorem evx_8 (h : Nat) : evt v i g 8 h = if h = g then fr v i g + v 1 i + 200 else v 8 h := by
  by_cases e : h = g
  · rw [e, evt_8, if_pos rfl]
  · rw [evt_g 8 (by decide) e, if_neg e]
theorem evx_3 (j : Nat) (ho : opv v i g = 1) : evt v i g 3 j = if j = i then g + 1 else v 3 j := by
  by_cases e : j = i
  · rw [e, evt_3, if_pos ho, if_pos rfl]
  · rw [evt_i 3 (by decide) e, if_neg e]
theorem evx_3n (j : Nat) (ho : opv v i g ≠ 1) : evt v i g 3 j = v 3 j := by
  by_cases e : j = i
  · rw [e, evt_3, if_neg ho]
  · rw [evt_i 3 (by decide) e]
theorem evx_4 (j : Nat) (ho : opv v i g ≠ 1) : evt v i g 4 j = if j = i then v 4 i + 1 else v 4 j := by
  by_cases e : j = i
  · rw [e, evt_4, if_neg ho, if_pos rfl]
  · rw [evt_i 4 (by decide) e, if_neg e]
theorem evx_4y (j : Nat) (ho : opv v i g = 1) : evt v i g 4 j = v 4 j := by
  by_cases e : j = i
  · rw [e, evt_4, if_pos ho]
  · rw [evt_i 4 (by decide) e]
theorem evx_10 (h : Nat) (ho : opv v i g = 1) : evt v i g 10 h = if h = g then v 10 g + 1 else v 10 h := by
  by_cases e : h = g
  · rw [e, evt_10, if_pos ho, if_pos rfl]
  · rw [evt_g 10 (by decide) e, if_neg e]
theorem evx_10n (h : Nat) (ho : opv v i g ≠ 1) : evt v i g 10 h = v 10 h := by
  by_cases e : h = g
  · rw [e, evt_10, if_neg ho]
  · rw [evt_g 10 (by decide) e]
theorem evx_11 (h : Nat) (ho : opv v i g = 1) : evt v i g 11 h = if h = g then v 11 g + 1 else v 11 h := by
  by_cases e : h = g
  · rw [e, evt_11, if_pos ho, if_pos rfl]
  · rw [evt_g 11 (by decide) e, if_neg e]
theorem evx_11n (h : Nat) (ho : opv v i g ≠ 1) : evt v i g 11 h = v 11 h := by
  by_cases e : h = g
  · rw [e, evt_11, if_neg ho]
  · rw [evt_g 11 (by decide) e]
theorem ma_8 : upd (fun h => nI (v 6 h)) g (nI (opv v i g)) = fun h => nI (evt v i g 6 h) := by
  funext h
  rw [evx_6]
  unfold upd
  split <;> rfl
theorem ma_10 : upd (fun h => if v 8 h = 0 then (0 : Int32) else 1) g 1 = fun h => if evt v i g 8 h = 0 then (0 : Int32) else 1 := by
  funext h
  rw [evx_8]
  unfold upd
  by_cases e : h = g
  · rw [if_pos e, if_pos e, if_neg (by omega)]
  · rw [if_neg e, if_neg e]
theorem ma_11 : vp_updL (fun h => lN (v 8 h - 200)) g (lN (fr v i g + v 1 i)) = fun h => lN (evt v i g 8 h - 200) := by
  funext h
  rw [evx_8]
  unfold vp_updL
  by_cases e : h = g
  · rw [if_pos e, if_pos e, show fr v i g + v 1 i + 200 - 200 = fr v i g + v 1 i by omega]
  · rw [if_neg e, if_neg e]
theorem ma_5 (ho : opv v i g = 1) (h1 : 1 ≤ i) (h2 : i ≤ v 12 1) : upd (fun j => if j = 0 ∨ v 12 1 < j then (0 : Int32) else eN (v 3 j)) i (nI g) = fun j => if j = 0 ∨ evt v i g 12 1 < j then (0 : Int32) else eN (evt v i g 3 j) := by
  funext j
  rw [evx_3 j ho, evt_k (a := 12) (by decide)]
  unfold upd
  by_cases e : j = i
  · rw [if_pos e, if_pos e, if_neg (by omega), eN_s]
  · rw [if_neg e, if_neg e]
theorem ma_7 (ho : opv v i g = 1) : vp_updL (fun j => if v 3 j = 0 then (0 : Int64) else lN (tm v j)) i (lN (fr v i g)) = fun j => if evt v i g 3 j = 0 then (0 : Int64) else lN (tm (evt v i g) j) := by
  funext j
  unfold vp_updL
  by_cases e : j = i
  · subst e
    rw [if_pos rfl, tm_evt1 ho, evt_3, if_pos ho, if_neg (by omega)]
  · rw [if_neg e, tm_evt e, evt_i 3 (by decide) e]
theorem ma_13 (ho : opv v i g = 1) : upd (fun h => nI (v 10 h)) g (nI (v 10 g + 1)) = fun h => nI (evt v i g 10 h) := by
  funext h
  rw [evx_10 h ho]
  unfold upd
  split <;> rfl
theorem ma_14 (ho : opv v i g = 1) : upd (fun h => nI (v 11 h)) g (nI (v 11 g + 1)) = fun h => nI (evt v i g 11 h) := by
  funext h
  rw [evx_11 h ho]
  unfold upd
  split <;> rfl
theorem ma_4 (ho : opv v i g ≠ 1) : upd (fun j => nI (v 4 j)) i (nI (v 4 i + 1)) = fun j => nI (evt v i g 4 j) := by
  funext j
  rw [evx_4 j ho]
  unfold upd
  split <;> rfl
end MA
theorem l_sub_toInt {a b : Nat} (ha : a < 2 ^ 31) (hb : b < 2 ^ 31) : (lN a - lN b).toInt = (a : Int) - b := by
  rw [Int64.toInt_sub, lN_toInt ha, lN_toInt hb, Int.bmod_eq_of_le (by omega) (by omega)]
theorem l_lt200 {a e : Nat} (ha : a < 2 ^ 31) (he : e < 2 ^ 31) (h : 200 ≤ e) : lN a - lN (e - 200) < 200 ↔ a < e := by
  rw [Int64.lt_iff_toInt_lt, l_sub_toInt ha (by omega)]
  have : (200 : Int64).toInt = 200 := by decide
  omega
