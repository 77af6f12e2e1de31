theorem upd_up2 {v : gV} (c : Nat) {g y : Nat} : upd (fun h => nI (v c h)) g (nI y) = fun h => nI (up2 v c g y c h) := by
  funext h
  unfold upd up2
  by_cases e : h = g
  · rw [if_pos e, if_pos ⟨rfl, e⟩]
  · rw [if_neg e, if_neg (fun z => e z.2)]
theorem upd_ord {v : gV} {k g : Nat} (h1 : 1 ≤ k) (h2 : k ≤ v 12 1) : upd (fun j => if j = 0 ∨ v 12 1 < j then (0 : Int32) else eN (v 2 j)) k (nI g) = fun j => if j = 0 ∨ v 12 1 < j then (0 : Int32) else eN (up2 v 2 k (g + 1) 2 j) := by
  funext j
  unfold upd up2
  by_cases e : j = k
  · rw [if_pos e, if_neg (by omega), if_pos ⟨rfl, e⟩, eN_s]
  · rw [if_neg e]
    simp [e]
theorem mR_9 {cs : Nat → ClassId} {M M1 : xM} {m0 : Nat} {v : gV} {o : List Nat} {g y : Nat} (h : mR cs M m0 v o) (hM : M1 = va_up M (m0 + 12) (some (aI (cs 0) 13 (upd (fun h => nI (v 9 h)) g (nI y))))) : mR cs M1 m0 (up2 v 9 g y) o := by
  rw [upd_up2 9] at hM
  exact mX_to (mX_set (mX_of h) hM) (m16 rfl rfl rfl rfl rfl rfl rfl rfl rfl rfl rfl rfl rfl rfl rfl rfl)
theorem mR_10 {cs : Nat → ClassId} {M M1 : xM} {m0 : Nat} {v : gV} {o : List Nat} {g y : Nat} (h : mR cs M m0 v o) (hM : M1 = va_up M (m0 + 13) (some (aI (cs 0) 13 (upd (fun h => nI (v 10 h)) g (nI y))))) : mR cs M1 m0 (up2 v 10 g y) o := by
  rw [upd_up2 10] at hM
  exact mX_to (mX_set (mX_of h) hM) (m16 rfl rfl rfl rfl rfl rfl rfl rfl rfl rfl rfl rfl rfl rfl rfl rfl)
theorem mR_7 {cs : Nat → ClassId} {M M1 : xM} {m0 : Nat} {v : gV} {o : List Nat} {g y : Nat} (h : mR cs M m0 v o) (hM : M1 = va_up M (m0 + 9) (some (aI (cs 2) 13 (upd (fun h => nI (v 7 h)) g (nI y))))) : mR cs M1 m0 (up2 v 7 g y) o := by
  rw [upd_up2 7] at hM
  exact mX_to (mX_set (mX_of h) hM) (m16 rfl rfl rfl rfl rfl rfl rfl rfl rfl rfl rfl rfl rfl rfl rfl rfl)
theorem mR_5 {cs : Nat → ClassId} {M M1 : xM} {m0 : Nat} {v : gV} {o : List Nat} {g y : Nat} (h : mR cs M m0 v o) (hM : M1 = va_up M (m0 + 6) (some (aI (cs 0) 401 (upd (fun h => nI (v 5 h)) g (nI y))))) : mR cs M1 m0 (up2 v 5 g y) o := by
  rw [upd_up2 5] at hM
  exact mX_to (mX_set (mX_of h) hM) (m16 rfl rfl rfl rfl rfl rfl rfl rfl rfl rfl rfl rfl rfl rfl rfl rfl)
theorem mR_2 {cs : Nat → ClassId} {M M1 : xM} {m0 : Nat} {v : gV} {o : List Nat} {k g : Nat} (h : mR cs M m0 v o) (h1 : 1 ≤ k) (h2 : k ≤ v 12 1) (hM : M1 = va_up M (m0 + 3) (some (aI (cs 0) 401 (upd (fun j => if j = 0 ∨ v 12 1 < j then (0 : Int32) else eN (v 2 j)) k (nI g))))) : mR cs M1 m0 (up2 v 2 k (g + 1)) o := by
  rw [upd_ord h1 h2] at hM
  exact mX_to (mX_set (mX_of h) hM) (m16 rfl rfl rfl rfl rfl rfl rfl rfl rfl rfl rfl rfl rfl rfl rfl rfl)
theorem mR_told {cs : Nat → ClassId} {M M1 : xM} {m0 : Nat} {v : gV} {o : List Nat} {y : Nat} (h : mR cs M m0 v o) (hM : M1 = va_up M m0 (some (mHead m0 (up2 v 12 3 y) o))) : mR cs M1 m0 (up2 v 12 3 y) o :=
  mX_to (mX_set (k := 0) (mX_of h) hM) (m16 rfl rfl rfl rfl rfl rfl rfl rfl rfl rfl rfl rfl rfl rfl rfl rfl)
theorem ad_0 {v : gV} {a l : Nat} : vp_updL (fun j => lN (v 0 j)) (v 12 1 + 1) (lN a) = fun j => lN (addI v a l 0 j) := by
  funext j
  rw [addI_0]
  unfold vp_updL
  split <;> rfl
theorem ad_1 {v : gV} {a l : Nat} : vp_updL (fun j => lN (v 1 j)) (v 12 1 + 1) (lN l) = fun j => lN (addI v a l 1 j) := by
  funext j
  rw [addI_1]
  unfold vp_updL
  split <;> rfl
theorem ad_e {v : gV} {a l c : Nat} (hc : c = 2 ∨ c = 3) (hz : v c (v 12 1 + 1) = 0) : upd (fun j => if j = 0 ∨ v 12 1 < j then (0 : Int32) else eN (v c j)) (v 12 1 + 1) (-1) = fun j => if j = 0 ∨ addI v a l 12 1 < j then (0 : Int32) else eN (addI v a l c j) := by
  funext j
  rw [addI_n, addI_k v a l (by omega) (by omega) (by omega)]
  unfold upd
  by_cases e : j = v 12 1 + 1
  · rw [if_pos e, if_neg (by omega), e, hz, eN_0]
  · rw [if_neg e]
    show (if j = 0 ∨ v 12 1 < j then (0 : Int32) else eN (v c j)) = _
    by_cases z : j = 0 ∨ v 12 1 < j
    · rw [if_pos z, if_pos (by omega)]
    · rw [if_neg z, if_neg (by omega)]
theorem ad_4 {v : gV} {a l : Nat} (hz : v 4 (v 12 1 + 1) = 0) : upd (fun j => nI (v 4 j)) (v 12 1 + 1) 0 = fun j => nI (addI v a l 4 j) := by
  funext j
  rw [addI_k v a l (by decide) (by decide) (by omega)]
  unfold upd
  by_cases e : j = v 12 1 + 1
  · rw [if_pos e, e, hz, nI_0]
  · rw [if_neg e]
theorem ad_all {cs : Nat → ClassId} {m0 : Nat} {v : gV} {o : List Nat} {a l : Nat} (hz : v 3 (v 12 1 + 1) = 0) : ∀ k, k < 16 → (va_up (va_up (va_up (va_up (va_up (va_up (mel cs m0 v o) 0 (mHead m0 (addI v a l) o)) 1 (aL (cs 1) 401 (fun j => lN (addI v a l 0 j)))) 2 (aL (cs 1) 401 (fun j => lN (addI v a l 1 j)))) 3 (aI (cs 0) 401 (fun j => if j = 0 ∨ addI v a l 12 1 < j then 0 else eN (addI v a l 2 j)))) 4 (aI (cs 0) 401 (fun j => nI (addI v a l 4 j)))) 5 (aI (cs 0) 401 (fun j => if j = 0 ∨ addI v a l 12 1 < j then 0 else eN (addI v a l 3 j)))) k = mel cs m0 (addI v a l) o k := by
  have k3 : ∀ j, addI v a l 3 j = v 3 j := fun j => addI_k v a l (by decide) (by decide) (by omega)
  have k5 : ∀ j, addI v a l 5 j = v 5 j := fun j => addI_k v a l (by decide) (by decide) (by omega)
  have k6 : ∀ j, addI v a l 6 j = v 6 j := fun j => addI_k v a l (by decide) (by decide) (by omega)
  have k7 : ∀ j, addI v a l 7 j = v 7 j := fun j => addI_k v a l (by decide) (by decide) (by omega)
  have k8 : ∀ j, addI v a l 8 j = v 8 j := fun j => addI_k v a l (by decide) (by decide) (by omega)
  have k9 : ∀ j, addI v a l 9 j = v 9 j := fun j => addI_k v a l (by decide) (by decide) (by omega)
  have k10 : ∀ j, addI v a l 10 j = v 10 j := fun j => addI_k v a l (by decide) (by decide) (by omega)
  have k11 : ∀ j, addI v a l 11 j = v 11 j := fun j => addI_k v a l (by decide) (by decide) (by omega)
  refine m16 rfl rfl rfl rfl rfl rfl ?_ ?_ ?_ ?_ ?_ ?_ ?_ ?_ ?_ rfl
  · show mel cs m0 v o 6 = mel cs m0 (addI v a l) o 6
    simp only [mel, k5]
  · show mel cs m0 v o 7 = mel cs m0 (addI v a l) o 7
    have e : (fun j => if v 3 j = 0 then (0 : Int64) else lN (tm v j)) = (fun j => if addI v a l 3 j = 0 then (0 : Int64) else lN (tm (addI v a l) j)) := by
      funext j
      unfold tm
      rw [k3, addI_0]
      by_cases e : j = v 12 1 + 1
      · rw [e, hz, if_pos rfl, if_pos rfl]
      · rw [if_neg e]
    simp only [mel, e]
  · show mel cs m0 v o 8 = mel cs m0 (addI v a l) o 8
    simp only [mel, k6]
  · show mel cs m0 v o 9 = mel cs m0 (addI v a l) o 9
    simp only [mel, k7]
  · show mel cs m0 v o 10 = mel cs m0 (addI v a l) o 10
    simp only [mel, k8]
  · show mel cs m0 v o 11 = mel cs m0 (addI v a l) o 11
    simp only [mel, k8]
  · show mel cs m0 v o 12 = mel cs m0 (addI v a l) o 12
    simp only [mel, k9]
  · show mel cs m0 v o 13 = mel cs m0 (addI v a l) o 13
    simp only [mel, k10]
  · show mel cs m0 v o 14 = mel cs m0 (addI v a l) o 14
    simp only [mel, k11]
