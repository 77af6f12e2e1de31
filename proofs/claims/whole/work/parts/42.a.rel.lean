/-- the list o with a hole at p: what lay from p on lies one place on -/
def shf (o : List Nat) (p : Nat) : Nat → Int32 := fun k => if p < k ∧ k ≤ o.length then nI (oat o (k - 1)) else nI (oat o k)
theorem oat_out {o : List Nat} {k : Nat} (h : o.length ≤ k) : oat o k = 0 := by
  unfold oat
  rw [List.getD_eq_getElem?_getD, List.getElem?_eq_none h]
  rfl
theorem shf_top (o : List Nat) : shf o o.length = fun k => nI (oat o k) := by
  funext k
  unfold shf
  rw [if_neg (by omega)]
theorem shf_step {o : List Nat} {p : Nat} (hp : p < o.length) : upd (shf o (p + 1)) (p + 1) (nI (oat o p)) = shf o p := by
  funext k
  unfold upd shf
  by_cases e : k = p + 1
  · rw [if_pos e, e, if_pos (by omega)]
    rfl
  · rw [if_neg e]
    by_cases z : p + 1 < k ∧ k ≤ o.length
    · rw [if_pos z, if_pos (by omega)]
    · rw [if_neg z, if_neg (by omega)]
theorem shf_in {o : List Nat} {p i : Nat} (hp : p ≤ o.length) : upd (shf o p) p (nI i) = fun k => nI (oat (insAt o p i) k) := by
  funext k
  unfold upd
  by_cases hk : k ≤ o.length
  · rw [insAt_at hp hk]
    by_cases e : k = p
    · rw [if_pos e, if_neg (by omega), if_pos e]
    · rw [if_neg e]
      unfold shf
      by_cases z : k < p
      · rw [if_neg (by omega), if_pos z]
      · rw [if_pos (by omega), if_neg z, if_neg e]
  · rw [if_neg (by omega), oat_out (o := insAt o p i) (by rw [insAt_len hp]; omega)]
    unfold shf
    rw [if_neg (by omega), oat_out (by omega)]
theorem shf_at {o : List Nat} {p : Nat} (hp : 0 < p) : shf o p (p - 1) = nI (oat o (p - 1)) := by
  unfold shf
  rw [if_neg (by omega)]
/-- does i lie among the first k -/
def hasB (u : gV) (o : List Nat) (i k : Nat) : Nat := if u 3 i = 0 ∨ ∃ j, j < k ∧ oat o j = i then 1 else 0
theorem hasB_le (u : gV) (o : List Nat) (i k : Nat) : hasB u o i k ≤ 1 := by
  unfold hasB
  split <;> omega
theorem hasB_0 (u : gV) (o : List Nat) (i : Nat) : hasB u o i 0 = if u 3 i = 0 then 1 else 0 := by
  unfold hasB
  by_cases e : u 3 i = 0
  · rw [if_pos (Or.inl e), if_pos e]
  · rw [if_neg (fun z => z.elim e (fun ⟨j, h, _⟩ => Nat.not_lt_zero _ h)), if_neg e]
theorem hasB_y {u : gV} {o : List Nat} {i k : Nat} (h : hasB u o i k ≠ 0 ∨ oat o k = i) : hasB u o i (k + 1) = 1 := by
  unfold hasB at *
  rcases h with h | h
  · by_cases e : u 3 i = 0 ∨ ∃ j, j < k ∧ oat o j = i
    · rw [if_pos]
      rcases e with e | ⟨j, h1, h2⟩
      · exact Or.inl e
      · exact Or.inr ⟨j, by omega, h2⟩
    · rw [if_neg e] at h
      exact absurd rfl h
  · rw [if_pos (Or.inr ⟨k, by omega, h⟩)]
theorem hasB_n {u : gV} {o : List Nat} {i k : Nat} (h : hasB u o i k = 0) (h2 : oat o k ≠ i) : hasB u o i (k + 1) = 0 := by
  unfold hasB at *
  by_cases e : u 3 i = 0 ∨ ∃ j, j < k ∧ oat o j = i
  · rw [if_pos e] at h
    omega
  · rw [if_neg]
    rintro (z | ⟨j, y1, y2⟩)
    · exact e (Or.inl z)
    · by_cases x : j = k
      · rw [x] at y2
        exact h2 y2
      · exact e (Or.inr ⟨j, by omega, y2⟩)
theorem hasB_end {u : gV} {o : List Nat} {i : Nat} : (hasB u o i o.length ≠ 0 → u 3 i = 0 ∨ i ∈ o) ∧ (hasB u o i o.length = 0 → u 3 i ≠ 0 ∧ i ∉ o) := by
  unfold hasB
  by_cases e : u 3 i = 0 ∨ ∃ j, j < o.length ∧ oat o j = i
  · rw [if_pos e]
    refine ⟨fun _ => e.imp id (fun ⟨j, h1, h2⟩ => by rw [← h2]; exact oat_mem h1), fun h => by omega⟩
  · rw [if_neg e]
    refine ⟨fun h => absurd rfl h, fun _ => ⟨fun z => e (Or.inl z), fun z => e (Or.inr ?_)⟩⟩
    exact mem_oat z
theorem mR_now {cs : Nat → ClassId} {M M1 : xM} {m0 : Nat} {v : gV} {o : List Nat} {t : Nat} (h : mR cs M m0 v o) (hM : M1 = va_up M m0 (some (mHead m0 (up2 v 12 2 t) o))) : mR cs M1 m0 (up2 v 12 2 t) o :=
  mX_to (mX_set (k := 0) (mX_of h) hM) (m16 rfl rfl rfl rfl rfl rfl rfl rfl rfl rfl rfl rfl rfl rfl rfl rfl)
theorem mR_out {cs : Nat → ClassId} {M M1 M2 : xM} {m0 : Nat} {v : gV} {o o1 : List Nat} {E : Nat → va_E} (h : mX M m0 (va_up (mel cs m0 v o) 15 (aI (cs 0) 400 (fun k => nI (oat o1 k))))) (hM : M1 = va_up M m0 (some (mHead m0 v o1))) : mR cs M1 m0 v o1 :=
  mX_to (mX_set (k := 0) h hM) (m16 rfl rfl rfl rfl rfl rfl rfl rfl rfl rfl rfl rfl rfl rfl rfl rfl)
theorem doneIn_skip {u : gV} {t g i : Nat} (h : doneIn u t g i) (hs : u 3 i = 0 → u 4 i = g → t < fr u i g) : doneIn u t g (i + 1) := fun j j1 j2 j3 j4 => by
  by_cases e : j = i
  · subst e
    exact hs j3 j4
  · exact h j j1 (by omega) j3 j4
