/-! the i-th of those that came wrong -/
theorem oat_s (a : Nat) (l : List Nat) (k : Nat) : oat (a :: l) (k + 1) = oat l k := by
  unfold oat
  simp
theorem oat_z (a : Nat) (l : List Nat) : oat (a :: l) 0 = a := by
  unfold oat
  simp
def wc (f : Nat → Bool) (o : List Nat) (k : Nat) : Nat := ((o.take k).filter f).length
theorem wc_0 (f : Nat → Bool) (o : List Nat) : wc f o 0 = 0 := by
  unfold wc
  simp
theorem wc_s (f : Nat → Bool) : ∀ (o : List Nat) (k : Nat), k < o.length → wc f o (k + 1) = wc f o k + (if f (oat o k) = true then 1 else 0)
  | [], k, h => absurd h (Nat.not_lt_zero k)
  | a :: o, 0, _ => by
    rw [oat_z]
    unfold wc
    by_cases e : f a = true
    · simp [e]
    · simp [e]
  | a :: o, k + 1, h => by
    have ih := wc_s f o k (by simpa using h)
    rw [oat_s]
    unfold wc at ih ⊢
    by_cases e : f a = true
    · simp only [List.take_succ_cons, List.filter_cons_of_pos e, List.length_cons]
      omega
    · simp only [List.take_succ_cons, List.filter_cons_of_neg e]
      omega
theorem wc_all (f : Nat → Bool) (o : List Nat) : wc f o o.length = (o.filter f).length := by
  unfold wc
  rw [List.take_length]
theorem wc_at (f : Nat → Bool) : ∀ (o : List Nat) (k : Nat), k < o.length → f (oat o k) = true → wc f o k < (o.filter f).length ∧ oat (o.filter f) (wc f o k) = oat o k
  | [], k, h, _ => absurd h (Nat.not_lt_zero k)
  | a :: o, 0, _, e => by
    rw [oat_z] at e ⊢
    rw [wc_0, List.filter_cons_of_pos e, oat_z]
    exact ⟨by simp, rfl⟩
  | a :: o, k + 1, h, e => by
    rw [oat_s] at e ⊢
    have ih := wc_at f o k (by simpa using h) e
    by_cases e2 : f a = true
    · have hw : wc f (a :: o) (k + 1) = wc f o k + 1 := by
        unfold wc
        simp only [List.take_succ_cons, List.filter_cons_of_pos e2, List.length_cons]
      rw [hw, List.filter_cons_of_pos e2, oat_s]
      exact ⟨by simp only [List.length_cons]; omega, ih.2⟩
    · have hw : wc f (a :: o) (k + 1) = wc f o k := by
        unfold wc
        simp only [List.take_succ_cons, List.filter_cons_of_neg e2]
      rw [hw, List.filter_cons_of_neg e2]
      exact ih
/-! the start -/
def v00 (G : Nat) : gV := fun a b => if a = 12 ∧ b = 0 then G else if a = 9 ∧ b < 13 then 1000 else 0
def clG (g : Int32) : Nat := if g < 1 then 1 else if 12 < g then 12 else g.toNatClampNeg
theorem v00_0 (G a b : Nat) (h : ¬ (a = 12 ∧ b = 0)) (h2 : a ≠ 9) : v00 G a b = 0 := by
  unfold v00
  rw [if_neg h, if_neg (fun z => h2 z.1)]
theorem v00_G (G : Nat) : v00 G 12 0 = G := by
  unfold v00
  rw [if_pos ⟨rfl, rfl⟩]
theorem v00_9 {G g : Nat} (h : g < 13) : v00 G 9 g = 1000 := by
  unfold v00
  rw [if_neg (by omega), if_pos ⟨rfl, h⟩]
theorem gAll_0 {G : Nat} (h1 : 1 ≤ G) (h2 : G ≤ 12) : gAll (v00 G) [] := by
  have n0 : v00 G 12 1 = 0 := v00_0 G 12 1 (by decide) (by decide)
  have t0 : v00 G 12 2 = 0 := v00_0 G 12 2 (by decide) (by decide)
  refine ⟨⟨by rw [v00_G]; exact ⟨h1, h2⟩, by rw [n0]; decide, by rw [t0]; decide, fun i i1 i2 => by omega, fun i i1 i2 => by omega, fun j i j1 j2 j3 => by omega, fun g hg => ?_, fun a j ha hj => v00_0 G a j (by omega) (by omega)⟩, ⟨fun i => ?_, List.Pairwise.nil⟩, fun a ha => (by cases ha), fun i i1 i2 => by omega⟩
  · rw [v00_G] at hg
    unfold gGate
    rw [v00_0 G 6 g (by omega) (by decide), v00_0 G 7 g (by omega) (by decide), v00_0 G 8 g (by omega) (by decide), v00_9 (by omega), v00_0 G 10 g (by omega) (by decide), v00_0 G 11 g (by omega) (by decide)]
    omega
  · constructor
    · intro z
      cases z
    · rintro ⟨z1, z2, z3⟩
      omega
theorem clG_in (g : Int32) : 1 ≤ clG g ∧ clG g ≤ 12 := by
  unfold clG
  split
  · omega
  · rename_i h
    split
    · omega
    · rename_i h2
      rw [Int32.lt_iff_toInt_lt] at h h2
      have e1 : (1 : Int32).toInt = 1 := by decide
      have e12 : (12 : Int32).toInt = 12 := by decide
      have e : g.toNatClampNeg = g.toInt.toNat := rfl
      omega
