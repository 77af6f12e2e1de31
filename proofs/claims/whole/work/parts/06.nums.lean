/-- a number or, at 0, minus one -/
def eN (n : Nat) : Int32 := nI n - 1
theorem eN_0 : eN 0 = -1 := by decide
theorem eN_s (n : Nat) : eN (n + 1) = nI n := nI_pred n
theorem nI_inj {a b : Nat} (ha : a < 2 ^ 31) (hb : b < 2 ^ 31) : nI a = nI b ↔ a = b := nI_eq ha hb
theorem nI_m1 {a : Nat} (ha : a < 2 ^ 31) : ¬ nI a = -1 := fun h => by
  have h1 := nI_toInt ha
  rw [h] at h1
  have h2 : (-1 : Int32).toInt = -1 := by decide
  omega
theorem eN_m1 {a : Nat} (ha : a < 2 ^ 31) : eN a = -1 ↔ a = 0 := by
  cases a with
  | zero => exact ⟨fun _ => rfl, fun _ => eN_0⟩
  | succ a =>
    rw [eN_s]
    exact ⟨fun h => absurd h (nI_m1 (by omega)), fun h => by omega⟩
theorem eN_neg {a : Nat} (ha : a < 2 ^ 31) : eN a < 0 ↔ a = 0 := by
  cases a with
  | zero => exact ⟨fun _ => rfl, fun _ => by rw [eN_0]; decide⟩
  | succ a =>
    rw [eN_s]
    exact ⟨fun h => absurd h (nI_pos (by omega)), fun h => by omega⟩
theorem eN_pos {a : Nat} (ha : a < 2 ^ 31) : 0 ≤ eN a ↔ ¬ a = 0 := by
  cases a with
  | zero => exact ⟨fun h => absurd h (by rw [eN_0]; decide), fun h => absurd rfl h⟩
  | succ a =>
    rw [eN_s]
    exact ⟨fun _ => by omega, fun _ => nI_pos' (by omega)⟩
theorem eN_is {a b : Nat} (ha : a < 2 ^ 31) (hb : b < 2 ^ 31) : eN a = nI b ↔ a = b + 1 := by
  cases a with
  | zero =>
    rw [eN_0]
    exact ⟨fun h => absurd h.symm (nI_m1 hb), fun h => by omega⟩
  | succ a =>
    rw [eN_s, nI_inj (by omega) hb]
    omega
theorem eN_inj {a b : Nat} (ha : a < 2 ^ 31) (hb : b < 2 ^ 31) : eN a = eN b ↔ a = b := by
  cases b with
  | zero => rw [eN_0, eN_m1 ha]
  | succ b => rw [eN_s, eN_is ha (by omega)]
