/-! how a write of one cell changes what the cells hold -/
theorem rI_none {x : gV} {j : Nat} (h : rI x j = none) : j = 0 := by
  unfold rI at h
  split at h
  · assumption
  · cases h
theorem rI_some {x : gV} {j y : Nat} (h : rI x j = some y) : 1 ≤ j ∧ y = x 3 j := by
  unfold rI at h
  split at h
  · cases h
  · rename_i z
    cases h
    exact ⟨by omega, rfl⟩
theorem vd2 {v : gV} {p : Nat} (h : p ≤ v 12 0) : vd v 2 p := Or.inr (Or.inr (Or.inl ⟨rfl, h⟩))
theorem vd1 {v : gV} {g : Nat} (h : g < v 12 0) : vd v 1 g := Or.inr (Or.inl ⟨rfl, h⟩)
theorem vd3 {v : gV} {i : Nat} (h1 : 1 ≤ i) (h2 : i ≤ v 12 1) : vd v 3 i := Or.inr (Or.inr (Or.inr ⟨rfl, h1, h2⟩))
theorem vd0 {v : gV} {k : Nat} (h : k < 10) : vd v 0 k := Or.inl ⟨rfl, h⟩
theorem cR_line {cs : Nat → ClassId} {M M1 : xM} {x v P P' : gV} {o w : List Nat} {p : Nat} (h : cR cs M x v P o w) (hp : p ≤ v 12 0) (h0 : ∀ a b, ¬ ((a = 0 ∨ a = 1) ∧ b = p) → P' a b = P a b) (hM : M1 = va_up M (x 2 p) (some (cLine x P' p))) : cR cs M1 x v P' o w :=
  cR_upd h (vd2 hp) ⟨rfl, rfl⟩ hM (fun c d _ hn => cel_eq c d (fun _ => ⟨rfl, rfl, fun _ => ⟨rfl, rfl⟩, fun _ _ => rfl, fun _ => rfl, fun _ _ _ _ _ _ _ _ => rfl⟩) (fun _ => ⟨rfl, rfl, rfl, rfl, rfl⟩) (fun e => ⟨h0 0 d (fun z => hn ⟨e, z.2⟩), h0 1 d (fun z => hn ⟨e, z.2⟩)⟩) (fun _ _ _ => ⟨rfl, rfl, rfl, rfl, rfl, h0 2 d (by omega)⟩))
theorem cR_behind {cs : Nat → ClassId} {M M1 : xM} {x v P P' : gV} {o w : List Nat} {i : Nat} (h : cR cs M x v P o w) (h1 : 1 ≤ i) (h2 : i ≤ v 12 1) (h0 : ∀ a b, ¬ (a = 2 ∧ b = i) → P' a b = P a b) (hM : M1 = va_up M (x 3 i) (some (cItem x v P' i))) : cR cs M1 x v P' o w :=
  cR_upd h (vd3 h1 h2) ⟨rfl, rfl⟩ hM (fun c d hv hn => cel_eq c d (fun _ => ⟨rfl, rfl, fun _ => ⟨rfl, rfl⟩, fun _ _ => rfl, fun _ => rfl, fun _ _ _ _ _ _ _ _ => rfl⟩) (fun _ => ⟨rfl, rfl, rfl, rfl, rfl⟩) (fun e => ⟨h0 0 d (by omega), h0 1 d (by omega)⟩) (fun n0 n1 n2 => ⟨rfl, rfl, rfl, rfl, rfl, h0 2 d (fun z => hn ⟨by unfold vd at hv; omega, z.2⟩)⟩))
theorem cR_item {cs : Nat → ClassId} {M M1 : xM} {x v v' P : gV} {o w : List Nat} {i : Nat} (h : cR cs M x v P o w) (h1 : 1 ≤ i) (h2 : i ≤ v 12 1) (h0 : ∀ a b, a ≠ 4 → ¬ ((a = 2 ∨ a = 3 ∨ a = 5) ∧ b = i) → v' a b = v a b) (hM : M1 = va_up M (x 3 i) (some (cItem x v' P i))) : cR cs M1 x v' P o w :=
  cR_upd h (vd3 h1 h2) ⟨h0 12 0 (by decide) (by omega), h0 12 1 (by decide) (by omega)⟩ hM (fun c d hv hn => cel_eq c d (fun _ => ⟨h0 12 0 (by decide) (by omega), h0 12 1 (by decide) (by omega), fun _ => ⟨h0 12 3 (by decide) (by omega), h0 12 2 (by decide) (by omega)⟩, fun _ p => h0 11 p (by decide) (by omega), fun _ => rfl, fun _ _ _ _ _ _ _ _ => rfl⟩) (fun _ => ⟨h0 6 d (by decide) (by omega), h0 7 d (by decide) (by omega), h0 8 d (by decide) (by omega), h0 9 d (by decide) (by omega), h0 10 d (by decide) (by omega)⟩) (fun e => ⟨rfl, rfl⟩) (fun n0 n1 n2 => by
    have hd : d ≠ i := fun z => hn ⟨by unfold vd at hv; omega, z⟩
    exact ⟨h0 0 d (by decide) (by omega), h0 1 d (by decide) (by omega), h0 2 d (by decide) (by omega), h0 3 d (by decide) (by omega), h0 5 d (by decide) (by omega), rfl⟩))
theorem cR_gate {cs : Nat → ClassId} {M M1 : xM} {x v v' P : gV} {o w : List Nat} {g : Nat} (h : cR cs M x v P o w) (hg : g < v 12 0) (h0 : ∀ a b, a ≠ 4 → ¬ ((a = 6 ∨ a = 7 ∨ a = 8 ∨ a = 9 ∨ a = 10) ∧ b = g) → v' a b = v a b) (hM : M1 = va_up M (x 1 g) (some (cGate v' g))) : cR cs M1 x v' P o w :=
  cR_upd h (vd1 hg) ⟨h0 12 0 (by decide) (by omega), h0 12 1 (by decide) (by omega)⟩ hM (fun c d hv hn => cel_eq c d (fun _ => ⟨h0 12 0 (by decide) (by omega), h0 12 1 (by decide) (by omega), fun _ => ⟨h0 12 3 (by decide) (by omega), h0 12 2 (by decide) (by omega)⟩, fun _ p => h0 11 p (by decide) (by omega), fun _ => rfl, fun _ _ _ _ _ _ _ _ => rfl⟩) (fun e => by
    have hd : d ≠ g := fun z => hn ⟨e, z⟩
    exact ⟨h0 6 d (by decide) (by omega), h0 7 d (by decide) (by omega), h0 8 d (by decide) (by omega), h0 9 d (by decide) (by omega), h0 10 d (by decide) (by omega)⟩) (fun e => ⟨rfl, rfl⟩) (fun n0 n1 n2 => ⟨h0 0 d (by decide) (by omega), h0 1 d (by decide) (by omega), h0 2 d (by decide) (by omega), h0 3 d (by decide) (by omega), h0 5 d (by decide) (by omega), rfl⟩))
theorem cR_head {cs : Nat → ClassId} {M M1 : xM} {x v v' P : gV} {o w : List Nat} (h : cR cs M x v P o w) (h0 : ∀ a b, a ≠ 4 → ¬ (a = 12 ∧ (b = 2 ∨ b = 3)) → v' a b = v a b) (hM : M1 = va_up M (x 0 0) (some (cHead x v'))) : cR cs M1 x v' P o w :=
  cR_upd h (vd0 (by decide)) ⟨h0 12 0 (by decide) (by omega), h0 12 1 (by decide) (by omega)⟩ hM (fun c d hv hn => cel_eq c d (fun e => ⟨h0 12 0 (by decide) (by omega), h0 12 1 (by decide) (by omega), fun z => absurd ⟨e, z⟩ hn, fun _ p => h0 11 p (by decide) (by omega), fun _ => rfl, fun _ _ _ _ _ _ _ _ => rfl⟩) (fun e => ⟨h0 6 d (by decide) (by omega), h0 7 d (by decide) (by omega), h0 8 d (by decide) (by omega), h0 9 d (by decide) (by omega), h0 10 d (by decide) (by omega)⟩) (fun e => ⟨rfl, rfl⟩) (fun n0 n1 n2 => ⟨h0 0 d (by decide) (by omega), h0 1 d (by decide) (by omega), h0 2 d (by decide) (by omega), h0 3 d (by decide) (by omega), h0 5 d (by decide) (by omega), rfl⟩))
theorem cR_came {cs : Nat → ClassId} {M M1 : xM} {x v v' P : gV} {o w : List Nat} (h : cR cs M x v P o w) (h0 : ∀ a b, a ≠ 4 → a ≠ 11 → v' a b = v a b) (hM : M1 = va_up M (x 0 3) (some (aI (cs 0) (v 12 0 + 1) (fun p => nI (v' 11 p))))) : cR cs M1 x v' P o w :=
  cR_upd h (vd0 (k := 3) (by decide)) ⟨h0 12 0 (by decide) (by omega), h0 12 1 (by decide) (by omega)⟩ (by rw [hM]; simp only [cel]; rw [h0 12 0 (by decide) (by omega)]) (fun c d hv hn => cel_eq c d (fun e => ⟨h0 12 0 (by decide) (by omega), h0 12 1 (by decide) (by omega), fun z => ⟨h0 12 3 (by decide) (by omega), h0 12 2 (by decide) (by omega)⟩, fun z => absurd ⟨e, z⟩ hn, fun _ => rfl, fun _ _ _ _ _ _ _ _ => rfl⟩) (fun e => ⟨h0 6 d (by decide) (by omega), h0 7 d (by decide) (by omega), h0 8 d (by decide) (by omega), h0 9 d (by decide) (by omega), h0 10 d (by decide) (by omega)⟩) (fun e => ⟨rfl, rfl⟩) (fun n0 n1 n2 => ⟨h0 0 d (by decide) (by omega), h0 1 d (by decide) (by omega), h0 2 d (by decide) (by omega), h0 3 d (by decide) (by omega), h0 5 d (by decide) (by omega), rfl⟩))
/-- a row grows by an item: what came -/
theorem row_grow {x : gV} {o : List Nat} {i : Nat} : va_up (fun k => if k < o.length then some (x 3 (oat o k)) else none) o.length (some (x 3 i)) = (fun k => if k < (o ++ [i]).length then some (x 3 (oat (o ++ [i]) k)) else none) := by
  funext k
  rw [List.length_append, List.length_singleton]
  by_cases e : k = o.length
  · subst e
    rw [va_up_self, if_pos (by omega), oat_snoc]
  · rw [va_up_ne _ _ e]
    by_cases z : k < o.length
    · rw [if_pos z, if_pos (by omega), oat_snoc_lt z]
    · rw [if_neg z, if_neg (by omega)]
theorem cR_came2 {cs : Nat → ClassId} {M M1 : xM} {x v P : gV} {o w : List Nat} {i : Nat} (h : cR cs M x v P o w) (hM : M1 = va_up (va_up M (x 0 7) (some (aQ (cs 5) 400 (va_up (fun k => if k < o.length then some (x 3 (oat o k)) else none) o.length (some (x 3 i)))))) (x 0 6) (some (cRow (x 0 7) (o.length + 1)))) : cR cs M1 x v P (o ++ [i]) w := by
  refine ⟨fun a b hab => ?_, h.2⟩
  have hl : (o ++ [i]).length = o.length + 1 := by simp
  by_cases e6 : a = 0 ∧ b = 6
  · obtain ⟨rfl, rfl⟩ := e6
    rw [hM, va_up_self]
    simp only [cel, hl]
  · rw [hM, va_up_ne _ _ (fun z => e6 (h.2 a b 0 6 hab (vd0 (by decide)) z))]
    by_cases e7 : a = 0 ∧ b = 7
    · obtain ⟨rfl, rfl⟩ := e7
      rw [va_up_self, row_grow]
      rfl
    · rw [va_up_ne _ _ (fun z => e7 (h.2 a b 0 7 hab (vd0 (by decide)) z)), h.1 a b hab]
      refine congrArg some (cel_eq a b (fun e => ⟨rfl, rfl, fun _ => ⟨rfl, rfl⟩, fun _ _ => rfl, fun z => by omega, fun _ _ _ _ _ _ _ _ => rfl⟩) (fun _ => ⟨rfl, rfl, rfl, rfl, rfl⟩) (fun _ => ⟨rfl, rfl⟩) (fun _ _ _ => ⟨rfl, rfl, rfl, rfl, rfl, rfl⟩)).symm
theorem cR_wrong {cs : Nat → ClassId} {M M1 : xM} {x v P : gV} {o w : List Nat} {i : Nat} (h : cR cs M x v P o w) (hM : M1 = va_up (va_up M (x 0 9) (some (aQ (cs 5) 400 (va_up (fun k => if k < w.length then some (x 3 (oat w k)) else none) w.length (some (x 3 i)))))) (x 0 8) (some (cRow (x 0 9) (w.length + 1)))) : cR cs M1 x v P o (w ++ [i]) := by
  refine ⟨fun a b hab => ?_, h.2⟩
  have hl : (w ++ [i]).length = w.length + 1 := by simp
  by_cases e6 : a = 0 ∧ b = 8
  · obtain ⟨rfl, rfl⟩ := e6
    rw [hM, va_up_self]
    simp only [cel, hl]
  · rw [hM, va_up_ne _ _ (fun z => e6 (h.2 a b 0 8 hab (vd0 (by decide)) z))]
    by_cases e7 : a = 0 ∧ b = 9
    · obtain ⟨rfl, rfl⟩ := e7
      rw [va_up_self, row_grow]
      rfl
    · rw [va_up_ne _ _ (fun z => e7 (h.2 a b 0 9 hab (vd0 (by decide)) z)), h.1 a b hab]
      have hb : a = 0 → b < 8 := fun e => by
        unfold vd at hab
        omega
      refine congrArg some (cel_eq a b (fun e => ⟨rfl, rfl, fun _ => ⟨rfl, rfl⟩, fun _ _ => rfl, fun z => rfl, fun _ _ _ _ _ _ _ _ => by have := hb e; omega⟩) (fun _ => ⟨rfl, rfl, rfl, rfl, rfl⟩) (fun _ => ⟨rfl, rfl⟩) (fun _ _ _ => ⟨rfl, rfl, rfl, rfl, rfl, rfl⟩)).symm
theorem nar_b {k : Nat} (h : k ≤ 1) : narrow .boolean (.int (nI k)) = .int (nI k) := by
  rcases (show k = 0 ∨ k = 1 by omega) with rfl | rfl <;> rfl
theorem fit_b {k : Nat} (h : k ≤ 1) : fits .boolean (.int (nI k)) = true := by
  rcases (show k = 0 ∨ k = 1 by omega) with rfl | rfl <;> rfl
theorem eN_add (n : Nat) : nI n + (-1) = eN n := (Int32.sub_eq_add_neg (nI n) 1).symm
