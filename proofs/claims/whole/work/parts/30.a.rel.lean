theorem chn_mem {bh : Nat → Nat} {j : Nat} : ∀ (l : List Nat), chn bh l → j ∈ l → bh j = 0 ∨ bh j ∈ l
  | [], _, h => by cases h
  | [a], hc, h => by
    have e : j = a := by simpa using h
    subst e
    exact Or.inl hc
  | a :: b :: r, hc, h => by
    rcases List.mem_cons.mp h with e | e
    · subst e
      exact Or.inr (by rw [hc.1]; exact List.mem_cons_of_mem _ List.mem_cons_self)
    · rcases chn_mem (b :: r) hc.2 e with z | z
      · exact Or.inl z
      · exact Or.inr (List.mem_cons_of_mem _ z)
theorem Lk_P {v P : gV} {L : Nat → List Nat} (hI : gInv v) (h : Lk v P L) : (∀ p, p ≤ v 12 0 → P 0 p ≤ v 12 1 ∧ P 1 p ≤ v 12 1) ∧ ∀ j, P 2 j ≤ v 12 1 := by
  refine ⟨fun p hp => ?_, fun j => ?_⟩
  · obtain ⟨h1, h2, h3⟩ := h.1 p hp
    rw [h3.1, h3.2.1]
    cases e : L p with
    | nil => exact ⟨Nat.zero_le _, Nat.zero_le _⟩
    | cons a r =>
      rw [e] at h1
      exact ⟨((h1 a).mp List.mem_cons_self).2.1, ((h1 _).mp (lastD_mem (a :: r) (by simp))).2.1⟩
  · rcases h.2 j with ⟨z1, z2, z3⟩ | z
    · have hq := (hI.2.2.2.2.1 j z1 z2).2.2.2.2.2.1 z3
      obtain ⟨h1, h2, h3⟩ := h.1 (v 4 j) hq
      rcases chn_mem _ h3.2.2 ((h1 j).mpr ⟨z1, z2, z3, rfl⟩) with y | y
      · rw [y]
        exact Nat.zero_le _
      · exact ((h1 _).mp y).2.1
    · rw [z]
      exact Nat.zero_le _
theorem Lk_add {v P : gV} {L : Nat → List Nat} {a l : Nat} (hI : gInv v) (h : Lk v P L) : Lk (addI v a l) (jnP P 0 (v 12 1 + 1)) (va_up L 0 (L 0 ++ [v 12 1 + 1])) := by
  have k : ∀ x j, x ≠ 0 → x ≠ 1 → x ≠ 12 → addI v a l x j = v x j := fun x j n0 n1 n2 => addI_k v a l n0 n1 (fun z => absurd z n2)
  have e0 : addI v a l 12 0 = v 12 0 := addI_k v a l (by decide) (by decide) (by decide)
  have e1 := addI_n v a l
  have k3 : ∀ j, addI v a l 3 j = v 3 j := fun j => k 3 j (by decide) (by decide) (by decide)
  have k4 : ∀ j, addI v a l 4 j = v 4 j := fun j => k 4 j (by decide) (by decide) (by decide)
  have z3 : v 3 (v 12 1 + 1) = 0 := hI.2.2.2.2.2.2.2 3 _ (by decide) (by omega)
  have z4 : v 4 (v 12 1 + 1) = 0 := hI.2.2.2.2.2.2.2 4 _ (by decide) (by omega)
  obtain ⟨n1, n2, n3⟩ := h.1 0 (Nat.zero_le _)
  have hb : P 2 (v 12 1 + 1) = 0 := by
    rcases h.2 (v 12 1 + 1) with z | z
    · omega
    · exact z
  unfold Lk
  rw [e0, e1]
  simp only [k3, k4]
  refine ⟨fun p hp => ?_, fun j => ?_⟩
  · obtain ⟨h1, h2, h3⟩ := h.1 p hp
    by_cases ep : p = 0
    · subst ep
      rw [va_up_self]
      refine ⟨fun j => ?_, ?_, ln_join n3 n2 (fun x hx => ⟨((n1 x).mp hx).1, by have := ((n1 x).mp hx).2.1; omega⟩) hb⟩
      · rw [List.mem_append, List.mem_singleton, n1 j]
        constructor
        · rintro (z | z)
          · exact ⟨z.1, by omega, z.2.2⟩
          · subst z
            exact ⟨by omega, Nat.le_refl _, z3, z4⟩
        · rintro ⟨y1, y2, y3⟩
          by_cases e : j = v 12 1 + 1
          · exact Or.inr e
          · exact Or.inl ⟨y1, by omega, y3⟩
      · rw [List.pairwise_append]
        refine ⟨n2, List.pairwise_singleton _ _, fun x hx y hy => ?_⟩
        rw [List.mem_singleton] at hy
        have := ((n1 x).mp hx).2.1
        omega
    · rw [va_up_ne _ _ ep]
      refine ⟨fun j => ?_, h2, ln_join_ne h3 n3 ep (fun x hx z => ep (((h1 x).mp hx).2.2.2.symm.trans ((n1 x).mp z).2.2.2)) (fun x hx => ((h1 x).mp hx).1)⟩
      rw [h1 j]
      constructor
      · rintro ⟨y1, y2, y3⟩
        exact ⟨y1, by omega, y3⟩
      · rintro ⟨y1, y2, y3, y4⟩
        have : j ≠ v 12 1 + 1 := fun e => ep (by rw [← y4, e]; exact z4)
        exact ⟨y1, by omega, y3, y4⟩
  · by_cases e : 1 ≤ j ∧ j ≤ v 12 1 + 1 ∧ v 3 j = 0
    · exact Or.inl e
    · refine Or.inr ?_
      have z : P 2 j = 0 := by
        rcases h.2 j with y | y
        · exact absurd ⟨y.1, by omega, y.2.2⟩ e
        · exact y
      rw [jnP_2, if_neg ?_]
      · exact z
      · rintro ⟨y1, y2⟩
        rw [n3.2.1] at y1 y2
        have hne : L 0 ≠ [] := fun y => by rw [y] at y2; exact y2 rfl
        have hm := (n1 _).mp (lastD_mem _ hne)
        rw [← y1] at hm
        exact e ⟨hm.1, by omega, hm.2.2.1⟩
/-- a new item: its cell at q, the row of items longer by it -/
theorem cR_new {cs : Nat → ClassId} {M M2 M3 : xM} {x v P : gV} {o w : List Nat} {q a l : Nat} (h : cR cs M x v P o w) (hI : gInv v) (hP : (∀ p, p ≤ v 12 0 → P 0 p ≤ v 12 1 ∧ P 1 p ≤ v 12 1) ∧ ∀ j, P 2 j ≤ v 12 1) (hP2 : P 2 (v 12 1 + 1) = 0) (ho : ∀ j, j ∈ o → j ≤ v 12 1) (hw : ∀ j, j ∈ w → j ≤ v 12 1) (hq : M q = none) (e2 : M2 = va_up M q (some (.inr (kItem, [.int (nI (v 12 1 + 1)), .long (lN a), .long (lN l), .int (-1), .int (-1), .int 0, .null]))))
    (e3 : M3 = va_up (va_up M2 (x 0 5) (some (aQ (cs 5) 400 (va_up (fun k => if k < v 12 1 then some (x 3 (k + 1)) else none) (v 12 1) (some q))))) (x 0 4) (some (cRow (x 0 5) (v 12 1 + 1)))) : cR cs M3 (up2 x 3 (v 12 1 + 1) q) (addI v a l) P o w := by
  have k : ∀ x j, x ≠ 0 → x ≠ 1 → x ≠ 12 → addI v a l x j = v x j := fun x j n0 n1 n2 => addI_k v a l n0 n1 (fun z => absurd z n2)
  have k12 : ∀ b, b ≠ 1 → addI v a l 12 b = v 12 b := fun b hb => addI_k v a l (by decide) (by decide) (fun _ => hb)
  have e1 := addI_n v a l
  have hv : ∀ c d, vd (addI v a l) c d → vd v c d ∨ (c = 3 ∧ d = v 12 1 + 1) := fun c d z => by
    unfold vd at z ⊢
    rw [k12 0 (by decide), e1] at z
    omega
  have hx : ∀ c d, vd v c d → up2 x 3 (v 12 1 + 1) q c d = x c d := fun c d z => by
    unfold vd at z
    unfold up2
    rw [if_neg (by omega)]
  have hx3 : ∀ j, j ≤ v 12 1 → up2 x 3 (v 12 1 + 1) q 3 j = x 3 j := fun j hj => up2_i _ _ _ _ (by omega)
  have hrI : ∀ j, j ≤ v 12 1 → rI (up2 x 3 (v 12 1 + 1) q) j = rI x j := fun j hj => by
    unfold rI
    rw [hx3 j hj]
  have hx0 : ∀ b, up2 x 3 (v 12 1 + 1) q 0 b = x 0 b := fun b => up2_k _ _ _ _ (by decide)
  have hx1 : ∀ b, up2 x 3 (v 12 1 + 1) q 1 b = x 1 b := fun b => up2_k _ _ _ _ (by decide)
  have hx2 : ∀ b, up2 x 3 (v 12 1 + 1) q 2 b = x 2 b := fun b => up2_k _ _ _ _ (by decide)
  have hqn : ∀ c d, vd v c d → x c d ≠ q := fun c d z e => by
    have := h.1 c d z
    rw [e, hq] at this
    cases this
  have zr := hI.2.2.2.2.2.2.2
  have hrow : ∀ (o : List Nat), (∀ j, j ∈ o → j ≤ v 12 1) → (fun k => if k < o.length then some (up2 x 3 (v 12 1 + 1) q 3 (oat o k)) else none) = (fun k => if k < o.length then some (x 3 (oat o k)) else none) := fun o ho => by
    funext k
    by_cases z : k < o.length
    · rw [if_pos z, if_pos z, hx3 _ (ho _ (oat_mem z))]
    · rw [if_neg z, if_neg z]
  refine ⟨fun c d hcd => ?_, fun c d c' d' h1 h2 e => ?_⟩
  · rcases hv c d hcd with z | ⟨rfl, rfl⟩
    · rw [hx c d z, e3]
      by_cases e4 : c = 0 ∧ d = 4
      · obtain ⟨rfl, rfl⟩ := e4
        rw [va_up_self]
        simp only [cel, hx0, e1]
      · rw [va_up_ne _ _ (fun y => e4 (h.2 c d 0 4 z (vd0 (by decide)) y))]
        by_cases e5 : c = 0 ∧ d = 5
        · obtain ⟨rfl, rfl⟩ := e5
          rw [va_up_self]
          simp only [cel, e1]
          congr 5
          funext j
          by_cases ej : j = v 12 1
          · subst ej
            rw [va_up_self, if_pos (by omega), up2_self]
          · rw [va_up_ne _ _ ej]
            by_cases ej2 : j < v 12 1
            · rw [if_pos ej2, if_pos (by omega), hx3 _ (by omega)]
            · rw [if_neg ej2, if_neg (by omega)]
        · rw [va_up_ne _ _ (fun y => e5 (h.2 c d 0 5 z (vd0 (by decide)) y)), e2, va_up_ne _ _ (hqn c d z), h.1 c d z]
          congr 1
          unfold vd at z
          match c with
          | 0 =>
            match d with
            | 0 => simp only [cel, cHead, hx0, k12 3 (by decide), k12 2 (by decide)]
            | 1 => simp only [cel, hx1, k12 0 (by decide)]
            | 2 => simp only [cel, hx2, k12 0 (by decide)]
            | 3 => simp only [cel, k12 0 (by decide), k 11 _ (by decide) (by decide) (by decide)]
            | 4 => exact absurd ⟨rfl, rfl⟩ e4
            | 5 => exact absurd ⟨rfl, rfl⟩ e5
            | 6 => simp only [cel, hx0]
            | 7 => simp only [cel, hrow o ho]
            | 8 => simp only [cel, hx0]
            | 9 => simp only [cel, hrow w hw]
            | d + 10 => omega
          | 1 => simp only [cel, cGate, k 6 _ (by decide) (by decide) (by decide), k 7 _ (by decide) (by decide) (by decide), k 8 _ (by decide) (by decide) (by decide), k 9 _ (by decide) (by decide) (by decide), k 10 _ (by decide) (by decide) (by decide)]
          | 2 =>
            have y := hP.1 d (by omega)
            simp only [cel, cLine, hrI _ y.1, hrI _ y.2]
          | 3 =>
            have y := hP.2 d
            simp only [cel, cItem, hrI _ y, k 2 _ (by decide) (by decide) (by decide), k 3 _ (by decide) (by decide) (by decide), k 5 _ (by decide) (by decide) (by decide)]
            rw [addI_0, addI_1, if_neg (by omega), if_neg (by omega)]
          | c + 4 => omega
    · rw [up2_self, e3, va_up_ne _ _ (fun y => hqn 0 4 (vd0 (by decide)) y.symm), va_up_ne _ _ (fun y => hqn 0 5 (vd0 (by decide)) y.symm), e2, va_up_self]
      simp only [cel, cItem]
      rw [addI_0, addI_1, if_pos rfl, if_pos rfl, k 2 _ (by decide) (by decide) (by decide), k 3 _ (by decide) (by decide) (by decide), k 5 _ (by decide) (by decide) (by decide), zr 2 _ (by decide) (by omega), zr 3 _ (by decide) (by omega), zr 5 _ (by decide) (by omega), hP2, eN_0]
      rfl
  · rcases hv c d h1 with z | ⟨rfl, rfl⟩ <;> rcases hv c' d' h2 with y | ⟨rfl, rfl⟩
    · rw [hx c d z, hx c' d' y] at e
      exact h.2 c d c' d' z y e
    · rw [hx c d z, up2_self] at e
      exact absurd e (hqn c d z)
    · rw [hx c' d' y, up2_self] at e
      exact absurd e.symm (hqn c' d' y)
    · exact ⟨rfl, rfl⟩
theorem l_neg {a b : Nat} (h : a ≤ b) (hb : b < 2 ^ 31) : lN a - lN b ≤ 0 := by
  rw [Int64.le_iff_toInt_le, Int64.toInt_sub, lN_toInt (by omega), lN_toInt hb, Int.bmod_eq_of_le (by omega) (by omega)]
  have : (0 : Int64).toInt = 0 := by decide
  omega
theorem l_pos {a : Nat} (h : 0 < a) (ha : a < 2 ^ 31) : ¬ lN a ≤ 0 := by
  rw [Int64.le_iff_toInt_le, lN_toInt ha]
  have : (0 : Int64).toInt = 0 := by decide
  omega
theorem sw3 {x : Int32} (h0 : ¬ x = 0) (h1 : ¬ x = 1) (h2 : ¬ x = 2) : x.toInt < 0 ∨ 2 < x.toInt := by
  have a0 := lv_neT h0 (show (0 : Int32).toInt = 0 by decide)
  have a1 := lv_neT h1 (show (1 : Int32).toInt = 1 by decide)
  have a2 := lv_neT h2 (show (2 : Int32).toInt = 2 by decide)
  omega
theorem up2_id {v : gV} {k i x : Nat} (h : v k i = x) : up2 v k i x = v := by
  funext a b
  unfold up2
  by_cases e : a = k ∧ b = i
  · rw [if_pos e, e.1, e.2, h]
  · rw [if_neg e]
/-- the class's object at a holds the belt v, o -/
def clS (cs : Nat → ClassId) (M : xM) (a : Nat) (v : gV) (o : List Nat) : Prop := ∃ (x P : gV) (L : Nat → List Nat), a = x 0 0 ∧ cR cs M x v P o (o.filter (wr v)) ∧ Lk v P L
