/-! WHAT A CALL ANSWERS AND DOES, of numbers alone: class and reference are held to it, and it leaves no choice -/
theorem gAll_set {v v' : gV} {o : List Nat} (h : gAll v o) (e : ∀ a b, a ≠ 2 → a ≠ 5 → a ≠ 7 → a ≠ 9 → a ≠ 10 → (a = 12 → b ≠ 3) → v' a b = v a b) (b2 : ∀ i, 1 ≤ i → i ≤ v 12 1 → v' 2 i ≤ v 12 0) (b5 : ∀ i, 1 ≤ i → i ≤ v 12 1 → v' 5 i ≤ 1000000200) (b7 : ∀ g, g ≤ v 12 0 → v' 7 g ≤ 1) (b9 : ∀ g, g ≤ v 12 0 → 1 ≤ v' 9 g ∧ v' 9 g ≤ 1000) (b10 : ∀ g, g ≤ v 12 0 → v' 10 g ≤ v 11 g) (bz : ∀ j, v 12 1 < j → v' 2 j = 0 ∧ v' 5 j = 0) : gAll v' o := by
  have k : ∀ a b, (a = 0 ∨ a = 1 ∨ a = 3 ∨ a = 4 ∨ a = 6 ∨ a = 8 ∨ a = 11) → v' a b = v a b := fun a b ha => e a b (by omega) (by omega) (by omega) (by omega) (by omega) (by omega)
  have k12 : ∀ b, b ≠ 3 → v' 12 b = v 12 b := fun b hb => e 12 b (by decide) (by decide) (by decide) (by decide) (by decide) (fun _ => hb)
  have e0 := k12 0 (by decide)
  have e1 := k12 1 (by decide)
  have e2 := k12 2 (by decide)
  have etm : ∀ i, tm v' i = tm v i := fun i => by
    unfold tm
    rw [k 0 i (by decide), k 3 i (by decide)]
  have efr : ∀ i g, fr v' i g = fr v i g := fun i g => by
    unfold fr
    rw [k 0 i (by decide)]
  have ebn : bn v' = bn v := by
    unfold bn
    rw [e1]
    exact sm_eq _ (fun i _ _ => by (try dsimp only); rw [k 3 i (by decide)])
  obtain ⟨⟨a1, a2, a3, a4, a5, a6, a7, a8⟩, c1, c2, c3⟩ := h
  refine ⟨⟨by rw [e0]; exact a1, by rw [e1]; exact a2, by rw [e2]; exact a3, fun i i1 i2 => ?_, fun i i1 i2 => ?_, fun j i j1 j2 j3 j4 j5 => ?_, fun g hg => ?_, fun a j ha hj => ?_⟩, ⟨fun i => ?_, c1.2.imp (fun {a b} z => ?_)⟩, fun a ha => ?_, fun i i1 i2 i3 => ?_⟩
  · rw [e1] at i2
    rw [k 0 i (by decide), k 1 i (by decide), k 0 (i + 1) (by decide)]
    exact a4 i i1 i2
  · rw [e1] at i2
    have z := a5 i i1 i2
    have z2 := b2 i i1 i2
    have z5 := b5 i i1 i2
    unfold gItem at z ⊢
    rw [k 0 i (by decide), k 1 i (by decide), k 3 i (by decide), k 4 i (by decide), e0]
    omega
  · rw [e1] at j3
    rw [k 3 j (by decide)] at j4
    rw [k 3 i (by decide)] at j5
    rw [k 4 i (by decide), k 4 j (by decide)]
    exact a6 j i j1 j2 j3 j4 j5
  · rw [e0] at hg
    have z := a7 g hg
    have z7 := b7 g hg
    have z9 := b9 g hg
    have z10 := b10 g hg
    unfold gGate at z ⊢
    rw [k 6 g (by decide), k 8 g (by decide), k 11 g (by decide), ebn]
    omega
  · rw [e1] at hj
    have z := bz j hj
    have y := a8 a j ha hj
    by_cases h2 : a = 2
    · subst h2
      exact z.1
    · by_cases h5 : a = 5
      · subst h5
        exact z.2
      · rw [k a j (by omega)]
        exact y
  · rw [e1, k 3 i (by decide)]
    exact c1.1 i
  · unfold ltk at z ⊢
    rw [etm, etm]
    exact z
  · rw [e2, etm]
    exact c2 a ha
  · rw [e1] at i2
    rw [k 3 i (by decide)] at i3
    rw [e2, efr, k 4 i (by decide)]
    exact c3 i i1 i2 i3
def isIt (v : gV) (i : Int32) : Prop := ∃ k, i = nI k ∧ 1 ≤ k ∧ k ≤ v 12 1
def isBn (v : gV) (b : Int32) : Prop := ∃ g, b = nI g ∧ g < v 12 0
def okT (v : gV) (t : Int64) : Prop := lN (v 12 2) ≤ t ∧ t ≤ 1000000000
def okI (v : gV) (at1 len : Int64) : Prop := 1 ≤ len ∧ len ≤ 900 ∧ okT v at1 ∧ (v 12 1 = 0 ∨ lN (v 0 (v 12 1) + v 1 (v 12 1) + 50) ≤ at1)
theorem l9 : (1000000000 : Int64) = lN 1000000000 := by decide
theorem l_of {t : Int64} {a b : Nat} (h1 : lN a ≤ t) (h2 : t ≤ lN b) (ha : a < 2 ^ 31) (hb : b < 2 ^ 31) : ∃ n, t = lN n ∧ a ≤ n ∧ n ≤ b := by
  rw [Int64.le_iff_toInt_le, lN_toInt ha] at h1
  rw [Int64.le_iff_toInt_le, lN_toInt hb] at h2
  obtain ⟨n, hn⟩ : ∃ n : Nat, t.toInt = (n : Int) := ⟨t.toInt.toNat, by omega⟩
  have e : t = lN n := Int64.toInt_inj.mp (by rw [hn, lN_toInt (by omega)])
  exact ⟨n, e, by omega, by omega⟩
theorem okT_of {v : gV} {t : Int64} (h : okT v t) (hv : v 12 2 ≤ 1000000000) : ∃ n, t = lN n ∧ v 12 2 ≤ n ∧ n ≤ 1000000000 := l_of h.1 (by rw [← l9]; exact h.2) (by omega) (by decide)
theorem lN_inj {a b : Nat} (ha : a < 2 ^ 31) (hb : b < 2 ^ 31) (h : lN a = lN b) : a = b := (lN_eq ha hb).mp h
theorem nI_inj2 {a b : Nat} (ha : a < 2 ^ 31) (hb : b < 2 ^ 31) (h : nI a = nI b) : a = b := (nI_eq ha hb).mp h
def addI (v : gV) (a l : Nat) : gV := up2 (up2 (up2 v 0 (v 12 1 + 1) a) 1 (v 12 1 + 1) l) 12 1 (v 12 1 + 1)
def pItem (v : gV) (at1 len : Int64) (r : Int32) (v' : gV) : Prop := (¬ okI v at1 len ∧ r = -102 ∧ v' = v) ∨ (okI v at1 len ∧ v 12 1 = 400 ∧ r = -104 ∧ v' = v) ∨ (okI v at1 len ∧ v 12 1 < 400 ∧ ∃ a l, at1 = lN a ∧ len = lN l ∧ v 12 2 ≤ a ∧ a ≤ 1000000000 ∧ 1 ≤ l ∧ l ≤ 900 ∧ (v 12 1 = 0 ∨ v 0 (v 12 1) + v 1 (v 12 1) + 50 ≤ a) ∧ r = nI (v 12 1 + 1) ∧ v' = addI v a l)
theorem pItem_one {v v1 v2 : gV} {a l : Int64} {r1 r2 : Int32} (h1 : pItem v a l r1 v1) (h2 : pItem v a l r2 v2) : r1 = r2 ∧ v1 = v2 := by
  rcases h1 with ⟨a1, a2, a3⟩ | ⟨a1, a2, a3, a4⟩ | ⟨a1, a2, x, y, a3, a4, a5, a6, a7, a8, a9, a10, a11⟩ <;> rcases h2 with ⟨b1, b2, b3⟩ | ⟨b1, b2, b3, b4⟩ | ⟨b1, b2, z, u, b3, b4, b5, b6, b7, b8, b9, b10, b11⟩
  · exact ⟨a2.trans b2.symm, a3.trans b3.symm⟩
  · exact absurd b1 a1
  · exact absurd b1 a1
  · exact absurd a1 b1
  · exact ⟨a3.trans b3.symm, a4.trans b4.symm⟩
  · omega
  · exact absurd a1 b1
  · omega
  · have e1 : x = z := lN_inj (by omega) (by omega) (a3.symm.trans b3)
    have e2 : y = u := lN_inj (by omega) (by omega) (a4.symm.trans b4)
    subst e1
    subst e2
    exact ⟨a10.trans b10.symm, a11.trans b11.symm⟩
theorem addI_0 (v : gV) (a l j : Nat) : addI v a l 0 j = if j = v 12 1 + 1 then a else v 0 j := by simp [addI, up2]
theorem addI_1 (v : gV) (a l j : Nat) : addI v a l 1 j = if j = v 12 1 + 1 then l else v 1 j := by simp [addI, up2]
theorem addI_n (v : gV) (a l : Nat) : addI v a l 12 1 = v 12 1 + 1 := by simp [addI, up2]
theorem addI_k (v : gV) (a l : Nat) {k j : Nat} (h0 : k ≠ 0) (h1 : k ≠ 1) (h2 : k = 12 → j ≠ 1) : addI v a l k j = v k j := by
  unfold addI
  rw [show up2 (up2 (up2 v 0 (v 12 1 + 1) a) 1 (v 12 1 + 1) l) 12 1 (v 12 1 + 1) k j = up2 (up2 v 0 (v 12 1 + 1) a) 1 (v 12 1 + 1) l k j from by
    by_cases e : k = 12
    · exact up2_i _ _ _ _ (h2 e)
    · exact up2_k _ _ _ _ e, up2_k _ _ _ _ h1, up2_k _ _ _ _ h0]
theorem gAll_add {v : gV} {o : List Nat} {a l : Nat} (h : gAll v o) (hn : v 12 1 < 400) (h1 : v 12 2 ≤ a) (h2 : a ≤ 1000000000) (h3 : 1 ≤ l) (h4 : l ≤ 900) (h5 : v 12 1 = 0 ∨ v 0 (v 12 1) + v 1 (v 12 1) + 50 ≤ a) : gAll (addI v a l) o := by
  have k : ∀ x j, x ≠ 0 → x ≠ 1 → x ≠ 12 → addI v a l x j = v x j := fun x j n0 n1 n2 => addI_k v a l n0 n1 (fun z => absurd z n2)
  have e0 : addI v a l 12 0 = v 12 0 := addI_k v a l (by decide) (by decide) (by decide)
  have e2 : addI v a l 12 2 = v 12 2 := addI_k v a l (by decide) (by decide) (by decide)
  have en := addI_n v a l
  obtain ⟨⟨a1, a2, a3, a4, a5, a6, a7, a8⟩, c1, c2, c3⟩ := h
  have z3 : v 3 (v 12 1 + 1) = 0 := a8 3 _ (by decide) (by omega)
  have ebn : bn (addI v a l) = bn v := by
    have e : sm (fun i => if addI v a l 3 i = 0 then 0 else 1) (v 12 1) = sm (fun i => if v 3 i = 0 then 0 else 1) (v 12 1) := sm_eq _ (fun i _ _ => by (try dsimp only); rw [k 3 i (by decide) (by decide) (by decide)])
    unfold bn
    rw [en]
    simp only [sm]
    rw [e, k 3 _ (by decide) (by decide) (by decide), z3]
    simp
  have o0 : ∀ j, j ≤ v 12 1 → addI v a l 0 j = v 0 j := fun j hj => by rw [addI_0, if_neg (by omega)]
  have o1 : ∀ j, j ≤ v 12 1 → addI v a l 1 j = v 1 j := fun j hj => by rw [addI_1, if_neg (by omega)]
  have otm : ∀ j, j ≤ v 12 1 → tm (addI v a l) j = tm v j := fun j hj => by
    unfold tm
    rw [o0 j hj, k 3 j (by decide) (by decide) (by decide)]
  refine ⟨⟨by rw [e0]; exact a1, by rw [en]; omega, by rw [e2]; exact a3, fun i i1 i2 => ?_, fun i i1 i2 => ?_, fun j i j1 j2 j3 j4 j5 => ?_, fun g hg => ?_, fun x j hx hj => ?_⟩, ⟨fun i => ?_, c1.2.imp_of_mem (fun {x y} hx hy z => ?_)⟩, fun x hx => ?_, fun i i1 i2 i3 => ?_⟩
  · rw [en] at i2
    rw [o0 i (by omega), o1 i (by omega)]
    by_cases e : i + 1 = v 12 1 + 1
    · rw [addI_0, if_pos e]
      have e' : i = v 12 1 := by omega
      rw [← e'] at h5
      omega
    · rw [o0 (i + 1) (by omega)]
      exact a4 i i1 (by omega)
  · rw [en] at i2
    unfold gItem
    rw [e0, k 2 i (by decide) (by decide) (by decide), k 3 i (by decide) (by decide) (by decide), k 4 i (by decide) (by decide) (by decide), k 5 i (by decide) (by decide) (by decide)]
    by_cases e : i = v 12 1 + 1
    · rw [addI_0, addI_1, if_pos e, if_pos e, e, a8 2 _ (by decide) (by omega), z3, a8 4 _ (by decide) (by omega), a8 5 _ (by decide) (by omega)]
      omega
    · rw [o0 i (by omega), o1 i (by omega)]
      exact a5 i i1 (by omega)
  · rw [en] at j3
    rw [k 3 j (by decide) (by decide) (by decide)] at j4
    rw [k 3 i (by decide) (by decide) (by decide)] at j5
    rw [k 4 i (by decide) (by decide) (by decide), k 4 j (by decide) (by decide) (by decide)]
    by_cases e : i = v 12 1 + 1
    · rw [e, a8 4 _ (by decide) (by omega)]
      omega
    · exact a6 j i j1 j2 (by omega) j4 j5
  · rw [e0] at hg
    have z := a7 g hg
    unfold gGate at z ⊢
    rw [k 6 g (by decide) (by decide) (by decide), k 7 g (by decide) (by decide) (by decide), k 8 g (by decide) (by decide) (by decide), k 9 g (by decide) (by decide) (by decide), k 10 g (by decide) (by decide) (by decide), k 11 g (by decide) (by decide) (by decide), ebn]
    exact z
  · rw [en] at hj
    have z := a8 x j hx (by omega)
    by_cases x0 : x = 0
    · subst x0
      rw [addI_0, if_neg (by omega)]
      exact z
    · by_cases x1 : x = 1
      · subst x1
        rw [addI_1, if_neg (by omega)]
        exact z
      · rw [k x j x0 x1 (by omega)]
        exact z
  · rw [en, k 3 i (by decide) (by decide) (by decide), c1.1 i]
    constructor
    · rintro ⟨z1, z2, z4⟩
      exact ⟨z1, by omega, z4⟩
    · rintro ⟨z1, z2, z4⟩
      refine ⟨z1, ?_, z4⟩
      have : i ≠ v 12 1 + 1 := fun e => z4 (by rw [e]; exact z3)
      omega
  · have x2 := ((c1.1 x).mp hx).2.1
    have y2 := ((c1.1 y).mp hy).2.1
    unfold ltk at z ⊢
    rw [otm x x2, otm y y2]
    exact z
  · rw [e2, otm x ((c1.1 x).mp hx).2.1]
    exact c2 x hx
  · rw [en] at i2
    rw [k 3 i (by decide) (by decide) (by decide)] at i3
    rw [e2, k 4 i (by decide) (by decide) (by decide)]
    unfold fr
    by_cases e : i = v 12 1 + 1
    · rw [addI_0, if_pos e]
      omega
    · rw [o0 i (by omega)]
      exact c3 i i1 (by omega) i3
theorem pItem_all {v v' : gV} {o : List Nat} {a l : Int64} {r : Int32} (h : gAll v o) (hp : pItem v a l r v') : gAll v' o := by
  rcases hp with ⟨-, -, rfl⟩ | ⟨-, -, -, rfl⟩ | ⟨-, hn, x, y, -, -, b1, b2, b3, b4, b5, -, rfl⟩
  · exact h
  · exact h
  · exact gAll_add h hn b1 b2 b3 b4 b5
/-! order -/
def pOrd (v : gV) (o : List Nat) (i b : Int32) (t : Int64) (r : Int32) (v' : gV) (o' : List Nat) : Prop := (¬ (isIt v i ∧ isBn v b) ∧ r = -101 ∧ v' = v ∧ o' = o) ∨ (isIt v i ∧ isBn v b ∧ ¬ okT v t ∧ r = -102 ∧ v' = v ∧ o' = o) ∨ ∃ (k g n : Nat) (v1 : gV), i = nI k ∧ 1 ≤ k ∧ k ≤ v 12 1 ∧ b = nI g ∧ g < v 12 0 ∧ t = lN n ∧ v 12 2 ≤ n ∧ n ≤ 1000000000 ∧ passed v o n v1 o' ∧ ((v1 3 k ≠ 0 ∧ r = 0 ∧ v' = v1) ∨ (v1 3 k = 0 ∧ v1 2 k ≠ 0 ∧ r = 2 ∧ v' = v1) ∨ (v1 3 k = 0 ∧ v1 2 k = 0 ∧ fr v1 k g < n + 200 ∧ r = 0 ∧ v' = up2 v1 5 k (n + 200 - fr v1 k g)) ∨ (v1 3 k = 0 ∧ v1 2 k = 0 ∧ ¬ fr v1 k g < n + 200 ∧ r = 1 ∧ v' = up2 v1 2 k (g + 1)))
theorem okT_n {v : gV} {n : Nat} (h1 : v 12 2 ≤ n) (h2 : n ≤ 1000000000) : okT v (lN n) := ⟨(lN_le (by omega) (by omega)).mpr h1, by rw [l9]; exact (lN_le (by omega) (by decide)).mpr h2⟩
theorem pOrd_one {v v1 v2 : gV} {o o1 o2 : List Nat} {i b : Int32} {t : Int64} {r1 r2 : Int32} (h : gAll v o) (h1 : pOrd v o i b t r1 v1 o1) (h2 : pOrd v o i b t r2 v2 o2) : r1 = r2 ∧ v1 = v2 ∧ o1 = o2 := by
  have hg := h.1.1
  have hn := h.1.2.1
  rcases h1 with ⟨a1, a2, a3, a4⟩ | ⟨a1, a2, a3, a4, a5, a6⟩ | ⟨k, g, n, u, a1, a2, a3, a4, a5, a6, a7, a8, a9, a10⟩ <;> rcases h2 with ⟨b1, b2, b3, b4⟩ | ⟨b1, b2, b3, b4, b5, b6⟩ | ⟨k2, g2, n2, w, b1, b2, b3, b4, b5, b6, b7, b8, b9, b10⟩
  · exact ⟨a2.trans b2.symm, a3.trans b3.symm, a4.trans b4.symm⟩
  · exact absurd ⟨b1, b2⟩ a1
  · exact absurd ⟨⟨k2, b1, b2, b3⟩, ⟨g2, b4, b5⟩⟩ a1
  · exact absurd ⟨a1, a2⟩ b1
  · exact ⟨a4.trans b4.symm, a5.trans b5.symm, a6.trans b6.symm⟩
  · exact absurd (by rw [b6]; exact okT_n b7 b8) a3
  · exact absurd ⟨⟨k, a1, a2, a3⟩, ⟨g, a4, a5⟩⟩ b1
  · exact absurd (by rw [a6]; exact okT_n a7 a8) b3
  · have e1 : k = k2 := nI_inj2 (by omega) (by omega) (a1.symm.trans b1)
    have e2 : g = g2 := nI_inj2 (by omega) (by omega) (a4.symm.trans b4)
    have e3 : n = n2 := lN_inj (by omega) (by omega) (a6.symm.trans b6)
    subst e1
    subst e2
    subst e3
    obtain ⟨e4, e5⟩ := passed_one h.1.2.2.2.2.2.1 a9 b9
    subst e4
    refine ⟨?_, ?_, e5⟩
    · rcases a10 with ⟨x1, x2, x3⟩ | ⟨x1, x2, x3, x4⟩ | ⟨x1, x2, x3, x4, x5⟩ | ⟨x1, x2, x3, x4, x5⟩ <;> rcases b10 with ⟨y1, y2, y3⟩ | ⟨y1, y2, y3, y4⟩ | ⟨y1, y2, y3, y4, y5⟩ | ⟨y1, y2, y3, y4, y5⟩ <;> first | (exfalso; omega) | (exact x2.trans y2.symm) | (exact x3.trans y3.symm) | (exact x4.trans y4.symm)
    · rcases a10 with ⟨x1, x2, x3⟩ | ⟨x1, x2, x3, x4⟩ | ⟨x1, x2, x3, x4, x5⟩ | ⟨x1, x2, x3, x4, x5⟩ <;> rcases b10 with ⟨y1, y2, y3⟩ | ⟨y1, y2, y3, y4⟩ | ⟨y1, y2, y3, y4, y5⟩ | ⟨y1, y2, y3, y4, y5⟩ <;> first | (exfalso; omega) | (exact x3.trans y3.symm) | (exact x4.trans y4.symm) | (exact x5.trans y5.symm)
theorem pOrd_all {v v' : gV} {o o' : List Nat} {i b : Int32} {t : Int64} {r : Int32} (h : gAll v o) (hp : pOrd v o i b t r v' o') : gAll v' o' := by
  rcases hp with ⟨-, -, rfl, rfl⟩ | ⟨-, -, -, -, rfl, rfl⟩ | ⟨k, g, n, u, a1, a2, a3, a4, a5, a6, a7, a8, a9, a10⟩
  · exact h
  · exact h
  · obtain ⟨p1, p2, p3, p4, p5, p6⟩ := passed_all h a7 a8 a9
    have G := p1.1
    rcases a10 with ⟨x1, x2, rfl⟩ | ⟨x1, x2, x3, rfl⟩ | ⟨x1, x2, x3, x4, rfl⟩ | ⟨x1, x2, x3, x4, rfl⟩
    · exact p1
    · exact p1
    · refine gAll_set p1 (fun a b n2 n5 n7 n9 n10 n12 => up2_k _ _ _ _ n5) (fun j j1 j2 => ?_) (fun j j1 j2 => ?_) (fun q hq => ?_) (fun q hq => ?_) (fun q hq => ?_) (fun j hj => ?_)
      · rw [up2_k _ _ _ _ (by decide)]
        exact (G.2.2.2.2.1 j j1 j2).2.2.2.1
      · by_cases e : j = k
        · subst e
          rw [up2_self]
          omega
        · rw [up2_i _ _ _ _ e]
          exact (G.2.2.2.2.1 j j1 j2).2.2.2.2.2.2
      · rw [up2_k _ _ _ _ (by decide)]
        exact (G.2.2.2.2.2.2.1 q hq).2.1
      · rw [up2_k _ _ _ _ (by decide)]
        have := G.2.2.2.2.2.2.1 q hq
        exact ⟨this.2.2.2.1, this.2.2.2.2.1⟩
      · rw [up2_k _ _ _ _ (by decide)]
        exact (G.2.2.2.2.2.2.1 q hq).2.2.2.2.2.1
      · rw [up2_k _ _ _ _ (by decide), up2_i _ _ _ _ (by omega)]
        exact ⟨G.2.2.2.2.2.2.2 2 j (by decide) hj, G.2.2.2.2.2.2.2 5 j (by decide) hj⟩
    · refine gAll_set p1 (fun a b n2 n5 n7 n9 n10 n12 => up2_k _ _ _ _ n2) (fun j j1 j2 => ?_) (fun j j1 j2 => ?_) (fun q hq => ?_) (fun q hq => ?_) (fun q hq => ?_) (fun j hj => ?_)
      · by_cases e : j = k
        · subst e
          rw [up2_self]
          omega
        · rw [up2_i _ _ _ _ e]
          exact (G.2.2.2.2.1 j j1 j2).2.2.2.1
      · rw [up2_k _ _ _ _ (by decide)]
        exact (G.2.2.2.2.1 j j1 j2).2.2.2.2.2.2
      · rw [up2_k _ _ _ _ (by decide)]
        exact (G.2.2.2.2.2.2.1 q hq).2.1
      · rw [up2_k _ _ _ _ (by decide)]
        have := G.2.2.2.2.2.2.1 q hq
        exact ⟨this.2.2.2.1, this.2.2.2.2.1⟩
      · rw [up2_k _ _ _ _ (by decide)]
        exact (G.2.2.2.2.2.2.1 q hq).2.2.2.2.2.1
      · rw [up2_i _ _ _ _ (show j ≠ k by omega), up2_k _ _ _ _ (by decide)]
        exact ⟨G.2.2.2.2.2.2.2 2 j (by decide) hj, G.2.2.2.2.2.2.2 5 j (by decide) hj⟩
/-! step -/
def pStep (v : gV) (o : List Nat) (t : Int64) (r : Int32) (v' : gV) (o' : List Nat) : Prop := (¬ okT v t ∧ r = -102 ∧ v' = v ∧ o' = o) ∨ ∃ (n : Nat) (v1 : gV), t = lN n ∧ v 12 2 ≤ n ∧ n ≤ 1000000000 ∧ passed v o n v1 o' ∧ r = nI o'.length - nI (v1 12 3) ∧ v' = up2 v1 12 3 o'.length
theorem pStep_one {v v1 v2 : gV} {o o1 o2 : List Nat} {t : Int64} {r1 r2 : Int32} (h : gAll v o) (h1 : pStep v o t r1 v1 o1) (h2 : pStep v o t r2 v2 o2) : r1 = r2 ∧ v1 = v2 ∧ o1 = o2 := by
  rcases h1 with ⟨a1, a2, a3, a4⟩ | ⟨n, u, a1, a2, a3, a4, a5, a6⟩ <;> rcases h2 with ⟨b1, b2, b3, b4⟩ | ⟨n2, w, b1, b2, b3, b4, b5, b6⟩
  · exact ⟨a2.trans b2.symm, a3.trans b3.symm, a4.trans b4.symm⟩
  · exact absurd (by rw [b1]; exact okT_n b2 b3) a1
  · exact absurd (by rw [a1]; exact okT_n a2 a3) b1
  · have e3 : n = n2 := lN_inj (by omega) (by omega) (a1.symm.trans b1)
    subst e3
    obtain ⟨e4, e5⟩ := passed_one h.1.2.2.2.2.2.1 a4 b4
    subst e4
    subst e5
    exact ⟨a5.trans b5.symm, a6.trans b6.symm, rfl⟩
theorem pStep_all {v v' : gV} {o o' : List Nat} {t : Int64} {r : Int32} (h : gAll v o) (hp : pStep v o t r v' o') : gAll v' o' := by
  rcases hp with ⟨-, -, rfl, rfl⟩ | ⟨n, u, a1, a2, a3, a4, a5, rfl⟩
  · exact h
  · obtain ⟨p1, p2, p3, p4, p5, p6⟩ := passed_all h a2 a3 a4
    have G := p1.1
    refine gAll_set p1 (fun a b n2 n5 n7 n9 n10 n12 => ?_) (fun j j1 j2 => ?_) (fun j j1 j2 => ?_) (fun q hq => ?_) (fun q hq => ?_) (fun q hq => ?_) (fun j hj => ?_)
    · by_cases e : a = 12
      · exact up2_i _ _ _ _ (n12 e)
      · exact up2_k _ _ _ _ e
    · rw [up2_k _ _ _ _ (by decide)]
      exact (G.2.2.2.2.1 j j1 j2).2.2.2.1
    · rw [up2_k _ _ _ _ (by decide)]
      exact (G.2.2.2.2.1 j j1 j2).2.2.2.2.2.2
    · rw [up2_k _ _ _ _ (by decide)]
      exact (G.2.2.2.2.2.2.1 q hq).2.1
    · rw [up2_k _ _ _ _ (by decide)]
      have := G.2.2.2.2.2.2.1 q hq
      exact ⟨this.2.2.2.1, this.2.2.2.2.1⟩
    · rw [up2_k _ _ _ _ (by decide)]
      exact (G.2.2.2.2.2.2.1 q hq).2.2.2.2.2.1
    · rw [up2_k _ _ _ _ (by decide), up2_k _ _ _ _ (by decide)]
      exact ⟨G.2.2.2.2.2.2.2 2 j (by decide) hj, G.2.2.2.2.2.2.2 5 j (by decide) hj⟩
/-! height, swap, stuck: one number of a gate; late, count, out, verify: nothing changes -/
def pHei (v : gV) (b n : Int32) (r : Int32) (v' : gV) : Prop := (¬ isBn v b ∧ r = -101 ∧ v' = v) ∨ (isBn v b ∧ ¬ (1 ≤ n ∧ n ≤ 1000) ∧ r = -102 ∧ v' = v) ∨ ∃ g k, b = nI g ∧ g < v 12 0 ∧ n = nI k ∧ 1 ≤ k ∧ k ≤ 1000 ∧ r = nI (v 9 g) ∧ v' = up2 v 9 g k
def pSwp (v : gV) (b : Int32) (r : Int32) (v' : gV) : Prop := (¬ isBn v b ∧ r = -101 ∧ v' = v) ∨ ∃ g, b = nI g ∧ g < v 12 0 ∧ r = nI (v 10 g) ∧ v' = up2 v 10 g 0
def pStk (v : gV) (b : Int32) (on : Nat) (r : Int32) (v' : gV) : Prop := (¬ isBn v b ∧ r = -101 ∧ v' = v) ∨ ∃ g, b = nI g ∧ g < v 12 0 ∧ r = (if v 7 g = on then 0 else 1) ∧ v' = up2 v 7 g on
theorem nk_in {n : Int32} {k : Nat} (h : n = nI k) (h1 : 1 ≤ k) (h2 : k ≤ 1000) : 1 ≤ n ∧ n ≤ 1000 := by
  subst h
  exact ⟨nI_le (a := 1) h1 (by omega), nI_le (b := 1000) h2 (by decide)⟩
theorem pHei_one {v v1 v2 : gV} {b n r1 r2 : Int32} (hg : v 12 0 ≤ 12) (h1 : pHei v b n r1 v1) (h2 : pHei v b n r2 v2) : r1 = r2 ∧ v1 = v2 := by
  rcases h1 with ⟨a1, a2, a3⟩ | ⟨a1, a2, a3, a4⟩ | ⟨g, k, a1, a2, a3, a4, a5, a6, a7⟩ <;> rcases h2 with ⟨b1, b2, b3⟩ | ⟨b1, b2, b3, b4⟩ | ⟨g2, k2, b1, b2, b3, b4, b5, b6, b7⟩
  · exact ⟨a2.trans b2.symm, a3.trans b3.symm⟩
  · exact absurd b1 a1
  · exact absurd ⟨g2, b1, b2⟩ a1
  · exact absurd a1 b1
  · exact ⟨a3.trans b3.symm, a4.trans b4.symm⟩
  · exact absurd (nk_in b3 b4 b5) a2
  · exact absurd ⟨g, a1, a2⟩ b1
  · exact absurd (nk_in a3 a4 a5) b2
  · have e1 : g = g2 := nI_inj2 (by omega) (by omega) (a1.symm.trans b1)
    have e2 : k = k2 := nI_inj2 (by omega) (by omega) (a3.symm.trans b3)
    subst e1
    subst e2
    exact ⟨a6.trans b6.symm, a7.trans b7.symm⟩
theorem pSwp_one {v v1 v2 : gV} {b r1 r2 : Int32} (hg : v 12 0 ≤ 12) (h1 : pSwp v b r1 v1) (h2 : pSwp v b r2 v2) : r1 = r2 ∧ v1 = v2 := by
  rcases h1 with ⟨a1, a2, a3⟩ | ⟨g, a1, a2, a3, a4⟩ <;> rcases h2 with ⟨b1, b2, b3⟩ | ⟨g2, b1, b2, b3, b4⟩
  · exact ⟨a2.trans b2.symm, a3.trans b3.symm⟩
  · exact absurd ⟨g2, b1, b2⟩ a1
  · exact absurd ⟨g, a1, a2⟩ b1
  · have e1 : g = g2 := nI_inj2 (by omega) (by omega) (a1.symm.trans b1)
    subst e1
    exact ⟨a3.trans b3.symm, a4.trans b4.symm⟩
theorem pStk_one {v v1 v2 : gV} {b r1 r2 : Int32} {on : Nat} (hg : v 12 0 ≤ 12) (h1 : pStk v b on r1 v1) (h2 : pStk v b on r2 v2) : r1 = r2 ∧ v1 = v2 := by
  rcases h1 with ⟨a1, a2, a3⟩ | ⟨g, a1, a2, a3, a4⟩ <;> rcases h2 with ⟨b1, b2, b3⟩ | ⟨g2, b1, b2, b3, b4⟩
  · exact ⟨a2.trans b2.symm, a3.trans b3.symm⟩
  · exact absurd ⟨g2, b1, b2⟩ a1
  · exact absurd ⟨g, a1, a2⟩ b1
  · have e1 : g = g2 := nI_inj2 (by omega) (by omega) (a1.symm.trans b1)
    subst e1
    exact ⟨a3.trans b3.symm, a4.trans b4.symm⟩
theorem gAll_gate {v : gV} {o : List Nat} {c g k : Nat} (h : gAll v o) (hc : (c = 7 ∧ k ≤ 1) ∨ (c = 9 ∧ 1 ≤ k ∧ k ≤ 1000) ∨ (c = 10 ∧ k = 0)) : gAll (up2 v c g k) o := by
  have G := h.1
  refine gAll_set h (fun a b n2 n5 n7 n9 n10 n12 => up2_k _ _ _ _ (by omega)) (fun j j1 j2 => ?_) (fun j j1 j2 => ?_) (fun q hq => ?_) (fun q hq => ?_) (fun q hq => ?_) (fun j hj => ?_)
  · rw [up2_k _ _ _ _ (by omega)]
    exact (G.2.2.2.2.1 j j1 j2).2.2.2.1
  · rw [up2_k _ _ _ _ (by omega)]
    exact (G.2.2.2.2.1 j j1 j2).2.2.2.2.2.2
  · have z := (G.2.2.2.2.2.2.1 q hq).2.1
    unfold up2
    split <;> omega
  · have z := G.2.2.2.2.2.2.1 q hq
    unfold gGate at z
    unfold up2
    split <;> omega
  · have z := (G.2.2.2.2.2.2.1 q hq).2.2.2.2.2.1
    unfold up2
    split <;> omega
  · rw [up2_k _ _ _ _ (by omega), up2_k _ _ _ _ (by omega)]
    exact ⟨G.2.2.2.2.2.2.2 2 j (by decide) hj, G.2.2.2.2.2.2.2 5 j (by decide) hj⟩
theorem pHei_all {v v' : gV} {o : List Nat} {b n r : Int32} (h : gAll v o) (hp : pHei v b n r v') : gAll v' o := by
  rcases hp with ⟨-, -, rfl⟩ | ⟨-, -, -, rfl⟩ | ⟨g, k, -, -, -, h1, h2, -, rfl⟩
  · exact h
  · exact h
  · exact gAll_gate h (by omega)
theorem pSwp_all {v v' : gV} {o : List Nat} {b r : Int32} (h : gAll v o) (hp : pSwp v b r v') : gAll v' o := by
  rcases hp with ⟨-, -, rfl⟩ | ⟨g, -, -, -, rfl⟩
  · exact h
  · exact gAll_gate h (by omega)
theorem pStk_all {v v' : gV} {o : List Nat} {b r : Int32} {on : Nat} (h : gAll v o) (ho : on ≤ 1) (hp : pStk v b on r v') : gAll v' o := by
  rcases hp with ⟨-, -, rfl⟩ | ⟨g, -, -, -, rfl⟩
  · exact h
  · exact gAll_gate h (by omega)
def pLat (v : gV) (i r : Int32) : Prop := (¬ isIt v i ∧ r = -101) ∨ ∃ k, i = nI k ∧ 1 ≤ k ∧ k ≤ v 12 1 ∧ r = nI (v 5 k)
def pCnt (v : gV) (b r : Int32) : Prop := (¬ (∃ g, b = nI g ∧ g ≤ v 12 0) ∧ r = -101) ∨ ∃ g, b = nI g ∧ g ≤ v 12 0 ∧ r = nI (v 11 g)
theorem pLat_one {v : gV} {i r1 r2 : Int32} (hn : v 12 1 ≤ 400) (h1 : pLat v i r1) (h2 : pLat v i r2) : r1 = r2 := by
  rcases h1 with ⟨a1, a2⟩ | ⟨k, a1, a2, a3, a4⟩ <;> rcases h2 with ⟨b1, b2⟩ | ⟨k2, b1, b2, b3, b4⟩
  · exact a2.trans b2.symm
  · exact absurd ⟨k2, b1, b2, b3⟩ a1
  · exact absurd ⟨k, a1, a2, a3⟩ b1
  · have e1 : k = k2 := nI_inj2 (by omega) (by omega) (a1.symm.trans b1)
    subst e1
    exact a4.trans b4.symm
theorem pCnt_one {v : gV} {i r1 r2 : Int32} (hn : v 12 0 ≤ 12) (h1 : pCnt v i r1) (h2 : pCnt v i r2) : r1 = r2 := by
  rcases h1 with ⟨a1, a2⟩ | ⟨k, a1, a3, a4⟩ <;> rcases h2 with ⟨b1, b2⟩ | ⟨k2, b1, b3, b4⟩
  · exact a2.trans b2.symm
  · exact absurd ⟨k2, b1, b3⟩ a1
  · exact absurd ⟨k, a1, a3⟩ b1
  · have e1 : k = k2 := nI_inj2 (by omega) (by omega) (a1.symm.trans b1)
    subst e1
    exact a4.trans b4.symm
/-- what is asked of an item: itself, and two numbers more -/
def pPick (l : List Nat) (f g : Nat → Int32) (i w r : Int32) : Prop := (¬ (∃ k, i = nI k ∧ k < l.length) ∧ r = -1) ∨ ∃ k, i = nI k ∧ k < l.length ∧ r = (if w = 0 then nI (oat l k) else if w = 1 then f (oat l k) else if w = 2 then g (oat l k) else -1)
theorem pPick_one {l : List Nat} {f g : Nat → Int32} {i w r1 r2 : Int32} (hl : l.length ≤ 400) (h1 : pPick l f g i w r1) (h2 : pPick l f g i w r2) : r1 = r2 := by
  rcases h1 with ⟨a1, a2⟩ | ⟨k, a1, a3, a4⟩ <;> rcases h2 with ⟨b1, b2⟩ | ⟨k2, b1, b3, b4⟩
  · exact a2.trans b2.symm
  · exact absurd ⟨k2, b1, b3⟩ a1
  · exact absurd ⟨k, a1, a3⟩ b1
  · have e1 : k = k2 := nI_inj2 (by omega) (by omega) (a1.symm.trans b1)
    subst e1
    exact a4.trans b4.symm
def pOut (v : gV) (o : List Nat) (i w r : Int32) : Prop := pPick o (fun j => eN (v 3 j)) (fun j => nI (tm v j)) i w r
def pVer (v : gV) (o : List Nat) (i w r : Int32) : Prop := pPick (o.filter (wr v)) (fun j => eN (v 2 j)) (fun j => eN (v 3 j)) i w r
