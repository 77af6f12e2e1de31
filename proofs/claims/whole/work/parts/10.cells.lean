/-! WHAT LIES IN THE CELLS. cs k: the classes of arrays: 0 int, 1 long, 2 boolean, 3 Gate, 4 Line, 5 Item -/
def xtys (cs : Nat → ClassId) : List (ClassId × FieldType) := [(cs 0, .int), (cs 1, .long), (cs 2, .boolean), (cs 3, .object "GateTimes$Gate"), (cs 4, .object "GateTimes$Line"), (cs 5, .object "GateTimes$Item")]
/-- a reference to item j, none at 0 -/
def rI (x : gV) (j : Nat) : Option Nat := if j = 0 then none else some (x 3 j)
theorem rI_0 (x : gV) : rI x 0 = none := rfl
theorem rI_s (x : gV) {j : Nat} (h : 1 ≤ j) : rI x j = some (x 3 j) := if_neg (by omega)
abbrev aQ (c : ClassId) (n : Nat) (f : Nat → Option Nat) : va_E := .inl (c, n, .inr (.inr (.inr (.inr f))))
abbrev aI (c : ClassId) (n : Nat) (f : Nat → Int32) : va_E := .inl (c, n, .inl f)
abbrev aL (c : ClassId) (n : Nat) (f : Nat → Int64) : va_E := .inl (c, n, .inr (.inl f))
def cHead (x v : gV) : va_E := .inr (kGT, [.ref (x 0 1), .ref (x 0 2), .ref (x 0 3), .ref (x 0 4), .ref (x 0 6), .ref (x 0 8), .int (nI (v 12 3)), .long (lN (v 12 2))])
def cGate (v : gV) (g : Nat) : va_E := .inr (kGate, [.int (nI (v 6 g)), .int (nI (v 7 g)), .int (nI (v 9 g)), .int (nI (v 10 g)), .long (lN (v 8 g))])
def cLine (x P : gV) (p : Nat) : va_E := .inr (kLine, [va_rf (rI x (P 0 p)), va_rf (rI x (P 1 p))])
def cItem (x v P : gV) (i : Nat) : va_E := .inr (kItem, [.int (nI i), .long (lN (v 0 i)), .long (lN (v 1 i)), .int (eN (v 2 i)), .int (eN (v 3 i)), .int (nI (v 5 i)), va_rf (rI x (P 2 i))])
def cRow (a n : Nat) : va_E := .inr (kRow, [.ref a, .int (nI n)])
def cel (cs : Nat → ClassId) (x v P : gV) (o w : List Nat) (a b : Nat) : va_E := match a with
  | 0 => (match b with
    | 0 => cHead x v
    | 1 => aQ (cs 3) (v 12 0) (fun g => if g < v 12 0 then some (x 1 g) else none)
    | 2 => aQ (cs 4) (v 12 0 + 1) (fun p => if p ≤ v 12 0 then some (x 2 p) else none)
    | 3 => aI (cs 0) (v 12 0 + 1) (fun p => nI (v 11 p))
    | 4 => cRow (x 0 5) (v 12 1)
    | 5 => aQ (cs 5) 400 (fun k => if k < v 12 1 then some (x 3 (k + 1)) else none)
    | 6 => cRow (x 0 7) o.length
    | 7 => aQ (cs 5) 400 (fun k => if k < o.length then some (x 3 (oat o k)) else none)
    | 8 => cRow (x 0 9) w.length
    | _ => aQ (cs 5) 400 (fun k => if k < w.length then some (x 3 (oat w k)) else none))
  | 1 => cGate v b
  | 2 => cLine x P b
  | _ => cItem x v P b
/-- which cells there are -/
def vd (v : gV) (a b : Nat) : Prop := (a = 0 ∧ b < 10) ∨ (a = 1 ∧ b < v 12 0) ∨ (a = 2 ∧ b ≤ v 12 0) ∨ (a = 3 ∧ 1 ≤ b ∧ b ≤ v 12 1)
def cR (cs : Nat → ClassId) (M : xM) (x v P : gV) (o w : List Nat) : Prop := (∀ a b, vd v a b → M (x a b) = some (cel cs x v P o w a b)) ∧ ∀ a b c d, vd v a b → vd v c d → x a b = x c d → a = c ∧ b = d
theorem cR_upd {cs : Nat → ClassId} {M M1 : xM} {x v P v' P' : gV} {o w o' w' : List Nat} {a b : Nat} (h : cR cs M x v P o w) (hab : vd v a b) (hn : v' 12 0 = v 12 0 ∧ v' 12 1 = v 12 1) (hM : M1 = va_up M (x a b) (some (cel cs x v' P' o' w' a b))) (hc : ∀ c d, vd v c d → ¬ (c = a ∧ d = b) → cel cs x v' P' o' w' c d = cel cs x v P o w c d) : cR cs M1 x v' P' o' w' := by
  have hv : ∀ c d, vd v' c d → vd v c d := fun c d z => by
    unfold vd at z ⊢
    rw [hn.1, hn.2] at z
    exact z
  refine ⟨fun c d hcd => ?_, fun a b c d h1 h2 e => h.2 a b c d (hv _ _ h1) (hv _ _ h2) e⟩
  have hcd := hv c d hcd
  by_cases e : c = a ∧ d = b
  · obtain ⟨rfl, rfl⟩ := e
    rw [hM, va_up_self]
  · rw [hM, va_up_ne _ _ (fun z => e (h.2 c d a b hcd hab z)), h.1 c d hcd, hc c d hcd e]
theorem cR_same {cs : Nat → ClassId} {M : xM} {x v P v' P' : gV} {o w o' w' : List Nat} (h : cR cs M x v P o w) (hn : v' 12 0 = v 12 0 ∧ v' 12 1 = v 12 1) (hc : ∀ c d, vd v c d → cel cs x v' P' o' w' c d = cel cs x v P o w c d) : cR cs M x v' P' o' w' := by
  have hv : ∀ c d, vd v' c d → vd v c d := fun c d z => by
    unfold vd at z ⊢
    rw [hn.1, hn.2] at z
    exact z
  refine ⟨fun c d hcd => ?_, fun a b c d h1 h2 e => h.2 a b c d (hv _ _ h1) (hv _ _ h2) e⟩
  rw [hc c d (hv c d hcd)]
  exact h.1 c d (hv c d hcd)
/-- cells that are alike -/
theorem cel_eq {cs : Nat → ClassId} {x v P v' P' : gV} {o w o' w' : List Nat} (c d : Nat) (h0 : c = 0 → v' 12 0 = v 12 0 ∧ v' 12 1 = v 12 1 ∧ (d = 0 → v' 12 3 = v 12 3 ∧ v' 12 2 = v 12 2) ∧ (d = 3 → ∀ p, v' 11 p = v 11 p) ∧ (d = 6 ∨ d = 7 → o' = o) ∧ (d ≠ 0 → d ≠ 1 → d ≠ 2 → d ≠ 3 → d ≠ 4 → d ≠ 5 → d ≠ 6 → d ≠ 7 → w' = w)) (h1 : c = 1 → v' 6 d = v 6 d ∧ v' 7 d = v 7 d ∧ v' 8 d = v 8 d ∧ v' 9 d = v 9 d ∧ v' 10 d = v 10 d) (h2 : c = 2 → P' 0 d = P 0 d ∧ P' 1 d = P 1 d) (h3 : c ≠ 0 → c ≠ 1 → c ≠ 2 → v' 0 d = v 0 d ∧ v' 1 d = v 1 d ∧ v' 2 d = v 2 d ∧ v' 3 d = v 3 d ∧ v' 5 d = v 5 d ∧ P' 2 d = P 2 d) : cel cs x v' P' o' w' c d = cel cs x v P o w c d := by
  match c with
  | 0 =>
    obtain ⟨a1, a2, a3, a4, a5, a6⟩ := h0 rfl
    match d with
    | 0 => obtain ⟨b1, b2⟩ := a3 rfl; simp only [cel, cHead, b1, b2]
    | 1 => simp only [cel, a1]
    | 2 => simp only [cel, a1]
    | 3 => simp only [cel, a1, a4 rfl]
    | 4 => simp only [cel, a2]
    | 5 => simp only [cel, a2]
    | 6 => simp only [cel, a5 (Or.inl rfl)]
    | 7 => simp only [cel, a5 (Or.inr rfl)]
    | 8 => simp only [cel, a6 (by decide) (by decide) (by decide) (by decide) (by decide) (by decide) (by decide) (by decide)]
    | d + 9 => simp only [cel, a6 (by omega) (by omega) (by omega) (by omega) (by omega) (by omega) (by omega) (by omega)]
  | 1 =>
    obtain ⟨a1, a2, a3, a4, a5⟩ := h1 rfl
    simp only [cel, cGate, a1, a2, a3, a4, a5]
  | 2 =>
    obtain ⟨a1, a2⟩ := h2 rfl
    simp only [cel, cLine, a1, a2]
  | c + 3 =>
    obtain ⟨a1, a2, a3, a4, a5, a6⟩ := h3 (by omega) (by omega) (by omega)
    simp only [cel, cItem, a1, a2, a3, a4, a5, a6]
/-! the reference: the object at m0, its arrays behind it -/
def mHead (m0 : Nat) (v : gV) (o : List Nat) : va_E := .inr (kMo, [.int 0, .int (nI (v 12 0)), .int (nI (v 12 1)), .ref (m0 + 1), .ref (m0 + 2), .ref (m0 + 3), .ref (m0 + 4), .ref (m0 + 5), .ref (m0 + 6), .ref (m0 + 7), .ref (m0 + 8), .ref (m0 + 9), .ref (m0 + 10), .ref (m0 + 11), .ref (m0 + 12), .ref (m0 + 13), .ref (m0 + 14), .long (lN (v 12 2)), .int (nI o.length), .ref (m0 + 15), .int (nI (v 12 3))])
def mel (cs : Nat → ClassId) (m0 : Nat) (v : gV) (o : List Nat) (k : Nat) : va_E := match k with
  | 0 => mHead m0 v o
  | 1 => aL (cs 1) 401 (fun j => lN (v 0 j))
  | 2 => aL (cs 1) 401 (fun j => lN (v 1 j))
  | 3 => aI (cs 0) 401 (fun j => if j = 0 ∨ v 12 1 < j then 0 else eN (v 2 j))
  | 4 => aI (cs 0) 401 (fun j => nI (v 4 j))
  | 5 => aI (cs 0) 401 (fun j => if j = 0 ∨ v 12 1 < j then 0 else eN (v 3 j))
  | 6 => aI (cs 0) 401 (fun j => nI (v 5 j))
  | 7 => aL (cs 1) 401 (fun j => if v 3 j = 0 then 0 else lN (tm v j))
  | 8 => aI (cs 2) 13 (fun g => nI (v 6 g))
  | 9 => aI (cs 2) 13 (fun g => nI (v 7 g))
  | 10 => aI (cs 2) 13 (fun g => if v 8 g = 0 then 0 else 1)
  | 11 => aL (cs 1) 13 (fun g => lN (v 8 g - 200))
  | 12 => aI (cs 0) 13 (fun g => nI (v 9 g))
  | 13 => aI (cs 0) 13 (fun g => nI (v 10 g))
  | 14 => aI (cs 0) 13 (fun g => nI (v 11 g))
  | _ => aI (cs 0) 400 (fun k => nI (oat o k))
def mR (cs : Nat → ClassId) (M : xM) (m0 : Nat) (v : gV) (o : List Nat) : Prop := ∀ k, k < 16 → M (m0 + k) = some (mel cs m0 v o k)
