section XLC
variable {p : Program} {l : Launch} {e : Env} {R : Room} {s : State} {m : MethodId} {args : Array Value} {below : List Frame} {meth : Method} {c : Code} {Q : State → Prop} {D : va_G} {cl : List vw_C} {A : Nat → Prop} {H0 : Heap}
theorem x_loopC {σ : Type} (μ cf sf : σ → Nat) (I : σ → Prop) (Mf : σ → xM) (lf : σ → List (Nat × Value)) {nL pcH : Nat} (body : ∀ z, I z → (∀ z', I z' → μ z' < μ z → ∀ (H1 : Heap) (locs1 : List Loc) (ls1 : Array Slot), xw A D cl (Mf z') H0 H1 locs1 → lv_has ls1 nL (lf z') → W p l e R s m args below meth c H1 locs1 (cf z') (sf z') Q (F0 m pcH ls1 [])) → ∀ (H1 : Heap) (locs1 : List Loc) (ls1 : Array Slot), xw A D cl (Mf z) H0 H1 locs1 → lv_has ls1 nL (lf z) → W p l e R s m args below meth c H1 locs1 (cf z) (sf z) Q (F0 m pcH ls1 [])) : ∀ z, I z → ∀ (H1 : Heap) (locs1 : List Loc) (ls1 : Array Slot), xw A D cl (Mf z) H0 H1 locs1 → lv_has ls1 nL (lf z) → W p l e R s m args below meth c H1 locs1 (cf z) (sf z) Q (F0 m pcH ls1 []) := by
  have key : ∀ (n : Nat) (z : σ), μ z < n → I z → ∀ (H1 : Heap) (locs1 : List Loc) (ls1 : Array Slot), xw A D cl (Mf z) H0 H1 locs1 → lv_has ls1 nL (lf z) → W p l e R s m args below meth c H1 locs1 (cf z) (sf z) Q (F0 m pcH ls1 []) := by
    intro n
    induction n with
    | zero => exact fun z h => absurd h (Nat.not_lt_zero _)
    | succ n ih => exact fun z h hI => body z hI (fun z' hI' hlt => ih z' (Nat.lt_of_lt_of_le hlt (Nat.le_of_lt_succ h)) hI')
  exact fun z hI => key (μ z + 1) z (Nat.lt_succ_self _) hI
end XLC
/-- the cells that are made so far, by their keys -/
def bR (M : xM) (L : List Nat) (ad : Nat → Nat) (E : Nat → va_E) : Prop := (∀ b, b ∈ L → M (ad b) = some (E b)) ∧ ∀ b c, b ∈ L → c ∈ L → ad b = ad c → b = c
theorem bR_add {M M1 : xM} {L : List Nat} {ad : Nat → Nat} {E : Nat → va_E} {q : Nat} {e : va_E} (k : Nat) (h : bR M L ad E) (hk : k ∉ L) (hq : M q = none) (hM : M1 = va_up M q (some e)) : bR M1 (k :: L) (va_up ad k q) (va_up E k e) := by
  have hne : ∀ b, b ∈ L → ad b ≠ q := fun b hb z => by
    have := h.1 b hb
    rw [z, hq] at this
    cases this
  have hkb : ∀ b, b ∈ L → b ≠ k := fun b hb z => hk (z ▸ hb)
  refine ⟨fun b hb => ?_, fun b c hb hc hbc => ?_⟩
  · rcases List.mem_cons.mp hb with rfl | hb
    · rw [va_up_self, va_up_self, hM, va_up_self]
    · rw [va_up_ne _ _ (hkb b hb), va_up_ne _ _ (hkb b hb), hM, va_up_ne _ _ (hne b hb)]
      exact h.1 b hb
  · rcases List.mem_cons.mp hb with eb | hb2 <;> rcases List.mem_cons.mp hc with ec | hc2
    · exact eb.trans ec.symm
    · rw [eb, va_up_self, va_up_ne _ _ (hkb c hc2)] at hbc
      exact absurd hbc.symm (hne c hc2)
    · rw [ec, va_up_self, va_up_ne _ _ (hkb b hb2)] at hbc
      exact absurd hbc (hne b hb2)
    · rw [va_up_ne _ _ (hkb b hb2), va_up_ne _ _ (hkb c hc2)] at hbc
      exact h.2 b c hb2 hc2 hbc
theorem bR_set {M M1 : xM} {L : List Nat} {ad : Nat → Nat} {E : Nat → va_E} {e : va_E} (k : Nat) (h : bR M L ad E) (hk : k ∈ L) (hM : M1 = va_up M (ad k) (some e)) : bR M1 L ad (va_up E k e) := by
  refine ⟨fun b hb => ?_, h.2⟩
  by_cases z : b = k
  · subst z
    rw [va_up_self, hM, va_up_self]
  · rw [va_up_ne _ _ z, hM, va_up_ne _ _ (fun y => z (h.2 b k hb hk y))]
    exact h.1 b hb
/-! the class's cells as its constructor makes them: kg gates, kl lines -/
def vp2 (kg kl a b : Nat) : Prop := (a = 0 ∧ b < 10) ∨ (a = 1 ∧ b < kg) ∨ (a = 2 ∧ b < kl)
def pcel (cs : Nat → ClassId) (x : gV) (G kg kl a b : Nat) : va_E := match a with
  | 0 => (match b with
    | 0 => .inr (kGT, [.ref (x 0 1), .ref (x 0 2), .ref (x 0 3), .ref (x 0 4), .ref (x 0 6), .ref (x 0 8), .int 0, .long 0])
    | 1 => aQ (cs 3) G (fun g => if g < kg then some (x 1 g) else none)
    | 2 => aQ (cs 4) (G + 1) (fun p => if p < kl then some (x 2 p) else none)
    | 3 => aI (cs 0) (G + 1) (fun _ => 0)
    | 4 => cRow (x 0 5) 0
    | 5 => aQ (cs 5) 400 (fun _ => none)
    | 6 => cRow (x 0 7) 0
    | 7 => aQ (cs 5) 400 (fun _ => none)
    | 8 => cRow (x 0 9) 0
    | _ => aQ (cs 5) 400 (fun _ => none))
  | 1 => .inr (kGate, [.int 0, .int 0, .int 1000, .int 0, .long 0])
  | _ => .inr (kLine, [.null, .null])
def pR (cs : Nat → ClassId) (M : xM) (x : gV) (G kg kl : Nat) : Prop := (∀ a b, vp2 kg kl a b → M (x a b) = some (pcel cs x G kg kl a b)) ∧ ∀ a b c d, vp2 kg kl a b → vp2 kg kl c d → x a b = x c d → a = c ∧ b = d
theorem pR_gate {cs : Nat → ClassId} {M M1 : xM} {x : gV} {G k q : Nat} (h : pR cs M x G k 0) (hq : M q = none) (hM : M1 = va_up (va_up M q (some (.inr (kGate, [.int 0, .int 0, .int 1000, .int 0, .long 0])))) (x 0 1) (some (aQ (cs 3) G (va_up (fun g => if g < k then some (x 1 g) else none) k (some q))))) : pR cs M1 (up2 x 1 k q) G (k + 1) 0 := by
  have hqn : ∀ c d, vp2 k 0 c d → x c d ≠ q := fun c d z e => by
    have := h.1 c d z
    rw [e, hq] at this
    cases this
  have hv : ∀ c d, vp2 (k + 1) 0 c d → vp2 k 0 c d ∨ (c = 1 ∧ d = k) := fun c d z => by
    unfold vp2 at z ⊢
    omega
  have hx : ∀ c d, vp2 k 0 c d → up2 x 1 k q c d = x c d := fun c d z => by
    unfold vp2 at z
    unfold up2
    rw [if_neg (by omega)]
  have hx0 : ∀ b, up2 x 1 k q 0 b = x 0 b := fun b => up2_k _ _ _ _ (by decide)
  have hf : va_up (fun g => if g < k then some (x 1 g) else none) k (some q) = fun g => if g < k + 1 then some (up2 x 1 k q 1 g) else none := by
    funext g
    by_cases e : g = k
    · subst e
      rw [va_up_self, if_pos (by omega), up2_self]
    · rw [va_up_ne _ _ e, up2_i _ _ _ _ e]
      by_cases z : g < k
      · rw [if_pos z, if_pos (by omega)]
      · rw [if_neg z, if_neg (by omega)]
  have h01 : vp2 k 0 0 1 := Or.inl ⟨rfl, by decide⟩
  refine ⟨fun c d hcd => ?_, fun c d c' d' h1 h2 e => ?_⟩
  · rcases hv c d hcd with z | ⟨rfl, rfl⟩
    · rw [hx c d z, hM, hf]
      by_cases e1 : c = 0 ∧ d = 1
      · obtain ⟨rfl, rfl⟩ := e1
        rw [va_up_self]
        rfl
      · rw [va_up_ne _ _ (fun y => e1 (h.2 c d 0 1 z h01 y)), va_up_ne _ _ (hqn c d z), h.1 c d z]
        congr 1
        unfold vp2 at z
        match c with
        | 0 =>
          match d with
          | 0 => simp only [pcel, hx0]
          | 1 => exact absurd ⟨rfl, rfl⟩ e1
          | 2 => simp only [pcel, Nat.not_lt_zero, if_false]
          | 3 => rfl
          | 4 => simp only [pcel, hx0]
          | 5 => rfl
          | 6 => simp only [pcel, hx0]
          | 7 => rfl
          | 8 => simp only [pcel, hx0]
          | d + 9 => rfl
        | 1 => rfl
        | c + 2 => rfl
    · rw [up2_self, hM, va_up_ne _ _ (fun y => hqn 0 1 h01 y.symm), va_up_self]
      rfl
  · rcases hv c d h1 with z | ⟨rfl, rfl⟩ <;> rcases hv c' d' h2 with y | ⟨rfl, rfl⟩
    · rw [hx c d z, hx c' d' y] at e
      exact h.2 c d c' d' z y e
    · rw [hx c d z, up2_self] at e
      exact absurd e (hqn c d z)
    · rw [hx c' d' y, up2_self] at e
      exact absurd e.symm (hqn c' d' y)
    · exact ⟨rfl, rfl⟩
theorem pR_line {cs : Nat → ClassId} {M M1 : xM} {x : gV} {G k q : Nat} (h : pR cs M x G G k) (hq : M q = none) (hM : M1 = va_up (va_up M q (some (.inr (kLine, [.null, .null])))) (x 0 2) (some (aQ (cs 4) (G + 1) (va_up (fun g => if g < k then some (x 2 g) else none) k (some q))))) : pR cs M1 (up2 x 2 k q) G G (k + 1) := by
  have hqn : ∀ c d, vp2 G k c d → x c d ≠ q := fun c d z e => by
    have := h.1 c d z
    rw [e, hq] at this
    cases this
  have hv : ∀ c d, vp2 G (k + 1) c d → vp2 G k c d ∨ (c = 2 ∧ d = k) := fun c d z => by
    unfold vp2 at z ⊢
    omega
  have hx : ∀ c d, vp2 G k c d → up2 x 2 k q c d = x c d := fun c d z => by
    unfold vp2 at z
    unfold up2
    rw [if_neg (by omega)]
  have hx0 : ∀ b, up2 x 2 k q 0 b = x 0 b := fun b => up2_k _ _ _ _ (by decide)
  have hx1 : ∀ b, up2 x 2 k q 1 b = x 1 b := fun b => up2_k _ _ _ _ (by decide)
  have hf : va_up (fun g => if g < k then some (x 2 g) else none) k (some q) = fun g => if g < k + 1 then some (up2 x 2 k q 2 g) else none := by
    funext g
    by_cases e : g = k
    · subst e
      rw [va_up_self, if_pos (by omega), up2_self]
    · rw [va_up_ne _ _ e, up2_i _ _ _ _ e]
      by_cases z : g < k
      · rw [if_pos z, if_pos (by omega)]
      · rw [if_neg z, if_neg (by omega)]
  have h01 : vp2 G k 0 2 := Or.inl ⟨rfl, by decide⟩
  refine ⟨fun c d hcd => ?_, fun c d c' d' h1 h2 e => ?_⟩
  · rcases hv c d hcd with z | ⟨rfl, rfl⟩
    · rw [hx c d z, hM, hf]
      by_cases e1 : c = 0 ∧ d = 2
      · obtain ⟨rfl, rfl⟩ := e1
        rw [va_up_self]
        rfl
      · rw [va_up_ne _ _ (fun y => e1 (h.2 c d 0 2 z h01 y)), va_up_ne _ _ (hqn c d z), h.1 c d z]
        congr 1
        unfold vp2 at z
        match c with
        | 0 =>
          match d with
          | 0 => simp only [pcel, hx0]
          | 1 => simp only [pcel, hx1]
          | 2 => exact absurd ⟨rfl, rfl⟩ e1
          | 3 => rfl
          | 4 => simp only [pcel, hx0]
          | 5 => rfl
          | 6 => simp only [pcel, hx0]
          | 7 => rfl
          | 8 => simp only [pcel, hx0]
          | d + 9 => rfl
        | 1 => rfl
        | c + 2 => rfl
    · rw [up2_self, hM, va_up_ne _ _ (fun y => hqn 0 2 h01 y.symm), va_up_self]
      rfl
  · rcases hv c d h1 with z | ⟨rfl, rfl⟩ <;> rcases hv c' d' h2 with y | ⟨rfl, rfl⟩
    · rw [hx c d z, hx c' d' y] at e
      exact h.2 c d c' d' z y e
    · rw [hx c d z, up2_self] at e
      exact absurd e (hqn c d z)
    · rw [hx c' d' y, up2_self] at e
      exact absurd e.symm (hqn c' d' y)
    · exact ⟨rfl, rfl⟩
theorem pR_end {cs : Nat → ClassId} {M : xM} {x : gV} {G : Nat} (h : pR cs M x G G (G + 1)) (h1 : 1 ≤ G) (h2 : G ≤ 12) : clS cs M (x 0 0) (v00 G) [] := by
  have n0 : v00 G 12 1 = 0 := v00_0 G 12 1 (by decide) (by decide)
  have hv : ∀ a b, vd (v00 G) a b → vp2 G (G + 1) a b := fun a b z => by
    unfold vd at z
    rw [v00_G, n0] at z
    unfold vp2
    omega
  refine ⟨x, fun _ _ => 0, fun _ => [], rfl, ⟨fun a b hab => ?_, fun a b c d z1 z2 e => h.2 a b c d (hv a b z1) (hv c d z2) e⟩, ⟨fun p hp => ⟨fun i => ?_, List.Pairwise.nil, rfl, rfl, trivial⟩, fun i => Or.inr rfl⟩⟩
  · rw [h.1 a b (hv a b hab)]
    congr 1
    unfold vd at hab
    rw [v00_G, n0] at hab
    match a with
    | 0 =>
      match b with
      | 0 => simp only [pcel, cel, cHead, v00_0 G 12 3 (by decide) (by decide), v00_0 G 12 2 (by decide) (by decide), nI_0, lN_0]
      | 1 => simp only [pcel, cel, v00_G]
      | 2 => simp only [pcel, cel, v00_G, Nat.lt_succ_iff]
      | 3 =>
        have e : (fun p => nI (v00 G 11 p)) = fun _ => (0 : Int32) := by
          funext p
          rw [v00_0 G 11 p (by omega) (by decide), nI_0]
        simp only [pcel, cel, v00_G, e]
      | 4 => simp only [pcel, cel, n0]
      | 5 => simp only [pcel, cel, n0, Nat.not_lt_zero, if_false]
      | 6 => rfl
      | 7 => simp only [pcel, cel, List.length_nil, Nat.not_lt_zero, if_false]
      | 8 => rfl
      | b + 9 => simp only [pcel, cel, List.filter_nil, List.length_nil, Nat.not_lt_zero, if_false]
    | 1 =>
      simp only [pcel, cel, cGate, v00_0 G 6 b (by omega) (by decide), v00_0 G 7 b (by omega) (by decide), v00_0 G 8 b (by omega) (by decide), v00_9 (G := G) (g := b) (by omega), v00_0 G 10 b (by omega) (by decide), nI_0, lN_0]
      rfl
    | 2 => rfl
    | a + 3 => omega
  · constructor
    · intro z
      cases z
    · rintro ⟨z1, z2, -⟩
      rw [n0] at z2
      omega
theorem clG_mm (g : Int32) : (if (1 : Int32) < (if g < 12 then g else 12) then (if g < 12 then g else 12) else 1) = nI (clG g) := by
  by_cases h1 : g < 1
  · have e : clG g = 1 := by
      unfold clG
      rw [if_pos h1]
    have h3 : g < 12 := Int32.lt_trans h1 (by decide)
    rw [if_pos h3, if_neg (fun z => Int32.lt_irrefl (Int32.lt_trans h1 z)), e]
    rfl
  · by_cases h2 : 12 < g
    · have e : clG g = 12 := by
        unfold clG
        rw [if_neg h1, if_pos h2]
      have h3 : ¬ g < 12 := fun z => Int32.lt_irrefl (Int32.lt_trans h2 z)
      rw [if_neg h3, e]
      decide
    · rw [clG_n h1 h2]
      by_cases h3 : g < 12
      · rw [if_pos h3]
        by_cases h4 : 1 < g
        · rw [if_pos h4]
        · rw [if_neg h4]
          exact Int32.le_antisymm (Int32.not_lt.mp h1) (Int32.not_lt.mp h4)
      · rw [if_neg h3, if_pos (by decide)]
        exact Int32.le_antisymm (Int32.not_lt.mp h3) (Int32.not_lt.mp h2)
