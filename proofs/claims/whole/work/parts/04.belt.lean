/-! what holds of the belt at any time -/
def gItem (v : gV) (i : Nat) : Prop := v 0 i ≤ 1000000000 ∧ 1 ≤ v 1 i ∧ v 1 i ≤ 900 ∧ v 2 i ≤ v 12 0 ∧ v 3 i ≤ v 12 0 + 1 ∧ (v 3 i = 0 → v 4 i ≤ v 12 0) ∧ v 5 i ≤ 1000000200
def bn (v : gV) : Nat := sm (fun i => if v 3 i = 0 then 0 else 1) (v 12 1)
def gGate (v : gV) (g : Nat) : Prop := v 6 g ≤ 1 ∧ v 7 g ≤ 1 ∧ v 8 g ≤ 1000020000 ∧ 1 ≤ v 9 g ∧ v 9 g ≤ 1000 ∧ v 10 g ≤ v 11 g ∧ v 11 g ≤ bn v ∧ (v 8 g = 0 ∨ 200 ≤ v 8 g)
def zer (v : gV) : Prop := ∀ a j, a ≤ 5 → v 12 1 < j → v a j = 0
def gInv (v : gV) : Prop := (1 ≤ v 12 0 ∧ v 12 0 ≤ 12) ∧ v 12 1 ≤ 400 ∧ v 12 2 ≤ 1000000000 ∧ (∀ i, 1 ≤ i → i < v 12 1 → v 0 i + v 1 i + 50 ≤ v 0 (i + 1)) ∧ (∀ i, 1 ≤ i → i ≤ v 12 1 → gItem v i) ∧ mono v ∧ (∀ g, g ≤ v 12 0 → gGate v g) ∧ zer v
theorem bn_le (v : gV) : bn v ≤ v 12 1 := by
  have h := sm_le (f := fun i => if v 3 i = 0 then 0 else 1) (c := 1) (v 12 1) (fun i _ _ => by (try dsimp only); split <;> omega)
  unfold bn
  omega
theorem at_lt {v : gV} (h : gInv v) {i : Nat} (hi : 1 ≤ i) : ∀ (d : Nat), i + d + 1 ≤ v 12 1 → v 0 i < v 0 (i + d + 1)
  | 0, hd => by
    have h1 := h.2.2.2.1 i hi (by omega)
    show v 0 i < v 0 (i + 1)
    omega
  | d + 1, hd => by
    have h1 := at_lt h hi d (by omega)
    have h2 := h.2.2.2.1 (i + d + 1) (by omega) (by omega)
    show v 0 i < v 0 (i + d + 1 + 1)
    omega
theorem at_mono {v : gV} (h : gInv v) {i j : Nat} (hi : 1 ≤ i) (hij : i < j) (hj : j ≤ v 12 1) : v 0 i < v 0 j := by
  have := at_lt h hi (j - i - 1) (by omega)
  rwa [show i + (j - i - 1) + 1 = j by omega] at this
theorem opv_le {v : gV} {i g : Nat} (h : v 6 g ≤ 1) : opv v i g ≤ 1 := by
  unfold opv
  split
  · omega
  · split
    · split <;> omega
    · exact h
theorem opv_last (v : gV) (i : Nat) : opv v i (v 12 0) = 1 := by
  unfold opv
  rw [if_pos rfl]
theorem bn_evt {v : gV} {t i g : Nat} (he : en v t i g) : bn (evt v i g) = bn v + (if opv v i g = 1 then 1 else 0) := by
  obtain ⟨h1, h2, h3, h4, h5, h6, h7⟩ := he
  have h := sm_at (f := fun j => if evt v i g 3 j = 0 then 0 else 1) (g := fun j => if v 3 j = 0 then 0 else 1) h1 (fun j hj => by (try dsimp only); rw [evt_i 3 (by decide) hj]) (v 12 1) h2
  have e1 : (if evt v i g 3 i = 0 then 0 else 1) = (if opv v i g = 1 then 1 else 0) := by
    try dsimp only
    rw [evt_3, h3]
    split <;> simp
  have e2 : (if v 3 i = 0 then 0 else 1) = 0 := by
    try dsimp only
    rw [h3]
    rfl
  rw [e1, e2] at h
  unfold bn
  rw [evt_k (a := 12) (by decide)]
  omega
theorem gInv_evt {v : gV} {t i g : Nat} (h : gInv v) (he : en v t i g) (ht : t ≤ 1000000000) : gInv (evt v i g) := by
  have hb := bn_evt he
  have hm := mono_evt h.2.2.2.2.2.1 he
  obtain ⟨⟨a1, a2⟩, a3, a4, a5, a6, a7, a8, a9⟩ := h
  obtain ⟨h1, h2, h3, h4, h5, h6, h7⟩ := he
  have e12 : ∀ b, evt v i g 12 b = v 12 b := fun b => evt_k (by decide)
  have e0 : ∀ b, evt v i g 0 b = v 0 b := fun b => evt_k (by decide)
  have e1 : ∀ b, evt v i g 1 b = v 1 b := fun b => evt_k (by decide)
  have e2 : ∀ b, evt v i g 2 b = v 2 b := fun b => evt_k (by decide)
  have e5 : ∀ b, evt v i g 5 b = v 5 b := fun b => evt_k (by decide)
  have e7 : ∀ b, evt v i g 7 b = v 7 b := fun b => evt_k (by decide)
  have e9 : ∀ b, evt v i g 9 b = v 9 b := fun b => evt_k (by decide)
  have og := opv_le (i := i) (a8 g h5).1
  refine ⟨by rw [e12]; exact ⟨a1, a2⟩, by rw [e12]; exact a3, by rw [e12]; exact a4, fun j j1 j2 => ?_, fun j j1 j2 => ?_, hm, fun k hk => ?_, fun a j ha hj => ?_⟩
  · rw [e12] at j2
    rw [e0, e1, e0]
    exact a5 j j1 j2
  · rw [e12] at j2
    have b := a6 j j1 j2
    unfold gItem at b ⊢
    rw [e0, e1, e2, e5, e12]
    by_cases e : j = i
    · subst e
      rw [evt_3, evt_4]
      by_cases ho : opv v j g = 1
      · rw [if_pos ho, if_pos ho]
        omega
      · rw [if_neg ho, if_neg ho]
        have hg : g ≠ v 12 0 := fun z => ho (by rw [z]; exact opv_last v j)
        omega
    · rw [evt_i 3 (by decide) e, evt_i 4 (by decide) e]
      exact b
  · rw [e12] at hk
    have b := a8 k hk
    have bi := a6 i h1 h2
    unfold gGate at b ⊢
    unfold gItem at bi
    rw [e7, e9, hb]
    by_cases e : k = g
    · subst e
      rw [evt_6, evt_8, evt_10, evt_11]
      by_cases ho : opv v i k = 1
      · rw [if_pos ho, if_pos ho, if_pos ho, ho]
        omega
      · rw [if_neg ho, if_neg ho, if_neg ho]
        omega
    · rw [evt_g 6 (by decide) e, evt_g 8 (by decide) e, evt_g 10 (by decide) e, evt_g 11 (by decide) e]
      split <;> omega
  · rw [e12] at hj
    rw [evt_ne (fun _ => by omega) (fun z => by omega)]
    exact a9 a j ha hj
/-! how many moves are left -/
def rm (v : gV) : Nat := sm (fun i => if v 3 i = 0 then v 12 0 + 1 - v 4 i else 0) (v 12 1)
theorem rm_le {v : gV} (h : gInv v) : rm v ≤ 5200 := by
  have h1 := sm_le (f := fun i => if v 3 i = 0 then v 12 0 + 1 - v 4 i else 0) (c := 13) (v 12 1) (fun i _ _ => by
    have := h.1
    try dsimp only
    split <;> omega)
  have h2 := h.2.1
  unfold rm
  omega
theorem rm_evt {v : gV} {t i g : Nat} (he : en v t i g) : rm (evt v i g) + 1 ≤ rm v := by
  obtain ⟨h1, h2, h3, h4, h5, h6, h7⟩ := he
  have h := sm_at (f := fun j => if evt v i g 3 j = 0 then v 12 0 + 1 - evt v i g 4 j else 0) (g := fun j => if v 3 j = 0 then v 12 0 + 1 - v 4 j else 0) h1 (fun j hj => by (try dsimp only); rw [evt_i 3 (by decide) hj, evt_i 4 (by decide) hj]) (v 12 1) h2
  have e1 : (if evt v i g 3 i = 0 then v 12 0 + 1 - evt v i g 4 i else 0) ≤ v 12 0 - g := by
    try dsimp only
    rw [evt_3, evt_4, h3, h4]
    by_cases ho : opv v i g = 1
    · rw [if_pos ho]
      simp
    · rw [if_neg ho, if_neg ho, if_pos rfl]
      omega
  have e2 : (if v 3 i = 0 then v 12 0 + 1 - v 4 i else 0) = v 12 0 + 1 - g := by
    try dsimp only
    rw [if_pos h3, h4]
  rw [e2] at h
  unfold rm
  rw [evt_k (a := 12) (by decide), evt_k (a := 12) (by decide)]
  omega
theorem rm_zero {v : gV} (h : rm v = 0) (t : Nat) : quiet v t := by
  intro i g he
  obtain ⟨h1, h2, h3, h4, h5, h6, h7⟩ := he
  have := sm_get (f := fun i => if v 3 i = 0 then v 12 0 + 1 - v 4 i else 0) h1 (v 12 1) h2
  try dsimp only at this
  rw [if_pos h3, h4] at this
  unfold rm at h
  omega
/-! quiet: nobody's front is due -/
theorem quiet_of {v : gV} {t : Nat} (h : ∀ i, 1 ≤ i → i ≤ v 12 1 → v 3 i = 0 → t < fr v i (v 4 i)) : quiet v t := by
  intro i g he
  obtain ⟨h1, h2, h3, h4, h5, h6, h7⟩ := he
  have := h i h1 h2 h3
  rw [h4] at this
  omega
theorem quiet_all {v : gV} {t : Nat} (hi : gInv v) (h : quiet v t) : ∀ (i : Nat), 1 ≤ i → i ≤ v 12 1 → v 3 i = 0 → t < fr v i (v 4 i) := by
  intro i
  induction i using Nat.strongRecOn with
  | _ i ih =>
    intro h1 h2 h3
    refine Nat.lt_of_not_le (fun hle => ?_)
    refine h i (v 4 i) ⟨h1, h2, h3, rfl, (hi.2.2.2.2.1 i h1 h2).2.2.2.2.2.1 h3, hle, fun j j1 j2 j3 j4 => ?_⟩
    have a := ih j j2 j1 (by omega) j3
    have b := at_mono hi j1 j2 h2
    rw [j4] at a
    unfold fr at a hle
    omega
/-! the order in which items come: what has come is ahead of what will come -/
def ahead (v : gV) (o : List Nat) : Prop := ∀ a, a ∈ o → ∀ j, 1 ≤ j → j ≤ v 12 1 → v 3 j = 0 → tm v a < fr v j (v 4 j) ∨ (tm v a = fr v j (v 4 j) ∧ a < j)
def best (v : gV) (i g : Nat) : Prop := ∀ j, 1 ≤ j → j ≤ v 12 1 → v 3 j = 0 → j ≠ i → fr v i g < fr v j (v 4 j) ∨ (fr v i g = fr v j (v 4 j) ∧ i < j)
theorem tm_evt {v : gV} {i g j : Nat} (h : j ≠ i) : tm (evt v i g) j = tm v j := by
  unfold tm
  rw [evt_k (by decide), evt_i 3 (by decide) h]
theorem tm_evt1 {v : gV} {i g : Nat} (h : opv v i g = 1) : tm (evt v i g) i = fr v i g := by
  unfold tm fr
  rw [evt_k (by decide), evt_3, if_pos h]
  omega
theorem came_ne {v : gV} {o : List Nat} {a i : Nat} (h : cameOK v o) (ha : a ∈ o) (hi : v 3 i = 0) : a ≠ i := fun e => by
  subst e
  exact ((h.1 a).mp ha).2.2 hi
theorem pw_keep {v : gV} {t i g : Nat} {o : List Nat} (hc : cameOK v o) (he : en v t i g) : o.Pairwise (ltk (evt v i g)) := by
  refine hc.2.imp_of_mem (fun {a b} ha hb hab => ?_)
  have e1 := tm_evt (v := v) (g := g) (came_ne hc ha he.2.2.1)
  have e2 := tm_evt (v := v) (g := g) (came_ne hc hb he.2.2.1)
  unfold ltk at hab ⊢
  rw [e1, e2]
  exact hab
theorem came_in {v : gV} {t i g : Nat} {o : List Nat} (hc : cameOK v o) (he : en v t i g) (hb : best v i g) (ha : ahead v o) (ho : opv v i g = 1) : cameOK (evt v i g) (o ++ [i]) ∧ ahead (evt v i g) (o ++ [i]) := by
  have pk := pw_keep (g := g) hc he
  obtain ⟨h1, h2, h3, h4, h5, h6, h7⟩ := he
  have e12 : ∀ b, evt v i g 12 b = v 12 b := fun b => evt_k (by decide)
  have t1 := tm_evt1 ho
  refine ⟨⟨fun j => ?_, ?_⟩, fun a ha2 j j1 j2 j3 => ?_⟩
  · rw [List.mem_append, List.mem_singleton, e12]
    by_cases e : j = i
    · subst e
      rw [evt_3, if_pos ho]
      exact ⟨fun _ => ⟨h1, h2, by omega⟩, fun _ => Or.inr rfl⟩
    · rw [evt_i 3 (by decide) e]
      constructor
      · rintro (z | z)
        · exact (hc.1 j).mp z
        · exact absurd z e
      · exact fun z => Or.inl ((hc.1 j).mpr z)
  · rw [List.pairwise_append]
    refine ⟨pk, List.pairwise_singleton _ _, fun a ha2 b hb2 => ?_⟩
    rw [List.mem_singleton] at hb2
    subst hb2
    have z := ha a ha2 b h1 h2 h3
    have e := tm_evt (v := v) (g := g) (came_ne hc ha2 h3)
    unfold ltk
    rw [t1, e]
    rw [h4] at z
    exact z
  · rw [e12] at j2
    have e : j ≠ i := fun z => by
      subst z
      rw [evt_3, if_pos ho] at j3
      omega
    rw [evt_i 3 (by decide) e] at j3
    rw [fr_evt, evt_i 4 (by decide) e]
    rcases List.mem_append.mp ha2 with z | z
    · rw [tm_evt (came_ne hc z h3)]
      exact ha a z j j1 j2 j3
    · rw [List.mem_singleton] at z
      subst z
      rw [t1]
      exact hb j j1 j2 j3 e
theorem came_on {v : gV} {t i g : Nat} {o : List Nat} (hc : cameOK v o) (he : en v t i g) (ha : ahead v o) (ho : opv v i g ≠ 1) : cameOK (evt v i g) o ∧ ahead (evt v i g) o := by
  have pk := pw_keep (g := g) hc he
  obtain ⟨h1, h2, h3, h4, h5, h6, h7⟩ := he
  have e12 : ∀ b, evt v i g 12 b = v 12 b := fun b => evt_k (by decide)
  refine ⟨⟨fun j => ?_, pk⟩, fun a ha2 j j1 j2 j3 => ?_⟩
  · rw [e12]
    by_cases e : j = i
    · subst e
      rw [evt_3, if_neg ho]
      exact hc.1 j
    · rw [evt_i 3 (by decide) e]
      exact hc.1 j
  · rw [e12] at j2
    rw [fr_evt, tm_evt (came_ne hc ha2 h3)]
    by_cases e : j = i
    · subst e
      have z := ha a ha2 j h1 h2 h3
      rw [evt_4, if_neg ho]
      unfold fr at z ⊢
      omega
    · rw [evt_i 3 (by decide) e] at j3
      rw [evt_i 4 (by decide) e]
      exact ha a ha2 j j1 j2 j3
/-! what came wrong -/
def wr (v : gV) (i : Nat) : Bool := decide (v 2 i ≠ 0) && decide (v 2 i ≠ v 3 i)
theorem wr_evt {v : gV} {i g j : Nat} (h : j ≠ i) : wr (evt v i g) j = wr v j := by
  unfold wr
  rw [evt_k (by decide), evt_i 3 (by decide) h]
theorem wr_filter {v : gV} {i g : Nat} {o : List Nat} (h : ∀ a, a ∈ o → a ≠ i) : o.filter (wr (evt v i g)) = o.filter (wr v) :=
  List.filter_congr (fun a ha => wr_evt (h a ha))
/-! what holds of the belt between two calls: v, what came o -/
def gAll (v : gV) (o : List Nat) : Prop := gInv v ∧ cameOK v o ∧ (∀ a, a ∈ o → tm v a ≤ v 12 2) ∧ (∀ i, 1 ≤ i → i ≤ v 12 1 → v 3 i = 0 → v 12 2 < fr v i (v 4 i))
theorem gAll_ahead {v : gV} {o : List Nat} (h : gAll v o) : ahead v o := fun a ha j j1 j2 j3 => by
  have := h.2.2.1 a ha
  have := h.2.2.2 j j1 j2 j3
  omega
/-! a pass of time to t: the only answer -/
def passed (v : gV) (o : List Nat) (t : Nat) (v' : gV) (o' : List Nat) : Prop := ∃ (es : List (Nat × Nat)) (u : gV), run t es v u ∧ quiet u t ∧ v' = up2 u 12 2 t ∧ cameOK u o'
theorem passed_one {v v1 v2 : gV} {o o1 o2 : List Nat} {t : Nat} (hm : mono v) (h1 : passed v o t v1 o1) (h2 : passed v o t v2 o2) : v1 = v2 ∧ o1 = o2 := by
  obtain ⟨es, u, a1, a2, a3, a4⟩ := h1
  obtain ⟨fs, w, b1, b2, b3, b4⟩ := h2
  have e : u = w := run_same es v u hm a1 a2 fs w b1 b2
  subst e
  exact ⟨a3.trans b3.symm, came_one a4 b4⟩
theorem run_inv {t : Nat} (ht : t ≤ 1000000000) : ∀ (es : List (Nat × Nat)) (v w : gV), gInv v → run t es v w → gInv w ∧ (∀ a b, a ≠ 3 → a ≠ 4 → a ≠ 6 → a ≠ 8 → a ≠ 10 → a ≠ 11 → w a b = v a b) ∧ (∀ i, v 3 i ≠ 0 → w 3 i = v 3 i) ∧ (∀ i, v 3 i = 0 → w 3 i ≠ 0 → tm w i ≤ t)
  | [], v, w, h, hr => by
    have e : w = v := hr
    subst e
    exact ⟨h, fun _ _ _ _ _ _ _ _ => rfl, fun _ _ => rfl, fun i a b => absurd a b⟩
  | q :: es, v, w, h, hr => by
    obtain ⟨i, g⟩ := q
    have he : en v t i g := hr.1
    have hr : run t es (evt v i g) w := hr.2
    obtain ⟨b1, b2, b3, b4⟩ := run_inv ht es (evt v i g) w (gInv_evt h he ht) hr
    refine ⟨b1, fun a b n3 n4 n6 n8 n10 n11 => ?_, fun j hj => ?_, fun j hj hw => ?_⟩
    · rw [b2 a b n3 n4 n6 n8 n10 n11, evt_k ⟨n3, n4, n6, n8, n10, n11⟩]
    · have e : j ≠ i := fun z => by subst z; exact hj he.2.2.1
      have e2 := evt_i (v := v) (i := i) (g := g) 3 (by decide) e
      rw [b3 j (by rw [e2]; exact hj), e2]
    · by_cases e : j = i
      · subst e
        by_cases ho : opv v j g = 1
        · have e3 := b3 j (by rw [evt_3, if_pos ho]; omega)
          have e0 := b2 0 j (by decide) (by decide) (by decide) (by decide) (by decide) (by decide)
          have t1 := tm_evt1 ho
          have h6 := he.2.2.2.2.2.1
          unfold tm at t1 ⊢
          rw [e3, e0]
          omega
        · exact b4 j (by rw [evt_3, if_neg ho]; exact hj) hw
      · exact b4 j (by rw [evt_i 3 (by decide) e]; exact hj) hw
theorem passed_all {v v' : gV} {o o' : List Nat} {t : Nat} (h : gAll v o) (ht : v 12 2 ≤ t) (ht2 : t ≤ 1000000000) (hp : passed v o t v' o') : gAll v' o' ∧ v' 12 2 = t ∧ (∀ a b, a ≠ 3 → a ≠ 4 → a ≠ 6 → a ≠ 8 → a ≠ 10 → a ≠ 11 → a ≠ 12 → v' a b = v a b) ∧ v' 12 0 = v 12 0 ∧ v' 12 1 = v 12 1 ∧ v' 12 3 = v 12 3 := by
  obtain ⟨es, u, hr, hq, rfl, hc⟩ := hp
  obtain ⟨b1, b2, b3, b4⟩ := run_inv ht2 es v u h.1 hr
  have k12 : ∀ b, u 12 b = v 12 b := fun b => b2 12 b (by decide) (by decide) (by decide) (by decide) (by decide) (by decide)
  have e : ∀ a b, a ≠ 12 → up2 u 12 2 t a b = u a b := fun a b n => up2_k u 2 t b n
  have e0 : up2 u 12 2 t 12 0 = u 12 0 := up2_i u 12 t 12 (by decide)
  have e1 : up2 u 12 2 t 12 1 = u 12 1 := up2_i u 12 t 12 (by decide)
  have e3 : up2 u 12 2 t 12 3 = u 12 3 := up2_i u 12 t 12 (by decide)
  have e2 : up2 u 12 2 t 12 2 = t := up2_self u 12 2 t
  have etm : ∀ i, tm (up2 u 12 2 t) i = tm u i := fun i => by
    unfold tm
    rw [e 0 i (by decide), e 3 i (by decide)]
  have efr : ∀ i g, fr (up2 u 12 2 t) i g = fr u i g := fun i g => by
    unfold fr
    rw [e 0 i (by decide)]
  have ebn : bn (up2 u 12 2 t) = bn u := by
    unfold bn
    rw [e1]
    exact sm_eq _ (fun i _ _ => by (try dsimp only); rw [e 3 i (by decide)])
  refine ⟨⟨?_, ?_, ?_, ?_⟩, e2, fun a b n3 n4 n6 n8 n10 n11 n12 => by rw [e a b n12, b2 a b n3 n4 n6 n8 n10 n11], by rw [e0, k12], by rw [e1, k12], by rw [e3, k12]⟩
  · obtain ⟨a1, a2, a3, a4, a5, a6, a7, a8⟩ := b1
    refine ⟨by rw [e0]; exact a1, by rw [e1]; exact a2, by rw [e2]; exact ht2, fun i i1 i2 => ?_, fun i i1 i2 => ?_, fun j i j1 j2 j3 j4 j5 => ?_, fun g hg => ?_, fun a j ha hj => ?_⟩
    · rw [e1] at i2
      rw [e 0 i (by decide), e 1 i (by decide), e 0 (i + 1) (by decide)]
      exact a4 i i1 i2
    · rw [e1] at i2
      have := a5 i i1 i2
      unfold gItem at this ⊢
      rw [e 0 i (by decide), e 1 i (by decide), e 2 i (by decide), e 3 i (by decide), e 4 i (by decide), e 5 i (by decide), e0]
      exact this
    · rw [e1] at j3
      rw [e 3 j (by decide)] at j4
      rw [e 3 i (by decide)] at j5
      rw [e 4 i (by decide), e 4 j (by decide)]
      exact a6 j i j1 j2 j3 j4 j5
    · rw [e0] at hg
      have := a7 g hg
      unfold gGate at this ⊢
      rw [e 6 g (by decide), e 7 g (by decide), e 8 g (by decide), e 9 g (by decide), e 10 g (by decide), e 11 g (by decide), ebn]
      exact this
    · rw [e1] at hj
      rw [e a j (by omega)]
      exact a8 a j ha hj
  · refine ⟨fun i => ?_, hc.2.imp (fun {a b} z => ?_)⟩
    · rw [e1, e 3 i (by decide)]
      exact hc.1 i
    · unfold ltk at z ⊢
      rw [etm, etm]
      exact z
  · intro a ha
    rw [e2, etm]
    have hm := (hc.1 a).mp ha
    by_cases z : v 3 a = 0
    · exact b4 a z hm.2.2
    · have hz : tm u a = tm v a := by
        unfold tm
        rw [b3 a z, b2 0 a (by decide) (by decide) (by decide) (by decide) (by decide) (by decide)]
      rw [hz]
      have := h.2.2.1 a ((h.2.1.1 a).mpr ⟨hm.1, by rw [← k12]; exact hm.2.1, z⟩)
      omega
  · intro i i1 i2 i3
    rw [e1] at i2
    rw [e 3 i (by decide)] at i3
    rw [e2, efr, e 4 i (by decide)]
    exact quiet_all b1 hq i i1 i2 i3
