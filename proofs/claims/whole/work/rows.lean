section
/-! THE BELT AS NUMBERS. v a b: component a at place b. 0 at, 1 length, 2 order (0 none, bin + 1), 3 bin (0 none, bin + 1), 4 the next gate, 5 late, by items 1 .. n; 6 turned, 7 stuck, 8 free from, 9 height, 10 held, 11 count, by gates; 12: 0 gates, 1 items, 2 now, 3 told. -/
abbrev gV : Type := Nat → Nat → Nat
def up2 (v : gV) (k i x : Nat) : gV := fun a b => if a = k ∧ b = i then x else v a b
theorem up2_self (v : gV) (k i x : Nat) : up2 v k i x k i = x := by simp [up2]
theorem up2_k (v : gV) {k a : Nat} (i x b : Nat) (h : a ≠ k) : up2 v k i x a b = v a b := by simp [up2, h]
theorem up2_i (v : gV) {i b : Nat} (k x a : Nat) (h : b ≠ i) : up2 v k i x a b = v a b := by simp [up2, h]
/-! sums over the items -/
def sm (f : Nat → Nat) : Nat → Nat
  | 0 => 0
  | k + 1 => sm f k + f (k + 1)
theorem sm_eq {f g : Nat → Nat} : ∀ (n : Nat), (∀ i, 1 ≤ i → i ≤ n → f i = g i) → sm f n = sm g n
  | 0, _ => rfl
  | n + 1, h => by
    have h1 := sm_eq n (fun i a b => h i a (by omega))
    have h2 := h (n + 1) (by omega) (by omega)
    simp only [sm, h1, h2]
theorem sm_at {f g : Nat → Nat} {i : Nat} (hi : 1 ≤ i) (hne : ∀ j, j ≠ i → f j = g j) : ∀ (n : Nat), i ≤ n → sm f n + g i = sm g n + f i
  | 0, h => by omega
  | n + 1, h => by
    by_cases e : i = n + 1
    · have h1 : sm f n = sm g n := sm_eq n (fun j a b => hne j (by omega))
      subst e
      simp only [sm, h1]
      omega
    · have h1 := sm_at hi hne n (by omega)
      have h2 := hne (n + 1) (by omega)
      simp only [sm, h2]
      omega
theorem sm_le {f : Nat → Nat} {c : Nat} : ∀ (n : Nat), (∀ i, 1 ≤ i → i ≤ n → f i ≤ c) → sm f n ≤ n * c
  | 0, _ => by simp [sm]
  | n + 1, h => by
    have h1 := sm_le n (fun i a b => h i a (by omega))
    have h2 := h (n + 1) (by omega) (by omega)
    have h3 : (n + 1) * c = n * c + c := Nat.succ_mul n c
    simp only [sm]
    omega
theorem sm_get {f : Nat → Nat} {i : Nat} (hi : 1 ≤ i) : ∀ (n : Nat), i ≤ n → f i ≤ sm f n
  | 0, h => by omega
  | n + 1, h => by
    by_cases e : i = n + 1
    · subst e
      simp only [sm]
      omega
    · have h1 := sm_get (f := f) hi n (by omega)
      simp only [sm]
      omega
/-! an item's front at a gate -/
def fr (v : gV) (i g : Nat) : Nat := v 0 i + 1000 * g + 1000
def opv (v : gV) (i g : Nat) : Nat := if g = v 12 0 then 1 else if v 7 g = 0 ∧ v 8 g ≤ fr v i g then (if v 2 i = g + 1 ∧ v 10 g < v 9 g then 1 else 0) else v 6 g
def evt (v : gV) (i g : Nat) : gV := fun a b =>
  if a = 6 ∧ b = g then opv v i g
  else if a = 8 ∧ b = g then fr v i g + v 1 i + 200
  else if opv v i g = 1 then
    (if a = 3 ∧ b = i then g + 1 else if a = 10 ∧ b = g then v 10 g + 1 else if a = 11 ∧ b = g then v 11 g + 1 else v a b)
  else (if a = 4 ∧ b = i then v 4 i + 1 else v a b)
theorem evt_ne {v : gV} {i g a b : Nat} (h1 : a = 3 ∨ a = 4 → b ≠ i) (h2 : a = 6 ∨ a = 8 ∨ a = 10 ∨ a = 11 → b ≠ g) : evt v i g a b = v a b := by
  have c6 : ¬ (a = 6 ∧ b = g) := fun h => h2 (by omega) h.2
  have c8 : ¬ (a = 8 ∧ b = g) := fun h => h2 (by omega) h.2
  have c10 : ¬ (a = 10 ∧ b = g) := fun h => h2 (by omega) h.2
  have c11 : ¬ (a = 11 ∧ b = g) := fun h => h2 (by omega) h.2
  have c3 : ¬ (a = 3 ∧ b = i) := fun h => h1 (by omega) h.2
  have c4 : ¬ (a = 4 ∧ b = i) := fun h => h1 (by omega) h.2
  unfold evt
  rw [if_neg c6, if_neg c8, if_neg c3, if_neg c10, if_neg c11, if_neg c4]
  split <;> rfl
theorem evt_3 (v : gV) (i g : Nat) : evt v i g 3 i = if opv v i g = 1 then g + 1 else v 3 i := by
  unfold evt
  simp
theorem evt_4 (v : gV) (i g : Nat) : evt v i g 4 i = if opv v i g = 1 then v 4 i else v 4 i + 1 := by
  unfold evt
  simp
theorem evt_6 (v : gV) (i g : Nat) : evt v i g 6 g = opv v i g := by
  unfold evt
  simp
theorem evt_8 (v : gV) (i g : Nat) : evt v i g 8 g = fr v i g + v 1 i + 200 := by
  unfold evt
  simp
theorem evt_10 (v : gV) (i g : Nat) : evt v i g 10 g = if opv v i g = 1 then v 10 g + 1 else v 10 g := by
  unfold evt
  simp
theorem evt_11 (v : gV) (i g : Nat) : evt v i g 11 g = if opv v i g = 1 then v 11 g + 1 else v 11 g := by
  unfold evt
  simp
theorem evt_k {v : gV} {i g a b : Nat} (h : a ≠ 3 ∧ a ≠ 4 ∧ a ≠ 6 ∧ a ≠ 8 ∧ a ≠ 10 ∧ a ≠ 11) : evt v i g a b = v a b := evt_ne (fun z => by omega) (fun z => by omega)
theorem evt_i {v : gV} {i g j : Nat} (a : Nat) (ha : a = 3 ∨ a = 4) (h : j ≠ i) : evt v i g a j = v a j := evt_ne (fun _ => h) (fun z => by omega)
theorem evt_g {v : gV} {i g h : Nat} (a : Nat) (ha : a = 6 ∨ a = 8 ∨ a = 10 ∨ a = 11) (hn : h ≠ g) : evt v i g a h = v a h := evt_ne (fun z => by omega) (fun _ => hn)
theorem fr_evt (v : gV) (i g j h : Nat) : fr (evt v i g) j h = fr v j h := by
  unfold fr
  rw [evt_k (by decide)]
theorem opv_evt {v : gV} {i g j h : Nat} (hgh : h ≠ g) : opv (evt v i g) j h = opv v j h := by
  unfold opv
  rw [fr_evt, evt_k (a := 12) (by decide), evt_k (a := 7) (by decide), evt_k (a := 2) (by decide), evt_k (a := 9) (by decide), evt_g 8 (by decide) hgh, evt_g 10 (by decide) hgh, evt_g 6 (by decide) hgh]
theorem evt_cong {v w : gV} {i g a b : Nat} (ho : opv w i g = opv v i g) (hf : fr w i g = fr v i g) (h1 : w 1 i = v 1 i) (h4 : w 4 i = v 4 i) (h10 : w 10 g = v 10 g) (h11 : w 11 g = v 11 g) (hab : w a b = v a b) : evt w i g a b = evt v i g a b := by
  unfold evt
  rw [ho, hf, h1, h4, h10, h11, hab]
theorem evt_comm {v : gV} {i g j h : Nat} (hij : i ≠ j) (hgh : g ≠ h) : evt (evt v i g) j h = evt (evt v j h) i g := by
  funext a b
  by_cases r1 : ((a = 3 ∨ a = 4) ∧ b = i) ∨ ((a = 6 ∨ a = 8 ∨ a = 10 ∨ a = 11) ∧ b = g)
  · have e1 : evt (evt v i g) j h a b = evt v i g a b := evt_ne (fun z => by omega) (fun z => by omega)
    have e2 : evt (evt v j h) i g a b = evt v i g a b := evt_cong (opv_evt (by omega)) (fr_evt _ _ _ _ _) (evt_k (by decide)) (evt_i 4 (by decide) hij) (evt_g 10 (by decide) hgh) (evt_g 11 (by decide) hgh) (evt_ne (fun z => by omega) (fun z => by omega))
    rw [e1, e2]
  · by_cases r2 : ((a = 3 ∨ a = 4) ∧ b = j) ∨ ((a = 6 ∨ a = 8 ∨ a = 10 ∨ a = 11) ∧ b = h)
    · have e1 : evt (evt v j h) i g a b = evt v j h a b := evt_ne (fun z => by omega) (fun z => by omega)
      have e2 : evt (evt v i g) j h a b = evt v j h a b := evt_cong (opv_evt (by omega)) (fr_evt _ _ _ _ _) (evt_k (by decide)) (evt_i 4 (by decide) (by omega)) (evt_g 10 (by decide) (by omega)) (evt_g 11 (by decide) (by omega)) (evt_ne (fun z => by omega) (fun z => by omega))
      rw [e1, e2]
    · rw [evt_ne (v := evt v i g) (fun z => by omega) (fun z => by omega), evt_ne (v := v) (fun z => by omega) (fun z => by omega), evt_ne (v := evt v j h) (fun z => by omega) (fun z => by omega), evt_ne (v := v) (fun z => by omega) (fun z => by omega)]
/-! a step of the belt up to t: the first item of those that are next at the gate g -/
def en (v : gV) (t i g : Nat) : Prop := 1 ≤ i ∧ i ≤ v 12 1 ∧ v 3 i = 0 ∧ v 4 i = g ∧ g ≤ v 12 0 ∧ fr v i g ≤ t ∧ ∀ j, 1 ≤ j → j < i → v 3 j = 0 → v 4 j ≠ g
def mono (v : gV) : Prop := ∀ j i, 1 ≤ j → j < i → i ≤ v 12 1 → v 3 j = 0 → v 3 i = 0 → v 4 i ≤ v 4 j
theorem mono_evt {v : gV} {t i g : Nat} (hm : mono v) (he : en v t i g) : mono (evt v i g) := by
  obtain ⟨h1, h2, h3, h4, h5, h6, h7⟩ := he
  intro j k hj hjk hk bj bk
  rw [evt_k (by decide)] at hk
  by_cases ej : j = i
  · subst ej
    rw [evt_i 3 (by decide) (by omega)] at bk
    rw [evt_i 4 (by decide) (by omega), evt_4]
    have := hm j k hj hjk hk h3 bk
    split <;> omega
  · rw [evt_i 3 (by decide) ej] at bj
    rw [evt_i 4 (by decide) ej]
    by_cases ek : k = i
    · subst ek
      have a1 := hm j k hj hjk hk bj h3
      have a2 := h7 j hj hjk bj
      rw [evt_4]
      split <;> omega
    · rw [evt_i 3 (by decide) ek] at bk
      rw [evt_i 4 (by decide) ek]
      exact hm j k hj hjk hk bj bk
theorem en_apart {v : gV} {t i g j h : Nat} (he : en v t i g) (hf : en v t j h) (hij : i ≠ j) : g ≠ h := by
  obtain ⟨h1, h2, h3, h4, h5, h6, h7⟩ := he
  obtain ⟨f1, f2, f3, f4, f5, f6, f7⟩ := hf
  intro e
  subst e
  rcases Nat.lt_or_gt_of_ne hij with z | z
  · exact f7 i h1 z h3 h4
  · exact h7 j f1 z f3 f4
theorem en_keep {v : gV} {t i g j h : Nat} (hm : mono v) (he : en v t i g) (hf : en v t j h) (hij : i ≠ j) : en (evt v i g) t j h := by
  have hgh := en_apart he hf hij
  obtain ⟨h1, h2, h3, h4, h5, h6, h7⟩ := he
  obtain ⟨f1, f2, f3, f4, f5, f6, f7⟩ := hf
  refine ⟨f1, by rw [evt_k (by decide)]; exact f2, by rw [evt_i 3 (by decide) (Ne.symm hij)]; exact f3, by rw [evt_i 4 (by decide) (Ne.symm hij)]; exact f4, by rw [evt_k (by decide)]; exact f5, by rw [fr_evt]; exact f6, ?_⟩
  intro k k1 k2 k3
  by_cases e : k = i
  · subst e
    have a1 := hm k j k1 k2 f2 h3 f3
    rw [evt_3] at k3
    rw [evt_4]
    split
    · rename_i z
      rw [if_pos z] at k3
      omega
    · omega
  · rw [evt_i 3 (by decide) e] at k3
    rw [evt_i 4 (by decide) e]
    exact f7 k k1 k2 k3
def run (t : Nat) : List (Nat × Nat) → gV → gV → Prop
  | [], v, w => w = v
  | q :: es, v, w => en v t q.1 q.2 ∧ run t es (evt v q.1 q.2) w
def quiet (v : gV) (t : Nat) : Prop := ∀ i g, ¬ en v t i g
theorem run_swap {t i g : Nat} : ∀ (fs : List (Nat × Nat)) (v w : gV), mono v → en v t i g → run t fs v w → quiet w t → ∃ fs', run t fs' (evt v i g) w
  | [], v, w, _, he, hr, hq => by
    have e : w = v := hr
    subst e
    exact absurd he (hq i g)
  | q :: fs, v, w, hm, he, hr, hq => by
    obtain ⟨j, h⟩ := q
    obtain ⟨hf, hr⟩ := hr
    have hf : en v t j h := hf
    have hr : run t fs (evt v j h) w := hr
    by_cases e : i = j
    · subst e
      have e2 : g = h := he.2.2.2.1.symm.trans hf.2.2.2.1
      subst e2
      exact ⟨fs, hr⟩
    · obtain ⟨fs', h'⟩ := run_swap fs (evt v j h) w (mono_evt hm hf) (en_keep hm hf he (Ne.symm e)) hr hq
      refine ⟨(j, h) :: fs', en_keep hm he hf e, ?_⟩
      show run t fs' (evt (evt v i g) j h) w
      rw [evt_comm e (en_apart he hf e)]
      exact h'
theorem run_same {t : Nat} : ∀ (es : List (Nat × Nat)) (v w : gV), mono v → run t es v w → quiet w t → ∀ (fs : List (Nat × Nat)) (u : gV), run t fs v u → quiet u t → w = u
  | [], v, w, _, hr, hq, fs, u, hr2, _ => by
    have e : w = v := hr
    subst e
    cases fs with
    | nil =>
      have e : u = w := hr2
      exact e.symm
    | cons q fs => exact absurd hr2.1 (hq _ _)
  | q :: es, v, w, hm, hr, hq, fs, u, hr2, hq2 => by
    obtain ⟨fs', h'⟩ := run_swap fs v u hm hr.1 hr2 hq2
    exact run_same es (evt v q.1 q.2) w (mono_evt hm hr.1) hr.2 hq fs' u h' hq2
theorem run_snoc {t : Nat} : ∀ (es : List (Nat × Nat)) (v w : gV) (i g : Nat), run t es v w → en w t i g → run t (es ++ [(i, g)]) v (evt w i g)
  | [], v, w, i, g, hr, he => by
    have e : w = v := hr
    subst e
    exact ⟨he, rfl⟩
  | q :: es, v, w, i, g, hr, he => ⟨hr.1, run_snoc es _ w i g hr.2 he⟩
/-! lists that rise -/
theorem rise_one {R : Nat → Nat → Prop} (irr : ∀ a, ¬ R a a) (tr : ∀ a b c, R a b → R b c → R a c) : ∀ (l1 l2 : List Nat), l1.Pairwise R → l2.Pairwise R → (∀ x, x ∈ l1 ↔ x ∈ l2) → l1 = l2
  | [], l2, _, _, h => by
    cases l2 with
    | nil => rfl
    | cons b l2 => exact absurd ((h b).mpr List.mem_cons_self) List.not_mem_nil
  | a :: l1, [], _, _, h => absurd ((h a).mp List.mem_cons_self) List.not_mem_nil
  | a :: l1, b :: l2, h1, h2, h => by
    rw [List.pairwise_cons] at h1 h2
    have hab : a = b := by
      rcases List.mem_cons.mp ((h a).mp List.mem_cons_self) with z | z
      · exact z
      · rcases List.mem_cons.mp ((h b).mpr List.mem_cons_self) with y | y
        · exact y.symm
        · exact absurd (tr _ _ _ (h1.1 b y) (h2.1 a z)) (irr a)
    subst hab
    have ht : ∀ x, x ∈ l1 ↔ x ∈ l2 := fun x => by
      constructor
      · intro hx
        rcases List.mem_cons.mp ((h x).mp (List.mem_cons_of_mem _ hx)) with z | z
        · subst z
          exact absurd (h1.1 x hx) (irr x)
        · exact z
      · intro hx
        rcases List.mem_cons.mp ((h x).mpr (List.mem_cons_of_mem _ hx)) with z | z
        · subst z
          exact absurd (h2.1 x hx) (irr x)
        · exact z
    rw [rise_one irr tr l1 l2 h1.2 h2.2 ht]
theorem few {n : Nat} : ∀ (k : Nat) (l : List Nat), l.Pairwise (· ≠ ·) → (∀ x, x ∈ l → 1 ≤ x ∧ x ≤ k) → l.length ≤ k
  | 0, l, _, h => by
    cases l with
    | nil => simp
    | cons a l =>
      have := h a List.mem_cons_self
      omega
  | k + 1, l, hp, h => by
    have h1 : (l.filter (fun x => x != k + 1)).length ≤ k := by
      refine few (n := n) k _ (hp.filter _) (fun x hx => ?_)
      rw [List.mem_filter] at hx
      have a1 := h x hx.1
      have a2 : x ≠ k + 1 := by simpa using hx.2
      omega
    have h2 : ∀ (l : List Nat), l.Pairwise (· ≠ ·) → l.length ≤ (l.filter (fun x => x != k + 1)).length + 1 := by
      intro l hp
      induction l with
      | nil => simp
      | cons a l ih =>
        rw [List.pairwise_cons] at hp
        by_cases e : a = k + 1
        · have e2 : l.filter (fun x => x != k + 1) = l := by
            rw [List.filter_eq_self]
            intro x hx
            have := hp.1 x hx
            simp
            omega
          rw [List.filter_cons_of_neg (by simp [e]), e2]
          simp
        · rw [List.filter_cons_of_pos (by simp [e])]
          have := ih hp.2
          simp only [List.length_cons]
          omega
    have := h2 l hp
    omega
/-! what came, in its order -/
def tm (v : gV) (i : Nat) : Nat := v 0 i + 1000 * v 3 i
def ltk (v : gV) (a b : Nat) : Prop := tm v a < tm v b ∨ (tm v a = tm v b ∧ a < b)
theorem ltk_irr (v : gV) (a : Nat) : ¬ ltk v a a := fun h => by
  unfold ltk at h
  omega
theorem ltk_tr (v : gV) (a b c : Nat) (h : ltk v a b) (g : ltk v b c) : ltk v a c := by
  unfold ltk at *
  omega
def cameOK (v : gV) (o : List Nat) : Prop := (∀ i, i ∈ o ↔ (1 ≤ i ∧ i ≤ v 12 1 ∧ v 3 i ≠ 0)) ∧ o.Pairwise (ltk v)
theorem came_one {v : gV} {o1 o2 : List Nat} (h1 : cameOK v o1) (h2 : cameOK v o2) : o1 = o2 := rise_one (ltk_irr v) (ltk_tr v) o1 o2 h1.2 h2.2 (fun x => (h1.1 x).trans (h2.1 x).symm)
theorem came_few {v : gV} {o : List Nat} (h : cameOK v o) : o.length ≤ v 12 1 := by
  refine few (n := 0) (v 12 1) o (h.2.imp (fun {a b} z e => ?_)) (fun x hx => ?_)
  · subst e
    exact ltk_irr v a z
  · have := (h.1 x).mp hx
    omega
end
section
/-! what holds of the belt at any time -/
def gItem (v : gV) (i : Nat) : Prop := v 0 i ≤ 1000000000 ∧ 1 ≤ v 1 i ∧ v 1 i ≤ 900 ∧ v 2 i ≤ v 12 0 ∧ v 3 i ≤ v 12 0 + 1 ∧ (v 3 i = 0 → v 4 i ≤ v 12 0) ∧ v 5 i ≤ 1000000200
def bn (v : gV) : Nat := sm (fun i => if v 3 i = 0 then 0 else 1) (v 12 1)
def gGate (v : gV) (g : Nat) : Prop := v 6 g ≤ 1 ∧ v 7 g ≤ 1 ∧ v 8 g ≤ 1000020000 ∧ 1 ≤ v 9 g ∧ v 9 g ≤ 1000 ∧ v 10 g ≤ v 11 g ∧ v 11 g ≤ bn v
def zer (v : gV) : Prop := ∀ a j, a ≤ 5 → v 12 1 < j → v a j = 0
def gInv (v : gV) : Prop := (1 ≤ v 12 0 ∧ v 12 0 ≤ 12) ∧ v 12 1 ≤ 400 ∧ v 12 2 ≤ 1000000000 ∧ (∀ i, 1 ≤ i → i < v 12 1 → v 0 i + v 1 i + 50 ≤ v 0 (i + 1)) ∧ (∀ i, 1 ≤ i → i ≤ v 12 1 → gItem v i) ∧ mono v ∧ (∀ g, g ≤ v 12 0 → gGate v g) ∧ zer v
theorem bn_le (v : gV) : bn v ≤ v 12 1 := by
  have h := sm_le (f := fun i => if v 3 i = 0 then 0 else 1) (c := 1) (v 12 1) (fun i _ _ => by (try dsimp only); split <;> omega)
  unfold bn
  omega
theorem at_lt {v : gV} (h : gInv v) {i : Nat} (hi : 1 ≤ i) : ∀ (d : Nat), i + d + 1 ≤ v 12 1 → v 0 i < v 0 (i + d + 1)
  | 0, hd => by
    have h1 := h.2.2.2.1 i hi (by omega)
    show v 0 i < v 0 (i + 1)
    omega
  | d + 1, hd => by
    have h1 := at_lt h hi d (by omega)
    have h2 := h.2.2.2.1 (i + d + 1) (by omega) (by omega)
    show v 0 i < v 0 (i + d + 1 + 1)
    omega
theorem at_mono {v : gV} (h : gInv v) {i j : Nat} (hi : 1 ≤ i) (hij : i < j) (hj : j ≤ v 12 1) : v 0 i < v 0 j := by
  have := at_lt h hi (j - i - 1) (by omega)
  rwa [show i + (j - i - 1) + 1 = j by omega] at this
theorem opv_le {v : gV} {i g : Nat} (h : v 6 g ≤ 1) : opv v i g ≤ 1 := by
  unfold opv
  split
  · omega
  · split
    · split <;> omega
    · exact h
theorem opv_last (v : gV) (i : Nat) : opv v i (v 12 0) = 1 := by
  unfold opv
  rw [if_pos rfl]
theorem bn_evt {v : gV} {t i g : Nat} (he : en v t i g) : bn (evt v i g) = bn v + (if opv v i g = 1 then 1 else 0) := by
  obtain ⟨h1, h2, h3, h4, h5, h6, h7⟩ := he
  have h := sm_at (f := fun j => if evt v i g 3 j = 0 then 0 else 1) (g := fun j => if v 3 j = 0 then 0 else 1) h1 (fun j hj => by (try dsimp only); rw [evt_i 3 (by decide) hj]) (v 12 1) h2
  have e1 : (if evt v i g 3 i = 0 then 0 else 1) = (if opv v i g = 1 then 1 else 0) := by
    try dsimp only
    rw [evt_3, h3]
    split <;> simp
  have e2 : (if v 3 i = 0 then 0 else 1) = 0 := by
    try dsimp only
    rw [h3]
    rfl
  rw [e1, e2] at h
  unfold bn
  rw [evt_k (a := 12) (by decide)]
  omega
theorem gInv_evt {v : gV} {t i g : Nat} (h : gInv v) (he : en v t i g) (ht : t ≤ 1000000000) : gInv (evt v i g) := by
  have hb := bn_evt he
  have hm := mono_evt h.2.2.2.2.2.1 he
  obtain ⟨⟨a1, a2⟩, a3, a4, a5, a6, a7, a8, a9⟩ := h
  obtain ⟨h1, h2, h3, h4, h5, h6, h7⟩ := he
  have e12 : ∀ b, evt v i g 12 b = v 12 b := fun b => evt_k (by decide)
  have e0 : ∀ b, evt v i g 0 b = v 0 b := fun b => evt_k (by decide)
  have e1 : ∀ b, evt v i g 1 b = v 1 b := fun b => evt_k (by decide)
  have e2 : ∀ b, evt v i g 2 b = v 2 b := fun b => evt_k (by decide)
  have e5 : ∀ b, evt v i g 5 b = v 5 b := fun b => evt_k (by decide)
  have e7 : ∀ b, evt v i g 7 b = v 7 b := fun b => evt_k (by decide)
  have e9 : ∀ b, evt v i g 9 b = v 9 b := fun b => evt_k (by decide)
  have og := opv_le (i := i) (a8 g h5).1
  refine ⟨by rw [e12]; exact ⟨a1, a2⟩, by rw [e12]; exact a3, by rw [e12]; exact a4, fun j j1 j2 => ?_, fun j j1 j2 => ?_, hm, fun k hk => ?_, fun a j ha hj => ?_⟩
  · rw [e12] at j2
    rw [e0, e1, e0]
    exact a5 j j1 j2
  · rw [e12] at j2
    have b := a6 j j1 j2
    unfold gItem at b ⊢
    rw [e0, e1, e2, e5, e12]
    by_cases e : j = i
    · subst e
      rw [evt_3, evt_4]
      by_cases ho : opv v j g = 1
      · rw [if_pos ho, if_pos ho]
        omega
      · rw [if_neg ho, if_neg ho]
        have hg : g ≠ v 12 0 := fun z => ho (by rw [z]; exact opv_last v j)
        omega
    · rw [evt_i 3 (by decide) e, evt_i 4 (by decide) e]
      exact b
  · rw [e12] at hk
    have b := a8 k hk
    have bi := a6 i h1 h2
    unfold gGate at b ⊢
    unfold gItem at bi
    rw [e7, e9, hb]
    by_cases e : k = g
    · subst e
      rw [evt_6, evt_8, evt_10, evt_11]
      by_cases ho : opv v i k = 1
      · rw [if_pos ho, if_pos ho, if_pos ho, ho]
        omega
      · rw [if_neg ho, if_neg ho, if_neg ho]
        omega
    · rw [evt_g 6 (by decide) e, evt_g 8 (by decide) e, evt_g 10 (by decide) e, evt_g 11 (by decide) e]
      split <;> omega
  · rw [e12] at hj
    rw [evt_ne (fun _ => by omega) (fun z => by omega)]
    exact a9 a j ha hj
/-! how many moves are left -/
def rm (v : gV) : Nat := sm (fun i => if v 3 i = 0 then v 12 0 + 1 - v 4 i else 0) (v 12 1)
theorem rm_le {v : gV} (h : gInv v) : rm v ≤ 5200 := by
  have h1 := sm_le (f := fun i => if v 3 i = 0 then v 12 0 + 1 - v 4 i else 0) (c := 13) (v 12 1) (fun i _ _ => by
    have := h.1
    try dsimp only
    split <;> omega)
  have h2 := h.2.1
  unfold rm
  omega
theorem rm_evt {v : gV} {t i g : Nat} (he : en v t i g) : rm (evt v i g) + 1 ≤ rm v := by
  obtain ⟨h1, h2, h3, h4, h5, h6, h7⟩ := he
  have h := sm_at (f := fun j => if evt v i g 3 j = 0 then v 12 0 + 1 - evt v i g 4 j else 0) (g := fun j => if v 3 j = 0 then v 12 0 + 1 - v 4 j else 0) h1 (fun j hj => by (try dsimp only); rw [evt_i 3 (by decide) hj, evt_i 4 (by decide) hj]) (v 12 1) h2
  have e1 : (if evt v i g 3 i = 0 then v 12 0 + 1 - evt v i g 4 i else 0) ≤ v 12 0 - g := by
    try dsimp only
    rw [evt_3, evt_4, h3, h4]
    by_cases ho : opv v i g = 1
    · rw [if_pos ho]
      simp
    · rw [if_neg ho, if_neg ho, if_pos rfl]
      omega
  have e2 : (if v 3 i = 0 then v 12 0 + 1 - v 4 i else 0) = v 12 0 + 1 - g := by
    try dsimp only
    rw [if_pos h3, h4]
  rw [e2] at h
  unfold rm
  rw [evt_k (a := 12) (by decide), evt_k (a := 12) (by decide)]
  omega
theorem rm_zero {v : gV} (h : rm v = 0) (t : Nat) : quiet v t := by
  intro i g he
  obtain ⟨h1, h2, h3, h4, h5, h6, h7⟩ := he
  have := sm_get (f := fun i => if v 3 i = 0 then v 12 0 + 1 - v 4 i else 0) h1 (v 12 1) h2
  try dsimp only at this
  rw [if_pos h3, h4] at this
  unfold rm at h
  omega
/-! quiet: nobody's front is due -/
theorem quiet_of {v : gV} {t : Nat} (h : ∀ i, 1 ≤ i → i ≤ v 12 1 → v 3 i = 0 → t < fr v i (v 4 i)) : quiet v t := by
  intro i g he
  obtain ⟨h1, h2, h3, h4, h5, h6, h7⟩ := he
  have := h i h1 h2 h3
  rw [h4] at this
  omega
theorem quiet_all {v : gV} {t : Nat} (hi : gInv v) (h : quiet v t) : ∀ (i : Nat), 1 ≤ i → i ≤ v 12 1 → v 3 i = 0 → t < fr v i (v 4 i) := by
  intro i
  induction i using Nat.strongRecOn with
  | _ i ih =>
    intro h1 h2 h3
    refine Nat.lt_of_not_le (fun hle => ?_)
    refine h i (v 4 i) ⟨h1, h2, h3, rfl, (hi.2.2.2.2.1 i h1 h2).2.2.2.2.2.1 h3, hle, fun j j1 j2 j3 j4 => ?_⟩
    have a := ih j j2 j1 (by omega) j3
    have b := at_mono hi j1 j2 h2
    rw [j4] at a
    unfold fr at a hle
    omega
/-! the order in which items come: what has come is ahead of what will come -/
def ahead (v : gV) (o : List Nat) : Prop := ∀ a, a ∈ o → ∀ j, 1 ≤ j → j ≤ v 12 1 → v 3 j = 0 → tm v a < fr v j (v 4 j) ∨ (tm v a = fr v j (v 4 j) ∧ a < j)
def best (v : gV) (i g : Nat) : Prop := ∀ j, 1 ≤ j → j ≤ v 12 1 → v 3 j = 0 → j ≠ i → fr v i g < fr v j (v 4 j) ∨ (fr v i g = fr v j (v 4 j) ∧ i < j)
theorem tm_evt {v : gV} {i g j : Nat} (h : j ≠ i) : tm (evt v i g) j = tm v j := by
  unfold tm
  rw [evt_k (by decide), evt_i 3 (by decide) h]
theorem tm_evt1 {v : gV} {i g : Nat} (h : opv v i g = 1) : tm (evt v i g) i = fr v i g := by
  unfold tm fr
  rw [evt_k (by decide), evt_3, if_pos h]
  omega
theorem came_ne {v : gV} {o : List Nat} {a i : Nat} (h : cameOK v o) (ha : a ∈ o) (hi : v 3 i = 0) : a ≠ i := fun e => by
  subst e
  exact ((h.1 a).mp ha).2.2 hi
theorem pw_keep {v : gV} {t i g : Nat} {o : List Nat} (hc : cameOK v o) (he : en v t i g) : o.Pairwise (ltk (evt v i g)) := by
  refine hc.2.imp_of_mem (fun {a b} ha hb hab => ?_)
  have e1 := tm_evt (v := v) (g := g) (came_ne hc ha he.2.2.1)
  have e2 := tm_evt (v := v) (g := g) (came_ne hc hb he.2.2.1)
  unfold ltk at hab ⊢
  rw [e1, e2]
  exact hab
theorem came_in {v : gV} {t i g : Nat} {o : List Nat} (hc : cameOK v o) (he : en v t i g) (hb : best v i g) (ha : ahead v o) (ho : opv v i g = 1) : cameOK (evt v i g) (o ++ [i]) ∧ ahead (evt v i g) (o ++ [i]) := by
  have pk := pw_keep (g := g) hc he
  obtain ⟨h1, h2, h3, h4, h5, h6, h7⟩ := he
  have e12 : ∀ b, evt v i g 12 b = v 12 b := fun b => evt_k (by decide)
  have t1 := tm_evt1 ho
  refine ⟨⟨fun j => ?_, ?_⟩, fun a ha2 j j1 j2 j3 => ?_⟩
  · rw [List.mem_append, List.mem_singleton, e12]
    by_cases e : j = i
    · subst e
      rw [evt_3, if_pos ho]
      exact ⟨fun _ => ⟨h1, h2, by omega⟩, fun _ => Or.inr rfl⟩
    · rw [evt_i 3 (by decide) e]
      constructor
      · rintro (z | z)
        · exact (hc.1 j).mp z
        · exact absurd z e
      · exact fun z => Or.inl ((hc.1 j).mpr z)
  · rw [List.pairwise_append]
    refine ⟨pk, List.pairwise_singleton _ _, fun a ha2 b hb2 => ?_⟩
    rw [List.mem_singleton] at hb2
    subst hb2
    have z := ha a ha2 b h1 h2 h3
    have e := tm_evt (v := v) (g := g) (came_ne hc ha2 h3)
    unfold ltk
    rw [t1, e]
    rw [h4] at z
    exact z
  · rw [e12] at j2
    have e : j ≠ i := fun z => by
      subst z
      rw [evt_3, if_pos ho] at j3
      omega
    rw [evt_i 3 (by decide) e] at j3
    rw [fr_evt, evt_i 4 (by decide) e]
    rcases List.mem_append.mp ha2 with z | z
    · rw [tm_evt (came_ne hc z h3)]
      exact ha a z j j1 j2 j3
    · rw [List.mem_singleton] at z
      subst z
      rw [t1]
      exact hb j j1 j2 j3 e
theorem came_on {v : gV} {t i g : Nat} {o : List Nat} (hc : cameOK v o) (he : en v t i g) (ha : ahead v o) (ho : opv v i g ≠ 1) : cameOK (evt v i g) o ∧ ahead (evt v i g) o := by
  have pk := pw_keep (g := g) hc he
  obtain ⟨h1, h2, h3, h4, h5, h6, h7⟩ := he
  have e12 : ∀ b, evt v i g 12 b = v 12 b := fun b => evt_k (by decide)
  refine ⟨⟨fun j => ?_, pk⟩, fun a ha2 j j1 j2 j3 => ?_⟩
  · rw [e12]
    by_cases e : j = i
    · subst e
      rw [evt_3, if_neg ho]
      exact hc.1 j
    · rw [evt_i 3 (by decide) e]
      exact hc.1 j
  · rw [e12] at j2
    rw [fr_evt, tm_evt (came_ne hc ha2 h3)]
    by_cases e : j = i
    · subst e
      have z := ha a ha2 j h1 h2 h3
      rw [evt_4, if_neg ho]
      unfold fr at z ⊢
      omega
    · rw [evt_i 3 (by decide) e] at j3
      rw [evt_i 4 (by decide) e]
      exact ha a ha2 j j1 j2 j3
/-! what came wrong -/
def wr (v : gV) (i : Nat) : Bool := decide (v 2 i ≠ 0) && decide (v 2 i ≠ v 3 i)
theorem wr_evt {v : gV} {i g j : Nat} (h : j ≠ i) : wr (evt v i g) j = wr v j := by
  unfold wr
  rw [evt_k (by decide), evt_i 3 (by decide) h]
theorem wr_filter {v : gV} {i g : Nat} {o : List Nat} (h : ∀ a, a ∈ o → a ≠ i) : o.filter (wr (evt v i g)) = o.filter (wr v) :=
  List.filter_congr (fun a ha => wr_evt (h a ha))
/-! what holds of the belt between two calls: v, what came o -/
def gAll (v : gV) (o : List Nat) : Prop := gInv v ∧ cameOK v o ∧ (∀ a, a ∈ o → tm v a ≤ v 12 2) ∧ (∀ i, 1 ≤ i → i ≤ v 12 1 → v 3 i = 0 → v 12 2 < fr v i (v 4 i))
theorem gAll_ahead {v : gV} {o : List Nat} (h : gAll v o) : ahead v o := fun a ha j j1 j2 j3 => by
  have := h.2.2.1 a ha
  have := h.2.2.2 j j1 j2 j3
  omega
/-! a pass of time to t: the only answer -/
def passed (v : gV) (o : List Nat) (t : Nat) (v' : gV) (o' : List Nat) : Prop := ∃ (es : List (Nat × Nat)) (u : gV), run t es v u ∧ quiet u t ∧ v' = up2 u 12 2 t ∧ cameOK u o'
theorem passed_one {v v1 v2 : gV} {o o1 o2 : List Nat} {t : Nat} (hm : mono v) (h1 : passed v o t v1 o1) (h2 : passed v o t v2 o2) : v1 = v2 ∧ o1 = o2 := by
  obtain ⟨es, u, a1, a2, a3, a4⟩ := h1
  obtain ⟨fs, w, b1, b2, b3, b4⟩ := h2
  have e : u = w := run_same es v u hm a1 a2 fs w b1 b2
  subst e
  exact ⟨a3.trans b3.symm, came_one a4 b4⟩
theorem run_inv {t : Nat} (ht : t ≤ 1000000000) : ∀ (es : List (Nat × Nat)) (v w : gV), gInv v → run t es v w → gInv w ∧ (∀ a b, a ≠ 3 → a ≠ 4 → a ≠ 6 → a ≠ 8 → a ≠ 10 → a ≠ 11 → w a b = v a b) ∧ (∀ i, v 3 i ≠ 0 → w 3 i = v 3 i) ∧ (∀ i, v 3 i = 0 → w 3 i ≠ 0 → tm w i ≤ t)
  | [], v, w, h, hr => by
    have e : w = v := hr
    subst e
    exact ⟨h, fun _ _ _ _ _ _ _ _ => rfl, fun _ _ => rfl, fun i a b => absurd a b⟩
  | q :: es, v, w, h, hr => by
    obtain ⟨i, g⟩ := q
    have he : en v t i g := hr.1
    have hr : run t es (evt v i g) w := hr.2
    obtain ⟨b1, b2, b3, b4⟩ := run_inv ht es (evt v i g) w (gInv_evt h he ht) hr
    refine ⟨b1, fun a b n3 n4 n6 n8 n10 n11 => ?_, fun j hj => ?_, fun j hj hw => ?_⟩
    · rw [b2 a b n3 n4 n6 n8 n10 n11, evt_k ⟨n3, n4, n6, n8, n10, n11⟩]
    · have e : j ≠ i := fun z => by subst z; exact hj he.2.2.1
      have e2 := evt_i (v := v) (i := i) (g := g) 3 (by decide) e
      rw [b3 j (by rw [e2]; exact hj), e2]
    · by_cases e : j = i
      · subst e
        by_cases ho : opv v j g = 1
        · have e3 := b3 j (by rw [evt_3, if_pos ho]; omega)
          have e0 := b2 0 j (by decide) (by decide) (by decide) (by decide) (by decide) (by decide)
          have t1 := tm_evt1 ho
          have h6 := he.2.2.2.2.2.1
          unfold tm at t1 ⊢
          rw [e3, e0]
          omega
        · exact b4 j (by rw [evt_3, if_neg ho]; exact hj) hw
      · exact b4 j (by rw [evt_i 3 (by decide) e]; exact hj) hw
theorem passed_all {v v' : gV} {o o' : List Nat} {t : Nat} (h : gAll v o) (ht : v 12 2 ≤ t) (ht2 : t ≤ 1000000000) (hp : passed v o t v' o') : gAll v' o' ∧ v' 12 2 = t ∧ (∀ a b, a ≠ 3 → a ≠ 4 → a ≠ 6 → a ≠ 8 → a ≠ 10 → a ≠ 11 → a ≠ 12 → v' a b = v a b) ∧ v' 12 0 = v 12 0 ∧ v' 12 1 = v 12 1 ∧ v' 12 3 = v 12 3 := by
  obtain ⟨es, u, hr, hq, rfl, hc⟩ := hp
  obtain ⟨b1, b2, b3, b4⟩ := run_inv ht2 es v u h.1 hr
  have k12 : ∀ b, u 12 b = v 12 b := fun b => b2 12 b (by decide) (by decide) (by decide) (by decide) (by decide) (by decide)
  have e : ∀ a b, a ≠ 12 → up2 u 12 2 t a b = u a b := fun a b n => up2_k u 2 t b n
  have e0 : up2 u 12 2 t 12 0 = u 12 0 := up2_i u 12 t 12 (by decide)
  have e1 : up2 u 12 2 t 12 1 = u 12 1 := up2_i u 12 t 12 (by decide)
  have e3 : up2 u 12 2 t 12 3 = u 12 3 := up2_i u 12 t 12 (by decide)
  have e2 : up2 u 12 2 t 12 2 = t := up2_self u 12 2 t
  have etm : ∀ i, tm (up2 u 12 2 t) i = tm u i := fun i => by
    unfold tm
    rw [e 0 i (by decide), e 3 i (by decide)]
  have efr : ∀ i g, fr (up2 u 12 2 t) i g = fr u i g := fun i g => by
    unfold fr
    rw [e 0 i (by decide)]
  have ebn : bn (up2 u 12 2 t) = bn u := by
    unfold bn
    rw [e1]
    exact sm_eq _ (fun i _ _ => by (try dsimp only); rw [e 3 i (by decide)])
  refine ⟨⟨?_, ?_, ?_, ?_⟩, e2, fun a b n3 n4 n6 n8 n10 n11 n12 => by rw [e a b n12, b2 a b n3 n4 n6 n8 n10 n11], by rw [e0, k12], by rw [e1, k12], by rw [e3, k12]⟩
  · obtain ⟨a1, a2, a3, a4, a5, a6, a7, a8⟩ := b1
    refine ⟨by rw [e0]; exact a1, by rw [e1]; exact a2, by rw [e2]; exact ht2, fun i i1 i2 => ?_, fun i i1 i2 => ?_, fun j i j1 j2 j3 j4 j5 => ?_, fun g hg => ?_, fun a j ha hj => ?_⟩
    · rw [e1] at i2
      rw [e 0 i (by decide), e 1 i (by decide), e 0 (i + 1) (by decide)]
      exact a4 i i1 i2
    · rw [e1] at i2
      have := a5 i i1 i2
      unfold gItem at this ⊢
      rw [e 0 i (by decide), e 1 i (by decide), e 2 i (by decide), e 3 i (by decide), e 4 i (by decide), e 5 i (by decide), e0]
      exact this
    · rw [e1] at j3
      rw [e 3 j (by decide)] at j4
      rw [e 3 i (by decide)] at j5
      rw [e 4 i (by decide), e 4 j (by decide)]
      exact a6 j i j1 j2 j3 j4 j5
    · rw [e0] at hg
      have := a7 g hg
      unfold gGate at this ⊢
      rw [e 6 g (by decide), e 7 g (by decide), e 8 g (by decide), e 9 g (by decide), e 10 g (by decide), e 11 g (by decide), ebn]
      exact this
    · rw [e1] at hj
      rw [e a j (by omega)]
      exact a8 a j ha hj
  · refine ⟨fun i => ?_, hc.2.imp (fun {a b} z => ?_)⟩
    · rw [e1, e 3 i (by decide)]
      exact hc.1 i
    · unfold ltk at z ⊢
      rw [etm, etm]
      exact z
  · intro a ha
    rw [e2, etm]
    have hm := (hc.1 a).mp ha
    by_cases z : v 3 a = 0
    · exact b4 a z hm.2.2
    · have hz : tm u a = tm v a := by
        unfold tm
        rw [b3 a z, b2 0 a (by decide) (by decide) (by decide) (by decide) (by decide) (by decide)]
      rw [hz]
      have := h.2.2.1 a ((h.2.1.1 a).mpr ⟨hm.1, by rw [← k12]; exact hm.2.1, z⟩)
      omega
  · intro i i1 i2 i3
    rw [e1] at i2
    rw [e 3 i (by decide)] at i3
    rw [e2, efr, e 4 i (by decide)]
    exact quiet_all b1 hq i i1 i2 i3
end
section
/-! lines of items, one behind the other: P 0 p first, P 1 p last (0: none), P 2 i the one behind i -/
def lastD : List Nat → Nat
  | [] => 0
  | [a] => a
  | _ :: b :: r => lastD (b :: r)
theorem lastD_snoc (i : Nat) : ∀ (l : List Nat), lastD (l ++ [i]) = i
  | [] => rfl
  | [a] => rfl
  | a :: b :: r => lastD_snoc i (b :: r)
theorem lastD_mem : ∀ (l : List Nat), l ≠ [] → lastD l ∈ l
  | [], h => absurd rfl h
  | [a], _ => List.mem_cons_self
  | a :: b :: r, _ => List.mem_cons_of_mem _ (lastD_mem (b :: r) (by simp))
def chn (bh : Nat → Nat) : List Nat → Prop
  | [] => True
  | [i] => bh i = 0
  | i :: j :: r => bh i = j ∧ chn bh (j :: r)
theorem chn_cong {b1 b2 : Nat → Nat} : ∀ (l : List Nat), (∀ x, x ∈ l → b1 x = b2 x) → chn b1 l → chn b2 l
  | [], _, _ => trivial
  | [i], h, hc => by
    have h1 : b1 i = 0 := hc
    show b2 i = 0
    rw [← h i List.mem_cons_self]
    exact h1
  | i :: j :: r, h, hc => ⟨by rw [← h i List.mem_cons_self]; exact hc.1, chn_cong (j :: r) (fun x hx => h x (List.mem_cons_of_mem _ hx)) hc.2⟩
theorem chn_head {bh : Nat → Nat} {i : Nat} {l : List Nat} (h : chn bh (i :: l)) : bh i = l.headD 0 := by
  cases l with
  | nil => exact h
  | cons j r => exact h.1
theorem chn_tail {bh : Nat → Nat} {i : Nat} {l : List Nat} (h : chn bh (i :: l)) : chn bh l := by
  cases l with
  | nil => trivial
  | cons j r => exact h.2
theorem chn_snoc {bh b2 : Nat → Nat} {i : Nat} (hi : b2 i = 0) : ∀ (l : List Nat), chn bh l → l.Pairwise (· < ·) → (∀ x, x ∈ l → x ≠ lastD l → b2 x = bh x) → (l ≠ [] → b2 (lastD l) = i) → chn b2 (l ++ [i])
  | [], _, _, _, _ => hi
  | [a], _, _, _, h2 => ⟨h2 (by simp), hi⟩
  | a :: b :: r, hc, hp, h1, h2 => by
    rw [List.pairwise_cons] at hp
    have hl : lastD (b :: r) ∈ b :: r := lastD_mem _ (by simp)
    have hne : a ≠ lastD (b :: r) := fun e => by
      have := hp.1 _ hl
      omega
    refine ⟨?_, chn_snoc hi (b :: r) hc.2 hp.2 (fun x hx hn => h1 x (List.mem_cons_of_mem _ hx) hn) (fun _ => h2 (by simp))⟩
    rw [h1 a List.mem_cons_self hne]
    exact hc.1
def ln (P : gV) (p : Nat) (l : List Nat) : Prop := P 0 p = l.headD 0 ∧ P 1 p = lastD l ∧ chn (P 2) l
def lvP (P : gV) (p i : Nat) : gV := if P 2 i = 0 then up2 (up2 (up2 P 0 p (P 2 i)) 2 i 0) 1 p 0 else up2 (up2 P 0 p (P 2 i)) 2 i 0
def jnP (P : gV) (p i : Nat) : gV := up2 (if P 1 p = 0 then up2 P 0 p i else up2 P 2 (P 1 p) i) 1 p i
theorem lvP_2 (P : gV) (p i j : Nat) : lvP P p i 2 j = if j = i then 0 else P 2 j := by
  unfold lvP
  split <;> simp [up2]
theorem lvP_0 (P : gV) (p i q : Nat) : lvP P p i 0 q = if q = p then P 2 i else P 0 q := by
  unfold lvP
  split <;> simp [up2]
theorem lvP_1 (P : gV) (p i q : Nat) : lvP P p i 1 q = if q = p ∧ P 2 i = 0 then 0 else P 1 q := by
  unfold lvP
  split <;> rename_i h <;> simp [up2, h]
theorem jnP_1 (P : gV) (p i q : Nat) : jnP P p i 1 q = if q = p then i else P 1 q := by
  unfold jnP
  split <;> simp [up2]
theorem jnP_0 (P : gV) (p i q : Nat) : jnP P p i 0 q = if q = p ∧ P 1 p = 0 then i else P 0 q := by
  unfold jnP
  split <;> rename_i h <;> simp [up2, h]
theorem jnP_2 (P : gV) (p i j : Nat) : jnP P p i 2 j = if j = P 1 p ∧ P 1 p ≠ 0 then i else P 2 j := by
  unfold jnP
  split <;> rename_i h <;> simp [up2, h]
theorem ln_leave {P : gV} {p i : Nat} {r : List Nat} (h : ln P p (i :: r)) (hp : (i :: r).Pairwise (· < ·)) (h1 : ∀ x, x ∈ r → 1 ≤ x) : ln (lvP P p i) p r := by
  obtain ⟨a1, a2, a3⟩ := h
  rw [List.pairwise_cons] at hp
  have e := chn_head a3
  refine ⟨by rw [lvP_0, if_pos rfl, e], ?_, chn_cong r (fun x hx => ?_) (chn_tail a3)⟩
  · rw [lvP_1, e]
    cases r with
    | nil => simp [lastD]
    | cons b r =>
      have := h1 b List.mem_cons_self
      rw [if_neg (by rintro ⟨-, z⟩; simp at z; omega), a2]
      rfl
  · have := hp.1 x hx
    show P 2 x = lvP P p i 2 x
    rw [lvP_2, if_neg (by omega)]
theorem ln_leave_ne {P : gV} {p q i : Nat} {l : List Nat} (h : ln P q l) (hq : q ≠ p) (hi : i ∉ l) : ln (lvP P p i) q l := by
  obtain ⟨a1, a2, a3⟩ := h
  refine ⟨by rw [lvP_0, if_neg hq]; exact a1, by rw [lvP_1, if_neg (fun z => hq z.1)]; exact a2, chn_cong l (fun x hx => ?_) a3⟩
  show P 2 x = lvP P p i 2 x
  rw [lvP_2, if_neg (fun e => hi (by rw [← e]; exact hx))]
theorem ln_join {P : gV} {p i : Nat} {l : List Nat} (h : ln P p l) (hp : l.Pairwise (· < ·)) (h1 : ∀ x, x ∈ l → 1 ≤ x ∧ x < i) (hb : P 2 i = 0) : ln (jnP P p i) p (l ++ [i]) := by
  obtain ⟨a1, a2, a3⟩ := h
  refine ⟨?_, by rw [jnP_1, if_pos rfl, lastD_snoc], ?_⟩
  · rw [jnP_0]
    cases l with
    | nil => rw [if_pos ⟨rfl, a2⟩]; rfl
    | cons a r =>
      have := h1 _ (lastD_mem (a :: r) (by simp))
      rw [if_neg (by rw [a2]; omega), a1]
      rfl
  · refine chn_snoc (bh := P 2) ?_ l a3 hp (fun x hx hn => ?_) (fun hl => ?_)
    · show jnP P p i 2 i = 0
      rw [jnP_2, if_neg ?_]
      · exact hb
      · rintro ⟨z1, z2⟩
        rw [a2] at z1 z2
        by_cases e : l = []
        · subst e
          exact z2 rfl
        · have := h1 _ (lastD_mem l e)
          omega
    · show jnP P p i 2 x = P 2 x
      rw [jnP_2, if_neg (fun z => hn (z.1.trans a2))]
    · show jnP P p i 2 (lastD l) = i
      have := h1 _ (lastD_mem l hl)
      rw [jnP_2, if_pos ⟨a2.symm, by rw [a2]; omega⟩]
theorem ln_join_ne {P : gV} {p q i : Nat} {l k : List Nat} (h : ln P q l) (hk : ln P p k) (hq : q ≠ p) (hi : ∀ x, x ∈ l → x ∉ k) (h1 : ∀ x, x ∈ l → 1 ≤ x) : ln (jnP P p i) q l := by
  obtain ⟨a1, a2, a3⟩ := h
  refine ⟨by rw [jnP_0, if_neg (fun z => hq z.1)]; exact a1, by rw [jnP_1, if_neg hq]; exact a2, chn_cong l (fun x hx => ?_) a3⟩
  show P 2 x = jnP P p i 2 x
  rw [jnP_2, if_neg ?_]
  rintro ⟨z1, z2⟩
  rw [hk.2.1] at z1 z2
  have hne : k ≠ [] := fun e => by subst e; exact z2 rfl
  exact hi x hx (by rw [z1]; exact lastD_mem k hne)
/-! the lines of the belt -/
def Lk (v P : gV) (L : Nat → List Nat) : Prop := (∀ p, p ≤ v 12 0 → (∀ i, i ∈ L p ↔ (1 ≤ i ∧ i ≤ v 12 1 ∧ v 3 i = 0 ∧ v 4 i = p)) ∧ (L p).Pairwise (· < ·) ∧ ln P p (L p)) ∧ (∀ i, (1 ≤ i ∧ i ≤ v 12 1 ∧ v 3 i = 0) ∨ P 2 i = 0)
theorem Lk_head {v P : gV} {L : Nat → List Nat} {i p : Nat} {r : List Nat} (h : Lk v P L) (hp : p ≤ v 12 0) (e : L p = i :: r) : 1 ≤ i ∧ i ≤ v 12 1 ∧ v 3 i = 0 ∧ v 4 i = p ∧ ∀ j, 1 ≤ j → j < i → v 3 j = 0 → v 4 j ≠ p := by
  obtain ⟨h1, h2, h3⟩ := h.1 p hp
  have hm := (h1 i).mp (by rw [e]; exact List.mem_cons_self)
  refine ⟨hm.1, hm.2.1, hm.2.2.1, hm.2.2.2, fun j j1 j2 j3 j4 => ?_⟩
  have hj := (h1 j).mpr ⟨j1, by omega, j3, j4⟩
  rw [e] at hj h2
  rw [List.pairwise_cons] at h2
  rcases List.mem_cons.mp hj with z | z
  · omega
  · have := h2.1 j z
    omega
theorem Lk_first {v P : gV} {L : Nat → List Nat} {p : Nat} (h : Lk v P L) (hp : p ≤ v 12 0) : (P 0 p = 0 ∧ L p = []) ∨ ∃ i r, L p = i :: r ∧ P 0 p = i ∧ 1 ≤ i := by
  obtain ⟨h1, h2, h3⟩ := h.1 p hp
  cases e : L p with
  | nil =>
    rw [e] at h3
    exact Or.inl ⟨h3.1, rfl⟩
  | cons i r =>
    have hm := (h1 i).mp (by rw [e]; exact List.mem_cons_self)
    rw [e] at h3
    exact Or.inr ⟨i, r, rfl, h3.1, hm.1⟩
theorem Lk_in {v P : gV} {L : Nat → List Nat} {t i p : Nat} {r : List Nat} (h : Lk v P L) (he : en v t i p) (e : L p = i :: r) (ho : opv v i p = 1) : Lk (evt v i p) (lvP P p i) (va_up L p r) := by
  obtain ⟨b1, b2, b3, b4, b5, b6, b7⟩ := he
  have e12 : ∀ b, evt v i p 12 b = v 12 b := fun b => evt_k (by decide)
  refine ⟨fun q hq => ?_, fun j => ?_⟩
  · rw [e12] at hq
    obtain ⟨h1, h2, h3⟩ := h.1 q hq
    by_cases eq : q = p
    · subst eq
      rw [va_up_self]
      rw [e] at h2 h3
      have h2' := List.pairwise_cons.mp h2
      refine ⟨fun j => ?_, h2'.2, ln_leave h3 h2 (fun x hx => ((h1 x).mp (by rw [e]; exact List.mem_cons_of_mem _ hx)).1)⟩
      rw [e12]
      by_cases ej : j = i
      · subst ej
        rw [evt_3, if_pos ho]
        constructor
        · intro hx
          have := h2'.1 j hx
          omega
        · rintro ⟨-, -, z, -⟩
          omega
      · rw [evt_i 3 (by decide) ej, evt_i 4 (by decide) ej, ← h1 j, e, List.mem_cons]
        exact ⟨fun z => Or.inr z, fun z => z.elim (fun y => absurd y ej) id⟩
    · rw [va_up_ne _ _ eq]
      refine ⟨fun j => ?_, h2, ln_leave_ne h3 eq (fun z => eq (((h1 i).mp z).2.2.2.symm.trans b4))⟩
      rw [e12]
      by_cases ej : j = i
      · subst ej
        rw [evt_3, if_pos ho]
        constructor
        · intro z
          exact absurd (((h1 j).mp z).2.2.2.symm.trans b4) eq
        · rintro ⟨-, -, z, -⟩
          omega
      · rw [evt_i 3 (by decide) ej, evt_i 4 (by decide) ej]
        exact h1 j
  · rw [lvP_2, e12]
    by_cases ej : j = i
    · exact Or.inr (if_pos ej)
    · rw [if_neg ej, evt_i 3 (by decide) ej]
      exact h.2 j
theorem Lk_on {v P : gV} {L : Nat → List Nat} {t i p : Nat} {r : List Nat} (hm : mono v) (h : Lk v P L) (he : en v t i p) (e : L p = i :: r) (ho : opv v i p ≠ 1) : Lk (evt v i p) (jnP (lvP P p i) (p + 1) i) (va_up (va_up L p r) (p + 1) (L (p + 1) ++ [i])) := by
  obtain ⟨b1, b2, b3, b4, b5, b6, b7⟩ := he
  have hpl : p + 1 ≤ v 12 0 := by
    have : p ≠ v 12 0 := fun z => ho (by rw [z]; exact opv_last v i)
    omega
  have e12 : ∀ b, evt v i p 12 b = v 12 b := fun b => evt_k (by decide)
  have hi0 : lvP P p i 2 i = 0 := by rw [lvP_2, if_pos rfl]
  obtain ⟨n1, n2, n3⟩ := h.1 (p + 1) hpl
  have hin : i ∉ L (p + 1) := fun z => by
    have := ((n1 i).mp z).2.2.2
    omega
  have n3' : ln (lvP P p i) (p + 1) (L (p + 1)) := ln_leave_ne n3 (by omega) hin
  have hlt : ∀ x, x ∈ L (p + 1) → 1 ≤ x ∧ x < i := fun x hx => by
    have hx2 := (n1 x).mp hx
    refine ⟨hx2.1, Nat.lt_of_not_le (fun z => ?_)⟩
    rcases Nat.lt_or_eq_of_le z with z | z
    · have := hm i x b1 z hx2.2.1 b3 hx2.2.2.1
      omega
    · subst z
      exact hin hx
  refine ⟨fun q hq => ?_, fun j => ?_⟩
  · rw [e12] at hq
    obtain ⟨h1, h2, h3⟩ := h.1 q hq
    by_cases eq1 : q = p + 1
    · subst eq1
      rw [va_up_self]
      refine ⟨fun j => ?_, ?_, ln_join n3' h2 hlt hi0⟩
      · rw [e12, List.mem_append, List.mem_singleton]
        by_cases ej : j = i
        · subst ej
          rw [evt_3, if_neg ho, evt_4, if_neg ho, b3, b4]
          exact ⟨fun _ => ⟨b1, b2, rfl, rfl⟩, fun _ => Or.inr rfl⟩
        · rw [evt_i 3 (by decide) ej, evt_i 4 (by decide) ej, h1 j]
          exact ⟨fun z => z.elim id (fun y => absurd y ej), fun z => Or.inl z⟩
      · rw [List.pairwise_append]
        refine ⟨h2, List.pairwise_singleton _ _, fun a ha b hb => ?_⟩
        rw [List.mem_singleton] at hb
        subst hb
        exact (hlt a ha).2
    · rw [va_up_ne _ _ eq1]
      by_cases eq : q = p
      · subst eq
        rw [va_up_self]
        rw [e] at h2 h3
        have h2' := List.pairwise_cons.mp h2
        have hr1 : ∀ x, x ∈ r → 1 ≤ x ∧ x ≤ v 12 1 ∧ v 3 x = 0 ∧ v 4 x = q := fun x hx => (h1 x).mp (by rw [e]; exact List.mem_cons_of_mem _ hx)
        refine ⟨fun j => ?_, h2'.2, ln_join_ne (ln_leave h3 h2 (fun x hx => (hr1 x hx).1)) n3' (by omega) (fun x hx z => ?_) (fun x hx => (hr1 x hx).1)⟩
        · rw [e12]
          by_cases ej : j = i
          · subst ej
            rw [evt_4, if_neg ho, b4]
            constructor
            · intro hx
              have := h2'.1 j hx
              omega
            · rintro ⟨-, -, -, z⟩
              omega
          · rw [evt_i 3 (by decide) ej, evt_i 4 (by decide) ej, ← h1 j, e, List.mem_cons]
            exact ⟨fun z => Or.inr z, fun z => z.elim (fun y => absurd y ej) id⟩
        · have z1 := (hr1 x hx).2.2.2
          have z2 := ((n1 x).mp z).2.2.2
          omega
      · rw [va_up_ne _ _ eq]
        refine ⟨fun j => ?_, h2, ln_join_ne (ln_leave_ne h3 eq (fun z => eq (((h1 i).mp z).2.2.2.symm.trans b4))) n3' eq1 (fun x hx z => ?_) (fun x hx => ((h1 x).mp hx).1)⟩
        · rw [e12]
          by_cases ej : j = i
          · subst ej
            rw [evt_4, if_neg ho, b4]
            constructor
            · intro z
              exact absurd (((h1 j).mp z).2.2.2.symm.trans b4) eq
            · rintro ⟨-, -, -, z⟩
              exact absurd z.symm eq1
          · rw [evt_i 3 (by decide) ej, evt_i 4 (by decide) ej]
            exact h1 j
        · have z1 := ((h1 x).mp hx).2.2.2
          have z2 := ((n1 x).mp z).2.2.2
          omega
  · rw [e12]
    by_cases ej : j = i
    · subst ej
      rw [evt_3, if_neg ho]
      exact Or.inl ⟨b1, b2, b3⟩
    · rw [evt_i 3 (by decide) ej]
      by_cases hz : 1 ≤ j ∧ j ≤ v 12 1 ∧ v 3 j = 0
      · exact Or.inl hz
      · refine Or.inr ?_
        have z := (h.2 j).resolve_left hz
        rw [jnP_2, if_neg ?_, lvP_2, if_neg ej]
        · exact z
        · rintro ⟨z1, z2⟩
          rw [n3'.2.1] at z1 z2
          have hne : L (p + 1) ≠ [] := fun y => by rw [y] at z2; exact z2 rfl
          have hm2 := (n1 _).mp (lastD_mem _ hne)
          rw [← z1] at hm2
          exact hz ⟨hm2.1, hm2.2.1, hm2.2.2.1⟩
/-! the next place: lines looked at from the far end down to p; pl the best so far (0 none, place + 1), ea its time -/
def nb (v : gV) (L : Nat → List Nat) (t p pl ea : Nat) : Prop := ((pl = 0 ∧ ea = t + 1) ∨ ∃ q0 i r, pl = q0 + 1 ∧ p ≤ q0 ∧ q0 ≤ v 12 0 ∧ L q0 = i :: r ∧ ea = fr v i q0 ∧ ea ≤ t) ∧ ∀ q, p ≤ q → q ≤ v 12 0 → ∀ j r, L q = j :: r → ea ≤ fr v j q ∧ (fr v j q = ea → q + 1 ≤ pl ∨ pl = 0)
theorem nb_top (v : gV) (L : Nat → List Nat) (t : Nat) : nb v L t (v 12 0 + 1) 0 (t + 1) := ⟨Or.inl ⟨rfl, rfl⟩, fun q h1 h2 => by omega⟩
theorem nb_none {v : gV} {L : Nat → List Nat} {t p pl ea : Nat} (h : nb v L t (p + 1) pl ea) (e : L p = []) : nb v L t p pl ea := by
  refine ⟨?_, fun q h1 h2 j r hq => ?_⟩
  · rcases h.1 with z | ⟨q0, i, r, a1, a2, a3⟩
    · exact Or.inl z
    · exact Or.inr ⟨q0, i, r, a1, by omega, a3⟩
  · by_cases z : q = p
    · subst z
      rw [e] at hq
      cases hq
    · exact h.2 q (by omega) h2 j r hq
theorem nb_keep {v : gV} {L : Nat → List Nat} {t p pl ea i : Nat} {r : List Nat} (h : nb v L t (p + 1) pl ea) (e : L p = i :: r) (hn : ¬ fr v i p < ea) : nb v L t p pl ea := by
  refine ⟨?_, fun q h1 h2 j r2 hq => ?_⟩
  · rcases h.1 with z | ⟨q0, i, r, a1, a2, a3⟩
    · exact Or.inl z
    · exact Or.inr ⟨q0, i, r, a1, by omega, a3⟩
  · by_cases z : q = p
    · subst z
      rw [e] at hq
      cases hq
      refine ⟨by omega, fun _ => ?_⟩
      rcases h.1 with y | ⟨q0, i0, r0, a1, a2, a3⟩
      · exact Or.inr y.1
      · left
        omega
    · exact h.2 q (by omega) h2 j r2 hq
theorem nb_take {v : gV} {L : Nat → List Nat} {t p pl ea i : Nat} {r : List Nat} (h : nb v L t (p + 1) pl ea) (hp : p ≤ v 12 0) (e : L p = i :: r) (hn : fr v i p < ea) : nb v L t p (p + 1) (fr v i p) := by
  have hea : ea ≤ t + 1 := by
    rcases h.1 with z | ⟨q0, i, r, a1, a2, a3, a4, a5, a6⟩ <;> omega
  refine ⟨Or.inr ⟨p, i, r, rfl, Nat.le_refl _, hp, e, rfl, by omega⟩, fun q h1 h2 j r2 hq => ?_⟩
  by_cases z : q = p
  · subst z
    rw [e] at hq
    cases hq
    exact ⟨Nat.le_refl _, fun _ => Or.inl (Nat.le_refl _)⟩
  · have := (h.2 q (by omega) h2 j r2 hq).1
    exact ⟨by omega, fun y => by omega⟩
theorem nb_quiet {v P : gV} {L : Nat → List Nat} {t ea : Nat} (hi : gInv v) (hL : Lk v P L) (h : nb v L t 0 0 ea) : quiet v t := by
  have hea : ea = t + 1 := by
    rcases h.1 with z | ⟨q0, i, r, a1, a2⟩
    · exact z.2
    · omega
  intro i g he
  obtain ⟨b1, b2, b3, b4, b5, b6, b7⟩ := he
  obtain ⟨h1, h2, h3⟩ := hL.1 g b5
  have hm := (h1 i).mpr ⟨b1, b2, b3, b4⟩
  cases e : L g with
  | nil =>
    rw [e] at hm
    cases hm
  | cons j r =>
    have hj := Lk_head hL b5 e
    have z := (h.2 g (Nat.zero_le _) b5 j r e).1
    rw [e] at hm h2
    rw [List.pairwise_cons] at h2
    rcases List.mem_cons.mp hm with y | y
    · subst y
      omega
    · have y2 := h2.1 i y
      have := at_mono hi hj.1 y2 b2
      unfold fr at z b6
      omega
theorem nb_best {v P : gV} {L : Nat → List Nat} {t q0 ea : Nat} (hi : gInv v) (hL : Lk v P L) (h : nb v L t 0 (q0 + 1) ea) : ∃ i r, L q0 = i :: r ∧ q0 ≤ v 12 0 ∧ en v t i q0 ∧ best v i q0 := by
  rcases h.1 with z | ⟨q1, i, r, a1, a2, a3, a4, a5, a6⟩
  · omega
  · have e1 : q1 = q0 := by omega
    subst e1
    have hj := Lk_head hL a3 a4
    refine ⟨i, r, a4, a3, ⟨hj.1, hj.2.1, hj.2.2.1, hj.2.2.2.1, a3, by omega, hj.2.2.2.2⟩, fun j j1 j2 j3 j4 => ?_⟩
    have hq : v 4 j ≤ v 12 0 := (hi.2.2.2.2.1 j j1 j2).2.2.2.2.2.1 j3
    obtain ⟨h1, h2, h3⟩ := hL.1 (v 4 j) hq
    have hm := (h1 j).mpr ⟨j1, j2, j3, rfl⟩
    cases e : L (v 4 j) with
    | nil =>
      rw [e] at hm
      cases hm
    | cons k s =>
      have hk := Lk_head hL hq e
      have z := h.2 (v 4 j) (Nat.zero_le _) hq k s e
      rw [e] at hm h2
      rw [List.pairwise_cons] at h2
      rcases List.mem_cons.mp hm with y | y
      · subst y
        rw [← a5]
        rcases Nat.lt_or_eq_of_le z.1 with x | x
        · exact Or.inl x
        · refine Or.inr ⟨x, ?_⟩
          have x2 := z.2 x.symm
          have x3 : v 4 j ≤ q1 := by omega
          rcases Nat.lt_or_eq_of_le x3 with w | w
          · refine Nat.lt_of_not_le (fun hle => ?_)
            rcases Nat.lt_or_eq_of_le hle with u | u
            · have := at_mono hi j1 u hj.2.1
              rw [a5] at x
              unfold fr at x
              omega
            · exact j4 u
          · rw [w, a4] at e
            injection e with e1 e2
            exact absurd e1.symm j4
      · have y2 := h2.1 j y
        have := at_mono hi hk.1 y2 j2
        left
        have z1 := z.1
        rw [a5] at z1
        unfold fr at z1 ⊢
        omega
/-! places of a list -/
def oat (o : List Nat) (k : Nat) : Nat := o.getD k 0
theorem oat_get {o : List Nat} {k : Nat} (h : k < o.length) : oat o k = o[k] := by
  unfold oat
  simp [h]
theorem oat_mem {o : List Nat} {k : Nat} (h : k < o.length) : oat o k ∈ o := by
  rw [oat_get h]
  exact List.getElem_mem h
theorem mem_oat {o : List Nat} {x : Nat} (h : x ∈ o) : ∃ k, k < o.length ∧ oat o k = x := by
  obtain ⟨k, hk, e⟩ := List.getElem_of_mem h
  exact ⟨k, hk, by rw [oat_get hk]; exact e⟩
theorem oat_snoc_lt {o : List Nat} {i k : Nat} (h : k < o.length) : oat (o ++ [i]) k = oat o k := by
  rw [oat_get h, oat_get (by rw [List.length_append]; omega), List.getElem_append_left h]
theorem oat_snoc (o : List Nat) (i : Nat) : oat (o ++ [i]) o.length = i := by
  rw [oat_get (by rw [List.length_append]; simp)]
  simp
def insAt (o : List Nat) (p i : Nat) : List Nat := o.take p ++ i :: o.drop p
theorem insAt_len {o : List Nat} {p i : Nat} (h : p ≤ o.length) : (insAt o p i).length = o.length + 1 := by
  unfold insAt
  simp
  omega
theorem insAt_mem {o : List Nat} {p i x : Nat} : x ∈ insAt o p i ↔ x = i ∨ x ∈ o := by
  have e : ∀ y, y ∈ o ↔ y ∈ o.take p ∨ y ∈ o.drop p := fun y => by
    rw [← List.mem_append, List.take_append_drop]
  unfold insAt
  rw [List.mem_append, List.mem_cons, e x]
  constructor
  · rintro (h | h | h)
    · exact Or.inr (Or.inl h)
    · exact Or.inl h
    · exact Or.inr (Or.inr h)
  · rintro (h | h | h)
    · exact Or.inr (Or.inl h)
    · exact Or.inl h
    · exact Or.inr (Or.inr h)
theorem insAt_at {o : List Nat} {p i k : Nat} (hp : p ≤ o.length) (hk : k ≤ o.length) : oat (insAt o p i) k = if k < p then oat o k else if k = p then i else oat o (k - 1) := by
  have hl : (o.take p).length = p := by
    rw [List.length_take]
    omega
  unfold insAt
  by_cases h1 : k < p
  · rw [if_pos h1, oat_get (by simp; omega), oat_get (by omega), List.getElem_append_left (by omega)]
    simp
  · rw [if_neg h1]
    by_cases h2 : k = p
    · subst h2
      rw [if_pos rfl, oat_get (by simp; omega), List.getElem_append_right (by omega)]
      simp [hl]
    · obtain ⟨d, rfl⟩ : ∃ d, k = p + d + 1 := ⟨k - p - 1, by omega⟩
      rw [if_neg h2]
      unfold oat
      rw [List.getD_eq_getElem?_getD, List.getD_eq_getElem?_getD, List.getElem?_append_right (by omega), hl, show p + d + 1 - p = d + 1 by omega, List.getElem?_cons_succ, List.getElem?_drop, show p + d + 1 - 1 = p + d by omega]
theorem insAt_pw {R : Nat → Nat → Prop} (tr : ∀ a b c, R a b → R b c → R a c) {o : List Nat} {i p : Nat} (hp : p ≤ o.length) (ho : o.Pairwise R) (h1 : p = 0 ∨ R (oat o (p - 1)) i) (h2 : ∀ k, p ≤ k → k < o.length → R i (oat o k)) : (insAt o p i).Pairwise R := by
  have hd : ∀ x, x ∈ o.drop p → R i x := fun x hx => by
    obtain ⟨k, hk, e⟩ := List.getElem_of_mem hx
    rw [List.length_drop] at hk
    rw [List.getElem_drop] at e
    have := h2 (p + k) (by omega) (by omega)
    rw [oat_get (by omega), e] at this
    exact this
  have ht : ∀ x, x ∈ o.take p → R x i := fun x hx => by
    obtain ⟨k, hk, e⟩ := List.getElem_of_mem hx
    rw [List.length_take] at hk
    rw [List.getElem_take] at e
    have hk1 : k < p := by omega
    rcases h1 with z | z
    · omega
    · rw [oat_get (by omega)] at z
      by_cases hk2 : k = p - 1
      · subst hk2
        rw [← e]
        exact z
      · have := (List.pairwise_iff_getElem.mp ho) k (p - 1) (by omega) (by omega) (by omega)
        rw [e] at this
        exact tr _ _ _ this z
  unfold insAt
  rw [List.pairwise_append, List.pairwise_cons]
  refine ⟨ho.sublist (List.take_sublist p o), ⟨hd, ho.sublist (List.drop_sublist p o)⟩, fun a ha b hb => ?_⟩
  rcases List.mem_cons.mp hb with z | z
  · subst z
    exact ht a ha
  · exact tr _ _ _ (ht a ha) (hd b z)
/-! the reference's pass: gate by gate, item by item -/
def doneTo (v : gV) (t g : Nat) : Prop := ∀ j, 1 ≤ j → j ≤ v 12 1 → v 3 j = 0 → v 4 j < g → t < fr v j (v 4 j)
def doneIn (v : gV) (t g i : Nat) : Prop := ∀ j, 1 ≤ j → j < i → v 3 j = 0 → v 4 j = g → t < fr v j g
theorem done_en {v : gV} {t g i : Nat} (h : gInv v) (hd : doneIn v t g i) (h1 : 1 ≤ i) (h2 : i ≤ v 12 1) (h3 : v 3 i = 0) (h4 : v 4 i = g) (h5 : g ≤ v 12 0) (h6 : fr v i g ≤ t) : en v t i g :=
  ⟨h1, h2, h3, h4, h5, h6, fun j j1 j2 j3 j4 => by
    have a := hd j j1 j2 j3 j4
    have b := at_mono h j1 j2 h2
    unfold fr at a h6
    omega⟩
theorem done_step {v : gV} {t g i : Nat} (he : en v t i g) (ha : doneTo v t g) (hd : doneIn v t g i) : doneTo (evt v i g) t g ∧ doneIn (evt v i g) t g (i + 1) := by
  obtain ⟨b1, b2, b3, b4, b5, b6, b7⟩ := he
  refine ⟨fun j j1 j2 j3 j4 => ?_, fun j j1 j2 j3 j4 => ?_⟩
  · rw [evt_k (by decide)] at j2
    by_cases e : j = i
    · subst e
      rw [evt_3] at j3
      rw [evt_4] at j4
      split at j3
      · omega
      · rename_i z
        rw [if_neg z] at j4
        omega
    · rw [evt_i 3 (by decide) e] at j3
      rw [evt_i 4 (by decide) e] at j4
      rw [fr_evt, evt_i 4 (by decide) e]
      exact ha j j1 j2 j3 j4
  · by_cases e : j = i
    · subst e
      rw [evt_3] at j3
      rw [evt_4] at j4
      split at j3
      · omega
      · rename_i z
        rw [if_neg z] at j4
        omega
    · rw [evt_i 3 (by decide) e] at j3
      rw [evt_i 4 (by decide) e] at j4
      rw [fr_evt]
      exact hd j j1 (by omega) j3 j4
theorem done_next {v : gV} {t g : Nat} (ha : doneTo v t g) (hd : doneIn v t g (v 12 1 + 1)) : doneTo v t (g + 1) := fun j j1 j2 j3 j4 => by
  by_cases e : v 4 j = g
  · rw [e]
    exact hd j j1 (by omega) j3 e
  · exact ha j j1 j2 j3 (by omega)
theorem done_quiet {v : gV} {t : Nat} (h : gInv v) (ha : doneTo v t (v 12 0 + 1)) : quiet v t := quiet_of (fun i i1 i2 i3 => ha i i1 i2 i3 (by
  have := (h.2.2.2.2.1 i i1 i2).2.2.2.2.2.1 i3
  omega))
/-! the reference's list of what came: all that came below i, and what was there, o0 -/
def insI (v : gV) (o0 : List Nat) (i : Nat) (o : List Nat) : Prop := o.Pairwise (ltk v) ∧ ∀ j, j ∈ o ↔ (1 ≤ j ∧ j ≤ v 12 1 ∧ v 3 j ≠ 0 ∧ (j ∈ o0 ∨ j < i))
theorem insI_0 {v v0 : gV} {o0 : List Nat} (h : cameOK v0 o0) (hn : v 12 1 = v0 12 1) (h3 : ∀ i, v0 3 i ≠ 0 → v 3 i = v0 3 i) (h0 : ∀ i, v 0 i = v0 0 i) : insI v o0 1 o0 := by
  refine ⟨h.2.imp_of_mem (fun {a b} ha hb hab => ?_), fun j => ?_⟩
  · have e1 := h3 a ((h.1 a).mp ha).2.2
    have e2 := h3 b ((h.1 b).mp hb).2.2
    unfold ltk tm at hab ⊢
    rw [e1, e2, h0, h0]
    exact hab
  · constructor
    · intro hj
      have z := (h.1 j).mp hj
      exact ⟨z.1, by rw [hn]; exact z.2.1, by rw [h3 j z.2.2]; exact z.2.2, Or.inl hj⟩
    · rintro ⟨a1, a2, a3, a4 | a4⟩
      · exact a4
      · omega
theorem insI_skip {v : gV} {o0 o : List Nat} {i : Nat} (h : insI v o0 i o) (hs : v 3 i = 0 ∨ i ∈ o) : insI v o0 (i + 1) o := by
  refine ⟨h.1, fun j => ?_⟩
  rw [h.2 j]
  constructor
  · rintro ⟨a1, a2, a3, a4⟩
    exact ⟨a1, a2, a3, a4.elim Or.inl (fun z => Or.inr (by omega))⟩
  · rintro ⟨a1, a2, a3, a4 | a4⟩
    · exact ⟨a1, a2, a3, Or.inl a4⟩
    · by_cases e : j = i
      · subst e
        rcases hs with z | z
        · exact absurd z a3
        · exact (h.2 j).mp z
      · exact ⟨a1, a2, a3, Or.inr (by omega)⟩
theorem insI_in {v : gV} {o0 o : List Nat} {i p : Nat} (h : insI v o0 i o) (h1 : 1 ≤ i) (h2 : i ≤ v 12 1) (h3 : v 3 i ≠ 0) (hp : p ≤ o.length) (ha : p = 0 ∨ ltk v (oat o (p - 1)) i) (hb : ∀ k, p ≤ k → k < o.length → ltk v i (oat o k)) : insI v o0 (i + 1) (insAt o p i) := by
  refine ⟨insAt_pw (ltk_tr v) hp h.1 ha hb, fun j => ?_⟩
  rw [insAt_mem, h.2 j]
  constructor
  · rintro (z | ⟨a1, a2, a3, a4⟩)
    · subst z
      exact ⟨h1, h2, h3, Or.inr (by omega)⟩
    · exact ⟨a1, a2, a3, a4.elim Or.inl (fun z => Or.inr (by omega))⟩
  · rintro ⟨a1, a2, a3, a4 | a4⟩
    · exact Or.inr ⟨a1, a2, a3, Or.inl a4⟩
    · by_cases e : j = i
      · exact Or.inl e
      · exact Or.inr ⟨a1, a2, a3, Or.inr (by omega)⟩
theorem insI_end {v : gV} {o0 o : List Nat} (h : insI v o0 (v 12 1 + 1) o) : cameOK v o := ⟨fun j => by
  rw [h.2 j]
  constructor
  · rintro ⟨a1, a2, a3, a4⟩
    exact ⟨a1, a2, a3⟩
  · rintro ⟨a1, a2, a3⟩
    exact ⟨a1, a2, a3, Or.inr (by omega)⟩, h.1⟩
theorem insI_few {v : gV} {o0 o : List Nat} {i : Nat} (h : insI v o0 i o) (h1 : 1 ≤ i) (h2 : i ≤ v 12 1) (hi : i ∉ o) : o.length + 1 ≤ v 12 1 := by
  have := few (n := 0) (v 12 1) (i :: o) (by
    rw [List.pairwise_cons]
    refine ⟨fun a ha e => hi (by rw [e]; exact ha), h.1.imp (fun {a b} z e => ?_)⟩
    subst e
    exact ltk_irr v a z) (fun x hx => by
    rcases List.mem_cons.mp hx with z | z
    · subst z
      exact ⟨h1, h2⟩
    · have := (h.2 x).mp z
      exact ⟨this.1, this.2.1⟩)
  simpa using this
theorem insI_len {v : gV} {o0 o : List Nat} {i : Nat} (h : insI v o0 i o) : o.length ≤ v 12 1 := by
  refine few (n := 0) (v 12 1) o (h.1.imp (fun {a b} z e => ?_)) (fun x hx => ?_)
  · subst e
    exact ltk_irr v a z
  · have := (h.2 x).mp hx
    exact ⟨this.1, this.2.1⟩
end
section
/-- a number or, at 0, minus one -/
def eN (n : Nat) : Int32 := nI n - 1
theorem eN_0 : eN 0 = -1 := by decide
theorem eN_s (n : Nat) : eN (n + 1) = nI n := nI_pred n
theorem nI_inj {a b : Nat} (ha : a < 2 ^ 31) (hb : b < 2 ^ 31) : nI a = nI b ↔ a = b := nI_eq ha hb
theorem nI_m1 {a : Nat} (ha : a < 2 ^ 31) : ¬ nI a = -1 := fun h => by
  have h1 := nI_toInt ha
  rw [h] at h1
  have h2 : (-1 : Int32).toInt = -1 := by decide
  omega
theorem eN_m1 {a : Nat} (ha : a < 2 ^ 31) : eN a = -1 ↔ a = 0 := by
  cases a with
  | zero => exact ⟨fun _ => rfl, fun _ => eN_0⟩
  | succ a =>
    rw [eN_s]
    exact ⟨fun h => absurd h (nI_m1 (by omega)), fun h => by omega⟩
theorem eN_neg {a : Nat} (ha : a < 2 ^ 31) : eN a < 0 ↔ a = 0 := by
  cases a with
  | zero => exact ⟨fun _ => rfl, fun _ => by rw [eN_0]; decide⟩
  | succ a =>
    rw [eN_s]
    exact ⟨fun h => absurd h (nI_pos (by omega)), fun h => by omega⟩
theorem eN_pos {a : Nat} (ha : a < 2 ^ 31) : 0 ≤ eN a ↔ ¬ a = 0 := by
  cases a with
  | zero => exact ⟨fun h => absurd h (by rw [eN_0]; decide), fun h => absurd rfl h⟩
  | succ a =>
    rw [eN_s]
    exact ⟨fun _ => by omega, fun _ => nI_pos' (by omega)⟩
theorem eN_is {a b : Nat} (ha : a < 2 ^ 31) (hb : b < 2 ^ 31) : eN a = nI b ↔ a = b + 1 := by
  cases a with
  | zero =>
    rw [eN_0]
    exact ⟨fun h => absurd h.symm (nI_m1 hb), fun h => by omega⟩
  | succ a =>
    rw [eN_s, nI_inj (by omega) hb]
    omega
theorem eN_inj {a b : Nat} (ha : a < 2 ^ 31) (hb : b < 2 ^ 31) : eN a = eN b ↔ a = b := by
  cases b with
  | zero => rw [eN_0, eN_m1 ha]
  | succ b => rw [eN_s, eN_is ha (by omega)]
end
section
/-! WHAT A CALL ANSWERS AND DOES, of numbers alone: class and reference are held to it, and it leaves no choice -/
theorem gAll_set {v v' : gV} {o : List Nat} (h : gAll v o) (e : ∀ a b, a ≠ 2 → a ≠ 5 → a ≠ 7 → a ≠ 9 → a ≠ 10 → (a = 12 → b ≠ 3) → v' a b = v a b) (b2 : ∀ i, 1 ≤ i → i ≤ v 12 1 → v' 2 i ≤ v 12 0) (b5 : ∀ i, 1 ≤ i → i ≤ v 12 1 → v' 5 i ≤ 1000000200) (b7 : ∀ g, g ≤ v 12 0 → v' 7 g ≤ 1) (b9 : ∀ g, g ≤ v 12 0 → 1 ≤ v' 9 g ∧ v' 9 g ≤ 1000) (b10 : ∀ g, g ≤ v 12 0 → v' 10 g ≤ v 11 g) (bz : ∀ j, v 12 1 < j → v' 2 j = 0 ∧ v' 5 j = 0) : gAll v' o := by
  have k : ∀ a b, (a = 0 ∨ a = 1 ∨ a = 3 ∨ a = 4 ∨ a = 6 ∨ a = 8 ∨ a = 11) → v' a b = v a b := fun a b ha => e a b (by omega) (by omega) (by omega) (by omega) (by omega) (by omega)
  have k12 : ∀ b, b ≠ 3 → v' 12 b = v 12 b := fun b hb => e 12 b (by decide) (by decide) (by decide) (by decide) (by decide) (fun _ => hb)
  have e0 := k12 0 (by decide)
  have e1 := k12 1 (by decide)
  have e2 := k12 2 (by decide)
  have etm : ∀ i, tm v' i = tm v i := fun i => by
    unfold tm
    rw [k 0 i (by decide), k 3 i (by decide)]
  have efr : ∀ i g, fr v' i g = fr v i g := fun i g => by
    unfold fr
    rw [k 0 i (by decide)]
  have ebn : bn v' = bn v := by
    unfold bn
    rw [e1]
    exact sm_eq _ (fun i _ _ => by (try dsimp only); rw [k 3 i (by decide)])
  obtain ⟨⟨a1, a2, a3, a4, a5, a6, a7, a8⟩, c1, c2, c3⟩ := h
  refine ⟨⟨by rw [e0]; exact a1, by rw [e1]; exact a2, by rw [e2]; exact a3, fun i i1 i2 => ?_, fun i i1 i2 => ?_, fun j i j1 j2 j3 j4 j5 => ?_, fun g hg => ?_, fun a j ha hj => ?_⟩, ⟨fun i => ?_, c1.2.imp (fun {a b} z => ?_)⟩, fun a ha => ?_, fun i i1 i2 i3 => ?_⟩
  · rw [e1] at i2
    rw [k 0 i (by decide), k 1 i (by decide), k 0 (i + 1) (by decide)]
    exact a4 i i1 i2
  · rw [e1] at i2
    have z := a5 i i1 i2
    have z2 := b2 i i1 i2
    have z5 := b5 i i1 i2
    unfold gItem at z ⊢
    rw [k 0 i (by decide), k 1 i (by decide), k 3 i (by decide), k 4 i (by decide), e0]
    omega
  · rw [e1] at j3
    rw [k 3 j (by decide)] at j4
    rw [k 3 i (by decide)] at j5
    rw [k 4 i (by decide), k 4 j (by decide)]
    exact a6 j i j1 j2 j3 j4 j5
  · rw [e0] at hg
    have z := a7 g hg
    have z7 := b7 g hg
    have z9 := b9 g hg
    have z10 := b10 g hg
    unfold gGate at z ⊢
    rw [k 6 g (by decide), k 8 g (by decide), k 11 g (by decide), ebn]
    omega
  · rw [e1] at hj
    have z := bz j hj
    have y := a8 a j ha hj
    by_cases h2 : a = 2
    · subst h2
      exact z.1
    · by_cases h5 : a = 5
      · subst h5
        exact z.2
      · rw [k a j (by omega)]
        exact y
  · rw [e1, k 3 i (by decide)]
    exact c1.1 i
  · unfold ltk at z ⊢
    rw [etm, etm]
    exact z
  · rw [e2, etm]
    exact c2 a ha
  · rw [e1] at i2
    rw [k 3 i (by decide)] at i3
    rw [e2, efr, k 4 i (by decide)]
    exact c3 i i1 i2 i3
def isIt (v : gV) (i : Int32) : Prop := ∃ k, i = nI k ∧ 1 ≤ k ∧ k ≤ v 12 1
def isBn (v : gV) (b : Int32) : Prop := ∃ g, b = nI g ∧ g < v 12 0
def okT (v : gV) (t : Int64) : Prop := lN (v 12 2) ≤ t ∧ t ≤ 1000000000
def okI (v : gV) (at1 len : Int64) : Prop := 1 ≤ len ∧ len ≤ 900 ∧ okT v at1 ∧ (v 12 1 = 0 ∨ lN (v 0 (v 12 1) + v 1 (v 12 1) + 50) ≤ at1)
theorem l9 : (1000000000 : Int64) = lN 1000000000 := by decide
theorem l_of {t : Int64} {a b : Nat} (h1 : lN a ≤ t) (h2 : t ≤ lN b) (ha : a < 2 ^ 31) (hb : b < 2 ^ 31) : ∃ n, t = lN n ∧ a ≤ n ∧ n ≤ b := by
  rw [Int64.le_iff_toInt_le, lN_toInt ha] at h1
  rw [Int64.le_iff_toInt_le, lN_toInt hb] at h2
  obtain ⟨n, hn⟩ : ∃ n : Nat, t.toInt = (n : Int) := ⟨t.toInt.toNat, by omega⟩
  have e : t = lN n := Int64.toInt_inj.mp (by rw [hn, lN_toInt (by omega)])
  exact ⟨n, e, by omega, by omega⟩
theorem okT_of {v : gV} {t : Int64} (h : okT v t) (hv : v 12 2 ≤ 1000000000) : ∃ n, t = lN n ∧ v 12 2 ≤ n ∧ n ≤ 1000000000 := l_of h.1 (by rw [← l9]; exact h.2) (by omega) (by decide)
theorem lN_inj {a b : Nat} (ha : a < 2 ^ 31) (hb : b < 2 ^ 31) (h : lN a = lN b) : a = b := (lN_eq ha hb).mp h
theorem nI_inj2 {a b : Nat} (ha : a < 2 ^ 31) (hb : b < 2 ^ 31) (h : nI a = nI b) : a = b := (nI_eq ha hb).mp h
def addI (v : gV) (a l : Nat) : gV := up2 (up2 (up2 v 0 (v 12 1 + 1) a) 1 (v 12 1 + 1) l) 12 1 (v 12 1 + 1)
def pItem (v : gV) (at1 len : Int64) (r : Int32) (v' : gV) : Prop := (¬ okI v at1 len ∧ r = -102 ∧ v' = v) ∨ (okI v at1 len ∧ v 12 1 = 400 ∧ r = -104 ∧ v' = v) ∨ (okI v at1 len ∧ v 12 1 < 400 ∧ ∃ a l, at1 = lN a ∧ len = lN l ∧ v 12 2 ≤ a ∧ a ≤ 1000000000 ∧ 1 ≤ l ∧ l ≤ 900 ∧ (v 12 1 = 0 ∨ v 0 (v 12 1) + v 1 (v 12 1) + 50 ≤ a) ∧ r = nI (v 12 1 + 1) ∧ v' = addI v a l)
theorem pItem_one {v v1 v2 : gV} {a l : Int64} {r1 r2 : Int32} (h1 : pItem v a l r1 v1) (h2 : pItem v a l r2 v2) : r1 = r2 ∧ v1 = v2 := by
  rcases h1 with ⟨a1, a2, a3⟩ | ⟨a1, a2, a3, a4⟩ | ⟨a1, a2, x, y, a3, a4, a5, a6, a7, a8, a9, a10, a11⟩ <;> rcases h2 with ⟨b1, b2, b3⟩ | ⟨b1, b2, b3, b4⟩ | ⟨b1, b2, z, u, b3, b4, b5, b6, b7, b8, b9, b10, b11⟩
  · exact ⟨a2.trans b2.symm, a3.trans b3.symm⟩
  · exact absurd b1 a1
  · exact absurd b1 a1
  · exact absurd a1 b1
  · exact ⟨a3.trans b3.symm, a4.trans b4.symm⟩
  · omega
  · exact absurd a1 b1
  · omega
  · have e1 : x = z := lN_inj (by omega) (by omega) (a3.symm.trans b3)
    have e2 : y = u := lN_inj (by omega) (by omega) (a4.symm.trans b4)
    subst e1
    subst e2
    exact ⟨a10.trans b10.symm, a11.trans b11.symm⟩
theorem addI_0 (v : gV) (a l j : Nat) : addI v a l 0 j = if j = v 12 1 + 1 then a else v 0 j := by simp [addI, up2]
theorem addI_1 (v : gV) (a l j : Nat) : addI v a l 1 j = if j = v 12 1 + 1 then l else v 1 j := by simp [addI, up2]
theorem addI_n (v : gV) (a l : Nat) : addI v a l 12 1 = v 12 1 + 1 := by simp [addI, up2]
theorem addI_k (v : gV) (a l : Nat) {k j : Nat} (h0 : k ≠ 0) (h1 : k ≠ 1) (h2 : k = 12 → j ≠ 1) : addI v a l k j = v k j := by
  unfold addI
  rw [show up2 (up2 (up2 v 0 (v 12 1 + 1) a) 1 (v 12 1 + 1) l) 12 1 (v 12 1 + 1) k j = up2 (up2 v 0 (v 12 1 + 1) a) 1 (v 12 1 + 1) l k j from by
    by_cases e : k = 12
    · exact up2_i _ _ _ _ (h2 e)
    · exact up2_k _ _ _ _ e, up2_k _ _ _ _ h1, up2_k _ _ _ _ h0]
theorem gAll_add {v : gV} {o : List Nat} {a l : Nat} (h : gAll v o) (hn : v 12 1 < 400) (h1 : v 12 2 ≤ a) (h2 : a ≤ 1000000000) (h3 : 1 ≤ l) (h4 : l ≤ 900) (h5 : v 12 1 = 0 ∨ v 0 (v 12 1) + v 1 (v 12 1) + 50 ≤ a) : gAll (addI v a l) o := by
  have k : ∀ x j, x ≠ 0 → x ≠ 1 → x ≠ 12 → addI v a l x j = v x j := fun x j n0 n1 n2 => addI_k v a l n0 n1 (fun z => absurd z n2)
  have e0 : addI v a l 12 0 = v 12 0 := addI_k v a l (by decide) (by decide) (by decide)
  have e2 : addI v a l 12 2 = v 12 2 := addI_k v a l (by decide) (by decide) (by decide)
  have en := addI_n v a l
  obtain ⟨⟨a1, a2, a3, a4, a5, a6, a7, a8⟩, c1, c2, c3⟩ := h
  have z3 : v 3 (v 12 1 + 1) = 0 := a8 3 _ (by decide) (by omega)
  have ebn : bn (addI v a l) = bn v := by
    have e : sm (fun i => if addI v a l 3 i = 0 then 0 else 1) (v 12 1) = sm (fun i => if v 3 i = 0 then 0 else 1) (v 12 1) := sm_eq _ (fun i _ _ => by (try dsimp only); rw [k 3 i (by decide) (by decide) (by decide)])
    unfold bn
    rw [en]
    simp only [sm]
    rw [e, k 3 _ (by decide) (by decide) (by decide), z3]
    simp
  have o0 : ∀ j, j ≤ v 12 1 → addI v a l 0 j = v 0 j := fun j hj => by rw [addI_0, if_neg (by omega)]
  have o1 : ∀ j, j ≤ v 12 1 → addI v a l 1 j = v 1 j := fun j hj => by rw [addI_1, if_neg (by omega)]
  have otm : ∀ j, j ≤ v 12 1 → tm (addI v a l) j = tm v j := fun j hj => by
    unfold tm
    rw [o0 j hj, k 3 j (by decide) (by decide) (by decide)]
  refine ⟨⟨by rw [e0]; exact a1, by rw [en]; omega, by rw [e2]; exact a3, fun i i1 i2 => ?_, fun i i1 i2 => ?_, fun j i j1 j2 j3 j4 j5 => ?_, fun g hg => ?_, fun x j hx hj => ?_⟩, ⟨fun i => ?_, c1.2.imp_of_mem (fun {x y} hx hy z => ?_)⟩, fun x hx => ?_, fun i i1 i2 i3 => ?_⟩
  · rw [en] at i2
    rw [o0 i (by omega), o1 i (by omega)]
    by_cases e : i + 1 = v 12 1 + 1
    · rw [addI_0, if_pos e]
      have e' : i = v 12 1 := by omega
      rw [← e'] at h5
      omega
    · rw [o0 (i + 1) (by omega)]
      exact a4 i i1 (by omega)
  · rw [en] at i2
    unfold gItem
    rw [e0, k 2 i (by decide) (by decide) (by decide), k 3 i (by decide) (by decide) (by decide), k 4 i (by decide) (by decide) (by decide), k 5 i (by decide) (by decide) (by decide)]
    by_cases e : i = v 12 1 + 1
    · rw [addI_0, addI_1, if_pos e, if_pos e, e, a8 2 _ (by decide) (by omega), z3, a8 4 _ (by decide) (by omega), a8 5 _ (by decide) (by omega)]
      omega
    · rw [o0 i (by omega), o1 i (by omega)]
      exact a5 i i1 (by omega)
  · rw [en] at j3
    rw [k 3 j (by decide) (by decide) (by decide)] at j4
    rw [k 3 i (by decide) (by decide) (by decide)] at j5
    rw [k 4 i (by decide) (by decide) (by decide), k 4 j (by decide) (by decide) (by decide)]
    by_cases e : i = v 12 1 + 1
    · rw [e, a8 4 _ (by decide) (by omega)]
      omega
    · exact a6 j i j1 j2 (by omega) j4 j5
  · rw [e0] at hg
    have z := a7 g hg
    unfold gGate at z ⊢
    rw [k 6 g (by decide) (by decide) (by decide), k 7 g (by decide) (by decide) (by decide), k 8 g (by decide) (by decide) (by decide), k 9 g (by decide) (by decide) (by decide), k 10 g (by decide) (by decide) (by decide), k 11 g (by decide) (by decide) (by decide), ebn]
    exact z
  · rw [en] at hj
    have z := a8 x j hx (by omega)
    by_cases x0 : x = 0
    · subst x0
      rw [addI_0, if_neg (by omega)]
      exact z
    · by_cases x1 : x = 1
      · subst x1
        rw [addI_1, if_neg (by omega)]
        exact z
      · rw [k x j x0 x1 (by omega)]
        exact z
  · rw [en, k 3 i (by decide) (by decide) (by decide), c1.1 i]
    constructor
    · rintro ⟨z1, z2, z4⟩
      exact ⟨z1, by omega, z4⟩
    · rintro ⟨z1, z2, z4⟩
      refine ⟨z1, ?_, z4⟩
      have : i ≠ v 12 1 + 1 := fun e => z4 (by rw [e]; exact z3)
      omega
  · have x2 := ((c1.1 x).mp hx).2.1
    have y2 := ((c1.1 y).mp hy).2.1
    unfold ltk at z ⊢
    rw [otm x x2, otm y y2]
    exact z
  · rw [e2, otm x ((c1.1 x).mp hx).2.1]
    exact c2 x hx
  · rw [en] at i2
    rw [k 3 i (by decide) (by decide) (by decide)] at i3
    rw [e2, k 4 i (by decide) (by decide) (by decide)]
    unfold fr
    by_cases e : i = v 12 1 + 1
    · rw [addI_0, if_pos e]
      omega
    · rw [o0 i (by omega)]
      exact c3 i i1 (by omega) i3
theorem pItem_all {v v' : gV} {o : List Nat} {a l : Int64} {r : Int32} (h : gAll v o) (hp : pItem v a l r v') : gAll v' o := by
  rcases hp with ⟨-, -, rfl⟩ | ⟨-, -, -, rfl⟩ | ⟨-, hn, x, y, -, -, b1, b2, b3, b4, b5, -, rfl⟩
  · exact h
  · exact h
  · exact gAll_add h hn b1 b2 b3 b4 b5
/-! order -/
def pOrd (v : gV) (o : List Nat) (i b : Int32) (t : Int64) (r : Int32) (v' : gV) (o' : List Nat) : Prop := (¬ (isIt v i ∧ isBn v b) ∧ r = -101 ∧ v' = v ∧ o' = o) ∨ (isIt v i ∧ isBn v b ∧ ¬ okT v t ∧ r = -102 ∧ v' = v ∧ o' = o) ∨ ∃ (k g n : Nat) (v1 : gV), i = nI k ∧ 1 ≤ k ∧ k ≤ v 12 1 ∧ b = nI g ∧ g < v 12 0 ∧ t = lN n ∧ v 12 2 ≤ n ∧ n ≤ 1000000000 ∧ passed v o n v1 o' ∧ ((v1 3 k ≠ 0 ∧ r = 0 ∧ v' = v1) ∨ (v1 3 k = 0 ∧ v1 2 k ≠ 0 ∧ r = 2 ∧ v' = v1) ∨ (v1 3 k = 0 ∧ v1 2 k = 0 ∧ fr v1 k g < n + 200 ∧ r = 0 ∧ v' = up2 v1 5 k (n + 200 - fr v1 k g)) ∨ (v1 3 k = 0 ∧ v1 2 k = 0 ∧ ¬ fr v1 k g < n + 200 ∧ r = 1 ∧ v' = up2 v1 2 k (g + 1)))
theorem okT_n {v : gV} {n : Nat} (h1 : v 12 2 ≤ n) (h2 : n ≤ 1000000000) : okT v (lN n) := ⟨(lN_le (by omega) (by omega)).mpr h1, by rw [l9]; exact (lN_le (by omega) (by decide)).mpr h2⟩
theorem pOrd_one {v v1 v2 : gV} {o o1 o2 : List Nat} {i b : Int32} {t : Int64} {r1 r2 : Int32} (h : gAll v o) (h1 : pOrd v o i b t r1 v1 o1) (h2 : pOrd v o i b t r2 v2 o2) : r1 = r2 ∧ v1 = v2 ∧ o1 = o2 := by
  have hg := h.1.1
  have hn := h.1.2.1
  rcases h1 with ⟨a1, a2, a3, a4⟩ | ⟨a1, a2, a3, a4, a5, a6⟩ | ⟨k, g, n, u, a1, a2, a3, a4, a5, a6, a7, a8, a9, a10⟩ <;> rcases h2 with ⟨b1, b2, b3, b4⟩ | ⟨b1, b2, b3, b4, b5, b6⟩ | ⟨k2, g2, n2, w, b1, b2, b3, b4, b5, b6, b7, b8, b9, b10⟩
  · exact ⟨a2.trans b2.symm, a3.trans b3.symm, a4.trans b4.symm⟩
  · exact absurd ⟨b1, b2⟩ a1
  · exact absurd ⟨⟨k2, b1, b2, b3⟩, ⟨g2, b4, b5⟩⟩ a1
  · exact absurd ⟨a1, a2⟩ b1
  · exact ⟨a4.trans b4.symm, a5.trans b5.symm, a6.trans b6.symm⟩
  · exact absurd (by rw [b6]; exact okT_n b7 b8) a3
  · exact absurd ⟨⟨k, a1, a2, a3⟩, ⟨g, a4, a5⟩⟩ b1
  · exact absurd (by rw [a6]; exact okT_n a7 a8) b3
  · have e1 : k = k2 := nI_inj2 (by omega) (by omega) (a1.symm.trans b1)
    have e2 : g = g2 := nI_inj2 (by omega) (by omega) (a4.symm.trans b4)
    have e3 : n = n2 := lN_inj (by omega) (by omega) (a6.symm.trans b6)
    subst e1
    subst e2
    subst e3
    obtain ⟨e4, e5⟩ := passed_one h.1.2.2.2.2.2.1 a9 b9
    subst e4
    refine ⟨?_, ?_, e5⟩
    · rcases a10 with ⟨x1, x2, x3⟩ | ⟨x1, x2, x3, x4⟩ | ⟨x1, x2, x3, x4, x5⟩ | ⟨x1, x2, x3, x4, x5⟩ <;> rcases b10 with ⟨y1, y2, y3⟩ | ⟨y1, y2, y3, y4⟩ | ⟨y1, y2, y3, y4, y5⟩ | ⟨y1, y2, y3, y4, y5⟩ <;> first | (exfalso; omega) | (exact x2.trans y2.symm) | (exact x3.trans y3.symm) | (exact x4.trans y4.symm)
    · rcases a10 with ⟨x1, x2, x3⟩ | ⟨x1, x2, x3, x4⟩ | ⟨x1, x2, x3, x4, x5⟩ | ⟨x1, x2, x3, x4, x5⟩ <;> rcases b10 with ⟨y1, y2, y3⟩ | ⟨y1, y2, y3, y4⟩ | ⟨y1, y2, y3, y4, y5⟩ | ⟨y1, y2, y3, y4, y5⟩ <;> first | (exfalso; omega) | (exact x3.trans y3.symm) | (exact x4.trans y4.symm) | (exact x5.trans y5.symm)
theorem pOrd_all {v v' : gV} {o o' : List Nat} {i b : Int32} {t : Int64} {r : Int32} (h : gAll v o) (hp : pOrd v o i b t r v' o') : gAll v' o' := by
  rcases hp with ⟨-, -, rfl, rfl⟩ | ⟨-, -, -, -, rfl, rfl⟩ | ⟨k, g, n, u, a1, a2, a3, a4, a5, a6, a7, a8, a9, a10⟩
  · exact h
  · exact h
  · obtain ⟨p1, p2, p3, p4, p5, p6⟩ := passed_all h a7 a8 a9
    have G := p1.1
    rcases a10 with ⟨x1, x2, rfl⟩ | ⟨x1, x2, x3, rfl⟩ | ⟨x1, x2, x3, x4, rfl⟩ | ⟨x1, x2, x3, x4, rfl⟩
    · exact p1
    · exact p1
    · refine gAll_set p1 (fun a b n2 n5 n7 n9 n10 n12 => up2_k _ _ _ _ n5) (fun j j1 j2 => ?_) (fun j j1 j2 => ?_) (fun q hq => ?_) (fun q hq => ?_) (fun q hq => ?_) (fun j hj => ?_)
      · rw [up2_k _ _ _ _ (by decide)]
        exact (G.2.2.2.2.1 j j1 j2).2.2.2.1
      · by_cases e : j = k
        · subst e
          rw [up2_self]
          omega
        · rw [up2_i _ _ _ _ e]
          exact (G.2.2.2.2.1 j j1 j2).2.2.2.2.2.2
      · rw [up2_k _ _ _ _ (by decide)]
        exact (G.2.2.2.2.2.2.1 q hq).2.1
      · rw [up2_k _ _ _ _ (by decide)]
        have := G.2.2.2.2.2.2.1 q hq
        exact ⟨this.2.2.2.1, this.2.2.2.2.1⟩
      · rw [up2_k _ _ _ _ (by decide)]
        exact (G.2.2.2.2.2.2.1 q hq).2.2.2.2.2.1
      · rw [up2_k _ _ _ _ (by decide), up2_i _ _ _ _ (by omega)]
        exact ⟨G.2.2.2.2.2.2.2 2 j (by decide) hj, G.2.2.2.2.2.2.2 5 j (by decide) hj⟩
    · refine gAll_set p1 (fun a b n2 n5 n7 n9 n10 n12 => up2_k _ _ _ _ n2) (fun j j1 j2 => ?_) (fun j j1 j2 => ?_) (fun q hq => ?_) (fun q hq => ?_) (fun q hq => ?_) (fun j hj => ?_)
      · by_cases e : j = k
        · subst e
          rw [up2_self]
          omega
        · rw [up2_i _ _ _ _ e]
          exact (G.2.2.2.2.1 j j1 j2).2.2.2.1
      · rw [up2_k _ _ _ _ (by decide)]
        exact (G.2.2.2.2.1 j j1 j2).2.2.2.2.2.2
      · rw [up2_k _ _ _ _ (by decide)]
        exact (G.2.2.2.2.2.2.1 q hq).2.1
      · rw [up2_k _ _ _ _ (by decide)]
        have := G.2.2.2.2.2.2.1 q hq
        exact ⟨this.2.2.2.1, this.2.2.2.2.1⟩
      · rw [up2_k _ _ _ _ (by decide)]
        exact (G.2.2.2.2.2.2.1 q hq).2.2.2.2.2.1
      · rw [up2_i _ _ _ _ (show j ≠ k by omega), up2_k _ _ _ _ (by decide)]
        exact ⟨G.2.2.2.2.2.2.2 2 j (by decide) hj, G.2.2.2.2.2.2.2 5 j (by decide) hj⟩
/-! step -/
def pStep (v : gV) (o : List Nat) (t : Int64) (r : Int32) (v' : gV) (o' : List Nat) : Prop := (¬ okT v t ∧ r = -102 ∧ v' = v ∧ o' = o) ∨ ∃ (n : Nat) (v1 : gV), t = lN n ∧ v 12 2 ≤ n ∧ n ≤ 1000000000 ∧ passed v o n v1 o' ∧ r = nI o'.length - nI (v1 12 3) ∧ v' = up2 v1 12 3 o'.length
theorem pStep_one {v v1 v2 : gV} {o o1 o2 : List Nat} {t : Int64} {r1 r2 : Int32} (h : gAll v o) (h1 : pStep v o t r1 v1 o1) (h2 : pStep v o t r2 v2 o2) : r1 = r2 ∧ v1 = v2 ∧ o1 = o2 := by
  rcases h1 with ⟨a1, a2, a3, a4⟩ | ⟨n, u, a1, a2, a3, a4, a5, a6⟩ <;> rcases h2 with ⟨b1, b2, b3, b4⟩ | ⟨n2, w, b1, b2, b3, b4, b5, b6⟩
  · exact ⟨a2.trans b2.symm, a3.trans b3.symm, a4.trans b4.symm⟩
  · exact absurd (by rw [b1]; exact okT_n b2 b3) a1
  · exact absurd (by rw [a1]; exact okT_n a2 a3) b1
  · have e3 : n = n2 := lN_inj (by omega) (by omega) (a1.symm.trans b1)
    subst e3
    obtain ⟨e4, e5⟩ := passed_one h.1.2.2.2.2.2.1 a4 b4
    subst e4
    subst e5
    exact ⟨a5.trans b5.symm, a6.trans b6.symm, rfl⟩
theorem pStep_all {v v' : gV} {o o' : List Nat} {t : Int64} {r : Int32} (h : gAll v o) (hp : pStep v o t r v' o') : gAll v' o' := by
  rcases hp with ⟨-, -, rfl, rfl⟩ | ⟨n, u, a1, a2, a3, a4, a5, rfl⟩
  · exact h
  · obtain ⟨p1, p2, p3, p4, p5, p6⟩ := passed_all h a2 a3 a4
    have G := p1.1
    refine gAll_set p1 (fun a b n2 n5 n7 n9 n10 n12 => ?_) (fun j j1 j2 => ?_) (fun j j1 j2 => ?_) (fun q hq => ?_) (fun q hq => ?_) (fun q hq => ?_) (fun j hj => ?_)
    · by_cases e : a = 12
      · exact up2_i _ _ _ _ (n12 e)
      · exact up2_k _ _ _ _ e
    · rw [up2_k _ _ _ _ (by decide)]
      exact (G.2.2.2.2.1 j j1 j2).2.2.2.1
    · rw [up2_k _ _ _ _ (by decide)]
      exact (G.2.2.2.2.1 j j1 j2).2.2.2.2.2.2
    · rw [up2_k _ _ _ _ (by decide)]
      exact (G.2.2.2.2.2.2.1 q hq).2.1
    · rw [up2_k _ _ _ _ (by decide)]
      have := G.2.2.2.2.2.2.1 q hq
      exact ⟨this.2.2.2.1, this.2.2.2.2.1⟩
    · rw [up2_k _ _ _ _ (by decide)]
      exact (G.2.2.2.2.2.2.1 q hq).2.2.2.2.2.1
    · rw [up2_k _ _ _ _ (by decide), up2_k _ _ _ _ (by decide)]
      exact ⟨G.2.2.2.2.2.2.2 2 j (by decide) hj, G.2.2.2.2.2.2.2 5 j (by decide) hj⟩
/-! height, swap, stuck: one number of a gate; late, count, out, verify: nothing changes -/
def pHei (v : gV) (b n : Int32) (r : Int32) (v' : gV) : Prop := (¬ isBn v b ∧ r = -101 ∧ v' = v) ∨ (isBn v b ∧ ¬ (1 ≤ n ∧ n ≤ 1000) ∧ r = -102 ∧ v' = v) ∨ ∃ g k, b = nI g ∧ g < v 12 0 ∧ n = nI k ∧ 1 ≤ k ∧ k ≤ 1000 ∧ r = nI (v 9 g) ∧ v' = up2 v 9 g k
def pSwp (v : gV) (b : Int32) (r : Int32) (v' : gV) : Prop := (¬ isBn v b ∧ r = -101 ∧ v' = v) ∨ ∃ g, b = nI g ∧ g < v 12 0 ∧ r = nI (v 10 g) ∧ v' = up2 v 10 g 0
def pStk (v : gV) (b : Int32) (on : Nat) (r : Int32) (v' : gV) : Prop := (¬ isBn v b ∧ r = -101 ∧ v' = v) ∨ ∃ g, b = nI g ∧ g < v 12 0 ∧ r = (if v 7 g = on then 0 else 1) ∧ v' = up2 v 7 g on
theorem nk_in {n : Int32} {k : Nat} (h : n = nI k) (h1 : 1 ≤ k) (h2 : k ≤ 1000) : 1 ≤ n ∧ n ≤ 1000 := by
  subst h
  exact ⟨nI_le (a := 1) h1 (by omega), nI_le (b := 1000) h2 (by decide)⟩
theorem pHei_one {v v1 v2 : gV} {b n r1 r2 : Int32} (hg : v 12 0 ≤ 12) (h1 : pHei v b n r1 v1) (h2 : pHei v b n r2 v2) : r1 = r2 ∧ v1 = v2 := by
  rcases h1 with ⟨a1, a2, a3⟩ | ⟨a1, a2, a3, a4⟩ | ⟨g, k, a1, a2, a3, a4, a5, a6, a7⟩ <;> rcases h2 with ⟨b1, b2, b3⟩ | ⟨b1, b2, b3, b4⟩ | ⟨g2, k2, b1, b2, b3, b4, b5, b6, b7⟩
  · exact ⟨a2.trans b2.symm, a3.trans b3.symm⟩
  · exact absurd b1 a1
  · exact absurd ⟨g2, b1, b2⟩ a1
  · exact absurd a1 b1
  · exact ⟨a3.trans b3.symm, a4.trans b4.symm⟩
  · exact absurd (nk_in b3 b4 b5) a2
  · exact absurd ⟨g, a1, a2⟩ b1
  · exact absurd (nk_in a3 a4 a5) b2
  · have e1 : g = g2 := nI_inj2 (by omega) (by omega) (a1.symm.trans b1)
    have e2 : k = k2 := nI_inj2 (by omega) (by omega) (a3.symm.trans b3)
    subst e1
    subst e2
    exact ⟨a6.trans b6.symm, a7.trans b7.symm⟩
theorem pSwp_one {v v1 v2 : gV} {b r1 r2 : Int32} (hg : v 12 0 ≤ 12) (h1 : pSwp v b r1 v1) (h2 : pSwp v b r2 v2) : r1 = r2 ∧ v1 = v2 := by
  rcases h1 with ⟨a1, a2, a3⟩ | ⟨g, a1, a2, a3, a4⟩ <;> rcases h2 with ⟨b1, b2, b3⟩ | ⟨g2, b1, b2, b3, b4⟩
  · exact ⟨a2.trans b2.symm, a3.trans b3.symm⟩
  · exact absurd ⟨g2, b1, b2⟩ a1
  · exact absurd ⟨g, a1, a2⟩ b1
  · have e1 : g = g2 := nI_inj2 (by omega) (by omega) (a1.symm.trans b1)
    subst e1
    exact ⟨a3.trans b3.symm, a4.trans b4.symm⟩
theorem pStk_one {v v1 v2 : gV} {b r1 r2 : Int32} {on : Nat} (hg : v 12 0 ≤ 12) (h1 : pStk v b on r1 v1) (h2 : pStk v b on r2 v2) : r1 = r2 ∧ v1 = v2 := by
  rcases h1 with ⟨a1, a2, a3⟩ | ⟨g, a1, a2, a3, a4⟩ <;> rcases h2 with ⟨b1, b2, b3⟩ | ⟨g2, b1, b2, b3, b4⟩
  · exact ⟨a2.trans b2.symm, a3.trans b3.symm⟩
  · exact absurd ⟨g2, b1, b2⟩ a1
  · exact absurd ⟨g, a1, a2⟩ b1
  · have e1 : g = g2 := nI_inj2 (by omega) (by omega) (a1.symm.trans b1)
    subst e1
    exact ⟨a3.trans b3.symm, a4.trans b4.symm⟩
theorem gAll_gate {v : gV} {o : List Nat} {c g k : Nat} (h : gAll v o) (hc : (c = 7 ∧ k ≤ 1) ∨ (c = 9 ∧ 1 ≤ k ∧ k ≤ 1000) ∨ (c = 10 ∧ k = 0)) : gAll (up2 v c g k) o := by
  have G := h.1
  refine gAll_set h (fun a b n2 n5 n7 n9 n10 n12 => up2_k _ _ _ _ (by omega)) (fun j j1 j2 => ?_) (fun j j1 j2 => ?_) (fun q hq => ?_) (fun q hq => ?_) (fun q hq => ?_) (fun j hj => ?_)
  · rw [up2_k _ _ _ _ (by omega)]
    exact (G.2.2.2.2.1 j j1 j2).2.2.2.1
  · rw [up2_k _ _ _ _ (by omega)]
    exact (G.2.2.2.2.1 j j1 j2).2.2.2.2.2.2
  · have z := (G.2.2.2.2.2.2.1 q hq).2.1
    unfold up2
    split <;> omega
  · have z := G.2.2.2.2.2.2.1 q hq
    unfold gGate at z
    unfold up2
    split <;> omega
  · have z := (G.2.2.2.2.2.2.1 q hq).2.2.2.2.2.1
    unfold up2
    split <;> omega
  · rw [up2_k _ _ _ _ (by omega), up2_k _ _ _ _ (by omega)]
    exact ⟨G.2.2.2.2.2.2.2 2 j (by decide) hj, G.2.2.2.2.2.2.2 5 j (by decide) hj⟩
theorem pHei_all {v v' : gV} {o : List Nat} {b n r : Int32} (h : gAll v o) (hp : pHei v b n r v') : gAll v' o := by
  rcases hp with ⟨-, -, rfl⟩ | ⟨-, -, -, rfl⟩ | ⟨g, k, -, -, -, h1, h2, -, rfl⟩
  · exact h
  · exact h
  · exact gAll_gate h (by omega)
theorem pSwp_all {v v' : gV} {o : List Nat} {b r : Int32} (h : gAll v o) (hp : pSwp v b r v') : gAll v' o := by
  rcases hp with ⟨-, -, rfl⟩ | ⟨g, -, -, -, rfl⟩
  · exact h
  · exact gAll_gate h (by omega)
theorem pStk_all {v v' : gV} {o : List Nat} {b r : Int32} {on : Nat} (h : gAll v o) (ho : on ≤ 1) (hp : pStk v b on r v') : gAll v' o := by
  rcases hp with ⟨-, -, rfl⟩ | ⟨g, -, -, -, rfl⟩
  · exact h
  · exact gAll_gate h (by omega)
def pLat (v : gV) (i r : Int32) : Prop := (¬ isIt v i ∧ r = -101) ∨ ∃ k, i = nI k ∧ 1 ≤ k ∧ k ≤ v 12 1 ∧ r = nI (v 5 k)
def pCnt (v : gV) (b r : Int32) : Prop := (¬ (∃ g, b = nI g ∧ g ≤ v 12 0) ∧ r = -101) ∨ ∃ g, b = nI g ∧ g ≤ v 12 0 ∧ r = nI (v 11 g)
theorem pLat_one {v : gV} {i r1 r2 : Int32} (hn : v 12 1 ≤ 400) (h1 : pLat v i r1) (h2 : pLat v i r2) : r1 = r2 := by
  rcases h1 with ⟨a1, a2⟩ | ⟨k, a1, a2, a3, a4⟩ <;> rcases h2 with ⟨b1, b2⟩ | ⟨k2, b1, b2, b3, b4⟩
  · exact a2.trans b2.symm
  · exact absurd ⟨k2, b1, b2, b3⟩ a1
  · exact absurd ⟨k, a1, a2, a3⟩ b1
  · have e1 : k = k2 := nI_inj2 (by omega) (by omega) (a1.symm.trans b1)
    subst e1
    exact a4.trans b4.symm
theorem pCnt_one {v : gV} {i r1 r2 : Int32} (hn : v 12 0 ≤ 12) (h1 : pCnt v i r1) (h2 : pCnt v i r2) : r1 = r2 := by
  rcases h1 with ⟨a1, a2⟩ | ⟨k, a1, a3, a4⟩ <;> rcases h2 with ⟨b1, b2⟩ | ⟨k2, b1, b3, b4⟩
  · exact a2.trans b2.symm
  · exact absurd ⟨k2, b1, b3⟩ a1
  · exact absurd ⟨k, a1, a3⟩ b1
  · have e1 : k = k2 := nI_inj2 (by omega) (by omega) (a1.symm.trans b1)
    subst e1
    exact a4.trans b4.symm
/-- what is asked of an item: itself, and two numbers more -/
def pPick (l : List Nat) (f g : Nat → Int32) (i w r : Int32) : Prop := (¬ (∃ k, i = nI k ∧ k < l.length) ∧ r = -1) ∨ ∃ k, i = nI k ∧ k < l.length ∧ r = (if w = 0 then nI (oat l k) else if w = 1 then f (oat l k) else if w = 2 then g (oat l k) else -1)
theorem pPick_one {l : List Nat} {f g : Nat → Int32} {i w r1 r2 : Int32} (hl : l.length ≤ 400) (h1 : pPick l f g i w r1) (h2 : pPick l f g i w r2) : r1 = r2 := by
  rcases h1 with ⟨a1, a2⟩ | ⟨k, a1, a3, a4⟩ <;> rcases h2 with ⟨b1, b2⟩ | ⟨k2, b1, b3, b4⟩
  · exact a2.trans b2.symm
  · exact absurd ⟨k2, b1, b3⟩ a1
  · exact absurd ⟨k, a1, a3⟩ b1
  · have e1 : k = k2 := nI_inj2 (by omega) (by omega) (a1.symm.trans b1)
    subst e1
    exact a4.trans b4.symm
def pOut (v : gV) (o : List Nat) (i w r : Int32) : Prop := pPick o (fun j => eN (v 3 j)) (fun j => nI (tm v j)) i w r
def pVer (v : gV) (o : List Nat) (i w r : Int32) : Prop := pPick (o.filter (wr v)) (fun j => eN (v 2 j)) (fun j => eN (v 3 j)) i w r
end
section
/-! the i-th of those that came wrong -/
theorem oat_s (a : Nat) (l : List Nat) (k : Nat) : oat (a :: l) (k + 1) = oat l k := by
  unfold oat
  simp
theorem oat_z (a : Nat) (l : List Nat) : oat (a :: l) 0 = a := by
  unfold oat
  simp
def wc (f : Nat → Bool) (o : List Nat) (k : Nat) : Nat := ((o.take k).filter f).length
theorem wc_0 (f : Nat → Bool) (o : List Nat) : wc f o 0 = 0 := by
  unfold wc
  simp
theorem wc_s (f : Nat → Bool) : ∀ (o : List Nat) (k : Nat), k < o.length → wc f o (k + 1) = wc f o k + (if f (oat o k) = true then 1 else 0)
  | [], k, h => absurd h (Nat.not_lt_zero k)
  | a :: o, 0, _ => by
    rw [oat_z]
    unfold wc
    by_cases e : f a = true
    · simp [e]
    · simp [e]
  | a :: o, k + 1, h => by
    have ih := wc_s f o k (by simpa using h)
    rw [oat_s]
    unfold wc at ih ⊢
    by_cases e : f a = true
    · simp only [List.take_succ_cons, List.filter_cons_of_pos e, List.length_cons]
      omega
    · simp only [List.take_succ_cons, List.filter_cons_of_neg e]
      omega
theorem wc_all (f : Nat → Bool) (o : List Nat) : wc f o o.length = (o.filter f).length := by
  unfold wc
  rw [List.take_length]
theorem wc_at (f : Nat → Bool) : ∀ (o : List Nat) (k : Nat), k < o.length → f (oat o k) = true → wc f o k < (o.filter f).length ∧ oat (o.filter f) (wc f o k) = oat o k
  | [], k, h, _ => absurd h (Nat.not_lt_zero k)
  | a :: o, 0, _, e => by
    rw [oat_z] at e ⊢
    rw [wc_0, List.filter_cons_of_pos e, oat_z]
    exact ⟨by simp, rfl⟩
  | a :: o, k + 1, h, e => by
    rw [oat_s] at e ⊢
    have ih := wc_at f o k (by simpa using h) e
    by_cases e2 : f a = true
    · have hw : wc f (a :: o) (k + 1) = wc f o k + 1 := by
        unfold wc
        simp only [List.take_succ_cons, List.filter_cons_of_pos e2, List.length_cons]
      rw [hw, List.filter_cons_of_pos e2, oat_s]
      exact ⟨by simp only [List.length_cons]; omega, ih.2⟩
    · have hw : wc f (a :: o) (k + 1) = wc f o k := by
        unfold wc
        simp only [List.take_succ_cons, List.filter_cons_of_neg e2]
      rw [hw, List.filter_cons_of_neg e2]
      exact ih
/-! the start -/
def v00 (G : Nat) : gV := fun a b => if a = 12 ∧ b = 0 then G else if a = 9 ∧ b < 13 then 1000 else 0
def clG (g : Int32) : Nat := if g < 1 then 1 else if 12 < g then 12 else g.toNatClampNeg
theorem v00_0 (G a b : Nat) (h : ¬ (a = 12 ∧ b = 0)) (h2 : a ≠ 9) : v00 G a b = 0 := by
  unfold v00
  rw [if_neg h, if_neg (fun z => h2 z.1)]
theorem v00_G (G : Nat) : v00 G 12 0 = G := by
  unfold v00
  rw [if_pos ⟨rfl, rfl⟩]
theorem v00_9 {G g : Nat} (h : g < 13) : v00 G 9 g = 1000 := by
  unfold v00
  rw [if_neg (by omega), if_pos ⟨rfl, h⟩]
theorem gAll_0 {G : Nat} (h1 : 1 ≤ G) (h2 : G ≤ 12) : gAll (v00 G) [] := by
  have n0 : v00 G 12 1 = 0 := v00_0 G 12 1 (by decide) (by decide)
  have t0 : v00 G 12 2 = 0 := v00_0 G 12 2 (by decide) (by decide)
  refine ⟨⟨by rw [v00_G]; exact ⟨h1, h2⟩, by rw [n0]; decide, by rw [t0]; decide, fun i i1 i2 => by omega, fun i i1 i2 => by omega, fun j i j1 j2 j3 => by omega, fun g hg => ?_, fun a j ha hj => v00_0 G a j (by omega) (by omega)⟩, ⟨fun i => ?_, List.Pairwise.nil⟩, fun a ha => (by cases ha), fun i i1 i2 => by omega⟩
  · rw [v00_G] at hg
    unfold gGate
    rw [v00_0 G 6 g (by omega) (by decide), v00_0 G 7 g (by omega) (by decide), v00_0 G 8 g (by omega) (by decide), v00_9 (by omega), v00_0 G 10 g (by omega) (by decide), v00_0 G 11 g (by omega) (by decide)]
    omega
  · constructor
    · intro z
      cases z
    · rintro ⟨z1, z2, z3⟩
      omega
theorem clG_in (g : Int32) : 1 ≤ clG g ∧ clG g ≤ 12 := by
  unfold clG
  split
  · omega
  · rename_i h
    split
    · omega
    · rename_i h2
      rw [Int32.lt_iff_toInt_lt] at h h2
      have e1 : (1 : Int32).toInt = 1 := by decide
      have e12 : (12 : Int32).toInt = 12 := by decide
      have e : g.toNatClampNeg = g.toInt.toNat := rfl
      omega
end
