/-! THE BELT AS NUMBERS. v a b: component a at place b. 0 at, 1 length, 2 order (0 none, bin + 1), 3 bin (0 none, bin + 1), 4 the next gate, 5 late, by items 1 .. n; 6 turned, 7 stuck, 8 free from, 9 height, 10 held, 11 count, by gates; 12: 0 gates, 1 items, 2 now, 3 told. -/
abbrev gV : Type := Nat → Nat → Nat
def up2 (v : gV) (k i x : Nat) : gV := fun a b => if a = k ∧ b = i then x else v a b
theorem up2_self (v : gV) (k i x : Nat) : up2 v k i x k i = x := by simp [up2]
theorem up2_k (v : gV) {k a : Nat} (i x b : Nat) (h : a ≠ k) : up2 v k i x a b = v a b := by simp [up2, h]
theorem up2_i (v : gV) {i b : Nat} (k x a : Nat) (h : b ≠ i) : up2 v k i x a b = v a b := by simp [up2, h]
/-! sums over the items -/
def sm (f : Nat → Nat) : Nat → Nat
  | 0 => 0
  | k + 1 => sm f k + f (k + 1)
theorem sm_eq {f g : Nat → Nat} : ∀ (n : Nat), (∀ i, 1 ≤ i → i ≤ n → f i = g i) → sm f n = sm g n
  | 0, _ => rfl
  | n + 1, h => by
    have h1 := sm_eq n (fun i a b => h i a (by omega))
    have h2 := h (n + 1) (by omega) (by omega)
    simp only [sm, h1, h2]
theorem sm_at {f g : Nat → Nat} {i : Nat} (hi : 1 ≤ i) (hne : ∀ j, j ≠ i → f j = g j) : ∀ (n : Nat), i ≤ n → sm f n + g i = sm g n + f i
  | 0, h => by omega
  | n + 1, h => by
    by_cases e : i = n + 1
    · have h1 : sm f n = sm g n := sm_eq n (fun j a b => hne j (by omega))
      subst e
      simp only [sm, h1]
      omega
    · have h1 := sm_at hi hne n (by omega)
      have h2 := hne (n + 1) (by omega)
      simp only [sm, h2]
      omega
theorem sm_le {f : Nat → Nat} {c : Nat} : ∀ (n : Nat), (∀ i, 1 ≤ i → i ≤ n → f i ≤ c) → sm f n ≤ n * c
  | 0, _ => by simp [sm]
  | n + 1, h => by
    have h1 := sm_le n (fun i a b => h i a (by omega))
    have h2 := h (n + 1) (by omega) (by omega)
    have h3 : (n + 1) * c = n * c + c := Nat.succ_mul n c
    simp only [sm]
    omega
theorem sm_get {f : Nat → Nat} {i : Nat} (hi : 1 ≤ i) : ∀ (n : Nat), i ≤ n → f i ≤ sm f n
  | 0, h => by omega
  | n + 1, h => by
    by_cases e : i = n + 1
    · subst e
      simp only [sm]
      omega
    · have h1 := sm_get (f := f) hi n (by omega)
      simp only [sm]
      omega
/-! an item's front at a gate -/
def fr (v : gV) (i g : Nat) : Nat := v 0 i + 1000 * g + 1000
def opv (v : gV) (i g : Nat) : Nat := if g = v 12 0 then 1 else if v 7 g = 0 ∧ v 8 g ≤ fr v i g then (if v 2 i = g + 1 ∧ v 10 g < v 9 g then 1 else 0) else v 6 g
def evt (v : gV) (i g : Nat) : gV := fun a b =>
  if a = 6 ∧ b = g then opv v i g
  else if a = 8 ∧ b = g then fr v i g + v 1 i + 200
  else if opv v i g = 1 then
    (if a = 3 ∧ b = i then g + 1 else if a = 10 ∧ b = g then v 10 g + 1 else if a = 11 ∧ b = g then v 11 g + 1 else v a b)
  else (if a = 4 ∧ b = i then v 4 i + 1 else v a b)
theorem evt_ne {v : gV} {i g a b : Nat} (h1 : a = 3 ∨ a = 4 → b ≠ i) (h2 : a = 6 ∨ a = 8 ∨ a = 10 ∨ a = 11 → b ≠ g) : evt v i g a b = v a b := by
  have c6 : ¬ (a = 6 ∧ b = g) := fun h => h2 (by omega) h.2
  have c8 : ¬ (a = 8 ∧ b = g) := fun h => h2 (by omega) h.2
  have c10 : ¬ (a = 10 ∧ b = g) := fun h => h2 (by omega) h.2
  have c11 : ¬ (a = 11 ∧ b = g) := fun h => h2 (by omega) h.2
  have c3 : ¬ (a = 3 ∧ b = i) := fun h => h1 (by omega) h.2
  have c4 : ¬ (a = 4 ∧ b = i) := fun h => h1 (by omega) h.2
  unfold evt
  rw [if_neg c6, if_neg c8, if_neg c3, if_neg c10, if_neg c11, if_neg c4]
  split <;> rfl
theorem evt_3 (v : gV) (i g : Nat) : evt v i g 3 i = if opv v i g = 1 then g + 1 else v 3 i := by
  unfold evt
  simp
theorem evt_4 (v : gV) (i g : Nat) : evt v i g 4 i = if opv v i g = 1 then v 4 i else v 4 i + 1 := by
  unfold evt
  simp
theorem evt_6 (v : gV) (i g : Nat) : evt v i g 6 g = opv v i g := by
  unfold evt
  simp
theorem evt_8 (v : gV) (i g : Nat) : evt v i g 8 g = fr v i g + v 1 i + 200 := by
  unfold evt
  simp
theorem evt_10 (v : gV) (i g : Nat) : evt v i g 10 g = if opv v i g = 1 then v 10 g + 1 else v 10 g := by
  unfold evt
  simp
theorem evt_11 (v : gV) (i g : Nat) : evt v i g 11 g = if opv v i g = 1 then v 11 g + 1 else v 11 g := by
  unfold evt
  simp
theorem evt_k {v : gV} {i g a b : Nat} (h : a ≠ 3 ∧ a ≠ 4 ∧ a ≠ 6 ∧ a ≠ 8 ∧ a ≠ 10 ∧ a ≠ 11) : evt v i g a b = v a b := evt_ne (fun z => by omega) (fun z => by omega)
theorem evt_i {v : gV} {i g j : Nat} (a : Nat) (ha : a = 3 ∨ a = 4) (h : j ≠ i) : evt v i g a j = v a j := evt_ne (fun _ => h) (fun z => by omega)
theorem evt_g {v : gV} {i g h : Nat} (a : Nat) (ha : a = 6 ∨ a = 8 ∨ a = 10 ∨ a = 11) (hn : h ≠ g) : evt v i g a h = v a h := evt_ne (fun z => by omega) (fun _ => hn)
theorem fr_evt (v : gV) (i g j h : Nat) : fr (evt v i g) j h = fr v j h := by
  unfold fr
  rw [evt_k (by decide)]
theorem opv_evt {v : gV} {i g j h : Nat} (hgh : h ≠ g) : opv (evt v i g) j h = opv v j h := by
  unfold opv
  rw [fr_evt, evt_k (a := 12) (by decide), evt_k (a := 7) (by decide), evt_k (a := 2) (by decide), evt_k (a := 9) (by decide), evt_g 8 (by decide) hgh, evt_g 10 (by decide) hgh, evt_g 6 (by decide) hgh]
theorem evt_cong {v w : gV} {i g a b : Nat} (ho : opv w i g = opv v i g) (hf : fr w i g = fr v i g) (h1 : w 1 i = v 1 i) (h4 : w 4 i = v 4 i) (h10 : w 10 g = v 10 g) (h11 : w 11 g = v 11 g) (hab : w a b = v a b) : evt w i g a b = evt v i g a b := by
  unfold evt
  rw [ho, hf, h1, h4, h10, h11, hab]
theorem evt_comm {v : gV} {i g j h : Nat} (hij : i ≠ j) (hgh : g ≠ h) : evt (evt v i g) j h = evt (evt v j h) i g := by
  funext a b
  by_cases r1 : ((a = 3 ∨ a = 4) ∧ b = i) ∨ ((a = 6 ∨ a = 8 ∨ a = 10 ∨ a = 11) ∧ b = g)
  · have e1 : evt (evt v i g) j h a b = evt v i g a b := evt_ne (fun z => by omega) (fun z => by omega)
    have e2 : evt (evt v j h) i g a b = evt v i g a b := evt_cong (opv_evt (by omega)) (fr_evt _ _ _ _ _) (evt_k (by decide)) (evt_i 4 (by decide) hij) (evt_g 10 (by decide) hgh) (evt_g 11 (by decide) hgh) (evt_ne (fun z => by omega) (fun z => by omega))
    rw [e1, e2]
  · by_cases r2 : ((a = 3 ∨ a = 4) ∧ b = j) ∨ ((a = 6 ∨ a = 8 ∨ a = 10 ∨ a = 11) ∧ b = h)
    · have e1 : evt (evt v j h) i g a b = evt v j h a b := evt_ne (fun z => by omega) (fun z => by omega)
      have e2 : evt (evt v i g) j h a b = evt v j h a b := evt_cong (opv_evt (by omega)) (fr_evt _ _ _ _ _) (evt_k (by decide)) (evt_i 4 (by decide) (by omega)) (evt_g 10 (by decide) (by omega)) (evt_g 11 (by decide) (by omega)) (evt_ne (fun z => by omega) (fun z => by omega))
      rw [e1, e2]
    · rw [evt_ne (v := evt v i g) (fun z => by omega) (fun z => by omega), evt_ne (v := v) (fun z => by omega) (fun z => by omega), evt_ne (v := evt v j h) (fun z => by omega) (fun z => by omega), evt_ne (v := v) (fun z => by omega) (fun z => by omega)]
/-! a step of the belt up to t: the first item of those that are next at the gate g -/
def en (v : gV) (t i g : Nat) : Prop := 1 ≤ i ∧ i ≤ v 12 1 ∧ v 3 i = 0 ∧ v 4 i = g ∧ g ≤ v 12 0 ∧ fr v i g ≤ t ∧ ∀ j, 1 ≤ j → j < i → v 3 j = 0 → v 4 j ≠ g
def mono (v : gV) : Prop := ∀ j i, 1 ≤ j → j < i → i ≤ v 12 1 → v 3 j = 0 → v 3 i = 0 → v 4 i ≤ v 4 j
theorem mono_evt {v : gV} {t i g : Nat} (hm : mono v) (he : en v t i g) : mono (evt v i g) := by
  obtain ⟨h1, h2, h3, h4, h5, h6, h7⟩ := he
  intro j k hj hjk hk bj bk
  rw [evt_k (by decide)] at hk
  by_cases ej : j = i
  · subst ej
    rw [evt_i 3 (by decide) (by omega)] at bk
    rw [evt_i 4 (by decide) (by omega), evt_4]
    have := hm j k hj hjk hk h3 bk
    split <;> omega
  · rw [evt_i 3 (by decide) ej] at bj
    rw [evt_i 4 (by decide) ej]
    by_cases ek : k = i
    · subst ek
      have a1 := hm j k hj hjk hk bj h3
      have a2 := h7 j hj hjk bj
      rw [evt_4]
      split <;> omega
    · rw [evt_i 3 (by decide) ek] at bk
      rw [evt_i 4 (by decide) ek]
      exact hm j k hj hjk hk bj bk
theorem en_apart {v : gV} {t i g j h : Nat} (he : en v t i g) (hf : en v t j h) (hij : i ≠ j) : g ≠ h := by
  obtain ⟨h1, h2, h3, h4, h5, h6, h7⟩ := he
  obtain ⟨f1, f2, f3, f4, f5, f6, f7⟩ := hf
  intro e
  subst e
  rcases Nat.lt_or_gt_of_ne hij with z | z
  · exact f7 i h1 z h3 h4
  · exact h7 j f1 z f3 f4
theorem en_keep {v : gV} {t i g j h : Nat} (hm : mono v) (he : en v t i g) (hf : en v t j h) (hij : i ≠ j) : en (evt v i g) t j h := by
  have hgh := en_apart he hf hij
  obtain ⟨h1, h2, h3, h4, h5, h6, h7⟩ := he
  obtain ⟨f1, f2, f3, f4, f5, f6, f7⟩ := hf
  refine ⟨f1, by rw [evt_k (by decide)]; exact f2, by rw [evt_i 3 (by decide) (Ne.symm hij)]; exact f3, by rw [evt_i 4 (by decide) (Ne.symm hij)]; exact f4, by rw [evt_k (by decide)]; exact f5, by rw [fr_evt]; exact f6, ?_⟩
  intro k k1 k2 k3
  by_cases e : k = i
  · subst e
    have a1 := hm k j k1 k2 f2 h3 f3
    rw [evt_3] at k3
    rw [evt_4]
    split
    · rename_i z
      rw [if_pos z] at k3
      omega
    · omega
  · rw [evt_i 3 (by decide) e] at k3
    rw [evt_i 4 (by decide) e]
    exact f7 k k1 k2 k3
def run (t : Nat) : List (Nat × Nat) → gV → gV → Prop
  | [], v, w => w = v
  | q :: es, v, w => en v t q.1 q.2 ∧ run t es (evt v q.1 q.2) w
def quiet (v : gV) (t : Nat) : Prop := ∀ i g, ¬ en v t i g
theorem run_swap {t i g : Nat} : ∀ (fs : List (Nat × Nat)) (v w : gV), mono v → en v t i g → run t fs v w → quiet w t → ∃ fs', run t fs' (evt v i g) w
  | [], v, w, _, he, hr, hq => by
    have e : w = v := hr
    subst e
    exact absurd he (hq i g)
  | q :: fs, v, w, hm, he, hr, hq => by
    obtain ⟨j, h⟩ := q
    obtain ⟨hf, hr⟩ := hr
    have hf : en v t j h := hf
    have hr : run t fs (evt v j h) w := hr
    by_cases e : i = j
    · subst e
      have e2 : g = h := he.2.2.2.1.symm.trans hf.2.2.2.1
      subst e2
      exact ⟨fs, hr⟩
    · obtain ⟨fs', h'⟩ := run_swap fs (evt v j h) w (mono_evt hm hf) (en_keep hm hf he (Ne.symm e)) hr hq
      refine ⟨(j, h) :: fs', en_keep hm he hf e, ?_⟩
      show run t fs' (evt (evt v i g) j h) w
      rw [evt_comm e (en_apart he hf e)]
      exact h'
theorem run_same {t : Nat} : ∀ (es : List (Nat × Nat)) (v w : gV), mono v → run t es v w → quiet w t → ∀ (fs : List (Nat × Nat)) (u : gV), run t fs v u → quiet u t → w = u
  | [], v, w, _, hr, hq, fs, u, hr2, _ => by
    have e : w = v := hr
    subst e
    cases fs with
    | nil =>
      have e : u = w := hr2
      exact e.symm
    | cons q fs => exact absurd hr2.1 (hq _ _)
  | q :: es, v, w, hm, hr, hq, fs, u, hr2, hq2 => by
    obtain ⟨fs', h'⟩ := run_swap fs v u hm hr.1 hr2 hq2
    exact run_same es (evt v q.1 q.2) w (mono_evt hm hr.1) hr.2 hq fs' u h' hq2
theorem run_snoc {t : Nat} : ∀ (es : List (Nat × Nat)) (v w : gV) (i g : Nat), run t es v w → en w t i g → run t (es ++ [(i, g)]) v (evt w i g)
  | [], v, w, i, g, hr, he => by
    have e : w = v := hr
    subst e
    exact ⟨he, rfl⟩
  | q :: es, v, w, i, g, hr, he => ⟨hr.1, run_snoc es _ w i g hr.2 he⟩
/-! lists that rise -/
theorem rise_one {R : Nat → Nat → Prop} (irr : ∀ a, ¬ R a a) (tr : ∀ a b c, R a b → R b c → R a c) : ∀ (l1 l2 : List Nat), l1.Pairwise R → l2.Pairwise R → (∀ x, x ∈ l1 ↔ x ∈ l2) → l1 = l2
  | [], l2, _, _, h => by
    cases l2 with
    | nil => rfl
    | cons b l2 => exact absurd ((h b).mpr List.mem_cons_self) List.not_mem_nil
  | a :: l1, [], _, _, h => absurd ((h a).mp List.mem_cons_self) List.not_mem_nil
  | a :: l1, b :: l2, h1, h2, h => by
    rw [List.pairwise_cons] at h1 h2
    have hab : a = b := by
      rcases List.mem_cons.mp ((h a).mp List.mem_cons_self) with z | z
      · exact z
      · rcases List.mem_cons.mp ((h b).mpr List.mem_cons_self) with y | y
        · exact y.symm
        · exact absurd (tr _ _ _ (h1.1 b y) (h2.1 a z)) (irr a)
    subst hab
    have ht : ∀ x, x ∈ l1 ↔ x ∈ l2 := fun x => by
      constructor
      · intro hx
        rcases List.mem_cons.mp ((h x).mp (List.mem_cons_of_mem _ hx)) with z | z
        · subst z
          exact absurd (h1.1 x hx) (irr x)
        · exact z
      · intro hx
        rcases List.mem_cons.mp ((h x).mpr (List.mem_cons_of_mem _ hx)) with z | z
        · subst z
          exact absurd (h2.1 x hx) (irr x)
        · exact z
    rw [rise_one irr tr l1 l2 h1.2 h2.2 ht]
theorem few {n : Nat} : ∀ (k : Nat) (l : List Nat), l.Pairwise (· ≠ ·) → (∀ x, x ∈ l → 1 ≤ x ∧ x ≤ k) → l.length ≤ k
  | 0, l, _, h => by
    cases l with
    | nil => simp
    | cons a l =>
      have := h a List.mem_cons_self
      omega
  | k + 1, l, hp, h => by
    have h1 : (l.filter (fun x => x != k + 1)).length ≤ k := by
      refine few (n := n) k _ (hp.filter _) (fun x hx => ?_)
      rw [List.mem_filter] at hx
      have a1 := h x hx.1
      have a2 : x ≠ k + 1 := by simpa using hx.2
      omega
    have h2 : ∀ (l : List Nat), l.Pairwise (· ≠ ·) → l.length ≤ (l.filter (fun x => x != k + 1)).length + 1 := by
      intro l hp
      induction l with
      | nil => simp
      | cons a l ih =>
        rw [List.pairwise_cons] at hp
        by_cases e : a = k + 1
        · have e2 : l.filter (fun x => x != k + 1) = l := by
            rw [List.filter_eq_self]
            intro x hx
            have := hp.1 x hx
            simp
            omega
          rw [List.filter_cons_of_neg (by simp [e]), e2]
          simp
        · rw [List.filter_cons_of_pos (by simp [e])]
          have := ih hp.2
          simp only [List.length_cons]
          omega
    have := h2 l hp
    omega
/-! what came, in its order -/
def tm (v : gV) (i : Nat) : Nat := v 0 i + 1000 * v 3 i
def ltk (v : gV) (a b : Nat) : Prop := tm v a < tm v b ∨ (tm v a = tm v b ∧ a < b)
theorem ltk_irr (v : gV) (a : Nat) : ¬ ltk v a a := fun h => by
  unfold ltk at h
  omega
theorem ltk_tr (v : gV) (a b c : Nat) (h : ltk v a b) (g : ltk v b c) : ltk v a c := by
  unfold ltk at *
  omega
def cameOK (v : gV) (o : List Nat) : Prop := (∀ i, i ∈ o ↔ (1 ≤ i ∧ i ≤ v 12 1 ∧ v 3 i ≠ 0)) ∧ o.Pairwise (ltk v)
theorem came_one {v : gV} {o1 o2 : List Nat} (h1 : cameOK v o1) (h2 : cameOK v o2) : o1 = o2 := rise_one (ltk_irr v) (ltk_tr v) o1 o2 h1.2 h2.2 (fun x => (h1.1 x).trans (h2.1 x).symm)
theorem came_few {v : gV} {o : List Nat} (h : cameOK v o) : o.length ≤ v 12 1 := by
  refine few (n := 0) (v 12 1) o (h.2.imp (fun {a b} z e => ?_)) (fun x hx => ?_)
  · subst e
    exact ltk_irr v a z
  · have := (h.1 x).mp hx
    omega
