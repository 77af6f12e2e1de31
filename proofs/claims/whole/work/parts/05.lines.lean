/-! lines of items, one behind the other: P 0 p first, P 1 p last (0: none), P 2 i the one behind i -/
def lastD : List Nat → Nat
  | [] => 0
  | [a] => a
  | _ :: b :: r => lastD (b :: r)
theorem lastD_snoc (i : Nat) : ∀ (l : List Nat), lastD (l ++ [i]) = i
  | [] => rfl
  | [a] => rfl
  | a :: b :: r => lastD_snoc i (b :: r)
theorem lastD_mem : ∀ (l : List Nat), l ≠ [] → lastD l ∈ l
  | [], h => absurd rfl h
  | [a], _ => List.mem_cons_self
  | a :: b :: r, _ => List.mem_cons_of_mem _ (lastD_mem (b :: r) (by simp))
def chn (bh : Nat → Nat) : List Nat → Prop
  | [] => True
  | [i] => bh i = 0
  | i :: j :: r => bh i = j ∧ chn bh (j :: r)
theorem chn_cong {b1 b2 : Nat → Nat} : ∀ (l : List Nat), (∀ x, x ∈ l → b1 x = b2 x) → chn b1 l → chn b2 l
  | [], _, _ => trivial
  | [i], h, hc => by
    have h1 : b1 i = 0 := hc
    show b2 i = 0
    rw [← h i List.mem_cons_self]
    exact h1
  | i :: j :: r, h, hc => ⟨by rw [← h i List.mem_cons_self]; exact hc.1, chn_cong (j :: r) (fun x hx => h x (List.mem_cons_of_mem _ hx)) hc.2⟩
theorem chn_head {bh : Nat → Nat} {i : Nat} {l : List Nat} (h : chn bh (i :: l)) : bh i = l.headD 0 := by
  cases l with
  | nil => exact h
  | cons j r => exact h.1
theorem chn_tail {bh : Nat → Nat} {i : Nat} {l : List Nat} (h : chn bh (i :: l)) : chn bh l := by
  cases l with
  | nil => trivial
  | cons j r => exact h.2
theorem chn_snoc {bh b2 : Nat → Nat} {i : Nat} (hi : b2 i = 0) : ∀ (l : List Nat), chn bh l → l.Pairwise (· < ·) → (∀ x, x ∈ l → x ≠ lastD l → b2 x = bh x) → (l ≠ [] → b2 (lastD l) = i) → chn b2 (l ++ [i])
  | [], _, _, _, _ => hi
  | [a], _, _, _, h2 => ⟨h2 (by simp), hi⟩
  | a :: b :: r, hc, hp, h1, h2 => by
    rw [List.pairwise_cons] at hp
    have hl : lastD (b :: r) ∈ b :: r := lastD_mem _ (by simp)
    have hne : a ≠ lastD (b :: r) := fun e => by
      have := hp.1 _ hl
      omega
    refine ⟨?_, chn_snoc hi (b :: r) hc.2 hp.2 (fun x hx hn => h1 x (List.mem_cons_of_mem _ hx) hn) (fun _ => h2 (by simp))⟩
    rw [h1 a List.mem_cons_self hne]
    exact hc.1
def ln (P : gV) (p : Nat) (l : List Nat) : Prop := P 0 p = l.headD 0 ∧ P 1 p = lastD l ∧ chn (P 2) l
def lvP (P : gV) (p i : Nat) : gV := if P 2 i = 0 then up2 (up2 (up2 P 0 p (P 2 i)) 2 i 0) 1 p 0 else up2 (up2 P 0 p (P 2 i)) 2 i 0
def jnP (P : gV) (p i : Nat) : gV := up2 (if P 1 p = 0 then up2 P 0 p i else up2 P 2 (P 1 p) i) 1 p i
theorem lvP_2 (P : gV) (p i j : Nat) : lvP P p i 2 j = if j = i then 0 else P 2 j := by
  unfold lvP
  split <;> simp [up2]
theorem lvP_0 (P : gV) (p i q : Nat) : lvP P p i 0 q = if q = p then P 2 i else P 0 q := by
  unfold lvP
  split <;> simp [up2]
theorem lvP_1 (P : gV) (p i q : Nat) : lvP P p i 1 q = if q = p ∧ P 2 i = 0 then 0 else P 1 q := by
  unfold lvP
  split <;> rename_i h <;> simp [up2, h]
theorem jnP_1 (P : gV) (p i q : Nat) : jnP P p i 1 q = if q = p then i else P 1 q := by
  unfold jnP
  split <;> simp [up2]
theorem jnP_0 (P : gV) (p i q : Nat) : jnP P p i 0 q = if q = p ∧ P 1 p = 0 then i else P 0 q := by
  unfold jnP
  split <;> rename_i h <;> simp [up2, h]
theorem jnP_2 (P : gV) (p i j : Nat) : jnP P p i 2 j = if j = P 1 p ∧ P 1 p ≠ 0 then i else P 2 j := by
  unfold jnP
  split <;> rename_i h <;> simp [up2, h]
theorem ln_leave {P : gV} {p i : Nat} {r : List Nat} (h : ln P p (i :: r)) (hp : (i :: r).Pairwise (· < ·)) (h1 : ∀ x, x ∈ r → 1 ≤ x) : ln (lvP P p i) p r := by
  obtain ⟨a1, a2, a3⟩ := h
  rw [List.pairwise_cons] at hp
  have e := chn_head a3
  refine ⟨by rw [lvP_0, if_pos rfl, e], ?_, chn_cong r (fun x hx => ?_) (chn_tail a3)⟩
  · rw [lvP_1, e]
    cases r with
    | nil => simp [lastD]
    | cons b r =>
      have := h1 b List.mem_cons_self
      rw [if_neg (by rintro ⟨-, z⟩; simp at z; omega), a2]
      rfl
  · have := hp.1 x hx
    show P 2 x = lvP P p i 2 x
    rw [lvP_2, if_neg (by omega)]
theorem ln_leave_ne {P : gV} {p q i : Nat} {l : List Nat} (h : ln P q l) (hq : q ≠ p) (hi : i ∉ l) : ln (lvP P p i) q l := by
  obtain ⟨a1, a2, a3⟩ := h
  refine ⟨by rw [lvP_0, if_neg hq]; exact a1, by rw [lvP_1, if_neg (fun z => hq z.1)]; exact a2, chn_cong l (fun x hx => ?_) a3⟩
  show P 2 x = lvP P p i 2 x
  rw [lvP_2, if_neg (fun e => hi (by rw [← e]; exact hx))]
theorem ln_join {P : gV} {p i : Nat} {l : List Nat} (h : ln P p l) (hp : l.Pairwise (· < ·)) (h1 : ∀ x, x ∈ l → 1 ≤ x ∧ x < i) (hb : P 2 i = 0) : ln (jnP P p i) p (l ++ [i]) := by
  obtain ⟨a1, a2, a3⟩ := h
  refine ⟨?_, by rw [jnP_1, if_pos rfl, lastD_snoc], ?_⟩
  · rw [jnP_0]
    cases l with
    | nil => rw [if_pos ⟨rfl, a2⟩]; rfl
    | cons a r =>
      have := h1 _ (lastD_mem (a :: r) (by simp))
      rw [if_neg (by rw [a2]; omega), a1]
      rfl
  · refine chn_snoc (bh := P 2) ?_ l a3 hp (fun x hx hn => ?_) (fun hl => ?_)
    · show jnP P p i 2 i = 0
      rw [jnP_2, if_neg ?_]
      · exact hb
      · rintro ⟨z1, z2⟩
        rw [a2] at z1 z2
        by_cases e : l = []
        · subst e
          exact z2 rfl
        · have := h1 _ (lastD_mem l e)
          omega
    · show jnP P p i 2 x = P 2 x
      rw [jnP_2, if_neg (fun z => hn (z.1.trans a2))]
    · show jnP P p i 2 (lastD l) = i
      have := h1 _ (lastD_mem l hl)
      rw [jnP_2, if_pos ⟨a2.symm, by rw [a2]; omega⟩]
theorem ln_join_ne {P : gV} {p q i : Nat} {l k : List Nat} (h : ln P q l) (hk : ln P p k) (hq : q ≠ p) (hi : ∀ x, x ∈ l → x ∉ k) (h1 : ∀ x, x ∈ l → 1 ≤ x) : ln (jnP P p i) q l := by
  obtain ⟨a1, a2, a3⟩ := h
  refine ⟨by rw [jnP_0, if_neg (fun z => hq z.1)]; exact a1, by rw [jnP_1, if_neg hq]; exact a2, chn_cong l (fun x hx => ?_) a3⟩
  show P 2 x = jnP P p i 2 x
  rw [jnP_2, if_neg ?_]
  rintro ⟨z1, z2⟩
  rw [hk.2.1] at z1 z2
  have hne : k ≠ [] := fun e => by subst e; exact z2 rfl
  exact hi x hx (by rw [z1]; exact lastD_mem k hne)
/-! the lines of the belt -/
def Lk (v P : gV) (L : Nat → List Nat) : Prop := (∀ p, p ≤ v 12 0 → (∀ i, i ∈ L p ↔ (1 ≤ i ∧ i ≤ v 12 1 ∧ v 3 i = 0 ∧ v 4 i = p)) ∧ (L p).Pairwise (· < ·) ∧ ln P p (L p)) ∧ (∀ i, (1 ≤ i ∧ i ≤ v 12 1 ∧ v 3 i = 0) ∨ P 2 i = 0)
theorem Lk_head {v P : gV} {L : Nat → List Nat} {i p : Nat} {r : List Nat} (h : Lk v P L) (hp : p ≤ v 12 0) (e : L p = i :: r) : 1 ≤ i ∧ i ≤ v 12 1 ∧ v 3 i = 0 ∧ v 4 i = p ∧ ∀ j, 1 ≤ j → j < i → v 3 j = 0 → v 4 j ≠ p := by
  obtain ⟨h1, h2, h3⟩ := h.1 p hp
  have hm := (h1 i).mp (by rw [e]; exact List.mem_cons_self)
  refine ⟨hm.1, hm.2.1, hm.2.2.1, hm.2.2.2, fun j j1 j2 j3 j4 => ?_⟩
  have hj := (h1 j).mpr ⟨j1, by omega, j3, j4⟩
  rw [e] at hj h2
  rw [List.pairwise_cons] at h2
  rcases List.mem_cons.mp hj with z | z
  · omega
  · have := h2.1 j z
    omega
theorem Lk_first {v P : gV} {L : Nat → List Nat} {p : Nat} (h : Lk v P L) (hp : p ≤ v 12 0) : (P 0 p = 0 ∧ L p = []) ∨ ∃ i r, L p = i :: r ∧ P 0 p = i ∧ 1 ≤ i := by
  obtain ⟨h1, h2, h3⟩ := h.1 p hp
  cases e : L p with
  | nil =>
    rw [e] at h3
    exact Or.inl ⟨h3.1, rfl⟩
  | cons i r =>
    have hm := (h1 i).mp (by rw [e]; exact List.mem_cons_self)
    rw [e] at h3
    exact Or.inr ⟨i, r, rfl, h3.1, hm.1⟩
theorem Lk_in {v P : gV} {L : Nat → List Nat} {t i p : Nat} {r : List Nat} (h : Lk v P L) (he : en v t i p) (e : L p = i :: r) (ho : opv v i p = 1) : Lk (evt v i p) (lvP P p i) (va_up L p r) := by
  obtain ⟨b1, b2, b3, b4, b5, b6, b7⟩ := he
  have e12 : ∀ b, evt v i p 12 b = v 12 b := fun b => evt_k (by decide)
  refine ⟨fun q hq => ?_, fun j => ?_⟩
  · rw [e12] at hq
    obtain ⟨h1, h2, h3⟩ := h.1 q hq
    by_cases eq : q = p
    · subst eq
      rw [va_up_self]
      rw [e] at h2 h3
      have h2' := List.pairwise_cons.mp h2
      refine ⟨fun j => ?_, h2'.2, ln_leave h3 h2 (fun x hx => ((h1 x).mp (by rw [e]; exact List.mem_cons_of_mem _ hx)).1)⟩
      rw [e12]
      by_cases ej : j = i
      · subst ej
        rw [evt_3, if_pos ho]
        constructor
        · intro hx
          have := h2'.1 j hx
          omega
        · rintro ⟨-, -, z, -⟩
          omega
      · rw [evt_i 3 (by decide) ej, evt_i 4 (by decide) ej, ← h1 j, e, List.mem_cons]
        exact ⟨fun z => Or.inr z, fun z => z.elim (fun y => absurd y ej) id⟩
    · rw [va_up_ne _ _ eq]
      refine ⟨fun j => ?_, h2, ln_leave_ne h3 eq (fun z => eq (((h1 i).mp z).2.2.2.symm.trans b4))⟩
      rw [e12]
      by_cases ej : j = i
      · subst ej
        rw [evt_3, if_pos ho]
        constructor
        · intro z
          exact absurd (((h1 j).mp z).2.2.2.symm.trans b4) eq
        · rintro ⟨-, -, z, -⟩
          omega
      · rw [evt_i 3 (by decide) ej, evt_i 4 (by decide) ej]
        exact h1 j
  · rw [lvP_2, e12]
    by_cases ej : j = i
    · exact Or.inr (if_pos ej)
    · rw [if_neg ej, evt_i 3 (by decide) ej]
      exact h.2 j
theorem Lk_on {v P : gV} {L : Nat → List Nat} {t i p : Nat} {r : List Nat} (hm : mono v) (h : Lk v P L) (he : en v t i p) (e : L p = i :: r) (ho : opv v i p ≠ 1) : Lk (evt v i p) (jnP (lvP P p i) (p + 1) i) (va_up (va_up L p r) (p + 1) (L (p + 1) ++ [i])) := by
  obtain ⟨b1, b2, b3, b4, b5, b6, b7⟩ := he
  have hpl : p + 1 ≤ v 12 0 := by
    have : p ≠ v 12 0 := fun z => ho (by rw [z]; exact opv_last v i)
    omega
  have e12 : ∀ b, evt v i p 12 b = v 12 b := fun b => evt_k (by decide)
  have hi0 : lvP P p i 2 i = 0 := by rw [lvP_2, if_pos rfl]
  obtain ⟨n1, n2, n3⟩ := h.1 (p + 1) hpl
  have hin : i ∉ L (p + 1) := fun z => by
    have := ((n1 i).mp z).2.2.2
    omega
  have n3' : ln (lvP P p i) (p + 1) (L (p + 1)) := ln_leave_ne n3 (by omega) hin
  have hlt : ∀ x, x ∈ L (p + 1) → 1 ≤ x ∧ x < i := fun x hx => by
    have hx2 := (n1 x).mp hx
    refine ⟨hx2.1, Nat.lt_of_not_le (fun z => ?_)⟩
    rcases Nat.lt_or_eq_of_le z with z | z
    · have := hm i x b1 z hx2.2.1 b3 hx2.2.2.1
      omega
    · subst z
      exact hin hx
  refine ⟨fun q hq => ?_, fun j => ?_⟩
  · rw [e12] at hq
    obtain ⟨h1, h2, h3⟩ := h.1 q hq
    by_cases eq1 : q = p + 1
    · subst eq1
      rw [va_up_self]
      refine ⟨fun j => ?_, ?_, ln_join n3' h2 hlt hi0⟩
      · rw [e12, List.mem_append, List.mem_singleton]
        by_cases ej : j = i
        · subst ej
          rw [evt_3, if_neg ho, evt_4, if_neg ho, b3, b4]
          exact ⟨fun _ => ⟨b1, b2, rfl, rfl⟩, fun _ => Or.inr rfl⟩
        · rw [evt_i 3 (by decide) ej, evt_i 4 (by decide) ej, h1 j]
          exact ⟨fun z => z.elim id (fun y => absurd y ej), fun z => Or.inl z⟩
      · rw [List.pairwise_append]
        refine ⟨h2, List.pairwise_singleton _ _, fun a ha b hb => ?_⟩
        rw [List.mem_singleton] at hb
        subst hb
        exact (hlt a ha).2
    · rw [va_up_ne _ _ eq1]
      by_cases eq : q = p
      · subst eq
        rw [va_up_self]
        rw [e] at h2 h3
        have h2' := List.pairwise_cons.mp h2
        have hr1 : ∀ x, x ∈ r → 1 ≤ x ∧ x ≤ v 12 1 ∧ v 3 x = 0 ∧ v 4 x = q := fun x hx => (h1 x).mp (by rw [e]; exact List.mem_cons_of_mem _ hx)
        refine ⟨fun j => ?_, h2'.2, ln_join_ne (ln_leave h3 h2 (fun x hx => (hr1 x hx).1)) n3' (by omega) (fun x hx z => ?_) (fun x hx => (hr1 x hx).1)⟩
        · rw [e12]
          by_cases ej : j = i
          · subst ej
            rw [evt_4, if_neg ho, b4]
            constructor
            · intro hx
              have := h2'.1 j hx
              omega
            · rintro ⟨-, -, -, z⟩
              omega
          · rw [evt_i 3 (by decide) ej, evt_i 4 (by decide) ej, ← h1 j, e, List.mem_cons]
            exact ⟨fun z => Or.inr z, fun z => z.elim (fun y => absurd y ej) id⟩
        · have z1 := (hr1 x hx).2.2.2
          have z2 := ((n1 x).mp z).2.2.2
          omega
      · rw [va_up_ne _ _ eq]
        refine ⟨fun j => ?_, h2, ln_join_ne (ln_leave_ne h3 eq (fun z => eq (((h1 i).mp z).2.2.2.symm.trans b4))) n3' eq1 (fun x hx z => ?_) (fun x hx => ((h1 x).mp hx).1)⟩
        · rw [e12]
          by_cases ej : j = i
          · subst ej
            rw [evt_4, if_neg ho, b4]
            constructor
            · intro z
              exact absurd (((h1 j).mp z).2.2.2.symm.trans b4) eq
            · rintro ⟨-, -, -, z⟩
              exact absurd z.symm eq1
          · rw [evt_i 3 (by decide) ej, evt_i 4 (by decide) ej]
            exact h1 j
        · have z1 := ((h1 x).mp hx).2.2.2
          have z2 := ((n1 x).mp z).2.2.2
          omega
  · rw [e12]
    by_cases ej : j = i
    · subst ej
      rw [evt_3, if_neg ho]
      exact Or.inl ⟨b1, b2, b3⟩
    · rw [evt_i 3 (by decide) ej]
      by_cases hz : 1 ≤ j ∧ j ≤ v 12 1 ∧ v 3 j = 0
      · exact Or.inl hz
      · refine Or.inr ?_
        have z := (h.2 j).resolve_left hz
        rw [jnP_2, if_neg ?_, lvP_2, if_neg ej]
        · exact z
        · rintro ⟨z1, z2⟩
          rw [n3'.2.1] at z1 z2
          have hne : L (p + 1) ≠ [] := fun y => by rw [y] at z2; exact z2 rfl
          have hm2 := (n1 _).mp (lastD_mem _ hne)
          rw [← z1] at hm2
          exact hz ⟨hm2.1, hm2.2.1, hm2.2.2.1⟩
/-! the next place: lines looked at from the far end down to p; pl the best so far (0 none, place + 1), ea its time -/
def nb (v : gV) (L : Nat → List Nat) (t p pl ea : Nat) : Prop := ((pl = 0 ∧ ea = t + 1) ∨ ∃ q0 i r, pl = q0 + 1 ∧ p ≤ q0 ∧ q0 ≤ v 12 0 ∧ L q0 = i :: r ∧ ea = fr v i q0 ∧ ea ≤ t) ∧ ∀ q, p ≤ q → q ≤ v 12 0 → ∀ j r, L q = j :: r → ea ≤ fr v j q ∧ (fr v j q = ea → q + 1 ≤ pl ∨ pl = 0)
theorem nb_top (v : gV) (L : Nat → List Nat) (t : Nat) : nb v L t (v 12 0 + 1) 0 (t + 1) := ⟨Or.inl ⟨rfl, rfl⟩, fun q h1 h2 => by omega⟩
theorem nb_none {v : gV} {L : Nat → List Nat} {t p pl ea : Nat} (h : nb v L t (p + 1) pl ea) (e : L p = []) : nb v L t p pl ea := by
  refine ⟨?_, fun q h1 h2 j r hq => ?_⟩
  · rcases h.1 with z | ⟨q0, i, r, a1, a2, a3⟩
    · exact Or.inl z
    · exact Or.inr ⟨q0, i, r, a1, by omega, a3⟩
  · by_cases z : q = p
    · subst z
      rw [e] at hq
      cases hq
    · exact h.2 q (by omega) h2 j r hq
theorem nb_keep {v : gV} {L : Nat → List Nat} {t p pl ea i : Nat} {r : List Nat} (h : nb v L t (p + 1) pl ea) (e : L p = i :: r) (hn : ¬ fr v i p < ea) : nb v L t p pl ea := by
  refine ⟨?_, fun q h1 h2 j r2 hq => ?_⟩
  · rcases h.1 with z | ⟨q0, i, r, a1, a2, a3⟩
    · exact Or.inl z
    · exact Or.inr ⟨q0, i, r, a1, by omega, a3⟩
  · by_cases z : q = p
    · subst z
      rw [e] at hq
      cases hq
      refine ⟨by omega, fun _ => ?_⟩
      rcases h.1 with y | ⟨q0, i0, r0, a1, a2, a3⟩
      · exact Or.inr y.1
      · left
        omega
    · exact h.2 q (by omega) h2 j r2 hq
theorem nb_take {v : gV} {L : Nat → List Nat} {t p pl ea i : Nat} {r : List Nat} (h : nb v L t (p + 1) pl ea) (hp : p ≤ v 12 0) (e : L p = i :: r) (hn : fr v i p < ea) : nb v L t p (p + 1) (fr v i p) := by
  have hea : ea ≤ t + 1 := by
    rcases h.1 with z | ⟨q0, i, r, a1, a2, a3, a4, a5, a6⟩ <;> omega
  refine ⟨Or.inr ⟨p, i, r, rfl, Nat.le_refl _, hp, e, rfl, by omega⟩, fun q h1 h2 j r2 hq => ?_⟩
  by_cases z : q = p
  · subst z
    rw [e] at hq
    cases hq
    exact ⟨Nat.le_refl _, fun _ => Or.inl (Nat.le_refl _)⟩
  · have := (h.2 q (by omega) h2 j r2 hq).1
    exact ⟨by omega, fun y => by omega⟩
theorem nb_quiet {v P : gV} {L : Nat → List Nat} {t ea : Nat} (hi : gInv v) (hL : Lk v P L) (h : nb v L t 0 0 ea) : quiet v t := by
  have hea : ea = t + 1 := by
    rcases h.1 with z | ⟨q0, i, r, a1, a2⟩
    · exact z.2
    · omega
  intro i g he
  obtain ⟨b1, b2, b3, b4, b5, b6, b7⟩ := he
  obtain ⟨h1, h2, h3⟩ := hL.1 g b5
  have hm := (h1 i).mpr ⟨b1, b2, b3, b4⟩
  cases e : L g with
  | nil =>
    rw [e] at hm
    cases hm
  | cons j r =>
    have hj := Lk_head hL b5 e
    have z := (h.2 g (Nat.zero_le _) b5 j r e).1
    rw [e] at hm h2
    rw [List.pairwise_cons] at h2
    rcases List.mem_cons.mp hm with y | y
    · subst y
      omega
    · have y2 := h2.1 i y
      have := at_mono hi hj.1 y2 b2
      unfold fr at z b6
      omega
theorem nb_best {v P : gV} {L : Nat → List Nat} {t q0 ea : Nat} (hi : gInv v) (hL : Lk v P L) (h : nb v L t 0 (q0 + 1) ea) : ∃ i r, L q0 = i :: r ∧ q0 ≤ v 12 0 ∧ en v t i q0 ∧ best v i q0 := by
  rcases h.1 with z | ⟨q1, i, r, a1, a2, a3, a4, a5, a6⟩
  · omega
  · have e1 : q1 = q0 := by omega
    subst e1
    have hj := Lk_head hL a3 a4
    refine ⟨i, r, a4, a3, ⟨hj.1, hj.2.1, hj.2.2.1, hj.2.2.2.1, a3, by omega, hj.2.2.2.2⟩, fun j j1 j2 j3 j4 => ?_⟩
    have hq : v 4 j ≤ v 12 0 := (hi.2.2.2.2.1 j j1 j2).2.2.2.2.2.1 j3
    obtain ⟨h1, h2, h3⟩ := hL.1 (v 4 j) hq
    have hm := (h1 j).mpr ⟨j1, j2, j3, rfl⟩
    cases e : L (v 4 j) with
    | nil =>
      rw [e] at hm
      cases hm
    | cons k s =>
      have hk := Lk_head hL hq e
      have z := h.2 (v 4 j) (Nat.zero_le _) hq k s e
      rw [e] at hm h2
      rw [List.pairwise_cons] at h2
      rcases List.mem_cons.mp hm with y | y
      · subst y
        rw [← a5]
        rcases Nat.lt_or_eq_of_le z.1 with x | x
        · exact Or.inl x
        · refine Or.inr ⟨x, ?_⟩
          have x2 := z.2 x.symm
          have x3 : v 4 j ≤ q1 := by omega
          rcases Nat.lt_or_eq_of_le x3 with w | w
          · refine Nat.lt_of_not_le (fun hle => ?_)
            rcases Nat.lt_or_eq_of_le hle with u | u
            · have := at_mono hi j1 u hj.2.1
              rw [a5] at x
              unfold fr at x
              omega
            · exact j4 u
          · rw [w, a4] at e
            injection e with e1 e2
            exact absurd e1.symm j4
      · have y2 := h2.1 j y
        have := at_mono hi hk.1 y2 j2
        left
        have z1 := z.1
        rw [a5] at z1
        unfold fr at z1 ⊢
        omega
/-! places of a list -/
def oat (o : List Nat) (k : Nat) : Nat := o.getD k 0
theorem oat_get {o : List Nat} {k : Nat} (h : k < o.length) : oat o k = o[k] := by
  unfold oat
  simp [h]
theorem oat_mem {o : List Nat} {k : Nat} (h : k < o.length) : oat o k ∈ o := by
  rw [oat_get h]
  exact List.getElem_mem h
theorem mem_oat {o : List Nat} {x : Nat} (h : x ∈ o) : ∃ k, k < o.length ∧ oat o k = x := by
  obtain ⟨k, hk, e⟩ := List.getElem_of_mem h
  exact ⟨k, hk, by rw [oat_get hk]; exact e⟩
theorem oat_snoc_lt {o : List Nat} {i k : Nat} (h : k < o.length) : oat (o ++ [i]) k = oat o k := by
  rw [oat_get h, oat_get (by rw [List.length_append]; omega), List.getElem_append_left h]
theorem oat_snoc (o : List Nat) (i : Nat) : oat (o ++ [i]) o.length = i := by
  rw [oat_get (by rw [List.length_append]; simp)]
  simp
def insAt (o : List Nat) (p i : Nat) : List Nat := o.take p ++ i :: o.drop p
theorem insAt_len {o : List Nat} {p i : Nat} (h : p ≤ o.length) : (insAt o p i).length = o.length + 1 := by
  unfold insAt
  simp
  omega
theorem insAt_mem {o : List Nat} {p i x : Nat} : x ∈ insAt o p i ↔ x = i ∨ x ∈ o := by
  have e : ∀ y, y ∈ o ↔ y ∈ o.take p ∨ y ∈ o.drop p := fun y => by
    rw [← List.mem_append, List.take_append_drop]
  unfold insAt
  rw [List.mem_append, List.mem_cons, e x]
  constructor
  · rintro (h | h | h)
    · exact Or.inr (Or.inl h)
    · exact Or.inl h
    · exact Or.inr (Or.inr h)
  · rintro (h | h | h)
    · exact Or.inr (Or.inl h)
    · exact Or.inl h
    · exact Or.inr (Or.inr h)
theorem insAt_at {o : List Nat} {p i k : Nat} (hp : p ≤ o.length) (hk : k ≤ o.length) : oat (insAt o p i) k = if k < p then oat o k else if k = p then i else oat o (k - 1) := by
  have hl : (o.take p).length = p := by
    rw [List.length_take]
    omega
  unfold insAt
  by_cases h1 : k < p
  · rw [if_pos h1, oat_get (by simp; omega), oat_get (by omega), List.getElem_append_left (by omega)]
    simp
  · rw [if_neg h1]
    by_cases h2 : k = p
    · subst h2
      rw [if_pos rfl, oat_get (by simp; omega), List.getElem_append_right (by omega)]
      simp [hl]
    · obtain ⟨d, rfl⟩ : ∃ d, k = p + d + 1 := ⟨k - p - 1, by omega⟩
      rw [if_neg h2]
      unfold oat
      rw [List.getD_eq_getElem?_getD, List.getD_eq_getElem?_getD, List.getElem?_append_right (by omega), hl, show p + d + 1 - p = d + 1 by omega, List.getElem?_cons_succ, List.getElem?_drop, show p + d + 1 - 1 = p + d by omega]
theorem insAt_pw {R : Nat → Nat → Prop} (tr : ∀ a b c, R a b → R b c → R a c) {o : List Nat} {i p : Nat} (hp : p ≤ o.length) (ho : o.Pairwise R) (h1 : p = 0 ∨ R (oat o (p - 1)) i) (h2 : ∀ k, p ≤ k → k < o.length → R i (oat o k)) : (insAt o p i).Pairwise R := by
  have hd : ∀ x, x ∈ o.drop p → R i x := fun x hx => by
    obtain ⟨k, hk, e⟩ := List.getElem_of_mem hx
    rw [List.length_drop] at hk
    rw [List.getElem_drop] at e
    have := h2 (p + k) (by omega) (by omega)
    rw [oat_get (by omega), e] at this
    exact this
  have ht : ∀ x, x ∈ o.take p → R x i := fun x hx => by
    obtain ⟨k, hk, e⟩ := List.getElem_of_mem hx
    rw [List.length_take] at hk
    rw [List.getElem_take] at e
    have hk1 : k < p := by omega
    rcases h1 with z | z
    · omega
    · rw [oat_get (by omega)] at z
      by_cases hk2 : k = p - 1
      · subst hk2
        rw [← e]
        exact z
      · have := (List.pairwise_iff_getElem.mp ho) k (p - 1) (by omega) (by omega) (by omega)
        rw [e] at this
        exact tr _ _ _ this z
  unfold insAt
  rw [List.pairwise_append, List.pairwise_cons]
  refine ⟨ho.sublist (List.take_sublist p o), ⟨hd, ho.sublist (List.drop_sublist p o)⟩, fun a ha b hb => ?_⟩
  rcases List.mem_cons.mp hb with z | z
  · subst z
    exact ht a ha
  · exact tr _ _ _ (ht a ha) (hd b z)
/-! the reference's pass: gate by gate, item by item -/
def doneTo (v : gV) (t g : Nat) : Prop := ∀ j, 1 ≤ j → j ≤ v 12 1 → v 3 j = 0 → v 4 j < g → t < fr v j (v 4 j)
def doneIn (v : gV) (t g i : Nat) : Prop := ∀ j, 1 ≤ j → j < i → v 3 j = 0 → v 4 j = g → t < fr v j g
theorem done_en {v : gV} {t g i : Nat} (h : gInv v) (hd : doneIn v t g i) (h1 : 1 ≤ i) (h2 : i ≤ v 12 1) (h3 : v 3 i = 0) (h4 : v 4 i = g) (h5 : g ≤ v 12 0) (h6 : fr v i g ≤ t) : en v t i g :=
  ⟨h1, h2, h3, h4, h5, h6, fun j j1 j2 j3 j4 => by
    have a := hd j j1 j2 j3 j4
    have b := at_mono h j1 j2 h2
    unfold fr at a h6
    omega⟩
theorem done_step {v : gV} {t g i : Nat} (he : en v t i g) (ha : doneTo v t g) (hd : doneIn v t g i) : doneTo (evt v i g) t g ∧ doneIn (evt v i g) t g (i + 1) := by
  obtain ⟨b1, b2, b3, b4, b5, b6, b7⟩ := he
  refine ⟨fun j j1 j2 j3 j4 => ?_, fun j j1 j2 j3 j4 => ?_⟩
  · rw [evt_k (by decide)] at j2
    by_cases e : j = i
    · subst e
      rw [evt_3] at j3
      rw [evt_4] at j4
      split at j3
      · omega
      · rename_i z
        rw [if_neg z] at j4
        omega
    · rw [evt_i 3 (by decide) e] at j3
      rw [evt_i 4 (by decide) e] at j4
      rw [fr_evt, evt_i 4 (by decide) e]
      exact ha j j1 j2 j3 j4
  · by_cases e : j = i
    · subst e
      rw [evt_3] at j3
      rw [evt_4] at j4
      split at j3
      · omega
      · rename_i z
        rw [if_neg z] at j4
        omega
    · rw [evt_i 3 (by decide) e] at j3
      rw [evt_i 4 (by decide) e] at j4
      rw [fr_evt]
      exact hd j j1 (by omega) j3 j4
theorem done_next {v : gV} {t g : Nat} (ha : doneTo v t g) (hd : doneIn v t g (v 12 1 + 1)) : doneTo v t (g + 1) := fun j j1 j2 j3 j4 => by
  by_cases e : v 4 j = g
  · rw [e]
    exact hd j j1 (by omega) j3 e
  · exact ha j j1 j2 j3 (by omega)
theorem done_quiet {v : gV} {t : Nat} (h : gInv v) (ha : doneTo v t (v 12 0 + 1)) : quiet v t := quiet_of (fun i i1 i2 i3 => ha i i1 i2 i3 (by
  have := (h.2.2.2.2.1 i i1 i2).2.2.2.2.2.1 i3
  omega))
/-! the reference's list of what came: all that came below i, and what was there, o0 -/
def insI (v : gV) (o0 : List Nat) (i : Nat) (o : List Nat) : Prop := o.Pairwise (ltk v) ∧ ∀ j, j ∈ o ↔ (1 ≤ j ∧ j ≤ v 12 1 ∧ v 3 j ≠ 0 ∧ (j ∈ o0 ∨ j < i))
theorem insI_0 {v v0 : gV} {o0 : List Nat} (h : cameOK v0 o0) (hn : v 12 1 = v0 12 1) (h3 : ∀ i, v0 3 i ≠ 0 → v 3 i = v0 3 i) (h0 : ∀ i, v 0 i = v0 0 i) : insI v o0 1 o0 := by
  refine ⟨h.2.imp_of_mem (fun {a b} ha hb hab => ?_), fun j => ?_⟩
  · have e1 := h3 a ((h.1 a).mp ha).2.2
    have e2 := h3 b ((h.1 b).mp hb).2.2
    unfold ltk tm at hab ⊢
    rw [e1, e2, h0, h0]
    exact hab
  · constructor
    · intro hj
      have z := (h.1 j).mp hj
      exact ⟨z.1, by rw [hn]; exact z.2.1, by rw [h3 j z.2.2]; exact z.2.2, Or.inl hj⟩
    · rintro ⟨a1, a2, a3, a4 | a4⟩
      · exact a4
      · omega
theorem insI_skip {v : gV} {o0 o : List Nat} {i : Nat} (h : insI v o0 i o) (hs : v 3 i = 0 ∨ i ∈ o) : insI v o0 (i + 1) o := by
  refine ⟨h.1, fun j => ?_⟩
  rw [h.2 j]
  constructor
  · rintro ⟨a1, a2, a3, a4⟩
    exact ⟨a1, a2, a3, a4.elim Or.inl (fun z => Or.inr (by omega))⟩
  · rintro ⟨a1, a2, a3, a4 | a4⟩
    · exact ⟨a1, a2, a3, Or.inl a4⟩
    · by_cases e : j = i
      · subst e
        rcases hs with z | z
        · exact absurd z a3
        · exact (h.2 j).mp z
      · exact ⟨a1, a2, a3, Or.inr (by omega)⟩
theorem insI_in {v : gV} {o0 o : List Nat} {i p : Nat} (h : insI v o0 i o) (h1 : 1 ≤ i) (h2 : i ≤ v 12 1) (h3 : v 3 i ≠ 0) (hp : p ≤ o.length) (ha : p = 0 ∨ ltk v (oat o (p - 1)) i) (hb : ∀ k, p ≤ k → k < o.length → ltk v i (oat o k)) : insI v o0 (i + 1) (insAt o p i) := by
  refine ⟨insAt_pw (ltk_tr v) hp h.1 ha hb, fun j => ?_⟩
  rw [insAt_mem, h.2 j]
  constructor
  · rintro (z | ⟨a1, a2, a3, a4⟩)
    · subst z
      exact ⟨h1, h2, h3, Or.inr (by omega)⟩
    · exact ⟨a1, a2, a3, a4.elim Or.inl (fun z => Or.inr (by omega))⟩
  · rintro ⟨a1, a2, a3, a4 | a4⟩
    · exact Or.inr ⟨a1, a2, a3, Or.inl a4⟩
    · by_cases e : j = i
      · exact Or.inl e
      · exact Or.inr ⟨a1, a2, a3, Or.inr (by omega)⟩
theorem insI_end {v : gV} {o0 o : List Nat} (h : insI v o0 (v 12 1 + 1) o) : cameOK v o := ⟨fun j => by
  rw [h.2 j]
  constructor
  · rintro ⟨a1, a2, a3, a4⟩
    exact ⟨a1, a2, a3⟩
  · rintro ⟨a1, a2, a3⟩
    exact ⟨a1, a2, a3, Or.inr (by omega)⟩, h.1⟩
theorem insI_few {v : gV} {o0 o : List Nat} {i : Nat} (h : insI v o0 i o) (h1 : 1 ≤ i) (h2 : i ≤ v 12 1) (hi : i ∉ o) : o.length + 1 ≤ v 12 1 := by
  have := few (n := 0) (v 12 1) (i :: o) (by
    rw [List.pairwise_cons]
    refine ⟨fun a ha e => hi (by rw [e]; exact ha), h.1.imp (fun {a b} z e => ?_)⟩
    subst e
    exact ltk_irr v a z) (fun x hx => by
    rcases List.mem_cons.mp hx with z | z
    · subst z
      exact ⟨h1, h2⟩
    · have := (h.2 x).mp z
      exact ⟨this.1, this.2.1⟩)
  simpa using this
theorem insI_len {v : gV} {o0 o : List Nat} {i : Nat} (h : insI v o0 i o) : o.length ≤ v 12 1 := by
  refine few (n := 0) (v 12 1) o (h.1.imp (fun {a b} z e => ?_)) (fun x hx => ?_)
  · subst e
    exact ltk_irr v a z
  · have := (h.2 x).mp hx
    exact ⟨this.1, this.2.1⟩
