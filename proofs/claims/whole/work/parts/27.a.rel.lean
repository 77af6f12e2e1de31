theorem cR_as {cs : Nat → ClassId} {M : xM} {x va vb P : gV} {o w : List Nat} (h : cR cs M x va P o w) (h0 : ∀ a b, a ≠ 4 → ¬ ((6 ≤ a ∧ a ≤ 10) ∧ b = va 12 0) → vb a b = va a b) : cR cs M x vb P o w :=
  cR_same h ⟨h0 12 0 (by decide) (by omega), h0 12 1 (by decide) (by omega)⟩ (fun c d hv => cel_eq c d (fun _ => ⟨h0 12 0 (by decide) (by omega), h0 12 1 (by decide) (by omega), fun _ => ⟨h0 12 3 (by decide) (by omega), h0 12 2 (by decide) (by omega)⟩, fun _ p => h0 11 p (by decide) (by omega), fun _ => rfl, fun _ _ _ _ _ _ _ _ => rfl⟩) (fun e => by
    have hd : d ≠ va 12 0 := by
      unfold vd at hv
      omega
    exact ⟨h0 6 d (by decide) (by omega), h0 7 d (by decide) (by omega), h0 8 d (by decide) (by omega), h0 9 d (by decide) (by omega), h0 10 d (by decide) (by omega)⟩) (fun _ => ⟨rfl, rfl⟩) (fun _ _ _ => ⟨h0 0 d (by decide) (by omega), h0 1 d (by decide) (by omega), h0 2 d (by decide) (by omega), h0 3 d (by decide) (by omega), h0 5 d (by decide) (by omega), rfl⟩))
theorem upd_cnt {v : gV} {g y : Nat} : upd (fun p => nI (v 11 p)) g (nI y) = fun p => nI (up2 v 11 g y 11 p) := by
  funext p
  unfold upd up2
  by_cases e : p = g
  · rw [if_pos e, if_pos ⟨rfl, e⟩]
  · rw [if_neg e, if_neg (fun z => e z.2)]
theorem came_few1 {v : gV} {o : List Nat} {i : Nat} (h : cameOK v o) (h1 : 1 ≤ i) (h2 : i ≤ v 12 1) (h3 : v 3 i = 0) : o.length + 1 ≤ v 12 1 := by
  have := few (n := 0) (v 12 1) (i :: o) (by
    rw [List.pairwise_cons]
    refine ⟨fun a ha e => came_ne h ha h3 e.symm, h.2.imp (fun {a b} z e => ?_)⟩
    subst e
    exact ltk_irr v a z) (fun x hx => by
    rcases List.mem_cons.mp hx with z | z
    · subst z
      exact ⟨h1, h2⟩
    · have := (h.1 x).mp z
      exact ⟨this.1, this.2.1⟩)
  simpa using this
/-- after the gate has turned, before the item is put -/
def tkV (v : gV) (i g : Nat) : gV := fun a b => if a = 3 ∨ a = 4 ∨ a = 11 then v a b else evt v i g a b
theorem tk_gate {v : gV} {i g : Nat} : cGate (evt v i g) g = cGate (tkV v i g) g := rfl
theorem tk_oth {v : gV} {i g a b : Nat} (h : ¬ ((a = 6 ∨ a = 7 ∨ a = 8 ∨ a = 9 ∨ a = 10) ∧ b = g)) : tkV v i g a b = v a b := by
  unfold tkV
  by_cases e : a = 3 ∨ a = 4 ∨ a = 11
  · rw [if_pos e]
  · rw [if_neg e]
    exact evt_ne (fun z => by omega) (fun z => by omega)
theorem tk_put {v : gV} {i g : Nat} (ho : opv v i g = 1) : ∀ a b, a ≠ 4 → evt v i g a b = up2 (up2 (tkV v i g) 3 i (g + 1)) 11 g (tkV v i g 11 g + 1) a b := by
  intro a b n4
  by_cases e3 : a = 3
  · subst e3
    rw [up2_k _ _ _ _ (by decide)]
    by_cases eb : b = i
    · subst eb
      rw [up2_self, evt_3, if_pos ho]
    · rw [up2_i _ _ _ _ eb, evt_i 3 (by decide) eb]
      rfl
  · by_cases e11 : a = 11
    · subst e11
      by_cases eb : b = g
      · subst eb
        rw [up2_self, evt_11, if_pos ho]
        rfl
      · rw [up2_i _ _ _ _ eb, up2_k _ _ _ _ e3, evt_g 11 (by decide) eb]
        rfl
    · rw [up2_k _ _ _ _ e11, up2_k _ _ _ _ e3]
      unfold tkV
      rw [if_neg (by omega)]
theorem tk_on {v : gV} {i g : Nat} (ho : opv v i g ≠ 1) : ∀ a b, a ≠ 4 → evt v i g a b = tkV v i g a b := by
  intro a b n4
  unfold tkV
  by_cases e : a = 3 ∨ a = 4 ∨ a = 11
  · rw [if_pos e]
    by_cases e3 : a = 3
    · subst e3
      by_cases eb : b = i
      · subst eb
        rw [evt_3, if_neg ho]
      · rw [evt_i 3 (by decide) eb]
    · have e11 : a = 11 := by omega
      subst e11
      by_cases eb : b = g
      · subst eb
        rw [evt_11, if_neg ho]
      · rw [evt_g 11 (by decide) eb]
  · rw [if_neg e]
theorem tk_last {v : gV} {i g : Nat} (hg : g = v 12 0) : ∀ a b, a ≠ 4 → ¬ ((6 ≤ a ∧ a ≤ 10) ∧ b = v 12 0) → evt v i g a b = up2 (up2 v 3 i (g + 1)) 11 g (v 11 g + 1) a b := by
  intro a b n4 hn
  have ho : opv v i g = 1 := by
    rw [hg]
    exact opv_last v i
  by_cases e3 : a = 3
  · subst e3
    rw [up2_k _ _ _ _ (by decide)]
    by_cases eb : b = i
    · subst eb
      rw [up2_self, evt_3, if_pos ho]
    · rw [up2_i _ _ _ _ eb, evt_i 3 (by decide) eb]
  · by_cases e11 : a = 11
    · subst e11
      by_cases eb : b = g
      · subst eb
        rw [up2_self, evt_11, if_pos ho]
      · rw [up2_i _ _ _ _ eb, up2_k _ _ _ _ e3, evt_g 11 (by decide) eb]
    · rw [up2_k _ _ _ _ e11, up2_k _ _ _ _ e3]
      exact evt_ne (fun z => by omega) (fun z => by omega)
theorem wr_snoc {v : gV} {t i g : Nat} {o : List Nat} (hc : cameOK v o) (he : en v t i g) (ho : opv v i g = 1) : (o ++ [i]).filter (wr (evt v i g)) = if v 2 i ≠ 0 ∧ v 2 i ≠ g + 1 then o.filter (wr v) ++ [i] else o.filter (wr v) := by
  rw [List.filter_append, wr_filter (fun a ha => came_ne hc ha he.2.2.1)]
  have e : wr (evt v i g) i = (decide (v 2 i ≠ 0) && decide (v 2 i ≠ g + 1)) := by
    unfold wr
    rw [evt_k (by decide), evt_3, if_pos ho]
  by_cases z : v 2 i ≠ 0 ∧ v 2 i ≠ g + 1
  · rw [if_pos z, List.filter_cons_of_pos (by rw [e]; simp [z.1, z.2])]
    rfl
  · rw [if_neg z, List.filter_cons_of_neg (by rw [e]; simp; omega)]
    simp
