/-! THE LAW: two worlds in one heap, the class's and the reference's -/
def l2 (A : Nat → Prop) (D : va_G) (cl : List vw_C) (M N : xM) (H0 H : Heap) (locs : List Loc) : Prop := xw A D cl M H0 H locs ∧ xw A D cl N H0 H locs ∧ ∀ q, M q = none ∨ N q = none
theorem l2s {A : Nat → Prop} {D : va_G} {cl : List vw_C} {M N : xM} {H0 H : Heap} {locs : List Loc} (h : l2 A D cl M N H0 H locs) : l2 A D cl N M H0 H locs := ⟨h.2.1, h.1, fun q => (h.2.2 q).symm⟩
theorem l2w {A : Nat → Prop} {D : va_G} {cl : List vw_C} {M N : xM} {H0 H : Heap} {locs : List Loc} (h : l2 A D cl M N H0 H locs) : xw A D cl M H0 H locs := h.1
theorem l2_split {A : Nat → Prop} {D : va_G} {cl : List vw_C} {M M1 : xM} {H0 H : Heap} {locs : List Loc} {q : Nat} {e : va_E} (h : xw A D cl M1 H0 H locs) (hM : M1 = va_up M q (some e)) (hn : M q = none) : l2 A D cl M (va_up (fun _ => none) q (some e)) H0 H locs := by
  subst hM
  have hne : ∀ a (f : va_E), M a = some f → a ≠ q := fun a f ha z => by
    rw [z, hn] at ha
    cases ha
  refine ⟨⟨fun a f ha => h.1 a f (by rw [va_up_ne _ _ (hne a f ha)]; exact ha), fun a ha => ?_, h.2.2⟩, ⟨fun a f ha => ?_, fun a ha => ?_, h.2.2⟩, fun a => ?_⟩
  · by_cases z : a = q
    · exact absurd (by rw [z]; exact hn) ha
    · exact h.2.1 a (by rw [va_up_ne _ _ z]; exact ha)
  · by_cases z : a = q
    · subst z
      rw [va_up_self] at ha
      exact h.1 a f (by rw [va_up_self]; exact ha)
    · rw [va_up_ne _ _ z] at ha
      cases ha
  · by_cases z : a = q
    · exact h.2.1 a (by rw [z, va_up_self]; exact fun y => by cases y)
    · rw [va_up_ne _ _ z] at ha
      exact absurd rfl ha
  · by_cases z : a = q
    · exact Or.inl (by rw [z]; exact hn)
    · exact Or.inr (va_up_ne _ _ z)
section LW
variable {p : Program} {l : Launch} {e : Env} {R : Room} {s : State} {m : MethodId} {args : Array Value} {below : List Frame} {meth : Method} {c : Code} {H : Heap} {locs : List Loc} {cells slots : Nat} {Q : State → Prop}
variable {cc : ByteArray} {pc : Nat} {ls : Array Slot} {rest : List Value} {D : va_G} {cl : List vw_C} {A : Nat → Prop} {M N : xM} {H0 : Heap}
theorem l_call {post : Option Value → xM → Prop} {ar : Array Value} {st0 : List Value} {mc ms : Nat} (hr : va_Run p l e R s m args below meth c H locs cells slots mc ms (F0 m pc ls st0) rest (xQ D cl M H.size post ar) (xA M H.size)) (hw : l2 A D cl M N H0 H locs) (hA : ∀ q, H0.size ≤ q → A q)
    (kk : ∀ (v : Option Value) (M1 : xM) (H1 : Heap) (locs1 : List Loc), post v M1 → l2 A D cl M1 N H0 H1 locs1 → W p l e R s m args below meth c H1 locs1 (cells + mc) (slots + ms) Q (F0 m (pc + 3) ls (v.toList ++ rest))) : W p l e R s m args below meth c H locs cells slots Q (F0 m pc ls st0) := by
  refine x_call hr hw.1 hA (fun v M1 H1 locs1 hp hw1 hz hk hd => kk v M1 H1 locs1 hp ⟨hw1, ⟨fun q f hq => ?_, hw.2.1.2.1, hw1.2.2⟩, fun q => ?_⟩)
  · exact (hw.2.1.1 q f hq).kept (hk q (hw.2.1.1 q f hq).lt ((hw.2.2 q).resolve_right (x_some hq)))
  · cases hN : N q with
    | none => exact Or.inr rfl
    | some f =>
      cases hM : M1 q with
      | none => exact Or.inl rfl
      | some g =>
        rcases hd q (x_some hM) with h | h
        · exact absurd ((hw.2.2 q).resolve_right (x_some hN)) h
        · exact absurd (hw.2.1.1 q f hN).lt (Nat.not_lt.mpr h)
theorem l_calli {post : Int32 → xM → Prop} {ar : Array Value} {st0 : List Value} {mc ms : Nat} (hr : va_Run p l e R s m args below meth c H locs cells slots mc ms (F0 m pc ls st0) rest (xQ D cl M H.size (fun v M1 => ∃ r : Int32, v = some (.int r) ∧ post r M1) ar) (xA M H.size)) (hw : l2 A D cl M N H0 H locs) (hA : ∀ q, H0.size ≤ q → A q)
    (kk : ∀ (r : Int32) (M1 : xM) (H1 : Heap) (locs1 : List Loc), post r M1 → l2 A D cl M1 N H0 H1 locs1 → W p l e R s m args below meth c H1 locs1 (cells + mc) (slots + ms) Q (F0 m (pc + 3) ls (.int r :: rest))) : W p l e R s m args below meth c H locs cells slots Q (F0 m pc ls st0) :=
  l_call hr hw hA (fun v M1 H1 locs1 hp hw1 => by obtain ⟨r, rfl, hp⟩ := hp; exact kk r M1 H1 locs1 hp hw1)
theorem l_callv {post : xM → Prop} {ar : Array Value} {st0 : List Value} {mc ms : Nat} (hr : va_Run p l e R s m args below meth c H locs cells slots mc ms (F0 m pc ls st0) rest (xQ D cl M H.size (fun v M1 => v = none ∧ post M1) ar) (xA M H.size)) (hw : l2 A D cl M N H0 H locs) (hA : ∀ q, H0.size ≤ q → A q)
    (kk : ∀ (M1 : xM) (H1 : Heap) (locs1 : List Loc), post M1 → l2 A D cl M1 N H0 H1 locs1 → W p l e R s m args below meth c H1 locs1 (cells + mc) (slots + ms) Q (F0 m (pc + 3) ls rest)) : W p l e R s m args below meth c H locs cells slots Q (F0 m pc ls st0) :=
  l_call hr hw hA (fun v M1 H1 locs1 hp hw1 => by obtain ⟨rfl, hp⟩ := hp; exact kk M1 H1 locs1 hp hw1)
/-- behind a call that leaves the heap as it is -/
theorem l_cell {r : Int32} {ar : Array Value} {st0 : List Value} (hr : va_Run p l e R s m args below meth c H locs cells slots 0 0 (F0 m pc ls st0) rest ((fun (_ : Array Value) (st : State) (oc : Outcome) (t : State) => oc = .returned (some (.int r)) ∧ t.heap = st.heap) ar) (fun _ => False))
    (kk : W p l e R s m args below meth c H locs cells slots Q (F0 m (pc + 3) ls (.int r :: rest))) : W p l e R s m args below meth c H locs cells slots Q (F0 m pc ls st0) := by
  intro T hT X
  obtain ⟨v, st₀, t, T', L, h0, X', hL, e1, e2, ⟨hv, hh⟩, st⟩ := hr T hT X
  cases hv
  have hLn : L = [] := by
    cases L with
    | nil => rfl
    | cons q z => exact (hL q List.mem_cons_self).elim
  subst hLn
  rw [List.append_nil] at X'
  obtain ⟨t2, a1, b1⟩ := kk T' (by rw [e1, hh, h0]) X'
  exact ⟨t2, st t2 a1, b1⟩
/-- the script's k-th int -/
theorem l_sld (hexec : p.tables.exec = Jvm.exec) (hb : c.code = cc) {b L : Nat} {xs : Nat → Int32} (hX : va_X b L xs s H0) (hbl : b < H0.size) (hbA : ¬ A b) (hS : va_S A H0 H locs) {k : Nat} (hk : k < L) (hL : L ≤ 2561) (hdg : decode cc pc = .ok (.iaload, 1))
    (kk : W p l e R s m args below meth c H locs cells slots Q (F0 m (pc + 1) ls (.int (xs k) :: rest))) : W p l e R s m args below meth c H locs cells slots Q (F0 m pc ls (.int (nI k) :: .ref b :: rest)) := va_sld hexec hb hX hbl hbA hS (vp_in_nI hk (by omega)) hdg (by rw [nI_clamp (by omega)]; exact kk)
end LW
/-- cell(script, 0) -/
def lc0 (L : Nat) (xs : Nat → Int32) : Int32 := if 0 < L then xs 0 else 0
set_option maxHeartbeats 4000000 in
set_option maxRecDepth 100000 in
theorem c_Law_cell (l : Launch) (b L : Nat) (xs : Nat → Int32) (hL : L ≤ 2561) : Met l y_Law_cell w_Law_cell ({ frames := 0, cells := 0, slots := 0, locals := 0 }) (va_Pc [.ref b, .int 0] (fun U => va_X b L xs U U.heap ∧ b < U.heap.size)) (fun (_ : Array Value) (st : State) (oc : Outcome) (t : State) => oc = .returned (some (.int (lc0 L xs))) ∧ t.heap = st.heap) 0 0 (fun _ => False) := by
  refine Met.ofW (cc := b_Law_cell) (maxL := 2) (ret := some .int) (by decide) rfl ?_
  intro p e s m args below meth c s₁ B hml hv
  obtain ⟨rfl, hX, hbl⟩ := hv
  have hx := B.exec
  have hb := B.bytes
  have hr := B.returns
  have hlk := B.notSynchronized
  have hl := lv_entry ([.ref b, .int 0]) (n := 2) (Nat.le_of_ble_eq_true rfl)
  rw [lg_entry_eq]
  generalize (lg_sl ([.ref b, .int 0]) ++ List.replicate (2 - (lg_sl ([.ref b, .int 0])).length) Slot.unset).toArray = ls at hl ⊢
  have hl : lv_has ls 2 [(0, .ref b), (1, .int 0)] := hl
  have hS : va_S (fun _ => False) s.heap s.heap [] := va_S.rf
  refine lv_iload_n hx hb d_Law_cell_0 rfl (lv_at hl 1 rfl) ?_
  refine lv_aload_n hx hb d_Law_cell_1 rfl (lv_at hl 0 rfl) ?_
  refine va_slen hx hb hX hbl (fun h => h) hS d_Law_cell_2 ?_
  refine lv_icmp_ge (tgt := 12) hx hb d_Law_cell_3 (by decide) (fun c3 => ?_) (fun c3 => ?_)
  · have h0 : ¬ 0 < L := fun z => absurd (show nI 0 < nI L from nI_lt z (by omega)) (Int32.not_lt.mpr c3)
    refine lv_iconst (v := 0) hx hb d_Law_cell_12 (by decide) ?_
    exact W.zret hx hb hr rfl (fun t ht _ => ⟨by unfold lc0; rw [if_neg h0], ht⟩) hS.2.2 d_Law_cell_13 hlk
  · have h0 : 0 < L := Nat.pos_of_ne_zero (fun z => c3 (by subst z; exact Int32.le_refl _))
    refine lv_aload_n hx hb d_Law_cell_6 rfl (lv_at hl 0 rfl) ?_
    refine lv_iload_n hx hb d_Law_cell_7 rfl (lv_at hl 1 rfl) ?_
    refine l_sld (k := 0) hx hb hX hbl (fun h => h) hS h0 hL d_Law_cell_8 ?_
    refine lv_goto (tgt := 13) hx hb d_Law_cell_9 (by decide) ?_
    exact W.zret hx hb hr rfl (fun t ht _ => ⟨by unfold lc0; rw [if_pos h0], ht⟩) hS.2.2 d_Law_cell_13 hlk
/-- a script's start, for the call of cell -/
theorem l_preC {b L : Nat} {xs : Nat → Int32} {s : State} {A : Nat → Prop} {H : Heap} {locs : List Loc} (hX : va_X b L xs s s.heap) (hbl : b < s.heap.size) (hbA : ¬ A b) (hS : va_S A s.heap H locs) : PreS s H (va_Pc [.ref b, .int 0] (fun U => va_X b L xs U U.heap ∧ b < U.heap.size)) [.ref b, .int 0] :=
  ⟨fun a U g mk q => ⟨q.1, va_X.moved (u := U) (U := U.calling g mk a) (Vm.Alike.refl U.vm) q.2.1, q.2.2⟩, fun U hU hW => ⟨rfl, by rw [hU]; exact va_X.moved hW.alike (hX.kept (hS.2.1 b hbl hbA)), by rw [hU]; exact Nat.lt_of_lt_of_le hbl hS.1⟩⟩
/-- the classes and the arrays' classes as the tables have them -/
theorem l_prim {args : Array Value} {s : State} {ty : FieldType} (h : (Cond.arrayClass ty).before args s = true) (hp : ∀ U cA, U.vm.findClass ("[" ++ ty.toString) = some cA → va_RA U cA ty) : ∃ cA, ArrOfT s cA ty ∧ va_RA s cA ty := by
  obtain ⟨cA, k, comp, h1, h2, h3⟩ := Cond.arrayClass_spec h
  exact ⟨cA, fun N z => ⟨(fun k h => by cases h), k, h2, comp, h3⟩, hp s cA h1⟩
theorem l_obj {s : State} {C : String} (h : va_AO C s) : ∃ cA, ArrOfT s cA (.object C) ∧ va_RA s cA (.object C) := by
  obtain ⟨comp, cA, k, h1, h2, h3, h4, h5⟩ := Cond.arrayOver_spec h
  exact ⟨cA, fun N z => ⟨(fun k h => by cases h), k, h3, comp, h4⟩, k, comp, h3, h4, h1, h5⟩
theorem l_K {args : Array Value} {s : State} (hts : ∀ w ∈ aw, w.before args s = true) (hZ : xZ s) : ∃ (D : va_G) (cs : Nat → ClassId), va_K D classes (xtys cs) s := by
  obtain ⟨c0, i0, k0⟩ := u_known (C := "GateTimes") (T := F_GT) (N := 8) (n := 8) hts i_GT (hts _ wd_9)
  obtain ⟨c1, i1, k1⟩ := u_known (C := "GateTimes$Gate") (T := F_Gate) (N := 5) (n := 5) hts i_Gate (hts _ wd_42)
  obtain ⟨c2, i2, k2⟩ := u_known (C := "GateTimes$Line") (T := F_Line) (N := 2) (n := 2) hts i_Line (hts _ wd_67)
  obtain ⟨c3, i3, k3⟩ := u_known (C := "GateTimes$Item") (T := F_Item) (N := 7) (n := 7) hts i_Item (hts _ wd_129)
  obtain ⟨c4, i4, k4⟩ := u_known (C := "GateTimes$Row") (T := F_Row) (N := 2) (n := 2) hts i_Row (hts _ wd_17)
  obtain ⟨c5, i5, k5⟩ := u_known (C := "GateTimesModel") (T := F_Mo) (N := 21) (n := 21) hts i_Mo (hts _ wd_254)
  obtain ⟨a0, b0⟩ := l_prim (hts _ wd_66) (fun _ _ h => h)
  obtain ⟨a1, b1⟩ := l_prim (hts _ wd_323) (fun _ _ h => h)
  obtain ⟨a2, b2⟩ := l_prim (hts _ wd_324) (fun _ _ h => h)
  obtain ⟨a3, b3⟩ := l_obj hZ.2.1
  obtain ⟨a4, b4⟩ := l_obj hZ.2.2.1
  obtain ⟨a5, b5⟩ := l_obj hZ.1
  refine ⟨(fun k => [c0, c1, c2, c3, c4, c5].getD k c0, fun k => [i0, i1, i2, i3, i4, i5].getD k i0), fun k => [a0, a1, a2, a3, a4, a5].getD k a0, fun k q hq => ?_, fun k q hq => ?_⟩
  · match k, hq with
    | 0, hq => cases hq; exact k0
    | 1, hq => cases hq; exact k1
    | 2, hq => cases hq; exact k2
    | 3, hq => cases hq; exact k3
    | 4, hq => cases hq; exact k4
    | 5, hq => cases hq; exact k5
    | k + 6, hq => simp [classes] at hq
  · match k, hq with
    | 0, hq => cases hq; exact b0
    | 1, hq => cases hq; exact b1
    | 2, hq => cases hq; exact b2
    | 3, hq => cases hq; exact b3
    | 4, hq => cases hq; exact b4
    | 5, hq => cases hq; exact b5
    | k + 6, hq => simp [xtys] at hq
/-- what lies at the two objects -/
theorem clS_at {cs : Nat → ClassId} {M : xM} {a : Nat} {v : gV} {o : List Nat} (h : clS cs M a v o) : ∃ fs, M a = some (.inr (kGT, fs)) := by
  obtain ⟨x, P, L, rfl, hR, -⟩ := h
  exact ⟨_, hR.1 0 0 (vd0 (by decide))⟩
theorem mR_at {cs : Nat → ClassId} {M : xM} {m0 : Nat} {v : gV} {o : List Nat} (h : mR cs M m0 v o) : ∃ fs, M m0 = some (.inr (kMo, fs)) := ⟨_, h 0 (by decide)⟩
/-- two ints as one long -/
def jL (a b : Int32) : Int64 := (a.toInt64 <<< ((32 : Int32).toInt64 &&& 63)) ||| (b.toInt64 &&& 4294967295)
theorem n_2 (i : Nat) : nI i + 2 = nI (i + 2) := nI_add i 2
theorem n_3 (i : Nat) : nI i + 3 = nI (i + 3) := nI_add i 3
theorem n_4 (i : Nat) : nI i + 4 = nI (i + 4) := nI_add i 4
theorem n_5 (i : Nat) : nI i + 5 = nI (i + 5) := nI_add i 5
theorem l_head {i L : Nat} (hi : i ≤ 3000) (hL : L ≤ 2561) (h : ¬ (Int32.ofNat L - 5 < nI i)) : i + 5 ≤ L := by
  rcases Nat.lt_or_ge L 5 with z | z
  · exfalso
    apply h
    have : ∀ L : Nat, L < 5 → (Int32.ofNat L - 5 : Int32) < 0 := by decide
    exact Int32.lt_of_lt_of_le (this L z) (show nI 0 ≤ nI i from nI_le (Nat.zero_le _) (by omega))
  · have e : Int32.ofNat L - 5 = nI (L - 5) := by
      rw [show Int32.ofNat L = nI (L - 5) + 5 by rw [n_5]; exact congrArg Int32.ofNat (by omega), Int32.add_sub_cancel]
    rw [e, nI_ltI (by omega) (by omega)] at h
    omega
/-- the law's fixed part, over the words aw -/
def l_At (p : Program) (s : State) (m : MethodId) (c : Code) (b L : Nat) (xs : Nat → Int32) (D : va_G) (cs : Nat → ClassId) : Prop :=
  p.tables.exec = Jvm.exec ∧ c.code = code ∧ c.maxLocals = 4 ∧ s.vm.findClass "GateTimesLaw" = some m.cls ∧ (∀ w ∈ aw, w.before #[Value.ref b] s = true) ∧ va_X b L xs s s.heap ∧ b < s.heap.size ∧ va_K D classes (xtys cs) s ∧ xZ s ∧ L ≤ 2561
