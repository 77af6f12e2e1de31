section XRP
variable {p : Program} {l : Launch} {e : Env} {R : Room} {s : State} {m : MethodId} {args : Array Value} {below : List Frame} {meth : Method} {c : Code} {H : Heap} {locs : List Loc} {cells slots : Nat} {Q : State → Prop}
variable {cc : ByteArray} {pc : Nat} {ls : Array Slot} {rest : List Value} {D : va_G} {cl : List vw_C} {A : Nat → Prop} {a : Nat} {tys : List (ClassId × FieldType)} {M : xM} {H0 : Heap}
theorem x_putFS (hexec : p.tables.exec = Jvm.exec) (hb : c.code = cc) {own ref C : String} {T : u_T} {N ci index : Nat} {Ts : List Cond} (hts : ∀ w ∈ Ts, w.before args s = true) (hin : ∀ w ∈ u_ws C T N, w ∈ Ts) (ty0 : Nat → FieldType) (hty : ∀ k, k < N → parseFieldDescriptor (T k).2.2.1 = some (ty0 k)) (hnm : ∀ a, a < N → ∀ b, b < N → a ≠ b → (T a).2.1 ≠ (T b).2.1) (hown : s.vm.findClass own = some m.cls) (hK : va_K D cl tys s) (hw : xw A D cl M H0 H locs) {fs : List Value} (he : M a = some (.inr (ci, fs))) (hc : cl[ci]? = some (C, T, N)) (k : Nat) (hk : k < N) (hlink : (Cond.fieldLink own index ref (T k).2.1 (T k).2.2.1).before args s = true) (hsame : ∀ x, s.fieldFound? (T k).1 (T k).2.1 (T k).2.2.1 = some x → s.fieldFound? ref (T k).2.1 (T k).2.2.1 = some x) (hfin : (T k).2.2.2 = true) (hin2 : meth.name = "<init>") (hdecl : (T k).1 = own) {ty : FieldType} {v : Value} (hd : parseFieldDescriptor (T k).2.2.1 = some ty) (hn : narrow ty v = v) (hfit : fits ty v = true) (hl : k < fs.length)
    (hdg : decode cc pc = .ok (.putfield index, 3)) (kk : ∀ (M1 : xM) (H1 : Heap) (locs1 : List Loc), M1 = va_up M a (some (.inr (ci, fs.set k v))) → H1.size = H.size → xw A D cl M1 H0 H1 locs1 → W p l e R s m args below meth c H1 locs1 cells slots Q (F0 m (pc + 3) ls rest)) : W p l e R s m args below meth c H locs cells slots Q (F0 m pc ls (v :: .ref a :: rest)) := by
  have hap := va_apart (own := own) hts hin ty0 hty hnm hK hc
  obtain ⟨r, h1, cell, q1, q2, q3, q4⟩ := hw.1 a _ he
  have hr : r = (C, T, N) := Option.some.inj (h1.symm.trans hc)
  subst hr
  obtain ⟨hS, hfc, kC, hkC, hkind⟩ := hK.1 ci _ hc
  obtain ⟨cf, kf, fi, f, hi, hsl⟩ := hS k hk
  have hlay := hts _ (hin _ (u_in_lay hk))
  unfold u_lay at hlay
  rw [if_pos hfin] at hlay
  have hst := (u_facts hfc hkC (u_lays hts hin hk) hi).1
  have hcf : m.cls = cf := by
    obtain ⟨_, _, c', _, _, _, -, -, hf', -, -, -, hown2, -⟩ := Cond.laysFinal_spec hlay
    have e1 : c' = cf := by have := hi.symm.trans hf'; simp at this; exact this.1.symm
    rw [hdecl] at hown2
    rw [← e1]; exact Option.some.inj (hown.symm.trans hown2)
  have h6 := u_fits hfc hkC hkind (Or.inr hlay) hi hd hn hfit
  refine W.putFinK hexec hb hown hlink (hsame _ hi) hst hcf hin2 (by rw [q2]; exact h6) q1 q3 (by rw [hsl]; exact k2_hasslot (q4 k hk)) rfl rfl hdg fun H' e1 e2 e3 => ?_
  rw [hsl] at e1 ⊢
  exact kk _ H' _ rfl e2 (xw_upd hw he ⟨_, hc, t_OB.to (V := updV (vp_V fs) k v) ⟨_, e1, q2, q3, t_set q4 hap hk v⟩ (fun j _ => vp_updV_set hl v j)⟩ e2 e3)
end XRP
/-- the start of the reference, k heights written -/
def v0k (G k : Nat) : gV := fun a b => if a = 12 ∧ b = 0 then G else if a = 9 ∧ b < k then 1000 else 0
theorem v0k_13 (G : Nat) : v0k G 13 = v00 G := rfl
theorem m0_ord : (fun _ => (0 : Int32)) = (fun j : Nat => if j = 0 ∨ (0 : Nat) < j then (0 : Int32) else eN 0) := by
  funext j
  rw [if_pos (by omega)]
theorem m0_hei (k : Nat) : upd (fun g => nI (if g < k then 1000 else 0)) k 1000 = fun g => nI (if g < k + 1 then 1000 else 0) := by
  funext g
  unfold upd
  by_cases e : g = k
  · rw [if_pos e, if_pos (by omega)]
    rfl
  · rw [if_neg e]
    by_cases z : g < k
    · simp only [if_pos z]
      rw [if_pos (by omega)]
    · simp only [if_neg z]
      rw [if_neg (by omega)]
theorem mR_hei {cs : Nat → ClassId} {M M1 : xM} {m0 G k : Nat} (h : mR cs M m0 (v0k G k) []) (hM : M1 = va_up M (m0 + 12) (some (aI (cs 0) 13 (upd (fun g => nI (if g < k then 1000 else 0)) k 1000)))) : mR cs M1 m0 (v0k G (k + 1)) [] := by
  rw [m0_hei] at hM
  refine mX_to (mX_set (mX_of h) hM) (m16 ?_ ?_ ?_ ?_ ?_ ?_ ?_ ?_ ?_ ?_ ?_ ?_ ?_ ?_ ?_ ?_) <;> simp [va_up, mel, mHead, v0k, tm]
theorem clG_n {g : Int32} (h1 : ¬ g < 1) (h2 : ¬ 12 < g) : nI (clG g) = g := by
  unfold clG
  rw [if_neg h1, if_neg h2]
  rw [Int32.lt_iff_toInt_lt] at h1
  have e1 : (1 : Int32).toInt = 1 := by decide
  refine Int32.toInt_inj.mp ?_
  have e : g.toNatClampNeg = g.toInt.toNat := rfl
  have hb := Int32.toInt_lt g
  rw [nI_toInt (by omega), e]
  omega
/-- the reference's arrays as they are made -/
def m0E (cs : Nat → ClassId) (k : Nat) : va_E := match k with
  | 1 => aL (cs 1) 401 (fun _ => 0)
  | 2 => aL (cs 1) 401 (fun _ => 0)
  | 3 => aI (cs 0) 401 (fun _ => 0)
  | 4 => aI (cs 0) 401 (fun _ => 0)
  | 5 => aI (cs 0) 401 (fun _ => 0)
  | 6 => aI (cs 0) 401 (fun _ => 0)
  | 7 => aL (cs 1) 401 (fun _ => 0)
  | 8 => aI (cs 2) 13 (fun _ => 0)
  | 9 => aI (cs 2) 13 (fun _ => 0)
  | 10 => aI (cs 2) 13 (fun _ => 0)
  | 11 => aL (cs 1) 13 (fun _ => 0)
  | 12 => aI (cs 0) 13 (fun _ => 0)
  | 13 => aI (cs 0) 13 (fun _ => 0)
  | 14 => aI (cs 0) 13 (fun _ => 0)
  | _ => aI (cs 0) 400 (fun _ => 0)
def mY (cs : Nat → ClassId) (M : xM) (m0 k : Nat) : Prop := ∀ j, 1 ≤ j → j ≤ k → M (m0 + j) = some (m0E cs j)
theorem mY_new {cs : Nat → ClassId} {M M1 : xM} {m0 k : Nat} (h : mY cs M m0 k) (hM : M1 = va_up M (m0 + (k + 1)) (some (m0E cs (k + 1)))) : mY cs M1 m0 (k + 1) := by
  intro j h1 h2
  rw [hM]
  by_cases e : j = k + 1
  · subst e
    rw [va_up_self]
  · rw [va_up_ne _ _ (by omega)]
    exact h j h1 (by omega)
theorem mY_put {cs : Nat → ClassId} {M M1 : xM} {m0 k : Nat} {e : Option va_E} (h : mY cs M m0 k) (hM : M1 = va_up M m0 e) : mY cs M1 m0 k := by
  intro j h1 h2
  rw [hM, va_up_ne _ _ (by omega)]
  exact h j h1 h2
theorem lN_0 : lN 0 = 0 := by decide
theorem m0_mel {cs : Nat → ClassId} {m0 G : Nat} : ∀ k, 1 ≤ k → k < 16 → m0E cs k = mel cs m0 (v0k G 0) [] k := by
  have z : ∀ a b, a ≠ 12 → v0k G 0 a b = 0 := fun a b h => by
    unfold v0k
    rw [if_neg (fun y => h y.1), if_neg (fun y => Nat.not_lt_zero _ y.2)]
  have z1 : v0k G 0 12 1 = 0 := by
    unfold v0k
    rw [if_neg (by decide), if_neg (by decide)]
  have zo : ∀ k, oat [] k = 0 := fun k => by
    unfold oat
    simp
  have ho : (fun j : Nat => if j = 0 ∨ (0 : Nat) < j then (0 : Int32) else eN 0) = (fun _ => (0 : Int32)) := m0_ord.symm
  intro k h1 h2
  match k, h1, h2 with
  | 1, _, _ => simp only [m0E, mel, z 0 _ (by decide), lN_0]
  | 2, _, _ => simp only [m0E, mel, z 1 _ (by decide), lN_0]
  | 3, _, _ => simp only [m0E, mel, z 2 _ (by decide), z1, ho]
  | 4, _, _ => simp only [m0E, mel, z 4 _ (by decide), nI_0]
  | 5, _, _ => simp only [m0E, mel, z 3 _ (by decide), z1, ho]
  | 6, _, _ => simp only [m0E, mel, z 5 _ (by decide), nI_0]
  | 7, _, _ => simp only [m0E, mel, z 3 _ (by decide), if_true]
  | 8, _, _ => simp only [m0E, mel, z 6 _ (by decide), nI_0]
  | 9, _, _ => simp only [m0E, mel, z 7 _ (by decide), nI_0]
  | 10, _, _ => simp only [m0E, mel, z 8 _ (by decide), if_true]
  | 11, _, _ => simp only [m0E, mel, z 8 _ (by decide), Nat.zero_sub, lN_0]
  | 12, _, _ => simp only [m0E, mel, z 9 _ (by decide), nI_0]
  | 13, _, _ => simp only [m0E, mel, z 10 _ (by decide), nI_0]
  | 14, _, _ => simp only [m0E, mel, z 11 _ (by decide), nI_0]
  | 15, _, _ => simp only [m0E, mel, zo, nI_0]
  | k + 16, _, h => omega
theorem mR_made {cs : Nat → ClassId} {M : xM} {m0 G : Nat} (h : mY cs M m0 15) (h0 : M m0 = some (mHead m0 (v0k G 0) [])) : mR cs M m0 (v0k G 0) [] := by
  intro k hk
  by_cases e : k = 0
  · subst e
    exact h0
  · rw [h k (by omega) (by omega), m0_mel k (by omega) hk]
theorem mHead_0 {m0 G : Nat} : mHead m0 (v0k G 0) [] = .inr (kMo, [.int 0, .int (nI G), .int 0, .ref (m0 + 1), .ref (m0 + 2), .ref (m0 + 3), .ref (m0 + 4), .ref (m0 + 5), .ref (m0 + 6), .ref (m0 + 7), .ref (m0 + 8), .ref (m0 + 9), .ref (m0 + 10), .ref (m0 + 11), .ref (m0 + 12), .ref (m0 + 13), .ref (m0 + 14), .long 0, .int 0, .ref (m0 + 15), .int 0]) := by
  have z1 : ∀ b, b ≠ 0 → v0k G 0 12 b = 0 := fun b h => by
    unfold v0k
    rw [if_neg (fun y => h y.2), if_neg (by omega)]
  have z0 : v0k G 0 12 0 = G := by
    unfold v0k
    rw [if_pos ⟨rfl, rfl⟩]
  unfold mHead
  rw [z0, z1 1 (by decide), z1 2 (by decide), z1 3 (by decide), lN_0, nI_0, List.length_nil, nI_0]
