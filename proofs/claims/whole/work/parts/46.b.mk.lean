section XMK
variable {p : Program} {l : Launch} {e : Env} {R : Room} {s : State} {m : MethodId} {args : Array Value} {below : List Frame} {meth : Method} {c : Code} {H : Heap} {locs : List Loc} {cells slots : Nat} {Q : State → Prop}
variable {cc : ByteArray} {pc : Nat} {ls : Array Slot} {rest : List Value} {D : va_G} {A : Nat → Prop} {M : xM} {H0 : Heap}
theorem x_mk (cs : Nat → ClassId) (m0 k : Nat) (hexec : p.tables.exec = Jvm.exec) (hb : c.code = cc) {atype : ArrayType} {ty : FieldType} (hts : ∀ w ∈ aw, w.before args s = true) (harr : Cond.arrayClass (newarray.typeOf atype) ∈ aw) (hty : newarray.typeOf atype = ty) (hown : s.vm.findClass "GateTimesModel" = some m.cls) (hK : va_K D classes (xtys cs) s) (hw : xw A D classes M H0 H locs) (hA : ∀ q, H0.size ≤ q → A q) {cA : ClassId} (hcA : s.vm.findClass ("[" ++ ty.toString) = some cA)
    {n : Int32} {N' : Nat} {a0 : vp_A} (ha : ∀ cA : ClassId, vp_cell cA a0 = arrV cA N' (fun _ => defaultValue ty)) (hn : ¬ n < 0) (hN : n.toNatClampNeg = N') (hbytes : N' * componentBytes ty ≤ 536870912) (hcells : cells + 1 ≤ R.cells) (hslots : slots + N' ≤ R.slots) (hdg : decode cc pc = .ok (.newarray atype, 2))
    (hs : H.size = m0 + (k + 1)) (hY : mY cs M m0 k) (hE : (.inl (cA, a0) : va_E) = m0E cs (k + 1)) {fs : List Value} (he : M m0 = some (.inr (kMo, fs))) {index : Nat} (j : Nat) (hj : j < 21) (hlink : Cond.fieldLink "GateTimesModel" index "GateTimesModel" (F_Mo j).2.1 (F_Mo j).2.2.1 ∈ aw) (hfin : (F_Mo j).2.2.2 = true) (hin2 : meth.name = "<init>") (hdecl : (F_Mo j).1 = "GateTimesModel") {ty2 : FieldType} (hd : parseFieldDescriptor (F_Mo j).2.2.1 = some ty2) (hnar : ∀ q : Nat, narrow ty2 (.ref q) = .ref q) (hfit : ∀ q : Nat, fits ty2 (.ref q) = true) (hl : j < fs.length) (hdg2 : decode cc (pc + 2) = .ok (.putfield index, 3))
    (kk : ∀ (M2 : xM) (H2 : Heap) (locs2 : List Loc), H2.size = m0 + (k + 1 + 1) → mY cs M2 m0 (k + 1) → M2 m0 = some (.inr (kMo, fs.set j (.ref (m0 + (k + 1))))) → xw A D classes M2 H0 H2 locs2 → W p l e R s m args below meth c H2 locs2 (cells + 1) (slots + N') Q (F0 m (pc + 2 + 3) ls rest)) : W p l e R s m args below meth c H locs cells slots Q (F0 m pc ls (.int n :: .ref m0 :: rest)) := by
  refine x_newaO hexec hb (hts _ harr) hty hK hw hA hcA ha hn hN hbytes hcells hslots hdg (fun q M1 H1 eq eM1 hn1 hz1 hw1 => ?_)
  have hq : q = m0 + (k + 1) := by omega
  subst hq
  have h1 : M1 m0 = some (.inr (kMo, fs)) := x_keep eM1 (by omega) he
  rw [hE] at eM1
  have hY1 := mY_new hY eM1
  refine x_putFS (C := "GateTimesModel") (T := F_Mo) (N := 21) (ty := ty2) hexec hb hts i_Mo t_Mo t_Mo_ok n_Mo hown hK hw1 h1 rfl j hj (hts _ hlink) (fun x9 h9 => by rw [hdecl] at h9; exact h9) hfin hin2 hdecl hd (hnar _) (hfit _) hl hdg2 (fun M2 H2 locs2 eM2 hs2 hw2 => ?_)
  exact kk M2 H2 locs2 (by omega) (mY_put hY1 eM2) (x_up_self eM2) hw2
end XMK
