section XRM
variable {p : Program} {l : Launch} {e : Env} {R : Room} {s : State} {m : MethodId} {args : Array Value} {below : List Frame} {meth : Method} {c : Code} {H : Heap} {locs : List Loc} {cells slots : Nat} {Q : State → Prop}
variable {cc : ByteArray} {pc : Nat} {ls : Array Slot} {rest : List Value} {D : va_G} {cl : List vw_C} {A : Nat → Prop} {a : Nat} {tys : List (ClassId × FieldType)} {M : xM} {H0 : Heap}
theorem x_calliM {post : Int32 → Prop} {ar : Array Value} {st0 : List Value} {mc ms : Nat} (hr : va_Run p l e R s m args below meth c H locs cells slots mc ms (F0 m pc ls st0) rest (xQ D cl M H.size (fun v M1 => ∃ r : Int32, v = some (.int r) ∧ post r ∧ M1 = M) ar) (xA M H.size)) (hw : xw A D cl M H0 H locs) (hA : ∀ q, H0.size ≤ q → A q)
    (kk : ∀ (r : Int32) (H1 : Heap) (locs1 : List Loc), post r → xw A D cl M H0 H1 locs1 → W p l e R s m args below meth c H1 locs1 (cells + mc) (slots + ms) Q (F0 m (pc + 3) ls (.int r :: rest))) : W p l e R s m args below meth c H locs cells slots Q (F0 m pc ls st0) :=
  x_calli (post := fun r M1 => post r ∧ M1 = M) hr hw hA (fun r M1 H1 locs1 hp hw1 => kk r H1 locs1 hp.1 (hp.2 ▸ hw1))
theorem x_calllM {post : Int64 → Prop} {ar : Array Value} {st0 : List Value} {mc ms : Nat} (hr : va_Run p l e R s m args below meth c H locs cells slots mc ms (F0 m pc ls st0) rest (xQ D cl M H.size (fun v M1 => ∃ r : Int64, v = some (.long r) ∧ post r ∧ M1 = M) ar) (xA M H.size)) (hw : xw A D cl M H0 H locs) (hA : ∀ q, H0.size ≤ q → A q)
    (kk : ∀ (r : Int64) (H1 : Heap) (locs1 : List Loc), post r → xw A D cl M H0 H1 locs1 → W p l e R s m args below meth c H1 locs1 (cells + mc) (slots + ms) Q (F0 m (pc + 3) ls (.long r :: rest))) : W p l e R s m args below meth c H locs cells slots Q (F0 m pc ls st0) :=
  x_calll (post := fun r M1 => post r ∧ M1 = M) hr hw hA (fun r M1 H1 locs1 hp hw1 => kk r H1 locs1 hp.1 (hp.2 ▸ hw1))
theorem x_callqM {post : Option Nat → Prop} {ar : Array Value} {st0 : List Value} {mc ms : Nat} (hr : va_Run p l e R s m args below meth c H locs cells slots mc ms (F0 m pc ls st0) rest (xQ D cl M H.size (fun v M1 => ∃ r : Option Nat, v = some (va_rf r) ∧ post r ∧ M1 = M) ar) (xA M H.size)) (hw : xw A D cl M H0 H locs) (hA : ∀ q, H0.size ≤ q → A q)
    (kk : ∀ (r : Option Nat) (H1 : Heap) (locs1 : List Loc), post r → xw A D cl M H0 H1 locs1 → W p l e R s m args below meth c H1 locs1 (cells + mc) (slots + ms) Q (F0 m (pc + 3) ls (va_rf r :: rest))) : W p l e R s m args below meth c H locs cells slots Q (F0 m pc ls st0) :=
  x_callq (post := fun r M1 => post r ∧ M1 = M) hr hw hA (fun r M1 H1 locs1 hp hw1 => kk r H1 locs1 hp.1 (hp.2 ▸ hw1))
end XRM
theorem x_self {M : xM} {a : Nat} {e e' : va_E} (h : M a = some e) (he : e' = e) : M = va_up M a (some e') := by
  funext q
  by_cases hq : q = a
  · rw [hq, va_up_self, h, he]
  · rw [va_up_ne _ _ hq]
