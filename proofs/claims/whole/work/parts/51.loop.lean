set_option maxHeartbeats 4000000 in
set_option maxRecDepth 100000 in
/-- the law's loop: n calls are done, class and reference stand for the same numbers -/
theorem law_loop {p : Program} {l : Launch} {e : Env} {s : State} {m : MethodId} {below : List Frame} {meth : Method} {c : Code} {b L : Nat} {xs : Nat → Int32} {D : va_G} {cs : Nat → ClassId} (C0 : l_At p s m c b L xs D cs) (hr : meth.sig.returnType = ret) (hlocks : meth.locks = false) {a0 m0 : Nat} :
    ∀ (f n : Nat), n ≤ 512 → 513 ≤ f + n → ∀ (v : gV) (o : List Nat) (M N : xM) (H : Heap) (locs : List Loc) (ls : Array Slot), gAll v o → clS cs M a0 v o → mR cs N m0 v o → l2 (fun q : Nat => s.heap.size ≤ q) D classes M N s.heap H locs → lv_has ls 4 [(3, .int (nI (1 + 5 * n))), (2, .ref m0), (1, .ref a0), (0, .ref b)] → W p l e room_1 s m #[Value.ref b] below meth c H locs (60 + n) (5000 + 7 * n) (lw_Z below #[Value.ref b] s) (F0 m 28 ls []) := by
  obtain ⟨hx, hb, hml, hown, hts, hX, hbl, hK, hZ, hL⟩ := id C0
  have hbA : ¬ (fun q : Nat => s.heap.size ≤ q) b := Nat.not_le.mpr hbl
  intro f
  induction f with
  | zero => exact fun n h1 h2 => absurd h2 (by omega)
  | succ f ih =>
    intro n hn hf v o M N H locs ls hG0 hS hm hw hl
    obtain ⟨i, ei⟩ : ∃ i, i = 1 + 5 * n := ⟨_, rfl⟩
    rw [← ei] at hl
    refine lv_iload_n hx hb d_Law_law_28 rfl (lv_at hl 0 rfl) ?_
    refine lv_aload_n hx hb d_Law_law_29 rfl (lv_at hl 3 rfl) ?_
    refine va_slen hx hb hX hbl hbA hw.1.2.2 d_Law_law_30 ?_
    refine lv_iconst (v := 5) hx hb d_Law_law_31 (by decide) ?_
    refine lv_isub hx hb d_Law_law_32 ?_
    refine lv_topi (fun n32 en32 => ?_)
    obtain rfl : n32 = Int32.ofNat L - 5 := en32
    refine lv_icmp_gt (tgt := 538) hx hb d_Law_law_33 (by decide) (fun c33 => ?_) (fun c33 => ?_)
    ·
      refine lv_iconst (v := 1) hx hb d_Law_law_538 (by decide) ?_
      refine va_forget (fun q hq => hw.1.2.2.2.2 q hq) ?_
      refine W.widen (k := 600000) (n := 7302250) (by omega) (by omega) ?_
      exact lw_ret hx hb hr hlocks d_Law_law_539
    ·
      have hi : i + 5 ≤ L := l_head (by omega) hL c33
      refine lv_aload_n hx hb d_Law_law_36 rfl (lv_at hl 3 rfl) ?_
      refine lv_iload_n hx hb d_Law_law_37 rfl (lv_at hl 0 rfl) ?_
      refine l_sld hx hb hX hbl hbA hw.1.2.2 (show i < L by omega) hL d_Law_law_38 ?_
      refine lv_bipush (v := 15) hx hb d_Law_law_39 (by decide) ?_
      refine lv_iand hx hb d_Law_law_41 ?_
      refine lv_topi (fun n41 en41 => ?_)
      have J : ∀ (v1 : gV) (o1 : List Nat) (M1 N1 : xM) (H1 : Heap) (locs1 : List Loc), gAll v1 o1 → clS cs M1 a0 v1 o1 → mR cs N1 m0 v1 o1 → l2 (fun q : Nat => s.heap.size ≤ q) D classes M1 N1 s.heap H1 locs1 → W p l e room_1 s m #[Value.ref b] below meth c H1 locs1 (60 + n + 1) (5000 + 7 * n + 7) (lw_Z below #[Value.ref b] s) (F0 m 532 ls []) := by
        intro v1 o1 M1 N1 H1 locs1 hG1 hS1 hm1 hw1
        obtain ⟨n532, en532⟩ : ∃ y : Int32, y = nI i + 5 := ⟨_, rfl⟩
        refine lv_iinc (v := n532) (lv' := [(3, .int n532), (2, .ref m0), (1, .ref a0), (0, .ref b)]) hx hb d_Law_law_532 hl (k := 0) rfl (by rw [en532]; rfl) (by decide) rfl (fun ls hl => ?_)
        refine lv_goto (tgt := 28) hx hb d_Law_law_535 (by decide) ?_
        have e5 : n532 = nI (1 + 5 * (n + 1)) := by
          rw [en532, n_5, ei]
          exact congrArg nI (by omega)
        rw [e5] at hl
        refine W.cs (cells' := 60 + (n + 1)) (slots' := 5000 + 7 * (n + 1)) (by omega) (by omega) ?_
        exact ih (n + 1) (by omega) (by omega) v1 o1 M1 N1 H1 locs1 ls hG1 hS1 hm1 hw1 hl
      obtain ⟨t, et⟩ : ∃ t : Int, t = n41.toInt := ⟨_, rfl⟩
      rcases (show (t < 0 ∨ 9 < t) ∨ t = 0 ∨ t = 1 ∨ t = 2 ∨ t = 3 ∨ t = 4 ∨ t = 5 ∨ t = 6 ∨ t = 7 ∨ t = 8 ∨ t = 9 by omega) with z | z | z | z | z | z | z | z | z | z | z
      · refine lv_tableOut (tgt := 532) hx hb d_Law_law_42 (by rw [← et]; exact z) (by decide) ?_
        refine W.widen (k := 60 + n + 1) (n := 5000 + 7 * n + 7) (by omega) (by omega) ?_
        exact J v o M N _ _ hG0 hS hm hw
      · refine lv_tableIn (tgt := 96) (off := 54) hx hb d_Law_law_42 (by rw [← et, z]; decide) (by rw [← et, z]; decide) (by rw [← et, z]; rfl) (by decide) ?_
        exact t_item C0 hi (by omega) (by omega) hG0 hS hm hw hl J
      · refine lv_tableIn (tgt := 189) (off := 147) hx hb d_Law_law_42 (by rw [← et, z]; decide) (by rw [← et, z]; decide) (by rw [← et, z]; rfl) (by decide) ?_
        exact t_order C0 hi (by omega) (by omega) hG0 hS hm hw hl J
      · refine lv_tableIn (tgt := 262) (off := 220) hx hb d_Law_law_42 (by rw [← et, z]; decide) (by rw [← et, z]; decide) (by rw [← et, z]; rfl) (by decide) ?_
        exact t_step C0 hi (by omega) (by omega) hG0 hS hm hw hl J
      · refine lv_tableIn (tgt := 315) (off := 273) hx hb d_Law_law_42 (by rw [← et, z]; decide) (by rw [← et, z]; decide) (by rw [← et, z]; rfl) (by decide) ?_
        exact t_out C0 hi (by omega) (by omega) hG0 hS hm hw hl J
      · refine lv_tableIn (tgt := 348) (off := 306) hx hb d_Law_law_42 (by rw [← et, z]; decide) (by rw [← et, z]; decide) (by rw [← et, z]; rfl) (by decide) ?_
        exact t_height C0 hi (by omega) (by omega) hG0 hS hm hw hl J
      · refine lv_tableIn (tgt := 381) (off := 339) hx hb d_Law_law_42 (by rw [← et, z]; decide) (by rw [← et, z]; decide) (by rw [← et, z]; rfl) (by decide) ?_
        exact t_swap C0 hi (by omega) (by omega) hG0 hS hm hw hl J
      · refine lv_tableIn (tgt := 404) (off := 362) hx hb d_Law_law_42 (by rw [← et, z]; decide) (by rw [← et, z]; decide) (by rw [← et, z]; rfl) (by decide) ?_
        exact t_stuck C0 hi (by omega) (by omega) hG0 hS hm hw hl J
      · refine lv_tableIn (tgt := 453) (off := 411) hx hb d_Law_law_42 (by rw [← et, z]; decide) (by rw [← et, z]; decide) (by rw [← et, z]; rfl) (by decide) ?_
        exact t_late C0 hi (by omega) (by omega) hG0 hS hm hw hl J
      · refine lv_tableIn (tgt := 476) (off := 434) hx hb d_Law_law_42 (by rw [← et, z]; decide) (by rw [← et, z]; decide) (by rw [← et, z]; rfl) (by decide) ?_
        exact t_count C0 hi (by omega) (by omega) hG0 hS hm hw hl J
      · refine lv_tableIn (tgt := 499) (off := 457) hx hb d_Law_law_42 (by rw [← et, z]; decide) (by rw [← et, z]; decide) (by rw [← et, z]; rfl) (by decide) ?_
        exact t_verify C0 hi (by omega) (by omega) hG0 hS hm hw hl J
