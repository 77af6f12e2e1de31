theorem Lk_cong {v v' P : gV} {L : Nat → List Nat} (h : Lk v P L) (e0 : v' 12 0 = v 12 0) (e1 : v' 12 1 = v 12 1) (e3 : ∀ i, v' 3 i = v 3 i) (e4 : ∀ i, v' 4 i = v 4 i) : Lk v' P L := by
  unfold Lk at *
  simp only [e0, e1, e3, e4]
  exact h
theorem wr_cong {v v' : gV} (e2 : ∀ i, v' 2 i = v 2 i) (e3 : ∀ i, v' 3 i = v 3 i) : wr v' = wr v := by
  funext i
  unfold wr
  rw [e2, e3]
theorem rm_0 {v : gV} {k t : Nat} (h : k + rm v ≤ 5200) (hk : 5200 ≤ k) : quiet v t := rm_zero (by omega) t
set_option maxHeartbeats 4000000 in
set_option maxRecDepth 100000 in
theorem c_GT_passTo (l : Launch) (D : va_G) (cs : Nat → ClassId) (M : xM) (sz : Nat) (x v P : gV) (o : List Nat) (L : Nat → List Nat) (t : Nat) (hR : cR cs M x v P o (o.filter (wr v))) (hG0 : gAll v o) (hL : Lk v P L) (ht : t ≤ 1000000000) : Met l y_GT_passTo w_GT_passTo ({ frames := 4, cells := 0, slots := 0, locals := 86 }) (xPc D classes (xtys cs) M sz [.ref (x 0 0), .long (lN t)]) (xQ D classes M sz (fun rv M1 => rv = none ∧ ∃ (P1 : gV) (L1 : Nat → List Nat) (v1 : gV) (o1 : List Nat), cR cs M1 x v1 P1 o1 (o1.filter (wr v1)) ∧ Lk v1 P1 L1 ∧ passed v o t v1 o1)) 0 0 (xA M sz) := by
  refine x_met (maxL := 5) (ret := (none)) (by decide) (Nat.le_of_ble_eq_true rfl) ?_
  intro p e s m below meth c ls hsz hF hr hlk hnm hK hZ hw hl
  obtain ⟨hx, hb, hml, hown, hts⟩ := id hF
  have hA : ∀ q, s.heap.size ≤ q → xA M sz q := x_hA hsz
  have hl : lv_has ls 5 [(0, .ref (x 0 0)), (1, .long (lN t))] := hl
  have hI0 := hG0.1
  refine lv_iconst (v := 0) hx hb d_GT_passTo_0 (by decide) ?_
  refine lv_istore_n (lv' := [(3, .int 0), (0, .ref (x 0 0)), (1, .long (lN t))]) hx hb d_GT_passTo_1 rfl hl (by decide) rfl (fun ls hl => ?_)
  refine x_cutH (A := xA M sz) (D := D) (cl := classes) (H0 := s.heap) (nL := 5) (α := gV × gV × List Nat × (Nat → List Nat) × List (Nat × Nat)) 37 (fun ⟨u, P1, o1, L1, es⟩ M1 => (gInv u ∧ cR cs M1 x u P1 o1 (o1.filter (wr u)) ∧ Lk u P1 L1 ∧ cameOK u o1 ∧ run t es v u) ∧ quiet u t) (fun ⟨u, P1, o1, L1, es⟩ => [(0, .ref (x 0 0)), (1, .long (lN t))]) (fun ⟨u, P1, o1, L1, es⟩ => []) (fun ⟨u, P1, o1, L1, es⟩ M1 H locs ls hJ hw hl => ?_) (fun J37 => ?_)
  ·
    obtain ⟨⟨i1, i2, i3, i4, i5⟩, hq⟩ := hJ
    have f0 : M1 (x 0 0) = some (cHead x u) := i2.1 0 0 (vd0 (by decide))
    refine lv_aload_n hx hb d_GT_passTo_37 rfl (lv_at hl 0 rfl) ?_
    refine lv_lload_n hx hb d_GT_passTo_38 rfl (lv_at hl 1 rfl) ?_
    refine x_put (C := "GateTimes") (T := F_GT) (N := 8) (ty := .long) hx hb hts i_GT t_GT t_GT_ok n_GT hown hK hw f0 rfl 7 (by decide) (hts _ wd_87) (fun _ h9 => h9) rfl (by decide +kernel) rfl rfl (Nat.le_of_ble_eq_true rfl) d_GT_passTo_39 (fun M2 H locs eM2 hw => ?_)
    have e2 : ∀ i, up2 u 12 2 t 2 i = u 2 i := fun i => up2_k _ _ _ _ (by decide)
    have e3 : ∀ i, up2 u 12 2 t 3 i = u 3 i := fun i => up2_k _ _ _ _ (by decide)
    exact x_vret hx hb hr hlk hw (⟨rfl, P1, L1, up2 u 12 2 t, o1, by rw [wr_cong e2 e3]; exact cR_head i2 (fun a b n4 h9 => by unfold up2; rw [if_neg (fun z => h9 ⟨z.1, Or.inl z.2⟩)]) (by rw [eM2]; unfold cHead; rw [up2_self, up2_i _ _ _ _ (show (3 : Nat) ≠ 2 by decide)]; rfl), Lk_cong i3 (up2_i _ _ _ _ (by decide)) (up2_i _ _ _ _ (by decide)) e3 (fun i => up2_k _ _ _ _ (by decide)), es, u, i5, hq, rfl, i4⟩) d_GT_passTo_42
  ·
    have hl : lv_has ls 5 [(3, .int (nI 0)), (0, .ref (x 0 0)), (1, .long (lN t))] := hl
    refine x_loop (A := xA M sz) (D := D) (cl := classes) (H0 := s.heap) (nL := 5) (σ := Nat × gV × gV × List Nat × (Nat → List Nat) × List (Nat × Nat) × xM) (fun ⟨k, u, P1, o1, L1, es, M1⟩ => 5200 - k) (fun ⟨k, u, P1, o1, L1, es, M1⟩ => k ≤ 5200 ∧ k + rm u ≤ 5200 ∧ gInv u ∧ cR cs M1 x u P1 o1 (o1.filter (wr u)) ∧ Lk u P1 L1 ∧ cameOK u o1 ∧ run t es v u ∧ ahead u o1) (fun ⟨k, u, P1, o1, L1, es, M1⟩ => M1) (fun ⟨k, u, P1, o1, L1, es, M1⟩ => [(3, .int (nI k)), (0, .ref (x 0 0)), (1, .long (lN t))]) (fun z hI ih H locs ls hw hl => ?_) (0, v, P, o, L, [], M) ⟨by decide, by have := rm_le hI0; omega, hI0, hR, hL, hG0.2.1, rfl, gAll_ahead hG0⟩ _ _ _ hw hl
    obtain ⟨k, u, P1, o1, L1, es, M1⟩ := z
    try dsimp only at hI hw hl ih
    obtain ⟨h1, h2, h3, h4, h5, h6, h7, h8⟩ := hI
    refine lv_iload_n hx hb d_GT_passTo_2 rfl (lv_at hl 0 rfl) ?_
    refine lv_sipush (v := 5200) hx hb d_GT_passTo_3 (by decide) ?_
    refine lv_icmp_ge (tgt := 37) hx hb d_GT_passTo_6 (by decide) (fun c6 => ?_) (fun c6 => ?_)
    ·
      exact J37 (u, P1, o1, L1, es) M1 _ _ _ ⟨⟨h3, h4, h5, h6, h7⟩, rm_0 h2 ((nI_leI (a := 5200) (b := k) (by decide) (by omega)).mp c6)⟩ hw (lv_sub hl [1, 2] rfl)
    ·
      have hk : k < 5200 := Nat.lt_of_not_le (fun z => c6 ((nI_leI (a := 5200) (b := k) (by decide) (by omega)).mpr z))
      have f0 : M1 (x 0 0) = some (cHead x u) := h4.1 0 0 (vd0 (by decide))
      refine lv_aload_n hx hb d_GT_passTo_9 rfl (lv_at hl 1 rfl) ?_
      refine lv_lload_n hx hb d_GT_passTo_10 rfl (lv_at hl 2 rfl) ?_
      refine x_calliM (va_runV (As := [.long (lN t)]) (rest := []) hF (c_GT_nextPlace l D cs M1 _ x u P1 o1 (o1.filter (wr u)) L1 t h4 h3 h5 ht) (x_cwV 1 hts wd_190 wd_192 wp_5 wd_1 wd_193 rfl rfl (by decide +kernel) ⟨Nat.le_of_ble_eq_true rfl, Nat.le_of_ble_eq_true rfl⟩) (x_preV hK hZ hw f0 rfl) rfl rfl hl.1 rfl (lv_room (Nat.le_of_ble_eq_true rfl)) d_GT_passTo_11 ⟨Nat.le_of_ble_eq_true rfl, Nat.le_of_ble_eq_true rfl⟩) hw hA (fun r H locs hp hw => ?_)
      obtain ⟨pl, ea, rfl, p1, p2⟩ := hp
      have hGu := h3.1.2
      refine lv_istore (lv' := [(4, .int (eN pl)), (3, .int (nI k)), (0, .ref (x 0 0)), (1, .long (lN t))]) hx hb d_GT_passTo_14 hl (by decide) rfl (fun ls hl => ?_)
      refine lv_iload hx hb d_GT_passTo_16 (lv_at hl 0 rfl) ?_
      refine lv_iconst (v := (-1)) hx hb d_GT_passTo_18 (by decide) ?_
      refine lv_icmp_ne (tgt := 25) hx hb d_GT_passTo_19 (by decide) (fun c19 => ?_) (fun c19 => ?_)
      ·
        obtain ⟨q0, rfl⟩ : ∃ q0, pl = q0 + 1 := ⟨pl - 1, by have : pl ≠ 0 := fun z => c19 ((eN_m1 (by omega)).mpr z); omega⟩
        obtain ⟨i0, r0, eL, q1, he, hbe⟩ := nb_best h3 h5 p2
        rw [eN_s] at hl
        refine lv_aload_n hx hb d_GT_passTo_25 rfl (lv_at hl 2 rfl) ?_
        refine lv_iload hx hb d_GT_passTo_26 (lv_at hl 0 rfl) ?_
        refine x_callv (va_runV (As := [.int (nI q0)]) (rest := []) hF (c_GT_moveAt l D cs M1 _ x u P1 o1 L1 t q0 i0 r0 h4 h3 h5 h6 he eL) (x_cwV 1 hts wd_199 wd_201 wp_6 wd_1 wd_202 rfl rfl (by decide +kernel) ⟨Nat.le_of_ble_eq_true rfl, Nat.le_of_ble_eq_true rfl⟩) (x_preV hK hZ hw f0 rfl) rfl rfl hl.1 rfl (lv_room (Nat.le_of_ble_eq_true rfl)) d_GT_passTo_28 ⟨Nat.le_of_ble_eq_true rfl, Nat.le_of_ble_eq_true rfl⟩) hw hA (fun M2 H locs hp hw => ?_)
        obtain ⟨P2, L2, o2, j1, j2, j3⟩ := hp
        have j4 : cameOK (evt u i0 q0) o2 ∧ ahead (evt u i0 q0) o2 := by
          rcases j3 with ⟨z, rfl⟩ | ⟨z, rfl⟩
          · exact came_in h6 he hbe h8 z
          · exact came_on h6 he h8 z
        have j5 := rm_evt he
        obtain ⟨n31, en31⟩ : ∃ y : Int32, y = (nI k) + 1 := ⟨_, rfl⟩
        refine lv_iinc (v := n31) (lv' := [(3, .int n31), (4, .int (nI q0)), (0, .ref (x 0 0)), (1, .long (lN t))]) hx hb d_GT_passTo_31 hl (k := 1) rfl (by rw [en31]; rfl) (by decide) rfl (fun ls hl => ?_)
        obtain rfl : n31 = nI (k + 1) := en31.trans (nI_1 k)
        refine lv_goto (tgt := 2) hx hb d_GT_passTo_34 (by decide) ?_
        exact ih (k + 1, evt u i0 q0, P2, o2, L2, es ++ [(i0, q0)], M2) ⟨(by first | omega | (dsimp only; omega)), (by first | omega | (dsimp only; omega)), gInv_evt h3 he ht, j1, j2, j4.1, run_snoc es v u i0 q0 h7 he, j4.2⟩ (by first | omega | (dsimp only; omega)) _ _ _ hw (lv_sub hl [0, 2, 3] rfl)
      ·
        have p0 : pl = 0 := (eN_m1 (by omega)).mp c19
        subst p0
        refine lv_goto (tgt := 37) hx hb d_GT_passTo_22 (by decide) ?_
        exact J37 (u, P1, o1, L1, es) M1 _ _ _ ⟨⟨h3, h4, h5, h6, h7⟩, nb_quiet h3 h5 p2⟩ hw (lv_sub hl [2, 3] rfl)
