set_option maxHeartbeats 4000000 in
set_option maxRecDepth 100000 in
theorem c_Mo_pass (l : Launch) (D : va_G) (cs : Nat → ClassId) (M : xM) (sz : Nat) (m0 : Nat) (v : gV) (o : List Nat) (hm : mR cs M m0 v o) (t : Nat) (hI0 : gInv v) (hc : cameOK v o) (ht : t ≤ 1000000000) : Met l y_Mo_pass w_Mo_pass ({ frames := 2, cells := 0, slots := 0, locals := 48 }) (xPc D classes (xtys cs) M sz [.ref m0, .long (lN t)]) (xQ D classes M sz (fun rv M1 => rv = none ∧ ∃ (v1 : gV) (o1 : List Nat), passed v o t v1 o1 ∧ mR cs M1 m0 v1 o1)) 0 0 (xA M sz) := by
  refine x_met (maxL := 6) (ret := (none)) (by decide) (Nat.le_of_ble_eq_true rfl) ?_
  intro p e s m below meth c ls hsz hF hr hlk hnm hK hZ hw hl
  obtain ⟨hx, hb, hml, hown, hts⟩ := id hF
  have hA : ∀ q, s.heap.size ≤ q → xA M sz q := x_hA hsz
  have hl : lv_has ls 6 [(0, .ref m0), (1, .long (lN t))] := hl
  have hG := hI0.1
  have hn := hI0.2.1
  have z0 : M m0 = some (mHead m0 v o) := hm 0 (by decide)
  refine lv_aload_n hx hb d_Mo_pass_0 rfl (lv_at hl 0 rfl) ?_
  refine lv_lload_n hx hb d_Mo_pass_1 rfl (lv_at hl 1 rfl) ?_
  refine x_put (C := "GateTimesModel") (T := F_Mo) (N := 21) (ty := .long) hx hb hts i_Mo t_Mo t_Mo_ok n_Mo hown hK hw z0 rfl 17 (by decide) (hts _ wd_276) (fun _ h9 => h9) rfl (by decide +kernel) rfl rfl (Nat.le_of_ble_eq_true rfl) d_Mo_pass_2 (fun M1 H locs eM1 hw => ?_)
  have hm1 : mR cs M1 m0 (up2 v 12 2 t) o := mR_now hm (by rw [eM1]; unfold mHead; rw [up2_self]; rfl)
  refine lv_iconst (v := 0) hx hb d_Mo_pass_5 (by decide) ?_
  refine lv_istore_n (lv' := [(3, .int 0), (0, .ref m0), (1, .long (lN t))]) hx hb d_Mo_pass_6 rfl hl (by decide) rfl (fun ls hl => ?_)
  have hl : lv_has ls 6 [(3, .int (nI 0)), (0, .ref m0), (1, .long (lN t))] := hl
  refine x_loop (A := xA M sz) (D := D) (cl := classes) (H0 := s.heap) (nL := 6) (σ := Nat × gV × List (Nat × Nat) × xM) (fun ⟨g, u, es, Mz⟩ => v 12 0 + 1 - g) (fun ⟨g, u, es, Mz⟩ => g ≤ v 12 0 + 1 ∧ (gInv u ∧ run t es v u ∧ u 12 0 = v 12 0 ∧ u 12 1 = v 12 1) ∧ doneTo u t g ∧ mR cs Mz m0 (up2 u 12 2 t) o) (fun ⟨g, u, es, Mz⟩ => Mz) (fun ⟨g, u, es, Mz⟩ => [(3, .int (nI g)), (0, .ref m0), (1, .long (lN t))]) (fun z hI ih H locs ls hw hl => ?_) (0, v, [], M1) ⟨Nat.zero_le _, ⟨hI0, rfl, rfl, rfl⟩, fun j j1 j2 j3 j4 => absurd j4 (Nat.not_lt_zero _), hm1⟩ _ _ _ hw hl
  obtain ⟨g, u, es, Mz⟩ := z
  try dsimp only at hI hw hl ih
  obtain ⟨h1, ⟨h2, h3, k0, k1⟩, h4, h5⟩ := hI
  have hGu := h2.1.2
  have hnu := h2.2.1
  have z0 : Mz m0 = some (mHead m0 (up2 u 12 2 t) o) := h5 0 (by decide)
  refine lv_iload_n hx hb d_Mo_pass_7 rfl (lv_at hl 0 rfl) ?_
  refine lv_aload_n hx hb d_Mo_pass_8 rfl (lv_at hl 1 rfl) ?_
  refine x_get (C := "GateTimesModel") (T := F_Mo) (N := 21) hx hb hts i_Mo hown hK hw z0 rfl 1 (by decide) (hts _ wd_260) (fun _ h9 => h9) rfl d_Mo_pass_9 ?_
  refine lv_icmp_gt (tgt := 79) hx hb d_Mo_pass_12 (by decide) (fun c12 => ?_) (fun c12 => ?_)
  ·
    have c12 : nI (u 12 0) < nI g := c12
    have hg : g = u 12 0 + 1 := by
      have := (nI_ltI (by omega) (by omega)).mp c12
      omega
    subst hg
    have hq : quiet u t := done_quiet h2 h4
    obtain ⟨b1, b2, b3, b4⟩ := run_inv ht es v u hI0 h3
    have hins : insI u o 1 o := insI_0 hc k1 b3 (fun i => b2 0 i (by decide) (by decide) (by decide) (by decide) (by decide) (by decide))
    refine lv_iconst (v := 1) hx hb d_Mo_pass_79 (by decide) ?_
    refine lv_istore_n (lv' := [(3, .int 1), (0, .ref m0), (1, .long (lN t))]) hx hb d_Mo_pass_80 rfl hl (by decide) rfl (fun ls hl => ?_)
    have hl : lv_has ls 6 [(3, .int (nI 1)), (0, .ref m0), (1, .long (lN t))] := hl
    refine x_loop (A := xA M sz) (D := D) (cl := classes) (H0 := s.heap) (nL := 6) (σ := Nat × List Nat × xM) (fun ⟨i, o1, My⟩ => u 12 1 + 1 - i) (fun ⟨i, o1, My⟩ => 1 ≤ i ∧ i ≤ u 12 1 + 1 ∧ insI u o i o1 ∧ mR cs My m0 (up2 u 12 2 t) o1) (fun ⟨i, o1, My⟩ => My) (fun ⟨i, o1, My⟩ => [(3, .int (nI i)), (0, .ref m0), (1, .long (lN t))]) (fun z hI ih H locs ls hw hl => ?_) (1, o, Mz) ⟨Nat.le_refl _, (by first | omega | (dsimp only; omega)), hins, h5⟩ _ _ _ hw hl
    obtain ⟨i, o1, My⟩ := z
    try dsimp only at hI hw hl ih
    obtain ⟨i1, i2, i3, i4⟩ := hI
    have hol := insI_len i3
    have z0 : My m0 = some (mHead m0 (up2 u 12 2 t) o1) := i4 0 (by decide)
    have g5 : My (m0 + 5) = some (aI (cs 0) 401 (fun j => if j = 0 ∨ u 12 1 < j then 0 else eN (u 3 j))) := i4 5 (by decide)
    have g7 : My (m0 + 7) = some (aL (cs 1) 401 (fun j => if u 3 j = 0 then 0 else lN (tm u j))) := i4 7 (by decide)
    have g15 : My (m0 + 15) = some (aI (cs 0) 400 (fun k => nI (oat o1 k))) := i4 15 (by decide)
    refine lv_iload_n hx hb d_Mo_pass_81 rfl (lv_at hl 0 rfl) ?_
    refine lv_aload_n hx hb d_Mo_pass_82 rfl (lv_at hl 1 rfl) ?_
    refine x_get (C := "GateTimesModel") (T := F_Mo) (N := 21) hx hb hts i_Mo hown hK hw z0 rfl 2 (by decide) (hts _ wd_261) (fun _ h9 => h9) rfl d_Mo_pass_83 ?_
    refine lv_icmp_gt (tgt := 269) hx hb d_Mo_pass_86 (by decide) (fun c86 => ?_) (fun c86 => ?_)
    ·
      have c86 : nI (u 12 1) < nI i := c86
      have hi : i = u 12 1 + 1 := by
        have := (nI_ltI (by omega) (by omega)).mp c86
        omega
      subst hi
      exact x_vret hx hb hr hlk hw (⟨rfl, up2 u 12 2 t, o1, ⟨es, u, h3, hq, rfl, insI_end i3⟩, i4⟩) d_Mo_pass_269
    ·
      have c86 : ¬ nI (u 12 1) < nI i := c86
      have hi : i ≤ u 12 1 := Nat.le_of_not_lt (fun z => c86 ((nI_ltI (by omega) (by omega)).mpr z))
      have hi3 : i < 401 := by omega
      have hib := (h2.2.2.2.2.1 i i1 hi).2.2.2.2.1
      refine x_cut (α := Int32) 103 (fun b => b = nI (hasB u o1 i 0)) (fun b => [.int b]) (fun b hJ => ?_) (fun J103 => ?_)
      ·
        subst hJ
        refine lv_istore (lv' := [(4, .int (nI (hasB u o1 i 0))), (3, .int (nI i)), (0, .ref m0), (1, .long (lN t))]) hx hb d_Mo_pass_103 hl (by decide) rfl (fun ls hl => ?_)
        refine lv_iconst (v := 0) hx hb d_Mo_pass_105 (by decide) ?_
        refine lv_istore (lv' := [(5, .int 0), (4, .int (nI (hasB u o1 i 0))), (3, .int (nI i)), (0, .ref m0), (1, .long (lN t))]) hx hb d_Mo_pass_106 hl (by decide) rfl (fun ls hl => ?_)
        have hl : lv_has ls 6 [(5, .int (nI 0)), (4, .int (nI (hasB u o1 i 0))), (3, .int (nI i)), (0, .ref m0), (1, .long (lN t))] := hl
        have ihC := ih
        refine x_loop (A := xA M sz) (D := D) (cl := classes) (H0 := s.heap) (nL := 6) (σ := Nat) (fun k => o1.length - k) (fun k => k ≤ o1.length) (fun k => My) (fun k => [(5, .int (nI k)), (4, .int (nI (hasB u o1 i k))), (3, .int (nI i)), (0, .ref m0), (1, .long (lN t))]) (fun k hI ih H locs ls hw hl => ?_) 0 (Nat.zero_le _) _ _ _ hw hl
        try dsimp only at hI hw hl ih
        have hh := hasB_le u o1 i k
        refine lv_iload hx hb d_Mo_pass_108 (lv_at hl 0 rfl) ?_
        refine lv_aload_n hx hb d_Mo_pass_110 rfl (lv_at hl 3 rfl) ?_
        refine x_get (C := "GateTimesModel") (T := F_Mo) (N := 21) hx hb hts i_Mo hown hK hw z0 rfl 18 (by decide) (hts _ wd_277) (fun _ h9 => h9) rfl d_Mo_pass_111 ?_
        refine lv_icmp_ge (tgt := 146) hx hb d_Mo_pass_114 (by decide) (fun c114 => ?_) (fun c114 => ?_)
        ·
          have hk : k = o1.length := by
            have := (nI_leI (by omega) (by omega)).mp c114
            omega
          subst hk
          refine lv_iload hx hb d_Mo_pass_146 (lv_at hl 1 rfl) ?_
          refine lv_if_ne (tgt := 263) hx hb d_Mo_pass_148 (by decide) (fun c148 => ?_) (fun c148 => ?_)
          ·
            obtain ⟨n263, en263⟩ : ∃ y : Int32, y = (nI i) + 1 := ⟨_, rfl⟩
            refine lv_iinc (v := n263) (lv' := [(3, .int n263), (5, .int (nI o1.length)), (4, .int (nI (hasB u o1 i o1.length))), (0, .ref m0), (1, .long (lN t))]) hx hb d_Mo_pass_263 hl (k := 2) rfl (by rw [en263]; rfl) (by decide) rfl (fun ls hl => ?_)
            obtain rfl : n263 = nI (i + 1) := en263.trans (nI_1 _)
            refine lv_goto (tgt := 81) hx hb d_Mo_pass_266 (by decide) ?_
            exact ihC (i + 1, o1, My) ⟨(by first | omega | (dsimp only; omega)), (by first | omega | (dsimp only; omega)), insI_skip i3 (hasB_end.1 (fun z => c148 (by rw [z]; exact nI_0))), i4⟩ (by first | omega | (dsimp only; omega)) _ _ _ hw (lv_sub hl [0, 3, 4] rfl)
          ·
            have hno := hasB_end.2 (nI_inj2 (by omega) (by decide) c148)
            have hfew := insI_few i3 i1 hi hno.2
            refine lv_aload_n hx hb d_Mo_pass_151 rfl (lv_at hl 3 rfl) ?_
            refine x_get (C := "GateTimesModel") (T := F_Mo) (N := 21) hx hb hts i_Mo hown hK hw z0 rfl 18 (by decide) (hts _ wd_277) (fun _ h9 => h9) rfl d_Mo_pass_152 ?_
            refine lv_istore (lv' := [(5, .int (nI o1.length)), (4, .int (nI (hasB u o1 i o1.length))), (3, .int (nI i)), (0, .ref m0), (1, .long (lN t))]) hx hb d_Mo_pass_155 hl (by decide) rfl (fun ls hl => ?_)
            have hl : lv_has ls 6 [(5, .int (nI o1.length)), (3, .int (nI i)), (0, .ref m0), (1, .long (lN t))] := lv_sub hl [0, 2, 3, 4] rfl
            refine x_cutH (A := xA M sz) (D := D) (cl := classes) (H0 := s.heap) (nL := 6) (α := Nat) 245 (fun p Mx => p ≤ o1.length ∧ mX Mx m0 (va_up (mel cs m0 (up2 u 12 2 t) o1) 15 (aI (cs 0) 400 (shf o1 p))) ∧ (p = 0 ∨ ltk u (oat o1 (p - 1)) i) ∧ ∀ k, p ≤ k → k < o1.length → ltk u i (oat o1 k)) (fun p => [(5, .int (nI p)), (3, .int (nI i)), (0, .ref m0), (1, .long (lN t))]) (fun p => []) (fun p Mx H locs ls hJ hw hl => ?_) (fun J245 => ?_)
            ·
              obtain ⟨p1, p2, p3, p4⟩ := hJ
              have z0 : Mx m0 = some (mHead m0 (up2 u 12 2 t) o1) := p2 0 (by decide)
              have g15 : Mx (m0 + 15) = some (aI (cs 0) 400 (shf o1 p)) := p2 15 (by decide)
              refine lv_aload_n hx hb d_Mo_pass_245 rfl (lv_at hl 2 rfl) ?_
              refine x_get (C := "GateTimesModel") (T := F_Mo) (N := 21) hx hb hts i_Mo hown hK hw z0 rfl 19 (by decide) (hts _ wd_278) (fun _ h9 => h9) rfl d_Mo_pass_246 ?_
              refine lv_iload hx hb d_Mo_pass_249 (lv_at hl 0 rfl) ?_
              refine lv_iload_n hx hb d_Mo_pass_251 rfl (lv_at hl 1 rfl) ?_
              refine x_iastN hx hb hK hw g15 0 rfl (show p < 400 by omega) (by decide) d_Mo_pass_252 (fun Mw H locs eMw hw => ?_)
              rw [shf_in p1] at eMw
              have q2 := mX_set p2 eMw
              have q3 : mX Mw m0 (va_up (mel cs m0 (up2 u 12 2 t) o1) 15 (aI (cs 0) 400 (fun k => nI (oat (insAt o1 p i) k)))) := fun k hk => by
                rw [q2 k hk, bx_uu]
              have z0 : Mw m0 = some (mHead m0 (up2 u 12 2 t) o1) := q3 0 (by decide)
              refine lv_aload_n hx hb d_Mo_pass_253 rfl (lv_at hl 2 rfl) ?_
              refine lv_dup hx hb d_Mo_pass_254 rfl ?_
              refine x_get (C := "GateTimesModel") (T := F_Mo) (N := 21) hx hb hts i_Mo hown hK hw z0 rfl 18 (by decide) (hts _ wd_277) (fun _ h9 => h9) rfl d_Mo_pass_255 ?_
              refine lv_iconst (v := 1) hx hb d_Mo_pass_258 (by decide) ?_
              refine lv_iadd hx hb d_Mo_pass_259 ?_
              refine lv_topi (fun n259 en259 => ?_)
              obtain rfl : n259 = nI (insAt o1 p i).length := en259.trans (by rw [insAt_len p1]; exact nI_1 _)
              refine x_put (C := "GateTimesModel") (T := F_Mo) (N := 21) (ty := .int) hx hb hts i_Mo t_Mo t_Mo_ok n_Mo hown hK hw z0 rfl 18 (by decide) (hts _ wd_277) (fun _ h9 => h9) rfl (by decide +kernel) rfl rfl (Nat.le_of_ble_eq_true rfl) d_Mo_pass_260 (fun Mv H locs eMv hw => ?_)
              have hmv : mR cs Mv m0 (up2 u 12 2 t) (insAt o1 p i) := mR_out (M2 := Mv) (E := mel cs m0 v o) q3 (by rw [eMv]; rfl)
              obtain ⟨n263, en263⟩ : ∃ y : Int32, y = (nI i) + 1 := ⟨_, rfl⟩
              refine lv_iinc (v := n263) (lv' := [(3, .int n263), (5, .int (nI p)), (0, .ref m0), (1, .long (lN t))]) hx hb d_Mo_pass_263 hl (k := 1) rfl (by rw [en263]; rfl) (by decide) rfl (fun ls hl => ?_)
              obtain rfl : n263 = nI (i + 1) := en263.trans (nI_1 _)
              refine lv_goto (tgt := 81) hx hb d_Mo_pass_266 (by decide) ?_
              exact ihC (i + 1, insAt o1 p i, Mv) ⟨(by first | omega | (dsimp only; omega)), (by first | omega | (dsimp only; omega)), insI_in i3 i1 hi hno.1 p1 p3 p4, hmv⟩ (by first | omega | (dsimp only; omega)) _ _ _ hw (lv_sub hl [0, 2, 3] rfl)
            ·
              have p20 : mX My m0 (va_up (mel cs m0 (up2 u 12 2 t) o1) 15 (aI (cs 0) 400 (shf o1 o1.length))) := by
                rw [shf_top]
                exact m16 (i4 0 (by decide)) (i4 1 (by decide)) (i4 2 (by decide)) (i4 3 (by decide)) (i4 4 (by decide)) (i4 5 (by decide)) (i4 6 (by decide)) (i4 7 (by decide)) (i4 8 (by decide)) (i4 9 (by decide)) (i4 10 (by decide)) (i4 11 (by decide)) (i4 12 (by decide)) (i4 13 (by decide)) (i4 14 (by decide)) (i4 15 (by decide))
              refine x_loop (A := xA M sz) (D := D) (cl := classes) (H0 := s.heap) (nL := 6) (σ := Nat × xM) (fun ⟨p, Mx⟩ => p) (fun ⟨p, Mx⟩ => p ≤ o1.length ∧ mX Mx m0 (va_up (mel cs m0 (up2 u 12 2 t) o1) 15 (aI (cs 0) 400 (shf o1 p))) ∧ ∀ k, p ≤ k → k < o1.length → ltk u i (oat o1 k)) (fun ⟨p, Mx⟩ => Mx) (fun ⟨p, Mx⟩ => [(5, .int (nI p)), (3, .int (nI i)), (0, .ref m0), (1, .long (lN t))]) (fun z hI ih H locs ls hw hl => ?_) (o1.length, My) ⟨Nat.le_refl _, p20, fun k z1 z2 => absurd z2 (Nat.not_lt.mpr z1)⟩ _ _ _ hw hl
              obtain ⟨p, Mx⟩ := z
              try dsimp only at hI hw hl ih
              obtain ⟨p1, p2, p4⟩ := hI
              have z0 : Mx m0 = some (mHead m0 (up2 u 12 2 t) o1) := p2 0 (by decide)
              have g15 : Mx (m0 + 15) = some (aI (cs 0) 400 (shf o1 p)) := p2 15 (by decide)
              have g7 : Mx (m0 + 7) = some (aL (cs 1) 401 (fun j => if u 3 j = 0 then 0 else lN (tm u j))) := p2 7 (by decide)
              refine lv_iload hx hb d_Mo_pass_157 (lv_at hl 0 rfl) ?_
              refine lv_if_le (tgt := 245) hx hb d_Mo_pass_159 (by decide) (fun c159 => ?_) (fun c159 => ?_)
              ·
                exact J245 p Mx _ _ _ ⟨p1, p2, Or.inl (Decidable.byContradiction (fun z => nI_nle (by omega) (by omega) c159)), p4⟩ hw hl
              ·
                obtain ⟨q, rfl⟩ : ∃ q, p = q + 1 := ⟨p - 1, by have : p ≠ 0 := fun z => c159 (by rw [z]; decide); omega⟩
                have hj := (i3.2 (oat o1 q)).mp (oat_mem (by omega))
                obtain ⟨j, hjj⟩ : ∃ j, j = oat o1 q := ⟨_, rfl⟩
                rw [← hjj] at hj
                have hsq : shf o1 (q + 1) q = nI j := by rw [hjj]; exact shf_at (o := o1) (p := q + 1) (by omega)
                have hne : j ≠ i := fun z => hno.2 (by rw [← z, hjj]; exact oat_mem (by omega))
                have hjb := h2.2.2.2.2.1 j hj.1 hj.2.1
                have hib2 := h2.2.2.2.2.1 i i1 hi
                unfold gItem at hjb hib2
                have tj : tm u j < 1000020000 := by unfold tm; omega
                have ti : tm u i < 1000020000 := by unfold tm; omega
                refine lv_aload_n hx hb d_Mo_pass_162 rfl (lv_at hl 2 rfl) ?_
                refine x_get (C := "GateTimesModel") (T := F_Mo) (N := 21) hx hb hts i_Mo hown hK hw z0 rfl 9 (by decide) (hts _ wd_268) (fun _ h9 => h9) rfl d_Mo_pass_163 ?_
                refine lv_aload_n hx hb d_Mo_pass_166 rfl (lv_at hl 2 rfl) ?_
                refine x_get (C := "GateTimesModel") (T := F_Mo) (N := 21) hx hb hts i_Mo hown hK hw z0 rfl 19 (by decide) (hts _ wd_278) (fun _ h9 => h9) rfl d_Mo_pass_167 ?_
                refine lv_iload hx hb d_Mo_pass_170 (lv_at hl 0 rfl) ?_
                refine lv_iconst (v := 1) hx hb d_Mo_pass_172 (by decide) ?_
                refine lv_isub hx hb d_Mo_pass_173 ?_
                refine lv_topi (fun n173 en173 => ?_)
                obtain rfl : n173 = nI q := en173.trans (nI_pred q)
                refine x_ialdN hx hb hK hw g15 0 rfl (show q < 400 by omega) (by decide) d_Mo_pass_174 ?_
                rw [hsq]
                refine x_laldN hx hb hK hw g7 1 rfl (show j < 401 by omega) (by decide) d_Mo_pass_175 ?_
                rw [if_neg hj.2.2.1]
                refine lv_aload_n hx hb d_Mo_pass_176 rfl (lv_at hl 2 rfl) ?_
                refine x_get (C := "GateTimesModel") (T := F_Mo) (N := 21) hx hb hts i_Mo hown hK hw z0 rfl 9 (by decide) (hts _ wd_268) (fun _ h9 => h9) rfl d_Mo_pass_177 ?_
                refine lv_iload_n hx hb d_Mo_pass_180 rfl (lv_at hl 1 rfl) ?_
                refine x_laldN hx hb hK hw g7 1 rfl hi3 (by decide) d_Mo_pass_181 ?_
                rw [if_neg hno.1]
                refine W.lcmp hx hb d_Mo_pass_182 ?_
                refine lv_if_gt (tgt := 223) hx hb d_Mo_pass_183 (by decide) (fun c183 => ?_) (fun c183 => ?_)
                ·
                  replace c183 := (lg_cmp_gt _ _).mp c183
                  have hlt : ltk u i j := Or.inl ((lN_lt (by omega) (by omega)).mp c183)
                  refine lv_aload_n hx hb d_Mo_pass_223 rfl (lv_at hl 2 rfl) ?_
                  refine x_get (C := "GateTimesModel") (T := F_Mo) (N := 21) hx hb hts i_Mo hown hK hw z0 rfl 19 (by decide) (hts _ wd_278) (fun _ h9 => h9) rfl d_Mo_pass_224 ?_
                  refine lv_iload hx hb d_Mo_pass_227 (lv_at hl 0 rfl) ?_
                  refine lv_aload_n hx hb d_Mo_pass_229 rfl (lv_at hl 2 rfl) ?_
                  refine x_get (C := "GateTimesModel") (T := F_Mo) (N := 21) hx hb hts i_Mo hown hK hw z0 rfl 19 (by decide) (hts _ wd_278) (fun _ h9 => h9) rfl d_Mo_pass_230 ?_
                  refine lv_iload hx hb d_Mo_pass_233 (lv_at hl 0 rfl) ?_
                  refine lv_iconst (v := 1) hx hb d_Mo_pass_235 (by decide) ?_
                  refine lv_isub hx hb d_Mo_pass_236 ?_
                  refine lv_topi (fun n236 en236 => ?_)
                  obtain rfl : n236 = nI q := en236.trans (nI_pred q)
                  refine x_ialdN hx hb hK hw g15 0 rfl (show q < 400 by omega) (by decide) d_Mo_pass_237 ?_
                  rw [hsq]
                  refine x_iastN hx hb hK hw g15 0 rfl (show q + 1 < 400 by omega) (by decide) d_Mo_pass_238 (fun Mw H locs eMw hw => ?_)
                  rw [hjj, shf_step (by omega)] at eMw
                  have q2 := mX_set p2 eMw
                  have q3 : mX Mw m0 (va_up (mel cs m0 (up2 u 12 2 t) o1) 15 (aI (cs 0) 400 (shf o1 q))) := fun k hk => by
                    rw [q2 k hk, bx_uu]
                  obtain ⟨n239, en239⟩ : ∃ y : Int32, y = (nI (q + 1)) + (-1) := ⟨_, rfl⟩
                  refine lv_iinc (v := n239) (lv' := [(5, .int n239), (3, .int (nI i)), (0, .ref m0), (1, .long (lN t))]) hx hb d_Mo_pass_239 hl (k := 0) rfl (by rw [en239]; rfl) (by decide) rfl (fun ls hl => ?_)
                  obtain rfl : n239 = nI q := en239.trans (pk_m1 q)
                  refine lv_goto (tgt := 157) hx hb d_Mo_pass_242 (by decide) ?_
                  exact ih (q, Mw) ⟨(by first | omega | (dsimp only; omega)), q3, fun k z1 z2 => by
                    by_cases ek : k = q
                    · rw [ek, ← hjj]
                      exact hlt
                    · exact p4 k (by first | omega | (dsimp only at z1; omega)) z2⟩ (by first | omega | (dsimp only; omega)) _ _ _ hw (lv_sub hl [0, 1, 2, 3] rfl)
                ·
                  replace c183 := fun z => c183 ((lg_cmp_gt _ _).mpr z)
                  have d1 : tm u j ≤ tm u i := Nat.le_of_not_lt (fun z => c183 ((lN_lt (by omega) (by omega)).mpr z))
                  refine lv_aload_n hx hb d_Mo_pass_186 rfl (lv_at hl 2 rfl) ?_
                  refine x_get (C := "GateTimesModel") (T := F_Mo) (N := 21) hx hb hts i_Mo hown hK hw z0 rfl 9 (by decide) (hts _ wd_268) (fun _ h9 => h9) rfl d_Mo_pass_187 ?_
                  refine lv_aload_n hx hb d_Mo_pass_190 rfl (lv_at hl 2 rfl) ?_
                  refine x_get (C := "GateTimesModel") (T := F_Mo) (N := 21) hx hb hts i_Mo hown hK hw z0 rfl 19 (by decide) (hts _ wd_278) (fun _ h9 => h9) rfl d_Mo_pass_191 ?_
                  refine lv_iload hx hb d_Mo_pass_194 (lv_at hl 0 rfl) ?_
                  refine lv_iconst (v := 1) hx hb d_Mo_pass_196 (by decide) ?_
                  refine lv_isub hx hb d_Mo_pass_197 ?_
                  refine lv_topi (fun n197 en197 => ?_)
                  obtain rfl : n197 = nI q := en197.trans (nI_pred q)
                  refine x_ialdN hx hb hK hw g15 0 rfl (show q < 400 by omega) (by decide) d_Mo_pass_198 ?_
                  rw [hsq]
                  refine x_laldN hx hb hK hw g7 1 rfl (show j < 401 by omega) (by decide) d_Mo_pass_199 ?_
                  rw [if_neg hj.2.2.1]
                  refine lv_aload_n hx hb d_Mo_pass_200 rfl (lv_at hl 2 rfl) ?_
                  refine x_get (C := "GateTimesModel") (T := F_Mo) (N := 21) hx hb hts i_Mo hown hK hw z0 rfl 9 (by decide) (hts _ wd_268) (fun _ h9 => h9) rfl d_Mo_pass_201 ?_
                  refine lv_iload_n hx hb d_Mo_pass_204 rfl (lv_at hl 1 rfl) ?_
                  refine x_laldN hx hb hK hw g7 1 rfl hi3 (by decide) d_Mo_pass_205 ?_
                  rw [if_neg hno.1]
                  refine W.lcmp hx hb d_Mo_pass_206 ?_
                  refine lv_if_ne (tgt := 245) hx hb d_Mo_pass_207 (by decide) (fun c207 => ?_) (fun c207 => ?_)
                  ·
                    replace c207 := fun z => c207 ((lg_cmp_eq _ _).mpr z)
                    exact J245 (q + 1) Mx _ _ _ ⟨p1, p2, Or.inr (by show ltk u (oat o1 q) i; rw [← hjj]; exact Or.inl (by have : tm u j ≠ tm u i := fun z => c207 (by rw [z]); omega)), p4⟩ hw hl
                  ·
                    replace c207 := (lg_cmp_eq _ _).mp c207
                    have d2 : tm u j = tm u i := lN_inj (by omega) (by omega) c207
                    refine lv_aload_n hx hb d_Mo_pass_210 rfl (lv_at hl 2 rfl) ?_
                    refine x_get (C := "GateTimesModel") (T := F_Mo) (N := 21) hx hb hts i_Mo hown hK hw z0 rfl 19 (by decide) (hts _ wd_278) (fun _ h9 => h9) rfl d_Mo_pass_211 ?_
                    refine lv_iload hx hb d_Mo_pass_214 (lv_at hl 0 rfl) ?_
                    refine lv_iconst (v := 1) hx hb d_Mo_pass_216 (by decide) ?_
                    refine lv_isub hx hb d_Mo_pass_217 ?_
                    refine lv_topi (fun n217 en217 => ?_)
                    obtain rfl : n217 = nI q := en217.trans (nI_pred q)
                    refine x_ialdN hx hb hK hw g15 0 rfl (show q < 400 by omega) (by decide) d_Mo_pass_218 ?_
                    rw [hsq]
                    refine lv_iload_n hx hb d_Mo_pass_219 rfl (lv_at hl 1 rfl) ?_
                    refine lv_icmp_le (tgt := 245) hx hb d_Mo_pass_220 (by decide) (fun c220 => ?_) (fun c220 => ?_)
                    ·
                      exact J245 (q + 1) Mx _ _ _ ⟨p1, p2, Or.inr (by show ltk u (oat o1 q) i; rw [← hjj]; exact Or.inr ⟨d2, by have := (nI_leI (by omega) (by omega)).mp c220; omega⟩), p4⟩ hw hl
                    ·
                      have hlt : ltk u i j := Or.inr ⟨d2.symm, Nat.lt_of_not_le (fun z => c220 ((nI_leI (by omega) (by omega)).mpr z))⟩
                      refine lv_aload_n hx hb d_Mo_pass_223 rfl (lv_at hl 2 rfl) ?_
                      refine x_get (C := "GateTimesModel") (T := F_Mo) (N := 21) hx hb hts i_Mo hown hK hw z0 rfl 19 (by decide) (hts _ wd_278) (fun _ h9 => h9) rfl d_Mo_pass_224 ?_
                      refine lv_iload hx hb d_Mo_pass_227 (lv_at hl 0 rfl) ?_
                      refine lv_aload_n hx hb d_Mo_pass_229 rfl (lv_at hl 2 rfl) ?_
                      refine x_get (C := "GateTimesModel") (T := F_Mo) (N := 21) hx hb hts i_Mo hown hK hw z0 rfl 19 (by decide) (hts _ wd_278) (fun _ h9 => h9) rfl d_Mo_pass_230 ?_
                      refine lv_iload hx hb d_Mo_pass_233 (lv_at hl 0 rfl) ?_
                      refine lv_iconst (v := 1) hx hb d_Mo_pass_235 (by decide) ?_
                      refine lv_isub hx hb d_Mo_pass_236 ?_
                      refine lv_topi (fun n236 en236 => ?_)
                      obtain rfl : n236 = nI q := en236.trans (nI_pred q)
                      refine x_ialdN hx hb hK hw g15 0 rfl (show q < 400 by omega) (by decide) d_Mo_pass_237 ?_
                      rw [hsq]
                      refine x_iastN hx hb hK hw g15 0 rfl (show q + 1 < 400 by omega) (by decide) d_Mo_pass_238 (fun Mw H locs eMw hw => ?_)
                      rw [hjj, shf_step (by omega)] at eMw
                      have q2 := mX_set p2 eMw
                      have q3 : mX Mw m0 (va_up (mel cs m0 (up2 u 12 2 t) o1) 15 (aI (cs 0) 400 (shf o1 q))) := fun k hk => by
                        rw [q2 k hk, bx_uu]
                      obtain ⟨n239, en239⟩ : ∃ y : Int32, y = (nI (q + 1)) + (-1) := ⟨_, rfl⟩
                      refine lv_iinc (v := n239) (lv' := [(5, .int n239), (3, .int (nI i)), (0, .ref m0), (1, .long (lN t))]) hx hb d_Mo_pass_239 hl (k := 0) rfl (by rw [en239]; rfl) (by decide) rfl (fun ls hl => ?_)
                      obtain rfl : n239 = nI q := en239.trans (pk_m1 q)
                      refine lv_goto (tgt := 157) hx hb d_Mo_pass_242 (by decide) ?_
                      exact ih (q, Mw) ⟨(by first | omega | (dsimp only; omega)), q3, fun k z1 z2 => by
                        by_cases ek : k = q
                        · rw [ek, ← hjj]
                          exact hlt
                        · exact p4 k (by first | omega | (dsimp only at z1; omega)) z2⟩ (by first | omega | (dsimp only; omega)) _ _ _ hw (lv_sub hl [0, 1, 2, 3] rfl)
        ·
          have hk : k < o1.length := Nat.lt_of_not_le (fun z => c114 ((nI_leI (by omega) (by omega)).mpr z))
          refine x_cut (α := Int32) 138 (fun b => b = nI (hasB u o1 i (k + 1))) (fun b => [.int b]) (fun b hJ => ?_) (fun J138 => ?_)
          ·
            subst hJ
            refine lv_istore (lv' := [(4, .int (nI (hasB u o1 i (k + 1)))), (5, .int (nI k)), (3, .int (nI i)), (0, .ref m0), (1, .long (lN t))]) hx hb d_Mo_pass_138 hl (by decide) rfl (fun ls hl => ?_)
            obtain ⟨n140, en140⟩ : ∃ y : Int32, y = (nI k) + 1 := ⟨_, rfl⟩
            refine lv_iinc (v := n140) (lv' := [(5, .int n140), (4, .int (nI (hasB u o1 i (k + 1)))), (3, .int (nI i)), (0, .ref m0), (1, .long (lN t))]) hx hb d_Mo_pass_140 hl (k := 1) rfl (by rw [en140]; rfl) (by decide) rfl (fun ls hl => ?_)
            obtain rfl : n140 = nI (k + 1) := en140.trans (nI_1 _)
            refine lv_goto (tgt := 108) hx hb d_Mo_pass_143 (by decide) ?_
            exact ih (k + 1) (by first | omega | (dsimp only; omega)) (by first | omega | (dsimp only; omega)) _ _ _ hw (lv_sub hl [0, 1, 2, 3, 4] rfl)
          ·
            refine lv_iload hx hb d_Mo_pass_117 (lv_at hl 1 rfl) ?_
            refine lv_if_ne (tgt := 133) hx hb d_Mo_pass_119 (by decide) (fun c119 => ?_) (fun c119 => ?_)
            ·
              refine lv_iconst (v := 1) hx hb d_Mo_pass_133 (by decide) ?_
              refine lv_goto (tgt := 138) hx hb d_Mo_pass_134 (by decide) ?_
              exact J138 1 (by rw [hasB_y (Or.inl (fun z => c119 (by rw [z]; exact nI_0)))]; rfl)
            ·
              have hz : hasB u o1 i k = 0 := nI_inj2 (by omega) (by decide) c119
              have hob : oat o1 k ≤ 400 := by
                have := (i3.2 _).mp (oat_mem hk)
                omega
              refine lv_aload_n hx hb d_Mo_pass_122 rfl (lv_at hl 3 rfl) ?_
              refine x_get (C := "GateTimesModel") (T := F_Mo) (N := 21) hx hb hts i_Mo hown hK hw z0 rfl 19 (by decide) (hts _ wd_278) (fun _ h9 => h9) rfl d_Mo_pass_123 ?_
              refine lv_iload hx hb d_Mo_pass_126 (lv_at hl 0 rfl) ?_
              refine x_ialdN hx hb hK hw g15 0 rfl (show k < 400 by omega) (by decide) d_Mo_pass_128 ?_
              refine lv_iload_n hx hb d_Mo_pass_129 rfl (lv_at hl 2 rfl) ?_
              refine lv_icmp_ne (tgt := 137) hx hb d_Mo_pass_130 (by decide) (fun c130 => ?_) (fun c130 => ?_)
              ·
                refine lv_iconst (v := 0) hx hb d_Mo_pass_137 (by decide) ?_
                exact J138 0 (by rw [hasB_n hz (fun z => c130 (by rw [z])), nI_0])
              ·
                refine lv_iconst (v := 1) hx hb d_Mo_pass_133 (by decide) ?_
                refine lv_goto (tgt := 138) hx hb d_Mo_pass_134 (by decide) ?_
                exact J138 1 (by rw [hasB_y (Or.inr (nI_inj2 (by omega) (by omega) c130))]; rfl)
      ·
        refine lv_aload_n hx hb d_Mo_pass_89 rfl (lv_at hl 1 rfl) ?_
        refine x_get (C := "GateTimesModel") (T := F_Mo) (N := 21) hx hb hts i_Mo hown hK hw z0 rfl 7 (by decide) (hts _ wd_266) (fun _ h9 => h9) rfl d_Mo_pass_90 ?_
        refine lv_iload_n hx hb d_Mo_pass_93 rfl (lv_at hl 0 rfl) ?_
        refine x_ialdN hx hb hK hw g5 0 rfl hi3 (by decide) d_Mo_pass_94 ?_
        rw [if_neg (by omega)]
        refine lv_if_ge (tgt := 102) hx hb d_Mo_pass_95 (by decide) (fun c95 => ?_) (fun c95 => ?_)
        ·
          refine lv_iconst (v := 0) hx hb d_Mo_pass_102 (by decide) ?_
          exact J103 0 (by rw [hasB_0, if_neg ((eN_pos (by omega)).mp c95), nI_0])
        ·
          refine lv_iconst (v := 1) hx hb d_Mo_pass_98 (by decide) ?_
          refine lv_goto (tgt := 103) hx hb d_Mo_pass_99 (by decide) ?_
          exact J103 1 (by rw [hasB_0, if_pos (Decidable.byContradiction (fun z => c95 ((eN_pos (by omega)).mpr z)))]; rfl)
  ·
    have c12 : ¬ nI (u 12 0) < nI g := c12
    have hg : g ≤ u 12 0 := Nat.le_of_not_lt (fun z => c12 ((nI_ltI (by omega) (by omega)).mpr z))
    refine lv_iconst (v := 1) hx hb d_Mo_pass_15 (by decide) ?_
    refine lv_istore (lv' := [(4, .int 1), (3, .int (nI g)), (0, .ref m0), (1, .long (lN t))]) hx hb d_Mo_pass_16 hl (by decide) rfl (fun ls hl => ?_)
    have hl : lv_has ls 6 [(4, .int (nI 1)), (3, .int (nI g)), (0, .ref m0), (1, .long (lN t))] := hl
    have ihA := ih
    refine x_loop (A := xA M sz) (D := D) (cl := classes) (H0 := s.heap) (nL := 6) (σ := Nat × gV × List (Nat × Nat) × xM) (fun ⟨i, u, es, My⟩ => v 12 1 + 1 - i) (fun ⟨i, u, es, My⟩ => 1 ≤ i ∧ i ≤ v 12 1 + 1 ∧ (gInv u ∧ run t es v u ∧ u 12 0 = v 12 0 ∧ u 12 1 = v 12 1) ∧ doneTo u t g ∧ doneIn u t g i ∧ mR cs My m0 (up2 u 12 2 t) o ∧ g ≤ u 12 0) (fun ⟨i, u, es, My⟩ => My) (fun ⟨i, u, es, My⟩ => [(4, .int (nI i)), (3, .int (nI g)), (0, .ref m0), (1, .long (lN t))]) (fun z hI ih H locs ls hw hl => ?_) (1, u, es, Mz) ⟨Nat.le_refl _, by omega, ⟨h2, h3, k0, k1⟩, h4, fun j j1 j2 => by omega, h5, hg⟩ _ _ _ hw hl
    obtain ⟨i, u, es, My⟩ := z
    try dsimp only at hI hw hl ih
    clear h2 h3 k0 k1 h4 h5
    obtain ⟨i1, i2, ⟨h2, h3, k0, k1⟩, h4, i4, h5, hug⟩ := hI
    have hGu := h2.1.2
    have hnu := h2.2.1
    have z0 : My m0 = some (mHead m0 (up2 u 12 2 t) o) := h5 0 (by decide)
    have g4 : My (m0 + 4) = some (aI (cs 0) 401 (fun j => nI (u 4 j))) := h5 4 (by decide)
    have g5 : My (m0 + 5) = some (aI (cs 0) 401 (fun j => if j = 0 ∨ u 12 1 < j then 0 else eN (u 3 j))) := h5 5 (by decide)
    refine lv_iload hx hb d_Mo_pass_18 (lv_at hl 0 rfl) ?_
    refine lv_aload_n hx hb d_Mo_pass_20 rfl (lv_at hl 2 rfl) ?_
    refine x_get (C := "GateTimesModel") (T := F_Mo) (N := 21) hx hb hts i_Mo hown hK hw z0 rfl 2 (by decide) (hts _ wd_261) (fun _ h9 => h9) rfl d_Mo_pass_21 ?_
    refine lv_icmp_gt (tgt := 73) hx hb d_Mo_pass_24 (by decide) (fun c24 => ?_) (fun c24 => ?_)
    ·
      have c24 : nI (u 12 1) < nI i := c24
      have hi : i = u 12 1 + 1 := by
        have := (nI_ltI (by omega) (by omega)).mp c24
        omega
      subst hi
      obtain ⟨n73, en73⟩ : ∃ y : Int32, y = (nI g) + 1 := ⟨_, rfl⟩
      refine lv_iinc (v := n73) (lv' := [(3, .int n73), (4, .int (nI (u 12 1 + 1))), (0, .ref m0), (1, .long (lN t))]) hx hb d_Mo_pass_73 hl (k := 1) rfl (by rw [en73]; rfl) (by decide) rfl (fun ls hl => ?_)
      obtain rfl : n73 = nI (g + 1) := en73.trans (nI_1 _)
      refine lv_goto (tgt := 7) hx hb d_Mo_pass_76 (by decide) ?_
      exact ihA (g + 1, u, es, My) ⟨(by first | omega | (dsimp only; omega)), ⟨h2, h3, k0, k1⟩, done_next h4 i4, h5⟩ (by first | omega | (dsimp only; omega)) _ _ _ hw (lv_sub hl [0, 2, 3] rfl)
    ·
      have c24 : ¬ nI (u 12 1) < nI i := c24
      have hi : i ≤ u 12 1 := Nat.le_of_not_lt (fun z => c24 ((nI_ltI (by omega) (by omega)).mpr z))
      have hi3 : i < 401 := by omega
      have hit := h2.2.2.2.2.1 i i1 hi
      unfold gItem at hit
      have hfb : fr u i g < 1000020000 := by unfold fr; omega
      refine lv_aload_n hx hb d_Mo_pass_27 rfl (lv_at hl 2 rfl) ?_
      refine x_get (C := "GateTimesModel") (T := F_Mo) (N := 21) hx hb hts i_Mo hown hK hw z0 rfl 7 (by decide) (hts _ wd_266) (fun _ h9 => h9) rfl d_Mo_pass_28 ?_
      refine lv_iload hx hb d_Mo_pass_31 (lv_at hl 0 rfl) ?_
      refine x_ialdN hx hb hK hw g5 0 rfl hi3 (by decide) d_Mo_pass_33 ?_
      rw [if_neg (by omega)]
      refine lv_if_ge (tgt := 67) hx hb d_Mo_pass_34 (by decide) (fun c34 => ?_) (fun c34 => ?_)
      ·
        have hsk : u 3 i = 0 → u 4 i = g → t < fr u i g := fun z _ => absurd z ((eN_pos (by omega)).mp c34)
        obtain ⟨n67, en67⟩ : ∃ y : Int32, y = (nI i) + 1 := ⟨_, rfl⟩
        refine lv_iinc (v := n67) (lv' := [(4, .int n67), (3, .int (nI g)), (0, .ref m0), (1, .long (lN t))]) hx hb d_Mo_pass_67 hl (k := 0) rfl (by rw [en67]; rfl) (by decide) rfl (fun ls hl => ?_)
        obtain rfl : n67 = nI (i + 1) := en67.trans (nI_1 _)
        refine lv_goto (tgt := 18) hx hb d_Mo_pass_70 (by decide) ?_
        exact ih (i + 1, u, es, My) ⟨(by first | omega | (dsimp only; omega)), (by first | omega | (dsimp only; omega)), ⟨h2, h3, k0, k1⟩, h4, doneIn_skip i4 hsk, h5, (by first | omega | (dsimp only; omega))⟩ (by first | omega | (dsimp only; omega)) _ _ _ hw (lv_sub hl [0, 1, 2, 3] rfl)
      ·
        have d3 : u 3 i = 0 := Decidable.byContradiction (fun z => c34 ((eN_pos (by omega)).mpr z))
        have d4 := hit.2.2.2.2.2.1 d3
        refine lv_aload_n hx hb d_Mo_pass_37 rfl (lv_at hl 2 rfl) ?_
        refine x_get (C := "GateTimesModel") (T := F_Mo) (N := 21) hx hb hts i_Mo hown hK hw z0 rfl 6 (by decide) (hts _ wd_265) (fun _ h9 => h9) rfl d_Mo_pass_38 ?_
        refine lv_iload hx hb d_Mo_pass_41 (lv_at hl 0 rfl) ?_
        refine x_ialdN hx hb hK hw g4 0 rfl hi3 (by decide) d_Mo_pass_43 ?_
        refine lv_iload_n hx hb d_Mo_pass_44 rfl (lv_at hl 1 rfl) ?_
        refine lv_icmp_ne (tgt := 67) hx hb d_Mo_pass_45 (by decide) (fun c45 => ?_) (fun c45 => ?_)
        ·
          have hsk : u 3 i = 0 → u 4 i = g → t < fr u i g := fun _ z => absurd (by rw [z]) c45
          obtain ⟨n67, en67⟩ : ∃ y : Int32, y = (nI i) + 1 := ⟨_, rfl⟩
          refine lv_iinc (v := n67) (lv' := [(4, .int n67), (3, .int (nI g)), (0, .ref m0), (1, .long (lN t))]) hx hb d_Mo_pass_67 hl (k := 0) rfl (by rw [en67]; rfl) (by decide) rfl (fun ls hl => ?_)
          obtain rfl : n67 = nI (i + 1) := en67.trans (nI_1 _)
          refine lv_goto (tgt := 18) hx hb d_Mo_pass_70 (by decide) ?_
          exact ih (i + 1, u, es, My) ⟨(by first | omega | (dsimp only; omega)), (by first | omega | (dsimp only; omega)), ⟨h2, h3, k0, k1⟩, h4, doneIn_skip i4 hsk, h5, (by first | omega | (dsimp only; omega))⟩ (by first | omega | (dsimp only; omega)) _ _ _ hw (lv_sub hl [0, 1, 2, 3] rfl)
        ·
          have d5 : u 4 i = g := nI_inj2 (by omega) (by omega) c45
          refine lv_aload_n hx hb d_Mo_pass_48 rfl (lv_at hl 2 rfl) ?_
          refine lv_iload hx hb d_Mo_pass_49 (lv_at hl 0 rfl) ?_
          refine lv_iload_n hx hb d_Mo_pass_51 rfl (lv_at hl 1 rfl) ?_
          refine x_calllM (va_runV (As := [.int (nI i), .int (nI g)]) (rest := []) hF (c_Mo_front l D cs My _ m0 (up2 u 12 2 t) o h5 i g (by omega) (by omega)) (x_cwV 2 hts wd_351 wd_353 wp_11 wd_6 wd_354 rfl rfl (by decide +kernel) ⟨Nat.le_of_ble_eq_true rfl, Nat.le_of_ble_eq_true rfl⟩) (x_preV hK hZ hw z0 rfl) rfl rfl hl.1 rfl (lv_room (Nat.le_of_ble_eq_true rfl)) d_Mo_pass_52 ⟨Nat.le_of_ble_eq_true rfl, Nat.le_of_ble_eq_true rfl⟩) hw hA (fun r H locs hp hw => ?_)
          obtain rfl : r = lN (fr u i g) := hp
          refine lv_lload_n hx hb d_Mo_pass_55 rfl (lv_at hl 3 rfl) ?_
          refine W.lcmp hx hb d_Mo_pass_56 ?_
          refine lv_if_gt (tgt := 67) hx hb d_Mo_pass_57 (by decide) (fun c57 => ?_) (fun c57 => ?_)
          ·
            replace c57 := (lg_cmp_gt _ _).mp c57
            have hsk : u 3 i = 0 → u 4 i = g → t < fr u i g := fun _ _ => (lN_lt (by omega) (by omega)).mp c57
            obtain ⟨n67, en67⟩ : ∃ y : Int32, y = (nI i) + 1 := ⟨_, rfl⟩
            refine lv_iinc (v := n67) (lv' := [(4, .int n67), (3, .int (nI g)), (0, .ref m0), (1, .long (lN t))]) hx hb d_Mo_pass_67 hl (k := 0) rfl (by rw [en67]; rfl) (by decide) rfl (fun ls hl => ?_)
            obtain rfl : n67 = nI (i + 1) := en67.trans (nI_1 _)
            refine lv_goto (tgt := 18) hx hb d_Mo_pass_70 (by decide) ?_
            exact ih (i + 1, u, es, My) ⟨(by first | omega | (dsimp only; omega)), (by first | omega | (dsimp only; omega)), ⟨h2, h3, k0, k1⟩, h4, doneIn_skip i4 hsk, h5, (by first | omega | (dsimp only; omega))⟩ (by first | omega | (dsimp only; omega)) _ _ _ hw (lv_sub hl [0, 1, 2, 3] rfl)
          ·
            replace c57 := fun z => c57 ((lg_cmp_gt _ _).mpr z)
            have he : en u t i g := done_en h2 i4 i1 hi d3 d5 (by omega) (Nat.le_of_not_lt (fun z => c57 ((lN_lt (by omega) (by omega)).mpr z)))
            have hga := h2.2.2.2.2.2.2.1 g (by omega)
            have hbn := bn_le u
            unfold gGate at hga
            refine lv_aload_n hx hb d_Mo_pass_60 rfl (lv_at hl 2 rfl) ?_
            refine lv_iload hx hb d_Mo_pass_61 (lv_at hl 0 rfl) ?_
            refine lv_iload_n hx hb d_Mo_pass_63 rfl (lv_at hl 1 rfl) ?_
            refine x_callv (va_runV (As := [.int (nI i), .int (nI g)]) (rest := []) hF (c_Mo_at l D cs My _ m0 (up2 u 12 2 t) o h5 i g i1 hi hnu (show g ≤ u 12 0 from by omega) hGu hga.1 hga.2.1 hga.2.2.1 hga.2.2.2.2.2.2.2 hga.2.2.2.2.1 (show u 10 g < 100000 from by omega) hit.1 hit.2.2.1 (show u 2 i ≤ 12 from by omega) d3) (x_cwV 2 hts wd_356 wd_358 wp_12 wd_6 wd_359 rfl rfl (by decide +kernel) ⟨Nat.le_of_ble_eq_true rfl, Nat.le_of_ble_eq_true rfl⟩) (x_preV hK hZ hw z0 rfl) rfl rfl hl.1 rfl (lv_room (Nat.le_of_ble_eq_true rfl)) d_Mo_pass_64 ⟨Nat.le_of_ble_eq_true rfl, Nat.le_of_ble_eq_true rfl⟩) hw hA (fun Mn H locs hp hw => ?_)
            rw [evt_now] at hp
            have hds := done_step he h4 i4
            obtain ⟨n67, en67⟩ : ∃ y : Int32, y = (nI i) + 1 := ⟨_, rfl⟩
            refine lv_iinc (v := n67) (lv' := [(4, .int n67), (3, .int (nI g)), (0, .ref m0), (1, .long (lN t))]) hx hb d_Mo_pass_67 hl (k := 0) rfl (by rw [en67]; rfl) (by decide) rfl (fun ls hl => ?_)
            obtain rfl : n67 = nI (i + 1) := en67.trans (nI_1 _)
            refine lv_goto (tgt := 18) hx hb d_Mo_pass_70 (by decide) ?_
            exact ih (i + 1, evt u i g, es ++ [(i, g)], Mn) ⟨(by first | omega | (dsimp only; omega)), (by first | omega | (dsimp only; omega)), ⟨gInv_evt h2 he ht, run_snoc es v u i g h3 he, (evt_k (by decide)).trans k0, (evt_k (by decide)).trans k1⟩, hds.1, hds.2, hp, (show g ≤ evt u i g 12 0 from by rw [evt_k (by decide)]; exact hug)⟩ (by first | omega | (dsimp only; omega)) _ _ _ hw (lv_sub hl [0, 1, 2, 3] rfl)
