set_option maxHeartbeats 4000000 in
set_option maxRecDepth 100000 in
theorem c_GT_nextPlace (l : Launch) (D : va_G) (cs : Nat → ClassId) (M : xM) (sz : Nat) (x v P : gV) (o w : List Nat) (L : Nat → List Nat) (t : Nat) (hR : cR cs M x v P o w) (hI : gInv v) (hL : Lk v P L) (ht : t ≤ 1000000000) : Met l y_GT_nextPlace w_GT_nextPlace ({ frames := 1, cells := 0, slots := 0, locals := 21 }) (xPc D classes (xtys cs) M sz [.ref (x 0 0), .long (lN t)]) (xQ D classes M sz (fun rv M1 => ∃ r : Int32, rv = some (.int r) ∧ (∃ pl ea, r = eN pl ∧ pl ≤ v 12 0 + 1 ∧ nb v L t 0 pl ea) ∧ M1 = M)) 0 0 (xA M sz) := by
  refine x_met (maxL := 8) (ret := (some .int)) (by decide) (Nat.le_of_ble_eq_true rfl) ?_
  intro p e s m below meth c ls hsz hF hr hlk hnm hK hZ hw hl
  obtain ⟨hx, hb, hml, hown, hts⟩ := id hF
  have hA : ∀ q, s.heap.size ≤ q → xA M sz q := x_hA hsz
  have hl : lv_has ls 8 [(0, .ref (x 0 0)), (1, .long (lN t))] := hl
  have f0 : M (x 0 0) = some (cHead x v) := hR.1 0 0 (vd0 (by decide))
  have f2 : M (x 0 2) = some (aQ (cs 4) (v 12 0 + 1) (fun p => if p ≤ v 12 0 then some (x 2 p) else none)) := hR.1 0 2 (vd0 (by decide))
  have hG := hI.1.2
  refine lv_iconst (v := (-1)) hx hb d_GT_nextPlace_0 (by decide) ?_
  refine lv_istore_n (lv' := [(3, .int (-1)), (0, .ref (x 0 0)), (1, .long (lN t))]) hx hb d_GT_nextPlace_1 rfl hl (by decide) rfl (fun ls hl => ?_)
  refine lv_lload_n hx hb d_GT_nextPlace_2 rfl (lv_at hl 2 rfl) ?_
  refine lv_lconst (v := 1) hx hb d_GT_nextPlace_3 (by decide) ?_
  refine lv_ladd hx hb d_GT_nextPlace_4 ?_
  refine lv_topl (fun n4 en4 => ?_)
  obtain rfl : n4 = lN (t + 1) := en4.trans (lN_add t 1)
  refine lv_lstore (lv' := [(4, .long (lN (t + 1))), (3, .int (-1)), (0, .ref (x 0 0)), (1, .long (lN t))]) hx hb d_GT_nextPlace_5 hl (by decide) rfl (fun ls hl => ?_)
  refine lv_aload_n hx hb d_GT_nextPlace_7 rfl (lv_at hl 2 rfl) ?_
  refine x_get (C := "GateTimes") (T := F_GT) (N := 8) hx hb hts i_GT hown hK hw f0 rfl 1 (by decide) (hts _ wd_81) (fun _ h9 => h9) rfl d_GT_nextPlace_8 ?_
  refine x_alen (v := nI (v 12 0 + 1)) hx hb hK hw f2 4 rfl rfl d_GT_nextPlace_11 ?_
  refine lv_iconst (v := 1) hx hb d_GT_nextPlace_12 (by decide) ?_
  refine lv_isub hx hb d_GT_nextPlace_13 ?_
  refine lv_topi (fun n13 en13 => ?_)
  obtain rfl : n13 = nI (v 12 0) := en13.trans (nI_pred _)
  refine lv_istore (lv' := [(6, .int (nI (v 12 0))), (4, .long (lN (t + 1))), (3, .int (-1)), (0, .ref (x 0 0)), (1, .long (lN t))]) hx hb d_GT_nextPlace_14 hl (by decide) rfl (fun ls hl => ?_)
  have hl : lv_has ls 8 [(6, .int (eN (v 12 0 + 1))), (4, .long (lN (t + 1))), (3, .int (eN 0)), (0, .ref (x 0 0)), (1, .long (lN t))] := by
    rw [eN_s, eN_0]
    exact hl
  have hI0 := hI
  refine x_loop (A := xA M sz) (D := D) (cl := classes) (H0 := s.heap) (nL := 8) (σ := Nat × Nat × Nat) (fun ⟨k, pl, ea⟩ => k) (fun ⟨k, pl, ea⟩ => k ≤ v 12 0 + 1 ∧ pl ≤ v 12 0 + 1 ∧ ea ≤ 1000000001 ∧ nb v L t k pl ea) (fun ⟨k, pl, ea⟩ => M) (fun ⟨k, pl, ea⟩ => [(6, .int (eN k)), (4, .long (lN ea)), (3, .int (eN pl)), (0, .ref (x 0 0)), (1, .long (lN t))]) (fun z hI ih H locs ls hw hl => ?_) (v 12 0 + 1, 0, t + 1) ⟨Nat.le_refl _, Nat.zero_le _, by omega, nb_top v L t⟩ _ _ _ hw hl
  obtain ⟨k, pl, ea⟩ := z
  try dsimp only at hI hw hl ih
  obtain ⟨h1, h2, h3, h4⟩ := hI
  refine lv_iload hx hb d_GT_nextPlace_16 (lv_at hl 0 rfl) ?_
  refine lv_if_lt (tgt := 69) hx hb d_GT_nextPlace_18 (by decide) (fun c18 => ?_) (fun c18 => ?_)
  ·
    have k0 : k = 0 := (eN_neg (by omega)).mp c18
    subst k0
    refine lv_iload_n hx hb d_GT_nextPlace_69 rfl (lv_at hl 2 rfl) ?_
    exact x_iret hx hb hr hlk rfl hw (⟨eN pl, rfl, ⟨pl, ea, rfl, h2, h4⟩, rfl⟩) d_GT_nextPlace_70
  ·
    obtain ⟨p0, rfl⟩ : ∃ p0, k = p0 + 1 := ⟨k - 1, by have : k ≠ 0 := fun z => c18 ((eN_neg (by omega)).mpr z); omega⟩
    rw [eN_s] at hl
    have f3 : M (x 2 p0) = some (cLine x P p0) := hR.1 2 p0 (vd2 (by omega))
    refine lv_aload_n hx hb d_GT_nextPlace_21 rfl (lv_at hl 3 rfl) ?_
    refine x_get (C := "GateTimes") (T := F_GT) (N := 8) hx hb hts i_GT hown hK hw f0 rfl 1 (by decide) (hts _ wd_81) (fun _ h9 => h9) rfl d_GT_nextPlace_22 ?_
    refine lv_iload hx hb d_GT_nextPlace_25 (lv_at hl 0 rfl) ?_
    refine x_aldqN hx hb hK hw f2 4 rfl (show p0 < v 12 0 + 1 by omega) (by omega) d_GT_nextPlace_27 ?_
    rw [if_pos (show p0 ≤ v 12 0 by omega)]
    refine x_get (C := "GateTimes$Line") (T := F_Line) (N := 2) hx hb hts i_Line hown hK hw f3 rfl 0 (by decide) (hts _ wd_73) (fun _ h9 => h9) rfl d_GT_nextPlace_28 ?_
    rcases Lk_first hL (show p0 ≤ v 12 0 by omega) with ⟨e1, e2⟩ | ⟨i0, r0, e2, e1, e3⟩
    ·
      rw [e1, rI_0]
      refine lv_astoreN (lv' := [(7, .null), (6, .int (nI p0)), (4, .long (lN ea)), (3, .int (eN pl)), (0, .ref (x 0 0)), (1, .long (lN t))]) hx hb d_GT_nextPlace_31 hl (by decide) rfl (fun ls hl => ?_)
      refine lv_aloadN hx hb d_GT_nextPlace_33 (lv_at hl 0 rfl) ?_
      refine lv_ifnullN (tgt := 63) hx hb d_GT_nextPlace_35 (by decide) ?_
      obtain ⟨n63, en63⟩ : ∃ y : Int32, y = (nI p0) + (-1) := ⟨_, rfl⟩
      refine lv_iinc (v := n63) (lv' := [(6, .int n63), (7, .null), (4, .long (lN ea)), (3, .int (eN pl)), (0, .ref (x 0 0)), (1, .long (lN t))]) hx hb d_GT_nextPlace_63 hl (k := 1) rfl (by rw [en63]; rfl) (by decide) rfl (fun ls hl => ?_)
      obtain rfl : n63 = eN p0 := en63.trans (eN_add _)
      refine lv_goto (tgt := 16) hx hb d_GT_nextPlace_66 (by decide) ?_
      exact ih (p0, pl, ea) ⟨by first | omega | (dsimp only; omega), by first | omega | (dsimp only; omega), by first | omega | (dsimp only; omega), nb_none h4 e2⟩ (by first | omega | (dsimp only; omega)) _ _ _ hw (lv_sub hl [0, 2, 3, 4, 5] rfl)
    ·
      rw [e1, rI_s x e3]
      refine lv_astore (lv' := [(7, .ref (x 3 i0)), (6, .int (nI p0)), (4, .long (lN ea)), (3, .int (eN pl)), (0, .ref (x 0 0)), (1, .long (lN t))]) hx hb d_GT_nextPlace_31 hl (by decide) rfl (fun ls hl => ?_)
      refine lv_aload hx hb d_GT_nextPlace_33 (lv_at hl 0 rfl) ?_
      have hh := Lk_head hL (show p0 ≤ v 12 0 by omega) e2
      have hat := (hI0.2.2.2.2.1 i0 hh.1 hh.2.1).1
      have f4 : M (x 3 i0) = some (cItem x v P i0) := hR.1 3 _ (vd3 hh.1 hh.2.1)
      have hfr : v 0 i0 + 1000 * p0 + 1000 = fr v i0 p0 := rfl
      have hfb : fr v i0 p0 < 1000020000 := by unfold fr; omega
      refine lv_ifnull hx hb d_GT_nextPlace_35 ?_
      refine lv_aload hx hb d_GT_nextPlace_38 (lv_at hl 0 rfl) ?_
      refine lv_iload hx hb d_GT_nextPlace_40 (lv_at hl 1 rfl) ?_
      refine x_calllM (va_runV (As := [.int (nI p0)]) (rest := []) hF (c_Item_frontAt l D cs M _ (x 3 i0) (v 0 i0) p0 _ _ f4 (by omega)) (x_cwV 1 hts wd_194 wd_195 wd_196 wd_7 wd_197 rfl rfl (by decide +kernel) ⟨Nat.le_of_ble_eq_true rfl, Nat.le_of_ble_eq_true rfl⟩) (x_preV hK hZ hw f4 rfl) rfl rfl hl.1 rfl (lv_room (Nat.le_of_ble_eq_true rfl)) d_GT_nextPlace_42 ⟨Nat.le_of_ble_eq_true rfl, Nat.le_of_ble_eq_true rfl⟩) hw hA (fun r H locs hp hw => ?_)
      rw [hfr] at hp
      subst hp
      refine lv_lload hx hb d_GT_nextPlace_45 (lv_at hl 2 rfl) ?_
      refine W.lcmp hx hb d_GT_nextPlace_47 ?_
      refine lv_if_ge (tgt := 63) hx hb d_GT_nextPlace_48 (by decide) (fun c48 => ?_) (fun c48 => ?_)
      ·
        replace c48 := (lg_cmp_ge _ _).mp c48
        obtain ⟨n63, en63⟩ : ∃ y : Int32, y = (nI p0) + (-1) := ⟨_, rfl⟩
        refine lv_iinc (v := n63) (lv' := [(6, .int n63), (7, .ref (x 3 i0)), (4, .long (lN ea)), (3, .int (eN pl)), (0, .ref (x 0 0)), (1, .long (lN t))]) hx hb d_GT_nextPlace_63 hl (k := 1) rfl (by rw [en63]; rfl) (by decide) rfl (fun ls hl => ?_)
        obtain rfl : n63 = eN p0 := en63.trans (eN_add _)
        refine lv_goto (tgt := 16) hx hb d_GT_nextPlace_66 (by decide) ?_
        exact ih (p0, pl, ea) ⟨by first | omega | (dsimp only; omega), by first | omega | (dsimp only; omega), by first | omega | (dsimp only; omega), nb_keep h4 e2 (Nat.not_lt.mpr ((lN_le (a := ea) (b := fr v i0 p0) (by omega) (by omega)).mp c48))⟩ (by first | omega | (dsimp only; omega)) _ _ _ hw (lv_sub hl [0, 2, 3, 4, 5] rfl)
      ·
        replace c48 := fun z => c48 ((lg_cmp_ge _ _).mpr z)
        have c49 : fr v i0 p0 < ea := Nat.lt_of_not_le (fun z => c48 ((lN_le (by omega) (by omega)).mpr z))
        refine lv_iload hx hb d_GT_nextPlace_51 (lv_at hl 1 rfl) ?_
        refine lv_istore_n (lv' := [(3, .int (nI p0)), (7, .ref (x 3 i0)), (6, .int (nI p0)), (4, .long (lN ea)), (0, .ref (x 0 0)), (1, .long (lN t))]) hx hb d_GT_nextPlace_53 rfl hl (by decide) rfl (fun ls hl => ?_)
        refine lv_aload hx hb d_GT_nextPlace_54 (lv_at hl 1 rfl) ?_
        refine lv_iload hx hb d_GT_nextPlace_56 (lv_at hl 2 rfl) ?_
        refine x_calllM (va_runV (As := [.int (nI p0)]) (rest := []) hF (c_Item_frontAt l D cs M _ (x 3 i0) (v 0 i0) p0 _ _ f4 (by omega)) (x_cwV 1 hts wd_194 wd_195 wd_196 wd_7 wd_197 rfl rfl (by decide +kernel) ⟨Nat.le_of_ble_eq_true rfl, Nat.le_of_ble_eq_true rfl⟩) (x_preV hK hZ hw f4 rfl) rfl rfl hl.1 rfl (lv_room (Nat.le_of_ble_eq_true rfl)) d_GT_nextPlace_58 ⟨Nat.le_of_ble_eq_true rfl, Nat.le_of_ble_eq_true rfl⟩) hw hA (fun r H locs hp hw => ?_)
        rw [hfr] at hp
        subst hp
        refine lv_lstore (lv' := [(4, .long (lN (fr v i0 p0))), (3, .int (nI p0)), (7, .ref (x 3 i0)), (6, .int (nI p0)), (0, .ref (x 0 0)), (1, .long (lN t))]) hx hb d_GT_nextPlace_61 hl (by decide) rfl (fun ls hl => ?_)
        rw [← eN_s p0] at hl
        have hl : lv_has ls 8 [(4, .long (lN (fr v i0 p0))), (3, .int (eN (p0 + 1))), (7, .ref (x 3 i0)), (6, .int (eN (p0 + 1))), (0, .ref (x 0 0)), (1, .long (lN t))] := hl
        have hl : lv_has ls 8 [(4, .long (lN (fr v i0 p0))), (3, .int (eN (p0 + 1))), (7, .ref (x 3 i0)), (6, .int (nI p0)), (0, .ref (x 0 0)), (1, .long (lN t))] := by
          rw [← eN_s p0]
          exact hl
        obtain ⟨n63, en63⟩ : ∃ y : Int32, y = (nI p0) + (-1) := ⟨_, rfl⟩
        refine lv_iinc (v := n63) (lv' := [(6, .int n63), (4, .long (lN (fr v i0 p0))), (3, .int (eN (p0 + 1))), (7, .ref (x 3 i0)), (0, .ref (x 0 0)), (1, .long (lN t))]) hx hb d_GT_nextPlace_63 hl (k := 3) rfl (by rw [en63]; rfl) (by decide) rfl (fun ls hl => ?_)
        obtain rfl : n63 = eN p0 := en63.trans (eN_add _)
        refine lv_goto (tgt := 16) hx hb d_GT_nextPlace_66 (by decide) ?_
        exact ih (p0, (p0 + 1), (fr v i0 p0)) ⟨by first | omega | (dsimp only; omega), by first | omega | (dsimp only; omega), by first | omega | (dsimp only; omega), nb_take h4 (by omega) e2 c49⟩ (by first | omega | (dsimp only; omega)) _ _ _ hw (lv_sub hl [0, 1, 2, 4, 5] rfl)
