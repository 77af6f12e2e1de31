set_option maxHeartbeats 4000000 in
set_option maxRecDepth 100000 in
theorem c_GT_moveAt (l : Launch) (D : va_G) (cs : Nat → ClassId) (M : xM) (sz : Nat) (x v P : gV) (o : List Nat) (L : Nat → List Nat) (t g0 i0 : Nat) (r0 : List Nat) (hR : cR cs M x v P o (o.filter (wr v))) (hI : gInv v) (hL : Lk v P L) (hc : cameOK v o) (he : en v t i0 g0) (eL : L g0 = i0 :: r0) : Met l y_GT_moveAt w_GT_moveAt ({ frames := 3, cells := 0, slots := 0, locals := 63 }) (xPc D classes (xtys cs) M sz [.ref (x 0 0), .int (nI g0)]) (xQ D classes M sz (fun rv M1 => rv = none ∧ ∃ (P1 : gV) (L1 : Nat → List Nat) (o1 : List Nat), cR cs M1 x (evt v i0 g0) P1 o1 (o1.filter (wr (evt v i0 g0))) ∧ Lk (evt v i0 g0) P1 L1 ∧ ((opv v i0 g0 = 1 ∧ o1 = o ++ [i0]) ∨ (opv v i0 g0 ≠ 1 ∧ o1 = o)))) 0 0 (xA M sz) := by
  refine x_met (maxL := 4) (ret := (none)) (by decide) (Nat.le_of_ble_eq_true rfl) ?_
  intro p e s m below meth c ls hsz hF hr hlk hnm hK hZ hw hl
  obtain ⟨hx, hb, hml, hown, hts⟩ := id hF
  have hA : ∀ q, s.heap.size ≤ q → xA M sz q := x_hA hsz
  have hl : lv_has ls 4 [(0, .ref (x 0 0)), (1, .int (nI g0))] := hl
  obtain ⟨a1, a2, a3, a4, a5, a6, a7⟩ := id he
  have hG := hI.1.2
  have hn := hI.2.1
  have hit := hI.2.2.2.2.1 i0 a1 a2
  have hga := hI.2.2.2.2.2.2.1 g0 a5
  have hbn := bn_le v
  unfold gItem at hit
  unfold gGate at hga
  have hol := came_few1 hc a1 a2 a3
  have hwl : (o.filter (wr v)).length ≤ o.length := List.length_filter_le _ _
  have e0 : P 0 g0 = i0 := by
    have := (hL.1 g0 a5).2.2.1
    rw [eL] at this
    exact this
  have f0 : M (x 0 0) = some (cHead x v) := hR.1 0 0 (vd0 (by decide))
  have f2 : M (x 0 2) = some (aQ (cs 4) (v 12 0 + 1) (fun p => if p ≤ v 12 0 then some (x 2 p) else none)) := hR.1 0 2 (vd0 (by decide))
  have fl : M (x 2 g0) = some (cLine x P g0) := hR.1 2 g0 (vd2 a5)
  refine lv_iload_n hx hb d_GT_moveAt_0 rfl (lv_at hl 1 rfl) ?_
  refine lv_if_lt (tgt := 13) hx hb d_GT_moveAt_1 (by decide) (fun c1 => False.elim (nI_pos (by omega) c1)) (fun c1 => ?_)
  refine lv_iload_n hx hb d_GT_moveAt_4 rfl (lv_at hl 1 rfl) ?_
  refine lv_aload_n hx hb d_GT_moveAt_5 rfl (lv_at hl 0 rfl) ?_
  refine x_get (C := "GateTimes") (T := F_GT) (N := 8) hx hb hts i_GT hown hK hw f0 rfl 1 (by decide) (hts _ wd_81) (fun _ h9 => h9) rfl d_GT_moveAt_6 ?_
  refine x_alen (v := nI (v 12 0 + 1)) hx hb hK hw f2 4 rfl rfl d_GT_moveAt_9 ?_
  refine lv_icmp_lt (tgt := 14) hx hb d_GT_moveAt_10 (by decide) (fun c10 => ?_) (fun c10 => False.elim (c10 (nI_lt (by omega) (by omega))))
  refine lv_aload_n hx hb d_GT_moveAt_14 rfl (lv_at hl 0 rfl) ?_
  refine x_get (C := "GateTimes") (T := F_GT) (N := 8) hx hb hts i_GT hown hK hw f0 rfl 1 (by decide) (hts _ wd_81) (fun _ h9 => h9) rfl d_GT_moveAt_15 ?_
  refine lv_iload_n hx hb d_GT_moveAt_18 rfl (lv_at hl 1 rfl) ?_
  refine x_aldqN hx hb hK hw f2 4 rfl (show g0 < v 12 0 + 1 by omega) (by omega) d_GT_moveAt_19 ?_
  rw [if_pos a5]
  refine x_callq (va_runV (As := []) (rest := []) hF (c_Line_leave l D cs M _ x v P o (o.filter (wr v)) g0 hR a5 (Or.inr (by omega))) (x_cwV 0 hts wd_203 wd_204 wd_205 wd_5 wd_206 rfl rfl (by decide +kernel) ⟨Nat.le_of_ble_eq_true rfl, Nat.le_of_ble_eq_true rfl⟩) (x_preV hK hZ hw fl rfl) rfl rfl hl.1 rfl (lv_room (Nat.le_of_ble_eq_true rfl)) d_GT_moveAt_20 ⟨Nat.le_of_ble_eq_true rfl, Nat.le_of_ble_eq_true rfl⟩) hw hA (fun q M1 H locs hp hw => ?_)
  rw [e0] at hp
  obtain ⟨rfl, hR1⟩ : q = some (x 3 i0) ∧ cR cs M1 x v (lvP P g0 i0) o (o.filter (wr v)) := by
    rcases hp with ⟨z, -⟩ | ⟨-, z⟩
    · omega
    · exact z
  refine lv_astore_n (lv' := [(2, .ref (x 3 i0)), (0, .ref (x 0 0)), (1, .int (nI g0))]) hx hb d_GT_moveAt_23 rfl hl (by decide) rfl (fun ls hl => ?_)
  refine lv_aload_n hx hb d_GT_moveAt_24 rfl (lv_at hl 0 rfl) ?_
  have f0 : M1 (x 0 0) = some (cHead x v) := hR1.1 0 0 (vd0 (by decide))
  have f2 : M1 (x 0 2) = some (aQ (cs 4) (v 12 0 + 1) (fun p => if p ≤ v 12 0 then some (x 2 p) else none)) := hR1.1 0 2 (vd0 (by decide))
  have fi : M1 (x 3 i0) = some (cItem x v (lvP P g0 i0) i0) := hR1.1 3 _ (vd3 a1 a2)
  refine lv_ifnonnull (tgt := 29) hx hb d_GT_moveAt_25 (by decide) ?_
  refine lv_aload_n hx hb d_GT_moveAt_29 rfl (lv_at hl 1 rfl) ?_
  refine lv_iload_n hx hb d_GT_moveAt_30 rfl (lv_at hl 2 rfl) ?_
  refine x_callqM (va_runV (As := [.int (nI g0)]) (rest := []) hF (c_GT_gateOf l D cs M1 _ x v (lvP P g0 i0) o (o.filter (wr v)) hR1 hG (nI g0)) (x_cwV 1 hts wd_182 wd_184 wp_3 wd_1 wd_185 rfl rfl (by decide +kernel) ⟨Nat.le_of_ble_eq_true rfl, Nat.le_of_ble_eq_true rfl⟩) (x_preV hK hZ hw f0 rfl) rfl rfl hl.1 rfl (lv_room (Nat.le_of_ble_eq_true rfl)) d_GT_moveAt_31 ⟨Nat.le_of_ble_eq_true rfl, Nat.le_of_ble_eq_true rfl⟩) hw hA (fun q2 H locs hp hw => ?_)
  have hq : (g0 < v 12 0 ∧ q2 = some (x 1 g0)) ∨ (g0 = v 12 0 ∧ q2 = none) := by
    rcases hp with ⟨g, z1, z2, z3⟩ | ⟨z1, z2⟩
    · have : g0 = g := nI_inj2 (by omega) (by omega) z1
      subst this
      exact Or.inl ⟨z2, z3⟩
    · exact Or.inr ⟨by have : ¬ g0 < v 12 0 := fun z => z1 ⟨g0, rfl, z⟩; omega, z2⟩
  rcases hq with ⟨hlt, rfl⟩ | ⟨heq, rfl⟩
  ·
    refine lv_astore_n (lv' := [(3, .ref (x 1 g0)), (2, .ref (x 3 i0)), (0, .ref (x 0 0)), (1, .int (nI g0))]) hx hb d_GT_moveAt_34 rfl hl (by decide) rfl (fun ls hl => ?_)
    refine lv_aload_n hx hb d_GT_moveAt_35 rfl (lv_at hl 0 rfl) ?_
    refine lv_ifnull hx hb d_GT_moveAt_36 ?_
    have fg : M1 (x 1 g0) = some (cGate v g0) := hR1.1 1 _ (vd1 hlt)
    refine lv_aload_n hx hb d_GT_moveAt_39 rfl (lv_at hl 0 rfl) ?_
    refine lv_aload_n hx hb d_GT_moveAt_40 rfl (lv_at hl 1 rfl) ?_
    refine lv_iload_n hx hb d_GT_moveAt_41 rfl (lv_at hl 3 rfl) ?_
    refine x_calli (va_runV (As := [.ref (x 3 i0), .int (nI g0)]) (rest := []) hF (c_Gate_takes l D cs M1 _ x v (lvP P g0 i0) g0 i0 (x 1 g0) (x 3 i0) fg fi hlt hG (by omega) (by omega) (by omega) (by omega) (by omega) (by omega) (by omega) (by omega)) (x_cwV 2 hts wd_207 wd_208 wd_209 wd_4 wd_210 rfl rfl (by decide +kernel) ⟨Nat.le_of_ble_eq_true rfl, Nat.le_of_ble_eq_true rfl⟩) (x_preV hK hZ hw fg rfl) rfl rfl hl.1 rfl (lv_room (Nat.le_of_ble_eq_true rfl)) d_GT_moveAt_42 ⟨Nat.le_of_ble_eq_true rfl, Nat.le_of_ble_eq_true rfl⟩) hw hA (fun r M2 H locs hp hw => ?_)
    obtain ⟨rfl, eM2⟩ := hp
    have hop1 : opv v i0 g0 ≤ 1 := opv_le hga.1
    have hR2 : cR cs M2 x (tkV v i0 g0) (lvP P g0 i0) o (o.filter (wr v)) := cR_gate hR1 hlt (fun a b n4 h9 => tk_oth h9) (by rw [eM2, tk_gate])
    have f0 : M2 (x 0 0) = some (cHead x (tkV v i0 g0)) := hR2.1 0 0 (vd0 (by decide))
    have k0 : tkV v i0 g0 12 0 = v 12 0 := tk_oth (by omega)
    have k1 : tkV v i0 g0 12 1 = v 12 1 := tk_oth (by omega)
    have k2 : tkV v i0 g0 2 i0 = v 2 i0 := tk_oth (by omega)
    refine lv_if_eq (tgt := 57) hx hb d_GT_moveAt_45 (by decide) (fun c45 => ?_) (fun c45 => ?_)
    ·
      have hop : opv v i0 g0 ≠ 1 := by
        have : opv v i0 g0 = 0 := nI_inj2 (by omega) (by decide) c45
        omega
      have f2 : M2 (x 0 2) = some (aQ (cs 4) (v 12 0 + 1) (fun p => if p ≤ v 12 0 then some (x 2 p) else none)) := by
        have := hR2.1 0 2 (vd0 (by decide))
        simp only [cel, k0] at this
        exact this
      refine lv_iload_n hx hb d_GT_moveAt_57 rfl (lv_at hl 3 rfl) ?_
      refine lv_iconst (v := 1) hx hb d_GT_moveAt_58 (by decide) ?_
      refine lv_iadd hx hb d_GT_moveAt_59 ?_
      refine lv_topi (fun n59 en59 => ?_)
      obtain rfl : n59 = nI (g0 + 1) := en59.trans (nI_1 _)
      refine lv_aload_n hx hb d_GT_moveAt_60 rfl (lv_at hl 2 rfl) ?_
      refine x_get (C := "GateTimes") (T := F_GT) (N := 8) hx hb hts i_GT hown hK hw f0 rfl 1 (by decide) (hts _ wd_81) (fun _ h9 => h9) rfl d_GT_moveAt_61 ?_
      refine x_alen (v := nI (v 12 0 + 1)) hx hb hK hw f2 4 rfl rfl d_GT_moveAt_64 ?_
      refine lv_icmp_ge (tgt := 80) hx hb d_GT_moveAt_65 (by decide) (fun c65 => False.elim (absurd ((nI_leI (by omega) (by omega)).mp c65) (by omega))) (fun c65 => ?_)
      refine lv_aload_n hx hb d_GT_moveAt_68 rfl (lv_at hl 2 rfl) ?_
      refine x_get (C := "GateTimes") (T := F_GT) (N := 8) hx hb hts i_GT hown hK hw f0 rfl 1 (by decide) (hts _ wd_81) (fun _ h9 => h9) rfl d_GT_moveAt_69 ?_
      refine lv_iload_n hx hb d_GT_moveAt_72 rfl (lv_at hl 3 rfl) ?_
      refine lv_iconst (v := 1) hx hb d_GT_moveAt_73 (by decide) ?_
      refine lv_iadd hx hb d_GT_moveAt_74 ?_
      refine lv_topi (fun n74 en74 => ?_)
      obtain rfl : n74 = nI (g0 + 1) := en74.trans (nI_1 _)
      refine x_aldqN hx hb hK hw f2 4 rfl (show g0 + 1 < v 12 0 + 1 by omega) (by omega) d_GT_moveAt_75 ?_
      rw [if_pos (show g0 + 1 ≤ v 12 0 by omega)]
      have fl : M2 (x 2 (g0 + 1)) = some (cLine x (lvP P g0 i0) (g0 + 1)) := hR2.1 2 _ (vd2 (by omega))
      refine lv_aload_n hx hb d_GT_moveAt_76 rfl (lv_at hl 1 rfl) ?_
      have hj : lvP P g0 i0 1 (g0 + 1) = 0 ∨ lvP P g0 i0 1 (g0 + 1) ≤ tkV v i0 g0 12 1 := by
        rw [k1, lvP_1, if_neg (by omega), (hL.1 (g0 + 1) (by omega)).2.2.2.1]
        by_cases ez : L (g0 + 1) = []
        · rw [ez]
          exact Or.inl rfl
        · exact Or.inr (((hL.1 (g0 + 1) (by omega)).1 _).mp (lastD_mem _ ez)).2.1
      refine x_callv (va_runV (As := [.ref (x 3 i0)]) (rest := []) hF (c_Line_join l D cs M2 _ x (tkV v i0 g0) (lvP P g0 i0) o (o.filter (wr v)) (g0 + 1) i0 hR2 (by omega) a1 hj) (x_cwV 1 hts wd_170 wd_171 wd_172 wd_5 wd_173 rfl rfl (by decide +kernel) ⟨Nat.le_of_ble_eq_true rfl, Nat.le_of_ble_eq_true rfl⟩) (x_preV hK hZ hw fl rfl) rfl rfl hl.1 rfl (lv_room (Nat.le_of_ble_eq_true rfl)) d_GT_moveAt_77 ⟨Nat.le_of_ble_eq_true rfl, Nat.le_of_ble_eq_true rfl⟩) hw hA (fun M3 H locs hp hw => ?_)
      exact x_vret hx hb hr hlk hw (⟨rfl, _, _, o, by rw [wr_filter (fun a ha => came_ne hc ha a3)]; exact cR_as hp (fun a b n4 _ => tk_on hop a b n4), Lk_on hI.2.2.2.2.2.1 hL he eL hop, Or.inr ⟨hop, rfl⟩⟩) d_GT_moveAt_80
    ·
      have hop : opv v i0 g0 = 1 := by
        have : opv v i0 g0 ≠ 0 := fun z => c45 (by rw [z]; exact nI_0)
        omega
      refine lv_aload_n hx hb d_GT_moveAt_48 rfl (lv_at hl 2 rfl) ?_
      refine lv_iload_n hx hb d_GT_moveAt_49 rfl (lv_at hl 3 rfl) ?_
      refine lv_aload_n hx hb d_GT_moveAt_50 rfl (lv_at hl 1 rfl) ?_
      refine x_callv (va_runV (As := [.int (nI g0), .ref (x 3 i0)]) (rest := []) hF (c_GT_putInto l D cs M2 _ x (tkV v i0 g0) (lvP P g0 i0) o (o.filter (wr v)) g0 i0 hR2 (by omega) (by omega) a1 (by omega) (by omega) (by omega) (by omega)) (x_cwV 2 hts wd_213 wd_215 wp_7 wd_1 wd_216 rfl rfl (by decide +kernel) ⟨Nat.le_of_ble_eq_true rfl, Nat.le_of_ble_eq_true rfl⟩) (x_preV hK hZ hw f0 rfl) rfl rfl hl.1 rfl (lv_room (Nat.le_of_ble_eq_true rfl)) d_GT_moveAt_51 ⟨Nat.le_of_ble_eq_true rfl, Nat.le_of_ble_eq_true rfl⟩) hw hA (fun M3 H locs hp hw => ?_)
      refine lv_goto (tgt := 80) hx hb d_GT_moveAt_54 (by decide) ?_
      exact x_vret hx hb hr hlk hw (⟨rfl, _, _, o ++ [i0], by rw [wr_snoc hc he hop]; rw [k2] at hp; exact cR_as hp (fun a b n4 _ => tk_put hop a b n4), Lk_in hL he eL hop, Or.inl ⟨hop, rfl⟩⟩) d_GT_moveAt_80
  ·
    refine lv_astore_nN (lv' := [(3, .null), (2, .ref (x 3 i0)), (0, .ref (x 0 0)), (1, .int (nI g0))]) hx hb d_GT_moveAt_34 rfl hl (by decide) rfl (fun ls hl => ?_)
    refine lv_aload_nN hx hb d_GT_moveAt_35 rfl (lv_at hl 0 rfl) ?_
    refine lv_ifnullN (tgt := 48) hx hb d_GT_moveAt_36 (by decide) ?_
    have hop : opv v i0 g0 = 1 := by rw [heq]; exact opv_last v i0
    refine lv_aload_n hx hb d_GT_moveAt_48 rfl (lv_at hl 2 rfl) ?_
    refine lv_iload_n hx hb d_GT_moveAt_49 rfl (lv_at hl 3 rfl) ?_
    refine lv_aload_n hx hb d_GT_moveAt_50 rfl (lv_at hl 1 rfl) ?_
    refine x_callv (va_runV (As := [.int (nI g0), .ref (x 3 i0)]) (rest := []) hF (c_GT_putInto l D cs M1 _ x v (lvP P g0 i0) o (o.filter (wr v)) g0 i0 hR1 (by omega) (by omega) a1 (by omega) (by omega) (by omega) (by omega)) (x_cwV 2 hts wd_213 wd_215 wp_7 wd_1 wd_216 rfl rfl (by decide +kernel) ⟨Nat.le_of_ble_eq_true rfl, Nat.le_of_ble_eq_true rfl⟩) (x_preV hK hZ hw f0 rfl) rfl rfl hl.1 rfl (lv_room (Nat.le_of_ble_eq_true rfl)) d_GT_moveAt_51 ⟨Nat.le_of_ble_eq_true rfl, Nat.le_of_ble_eq_true rfl⟩) hw hA (fun M3 H locs hp hw => ?_)
    refine lv_goto (tgt := 80) hx hb d_GT_moveAt_54 (by decide) ?_
    exact x_vret hx hb hr hlk hw (⟨rfl, _, _, o ++ [i0], by rw [wr_snoc hc he hop]; exact cR_as hp (fun a b n4 h9 => tk_last heq a b n4 h9), Lk_in hL he eL hop, Or.inl ⟨hop, rfl⟩⟩) d_GT_moveAt_80
