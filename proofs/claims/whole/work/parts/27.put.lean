set_option maxHeartbeats 4000000 in
set_option maxRecDepth 100000 in
theorem c_GT_putInto (l : Launch) (D : va_G) (cs : Nat → ClassId) (M : xM) (sz : Nat) (x v P : gV) (o w : List Nat) (g0 i0 : Nat) (hR : cR cs M x v P o w) (hG : v 12 0 ≤ 12) (hg : g0 ≤ v 12 0) (hi1 : 1 ≤ i0) (hi2 : i0 ≤ v 12 1) (h2 : v 2 i0 ≤ 12) (ho : o.length < 400) (hw4 : w.length < 400) : Met l y_GT_putInto w_GT_putInto ({ frames := 2, cells := 0, slots := 0, locals := 41 }) (xPc D classes (xtys cs) M sz [.ref (x 0 0), .int (nI g0), .ref (x 3 i0)]) (xQ D classes M sz (fun rv M1 => rv = none ∧ cR cs M1 x (up2 (up2 v 3 i0 (g0 + 1)) 11 g0 (v 11 g0 + 1)) P (o ++ [i0]) (if v 2 i0 ≠ 0 ∧ v 2 i0 ≠ g0 + 1 then w ++ [i0] else w))) 0 0 (xA M sz) := by
  refine x_met (maxL := 3) (ret := (none)) (by decide) (Nat.le_of_ble_eq_true rfl) ?_
  intro p e s m below meth c ls hsz hF hr hlk hnm hK hZ hw hl
  obtain ⟨hx, hb, hml, hown, hts⟩ := id hF
  have hA : ∀ q, s.heap.size ≤ q → xA M sz q := x_hA hsz
  have hl : lv_has ls 3 [(0, .ref (x 0 0)), (1, .int (nI g0)), (2, .ref (x 3 i0))] := hl
  have f0 : M (x 0 0) = some (cHead x v) := hR.1 0 0 (vd0 (by decide))
  have f3 : M (x 0 3) = some (aI (cs 0) (v 12 0 + 1) (fun p => nI (v 11 p))) := hR.1 0 3 (vd0 (by decide))
  have fi : M (x 3 i0) = some (cItem x v P i0) := hR.1 3 _ (vd3 hi1 hi2)
  refine lv_iload_n hx hb d_GT_putInto_0 rfl (lv_at hl 1 rfl) ?_
  refine lv_if_lt (tgt := 13) hx hb d_GT_putInto_1 (by decide) (fun c1 => False.elim (nI_pos (by omega) c1)) (fun c1 => ?_)
  refine lv_iload_n hx hb d_GT_putInto_4 rfl (lv_at hl 1 rfl) ?_
  refine lv_aload_n hx hb d_GT_putInto_5 rfl (lv_at hl 0 rfl) ?_
  refine x_get (C := "GateTimes") (T := F_GT) (N := 8) hx hb hts i_GT hown hK hw f0 rfl 2 (by decide) (hts _ wd_82) (fun _ h9 => h9) rfl d_GT_putInto_6 ?_
  refine x_alen (v := nI (v 12 0 + 1)) hx hb hK hw f3 0 rfl rfl d_GT_putInto_9 ?_
  refine lv_icmp_lt (tgt := 14) hx hb d_GT_putInto_10 (by decide) (fun c10 => ?_) (fun c10 => False.elim (c10 (nI_lt (by omega) (by omega))))
  refine lv_aload_n hx hb d_GT_putInto_14 rfl (lv_at hl 2 rfl) ?_
  refine lv_iload_n hx hb d_GT_putInto_15 rfl (lv_at hl 1 rfl) ?_
  refine x_put (C := "GateTimes$Item") (T := F_Item) (N := 7) (ty := .int) hx hb hts i_Item t_Item t_Item_ok n_Item hown hK hw fi rfl 4 (by decide) (hts _ wd_145) (fun _ h9 => h9) rfl (by decide +kernel) rfl rfl (Nat.le_of_ble_eq_true rfl) d_GT_putInto_16 (fun M1 H locs eM1 hw => ?_)
  have hR1 : cR cs M1 x (up2 v 3 i0 (g0 + 1)) P o w := cR_item hR hi1 hi2 (fun a b n4 h9 => by unfold up2; rw [if_neg (fun z => h9 ⟨Or.inr (Or.inl z.1), z.2⟩)]) (by rw [eM1]; unfold cItem; rw [up2_self, eN_s]; rfl)
  have f0 : M1 (x 0 0) = some (cHead x (up2 v 3 i0 (g0 + 1))) := hR1.1 0 0 (vd0 (by decide))
  have f3 : M1 (x 0 3) = some (aI (cs 0) (v 12 0 + 1) (fun p => nI (v 11 p))) := hR1.1 0 3 (vd0 (by decide))
  refine lv_aload_n hx hb d_GT_putInto_19 rfl (lv_at hl 0 rfl) ?_
  refine x_get (C := "GateTimes") (T := F_GT) (N := 8) hx hb hts i_GT hown hK hw f0 rfl 2 (by decide) (hts _ wd_82) (fun _ h9 => h9) rfl d_GT_putInto_20 ?_
  refine lv_iload_n hx hb d_GT_putInto_23 rfl (lv_at hl 1 rfl) ?_
  refine lv_dup2_11 hx hb d_GT_putInto_24 rfl rfl ?_
  refine x_ialdN hx hb hK hw f3 0 rfl (show g0 < v 12 0 + 1 by omega) (by omega) d_GT_putInto_25 ?_
  refine lv_iconst (v := 1) hx hb d_GT_putInto_26 (by decide) ?_
  refine lv_iadd hx hb d_GT_putInto_27 ?_
  refine lv_topi (fun n27 en27 => ?_)
  obtain rfl : n27 = nI (v 11 g0 + 1) := en27.trans (nI_1 _)
  refine x_iastN hx hb hK hw f3 0 rfl (show g0 < v 12 0 + 1 by omega) (by omega) d_GT_putInto_28 (fun M2 H locs eM2 hw => ?_)
  have hR2 : cR cs M2 x (up2 (up2 v 3 i0 (g0 + 1)) 11 g0 (v 11 g0 + 1)) P o w := cR_came hR1 (fun a b n4 n11 => up2_k _ _ _ _ n11) (by rw [eM2, ← upd_cnt]; rfl)
  have f0 : M2 (x 0 0) = some (cHead x (up2 (up2 v 3 i0 (g0 + 1)) 11 g0 (v 11 g0 + 1))) := hR2.1 0 0 (vd0 (by decide))
  have f6 : M2 (x 0 6) = some (cRow (x 0 7) o.length) := hR2.1 0 6 (vd0 (by decide))
  have f7 : M2 (x 0 7) = some (aQ (cs 5) 400 (fun k => if k < o.length then some (x 3 (oat o k)) else none)) := hR2.1 0 7 (vd0 (by decide))
  have fi : M2 (x 3 i0) = some (cItem x (up2 (up2 v 3 i0 (g0 + 1)) 11 g0 (v 11 g0 + 1)) P i0) := hR2.1 3 _ (vd3 hi1 hi2)
  refine lv_aload_n hx hb d_GT_putInto_29 rfl (lv_at hl 0 rfl) ?_
  refine x_get (C := "GateTimes") (T := F_GT) (N := 8) hx hb hts i_GT hown hK hw f0 rfl 4 (by decide) (hts _ wd_84) (fun _ h9 => h9) rfl d_GT_putInto_30 ?_
  refine lv_aload_n hx hb d_GT_putInto_33 rfl (lv_at hl 2 rfl) ?_
  refine x_callv (va_runV (As := [.ref (x 3 i0)]) (rest := []) hF (c_Row_add l D cs M2 _ (x 0 6) (x 0 7) o.length (x 3 i0) _ _ f6 f7 fi ho) (x_cwV 1 hts wd_165 wd_166 wd_167 wd_2 wd_168 rfl rfl (by decide +kernel) ⟨Nat.le_of_ble_eq_true rfl, Nat.le_of_ble_eq_true rfl⟩) (x_preV hK hZ hw f6 rfl) rfl rfl hl.1 rfl (lv_room (Nat.le_of_ble_eq_true rfl)) d_GT_putInto_34 ⟨Nat.le_of_ble_eq_true rfl, Nat.le_of_ble_eq_true rfl⟩) hw hA (fun M3 H locs hp hw => ?_)
  have hR3 : cR cs M3 x (up2 (up2 v 3 i0 (g0 + 1)) 11 g0 (v 11 g0 + 1)) P (o ++ [i0]) w := cR_came2 hR2 hp
  have f0 : M3 (x 0 0) = some (cHead x (up2 (up2 v 3 i0 (g0 + 1)) 11 g0 (v 11 g0 + 1))) := hR3.1 0 0 (vd0 (by decide))
  have fi : M3 (x 3 i0) = some (cItem x (up2 (up2 v 3 i0 (g0 + 1)) 11 g0 (v 11 g0 + 1)) P i0) := hR3.1 3 _ (vd3 hi1 hi2)
  have e2 : eN ((up2 (up2 v 3 i0 (g0 + 1)) 11 g0 (v 11 g0 + 1)) 2 i0) = eN (v 2 i0) := rfl
  refine lv_aload_n hx hb d_GT_putInto_37 rfl (lv_at hl 2 rfl) ?_
  refine x_get (C := "GateTimes$Item") (T := F_Item) (N := 7) hx hb hts i_Item hown hK hw fi rfl 3 (by decide) (hts _ wd_143) (fun _ h9 => h9) rfl d_GT_putInto_38 ?_
  refine lv_iconst (v := (-1)) hx hb d_GT_putInto_41 (by decide) ?_
  refine lv_icmp_eq (tgt := 61) hx hb d_GT_putInto_42 (by decide) (fun c42 => ?_) (fun c42 => ?_)
  ·
    exact x_vret hx hb hr hlk hw (⟨rfl, by rw [if_neg (fun z => z.1 ((eN_m1 (by omega)).mp c42))]; exact hR3⟩) d_GT_putInto_61
  ·
    have c42 : ¬ eN (v 2 i0) = -1 := c42
    refine lv_aload_n hx hb d_GT_putInto_45 rfl (lv_at hl 2 rfl) ?_
    refine x_get (C := "GateTimes$Item") (T := F_Item) (N := 7) hx hb hts i_Item hown hK hw fi rfl 3 (by decide) (hts _ wd_143) (fun _ h9 => h9) rfl d_GT_putInto_46 ?_
    refine lv_iload_n hx hb d_GT_putInto_49 rfl (lv_at hl 1 rfl) ?_
    refine lv_icmp_eq (tgt := 61) hx hb d_GT_putInto_50 (by decide) (fun c50 => ?_) (fun c50 => ?_)
    ·
      exact x_vret hx hb hr hlk hw (⟨rfl, by rw [if_neg (fun z => z.2 ((eN_is (by omega) (by omega)).mp c50))]; exact hR3⟩) d_GT_putInto_61
    ·
      have c50 : ¬ eN (v 2 i0) = nI g0 := c50
      have f8 : M3 (x 0 8) = some (cRow (x 0 9) w.length) := hR3.1 0 8 (vd0 (by decide))
      have f9 : M3 (x 0 9) = some (aQ (cs 5) 400 (fun k => if k < w.length then some (x 3 (oat w k)) else none)) := hR3.1 0 9 (vd0 (by decide))
      refine lv_aload_n hx hb d_GT_putInto_53 rfl (lv_at hl 0 rfl) ?_
      refine x_get (C := "GateTimes") (T := F_GT) (N := 8) hx hb hts i_GT hown hK hw f0 rfl 5 (by decide) (hts _ wd_85) (fun _ h9 => h9) rfl d_GT_putInto_54 ?_
      refine lv_aload_n hx hb d_GT_putInto_57 rfl (lv_at hl 2 rfl) ?_
      refine x_callv (va_runV (As := [.ref (x 3 i0)]) (rest := []) hF (c_Row_add l D cs M3 _ (x 0 8) (x 0 9) w.length (x 3 i0) _ _ f8 f9 fi hw4) (x_cwV 1 hts wd_165 wd_166 wd_167 wd_2 wd_168 rfl rfl (by decide +kernel) ⟨Nat.le_of_ble_eq_true rfl, Nat.le_of_ble_eq_true rfl⟩) (x_preV hK hZ hw f8 rfl) rfl rfl hl.1 rfl (lv_room (Nat.le_of_ble_eq_true rfl)) d_GT_putInto_58 ⟨Nat.le_of_ble_eq_true rfl, Nat.le_of_ble_eq_true rfl⟩) hw hA (fun M4 H locs hp hw => ?_)
      exact x_vret hx hb hr hlk hw (⟨rfl, by rw [if_pos ⟨fun z => c42 ((eN_m1 (by omega)).mpr z), fun z => c50 ((eN_is (by omega) (by omega)).mpr z)⟩]; exact cR_wrong hR3 hp⟩) d_GT_putInto_61
