set_option maxHeartbeats 4000000 in
set_option maxRecDepth 100000 in
theorem c_GT_isTimeAhead (l : Launch) (D : va_G) (cs : Nat → ClassId) (M : xM) (sz : Nat) (x v P : gV) (o w : List Nat) (hR : cR cs M x v P o w) (t : Int64) : Met l y_GT_isTimeAhead w_GT_isTimeAhead ({ frames := 0, cells := 0, slots := 0, locals := 0 }) (xPc D classes (xtys cs) M sz [.ref (x 0 0), .long t]) (xQ D classes M sz (fun rv M1 => ∃ r : Int32, rv = some (.int r) ∧ ((r = 1 ∧ okT v t) ∨ (r = 0 ∧ ¬ okT v t)) ∧ M1 = M)) 0 0 (xA M sz) := by
  refine x_met (maxL := 3) (ret := (some .boolean)) (by decide) (Nat.le_of_ble_eq_true rfl) ?_
  intro p e s m below meth c ls hsz hF hr hlk hnm hK hZ hw hl
  obtain ⟨hx, hb, hml, hown, hts⟩ := id hF
  have hA : ∀ q, s.heap.size ≤ q → xA M sz q := x_hA hsz
  have hl : lv_has ls 3 [(0, .ref (x 0 0)), (1, .long t)] := hl
  have f0 : M (x 0 0) = some (cHead x v) := hR.1 0 0 (vd0 (by decide))
  refine lv_lload_n hx hb d_GT_isTimeAhead_0 rfl (lv_at hl 1 rfl) ?_
  refine lv_aload_n hx hb d_GT_isTimeAhead_1 rfl (lv_at hl 0 rfl) ?_
  refine x_get (C := "GateTimes") (T := F_GT) (N := 8) hx hb hts i_GT hown hK hw f0 rfl 7 (by decide) (hts _ wd_87) (fun _ h9 => h9) rfl d_GT_isTimeAhead_2 ?_
  refine W.lcmp hx hb d_GT_isTimeAhead_5 ?_
  refine lv_if_lt (tgt := 21) hx hb d_GT_isTimeAhead_6 (by decide) (fun c6 => ?_) (fun c6 => ?_)
  ·
    replace c6 := (lg_cmp_lt _ _).mp c6
    refine lv_iconst (v := 0) hx hb d_GT_isTimeAhead_21 (by decide) ?_
    exact x_iret hx hb hr hlk rfl hw (⟨_, rfl, Or.inr ⟨rfl, fun z => Int64.not_lt.mpr z.1 c6⟩, rfl⟩) d_GT_isTimeAhead_22
  ·
    replace c6 := fun z => c6 ((lg_cmp_lt _ _).mpr z)
    refine lv_lload_n hx hb d_GT_isTimeAhead_9 rfl (lv_at hl 1 rfl) ?_
    refine lv_ldc2 (v := 1000000000) hx hb hown (hts _ wd_114) d_GT_isTimeAhead_10 ?_
    refine W.lcmp hx hb d_GT_isTimeAhead_13 ?_
    refine lv_if_gt (tgt := 21) hx hb d_GT_isTimeAhead_14 (by decide) (fun c14 => ?_) (fun c14 => ?_)
    ·
      replace c14 := (lg_cmp_gt _ _).mp c14
      refine lv_iconst (v := 0) hx hb d_GT_isTimeAhead_21 (by decide) ?_
      exact x_iret hx hb hr hlk rfl hw (⟨_, rfl, Or.inr ⟨rfl, fun z => Int64.not_lt.mpr z.2 c14⟩, rfl⟩) d_GT_isTimeAhead_22
    ·
      replace c14 := fun z => c14 ((lg_cmp_gt _ _).mpr z)
      refine lv_iconst (v := 1) hx hb d_GT_isTimeAhead_17 (by decide) ?_
      refine lv_goto (tgt := 22) hx hb d_GT_isTimeAhead_18 (by decide) ?_
      exact x_iret hx hb hr hlk rfl hw (⟨_, rfl, Or.inl ⟨rfl, Int64.not_lt.mp c6, Int64.not_lt.mp c14⟩, rfl⟩) d_GT_isTimeAhead_22
set_option maxHeartbeats 4000000 in
set_option maxRecDepth 100000 in
theorem c_GT_isBehindLastItem (l : Launch) (D : va_G) (cs : Nat → ClassId) (M : xM) (sz : Nat) (x v P : gV) (o w : List Nat) (hR : cR cs M x v P o w) (hn : v 12 1 ≤ 400) (t : Int64) : Met l y_GT_isBehindLastItem w_GT_isBehindLastItem ({ frames := 1, cells := 0, slots := 0, locals := 21 }) (xPc D classes (xtys cs) M sz [.ref (x 0 0), .long t]) (xQ D classes M sz (fun rv M1 => ∃ r : Int32, rv = some (.int r) ∧ ((r = 1 ∧ (v 12 1 = 0 ∨ lN (v 0 (v 12 1) + v 1 (v 12 1) + 50) ≤ t)) ∨ (r = 0 ∧ ¬ (v 12 1 = 0 ∨ lN (v 0 (v 12 1) + v 1 (v 12 1) + 50) ≤ t))) ∧ M1 = M)) 0 0 (xA M sz) := by
  refine x_met (maxL := 4) (ret := (some .boolean)) (by decide) (Nat.le_of_ble_eq_true rfl) ?_
  intro p e s m below meth c ls hsz hF hr hlk hnm hK hZ hw hl
  obtain ⟨hx, hb, hml, hown, hts⟩ := id hF
  have hA : ∀ q, s.heap.size ≤ q → xA M sz q := x_hA hsz
  have hl : lv_has ls 4 [(0, .ref (x 0 0)), (1, .long t)] := hl
  have f0 : M (x 0 0) = some (cHead x v) := hR.1 0 0 (vd0 (by decide))
  have f4 : M (x 0 4) = some (cRow (x 0 5) (v 12 1)) := hR.1 0 4 (vd0 (by decide))
  have f5 : M (x 0 5) = some (aQ (cs 5) 400 (fun k => if k < v 12 1 then some (x 3 (k + 1)) else none)) := hR.1 0 5 (vd0 (by decide))
  refine lv_aload_n hx hb d_GT_isBehindLastItem_0 rfl (lv_at hl 0 rfl) ?_
  refine x_get (C := "GateTimes") (T := F_GT) (N := 8) hx hb hts i_GT hown hK hw f0 rfl 3 (by decide) (hts _ wd_83) (fun _ h9 => h9) rfl d_GT_isBehindLastItem_1 ?_
  refine lv_aload_n hx hb d_GT_isBehindLastItem_4 rfl (lv_at hl 0 rfl) ?_
  refine x_get (C := "GateTimes") (T := F_GT) (N := 8) hx hb hts i_GT hown hK hw f0 rfl 3 (by decide) (hts _ wd_83) (fun _ h9 => h9) rfl d_GT_isBehindLastItem_5 ?_
  refine x_get (C := "GateTimes$Row") (T := F_Row) (N := 2) hx hb hts i_Row hown hK hw f4 rfl 1 (by decide) (hts _ wd_26) (fun _ h9 => h9) rfl d_GT_isBehindLastItem_8 ?_
  refine lv_iconst (v := 1) hx hb d_GT_isBehindLastItem_11 (by decide) ?_
  refine lv_isub hx hb d_GT_isBehindLastItem_12 ?_
  refine lv_topi (fun n12 en12 => ?_)
  obtain rfl : n12 = eN (v 12 1) := en12
  refine x_callqM (va_runV (As := [.int (eN (v 12 1))]) (rest := []) hF (c_Row_get l D cs M _ (x 0 4) (x 0 5) (v 12 1) _ f4 f5 hn (eN (v 12 1))) (x_cwV 1 hts wd_119 wd_120 wd_121 wd_2 wd_122 rfl rfl (by decide +kernel) ⟨Nat.le_of_ble_eq_true rfl, Nat.le_of_ble_eq_true rfl⟩) (x_preV hK hZ hw f4 rfl) rfl rfl hl.1 rfl (lv_room (Nat.le_of_ble_eq_true rfl)) d_GT_isBehindLastItem_13 ⟨Nat.le_of_ble_eq_true rfl, Nat.le_of_ble_eq_true rfl⟩) hw hA (fun q H locs hp hw => ?_)
  have hq : (v 12 1 = 0 ∧ q = none) ∨ (1 ≤ v 12 1 ∧ q = some (x 3 (v 12 1))) := by
    rcases hp with ⟨k, k1, k2, k3⟩ | ⟨k1, k2⟩
    · have k4 : v 12 1 = k + 1 := (eN_is (by omega) (by omega)).mp k2
      exact Or.inr ⟨by omega, by rw [k3, if_pos k1, k4]⟩
    · refine Or.inl ⟨?_, k2⟩
      cases e : v 12 1 with
      | zero => rfl
      | succ k => exact absurd ⟨k, by omega, by rw [e]; exact eN_s k⟩ k1
  rcases hq with ⟨e0, rfl⟩ | ⟨e0, rfl⟩
  ·
    refine lv_astore_nN (lv' := [(3, .null), (0, .ref (x 0 0)), (1, .long t)]) hx hb d_GT_isBehindLastItem_16 rfl hl (by decide) rfl (fun ls hl => ?_)
    refine lv_aload_nN hx hb d_GT_isBehindLastItem_17 rfl (lv_at hl 0 rfl) ?_
    refine lv_ifnullN (tgt := 39) hx hb d_GT_isBehindLastItem_18 (by decide) ?_
    refine lv_iconst (v := 1) hx hb d_GT_isBehindLastItem_39 (by decide) ?_
    refine lv_goto (tgt := 44) hx hb d_GT_isBehindLastItem_40 (by decide) ?_
    exact x_iret hx hb hr hlk rfl hw (⟨_, rfl, Or.inl ⟨rfl, Or.inl e0⟩, rfl⟩) d_GT_isBehindLastItem_44
  ·
    refine lv_astore_n (lv' := [(3, .ref (x 3 (v 12 1))), (0, .ref (x 0 0)), (1, .long t)]) hx hb d_GT_isBehindLastItem_16 rfl hl (by decide) rfl (fun ls hl => ?_)
    refine lv_aload_n hx hb d_GT_isBehindLastItem_17 rfl (lv_at hl 0 rfl) ?_
    have f3 : M (x 3 (v 12 1)) = some (cItem x v P (v 12 1)) := hR.1 3 _ (vd3 e0 (Nat.le_refl _))
    refine lv_ifnull hx hb d_GT_isBehindLastItem_18 ?_
    refine lv_lload_n hx hb d_GT_isBehindLastItem_21 rfl (lv_at hl 2 rfl) ?_
    refine lv_aload_n hx hb d_GT_isBehindLastItem_22 rfl (lv_at hl 0 rfl) ?_
    refine x_get (C := "GateTimes$Item") (T := F_Item) (N := 7) hx hb hts i_Item hown hK hw f3 rfl 1 (by decide) (hts _ wd_137) (fun _ h9 => h9) rfl d_GT_isBehindLastItem_23 ?_
    refine lv_aload_n hx hb d_GT_isBehindLastItem_26 rfl (lv_at hl 0 rfl) ?_
    refine x_get (C := "GateTimes$Item") (T := F_Item) (N := 7) hx hb hts i_Item hown hK hw f3 rfl 2 (by decide) (hts _ wd_140) (fun _ h9 => h9) rfl d_GT_isBehindLastItem_27 ?_
    refine lv_ladd hx hb d_GT_isBehindLastItem_30 ?_
    refine lv_topl (fun n30 en30 => ?_)
    obtain rfl : n30 = lN (v 0 (v 12 1) + v 1 (v 12 1)) := en30.trans (lN_add _ _)
    refine lv_ldc2 (v := 50) hx hb hown (hts _ wd_123) d_GT_isBehindLastItem_31 ?_
    refine lv_ladd hx hb d_GT_isBehindLastItem_34 ?_
    refine lv_topl (fun n34 en34 => ?_)
    obtain rfl : n34 = lN (v 0 (v 12 1) + v 1 (v 12 1) + 50) := en34.trans (lN_add _ 50)
    refine W.lcmp hx hb d_GT_isBehindLastItem_35 ?_
    refine lv_if_lt (tgt := 43) hx hb d_GT_isBehindLastItem_36 (by decide) (fun c36 => ?_) (fun c36 => ?_)
    ·
      replace c36 := (lg_cmp_lt _ _).mp c36
      refine lv_iconst (v := 0) hx hb d_GT_isBehindLastItem_43 (by decide) ?_
      exact x_iret hx hb hr hlk rfl hw (⟨_, rfl, Or.inr ⟨rfl, fun z => z.elim (fun z => by omega) (fun z => Int64.not_lt.mpr z c36)⟩, rfl⟩) d_GT_isBehindLastItem_44
    ·
      replace c36 := fun z => c36 ((lg_cmp_lt _ _).mpr z)
      refine lv_iconst (v := 1) hx hb d_GT_isBehindLastItem_39 (by decide) ?_
      refine lv_goto (tgt := 44) hx hb d_GT_isBehindLastItem_40 (by decide) ?_
      exact x_iret hx hb hr hlk rfl hw (⟨_, rfl, Or.inl ⟨rfl, Or.inr (Int64.not_lt.mp c36)⟩, rfl⟩) d_GT_isBehindLastItem_44
set_option maxHeartbeats 4000000 in
set_option maxRecDepth 100000 in
theorem c_GT_itemOf (l : Launch) (D : va_G) (cs : Nat → ClassId) (M : xM) (sz : Nat) (x v P : gV) (o w : List Nat) (hR : cR cs M x v P o w) (hn : v 12 1 ≤ 400) (i : Int32) : Met l y_GT_itemOf w_GT_itemOf ({ frames := 1, cells := 0, slots := 0, locals := 21 }) (xPc D classes (xtys cs) M sz [.ref (x 0 0), .int i]) (xQ D classes M sz (fun rv M1 => ∃ q : Option Nat, rv = some (va_rf q) ∧ ((∃ k, i = nI k ∧ 1 ≤ k ∧ k ≤ v 12 1 ∧ q = some (x 3 k)) ∨ (¬ isIt v i ∧ q = none)) ∧ M1 = M)) 0 0 (xA M sz) := by
  refine x_met (maxL := 2) (ret := (some (.object "GateTimes$Item"))) (by decide) (Nat.le_of_ble_eq_true rfl) ?_
  intro p e s m below meth c ls hsz hF hr hlk hnm hK hZ hw hl
  obtain ⟨hx, hb, hml, hown, hts⟩ := id hF
  have hA : ∀ q, s.heap.size ≤ q → xA M sz q := x_hA hsz
  have hl : lv_has ls 2 [(0, .ref (x 0 0)), (1, .int i)] := hl
  have f0 : M (x 0 0) = some (cHead x v) := hR.1 0 0 (vd0 (by decide))
  have f4 : M (x 0 4) = some (cRow (x 0 5) (v 12 1)) := hR.1 0 4 (vd0 (by decide))
  have f5 : M (x 0 5) = some (aQ (cs 5) 400 (fun k => if k < v 12 1 then some (x 3 (k + 1)) else none)) := hR.1 0 5 (vd0 (by decide))
  refine lv_iload_n hx hb d_GT_itemOf_0 rfl (lv_at hl 1 rfl) ?_
  refine lv_iconst (v := 1) hx hb d_GT_itemOf_1 (by decide) ?_
  refine lv_icmp_ge (tgt := 9) hx hb d_GT_itemOf_2 (by decide) (fun c2 => ?_) (fun c2 => ?_)
  ·
    refine lv_aload_n hx hb d_GT_itemOf_9 rfl (lv_at hl 0 rfl) ?_
    refine x_get (C := "GateTimes") (T := F_GT) (N := 8) hx hb hts i_GT hown hK hw f0 rfl 3 (by decide) (hts _ wd_83) (fun _ h9 => h9) rfl d_GT_itemOf_10 ?_
    refine lv_iload_n hx hb d_GT_itemOf_13 rfl (lv_at hl 1 rfl) ?_
    refine lv_iconst (v := 1) hx hb d_GT_itemOf_14 (by decide) ?_
    refine lv_isub hx hb d_GT_itemOf_15 ?_
    refine lv_topi (fun n15 en15 => ?_)
    refine x_callqM (va_runV (As := [.int n15]) (rest := []) hF (c_Row_get l D cs M _ (x 0 4) (x 0 5) (v 12 1) _ f4 f5 hn _) (x_cwV 1 hts wd_119 wd_120 wd_121 wd_2 wd_122 rfl rfl (by decide +kernel) ⟨Nat.le_of_ble_eq_true rfl, Nat.le_of_ble_eq_true rfl⟩) (x_preV hK hZ hw f4 rfl) rfl rfl hl.1 rfl (lv_room (Nat.le_of_ble_eq_true rfl)) d_GT_itemOf_16 ⟨Nat.le_of_ble_eq_true rfl, Nat.le_of_ble_eq_true rfl⟩) hw hA (fun q H locs hp hw => ?_)
    have hq : (∃ k, i = nI k ∧ 1 ≤ k ∧ k ≤ v 12 1 ∧ q = some (x 3 k)) ∨ (¬ isIt v i ∧ q = none) := by
      rcases hp with ⟨k, k1, k2, k3⟩ | ⟨k1, k2⟩
      · refine Or.inl ⟨k + 1, ?_, by omega, by omega, by rw [k3, if_pos k1]⟩
        rw [← nI_1, ← k2, en15]
        exact (Int32.sub_add_cancel i 1).symm
      · refine Or.inr ⟨fun ⟨k, j1, j2, j3⟩ => k1 ⟨k - 1, by omega, ?_⟩, k2⟩
        rw [en15, j1, ← nI_pred (k - 1), show k - 1 + 1 = k by omega]
    exact x_aret (r := q) hx hb hr hlk hw (⟨q, rfl, hq, rfl⟩) d_GT_itemOf_19
  ·
    refine lv_null hx hb d_GT_itemOf_5 ?_
    refine lv_goto (tgt := 19) hx hb d_GT_itemOf_6 (by decide) ?_
    exact x_aret (r := none) hx hb hr hlk hw (⟨none, rfl, Or.inr ⟨fun ⟨k, j1, j2, j3⟩ => c2 (by rw [j1]; exact nI_le (a := 1) j2 (by omega)), rfl⟩, rfl⟩) d_GT_itemOf_19
set_option maxHeartbeats 4000000 in
set_option maxRecDepth 100000 in
theorem c_GT_gateOf (l : Launch) (D : va_G) (cs : Nat → ClassId) (M : xM) (sz : Nat) (x v P : gV) (o w : List Nat) (hR : cR cs M x v P o w) (hG : v 12 0 ≤ 12) (b : Int32) : Met l y_GT_gateOf w_GT_gateOf ({ frames := 0, cells := 0, slots := 0, locals := 0 }) (xPc D classes (xtys cs) M sz [.ref (x 0 0), .int b]) (xQ D classes M sz (fun rv M1 => ∃ q : Option Nat, rv = some (va_rf q) ∧ ((∃ g, b = nI g ∧ g < v 12 0 ∧ q = some (x 1 g)) ∨ (¬ isBn v b ∧ q = none)) ∧ M1 = M)) 0 0 (xA M sz) := by
  refine x_met (maxL := 2) (ret := (some (.object "GateTimes$Gate"))) (by decide) (Nat.le_of_ble_eq_true rfl) ?_
  intro p e s m below meth c ls hsz hF hr hlk hnm hK hZ hw hl
  obtain ⟨hx, hb, hml, hown, hts⟩ := id hF
  have hA : ∀ q, s.heap.size ≤ q → xA M sz q := x_hA hsz
  have hl : lv_has ls 2 [(0, .ref (x 0 0)), (1, .int b)] := hl
  have f0 : M (x 0 0) = some (cHead x v) := hR.1 0 0 (vd0 (by decide))
  have f1 : M (x 0 1) = some (aQ (cs 3) (v 12 0) (fun g => if g < v 12 0 then some (x 1 g) else none)) := hR.1 0 1 (vd0 (by decide))
  refine lv_iload_n hx hb d_GT_gateOf_0 rfl (lv_at hl 1 rfl) ?_
  refine lv_if_lt (tgt := 13) hx hb d_GT_gateOf_1 (by decide) (fun c1 => ?_) (fun c1 => ?_)
  ·
    refine lv_null hx hb d_GT_gateOf_13 ?_
    refine lv_goto (tgt := 23) hx hb d_GT_gateOf_14 (by decide) ?_
    exact x_aret (r := none) hx hb hr hlk hw (⟨none, rfl, Or.inr ⟨fun ⟨g, j1, j2⟩ => nI_pos (by omega) (j1 ▸ c1), rfl⟩, rfl⟩) d_GT_gateOf_23
  ·
    refine lv_iload_n hx hb d_GT_gateOf_4 rfl (lv_at hl 1 rfl) ?_
    refine lv_aload_n hx hb d_GT_gateOf_5 rfl (lv_at hl 0 rfl) ?_
    refine x_get (C := "GateTimes") (T := F_GT) (N := 8) hx hb hts i_GT hown hK hw f0 rfl 0 (by decide) (hts _ wd_80) (fun _ h9 => h9) rfl d_GT_gateOf_6 ?_
    refine x_alen (v := nI (v 12 0)) hx hb hK hw f1 3 rfl rfl d_GT_gateOf_9 ?_
    refine lv_icmp_lt (tgt := 17) hx hb d_GT_gateOf_10 (by decide) (fun c10 => ?_) (fun c10 => ?_)
    ·
      obtain ⟨g, hg, rfl⟩ : ∃ g, g < v 12 0 ∧ b = nI g := by
        rcases pk_ix b (show v 12 0 < 2 ^ 31 by omega) with z | z | z
        · exact absurd z c1
        · exact absurd c10 (Int32.not_lt.mpr z)
        · exact z
      refine lv_aload_n hx hb d_GT_gateOf_17 rfl (lv_at hl 0 rfl) ?_
      refine x_get (C := "GateTimes") (T := F_GT) (N := 8) hx hb hts i_GT hown hK hw f0 rfl 0 (by decide) (hts _ wd_80) (fun _ h9 => h9) rfl d_GT_gateOf_18 ?_
      refine lv_iload_n hx hb d_GT_gateOf_21 rfl (lv_at hl 1 rfl) ?_
      refine x_aldqN hx hb hK hw f1 3 rfl hg (by omega) d_GT_gateOf_22 ?_
      exact x_aret (r := if g < v 12 0 then some (x 1 g) else none) hx hb hr hlk hw (⟨_, rfl, Or.inl ⟨g, rfl, hg, if_pos hg⟩, rfl⟩) d_GT_gateOf_23
    ·
      refine lv_null hx hb d_GT_gateOf_13 ?_
      refine lv_goto (tgt := 23) hx hb d_GT_gateOf_14 (by decide) ?_
      exact x_aret (r := none) hx hb hr hlk hw (⟨none, rfl, Or.inr ⟨fun ⟨g, j1, j2⟩ => c10 (j1 ▸ nI_lt j2 (by omega)), rfl⟩, rfl⟩) d_GT_gateOf_23
