set_option maxHeartbeats 4000000 in
set_option maxRecDepth 100000 in
theorem c_Mo_isIn (l : Launch) (D : va_G) (cs : Nat → ClassId) (M : xM) (sz : Nat) (y0 y1 y2 : Int64) : Met l y_Mo_isIn w_Mo_isIn ({ frames := 0, cells := 0, slots := 0, locals := 0 }) (xPc D classes (xtys cs) M sz [.long y0, .long y1, .long y2]) (xQ D classes M sz (fun rv M1 => ∃ r : Int32, rv = some (.int r) ∧ ((r = 1 ∧ y1 ≤ y0 ∧ y0 ≤ y2) ∨ (r = 0 ∧ ¬ (y1 ≤ y0 ∧ y0 ≤ y2))) ∧ M1 = M)) 0 0 (xA M sz) := by
  refine x_met (maxL := 6) (ret := (some .boolean)) (by decide) (Nat.le_of_ble_eq_true rfl) ?_
  intro p e s m below meth c ls hsz hF hr hlk hnm hK hZ hw hl
  obtain ⟨hx, hb, hml, hown, hts⟩ := id hF
  have hA : ∀ q, s.heap.size ≤ q → xA M sz q := x_hA hsz
  have hl : lv_has ls 6 [(0, .long y0), (2, .long y1), (4, .long y2)] := hl
  refine lv_lload_n hx hb d_Mo_isIn_0 rfl (lv_at hl 0 rfl) ?_
  refine lv_lload_n hx hb d_Mo_isIn_1 rfl (lv_at hl 1 rfl) ?_
  refine W.lcmp hx hb d_Mo_isIn_2 ?_
  refine lv_if_lt (tgt := 17) hx hb d_Mo_isIn_3 (by decide) (fun c3 => ?_) (fun c3 => ?_)
  ·
    replace c3 := (lg_cmp_lt _ _).mp c3
    refine lv_iconst (v := 0) hx hb d_Mo_isIn_17 (by decide) ?_
    exact x_iret hx hb hr hlk rfl hw (⟨_, rfl, Or.inr ⟨rfl, fun z => Int64.not_lt.mpr z.1 c3⟩, rfl⟩) d_Mo_isIn_18
  ·
    replace c3 := fun z => c3 ((lg_cmp_lt _ _).mpr z)
    refine lv_lload_n hx hb d_Mo_isIn_6 rfl (lv_at hl 0 rfl) ?_
    refine lv_lload hx hb d_Mo_isIn_7 (lv_at hl 2 rfl) ?_
    refine W.lcmp hx hb d_Mo_isIn_9 ?_
    refine lv_if_gt (tgt := 17) hx hb d_Mo_isIn_10 (by decide) (fun c10 => ?_) (fun c10 => ?_)
    ·
      replace c10 := (lg_cmp_gt _ _).mp c10
      refine lv_iconst (v := 0) hx hb d_Mo_isIn_17 (by decide) ?_
      exact x_iret hx hb hr hlk rfl hw (⟨_, rfl, Or.inr ⟨rfl, fun z => Int64.not_lt.mpr z.2 c10⟩, rfl⟩) d_Mo_isIn_18
    ·
      replace c10 := fun z => c10 ((lg_cmp_gt _ _).mpr z)
      refine lv_iconst (v := 1) hx hb d_Mo_isIn_13 (by decide) ?_
      refine lv_goto (tgt := 18) hx hb d_Mo_isIn_14 (by decide) ?_
      exact x_iret hx hb hr hlk rfl hw (⟨_, rfl, Or.inl ⟨rfl, Int64.not_lt.mp c3, Int64.not_lt.mp c10⟩, rfl⟩) d_Mo_isIn_18
set_option maxHeartbeats 4000000 in
set_option maxRecDepth 100000 in
theorem c_Mo_isItem (l : Launch) (D : va_G) (cs : Nat → ClassId) (M : xM) (sz : Nat) (m0 : Nat) (v : gV) (o : List Nat) (hm : mR cs M m0 v o) (hn : v 12 1 ≤ 400) (i : Int32) : Met l y_Mo_isItem w_Mo_isItem ({ frames := 1, cells := 0, slots := 0, locals := 25 }) (xPc D classes (xtys cs) M sz [.ref m0, .int i]) (xQ D classes M sz (fun rv M1 => ∃ r : Int32, rv = some (.int r) ∧ ((r = 1 ∧ isIt v i) ∨ (r = 0 ∧ ¬ isIt v i)) ∧ M1 = M)) 0 0 (xA M sz) := by
  refine x_met (maxL := 2) (ret := (some .boolean)) (by decide) (Nat.le_of_ble_eq_true rfl) ?_
  intro p e s m below meth c ls hsz hF hr hlk hnm hK hZ hw hl
  obtain ⟨hx, hb, hml, hown, hts⟩ := id hF
  have hA : ∀ q, s.heap.size ≤ q → xA M sz q := x_hA hsz
  have hl : lv_has ls 2 [(0, .ref m0), (1, .int i)] := hl
  have z0 : M m0 = some (mHead m0 v o) := hm 0 (by decide)
  refine lv_iload_n hx hb d_Mo_isItem_0 rfl (lv_at hl 1 rfl) ?_
  refine lv_i2l hx hb d_Mo_isItem_1 rfl ?_
  refine lv_topl (fun n1 en1 => ?_)
  obtain rfl : n1 = i.toInt64 := en1
  refine lv_lconst (v := 1) hx hb d_Mo_isItem_2 (by decide) ?_
  refine lv_aload_n hx hb d_Mo_isItem_3 rfl (lv_at hl 0 rfl) ?_
  refine x_get (C := "GateTimesModel") (T := F_Mo) (N := 21) hx hb hts i_Mo hown hK hw z0 rfl 2 (by decide) (hts _ wd_261) (fun _ h9 => h9) rfl d_Mo_isItem_4 ?_
  refine lv_i2l hx hb d_Mo_isItem_7 rfl ?_
  refine lv_topl (fun n7 en7 => ?_)
  obtain rfl : n7 = lN (v 12 1) := en7.trans (nI_l (by omega))
  refine x_calliM (va_runS (As := [.long i.toInt64, .long 1, .long (lN (v 12 1))]) (rest := []) hF (c_Mo_isIn l D cs M _ i.toInt64 1 (lN (v 12 1))) (x_cwS 3 hts wd_331 wd_332 wd_6 wd_333 rfl rfl (by decide +kernel) ⟨Nat.le_of_ble_eq_true rfl, Nat.le_of_ble_eq_true rfl⟩) (x_preS hK hZ hw) rfl rfl hl.1 rfl (lv_room (Nat.le_of_ble_eq_true rfl)) d_Mo_isItem_8 ⟨Nat.le_of_ble_eq_true rfl, Nat.le_of_ble_eq_true rfl⟩) hw hA (fun r H locs hp hw => ?_)
  rw [it_iff hn] at hp
  rcases hp with ⟨rfl, hq⟩ | ⟨rfl, hq⟩
  ·
    exact x_iret hx hb hr hlk rfl hw (⟨_, rfl, Or.inl ⟨rfl, hq⟩, rfl⟩) d_Mo_isItem_11
  ·
    exact x_iret hx hb hr hlk rfl hw (⟨_, rfl, Or.inr ⟨rfl, hq⟩, rfl⟩) d_Mo_isItem_11
set_option maxHeartbeats 4000000 in
set_option maxRecDepth 100000 in
theorem c_Mo_isBin (l : Launch) (D : va_G) (cs : Nat → ClassId) (M : xM) (sz : Nat) (m0 : Nat) (v : gV) (o : List Nat) (hm : mR cs M m0 v o) (hG1 : 1 ≤ v 12 0) (hG : v 12 0 ≤ 12) (b : Int32) : Met l y_Mo_isBin w_Mo_isBin ({ frames := 1, cells := 0, slots := 0, locals := 25 }) (xPc D classes (xtys cs) M sz [.ref m0, .int b]) (xQ D classes M sz (fun rv M1 => ∃ r : Int32, rv = some (.int r) ∧ ((r = 1 ∧ isBn v b) ∨ (r = 0 ∧ ¬ isBn v b)) ∧ M1 = M)) 0 0 (xA M sz) := by
  refine x_met (maxL := 2) (ret := (some .boolean)) (by decide) (Nat.le_of_ble_eq_true rfl) ?_
  intro p e s m below meth c ls hsz hF hr hlk hnm hK hZ hw hl
  obtain ⟨hx, hb, hml, hown, hts⟩ := id hF
  have hA : ∀ q, s.heap.size ≤ q → xA M sz q := x_hA hsz
  have hl : lv_has ls 2 [(0, .ref m0), (1, .int b)] := hl
  have z0 : M m0 = some (mHead m0 v o) := hm 0 (by decide)
  refine lv_iload_n hx hb d_Mo_isBin_0 rfl (lv_at hl 1 rfl) ?_
  refine lv_i2l hx hb d_Mo_isBin_1 rfl ?_
  refine lv_topl (fun n1 en1 => ?_)
  obtain rfl : n1 = b.toInt64 := en1
  refine lv_lconst (v := 0) hx hb d_Mo_isBin_2 (by decide) ?_
  refine lv_aload_n hx hb d_Mo_isBin_3 rfl (lv_at hl 0 rfl) ?_
  refine x_get (C := "GateTimesModel") (T := F_Mo) (N := 21) hx hb hts i_Mo hown hK hw z0 rfl 1 (by decide) (hts _ wd_260) (fun _ h9 => h9) rfl d_Mo_isBin_4 ?_
  refine lv_i2l hx hb d_Mo_isBin_7 rfl ?_
  refine lv_topl (fun n7 en7 => ?_)
  obtain rfl : n7 = lN (v 12 0) := en7.trans (nI_l (by omega))
  refine lv_lconst (v := 1) hx hb d_Mo_isBin_8 (by decide) ?_
  refine lv_lsub hx hb d_Mo_isBin_9 ?_
  refine lv_topl (fun n9 en9 => ?_)
  obtain rfl : n9 = lN (v 12 0 - 1) := en9.trans (lN_sub (b := 1) hG1)
  refine x_calliM (va_runS (As := [.long b.toInt64, .long 0, .long (lN (v 12 0 - 1))]) (rest := []) hF (c_Mo_isIn l D cs M _ b.toInt64 0 (lN (v 12 0 - 1))) (x_cwS 3 hts wd_331 wd_332 wd_6 wd_333 rfl rfl (by decide +kernel) ⟨Nat.le_of_ble_eq_true rfl, Nat.le_of_ble_eq_true rfl⟩) (x_preS hK hZ hw) rfl rfl hl.1 rfl (lv_room (Nat.le_of_ble_eq_true rfl)) d_Mo_isBin_10 ⟨Nat.le_of_ble_eq_true rfl, Nat.le_of_ble_eq_true rfl⟩) hw hA (fun r H locs hp hw => ?_)
  rw [bn_iff hG1 hG] at hp
  rcases hp with ⟨rfl, hq⟩ | ⟨rfl, hq⟩
  ·
    exact x_iret hx hb hr hlk rfl hw (⟨_, rfl, Or.inl ⟨rfl, hq⟩, rfl⟩) d_Mo_isBin_13
  ·
    exact x_iret hx hb hr hlk rfl hw (⟨_, rfl, Or.inr ⟨rfl, hq⟩, rfl⟩) d_Mo_isBin_13
set_option maxHeartbeats 4000000 in
set_option maxRecDepth 100000 in
theorem c_Mo_front (l : Launch) (D : va_G) (cs : Nat → ClassId) (M : xM) (sz : Nat) (m0 : Nat) (v : gV) (o : List Nat) (hm : mR cs M m0 v o) (i0 p0 : Nat) (hi : i0 ≤ 400) (hp0 : p0 ≤ 100) : Met l y_Mo_front w_Mo_front ({ frames := 0, cells := 0, slots := 0, locals := 0 }) (xPc D classes (xtys cs) M sz [.ref m0, .int (nI i0), .int (nI p0)]) (xQ D classes M sz (fun rv M1 => ∃ r : Int64, rv = some (.long r) ∧ r = lN (fr v i0 p0) ∧ M1 = M)) 0 0 (xA M sz) := by
  refine x_met (maxL := 3) (ret := (some .long)) (by decide) (Nat.le_of_ble_eq_true rfl) ?_
  intro p e s m below meth c ls hsz hF hr hlk hnm hK hZ hw hl
  obtain ⟨hx, hb, hml, hown, hts⟩ := id hF
  have hA : ∀ q, s.heap.size ≤ q → xA M sz q := x_hA hsz
  have hl : lv_has ls 3 [(0, .ref m0), (1, .int (nI i0)), (2, .int (nI p0))] := hl
  have z0 : M m0 = some (mHead m0 v o) := hm 0 (by decide)
  have g1 : M (m0 + 1) = some (aL (cs 1) 401 (fun j => lN (v 0 j))) := hm 1 (by decide)
  refine lv_aload_n hx hb d_Mo_front_0 rfl (lv_at hl 0 rfl) ?_
  refine x_get (C := "GateTimesModel") (T := F_Mo) (N := 21) hx hb hts i_Mo hown hK hw z0 rfl 3 (by decide) (hts _ wd_262) (fun _ h9 => h9) rfl d_Mo_front_1 ?_
  refine lv_iload_n hx hb d_Mo_front_4 rfl (lv_at hl 1 rfl) ?_
  refine x_laldN hx hb hK hw g1 1 rfl (show i0 < 401 by omega) (by decide) d_Mo_front_5 ?_
  refine lv_ldc2 (v := 1000) hx hb hown (hts _ wd_355) d_Mo_front_6 ?_
  refine lv_iload_n hx hb d_Mo_front_9 rfl (lv_at hl 2 rfl) ?_
  refine lv_i2l hx hb d_Mo_front_10 rfl ?_
  refine lv_topl (fun n10 en10 => ?_)
  obtain rfl : n10 = lN p0 := en10.trans (nI_l (by omega))
  refine lv_lmul hx hb d_Mo_front_11 ?_
  refine lv_topl (fun n11 en11 => ?_)
  obtain rfl : n11 = lN (1000 * p0) := en11.trans (lN_mul 1000 p0)
  refine lv_ladd hx hb d_Mo_front_12 ?_
  refine lv_topl (fun n12 en12 => ?_)
  obtain rfl : n12 = lN (v 0 i0 + 1000 * p0) := en12.trans (lN_add _ _)
  refine lv_ldc2 (v := 1000) hx hb hown (hts _ wd_355) d_Mo_front_13 ?_
  refine lv_ladd hx hb d_Mo_front_16 ?_
  refine lv_topl (fun n16 en16 => ?_)
  obtain rfl : n16 = lN (fr v i0 p0) := en16.trans (lN_add _ 1000)
  exact x_lret hx hb hr hlk hw (⟨_, rfl, rfl, rfl⟩) d_Mo_front_17
