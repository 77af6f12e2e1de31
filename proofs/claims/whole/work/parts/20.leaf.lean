set_option maxHeartbeats 4000000 in
set_option maxRecDepth 100000 in
/-- Item.frontAt(p): at + 1000 (p + 1) -/
theorem c_Item_frontAt (l : Launch) (D : va_G) (cs : Nat → ClassId) (M : xM) (sz : Nat) (q A p0 : Nat) (v0 : Value) (vr : List Value) (h : M q = some (.inr (kItem, v0 :: .long (lN A) :: vr))) (hp : p0 < 1000) : Met l y_Item_frontAt w_Item_frontAt ({ frames := 0, cells := 0, slots := 0, locals := 0 }) (xPc D classes (xtys cs) M sz [.ref q, .int (nI p0)]) (xQ D classes M sz (fun v M1 => ∃ r : Int64, v = some (.long r) ∧ r = lN (A + 1000 * p0 + 1000) ∧ M1 = M)) 0 0 (xA M sz) := by
  refine x_met (maxL := 2) (ret := (some .long)) (by decide) (Nat.le_of_ble_eq_true rfl) ?_
  intro p e s m below meth c ls hsz hF hr hlk hnm hK hZ hw hl
  obtain ⟨hx, hb, hml, hown, hts⟩ := id hF
  have hA : ∀ q, s.heap.size ≤ q → xA M sz q := x_hA hsz
  have hl : lv_has ls 2 [(0, .ref q), (1, .int (nI p0))] := hl
  refine lv_aload_n hx hb d_Item_frontAt_0 rfl (lv_at hl 0 rfl) ?_
  refine x_get (C := "GateTimes$Item") (T := F_Item) (N := 7) hx hb hts i_Item hown hK hw h rfl 1 (by decide) (hts _ wd_136) (fun _ h9 => h9) rfl d_Item_frontAt_1 ?_
  refine lv_ldc2 (v := 1000) hx hb hown (hts _ wd_198) d_Item_frontAt_4 ?_
  refine lv_iload_n hx hb d_Item_frontAt_7 rfl (lv_at hl 1 rfl) ?_
  refine lv_iconst (v := 1) hx hb d_Item_frontAt_8 (by decide) ?_
  refine lv_iadd hx hb d_Item_frontAt_9 ?_
  refine lv_topi (fun n9 en9 => ?_)
  obtain rfl : n9 = nI (p0 + 1) := en9.trans (nI_1 p0)
  refine lv_i2l hx hb d_Item_frontAt_10 rfl ?_
  refine lv_topl (fun n10 en10 => ?_)
  obtain rfl : n10 = lN (p0 + 1) := en10.trans (nI_l (by omega))
  refine lv_lmul hx hb d_Item_frontAt_11 ?_
  refine lv_topl (fun n11 en11 => ?_)
  obtain rfl : n11 = lN (1000 * (p0 + 1)) := en11.trans (lN_mul 1000 (p0 + 1))
  refine lv_ladd hx hb d_Item_frontAt_12 ?_
  refine lv_topl (fun n12 en12 => ?_)
  obtain rfl : n12 = lN (A + 1000 * p0 + 1000) := en12.trans ((lN_add _ _).trans (congrArg lN (by omega)))
  exact x_lret hx hb hr hlk hw (⟨_, rfl, rfl, rfl⟩) d_Item_frontAt_13
set_option maxHeartbeats 4000000 in
set_option maxRecDepth 100000 in
theorem c_Row_isFull (l : Launch) (D : va_G) (cs : Nat → ClassId) (M : xM) (sz : Nat) (r a n : Nat) (f : Nat → Option Nat) (h : M r = some (cRow a n)) (ha : M a = some (aQ (cs 5) 400 f)) (hn : n ≤ 400) : Met l y_Row_isFull w_Row_isFull ({ frames := 0, cells := 0, slots := 0, locals := 0 }) (xPc D classes (xtys cs) M sz [.ref r]) (xQ D classes M sz (fun v M1 => ∃ x : Int32, v = some (.int x) ∧ x = (if n < 400 then 0 else 1) ∧ M1 = M)) 0 0 (xA M sz) := by
  refine x_met (maxL := 1) (ret := (some .boolean)) (by decide) (Nat.le_of_ble_eq_true rfl) ?_
  intro p e s m below meth c ls hsz hF hr hlk hnm hK hZ hw hl
  obtain ⟨hx, hb, hml, hown, hts⟩ := id hF
  have hA : ∀ q, s.heap.size ≤ q → xA M sz q := x_hA hsz
  have hl : lv_has ls 1 [(0, .ref r)] := hl
  refine lv_aload_n hx hb d_Row_isFull_0 rfl (lv_at hl 0 rfl) ?_
  refine x_get (C := "GateTimes$Row") (T := F_Row) (N := 2) hx hb hts i_Row hown hK hw h rfl 1 (by decide) (hts _ wd_25) (fun _ h9 => h9) rfl d_Row_isFull_1 ?_
  refine lv_aload_n hx hb d_Row_isFull_4 rfl (lv_at hl 0 rfl) ?_
  refine x_get (C := "GateTimes$Row") (T := F_Row) (N := 2) hx hb hts i_Row hown hK hw h rfl 0 (by decide) (hts _ wd_24) (fun _ h9 => h9) rfl d_Row_isFull_5 ?_
  refine x_alen (v := nI 400) hx hb hK hw ha 5 rfl rfl d_Row_isFull_8 ?_
  refine lv_icmp_lt (tgt := 16) hx hb d_Row_isFull_9 (by decide) (fun c9 => ?_) (fun c9 => ?_)
  ·
    refine lv_iconst (v := 0) hx hb d_Row_isFull_16 (by decide) ?_
    exact x_iret hx hb hr hlk rfl hw (⟨_, rfl, by rw [if_pos ((nI_ltI (by omega) (by decide)).mp c9)], rfl⟩) d_Row_isFull_17
  ·
    refine lv_iconst (v := 1) hx hb d_Row_isFull_12 (by decide) ?_
    refine lv_goto (tgt := 17) hx hb d_Row_isFull_13 (by decide) ?_
    exact x_iret hx hb hr hlk rfl hw (⟨_, rfl, by rw [if_neg (fun z => c9 ((nI_ltI (by omega) (by decide)).mpr z))], rfl⟩) d_Row_isFull_17
set_option maxHeartbeats 4000000 in
set_option maxRecDepth 100000 in
theorem c_Row_get (l : Launch) (D : va_G) (cs : Nat → ClassId) (M : xM) (sz : Nat) (r a n : Nat) (f : Nat → Option Nat) (h : M r = some (cRow a n)) (ha : M a = some (aQ (cs 5) 400 f)) (hn : n ≤ 400) (i : Int32) : Met l y_Row_get w_Row_get ({ frames := 0, cells := 0, slots := 0, locals := 0 }) (xPc D classes (xtys cs) M sz [.ref r, .int i]) (xQ D classes M sz (fun v M1 => ∃ q : Option Nat, v = some (va_rf q) ∧ ((∃ k, k < n ∧ i = nI k ∧ q = f k) ∨ ((¬ ∃ k, k < n ∧ i = nI k) ∧ q = none)) ∧ M1 = M)) 0 0 (xA M sz) := by
  refine x_met (maxL := 2) (ret := (some (.object "GateTimes$Item"))) (by decide) (Nat.le_of_ble_eq_true rfl) ?_
  intro p e s m below meth c ls hsz hF hr hlk hnm hK hZ hw hl
  obtain ⟨hx, hb, hml, hown, hts⟩ := id hF
  have hA : ∀ q, s.heap.size ≤ q → xA M sz q := x_hA hsz
  have hl : lv_has ls 2 [(0, .ref r), (1, .int i)] := hl
  refine lv_iload_n hx hb d_Row_get_0 rfl (lv_at hl 1 rfl) ?_
  refine lv_if_lt (tgt := 12) hx hb d_Row_get_1 (by decide) (fun c1 => ?_) (fun c1 => ?_)
  ·
    refine lv_null hx hb d_Row_get_12 ?_
    refine lv_goto (tgt := 22) hx hb d_Row_get_13 (by decide) ?_
    exact x_aret (r := none) hx hb hr hlk hw (⟨none, rfl, Or.inr ⟨fun ⟨k, hk, e9⟩ => nI_pos (by omega) (e9 ▸ c1), rfl⟩, rfl⟩) d_Row_get_22
  ·
    refine lv_iload_n hx hb d_Row_get_4 rfl (lv_at hl 1 rfl) ?_
    refine lv_aload_n hx hb d_Row_get_5 rfl (lv_at hl 0 rfl) ?_
    refine x_get (C := "GateTimes$Row") (T := F_Row) (N := 2) hx hb hts i_Row hown hK hw h rfl 1 (by decide) (hts _ wd_25) (fun _ h9 => h9) rfl d_Row_get_6 ?_
    refine lv_icmp_lt (tgt := 16) hx hb d_Row_get_9 (by decide) (fun c9 => ?_) (fun c9 => ?_)
    ·
      obtain ⟨k, hk, rfl⟩ : ∃ k, k < n ∧ i = nI k := by
        rcases pk_ix i (show n < 2 ^ 31 by omega) with z | z | z
        · exact absurd z c1
        · exact absurd c9 (Int32.not_lt.mpr z)
        · exact z
      refine lv_aload_n hx hb d_Row_get_16 rfl (lv_at hl 0 rfl) ?_
      refine x_get (C := "GateTimes$Row") (T := F_Row) (N := 2) hx hb hts i_Row hown hK hw h rfl 0 (by decide) (hts _ wd_24) (fun _ h9 => h9) rfl d_Row_get_17 ?_
      refine lv_iload_n hx hb d_Row_get_20 rfl (lv_at hl 1 rfl) ?_
      refine x_aldqN hx hb hK hw ha 5 rfl (show k < 400 by omega) (by decide) d_Row_get_21 ?_
      exact x_aret (r := f k) hx hb hr hlk hw (⟨f k, rfl, Or.inl ⟨k, hk, rfl, rfl⟩, rfl⟩) d_Row_get_22
    ·
      refine lv_null hx hb d_Row_get_12 ?_
      refine lv_goto (tgt := 22) hx hb d_Row_get_13 (by decide) ?_
      exact x_aret (r := none) hx hb hr hlk hw (⟨none, rfl, Or.inr ⟨fun ⟨k, hk, e9⟩ => c9 (e9 ▸ nI_lt hk (by omega)), rfl⟩, rfl⟩) d_Row_get_22
set_option maxHeartbeats 4000000 in
set_option maxRecDepth 100000 in
theorem c_Row_add (l : Launch) (D : va_G) (cs : Nat → ClassId) (M : xM) (sz : Nat) (r a n q : Nat) (f : Nat → Option Nat) (vs : List Value) (h : M r = some (cRow a n)) (ha : M a = some (aQ (cs 5) 400 f)) (hq : M q = some (.inr (kItem, vs))) (hn : n < 400) : Met l y_Row_add w_Row_add ({ frames := 1, cells := 0, slots := 0, locals := 20 }) (xPc D classes (xtys cs) M sz [.ref r, .ref q]) (xQ D classes M sz (fun v M1 => v = none ∧ M1 = va_up (va_up M a (some (aQ (cs 5) 400 (va_up f n (some q))))) r (some (cRow a (n + 1))))) 0 0 (xA M sz) := by
  refine x_met (maxL := 2) (ret := (none)) (by decide) (Nat.le_of_ble_eq_true rfl) ?_
  intro p e s m below meth c ls hsz hF hr hlk hnm hK hZ hw hl
  obtain ⟨hx, hb, hml, hown, hts⟩ := id hF
  have hA : ∀ q, s.heap.size ≤ q → xA M sz q := x_hA hsz
  have hl : lv_has ls 2 [(0, .ref r), (1, .ref q)] := hl
  refine lv_aload_n hx hb d_Row_add_0 rfl (lv_at hl 0 rfl) ?_
  refine x_calli (va_runV (As := []) (rest := []) hF (c_Row_isFull l D cs M _ r a n f h ha (by omega)) (x_cwV 0 hts wd_169 wd_125 wd_126 wd_2 wd_127 rfl rfl (by decide +kernel) ⟨Nat.le_of_ble_eq_true rfl, Nat.le_of_ble_eq_true rfl⟩) (x_preV hK hZ hw h rfl) rfl rfl hl.1 rfl (lv_room (Nat.le_of_ble_eq_true rfl)) d_Row_add_1 ⟨Nat.le_of_ble_eq_true rfl, Nat.le_of_ble_eq_true rfl⟩) hw hA (fun x M1 H locs hp hw => ?_)
  obtain ⟨rfl, rfl⟩ := hp
  rw [if_pos hn]
  refine lv_if_ne (tgt := 27) hx hb d_Row_add_4 (by decide) (fun c4 => False.elim (c4 rfl)) (fun c4 => ?_)
  refine lv_aload_n hx hb d_Row_add_7 rfl (lv_at hl 0 rfl) ?_
  refine x_get (C := "GateTimes$Row") (T := F_Row) (N := 2) hx hb hts i_Row hown hK hw h rfl 0 (by decide) (hts _ wd_24) (fun _ h9 => h9) rfl d_Row_add_8 ?_
  refine lv_aload_n hx hb d_Row_add_11 rfl (lv_at hl 0 rfl) ?_
  refine x_get (C := "GateTimes$Row") (T := F_Row) (N := 2) hx hb hts i_Row hown hK hw h rfl 1 (by decide) (hts _ wd_25) (fun _ h9 => h9) rfl d_Row_add_12 ?_
  refine lv_aload_n hx hb d_Row_add_15 rfl (lv_at hl 1 rfl) ?_
  refine x_astqN hx hb hK hw ha 5 rfl hq rfl (show n < 400 by omega) (by decide) d_Row_add_16 (fun M1 H locs eM1 hw => ?_)
  have h1 : M1 r = some (cRow a n) := x_keep eM1 (x_diff h ha (fun z => by cases z)) h
  refine lv_aload_n hx hb d_Row_add_17 rfl (lv_at hl 0 rfl) ?_
  refine lv_dup hx hb d_Row_add_18 rfl ?_
  refine x_get (C := "GateTimes$Row") (T := F_Row) (N := 2) hx hb hts i_Row hown hK hw h1 rfl 1 (by decide) (hts _ wd_25) (fun _ h9 => h9) rfl d_Row_add_19 ?_
  refine lv_iconst (v := 1) hx hb d_Row_add_22 (by decide) ?_
  refine lv_iadd hx hb d_Row_add_23 ?_
  refine lv_topi (fun n23 en23 => ?_)
  obtain rfl : n23 = nI (n + 1) := en23.trans (nI_1 n)
  refine x_put (C := "GateTimes$Row") (T := F_Row) (N := 2) (ty := .int) hx hb hts i_Row t_Row t_Row_ok n_Row hown hK hw h1 rfl 1 (by decide) (hts _ wd_25) (fun _ h9 => h9) rfl (by decide +kernel) rfl rfl (Nat.le_of_ble_eq_true rfl) d_Row_add_24 (fun M2 H locs eM2 hw => ?_)
  exact x_vret hx hb hr hlk hw (⟨rfl, by rw [eM2, eM1]; rfl⟩) d_Row_add_27
