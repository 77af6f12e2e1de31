set_option maxHeartbeats 4000000 in
set_option maxRecDepth 100000 in
theorem c_Item_init (l : Launch) (D : va_G) (cs : Nat → ClassId) (M : xM) (sz : Nat) (q : Nat) (n0 : Int32) (a0 l0 : Int64) (h : M q = some (.inr (kItem, [.int 0, .long 0, .long 0, .int 0, .int 0, .int 0, .null]))) : Met l y_Item_init w_Item_init ({ frames := 1, cells := 0, slots := 0, locals := 12 }) (xPc D classes (xtys cs) M sz [.ref q, .int n0, .long a0, .long l0]) (xQ D classes M sz (fun v M1 => v = none ∧ M1 = va_up M q (some (.inr (kItem, [.int n0, .long a0, .long l0, .int (-1), .int (-1), .int 0, .null]))))) 0 0 (xA M sz) := by
  refine x_met (maxL := 6) (ret := (none)) (by decide) (Nat.le_of_ble_eq_true rfl) ?_
  intro p e s m below meth c ls hsz hF hr hlk hnm hK hZ hw hl
  obtain ⟨hx, hb, hml, hown, hts⟩ := id hF
  have hA : ∀ q, s.heap.size ≤ q → xA M sz q := x_hA hsz
  have hl : lv_has ls 6 [(0, .ref q), (1, .int n0), (2, .long a0), (4, .long l0)] := hl
  refine lv_aload_n hx hb d_Item_init_0 rfl (lv_at hl 0 rfl) ?_
  refine W.objInit hx hb hown (hts _ wd_133) (hts _ wd_14) (hts _ wd_15) rfl (by rw [hml]; exact hl.1) rfl d_Item_init_1 (Nat.le_of_ble_eq_true rfl) (Nat.le_of_ble_eq_true rfl) ?_
  refine W.eq (g2 := F0 m 4 ls []) rfl ?_
  refine lv_aload_n hx hb d_Item_init_4 rfl (lv_at hl 0 rfl) ?_
  refine lv_iconst (v := (-1)) hx hb d_Item_init_5 (by decide) ?_
  refine x_put (C := "GateTimes$Item") (T := F_Item) (N := 7) (ty := .int) hx hb hts i_Item t_Item t_Item_ok n_Item hown hK hw h rfl 3 (by decide) (hts _ wd_141) (fun _ h9 => h9) rfl (by decide +kernel) rfl rfl (Nat.le_of_ble_eq_true rfl) d_Item_init_6 (fun M1 H locs eM1 hw => ?_)
  have h1 : M1 q = some (.inr (kItem, [.int 0, .long 0, .long 0, .int (-1), .int 0, .int 0, .null])) := x_up_self eM1
  refine lv_aload_n hx hb d_Item_init_9 rfl (lv_at hl 0 rfl) ?_
  refine lv_iconst (v := (-1)) hx hb d_Item_init_10 (by decide) ?_
  refine x_put (C := "GateTimes$Item") (T := F_Item) (N := 7) (ty := .int) hx hb hts i_Item t_Item t_Item_ok n_Item hown hK hw h1 rfl 4 (by decide) (hts _ wd_144) (fun _ h9 => h9) rfl (by decide +kernel) rfl rfl (Nat.le_of_ble_eq_true rfl) d_Item_init_11 (fun M2 H locs eM2 hw => ?_)
  have h2 : M2 q = some (.inr (kItem, [.int 0, .long 0, .long 0, .int (-1), .int (-1), .int 0, .null])) := x_up_self eM2
  replace eM2 := x_up2 eM1 eM2
  refine lv_aload_n hx hb d_Item_init_14 rfl (lv_at hl 0 rfl) ?_
  refine lv_iconst (v := 0) hx hb d_Item_init_15 (by decide) ?_
  refine x_put (C := "GateTimes$Item") (T := F_Item) (N := 7) (ty := .int) hx hb hts i_Item t_Item t_Item_ok n_Item hown hK hw h2 rfl 5 (by decide) (hts _ wd_146) (fun _ h9 => h9) rfl (by decide +kernel) rfl rfl (Nat.le_of_ble_eq_true rfl) d_Item_init_16 (fun M3 H locs eM3 hw => ?_)
  have h3 : M3 q = some (.inr (kItem, [.int 0, .long 0, .long 0, .int (-1), .int (-1), .int 0, .null])) := x_up_self eM3
  replace eM3 := x_up2 eM2 eM3
  refine lv_aload_n hx hb d_Item_init_19 rfl (lv_at hl 0 rfl) ?_
  refine lv_null hx hb d_Item_init_20 ?_
  refine x_put (C := "GateTimes$Item") (T := F_Item) (N := 7) (ty := .object "GateTimes$Item") hx hb hts i_Item t_Item t_Item_ok n_Item hown hK hw h3 rfl 6 (by decide) (hts _ wd_148) (fun _ h9 => h9) rfl (by decide +kernel) rfl rfl (Nat.le_of_ble_eq_true rfl) d_Item_init_21 (fun M4 H locs eM4 hw => ?_)
  have h4 : M4 q = some (.inr (kItem, [.int 0, .long 0, .long 0, .int (-1), .int (-1), .int 0, .null])) := x_up_self eM4
  replace eM4 := x_up2 eM3 eM4
  refine lv_aload_n hx hb d_Item_init_24 rfl (lv_at hl 0 rfl) ?_
  refine lv_iload_n hx hb d_Item_init_25 rfl (lv_at hl 1 rfl) ?_
  refine x_putF (C := "GateTimes$Item") (T := F_Item) (N := 7) (ty := .int) hx hb hts i_Item t_Item t_Item_ok n_Item hown hK hw h4 rfl 0 (by decide) (hts _ wd_134) (fun _ h9 => h9) rfl hnm rfl (by decide +kernel) rfl rfl (Nat.le_of_ble_eq_true rfl) d_Item_init_26 (fun M5 H locs eM5 hw => ?_)
  have h5 : M5 q = some (.inr (kItem, [.int n0, .long 0, .long 0, .int (-1), .int (-1), .int 0, .null])) := x_up_self eM5
  replace eM5 := x_up2 eM4 eM5
  refine lv_aload_n hx hb d_Item_init_29 rfl (lv_at hl 0 rfl) ?_
  refine lv_lload_n hx hb d_Item_init_30 rfl (lv_at hl 2 rfl) ?_
  refine x_putF (C := "GateTimes$Item") (T := F_Item) (N := 7) (ty := .long) hx hb hts i_Item t_Item t_Item_ok n_Item hown hK hw h5 rfl 1 (by decide) (hts _ wd_136) (fun _ h9 => h9) rfl hnm rfl (by decide +kernel) rfl rfl (Nat.le_of_ble_eq_true rfl) d_Item_init_31 (fun M6 H locs eM6 hw => ?_)
  have h6 : M6 q = some (.inr (kItem, [.int n0, .long a0, .long 0, .int (-1), .int (-1), .int 0, .null])) := x_up_self eM6
  replace eM6 := x_up2 eM5 eM6
  refine lv_aload_n hx hb d_Item_init_34 rfl (lv_at hl 0 rfl) ?_
  refine lv_lload hx hb d_Item_init_35 (lv_at hl 3 rfl) ?_
  refine x_putF (C := "GateTimes$Item") (T := F_Item) (N := 7) (ty := .long) hx hb hts i_Item t_Item t_Item_ok n_Item hown hK hw h6 rfl 2 (by decide) (hts _ wd_138) (fun _ h9 => h9) rfl hnm rfl (by decide +kernel) rfl rfl (Nat.le_of_ble_eq_true rfl) d_Item_init_37 (fun M7 H locs eM7 hw => ?_)
  have h7 : M7 q = some (.inr (kItem, [.int n0, .long a0, .long l0, .int (-1), .int (-1), .int 0, .null])) := x_up_self eM7
  replace eM7 := x_up2 eM6 eM7
  exact x_vret hx hb hr hlk hw (⟨rfl, eM7⟩) d_Item_init_40
set_option maxHeartbeats 4000000 in
set_option maxRecDepth 100000 in
theorem c_Gate_init (l : Launch) (D : va_G) (cs : Nat → ClassId) (M : xM) (sz : Nat) (q : Nat)  (h : M q = some (.inr (kGate, [.int 0, .int 0, .int 0, .int 0, .long 0]))) : Met l y_Gate_init w_Gate_init ({ frames := 1, cells := 0, slots := 0, locals := 12 }) (xPc D classes (xtys cs) M sz [.ref q]) (xQ D classes M sz (fun v M1 => v = none ∧ M1 = va_up M q (some (.inr (kGate, [.int 0, .int 0, .int 1000, .int 0, .long 0]))))) 0 0 (xA M sz) := by
  refine x_met (maxL := 1) (ret := (none)) (by decide) (Nat.le_of_ble_eq_true rfl) ?_
  intro p e s m below meth c ls hsz hF hr hlk hnm hK hZ hw hl
  obtain ⟨hx, hb, hml, hown, hts⟩ := id hF
  have hA : ∀ q, s.heap.size ≤ q → xA M sz q := x_hA hsz
  have hl : lv_has ls 1 [(0, .ref q)] := hl
  refine lv_aload_n hx hb d_Gate_init_0 rfl (lv_at hl 0 rfl) ?_
  refine W.objInit hx hb hown (hts _ wd_46) (hts _ wd_14) (hts _ wd_15) rfl (by rw [hml]; exact hl.1) rfl d_Gate_init_1 (Nat.le_of_ble_eq_true rfl) (Nat.le_of_ble_eq_true rfl) ?_
  refine W.eq (g2 := F0 m 4 ls []) rfl ?_
  refine lv_aload_n hx hb d_Gate_init_4 rfl (lv_at hl 0 rfl) ?_
  refine lv_iconst (v := 0) hx hb d_Gate_init_5 (by decide) ?_
  refine x_put (C := "GateTimes$Gate") (T := F_Gate) (N := 5) (ty := .boolean) hx hb hts i_Gate t_Gate t_Gate_ok n_Gate hown hK hw h rfl 0 (by decide) (hts _ wd_47) (fun _ h9 => h9) rfl (by decide +kernel) rfl rfl (Nat.le_of_ble_eq_true rfl) d_Gate_init_6 (fun M1 H locs eM1 hw => ?_)
  have h1 : M1 q = some (.inr (kGate, [.int 0, .int 0, .int 0, .int 0, .long 0])) := x_up_self eM1
  refine lv_aload_n hx hb d_Gate_init_9 rfl (lv_at hl 0 rfl) ?_
  refine lv_iconst (v := 0) hx hb d_Gate_init_10 (by decide) ?_
  refine x_put (C := "GateTimes$Gate") (T := F_Gate) (N := 5) (ty := .boolean) hx hb hts i_Gate t_Gate t_Gate_ok n_Gate hown hK hw h1 rfl 1 (by decide) (hts _ wd_48) (fun _ h9 => h9) rfl (by decide +kernel) rfl rfl (Nat.le_of_ble_eq_true rfl) d_Gate_init_11 (fun M2 H locs eM2 hw => ?_)
  have h2 : M2 q = some (.inr (kGate, [.int 0, .int 0, .int 0, .int 0, .long 0])) := x_up_self eM2
  replace eM2 := x_up2 eM1 eM2
  refine lv_aload_n hx hb d_Gate_init_14 rfl (lv_at hl 0 rfl) ?_
  refine lv_sipush (v := 1000) hx hb d_Gate_init_15 (by decide) ?_
  refine x_put (C := "GateTimes$Gate") (T := F_Gate) (N := 5) (ty := .int) hx hb hts i_Gate t_Gate t_Gate_ok n_Gate hown hK hw h2 rfl 2 (by decide) (hts _ wd_50) (fun _ h9 => h9) rfl (by decide +kernel) rfl rfl (Nat.le_of_ble_eq_true rfl) d_Gate_init_18 (fun M3 H locs eM3 hw => ?_)
  have h3 : M3 q = some (.inr (kGate, [.int 0, .int 0, .int 1000, .int 0, .long 0])) := x_up_self eM3
  replace eM3 := x_up2 eM2 eM3
  refine lv_aload_n hx hb d_Gate_init_21 rfl (lv_at hl 0 rfl) ?_
  refine lv_iconst (v := 0) hx hb d_Gate_init_22 (by decide) ?_
  refine x_put (C := "GateTimes$Gate") (T := F_Gate) (N := 5) (ty := .int) hx hb hts i_Gate t_Gate t_Gate_ok n_Gate hown hK hw h3 rfl 3 (by decide) (hts _ wd_52) (fun _ h9 => h9) rfl (by decide +kernel) rfl rfl (Nat.le_of_ble_eq_true rfl) d_Gate_init_23 (fun M4 H locs eM4 hw => ?_)
  have h4 : M4 q = some (.inr (kGate, [.int 0, .int 0, .int 1000, .int 0, .long 0])) := x_up_self eM4
  replace eM4 := x_up2 eM3 eM4
  refine lv_aload_n hx hb d_Gate_init_26 rfl (lv_at hl 0 rfl) ?_
  refine lv_lconst (v := 0) hx hb d_Gate_init_27 (by decide) ?_
  refine x_put (C := "GateTimes$Gate") (T := F_Gate) (N := 5) (ty := .long) hx hb hts i_Gate t_Gate t_Gate_ok n_Gate hown hK hw h4 rfl 4 (by decide) (hts _ wd_54) (fun _ h9 => h9) rfl (by decide +kernel) rfl rfl (Nat.le_of_ble_eq_true rfl) d_Gate_init_28 (fun M5 H locs eM5 hw => ?_)
  have h5 : M5 q = some (.inr (kGate, [.int 0, .int 0, .int 1000, .int 0, .long 0])) := x_up_self eM5
  replace eM5 := x_up2 eM4 eM5
  exact x_vret hx hb hr hlk hw (⟨rfl, eM5⟩) d_Gate_init_31
set_option maxHeartbeats 4000000 in
set_option maxRecDepth 100000 in
theorem c_Line_init (l : Launch) (D : va_G) (cs : Nat → ClassId) (M : xM) (sz : Nat) (q : Nat)  (h : M q = some (.inr (kLine, [.null, .null]))) : Met l y_Line_init w_Line_init ({ frames := 1, cells := 0, slots := 0, locals := 12 }) (xPc D classes (xtys cs) M sz [.ref q]) (xQ D classes M sz (fun v M1 => v = none ∧ M1 = va_up M q (some (.inr (kLine, [.null, .null]))))) 0 0 (xA M sz) := by
  refine x_met (maxL := 1) (ret := (none)) (by decide) (Nat.le_of_ble_eq_true rfl) ?_
  intro p e s m below meth c ls hsz hF hr hlk hnm hK hZ hw hl
  obtain ⟨hx, hb, hml, hown, hts⟩ := id hF
  have hA : ∀ q, s.heap.size ≤ q → xA M sz q := x_hA hsz
  have hl : lv_has ls 1 [(0, .ref q)] := hl
  refine lv_aload_n hx hb d_Line_init_0 rfl (lv_at hl 0 rfl) ?_
  refine W.objInit hx hb hown (hts _ wd_71) (hts _ wd_14) (hts _ wd_15) rfl (by rw [hml]; exact hl.1) rfl d_Line_init_1 (Nat.le_of_ble_eq_true rfl) (Nat.le_of_ble_eq_true rfl) ?_
  refine W.eq (g2 := F0 m 4 ls []) rfl ?_
  refine lv_aload_n hx hb d_Line_init_4 rfl (lv_at hl 0 rfl) ?_
  refine lv_null hx hb d_Line_init_5 ?_
  refine x_put (C := "GateTimes$Line") (T := F_Line) (N := 2) (ty := .object "GateTimes$Item") hx hb hts i_Line t_Line t_Line_ok n_Line hown hK hw h rfl 0 (by decide) (hts _ wd_72) (fun _ h9 => h9) rfl (by decide +kernel) rfl rfl (Nat.le_of_ble_eq_true rfl) d_Line_init_6 (fun M1 H locs eM1 hw => ?_)
  have h1 : M1 q = some (.inr (kLine, [.null, .null])) := x_up_self eM1
  refine lv_aload_n hx hb d_Line_init_9 rfl (lv_at hl 0 rfl) ?_
  refine lv_null hx hb d_Line_init_10 ?_
  refine x_put (C := "GateTimes$Line") (T := F_Line) (N := 2) (ty := .object "GateTimes$Item") hx hb hts i_Line t_Line t_Line_ok n_Line hown hK hw h1 rfl 1 (by decide) (hts _ wd_74) (fun _ h9 => h9) rfl (by decide +kernel) rfl rfl (Nat.le_of_ble_eq_true rfl) d_Line_init_11 (fun M2 H locs eM2 hw => ?_)
  have h2 : M2 q = some (.inr (kLine, [.null, .null])) := x_up_self eM2
  replace eM2 := x_up2 eM1 eM2
  exact x_vret hx hb hr hlk hw (⟨rfl, eM2⟩) d_Line_init_14
set_option maxHeartbeats 4000000 in
set_option maxRecDepth 100000 in
theorem c_Row_init (l : Launch) (D : va_G) (cs : Nat → ClassId) (M : xM) (sz : Nat) (q : Nat) (h : M q = some (.inr (kRow, [.null, .int 0]))) : Met l y_Row_init w_Row_init ({ frames := 1, cells := 1, slots := 400, locals := 12 }) (xPc D classes (xtys cs) M sz [.ref q]) (xQ D classes M sz (fun v M1 => v = none ∧ M1 = va_up (va_up M sz (some (aQ (cs 5) 400 (fun _ => none)))) q (some (cRow sz 0)))) 1 400 (xA M sz) := by
  refine x_met (maxL := 1) (ret := (none)) (by decide) (Nat.le_of_ble_eq_true rfl) ?_
  intro p e s m below meth c ls hsz hF hr hlk hnm hK hZ hw hl
  obtain ⟨hx, hb, hml, hown, hts⟩ := id hF
  have hA : ∀ q, s.heap.size ≤ q → xA M sz q := x_hA hsz
  have hl : lv_has ls 1 [(0, .ref q)] := hl
  refine lv_aload_n hx hb d_Row_init_0 rfl (lv_at hl 0 rfl) ?_
  refine W.objInit hx hb hown (hts _ wd_21) (hts _ wd_14) (hts _ wd_15) rfl (by rw [hml]; exact hl.1) rfl d_Row_init_1 (Nat.le_of_ble_eq_true rfl) (Nat.le_of_ble_eq_true rfl) ?_
  refine W.eq (g2 := F0 m 4 ls []) rfl ?_
  refine lv_aload_n hx hb d_Row_init_4 rfl (lv_at hl 0 rfl) ?_
  refine lv_sipush (v := 400) hx hb d_Row_init_5 (by decide) ?_
  refine x_newq (C := "GateTimes$Item") hx hb hown (hts _ wd_22) hZ.1 hK hw hA (cA := cs 5) (hK.2 5 _ rfl).2.choose_spec.choose_spec.2.2.2 (by decide) (N' := 400) rfl (by decide) (Nat.le_of_ble_eq_true rfl) (Nat.le_of_ble_eq_true rfl) d_Row_init_8 (fun M1 H1 eM1 hfr hz1 hw => ?_)
  have hne : q ≠ s.heap.size := fun z => x_some h (z ▸ hfr)
  have h1 : M1 q = some (.inr (kRow, [.null, .int 0])) := x_keep eM1 hne h
  have hq : s.heap.size = sz := hsz
  refine x_putF (C := "GateTimes$Row") (T := F_Row) (N := 2) (ty := .array (.object "GateTimes$Item")) hx hb hts i_Row t_Row t_Row_ok n_Row hown hK hw h1 rfl 0 (by decide) (hts _ wd_24) (fun _ h9 => h9) rfl hnm rfl (by decide +kernel) rfl rfl (Nat.le_of_ble_eq_true rfl) d_Row_init_11 (fun M2 H locs eM2 hw => ?_)
  have h2 : M2 q = some (.inr (kRow, [.ref s.heap.size, .int 0])) := x_up_self eM2
  refine lv_aload_n hx hb d_Row_init_14 rfl (lv_at hl 0 rfl) ?_
  refine lv_iconst (v := 0) hx hb d_Row_init_15 (by decide) ?_
  refine x_put (C := "GateTimes$Row") (T := F_Row) (N := 2) (ty := .int) hx hb hts i_Row t_Row t_Row_ok n_Row hown hK hw h2 rfl 1 (by decide) (hts _ wd_25) (fun _ h9 => h9) rfl (by decide +kernel) rfl rfl (Nat.le_of_ble_eq_true rfl) d_Row_init_16 (fun M3 H locs eM3 hw => ?_)
  exact x_vret hx hb hr hlk hw (⟨rfl, by rw [← hsz, x_up2 eM2 eM3, eM1]; rfl⟩) d_Row_init_19
