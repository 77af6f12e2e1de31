set_option maxHeartbeats 1000000 in
set_option maxRecDepth 100000 in
theorem c_Mo_init (l : Launch) (D : va_G) (cs : Nat → ClassId) (M : xM) (sz : Nat) (m0 : Nat) (gs : Int32) (hs0 : sz = m0 + 1) (h : M m0 = some (.inr (kMo, [.int 0, .int 0, .int 0, .null, .null, .null, .null, .null, .null, .null, .null, .null, .null, .null, .null, .null, .null, .long 0, .int 0, .null, .int 0]))) : Met l y_Mo_init w_Mo_init ({ frames := 1, cells := 15, slots := 3298, locals := 12 }) (xPc D classes (xtys cs) M sz [.ref m0, .int gs]) (xQ D classes M sz (fun rv M1 => rv = none ∧ mR cs M1 m0 (v00 (clG gs)) [])) 15 3298 (xA M sz) := by
  refine x_met (maxL := 3) (ret := (none)) (by decide) (Nat.le_of_ble_eq_true rfl) ?_
  intro p e s m below meth c ls hsz hF hr hlk hnm hK hZ hw hl
  obtain ⟨hx, hb, hml, hown, hts⟩ := id hF
  have hA : ∀ q, s.heap.size ≤ q → xA M sz q := x_hA hsz
  have hl : lv_has ls 3 [(0, .ref m0), (1, .int gs)] := hl
  refine lv_aload_n hx hb d_Mo_init_0 rfl (lv_at hl 0 rfl) ?_
  refine W.objInit hx hb hown (hts _ wd_258) (hts _ wd_14) (hts _ wd_15) rfl (by rw [hml]; exact hl.1) rfl d_Mo_init_1 (Nat.le_of_ble_eq_true rfl) (Nat.le_of_ble_eq_true rfl) ?_
  refine W.eq (g2 := F0 m 4 ls []) rfl ?_
  have hsz2 : s.heap.size = m0 + (0 + 1) := hsz.trans hs0
  have hY : mY cs M m0 0 := fun j h1 h2 => by omega
  refine lv_aload_n hx hb d_Mo_init_4 rfl (lv_at hl 0 rfl) ?_
  refine lv_sipush (v := 401) hx hb d_Mo_init_5 (by decide) ?_
  refine x_mk cs m0 0 (atype := .long) hx hb hts wd_323 rfl hown hK hw hA (cA := cs 1) (hK.2 1 _ rfl).2 (N' := 401) (a0 := (401, .inr (.inl (fun _ => 0)))) (fun _ => rfl) (by decide) rfl (by decide) (Nat.le_of_ble_eq_true rfl) (Nat.le_of_ble_eq_true rfl) d_Mo_init_8 hsz2 hY rfl h 3 (by decide) wd_262 rfl hnm rfl (ty2 := .array .long) (by decide +kernel) (fun _ => rfl) (fun _ => rfl) (Nat.le_of_ble_eq_true rfl) d_Mo_init_10 (fun P1 H locs hs9 hy9 hm9 hw9 => ?_)
  have h1 : P1 m0 = some (.inr (kMo, [.int 0, .int 0, .int 0, .ref (m0 + 1), .null, .null, .null, .null, .null, .null, .null, .null, .null, .null, .null, .null, .null, .long 0, .int 0, .null, .int 0])) := hm9
  clear hm9 hw hsz2 hY h
  have hw := hw9
  have hsz2 := hs9
  have hY := hy9
  clear hw9 hs9 hy9
  refine W.cs (cells' := 1) (slots' := 401) rfl rfl ?_
  refine lv_aload_n hx hb d_Mo_init_13 rfl (lv_at hl 0 rfl) ?_
  refine lv_sipush (v := 401) hx hb d_Mo_init_14 (by decide) ?_
  refine x_mk cs m0 1 (atype := .long) hx hb hts wd_323 rfl hown hK hw hA (cA := cs 1) (hK.2 1 _ rfl).2 (N' := 401) (a0 := (401, .inr (.inl (fun _ => 0)))) (fun _ => rfl) (by decide) rfl (by decide) (Nat.le_of_ble_eq_true rfl) (Nat.le_of_ble_eq_true rfl) d_Mo_init_17 hsz2 hY rfl h1 4 (by decide) wd_263 rfl hnm rfl (ty2 := .array .long) (by decide +kernel) (fun _ => rfl) (fun _ => rfl) (Nat.le_of_ble_eq_true rfl) d_Mo_init_19 (fun P2 H locs hs9 hy9 hm9 hw9 => ?_)
  have h2 : P2 m0 = some (.inr (kMo, [.int 0, .int 0, .int 0, .ref (m0 + 1), .ref (m0 + 2), .null, .null, .null, .null, .null, .null, .null, .null, .null, .null, .null, .null, .long 0, .int 0, .null, .int 0])) := hm9
  clear hm9 hw hsz2 hY h1
  have hw := hw9
  have hsz2 := hs9
  have hY := hy9
  clear hw9 hs9 hy9
  refine W.cs (cells' := 2) (slots' := 802) rfl rfl ?_
  refine lv_aload_n hx hb d_Mo_init_22 rfl (lv_at hl 0 rfl) ?_
  refine lv_sipush (v := 401) hx hb d_Mo_init_23 (by decide) ?_
  refine x_mk cs m0 2 (atype := .int) hx hb hts wd_66 rfl hown hK hw hA (cA := cs 0) (hK.2 0 _ rfl).2 (N' := 401) (a0 := (401, .inl (fun _ => 0))) (fun _ => rfl) (by decide) rfl (by decide) (Nat.le_of_ble_eq_true rfl) (Nat.le_of_ble_eq_true rfl) d_Mo_init_26 hsz2 hY rfl h2 5 (by decide) wd_264 rfl hnm rfl (ty2 := .array .int) (by decide +kernel) (fun _ => rfl) (fun _ => rfl) (Nat.le_of_ble_eq_true rfl) d_Mo_init_28 (fun P3 H locs hs9 hy9 hm9 hw9 => ?_)
  have h3 : P3 m0 = some (.inr (kMo, [.int 0, .int 0, .int 0, .ref (m0 + 1), .ref (m0 + 2), .ref (m0 + 3), .null, .null, .null, .null, .null, .null, .null, .null, .null, .null, .null, .long 0, .int 0, .null, .int 0])) := hm9
  clear hm9 hw hsz2 hY h2
  have hw := hw9
  have hsz2 := hs9
  have hY := hy9
  clear hw9 hs9 hy9
  refine W.cs (cells' := 3) (slots' := 1203) rfl rfl ?_
  refine lv_aload_n hx hb d_Mo_init_31 rfl (lv_at hl 0 rfl) ?_
  refine lv_sipush (v := 401) hx hb d_Mo_init_32 (by decide) ?_
  refine x_mk cs m0 3 (atype := .int) hx hb hts wd_66 rfl hown hK hw hA (cA := cs 0) (hK.2 0 _ rfl).2 (N' := 401) (a0 := (401, .inl (fun _ => 0))) (fun _ => rfl) (by decide) rfl (by decide) (Nat.le_of_ble_eq_true rfl) (Nat.le_of_ble_eq_true rfl) d_Mo_init_35 hsz2 hY rfl h3 6 (by decide) wd_265 rfl hnm rfl (ty2 := .array .int) (by decide +kernel) (fun _ => rfl) (fun _ => rfl) (Nat.le_of_ble_eq_true rfl) d_Mo_init_37 (fun P4 H locs hs9 hy9 hm9 hw9 => ?_)
  have h4 : P4 m0 = some (.inr (kMo, [.int 0, .int 0, .int 0, .ref (m0 + 1), .ref (m0 + 2), .ref (m0 + 3), .ref (m0 + 4), .null, .null, .null, .null, .null, .null, .null, .null, .null, .null, .long 0, .int 0, .null, .int 0])) := hm9
  clear hm9 hw hsz2 hY h3
  have hw := hw9
  have hsz2 := hs9
  have hY := hy9
  clear hw9 hs9 hy9
  refine W.cs (cells' := 4) (slots' := 1604) rfl rfl ?_
  refine lv_aload_n hx hb d_Mo_init_40 rfl (lv_at hl 0 rfl) ?_
  refine lv_sipush (v := 401) hx hb d_Mo_init_41 (by decide) ?_
  refine x_mk cs m0 4 (atype := .int) hx hb hts wd_66 rfl hown hK hw hA (cA := cs 0) (hK.2 0 _ rfl).2 (N' := 401) (a0 := (401, .inl (fun _ => 0))) (fun _ => rfl) (by decide) rfl (by decide) (Nat.le_of_ble_eq_true rfl) (Nat.le_of_ble_eq_true rfl) d_Mo_init_44 hsz2 hY rfl h4 7 (by decide) wd_266 rfl hnm rfl (ty2 := .array .int) (by decide +kernel) (fun _ => rfl) (fun _ => rfl) (Nat.le_of_ble_eq_true rfl) d_Mo_init_46 (fun P5 H locs hs9 hy9 hm9 hw9 => ?_)
  have h5 : P5 m0 = some (.inr (kMo, [.int 0, .int 0, .int 0, .ref (m0 + 1), .ref (m0 + 2), .ref (m0 + 3), .ref (m0 + 4), .ref (m0 + 5), .null, .null, .null, .null, .null, .null, .null, .null, .null, .long 0, .int 0, .null, .int 0])) := hm9
  clear hm9 hw hsz2 hY h4
  have hw := hw9
  have hsz2 := hs9
  have hY := hy9
  clear hw9 hs9 hy9
  refine W.cs (cells' := 5) (slots' := 2005) rfl rfl ?_
  refine lv_aload_n hx hb d_Mo_init_49 rfl (lv_at hl 0 rfl) ?_
  refine lv_sipush (v := 401) hx hb d_Mo_init_50 (by decide) ?_
  refine x_mk cs m0 5 (atype := .int) hx hb hts wd_66 rfl hown hK hw hA (cA := cs 0) (hK.2 0 _ rfl).2 (N' := 401) (a0 := (401, .inl (fun _ => 0))) (fun _ => rfl) (by decide) rfl (by decide) (Nat.le_of_ble_eq_true rfl) (Nat.le_of_ble_eq_true rfl) d_Mo_init_53 hsz2 hY rfl h5 8 (by decide) wd_267 rfl hnm rfl (ty2 := .array .int) (by decide +kernel) (fun _ => rfl) (fun _ => rfl) (Nat.le_of_ble_eq_true rfl) d_Mo_init_55 (fun P6 H locs hs9 hy9 hm9 hw9 => ?_)
  have h6 : P6 m0 = some (.inr (kMo, [.int 0, .int 0, .int 0, .ref (m0 + 1), .ref (m0 + 2), .ref (m0 + 3), .ref (m0 + 4), .ref (m0 + 5), .ref (m0 + 6), .null, .null, .null, .null, .null, .null, .null, .null, .long 0, .int 0, .null, .int 0])) := hm9
  clear hm9 hw hsz2 hY h5
  have hw := hw9
  have hsz2 := hs9
  have hY := hy9
  clear hw9 hs9 hy9
  refine W.cs (cells' := 6) (slots' := 2406) rfl rfl ?_
  refine lv_aload_n hx hb d_Mo_init_58 rfl (lv_at hl 0 rfl) ?_
  refine lv_sipush (v := 401) hx hb d_Mo_init_59 (by decide) ?_
  refine x_mk cs m0 6 (atype := .long) hx hb hts wd_323 rfl hown hK hw hA (cA := cs 1) (hK.2 1 _ rfl).2 (N' := 401) (a0 := (401, .inr (.inl (fun _ => 0)))) (fun _ => rfl) (by decide) rfl (by decide) (Nat.le_of_ble_eq_true rfl) (Nat.le_of_ble_eq_true rfl) d_Mo_init_62 hsz2 hY rfl h6 9 (by decide) wd_268 rfl hnm rfl (ty2 := .array .long) (by decide +kernel) (fun _ => rfl) (fun _ => rfl) (Nat.le_of_ble_eq_true rfl) d_Mo_init_64 (fun P7 H locs hs9 hy9 hm9 hw9 => ?_)
  have h7 : P7 m0 = some (.inr (kMo, [.int 0, .int 0, .int 0, .ref (m0 + 1), .ref (m0 + 2), .ref (m0 + 3), .ref (m0 + 4), .ref (m0 + 5), .ref (m0 + 6), .ref (m0 + 7), .null, .null, .null, .null, .null, .null, .null, .long 0, .int 0, .null, .int 0])) := hm9
  clear hm9 hw hsz2 hY h6
  have hw := hw9
  have hsz2 := hs9
  have hY := hy9
  clear hw9 hs9 hy9
  refine W.cs (cells' := 7) (slots' := 2807) rfl rfl ?_
  refine lv_aload_n hx hb d_Mo_init_67 rfl (lv_at hl 0 rfl) ?_
  refine lv_bipush (v := 13) hx hb d_Mo_init_68 (by decide) ?_
  refine x_mk cs m0 7 (atype := .boolean) hx hb hts wd_324 rfl hown hK hw hA (cA := cs 2) (hK.2 2 _ rfl).2 (N' := 13) (a0 := (13, .inl (fun _ => 0))) (fun _ => rfl) (by decide) rfl (by decide) (Nat.le_of_ble_eq_true rfl) (Nat.le_of_ble_eq_true rfl) d_Mo_init_70 hsz2 hY rfl h7 10 (by decide) wd_269 rfl hnm rfl (ty2 := .array .boolean) (by decide +kernel) (fun _ => rfl) (fun _ => rfl) (Nat.le_of_ble_eq_true rfl) d_Mo_init_72 (fun P8 H locs hs9 hy9 hm9 hw9 => ?_)
  have h8 : P8 m0 = some (.inr (kMo, [.int 0, .int 0, .int 0, .ref (m0 + 1), .ref (m0 + 2), .ref (m0 + 3), .ref (m0 + 4), .ref (m0 + 5), .ref (m0 + 6), .ref (m0 + 7), .ref (m0 + 8), .null, .null, .null, .null, .null, .null, .long 0, .int 0, .null, .int 0])) := hm9
  clear hm9 hw hsz2 hY h7
  have hw := hw9
  have hsz2 := hs9
  have hY := hy9
  clear hw9 hs9 hy9
  refine W.cs (cells' := 8) (slots' := 2820) rfl rfl ?_
  refine lv_aload_n hx hb d_Mo_init_75 rfl (lv_at hl 0 rfl) ?_
  refine lv_bipush (v := 13) hx hb d_Mo_init_76 (by decide) ?_
  refine x_mk cs m0 8 (atype := .boolean) hx hb hts wd_324 rfl hown hK hw hA (cA := cs 2) (hK.2 2 _ rfl).2 (N' := 13) (a0 := (13, .inl (fun _ => 0))) (fun _ => rfl) (by decide) rfl (by decide) (Nat.le_of_ble_eq_true rfl) (Nat.le_of_ble_eq_true rfl) d_Mo_init_78 hsz2 hY rfl h8 11 (by decide) wd_270 rfl hnm rfl (ty2 := .array .boolean) (by decide +kernel) (fun _ => rfl) (fun _ => rfl) (Nat.le_of_ble_eq_true rfl) d_Mo_init_80 (fun P9 H locs hs9 hy9 hm9 hw9 => ?_)
  have h9 : P9 m0 = some (.inr (kMo, [.int 0, .int 0, .int 0, .ref (m0 + 1), .ref (m0 + 2), .ref (m0 + 3), .ref (m0 + 4), .ref (m0 + 5), .ref (m0 + 6), .ref (m0 + 7), .ref (m0 + 8), .ref (m0 + 9), .null, .null, .null, .null, .null, .long 0, .int 0, .null, .int 0])) := hm9
  clear hm9 hw hsz2 hY h8
  have hw := hw9
  have hsz2 := hs9
  have hY := hy9
  clear hw9 hs9 hy9
  refine W.cs (cells' := 9) (slots' := 2833) rfl rfl ?_
  refine lv_aload_n hx hb d_Mo_init_83 rfl (lv_at hl 0 rfl) ?_
  refine lv_bipush (v := 13) hx hb d_Mo_init_84 (by decide) ?_
  refine x_mk cs m0 9 (atype := .boolean) hx hb hts wd_324 rfl hown hK hw hA (cA := cs 2) (hK.2 2 _ rfl).2 (N' := 13) (a0 := (13, .inl (fun _ => 0))) (fun _ => rfl) (by decide) rfl (by decide) (Nat.le_of_ble_eq_true rfl) (Nat.le_of_ble_eq_true rfl) d_Mo_init_86 hsz2 hY rfl h9 12 (by decide) wd_271 rfl hnm rfl (ty2 := .array .boolean) (by decide +kernel) (fun _ => rfl) (fun _ => rfl) (Nat.le_of_ble_eq_true rfl) d_Mo_init_88 (fun P10 H locs hs9 hy9 hm9 hw9 => ?_)
  have h10 : P10 m0 = some (.inr (kMo, [.int 0, .int 0, .int 0, .ref (m0 + 1), .ref (m0 + 2), .ref (m0 + 3), .ref (m0 + 4), .ref (m0 + 5), .ref (m0 + 6), .ref (m0 + 7), .ref (m0 + 8), .ref (m0 + 9), .ref (m0 + 10), .null, .null, .null, .null, .long 0, .int 0, .null, .int 0])) := hm9
  clear hm9 hw hsz2 hY h9
  have hw := hw9
  have hsz2 := hs9
  have hY := hy9
  clear hw9 hs9 hy9
  refine W.cs (cells' := 10) (slots' := 2846) rfl rfl ?_
  refine lv_aload_n hx hb d_Mo_init_91 rfl (lv_at hl 0 rfl) ?_
  refine lv_bipush (v := 13) hx hb d_Mo_init_92 (by decide) ?_
  refine x_mk cs m0 10 (atype := .long) hx hb hts wd_323 rfl hown hK hw hA (cA := cs 1) (hK.2 1 _ rfl).2 (N' := 13) (a0 := (13, .inr (.inl (fun _ => 0)))) (fun _ => rfl) (by decide) rfl (by decide) (Nat.le_of_ble_eq_true rfl) (Nat.le_of_ble_eq_true rfl) d_Mo_init_94 hsz2 hY rfl h10 13 (by decide) wd_272 rfl hnm rfl (ty2 := .array .long) (by decide +kernel) (fun _ => rfl) (fun _ => rfl) (Nat.le_of_ble_eq_true rfl) d_Mo_init_96 (fun P11 H locs hs9 hy9 hm9 hw9 => ?_)
  have h11 : P11 m0 = some (.inr (kMo, [.int 0, .int 0, .int 0, .ref (m0 + 1), .ref (m0 + 2), .ref (m0 + 3), .ref (m0 + 4), .ref (m0 + 5), .ref (m0 + 6), .ref (m0 + 7), .ref (m0 + 8), .ref (m0 + 9), .ref (m0 + 10), .ref (m0 + 11), .null, .null, .null, .long 0, .int 0, .null, .int 0])) := hm9
  clear hm9 hw hsz2 hY h10
  have hw := hw9
  have hsz2 := hs9
  have hY := hy9
  clear hw9 hs9 hy9
  refine W.cs (cells' := 11) (slots' := 2859) rfl rfl ?_
  refine lv_aload_n hx hb d_Mo_init_99 rfl (lv_at hl 0 rfl) ?_
  refine lv_bipush (v := 13) hx hb d_Mo_init_100 (by decide) ?_
  refine x_mk cs m0 11 (atype := .int) hx hb hts wd_66 rfl hown hK hw hA (cA := cs 0) (hK.2 0 _ rfl).2 (N' := 13) (a0 := (13, .inl (fun _ => 0))) (fun _ => rfl) (by decide) rfl (by decide) (Nat.le_of_ble_eq_true rfl) (Nat.le_of_ble_eq_true rfl) d_Mo_init_102 hsz2 hY rfl h11 14 (by decide) wd_273 rfl hnm rfl (ty2 := .array .int) (by decide +kernel) (fun _ => rfl) (fun _ => rfl) (Nat.le_of_ble_eq_true rfl) d_Mo_init_104 (fun P12 H locs hs9 hy9 hm9 hw9 => ?_)
  have h12 : P12 m0 = some (.inr (kMo, [.int 0, .int 0, .int 0, .ref (m0 + 1), .ref (m0 + 2), .ref (m0 + 3), .ref (m0 + 4), .ref (m0 + 5), .ref (m0 + 6), .ref (m0 + 7), .ref (m0 + 8), .ref (m0 + 9), .ref (m0 + 10), .ref (m0 + 11), .ref (m0 + 12), .null, .null, .long 0, .int 0, .null, .int 0])) := hm9
  clear hm9 hw hsz2 hY h11
  have hw := hw9
  have hsz2 := hs9
  have hY := hy9
  clear hw9 hs9 hy9
  refine W.cs (cells' := 12) (slots' := 2872) rfl rfl ?_
  refine lv_aload_n hx hb d_Mo_init_107 rfl (lv_at hl 0 rfl) ?_
  refine lv_bipush (v := 13) hx hb d_Mo_init_108 (by decide) ?_
  refine x_mk cs m0 12 (atype := .int) hx hb hts wd_66 rfl hown hK hw hA (cA := cs 0) (hK.2 0 _ rfl).2 (N' := 13) (a0 := (13, .inl (fun _ => 0))) (fun _ => rfl) (by decide) rfl (by decide) (Nat.le_of_ble_eq_true rfl) (Nat.le_of_ble_eq_true rfl) d_Mo_init_110 hsz2 hY rfl h12 15 (by decide) wd_274 rfl hnm rfl (ty2 := .array .int) (by decide +kernel) (fun _ => rfl) (fun _ => rfl) (Nat.le_of_ble_eq_true rfl) d_Mo_init_112 (fun P13 H locs hs9 hy9 hm9 hw9 => ?_)
  have h13 : P13 m0 = some (.inr (kMo, [.int 0, .int 0, .int 0, .ref (m0 + 1), .ref (m0 + 2), .ref (m0 + 3), .ref (m0 + 4), .ref (m0 + 5), .ref (m0 + 6), .ref (m0 + 7), .ref (m0 + 8), .ref (m0 + 9), .ref (m0 + 10), .ref (m0 + 11), .ref (m0 + 12), .ref (m0 + 13), .null, .long 0, .int 0, .null, .int 0])) := hm9
  clear hm9 hw hsz2 hY h12
  have hw := hw9
  have hsz2 := hs9
  have hY := hy9
  clear hw9 hs9 hy9
  refine W.cs (cells' := 13) (slots' := 2885) rfl rfl ?_
  refine lv_aload_n hx hb d_Mo_init_115 rfl (lv_at hl 0 rfl) ?_
  refine lv_bipush (v := 13) hx hb d_Mo_init_116 (by decide) ?_
  refine x_mk cs m0 13 (atype := .int) hx hb hts wd_66 rfl hown hK hw hA (cA := cs 0) (hK.2 0 _ rfl).2 (N' := 13) (a0 := (13, .inl (fun _ => 0))) (fun _ => rfl) (by decide) rfl (by decide) (Nat.le_of_ble_eq_true rfl) (Nat.le_of_ble_eq_true rfl) d_Mo_init_118 hsz2 hY rfl h13 16 (by decide) wd_275 rfl hnm rfl (ty2 := .array .int) (by decide +kernel) (fun _ => rfl) (fun _ => rfl) (Nat.le_of_ble_eq_true rfl) d_Mo_init_120 (fun P14 H locs hs9 hy9 hm9 hw9 => ?_)
  have h14 : P14 m0 = some (.inr (kMo, [.int 0, .int 0, .int 0, .ref (m0 + 1), .ref (m0 + 2), .ref (m0 + 3), .ref (m0 + 4), .ref (m0 + 5), .ref (m0 + 6), .ref (m0 + 7), .ref (m0 + 8), .ref (m0 + 9), .ref (m0 + 10), .ref (m0 + 11), .ref (m0 + 12), .ref (m0 + 13), .ref (m0 + 14), .long 0, .int 0, .null, .int 0])) := hm9
  clear hm9 hw hsz2 hY h13
  have hw := hw9
  have hsz2 := hs9
  have hY := hy9
  clear hw9 hs9 hy9
  refine W.cs (cells' := 14) (slots' := 2898) rfl rfl ?_
  refine lv_aload_n hx hb d_Mo_init_123 rfl (lv_at hl 0 rfl) ?_
  refine lv_sipush (v := 400) hx hb d_Mo_init_124 (by decide) ?_
  refine x_mk cs m0 14 (atype := .int) hx hb hts wd_66 rfl hown hK hw hA (cA := cs 0) (hK.2 0 _ rfl).2 (N' := 400) (a0 := (400, .inl (fun _ => 0))) (fun _ => rfl) (by decide) rfl (by decide) (Nat.le_of_ble_eq_true rfl) (Nat.le_of_ble_eq_true rfl) d_Mo_init_127 hsz2 hY rfl h14 19 (by decide) wd_278 rfl hnm rfl (ty2 := .array .int) (by decide +kernel) (fun _ => rfl) (fun _ => rfl) (Nat.le_of_ble_eq_true rfl) d_Mo_init_129 (fun P15 H locs hs9 hy9 hm9 hw9 => ?_)
  have h15 : P15 m0 = some (.inr (kMo, [.int 0, .int 0, .int 0, .ref (m0 + 1), .ref (m0 + 2), .ref (m0 + 3), .ref (m0 + 4), .ref (m0 + 5), .ref (m0 + 6), .ref (m0 + 7), .ref (m0 + 8), .ref (m0 + 9), .ref (m0 + 10), .ref (m0 + 11), .ref (m0 + 12), .ref (m0 + 13), .ref (m0 + 14), .long 0, .int 0, .ref (m0 + 15), .int 0])) := hm9
  clear hm9 hw hsz2 hY h14
  have hw := hw9
  have hsz2 := hs9
  have hY := hy9
  clear hw9 hs9 hy9
  refine W.cs (cells' := 15) (slots' := 3298) rfl rfl ?_
  refine lv_aload_n hx hb d_Mo_init_132 rfl (lv_at hl 0 rfl) ?_
  refine x_cut (α := Int32) 154 (fun b => b = nI (clG gs)) (fun b => [.int b, .ref m0]) (fun b hJ => ?_) (fun J154 => ?_)
  ·
    subst hJ
    refine x_putF (C := "GateTimesModel") (T := F_Mo) (N := 21) (ty := .int) hx hb hts i_Mo t_Mo t_Mo_ok n_Mo hown hK hw h15 rfl 1 (by decide) (hts _ wd_260) (fun _ h9 => h9) rfl hnm rfl (by decide +kernel) rfl rfl (Nat.le_of_ble_eq_true rfl) d_Mo_init_154 (fun Mg H locs eMg hw => ?_)
    have hg : Mg m0 = some (.inr (kMo, [.int 0, .int (nI (clG gs)), .int 0, .ref (m0 + 1), .ref (m0 + 2), .ref (m0 + 3), .ref (m0 + 4), .ref (m0 + 5), .ref (m0 + 6), .ref (m0 + 7), .ref (m0 + 8), .ref (m0 + 9), .ref (m0 + 10), .ref (m0 + 11), .ref (m0 + 12), .ref (m0 + 13), .ref (m0 + 14), .long 0, .int 0, .ref (m0 + 15), .int 0])) := x_up_self eMg
    have hm : mR cs Mg m0 (v0k (clG gs) 0) [] := mR_made (mY_put hY eMg) (by rw [mHead_0]; exact hg)
    refine lv_iconst (v := 0) hx hb d_Mo_init_157 (by decide) ?_
    refine lv_istore_n (lv' := [(2, .int 0), (0, .ref m0), (1, .int gs)]) hx hb d_Mo_init_158 rfl hl (by decide) rfl (fun ls hl => ?_)
    have hl : lv_has ls 3 [(2, .int (nI 0)), (0, .ref m0), (1, .int gs)] := hl
    refine x_loop (A := xA M sz) (D := D) (cl := classes) (H0 := s.heap) (nL := 3) (σ := Nat × xM) (fun ⟨k, My⟩ => 13 - k) (fun ⟨k, My⟩ => k ≤ 13 ∧ mR cs My m0 (v0k (clG gs) k) []) (fun ⟨k, My⟩ => My) (fun ⟨k, My⟩ => [(2, .int (nI k)), (0, .ref m0), (1, .int gs)]) (fun z hI ih H locs ls hw hl => ?_) (0, Mg) ⟨Nat.zero_le _, hm⟩ _ _ _ hw hl
    obtain ⟨k, My⟩ := z
    try dsimp only at hI hw hl ih
    obtain ⟨k1, k2⟩ := hI
    have z0 : My m0 = some (mHead m0 (v0k (clG gs) k) []) := k2 0 (by decide)
    have g12 : My (m0 + 12) = some (aI (cs 0) 13 (fun g => nI (if g < k then 1000 else 0))) := by
      rw [k2 12 (by decide)]
      simp [mel, v0k]
    refine lv_iload_n hx hb d_Mo_init_159 rfl (lv_at hl 0 rfl) ?_
    refine lv_bipush (v := 13) hx hb d_Mo_init_160 (by decide) ?_
    refine lv_icmp_ge (tgt := 180) hx hb d_Mo_init_162 (by decide) (fun c162 => ?_) (fun c162 => ?_)
    ·
      have hk : k = 13 := by
        have := (nI_leI (a := 13) (b := k) (by decide) (by omega)).mp c162
        omega
      subst hk
      exact x_vret hx hb hr hlk hw (⟨rfl, k2⟩) d_Mo_init_180
    ·
      have hk : k < 13 := Nat.lt_of_not_le (fun z => c162 ((nI_leI (a := 13) (b := k) (by decide) (by omega)).mpr z))
      refine lv_aload_n hx hb d_Mo_init_165 rfl (lv_at hl 1 rfl) ?_
      refine x_get (C := "GateTimesModel") (T := F_Mo) (N := 21) hx hb hts i_Mo hown hK hw z0 rfl 14 (by decide) (hts _ wd_273) (fun _ h9 => h9) rfl d_Mo_init_166 ?_
      refine lv_iload_n hx hb d_Mo_init_169 rfl (lv_at hl 0 rfl) ?_
      refine lv_sipush (v := 1000) hx hb d_Mo_init_170 (by decide) ?_
      refine x_iastN hx hb hK hw g12 0 rfl hk (by decide) d_Mo_init_173 (fun Mn H locs eMn hw => ?_)
      obtain ⟨n174, en174⟩ : ∃ y : Int32, y = (nI k) + 1 := ⟨_, rfl⟩
      refine lv_iinc (v := n174) (lv' := [(2, .int n174), (0, .ref m0), (1, .int gs)]) hx hb d_Mo_init_174 hl (k := 0) rfl (by rw [en174]; rfl) (by decide) rfl (fun ls hl => ?_)
      obtain rfl : n174 = nI (k + 1) := en174.trans (nI_1 k)
      refine lv_goto (tgt := 159) hx hb d_Mo_init_177 (by decide) ?_
      exact ih (k + 1, Mn) ⟨by first | omega | (dsimp only; omega), mR_hei k2 eMn⟩ (by first | omega | (dsimp only; omega)) _ _ _ hw (lv_sub hl [0, 1, 2] rfl)
  ·
    refine lv_iload_n hx hb d_Mo_init_133 rfl (lv_at hl 1 rfl) ?_
    refine lv_iconst (v := 1) hx hb d_Mo_init_134 (by decide) ?_
    refine lv_icmp_ge (tgt := 142) hx hb d_Mo_init_135 (by decide) (fun c135 => ?_) (fun c135 => ?_)
    ·
      refine lv_iload_n hx hb d_Mo_init_142 rfl (lv_at hl 1 rfl) ?_
      refine lv_bipush (v := 12) hx hb d_Mo_init_143 (by decide) ?_
      refine lv_icmp_le (tgt := 153) hx hb d_Mo_init_145 (by decide) (fun c145 => ?_) (fun c145 => ?_)
      ·
        refine lv_iload_n hx hb d_Mo_init_153 rfl (lv_at hl 1 rfl) ?_
        exact J154 _ (clG_n (fun z => Int32.not_lt.mpr c135 z) (fun z => Int32.not_lt.mpr c145 z)).symm
      ·
        refine lv_bipush (v := 12) hx hb d_Mo_init_148 (by decide) ?_
        refine lv_goto (tgt := 154) hx hb d_Mo_init_150 (by decide) ?_
        exact J154 12 (by unfold clG; rw [if_neg (fun z => Int32.not_lt.mpr c135 z), if_pos (Int32.not_le.mp c145)]; rfl)
    ·
      refine lv_iconst (v := 1) hx hb d_Mo_init_138 (by decide) ?_
      refine lv_goto (tgt := 154) hx hb d_Mo_init_139 (by decide) ?_
      exact J154 1 (by unfold clG; rw [if_pos (Int32.not_le.mp c135)]; rfl)
