set_option maxHeartbeats 4000000 in
set_option maxRecDepth 100000 in
theorem c_Mo_init (l : Launch) (D : va_G) (cs : Nat → ClassId) (M : xM) (sz : Nat) (m0 : Nat) (gs : Int32) (hs0 : sz = m0 + 1) (h : M m0 = some (.inr (kMo, [.int 0, .int 0, .int 0, .null, .null, .null, .null, .null, .null, .null, .null, .null, .null, .null, .null, .null, .null, .long 0, .int 0, .null, .int 0]))) : Met l y_Mo_init w_Mo_init ({ frames := 1, cells := 15, slots := 3298, locals := 12 }) (xPc D classes (xtys cs) M sz [.ref m0, .int gs]) (xQ D classes M sz (fun rv M1 => rv = none ∧ mR cs M1 m0 (v00 (clG gs)) [])) 15 3298 (xA M sz) := by
  refine x_met (maxL := 3) (ret := (none)) (by decide) (Nat.le_of_ble_eq_true rfl) ?_
  intro p e s m below meth c ls hsz hF hr hlk hnm hK hZ hw hl
  obtain ⟨hx, hb, hml, hown, hts⟩ := id hF
  have hA : ∀ q, s.heap.size ≤ q → xA M sz q := x_hA hsz
  have hl : lv_has ls 3 [(0, .ref m0), (1, .int gs)] := hl
  refine lv_aload_n hx hb d_Mo_init_0 rfl (lv_at hl 0 rfl) ?_
  refine W.objInit hx hb hown (hts _ wd_258) (hts _ wd_14) (hts _ wd_15) rfl (by rw [hml]; exact hl.1) rfl d_Mo_init_1 (Nat.le_of_ble_eq_true rfl) (Nat.le_of_ble_eq_true rfl) ?_
  refine W.eq (g2 := F0 m 4 ls []) rfl ?_
  have hsz2 : s.heap.size = m0 + 1 := hsz.trans hs0
  refine lv_aload_n hx hb d_Mo_init_4 rfl (lv_at hl 0 rfl) ?_
  refine lv_sipush (v := 401) hx hb d_Mo_init_5 (by decide) ?_
  refine x_newaO hx hb (hts _ wd_323) rfl hK hw hA (cA := cs 1) (hK.2 1 _ rfl).2 (N' := 401) (a0 := (401, .inr (.inl (fun _ => 0)))) (fun _ => rfl) (by decide) rfl (by decide) (Nat.le_of_ble_eq_true rfl) (Nat.le_of_ble_eq_true rfl) d_Mo_init_8 (fun q1 N1 H eq1 eN1 hn1 hz1 hw => ?_)
  obtain rfl : q1 = m0 + 1 := by omega
  have h1a : N1 m0 = some (.inr (kMo, [.int 0, .int 0, .int 0, .null, .null, .null, .null, .null, .null, .null, .null, .null, .null, .null, .null, .null, .null, .long 0, .int 0, .null, .int 0])) := x_keep eN1 (by omega) h
  have y1 : N1 (m0 + 1) = some (aL (cs 1) 401 (fun _ => 0)) := x_up_self eN1
  refine x_putFS (C := "GateTimesModel") (T := F_Mo) (N := 21) (ty := .array .long) hx hb hts i_Mo t_Mo t_Mo_ok n_Mo hown hK hw h1a rfl 3 (by decide) (hts _ wd_262) (fun _ h9 => h9) rfl hnm rfl (by decide +kernel) rfl rfl (Nat.le_of_ble_eq_true rfl) d_Mo_init_10 (fun P1 H locs eP1 hsP1 hw => ?_)
  have h1 : P1 m0 = some (.inr (kMo, [.int 0, .int 0, .int 0, .ref (m0 + 1), .null, .null, .null, .null, .null, .null, .null, .null, .null, .null, .null, .null, .null, .long 0, .int 0, .null, .int 0])) := x_up_self eP1
  have y1 : P1 (m0 + 1) = some (aL (cs 1) 401 (fun _ => 0)) := x_keep eP1 (by omega) y1
  refine lv_aload_n hx hb d_Mo_init_13 rfl (lv_at hl 0 rfl) ?_
  refine lv_sipush (v := 401) hx hb d_Mo_init_14 (by decide) ?_
  refine x_newaO hx hb (hts _ wd_323) rfl hK hw hA (cA := cs 1) (hK.2 1 _ rfl).2 (N' := 401) (a0 := (401, .inr (.inl (fun _ => 0)))) (fun _ => rfl) (by decide) rfl (by decide) (Nat.le_of_ble_eq_true rfl) (Nat.le_of_ble_eq_true rfl) d_Mo_init_17 (fun q2 N2 H eq2 eN2 hn2 hz2 hw => ?_)
  obtain rfl : q2 = m0 + 2 := by omega
  have h2a : N2 m0 = some (.inr (kMo, [.int 0, .int 0, .int 0, .ref (m0 + 1), .null, .null, .null, .null, .null, .null, .null, .null, .null, .null, .null, .null, .null, .long 0, .int 0, .null, .int 0])) := x_keep eN2 (by omega) h1
  have y1 : N2 (m0 + 1) = some (aL (cs 1) 401 (fun _ => 0)) := x_keep eN2 (by omega) y1
  have y2 : N2 (m0 + 2) = some (aL (cs 1) 401 (fun _ => 0)) := x_up_self eN2
  refine x_putFS (C := "GateTimesModel") (T := F_Mo) (N := 21) (ty := .array .long) hx hb hts i_Mo t_Mo t_Mo_ok n_Mo hown hK hw h2a rfl 4 (by decide) (hts _ wd_263) (fun _ h9 => h9) rfl hnm rfl (by decide +kernel) rfl rfl (Nat.le_of_ble_eq_true rfl) d_Mo_init_19 (fun P2 H locs eP2 hsP2 hw => ?_)
  have h2 : P2 m0 = some (.inr (kMo, [.int 0, .int 0, .int 0, .ref (m0 + 1), .ref (m0 + 2), .null, .null, .null, .null, .null, .null, .null, .null, .null, .null, .null, .null, .long 0, .int 0, .null, .int 0])) := x_up_self eP2
  have y1 : P2 (m0 + 1) = some (aL (cs 1) 401 (fun _ => 0)) := x_keep eP2 (by omega) y1
  have y2 : P2 (m0 + 2) = some (aL (cs 1) 401 (fun _ => 0)) := x_keep eP2 (by omega) y2
  refine lv_aload_n hx hb d_Mo_init_22 rfl (lv_at hl 0 rfl) ?_
  refine lv_sipush (v := 401) hx hb d_Mo_init_23 (by decide) ?_
  refine x_newaO hx hb (hts _ wd_66) rfl hK hw hA (cA := cs 0) (hK.2 0 _ rfl).2 (N' := 401) (a0 := (401, .inl (fun _ => 0))) (fun _ => rfl) (by decide) rfl (by decide) (Nat.le_of_ble_eq_true rfl) (Nat.le_of_ble_eq_true rfl) d_Mo_init_26 (fun q3 N3 H eq3 eN3 hn3 hz3 hw => ?_)
  obtain rfl : q3 = m0 + 3 := by omega
  have h3a : N3 m0 = some (.inr (kMo, [.int 0, .int 0, .int 0, .ref (m0 + 1), .ref (m0 + 2), .null, .null, .null, .null, .null, .null, .null, .null, .null, .null, .null, .null, .long 0, .int 0, .null, .int 0])) := x_keep eN3 (by omega) h2
  have y1 : N3 (m0 + 1) = some (aL (cs 1) 401 (fun _ => 0)) := x_keep eN3 (by omega) y1
  have y2 : N3 (m0 + 2) = some (aL (cs 1) 401 (fun _ => 0)) := x_keep eN3 (by omega) y2
  have y3 : N3 (m0 + 3) = some (aI (cs 0) 401 (fun _ => 0)) := x_up_self eN3
  refine x_putFS (C := "GateTimesModel") (T := F_Mo) (N := 21) (ty := .array .int) hx hb hts i_Mo t_Mo t_Mo_ok n_Mo hown hK hw h3a rfl 5 (by decide) (hts _ wd_264) (fun _ h9 => h9) rfl hnm rfl (by decide +kernel) rfl rfl (Nat.le_of_ble_eq_true rfl) d_Mo_init_28 (fun P3 H locs eP3 hsP3 hw => ?_)
  have h3 : P3 m0 = some (.inr (kMo, [.int 0, .int 0, .int 0, .ref (m0 + 1), .ref (m0 + 2), .ref (m0 + 3), .null, .null, .null, .null, .null, .null, .null, .null, .null, .null, .null, .long 0, .int 0, .null, .int 0])) := x_up_self eP3
  have y1 : P3 (m0 + 1) = some (aL (cs 1) 401 (fun _ => 0)) := x_keep eP3 (by omega) y1
  have y2 : P3 (m0 + 2) = some (aL (cs 1) 401 (fun _ => 0)) := x_keep eP3 (by omega) y2
  have y3 : P3 (m0 + 3) = some (aI (cs 0) 401 (fun _ => 0)) := x_keep eP3 (by omega) y3
  refine lv_aload_n hx hb d_Mo_init_31 rfl (lv_at hl 0 rfl) ?_
  refine lv_sipush (v := 401) hx hb d_Mo_init_32 (by decide) ?_
  refine x_newaO hx hb (hts _ wd_66) rfl hK hw hA (cA := cs 0) (hK.2 0 _ rfl).2 (N' := 401) (a0 := (401, .inl (fun _ => 0))) (fun _ => rfl) (by decide) rfl (by decide) (Nat.le_of_ble_eq_true rfl) (Nat.le_of_ble_eq_true rfl) d_Mo_init_35 (fun q4 N4 H eq4 eN4 hn4 hz4 hw => ?_)
  obtain rfl : q4 = m0 + 4 := by omega
  have h4a : N4 m0 = some (.inr (kMo, [.int 0, .int 0, .int 0, .ref (m0 + 1), .ref (m0 + 2), .ref (m0 + 3), .null, .null, .null, .null, .null, .null, .null, .null, .null, .null, .null, .long 0, .int 0, .null, .int 0])) := x_keep eN4 (by omega) h3
  have y1 : N4 (m0 + 1) = some (aL (cs 1) 401 (fun _ => 0)) := x_keep eN4 (by omega) y1
  have y2 : N4 (m0 + 2) = some (aL (cs 1) 401 (fun _ => 0)) := x_keep eN4 (by omega) y2
  have y3 : N4 (m0 + 3) = some (aI (cs 0) 401 (fun _ => 0)) := x_keep eN4 (by omega) y3
  have y4 : N4 (m0 + 4) = some (aI (cs 0) 401 (fun _ => 0)) := x_up_self eN4
  refine x_putFS (C := "GateTimesModel") (T := F_Mo) (N := 21) (ty := .array .int) hx hb hts i_Mo t_Mo t_Mo_ok n_Mo hown hK hw h4a rfl 6 (by decide) (hts _ wd_265) (fun _ h9 => h9) rfl hnm rfl (by decide +kernel) rfl rfl (Nat.le_of_ble_eq_true rfl) d_Mo_init_37 (fun P4 H locs eP4 hsP4 hw => ?_)
  have h4 : P4 m0 = some (.inr (kMo, [.int 0, .int 0, .int 0, .ref (m0 + 1), .ref (m0 + 2), .ref (m0 + 3), .ref (m0 + 4), .null, .null, .null, .null, .null, .null, .null, .null, .null, .null, .long 0, .int 0, .null, .int 0])) := x_up_self eP4
  have y1 : P4 (m0 + 1) = some (aL (cs 1) 401 (fun _ => 0)) := x_keep eP4 (by omega) y1
  have y2 : P4 (m0 + 2) = some (aL (cs 1) 401 (fun _ => 0)) := x_keep eP4 (by omega) y2
  have y3 : P4 (m0 + 3) = some (aI (cs 0) 401 (fun _ => 0)) := x_keep eP4 (by omega) y3
  have y4 : P4 (m0 + 4) = some (aI (cs 0) 401 (fun _ => 0)) := x_keep eP4 (by omega) y4
  refine lv_aload_n hx hb d_Mo_init_40 rfl (lv_at hl 0 rfl) ?_
  refine lv_sipush (v := 401) hx hb d_Mo_init_41 (by decide) ?_
  refine x_newaO hx hb (hts _ wd_66) rfl hK hw hA (cA := cs 0) (hK.2 0 _ rfl).2 (N' := 401) (a0 := (401, .inl (fun _ => 0))) (fun _ => rfl) (by decide) rfl (by decide) (Nat.le_of_ble_eq_true rfl) (Nat.le_of_ble_eq_true rfl) d_Mo_init_44 (fun q5 N5 H eq5 eN5 hn5 hz5 hw => ?_)
  obtain rfl : q5 = m0 + 5 := by omega
  have h5a : N5 m0 = some (.inr (kMo, [.int 0, .int 0, .int 0, .ref (m0 + 1), .ref (m0 + 2), .ref (m0 + 3), .ref (m0 + 4), .null, .null, .null, .null, .null, .null, .null, .null, .null, .null, .long 0, .int 0, .null, .int 0])) := x_keep eN5 (by omega) h4
  have y1 : N5 (m0 + 1) = some (aL (cs 1) 401 (fun _ => 0)) := x_keep eN5 (by omega) y1
  have y2 : N5 (m0 + 2) = some (aL (cs 1) 401 (fun _ => 0)) := x_keep eN5 (by omega) y2
  have y3 : N5 (m0 + 3) = some (aI (cs 0) 401 (fun _ => 0)) := x_keep eN5 (by omega) y3
  have y4 : N5 (m0 + 4) = some (aI (cs 0) 401 (fun _ => 0)) := x_keep eN5 (by omega) y4
  have y5 : N5 (m0 + 5) = some (aI (cs 0) 401 (fun _ => 0)) := x_up_self eN5
  refine x_putFS (C := "GateTimesModel") (T := F_Mo) (N := 21) (ty := .array .int) hx hb hts i_Mo t_Mo t_Mo_ok n_Mo hown hK hw h5a rfl 7 (by decide) (hts _ wd_266) (fun _ h9 => h9) rfl hnm rfl (by decide +kernel) rfl rfl (Nat.le_of_ble_eq_true rfl) d_Mo_init_46 (fun P5 H locs eP5 hsP5 hw => ?_)
  have h5 : P5 m0 = some (.inr (kMo, [.int 0, .int 0, .int 0, .ref (m0 + 1), .ref (m0 + 2), .ref (m0 + 3), .ref (m0 + 4), .ref (m0 + 5), .null, .null, .null, .null, .null, .null, .null, .null, .null, .long 0, .int 0, .null, .int 0])) := x_up_self eP5
  have y1 : P5 (m0 + 1) = some (aL (cs 1) 401 (fun _ => 0)) := x_keep eP5 (by omega) y1
  have y2 : P5 (m0 + 2) = some (aL (cs 1) 401 (fun _ => 0)) := x_keep eP5 (by omega) y2
  have y3 : P5 (m0 + 3) = some (aI (cs 0) 401 (fun _ => 0)) := x_keep eP5 (by omega) y3
  have y4 : P5 (m0 + 4) = some (aI (cs 0) 401 (fun _ => 0)) := x_keep eP5 (by omega) y4
  have y5 : P5 (m0 + 5) = some (aI (cs 0) 401 (fun _ => 0)) := x_keep eP5 (by omega) y5
  refine lv_aload_n hx hb d_Mo_init_49 rfl (lv_at hl 0 rfl) ?_
  refine lv_sipush (v := 401) hx hb d_Mo_init_50 (by decide) ?_
  refine x_newaO hx hb (hts _ wd_66) rfl hK hw hA (cA := cs 0) (hK.2 0 _ rfl).2 (N' := 401) (a0 := (401, .inl (fun _ => 0))) (fun _ => rfl) (by decide) rfl (by decide) (Nat.le_of_ble_eq_true rfl) (Nat.le_of_ble_eq_true rfl) d_Mo_init_53 (fun q6 N6 H eq6 eN6 hn6 hz6 hw => ?_)
  obtain rfl : q6 = m0 + 6 := by omega
  have h6a : N6 m0 = some (.inr (kMo, [.int 0, .int 0, .int 0, .ref (m0 + 1), .ref (m0 + 2), .ref (m0 + 3), .ref (m0 + 4), .ref (m0 + 5), .null, .null, .null, .null, .null, .null, .null, .null, .null, .long 0, .int 0, .null, .int 0])) := x_keep eN6 (by omega) h5
  have y1 : N6 (m0 + 1) = some (aL (cs 1) 401 (fun _ => 0)) := x_keep eN6 (by omega) y1
  have y2 : N6 (m0 + 2) = some (aL (cs 1) 401 (fun _ => 0)) := x_keep eN6 (by omega) y2
  have y3 : N6 (m0 + 3) = some (aI (cs 0) 401 (fun _ => 0)) := x_keep eN6 (by omega) y3
  have y4 : N6 (m0 + 4) = some (aI (cs 0) 401 (fun _ => 0)) := x_keep eN6 (by omega) y4
  have y5 : N6 (m0 + 5) = some (aI (cs 0) 401 (fun _ => 0)) := x_keep eN6 (by omega) y5
  have y6 : N6 (m0 + 6) = some (aI (cs 0) 401 (fun _ => 0)) := x_up_self eN6
  refine x_putFS (C := "GateTimesModel") (T := F_Mo) (N := 21) (ty := .array .int) hx hb hts i_Mo t_Mo t_Mo_ok n_Mo hown hK hw h6a rfl 8 (by decide) (hts _ wd_267) (fun _ h9 => h9) rfl hnm rfl (by decide +kernel) rfl rfl (Nat.le_of_ble_eq_true rfl) d_Mo_init_55 (fun P6 H locs eP6 hsP6 hw => ?_)
  have h6 : P6 m0 = some (.inr (kMo, [.int 0, .int 0, .int 0, .ref (m0 + 1), .ref (m0 + 2), .ref (m0 + 3), .ref (m0 + 4), .ref (m0 + 5), .ref (m0 + 6), .null, .null, .null, .null, .null, .null, .null, .null, .long 0, .int 0, .null, .int 0])) := x_up_self eP6
  have y1 : P6 (m0 + 1) = some (aL (cs 1) 401 (fun _ => 0)) := x_keep eP6 (by omega) y1
  have y2 : P6 (m0 + 2) = some (aL (cs 1) 401 (fun _ => 0)) := x_keep eP6 (by omega) y2
  have y3 : P6 (m0 + 3) = some (aI (cs 0) 401 (fun _ => 0)) := x_keep eP6 (by omega) y3
  have y4 : P6 (m0 + 4) = some (aI (cs 0) 401 (fun _ => 0)) := x_keep eP6 (by omega) y4
  have y5 : P6 (m0 + 5) = some (aI (cs 0) 401 (fun _ => 0)) := x_keep eP6 (by omega) y5
  have y6 : P6 (m0 + 6) = some (aI (cs 0) 401 (fun _ => 0)) := x_keep eP6 (by omega) y6
  refine lv_aload_n hx hb d_Mo_init_58 rfl (lv_at hl 0 rfl) ?_
  refine lv_sipush (v := 401) hx hb d_Mo_init_59 (by decide) ?_
  refine x_newaO hx hb (hts _ wd_323) rfl hK hw hA (cA := cs 1) (hK.2 1 _ rfl).2 (N' := 401) (a0 := (401, .inr (.inl (fun _ => 0)))) (fun _ => rfl) (by decide) rfl (by decide) (Nat.le_of_ble_eq_true rfl) (Nat.le_of_ble_eq_true rfl) d_Mo_init_62 (fun q7 N7 H eq7 eN7 hn7 hz7 hw => ?_)
  obtain rfl : q7 = m0 + 7 := by omega
  have h7a : N7 m0 = some (.inr (kMo, [.int 0, .int 0, .int 0, .ref (m0 + 1), .ref (m0 + 2), .ref (m0 + 3), .ref (m0 + 4), .ref (m0 + 5), .ref (m0 + 6), .null, .null, .null, .null, .null, .null, .null, .null, .long 0, .int 0, .null, .int 0])) := x_keep eN7 (by omega) h6
  have y1 : N7 (m0 + 1) = some (aL (cs 1) 401 (fun _ => 0)) := x_keep eN7 (by omega) y1
  have y2 : N7 (m0 + 2) = some (aL (cs 1) 401 (fun _ => 0)) := x_keep eN7 (by omega) y2
  have y3 : N7 (m0 + 3) = some (aI (cs 0) 401 (fun _ => 0)) := x_keep eN7 (by omega) y3
  have y4 : N7 (m0 + 4) = some (aI (cs 0) 401 (fun _ => 0)) := x_keep eN7 (by omega) y4
  have y5 : N7 (m0 + 5) = some (aI (cs 0) 401 (fun _ => 0)) := x_keep eN7 (by omega) y5
  have y6 : N7 (m0 + 6) = some (aI (cs 0) 401 (fun _ => 0)) := x_keep eN7 (by omega) y6
  have y7 : N7 (m0 + 7) = some (aL (cs 1) 401 (fun _ => 0)) := x_up_self eN7
  refine x_putFS (C := "GateTimesModel") (T := F_Mo) (N := 21) (ty := .array .long) hx hb hts i_Mo t_Mo t_Mo_ok n_Mo hown hK hw h7a rfl 9 (by decide) (hts _ wd_268) (fun _ h9 => h9) rfl hnm rfl (by decide +kernel) rfl rfl (Nat.le_of_ble_eq_true rfl) d_Mo_init_64 (fun P7 H locs eP7 hsP7 hw => ?_)
  have h7 : P7 m0 = some (.inr (kMo, [.int 0, .int 0, .int 0, .ref (m0 + 1), .ref (m0 + 2), .ref (m0 + 3), .ref (m0 + 4), .ref (m0 + 5), .ref (m0 + 6), .ref (m0 + 7), .null, .null, .null, .null, .null, .null, .null, .long 0, .int 0, .null, .int 0])) := x_up_self eP7
  have y1 : P7 (m0 + 1) = some (aL (cs 1) 401 (fun _ => 0)) := x_keep eP7 (by omega) y1
  have y2 : P7 (m0 + 2) = some (aL (cs 1) 401 (fun _ => 0)) := x_keep eP7 (by omega) y2
  have y3 : P7 (m0 + 3) = some (aI (cs 0) 401 (fun _ => 0)) := x_keep eP7 (by omega) y3
  have y4 : P7 (m0 + 4) = some (aI (cs 0) 401 (fun _ => 0)) := x_keep eP7 (by omega) y4
  have y5 : P7 (m0 + 5) = some (aI (cs 0) 401 (fun _ => 0)) := x_keep eP7 (by omega) y5
  have y6 : P7 (m0 + 6) = some (aI (cs 0) 401 (fun _ => 0)) := x_keep eP7 (by omega) y6
  have y7 : P7 (m0 + 7) = some (aL (cs 1) 401 (fun _ => 0)) := x_keep eP7 (by omega) y7
  refine lv_aload_n hx hb d_Mo_init_67 rfl (lv_at hl 0 rfl) ?_
  refine lv_bipush (v := 13) hx hb d_Mo_init_68 (by decide) ?_
  refine x_newaO hx hb (hts _ wd_324) rfl hK hw hA (cA := cs 2) (hK.2 2 _ rfl).2 (N' := 13) (a0 := (13, .inl (fun _ => 0))) (fun _ => rfl) (by decide) rfl (by decide) (Nat.le_of_ble_eq_true rfl) (Nat.le_of_ble_eq_true rfl) d_Mo_init_70 (fun q8 N8 H eq8 eN8 hn8 hz8 hw => ?_)
  obtain rfl : q8 = m0 + 8 := by omega
  have h8a : N8 m0 = some (.inr (kMo, [.int 0, .int 0, .int 0, .ref (m0 + 1), .ref (m0 + 2), .ref (m0 + 3), .ref (m0 + 4), .ref (m0 + 5), .ref (m0 + 6), .ref (m0 + 7), .null, .null, .null, .null, .null, .null, .null, .long 0, .int 0, .null, .int 0])) := x_keep eN8 (by omega) h7
  have y1 : N8 (m0 + 1) = some (aL (cs 1) 401 (fun _ => 0)) := x_keep eN8 (by omega) y1
  have y2 : N8 (m0 + 2) = some (aL (cs 1) 401 (fun _ => 0)) := x_keep eN8 (by omega) y2
  have y3 : N8 (m0 + 3) = some (aI (cs 0) 401 (fun _ => 0)) := x_keep eN8 (by omega) y3
  have y4 : N8 (m0 + 4) = some (aI (cs 0) 401 (fun _ => 0)) := x_keep eN8 (by omega) y4
  have y5 : N8 (m0 + 5) = some (aI (cs 0) 401 (fun _ => 0)) := x_keep eN8 (by omega) y5
  have y6 : N8 (m0 + 6) = some (aI (cs 0) 401 (fun _ => 0)) := x_keep eN8 (by omega) y6
  have y7 : N8 (m0 + 7) = some (aL (cs 1) 401 (fun _ => 0)) := x_keep eN8 (by omega) y7
  have y8 : N8 (m0 + 8) = some (aI (cs 2) 13 (fun _ => 0)) := x_up_self eN8
  refine x_putFS (C := "GateTimesModel") (T := F_Mo) (N := 21) (ty := .array .boolean) hx hb hts i_Mo t_Mo t_Mo_ok n_Mo hown hK hw h8a rfl 10 (by decide) (hts _ wd_269) (fun _ h9 => h9) rfl hnm rfl (by decide +kernel) rfl rfl (Nat.le_of_ble_eq_true rfl) d_Mo_init_72 (fun P8 H locs eP8 hsP8 hw => ?_)
  have h8 : P8 m0 = some (.inr (kMo, [.int 0, .int 0, .int 0, .ref (m0 + 1), .ref (m0 + 2), .ref (m0 + 3), .ref (m0 + 4), .ref (m0 + 5), .ref (m0 + 6), .ref (m0 + 7), .ref (m0 + 8), .null, .null, .null, .null, .null, .null, .long 0, .int 0, .null, .int 0])) := x_up_self eP8
  have y1 : P8 (m0 + 1) = some (aL (cs 1) 401 (fun _ => 0)) := x_keep eP8 (by omega) y1
  have y2 : P8 (m0 + 2) = some (aL (cs 1) 401 (fun _ => 0)) := x_keep eP8 (by omega) y2
  have y3 : P8 (m0 + 3) = some (aI (cs 0) 401 (fun _ => 0)) := x_keep eP8 (by omega) y3
  have y4 : P8 (m0 + 4) = some (aI (cs 0) 401 (fun _ => 0)) := x_keep eP8 (by omega) y4
  have y5 : P8 (m0 + 5) = some (aI (cs 0) 401 (fun _ => 0)) := x_keep eP8 (by omega) y5
  have y6 : P8 (m0 + 6) = some (aI (cs 0) 401 (fun _ => 0)) := x_keep eP8 (by omega) y6
  have y7 : P8 (m0 + 7) = some (aL (cs 1) 401 (fun _ => 0)) := x_keep eP8 (by omega) y7
  have y8 : P8 (m0 + 8) = some (aI (cs 2) 13 (fun _ => 0)) := x_keep eP8 (by omega) y8
  refine lv_aload_n hx hb d_Mo_init_75 rfl (lv_at hl 0 rfl) ?_
  refine lv_bipush (v := 13) hx hb d_Mo_init_76 (by decide) ?_
  refine x_newaO hx hb (hts _ wd_324) rfl hK hw hA (cA := cs 2) (hK.2 2 _ rfl).2 (N' := 13) (a0 := (13, .inl (fun _ => 0))) (fun _ => rfl) (by decide) rfl (by decide) (Nat.le_of_ble_eq_true rfl) (Nat.le_of_ble_eq_true rfl) d_Mo_init_78 (fun q9 N9 H eq9 eN9 hn9 hz9 hw => ?_)
  obtain rfl : q9 = m0 + 9 := by omega
  have h9a : N9 m0 = some (.inr (kMo, [.int 0, .int 0, .int 0, .ref (m0 + 1), .ref (m0 + 2), .ref (m0 + 3), .ref (m0 + 4), .ref (m0 + 5), .ref (m0 + 6), .ref (m0 + 7), .ref (m0 + 8), .null, .null, .null, .null, .null, .null, .long 0, .int 0, .null, .int 0])) := x_keep eN9 (by omega) h8
  have y1 : N9 (m0 + 1) = some (aL (cs 1) 401 (fun _ => 0)) := x_keep eN9 (by omega) y1
  have y2 : N9 (m0 + 2) = some (aL (cs 1) 401 (fun _ => 0)) := x_keep eN9 (by omega) y2
  have y3 : N9 (m0 + 3) = some (aI (cs 0) 401 (fun _ => 0)) := x_keep eN9 (by omega) y3
  have y4 : N9 (m0 + 4) = some (aI (cs 0) 401 (fun _ => 0)) := x_keep eN9 (by omega) y4
  have y5 : N9 (m0 + 5) = some (aI (cs 0) 401 (fun _ => 0)) := x_keep eN9 (by omega) y5
  have y6 : N9 (m0 + 6) = some (aI (cs 0) 401 (fun _ => 0)) := x_keep eN9 (by omega) y6
  have y7 : N9 (m0 + 7) = some (aL (cs 1) 401 (fun _ => 0)) := x_keep eN9 (by omega) y7
  have y8 : N9 (m0 + 8) = some (aI (cs 2) 13 (fun _ => 0)) := x_keep eN9 (by omega) y8
  have y9 : N9 (m0 + 9) = some (aI (cs 2) 13 (fun _ => 0)) := x_up_self eN9
  refine x_putFS (C := "GateTimesModel") (T := F_Mo) (N := 21) (ty := .array .boolean) hx hb hts i_Mo t_Mo t_Mo_ok n_Mo hown hK hw h9a rfl 11 (by decide) (hts _ wd_270) (fun _ h9 => h9) rfl hnm rfl (by decide +kernel) rfl rfl (Nat.le_of_ble_eq_true rfl) d_Mo_init_80 (fun P9 H locs eP9 hsP9 hw => ?_)
  have h9 : P9 m0 = some (.inr (kMo, [.int 0, .int 0, .int 0, .ref (m0 + 1), .ref (m0 + 2), .ref (m0 + 3), .ref (m0 + 4), .ref (m0 + 5), .ref (m0 + 6), .ref (m0 + 7), .ref (m0 + 8), .ref (m0 + 9), .null, .null, .null, .null, .null, .long 0, .int 0, .null, .int 0])) := x_up_self eP9
  have y1 : P9 (m0 + 1) = some (aL (cs 1) 401 (fun _ => 0)) := x_keep eP9 (by omega) y1
  have y2 : P9 (m0 + 2) = some (aL (cs 1) 401 (fun _ => 0)) := x_keep eP9 (by omega) y2
  have y3 : P9 (m0 + 3) = some (aI (cs 0) 401 (fun _ => 0)) := x_keep eP9 (by omega) y3
  have y4 : P9 (m0 + 4) = some (aI (cs 0) 401 (fun _ => 0)) := x_keep eP9 (by omega) y4
  have y5 : P9 (m0 + 5) = some (aI (cs 0) 401 (fun _ => 0)) := x_keep eP9 (by omega) y5
  have y6 : P9 (m0 + 6) = some (aI (cs 0) 401 (fun _ => 0)) := x_keep eP9 (by omega) y6
  have y7 : P9 (m0 + 7) = some (aL (cs 1) 401 (fun _ => 0)) := x_keep eP9 (by omega) y7
  have y8 : P9 (m0 + 8) = some (aI (cs 2) 13 (fun _ => 0)) := x_keep eP9 (by omega) y8
  have y9 : P9 (m0 + 9) = some (aI (cs 2) 13 (fun _ => 0)) := x_keep eP9 (by omega) y9
  refine lv_aload_n hx hb d_Mo_init_83 rfl (lv_at hl 0 rfl) ?_
  refine lv_bipush (v := 13) hx hb d_Mo_init_84 (by decide) ?_
  refine x_newaO hx hb (hts _ wd_324) rfl hK hw hA (cA := cs 2) (hK.2 2 _ rfl).2 (N' := 13) (a0 := (13, .inl (fun _ => 0))) (fun _ => rfl) (by decide) rfl (by decide) (Nat.le_of_ble_eq_true rfl) (Nat.le_of_ble_eq_true rfl) d_Mo_init_86 (fun q10 N10 H eq10 eN10 hn10 hz10 hw => ?_)
  obtain rfl : q10 = m0 + 10 := by omega
  have h10a : N10 m0 = some (.inr (kMo, [.int 0, .int 0, .int 0, .ref (m0 + 1), .ref (m0 + 2), .ref (m0 + 3), .ref (m0 + 4), .ref (m0 + 5), .ref (m0 + 6), .ref (m0 + 7), .ref (m0 + 8), .ref (m0 + 9), .null, .null, .null, .null, .null, .long 0, .int 0, .null, .int 0])) := x_keep eN10 (by omega) h9
  have y1 : N10 (m0 + 1) = some (aL (cs 1) 401 (fun _ => 0)) := x_keep eN10 (by omega) y1
  have y2 : N10 (m0 + 2) = some (aL (cs 1) 401 (fun _ => 0)) := x_keep eN10 (by omega) y2
  have y3 : N10 (m0 + 3) = some (aI (cs 0) 401 (fun _ => 0)) := x_keep eN10 (by omega) y3
  have y4 : N10 (m0 + 4) = some (aI (cs 0) 401 (fun _ => 0)) := x_keep eN10 (by omega) y4
  have y5 : N10 (m0 + 5) = some (aI (cs 0) 401 (fun _ => 0)) := x_keep eN10 (by omega) y5
  have y6 : N10 (m0 + 6) = some (aI (cs 0) 401 (fun _ => 0)) := x_keep eN10 (by omega) y6
  have y7 : N10 (m0 + 7) = some (aL (cs 1) 401 (fun _ => 0)) := x_keep eN10 (by omega) y7
  have y8 : N10 (m0 + 8) = some (aI (cs 2) 13 (fun _ => 0)) := x_keep eN10 (by omega) y8
  have y9 : N10 (m0 + 9) = some (aI (cs 2) 13 (fun _ => 0)) := x_keep eN10 (by omega) y9
  have y10 : N10 (m0 + 10) = some (aI (cs 2) 13 (fun _ => 0)) := x_up_self eN10
  refine x_putFS (C := "GateTimesModel") (T := F_Mo) (N := 21) (ty := .array .boolean) hx hb hts i_Mo t_Mo t_Mo_ok n_Mo hown hK hw h10a rfl 12 (by decide) (hts _ wd_271) (fun _ h9 => h9) rfl hnm rfl (by decide +kernel) rfl rfl (Nat.le_of_ble_eq_true rfl) d_Mo_init_88 (fun P10 H locs eP10 hsP10 hw => ?_)
  have h10 : P10 m0 = some (.inr (kMo, [.int 0, .int 0, .int 0, .ref (m0 + 1), .ref (m0 + 2), .ref (m0 + 3), .ref (m0 + 4), .ref (m0 + 5), .ref (m0 + 6), .ref (m0 + 7), .ref (m0 + 8), .ref (m0 + 9), .ref (m0 + 10), .null, .null, .null, .null, .long 0, .int 0, .null, .int 0])) := x_up_self eP10
  have y1 : P10 (m0 + 1) = some (aL (cs 1) 401 (fun _ => 0)) := x_keep eP10 (by omega) y1
  have y2 : P10 (m0 + 2) = some (aL (cs 1) 401 (fun _ => 0)) := x_keep eP10 (by omega) y2
  have y3 : P10 (m0 + 3) = some (aI (cs 0) 401 (fun _ => 0)) := x_keep eP10 (by omega) y3
  have y4 : P10 (m0 + 4) = some (aI (cs 0) 401 (fun _ => 0)) := x_keep eP10 (by omega) y4
  have y5 : P10 (m0 + 5) = some (aI (cs 0) 401 (fun _ => 0)) := x_keep eP10 (by omega) y5
  have y6 : P10 (m0 + 6) = some (aI (cs 0) 401 (fun _ => 0)) := x_keep eP10 (by omega) y6
  have y7 : P10 (m0 + 7) = some (aL (cs 1) 401 (fun _ => 0)) := x_keep eP10 (by omega) y7
  have y8 : P10 (m0 + 8) = some (aI (cs 2) 13 (fun _ => 0)) := x_keep eP10 (by omega) y8
  have y9 : P10 (m0 + 9) = some (aI (cs 2) 13 (fun _ => 0)) := x_keep eP10 (by omega) y9
  have y10 : P10 (m0 + 10) = some (aI (cs 2) 13 (fun _ => 0)) := x_keep eP10 (by omega) y10
  refine lv_aload_n hx hb d_Mo_init_91 rfl (lv_at hl 0 rfl) ?_
  refine lv_bipush (v := 13) hx hb d_Mo_init_92 (by decide) ?_
  refine x_newaO hx hb (hts _ wd_323) rfl hK hw hA (cA := cs 1) (hK.2 1 _ rfl).2 (N' := 13) (a0 := (13, .inr (.inl (fun _ => 0)))) (fun _ => rfl) (by decide) rfl (by decide) (Nat.le_of_ble_eq_true rfl) (Nat.le_of_ble_eq_true rfl) d_Mo_init_94 (fun q11 N11 H eq11 eN11 hn11 hz11 hw => ?_)
  obtain rfl : q11 = m0 + 11 := by omega
  have h11a : N11 m0 = some (.inr (kMo, [.int 0, .int 0, .int 0, .ref (m0 + 1), .ref (m0 + 2), .ref (m0 + 3), .ref (m0 + 4), .ref (m0 + 5), .ref (m0 + 6), .ref (m0 + 7), .ref (m0 + 8), .ref (m0 + 9), .ref (m0 + 10), .null, .null, .null, .null, .long 0, .int 0, .null, .int 0])) := x_keep eN11 (by omega) h10
  have y1 : N11 (m0 + 1) = some (aL (cs 1) 401 (fun _ => 0)) := x_keep eN11 (by omega) y1
  have y2 : N11 (m0 + 2) = some (aL (cs 1) 401 (fun _ => 0)) := x_keep eN11 (by omega) y2
  have y3 : N11 (m0 + 3) = some (aI (cs 0) 401 (fun _ => 0)) := x_keep eN11 (by omega) y3
  have y4 : N11 (m0 + 4) = some (aI (cs 0) 401 (fun _ => 0)) := x_keep eN11 (by omega) y4
  have y5 : N11 (m0 + 5) = some (aI (cs 0) 401 (fun _ => 0)) := x_keep eN11 (by omega) y5
  have y6 : N11 (m0 + 6) = some (aI (cs 0) 401 (fun _ => 0)) := x_keep eN11 (by omega) y6
  have y7 : N11 (m0 + 7) = some (aL (cs 1) 401 (fun _ => 0)) := x_keep eN11 (by omega) y7
  have y8 : N11 (m0 + 8) = some (aI (cs 2) 13 (fun _ => 0)) := x_keep eN11 (by omega) y8
  have y9 : N11 (m0 + 9) = some (aI (cs 2) 13 (fun _ => 0)) := x_keep eN11 (by omega) y9
  have y10 : N11 (m0 + 10) = some (aI (cs 2) 13 (fun _ => 0)) := x_keep eN11 (by omega) y10
  have y11 : N11 (m0 + 11) = some (aL (cs 1) 13 (fun _ => 0)) := x_up_self eN11
  refine x_putFS (C := "GateTimesModel") (T := F_Mo) (N := 21) (ty := .array .long) hx hb hts i_Mo t_Mo t_Mo_ok n_Mo hown hK hw h11a rfl 13 (by decide) (hts _ wd_272) (fun _ h9 => h9) rfl hnm rfl (by decide +kernel) rfl rfl (Nat.le_of_ble_eq_true rfl) d_Mo_init_96 (fun P11 H locs eP11 hsP11 hw => ?_)
  have h11 : P11 m0 = some (.inr (kMo, [.int 0, .int 0, .int 0, .ref (m0 + 1), .ref (m0 + 2), .ref (m0 + 3), .ref (m0 + 4), .ref (m0 + 5), .ref (m0 + 6), .ref (m0 + 7), .ref (m0 + 8), .ref (m0 + 9), .ref (m0 + 10), .ref (m0 + 11), .null, .null, .null, .long 0, .int 0, .null, .int 0])) := x_up_self eP11
  have y1 : P11 (m0 + 1) = some (aL (cs 1) 401 (fun _ => 0)) := x_keep eP11 (by omega) y1
  have y2 : P11 (m0 + 2) = some (aL (cs 1) 401 (fun _ => 0)) := x_keep eP11 (by omega) y2
  have y3 : P11 (m0 + 3) = some (aI (cs 0) 401 (fun _ => 0)) := x_keep eP11 (by omega) y3
  have y4 : P11 (m0 + 4) = some (aI (cs 0) 401 (fun _ => 0)) := x_keep eP11 (by omega) y4
  have y5 : P11 (m0 + 5) = some (aI (cs 0) 401 (fun _ => 0)) := x_keep eP11 (by omega) y5
  have y6 : P11 (m0 + 6) = some (aI (cs 0) 401 (fun _ => 0)) := x_keep eP11 (by omega) y6
  have y7 : P11 (m0 + 7) = some (aL (cs 1) 401 (fun _ => 0)) := x_keep eP11 (by omega) y7
  have y8 : P11 (m0 + 8) = some (aI (cs 2) 13 (fun _ => 0)) := x_keep eP11 (by omega) y8
  have y9 : P11 (m0 + 9) = some (aI (cs 2) 13 (fun _ => 0)) := x_keep eP11 (by omega) y9
  have y10 : P11 (m0 + 10) = some (aI (cs 2) 13 (fun _ => 0)) := x_keep eP11 (by omega) y10
  have y11 : P11 (m0 + 11) = some (aL (cs 1) 13 (fun _ => 0)) := x_keep eP11 (by omega) y11
  refine lv_aload_n hx hb d_Mo_init_99 rfl (lv_at hl 0 rfl) ?_
  refine lv_bipush (v := 13) hx hb d_Mo_init_100 (by decide) ?_
  refine x_newaO hx hb (hts _ wd_66) rfl hK hw hA (cA := cs 0) (hK.2 0 _ rfl).2 (N' := 13) (a0 := (13, .inl (fun _ => 0))) (fun _ => rfl) (by decide) rfl (by decide) (Nat.le_of_ble_eq_true rfl) (Nat.le_of_ble_eq_true rfl) d_Mo_init_102 (fun q12 N12 H eq12 eN12 hn12 hz12 hw => ?_)
  obtain rfl : q12 = m0 + 12 := by omega
  have h12a : N12 m0 = some (.inr (kMo, [.int 0, .int 0, .int 0, .ref (m0 + 1), .ref (m0 + 2), .ref (m0 + 3), .ref (m0 + 4), .ref (m0 + 5), .ref (m0 + 6), .ref (m0 + 7), .ref (m0 + 8), .ref (m0 + 9), .ref (m0 + 10), .ref (m0 + 11), .null, .null, .null, .long 0, .int 0, .null, .int 0])) := x_keep eN12 (by omega) h11
  have y1 : N12 (m0 + 1) = some (aL (cs 1) 401 (fun _ => 0)) := x_keep eN12 (by omega) y1
  have y2 : N12 (m0 + 2) = some (aL (cs 1) 401 (fun _ => 0)) := x_keep eN12 (by omega) y2
  have y3 : N12 (m0 + 3) = some (aI (cs 0) 401 (fun _ => 0)) := x_keep eN12 (by omega) y3
  have y4 : N12 (m0 + 4) = some (aI (cs 0) 401 (fun _ => 0)) := x_keep eN12 (by omega) y4
  have y5 : N12 (m0 + 5) = some (aI (cs 0) 401 (fun _ => 0)) := x_keep eN12 (by omega) y5
  have y6 : N12 (m0 + 6) = some (aI (cs 0) 401 (fun _ => 0)) := x_keep eN12 (by omega) y6
  have y7 : N12 (m0 + 7) = some (aL (cs 1) 401 (fun _ => 0)) := x_keep eN12 (by omega) y7
  have y8 : N12 (m0 + 8) = some (aI (cs 2) 13 (fun _ => 0)) := x_keep eN12 (by omega) y8
  have y9 : N12 (m0 + 9) = some (aI (cs 2) 13 (fun _ => 0)) := x_keep eN12 (by omega) y9
  have y10 : N12 (m0 + 10) = some (aI (cs 2) 13 (fun _ => 0)) := x_keep eN12 (by omega) y10
  have y11 : N12 (m0 + 11) = some (aL (cs 1) 13 (fun _ => 0)) := x_keep eN12 (by omega) y11
  have y12 : N12 (m0 + 12) = some (aI (cs 0) 13 (fun _ => 0)) := x_up_self eN12
  refine x_putFS (C := "GateTimesModel") (T := F_Mo) (N := 21) (ty := .array .int) hx hb hts i_Mo t_Mo t_Mo_ok n_Mo hown hK hw h12a rfl 14 (by decide) (hts _ wd_273) (fun _ h9 => h9) rfl hnm rfl (by decide +kernel) rfl rfl (Nat.le_of_ble_eq_true rfl) d_Mo_init_104 (fun P12 H locs eP12 hsP12 hw => ?_)
  have h12 : P12 m0 = some (.inr (kMo, [.int 0, .int 0, .int 0, .ref (m0 + 1), .ref (m0 + 2), .ref (m0 + 3), .ref (m0 + 4), .ref (m0 + 5), .ref (m0 + 6), .ref (m0 + 7), .ref (m0 + 8), .ref (m0 + 9), .ref (m0 + 10), .ref (m0 + 11), .ref (m0 + 12), .null, .null, .long 0, .int 0, .null, .int 0])) := x_up_self eP12
  have y1 : P12 (m0 + 1) = some (aL (cs 1) 401 (fun _ => 0)) := x_keep eP12 (by omega) y1
  have y2 : P12 (m0 + 2) = some (aL (cs 1) 401 (fun _ => 0)) := x_keep eP12 (by omega) y2
  have y3 : P12 (m0 + 3) = some (aI (cs 0) 401 (fun _ => 0)) := x_keep eP12 (by omega) y3
  have y4 : P12 (m0 + 4) = some (aI (cs 0) 401 (fun _ => 0)) := x_keep eP12 (by omega) y4
  have y5 : P12 (m0 + 5) = some (aI (cs 0) 401 (fun _ => 0)) := x_keep eP12 (by omega) y5
  have y6 : P12 (m0 + 6) = some (aI (cs 0) 401 (fun _ => 0)) := x_keep eP12 (by omega) y6
  have y7 : P12 (m0 + 7) = some (aL (cs 1) 401 (fun _ => 0)) := x_keep eP12 (by omega) y7
  have y8 : P12 (m0 + 8) = some (aI (cs 2) 13 (fun _ => 0)) := x_keep eP12 (by omega) y8
  have y9 : P12 (m0 + 9) = some (aI (cs 2) 13 (fun _ => 0)) := x_keep eP12 (by omega) y9
  have y10 : P12 (m0 + 10) = some (aI (cs 2) 13 (fun _ => 0)) := x_keep eP12 (by omega) y10
  have y11 : P12 (m0 + 11) = some (aL (cs 1) 13 (fun _ => 0)) := x_keep eP12 (by omega) y11
  have y12 : P12 (m0 + 12) = some (aI (cs 0) 13 (fun _ => 0)) := x_keep eP12 (by omega) y12
  refine lv_aload_n hx hb d_Mo_init_107 rfl (lv_at hl 0 rfl) ?_
  refine lv_bipush (v := 13) hx hb d_Mo_init_108 (by decide) ?_
  refine x_newaO hx hb (hts _ wd_66) rfl hK hw hA (cA := cs 0) (hK.2 0 _ rfl).2 (N' := 13) (a0 := (13, .inl (fun _ => 0))) (fun _ => rfl) (by decide) rfl (by decide) (Nat.le_of_ble_eq_true rfl) (Nat.le_of_ble_eq_true rfl) d_Mo_init_110 (fun q13 N13 H eq13 eN13 hn13 hz13 hw => ?_)
  obtain rfl : q13 = m0 + 13 := by omega
  have h13a : N13 m0 = some (.inr (kMo, [.int 0, .int 0, .int 0, .ref (m0 + 1), .ref (m0 + 2), .ref (m0 + 3), .ref (m0 + 4), .ref (m0 + 5), .ref (m0 + 6), .ref (m0 + 7), .ref (m0 + 8), .ref (m0 + 9), .ref (m0 + 10), .ref (m0 + 11), .ref (m0 + 12), .null, .null, .long 0, .int 0, .null, .int 0])) := x_keep eN13 (by omega) h12
  have y1 : N13 (m0 + 1) = some (aL (cs 1) 401 (fun _ => 0)) := x_keep eN13 (by omega) y1
  have y2 : N13 (m0 + 2) = some (aL (cs 1) 401 (fun _ => 0)) := x_keep eN13 (by omega) y2
  have y3 : N13 (m0 + 3) = some (aI (cs 0) 401 (fun _ => 0)) := x_keep eN13 (by omega) y3
  have y4 : N13 (m0 + 4) = some (aI (cs 0) 401 (fun _ => 0)) := x_keep eN13 (by omega) y4
  have y5 : N13 (m0 + 5) = some (aI (cs 0) 401 (fun _ => 0)) := x_keep eN13 (by omega) y5
  have y6 : N13 (m0 + 6) = some (aI (cs 0) 401 (fun _ => 0)) := x_keep eN13 (by omega) y6
  have y7 : N13 (m0 + 7) = some (aL (cs 1) 401 (fun _ => 0)) := x_keep eN13 (by omega) y7
  have y8 : N13 (m0 + 8) = some (aI (cs 2) 13 (fun _ => 0)) := x_keep eN13 (by omega) y8
  have y9 : N13 (m0 + 9) = some (aI (cs 2) 13 (fun _ => 0)) := x_keep eN13 (by omega) y9
  have y10 : N13 (m0 + 10) = some (aI (cs 2) 13 (fun _ => 0)) := x_keep eN13 (by omega) y10
  have y11 : N13 (m0 + 11) = some (aL (cs 1) 13 (fun _ => 0)) := x_keep eN13 (by omega) y11
  have y12 : N13 (m0 + 12) = some (aI (cs 0) 13 (fun _ => 0)) := x_keep eN13 (by omega) y12
  have y13 : N13 (m0 + 13) = some (aI (cs 0) 13 (fun _ => 0)) := x_up_self eN13
  refine x_putFS (C := "GateTimesModel") (T := F_Mo) (N := 21) (ty := .array .int) hx hb hts i_Mo t_Mo t_Mo_ok n_Mo hown hK hw h13a rfl 15 (by decide) (hts _ wd_274) (fun _ h9 => h9) rfl hnm rfl (by decide +kernel) rfl rfl (Nat.le_of_ble_eq_true rfl) d_Mo_init_112 (fun P13 H locs eP13 hsP13 hw => ?_)
  have h13 : P13 m0 = some (.inr (kMo, [.int 0, .int 0, .int 0, .ref (m0 + 1), .ref (m0 + 2), .ref (m0 + 3), .ref (m0 + 4), .ref (m0 + 5), .ref (m0 + 6), .ref (m0 + 7), .ref (m0 + 8), .ref (m0 + 9), .ref (m0 + 10), .ref (m0 + 11), .ref (m0 + 12), .ref (m0 + 13), .null, .long 0, .int 0, .null, .int 0])) := x_up_self eP13
  have y1 : P13 (m0 + 1) = some (aL (cs 1) 401 (fun _ => 0)) := x_keep eP13 (by omega) y1
  have y2 : P13 (m0 + 2) = some (aL (cs 1) 401 (fun _ => 0)) := x_keep eP13 (by omega) y2
  have y3 : P13 (m0 + 3) = some (aI (cs 0) 401 (fun _ => 0)) := x_keep eP13 (by omega) y3
  have y4 : P13 (m0 + 4) = some (aI (cs 0) 401 (fun _ => 0)) := x_keep eP13 (by omega) y4
  have y5 : P13 (m0 + 5) = some (aI (cs 0) 401 (fun _ => 0)) := x_keep eP13 (by omega) y5
  have y6 : P13 (m0 + 6) = some (aI (cs 0) 401 (fun _ => 0)) := x_keep eP13 (by omega) y6
  have y7 : P13 (m0 + 7) = some (aL (cs 1) 401 (fun _ => 0)) := x_keep eP13 (by omega) y7
  have y8 : P13 (m0 + 8) = some (aI (cs 2) 13 (fun _ => 0)) := x_keep eP13 (by omega) y8
  have y9 : P13 (m0 + 9) = some (aI (cs 2) 13 (fun _ => 0)) := x_keep eP13 (by omega) y9
  have y10 : P13 (m0 + 10) = some (aI (cs 2) 13 (fun _ => 0)) := x_keep eP13 (by omega) y10
  have y11 : P13 (m0 + 11) = some (aL (cs 1) 13 (fun _ => 0)) := x_keep eP13 (by omega) y11
  have y12 : P13 (m0 + 12) = some (aI (cs 0) 13 (fun _ => 0)) := x_keep eP13 (by omega) y12
  have y13 : P13 (m0 + 13) = some (aI (cs 0) 13 (fun _ => 0)) := x_keep eP13 (by omega) y13
  refine lv_aload_n hx hb d_Mo_init_115 rfl (lv_at hl 0 rfl) ?_
  refine lv_bipush (v := 13) hx hb d_Mo_init_116 (by decide) ?_
  refine x_newaO hx hb (hts _ wd_66) rfl hK hw hA (cA := cs 0) (hK.2 0 _ rfl).2 (N' := 13) (a0 := (13, .inl (fun _ => 0))) (fun _ => rfl) (by decide) rfl (by decide) (Nat.le_of_ble_eq_true rfl) (Nat.le_of_ble_eq_true rfl) d_Mo_init_118 (fun q14 N14 H eq14 eN14 hn14 hz14 hw => ?_)
  obtain rfl : q14 = m0 + 14 := by omega
  have h14a : N14 m0 = some (.inr (kMo, [.int 0, .int 0, .int 0, .ref (m0 + 1), .ref (m0 + 2), .ref (m0 + 3), .ref (m0 + 4), .ref (m0 + 5), .ref (m0 + 6), .ref (m0 + 7), .ref (m0 + 8), .ref (m0 + 9), .ref (m0 + 10), .ref (m0 + 11), .ref (m0 + 12), .ref (m0 + 13), .null, .long 0, .int 0, .null, .int 0])) := x_keep eN14 (by omega) h13
  have y1 : N14 (m0 + 1) = some (aL (cs 1) 401 (fun _ => 0)) := x_keep eN14 (by omega) y1
  have y2 : N14 (m0 + 2) = some (aL (cs 1) 401 (fun _ => 0)) := x_keep eN14 (by omega) y2
  have y3 : N14 (m0 + 3) = some (aI (cs 0) 401 (fun _ => 0)) := x_keep eN14 (by omega) y3
  have y4 : N14 (m0 + 4) = some (aI (cs 0) 401 (fun _ => 0)) := x_keep eN14 (by omega) y4
  have y5 : N14 (m0 + 5) = some (aI (cs 0) 401 (fun _ => 0)) := x_keep eN14 (by omega) y5
  have y6 : N14 (m0 + 6) = some (aI (cs 0) 401 (fun _ => 0)) := x_keep eN14 (by omega) y6
  have y7 : N14 (m0 + 7) = some (aL (cs 1) 401 (fun _ => 0)) := x_keep eN14 (by omega) y7
  have y8 : N14 (m0 + 8) = some (aI (cs 2) 13 (fun _ => 0)) := x_keep eN14 (by omega) y8
  have y9 : N14 (m0 + 9) = some (aI (cs 2) 13 (fun _ => 0)) := x_keep eN14 (by omega) y9
  have y10 : N14 (m0 + 10) = some (aI (cs 2) 13 (fun _ => 0)) := x_keep eN14 (by omega) y10
  have y11 : N14 (m0 + 11) = some (aL (cs 1) 13 (fun _ => 0)) := x_keep eN14 (by omega) y11
  have y12 : N14 (m0 + 12) = some (aI (cs 0) 13 (fun _ => 0)) := x_keep eN14 (by omega) y12
  have y13 : N14 (m0 + 13) = some (aI (cs 0) 13 (fun _ => 0)) := x_keep eN14 (by omega) y13
  have y14 : N14 (m0 + 14) = some (aI (cs 0) 13 (fun _ => 0)) := x_up_self eN14
  refine x_putFS (C := "GateTimesModel") (T := F_Mo) (N := 21) (ty := .array .int) hx hb hts i_Mo t_Mo t_Mo_ok n_Mo hown hK hw h14a rfl 16 (by decide) (hts _ wd_275) (fun _ h9 => h9) rfl hnm rfl (by decide +kernel) rfl rfl (Nat.le_of_ble_eq_true rfl) d_Mo_init_120 (fun P14 H locs eP14 hsP14 hw => ?_)
  have h14 : P14 m0 = some (.inr (kMo, [.int 0, .int 0, .int 0, .ref (m0 + 1), .ref (m0 + 2), .ref (m0 + 3), .ref (m0 + 4), .ref (m0 + 5), .ref (m0 + 6), .ref (m0 + 7), .ref (m0 + 8), .ref (m0 + 9), .ref (m0 + 10), .ref (m0 + 11), .ref (m0 + 12), .ref (m0 + 13), .ref (m0 + 14), .long 0, .int 0, .null, .int 0])) := x_up_self eP14
  have y1 : P14 (m0 + 1) = some (aL (cs 1) 401 (fun _ => 0)) := x_keep eP14 (by omega) y1
  have y2 : P14 (m0 + 2) = some (aL (cs 1) 401 (fun _ => 0)) := x_keep eP14 (by omega) y2
  have y3 : P14 (m0 + 3) = some (aI (cs 0) 401 (fun _ => 0)) := x_keep eP14 (by omega) y3
  have y4 : P14 (m0 + 4) = some (aI (cs 0) 401 (fun _ => 0)) := x_keep eP14 (by omega) y4
  have y5 : P14 (m0 + 5) = some (aI (cs 0) 401 (fun _ => 0)) := x_keep eP14 (by omega) y5
  have y6 : P14 (m0 + 6) = some (aI (cs 0) 401 (fun _ => 0)) := x_keep eP14 (by omega) y6
  have y7 : P14 (m0 + 7) = some (aL (cs 1) 401 (fun _ => 0)) := x_keep eP14 (by omega) y7
  have y8 : P14 (m0 + 8) = some (aI (cs 2) 13 (fun _ => 0)) := x_keep eP14 (by omega) y8
  have y9 : P14 (m0 + 9) = some (aI (cs 2) 13 (fun _ => 0)) := x_keep eP14 (by omega) y9
  have y10 : P14 (m0 + 10) = some (aI (cs 2) 13 (fun _ => 0)) := x_keep eP14 (by omega) y10
  have y11 : P14 (m0 + 11) = some (aL (cs 1) 13 (fun _ => 0)) := x_keep eP14 (by omega) y11
  have y12 : P14 (m0 + 12) = some (aI (cs 0) 13 (fun _ => 0)) := x_keep eP14 (by omega) y12
  have y13 : P14 (m0 + 13) = some (aI (cs 0) 13 (fun _ => 0)) := x_keep eP14 (by omega) y13
  have y14 : P14 (m0 + 14) = some (aI (cs 0) 13 (fun _ => 0)) := x_keep eP14 (by omega) y14
  refine lv_aload_n hx hb d_Mo_init_123 rfl (lv_at hl 0 rfl) ?_
  refine lv_sipush (v := 400) hx hb d_Mo_init_124 (by decide) ?_
  refine x_newaO hx hb (hts _ wd_66) rfl hK hw hA (cA := cs 0) (hK.2 0 _ rfl).2 (N' := 400) (a0 := (400, .inl (fun _ => 0))) (fun _ => rfl) (by decide) rfl (by decide) (Nat.le_of_ble_eq_true rfl) (Nat.le_of_ble_eq_true rfl) d_Mo_init_127 (fun q15 N15 H eq15 eN15 hn15 hz15 hw => ?_)
  obtain rfl : q15 = m0 + 15 := by omega
  have h15a : N15 m0 = some (.inr (kMo, [.int 0, .int 0, .int 0, .ref (m0 + 1), .ref (m0 + 2), .ref (m0 + 3), .ref (m0 + 4), .ref (m0 + 5), .ref (m0 + 6), .ref (m0 + 7), .ref (m0 + 8), .ref (m0 + 9), .ref (m0 + 10), .ref (m0 + 11), .ref (m0 + 12), .ref (m0 + 13), .ref (m0 + 14), .long 0, .int 0, .null, .int 0])) := x_keep eN15 (by omega) h14
  have y1 : N15 (m0 + 1) = some (aL (cs 1) 401 (fun _ => 0)) := x_keep eN15 (by omega) y1
  have y2 : N15 (m0 + 2) = some (aL (cs 1) 401 (fun _ => 0)) := x_keep eN15 (by omega) y2
  have y3 : N15 (m0 + 3) = some (aI (cs 0) 401 (fun _ => 0)) := x_keep eN15 (by omega) y3
  have y4 : N15 (m0 + 4) = some (aI (cs 0) 401 (fun _ => 0)) := x_keep eN15 (by omega) y4
  have y5 : N15 (m0 + 5) = some (aI (cs 0) 401 (fun _ => 0)) := x_keep eN15 (by omega) y5
  have y6 : N15 (m0 + 6) = some (aI (cs 0) 401 (fun _ => 0)) := x_keep eN15 (by omega) y6
  have y7 : N15 (m0 + 7) = some (aL (cs 1) 401 (fun _ => 0)) := x_keep eN15 (by omega) y7
  have y8 : N15 (m0 + 8) = some (aI (cs 2) 13 (fun _ => 0)) := x_keep eN15 (by omega) y8
  have y9 : N15 (m0 + 9) = some (aI (cs 2) 13 (fun _ => 0)) := x_keep eN15 (by omega) y9
  have y10 : N15 (m0 + 10) = some (aI (cs 2) 13 (fun _ => 0)) := x_keep eN15 (by omega) y10
  have y11 : N15 (m0 + 11) = some (aL (cs 1) 13 (fun _ => 0)) := x_keep eN15 (by omega) y11
  have y12 : N15 (m0 + 12) = some (aI (cs 0) 13 (fun _ => 0)) := x_keep eN15 (by omega) y12
  have y13 : N15 (m0 + 13) = some (aI (cs 0) 13 (fun _ => 0)) := x_keep eN15 (by omega) y13
  have y14 : N15 (m0 + 14) = some (aI (cs 0) 13 (fun _ => 0)) := x_keep eN15 (by omega) y14
  have y15 : N15 (m0 + 15) = some (aI (cs 0) 400 (fun _ => 0)) := x_up_self eN15
  refine x_putFS (C := "GateTimesModel") (T := F_Mo) (N := 21) (ty := .array .int) hx hb hts i_Mo t_Mo t_Mo_ok n_Mo hown hK hw h15a rfl 19 (by decide) (hts _ wd_278) (fun _ h9 => h9) rfl hnm rfl (by decide +kernel) rfl rfl (Nat.le_of_ble_eq_true rfl) d_Mo_init_129 (fun P15 H locs eP15 hsP15 hw => ?_)
  have h15 : P15 m0 = some (.inr (kMo, [.int 0, .int 0, .int 0, .ref (m0 + 1), .ref (m0 + 2), .ref (m0 + 3), .ref (m0 + 4), .ref (m0 + 5), .ref (m0 + 6), .ref (m0 + 7), .ref (m0 + 8), .ref (m0 + 9), .ref (m0 + 10), .ref (m0 + 11), .ref (m0 + 12), .ref (m0 + 13), .ref (m0 + 14), .long 0, .int 0, .ref (m0 + 15), .int 0])) := x_up_self eP15
  have y1 : P15 (m0 + 1) = some (aL (cs 1) 401 (fun _ => 0)) := x_keep eP15 (by omega) y1
  have y2 : P15 (m0 + 2) = some (aL (cs 1) 401 (fun _ => 0)) := x_keep eP15 (by omega) y2
  have y3 : P15 (m0 + 3) = some (aI (cs 0) 401 (fun _ => 0)) := x_keep eP15 (by omega) y3
  have y4 : P15 (m0 + 4) = some (aI (cs 0) 401 (fun _ => 0)) := x_keep eP15 (by omega) y4
  have y5 : P15 (m0 + 5) = some (aI (cs 0) 401 (fun _ => 0)) := x_keep eP15 (by omega) y5
  have y6 : P15 (m0 + 6) = some (aI (cs 0) 401 (fun _ => 0)) := x_keep eP15 (by omega) y6
  have y7 : P15 (m0 + 7) = some (aL (cs 1) 401 (fun _ => 0)) := x_keep eP15 (by omega) y7
  have y8 : P15 (m0 + 8) = some (aI (cs 2) 13 (fun _ => 0)) := x_keep eP15 (by omega) y8
  have y9 : P15 (m0 + 9) = some (aI (cs 2) 13 (fun _ => 0)) := x_keep eP15 (by omega) y9
  have y10 : P15 (m0 + 10) = some (aI (cs 2) 13 (fun _ => 0)) := x_keep eP15 (by omega) y10
  have y11 : P15 (m0 + 11) = some (aL (cs 1) 13 (fun _ => 0)) := x_keep eP15 (by omega) y11
  have y12 : P15 (m0 + 12) = some (aI (cs 0) 13 (fun _ => 0)) := x_keep eP15 (by omega) y12
  have y13 : P15 (m0 + 13) = some (aI (cs 0) 13 (fun _ => 0)) := x_keep eP15 (by omega) y13
  have y14 : P15 (m0 + 14) = some (aI (cs 0) 13 (fun _ => 0)) := x_keep eP15 (by omega) y14
  have y15 : P15 (m0 + 15) = some (aI (cs 0) 400 (fun _ => 0)) := x_keep eP15 (by omega) y15
  refine lv_aload_n hx hb d_Mo_init_132 rfl (lv_at hl 0 rfl) ?_
  refine x_cut (α := Int32) 154 (fun b => b = nI (clG gs)) (fun b => [.int b, .ref m0]) (fun b hJ => ?_) (fun J154 => ?_)
  ·
    subst hJ
    refine x_putF (C := "GateTimesModel") (T := F_Mo) (N := 21) (ty := .int) hx hb hts i_Mo t_Mo t_Mo_ok n_Mo hown hK hw h15 rfl 1 (by decide) (hts _ wd_260) (fun _ h9 => h9) rfl hnm rfl (by decide +kernel) rfl rfl (Nat.le_of_ble_eq_true rfl) d_Mo_init_154 (fun Mg H locs eMg hw => ?_)
    have hg : Mg m0 = some (.inr (kMo, [.int 0, .int (nI (clG gs)), .int 0, .ref (m0 + 1), .ref (m0 + 2), .ref (m0 + 3), .ref (m0 + 4), .ref (m0 + 5), .ref (m0 + 6), .ref (m0 + 7), .ref (m0 + 8), .ref (m0 + 9), .ref (m0 + 10), .ref (m0 + 11), .ref (m0 + 12), .ref (m0 + 13), .ref (m0 + 14), .long 0, .int 0, .ref (m0 + 15), .int 0])) := x_up_self eMg
    have hm : mR cs Mg m0 (v0k (clG gs) 0) [] := by
      refine m16 hg ?_ ?_ ?_ ?_ ?_ ?_ ?_ ?_ ?_ ?_ ?_ ?_ ?_ ?_ ?_
      · rw [x_keep eMg (show m0 + 1 ≠ m0 by omega) y1]
        rfl
      · rw [x_keep eMg (show m0 + 2 ≠ m0 by omega) y2]
        rfl
      · rw [x_keep eMg (show m0 + 3 ≠ m0 by omega) y3]
        rw [m0_ord]
        rfl
      · rw [x_keep eMg (show m0 + 4 ≠ m0 by omega) y4]
        rfl
      · rw [x_keep eMg (show m0 + 5 ≠ m0 by omega) y5]
        rw [m0_ord]
        rfl
      · rw [x_keep eMg (show m0 + 6 ≠ m0 by omega) y6]
        rfl
      · rw [x_keep eMg (show m0 + 7 ≠ m0 by omega) y7]
        rfl
      · rw [x_keep eMg (show m0 + 8 ≠ m0 by omega) y8]
        rfl
      · rw [x_keep eMg (show m0 + 9 ≠ m0 by omega) y9]
        rfl
      · rw [x_keep eMg (show m0 + 10 ≠ m0 by omega) y10]
        rfl
      · rw [x_keep eMg (show m0 + 11 ≠ m0 by omega) y11]
        rfl
      · rw [x_keep eMg (show m0 + 12 ≠ m0 by omega) y12]
        simp [mel, v0k]
        rfl
      · rw [x_keep eMg (show m0 + 13 ≠ m0 by omega) y13]
        rfl
      · rw [x_keep eMg (show m0 + 14 ≠ m0 by omega) y14]
        rfl
      · rw [x_keep eMg (show m0 + 15 ≠ m0 by omega) y15]
        rfl
    refine lv_iconst (v := 0) hx hb d_Mo_init_157 (by decide) ?_
    refine lv_istore_n (lv' := [(2, .int 0), (0, .ref m0), (1, .int gs)]) hx hb d_Mo_init_158 rfl hl (by decide) rfl (fun ls hl => ?_)
    have hl : lv_has ls 3 [(2, .int (nI 0)), (0, .ref m0), (1, .int gs)] := hl
    refine x_loop (A := xA M sz) (D := D) (cl := classes) (H0 := s.heap) (nL := 3) (σ := Nat × xM) (fun ⟨k, My⟩ => 13 - k) (fun ⟨k, My⟩ => k ≤ 13 ∧ mR cs My m0 (v0k (clG gs) k) []) (fun ⟨k, My⟩ => My) (fun ⟨k, My⟩ => [(2, .int (nI k)), (0, .ref m0), (1, .int gs)]) (fun z hI ih H locs ls hw hl => ?_) (0, Mg) ⟨Nat.zero_le _, hm⟩ _ _ _ hw hl
    obtain ⟨k, My⟩ := z
    try dsimp only at hI hw hl ih
    obtain ⟨k1, k2⟩ := hI
    have z0 : My m0 = some (mHead m0 (v0k (clG gs) k) []) := k2 0 (by decide)
    have g12 : My (m0 + 12) = some (aI (cs 0) 13 (fun g => nI (if g < k then 1000 else 0))) := by
      rw [k2 12 (by decide)]
      simp [mel, v0k]
    refine lv_iload_n hx hb d_Mo_init_159 rfl (lv_at hl 0 rfl) ?_
    refine lv_bipush (v := 13) hx hb d_Mo_init_160 (by decide) ?_
    refine lv_icmp_ge (tgt := 180) hx hb d_Mo_init_162 (by decide) (fun c162 => ?_) (fun c162 => ?_)
    ·
      have hk : k = 13 := by
        have := (nI_leI (a := 13) (b := k) (by decide) (by omega)).mp c162
        omega
      subst hk
      exact x_vret hx hb hr hlk hw (⟨rfl, k2⟩) d_Mo_init_180
    ·
      have hk : k < 13 := Nat.lt_of_not_le (fun z => c162 ((nI_leI (a := 13) (b := k) (by decide) (by omega)).mpr z))
      refine lv_aload_n hx hb d_Mo_init_165 rfl (lv_at hl 1 rfl) ?_
      refine x_get (C := "GateTimesModel") (T := F_Mo) (N := 21) hx hb hts i_Mo hown hK hw z0 rfl 14 (by decide) (hts _ wd_273) (fun _ h9 => h9) rfl d_Mo_init_166 ?_
      refine lv_iload_n hx hb d_Mo_init_169 rfl (lv_at hl 0 rfl) ?_
      refine lv_sipush (v := 1000) hx hb d_Mo_init_170 (by decide) ?_
      refine x_iastN hx hb hK hw g12 0 rfl hk (by decide) d_Mo_init_173 (fun Mn H locs eMn hw => ?_)
      obtain ⟨n174, en174⟩ : ∃ y : Int32, y = (nI k) + 1 := ⟨_, rfl⟩
      refine lv_iinc (v := n174) (lv' := [(2, .int n174), (0, .ref m0), (1, .int gs)]) hx hb d_Mo_init_174 hl (k := 0) rfl (by rw [en174]; rfl) (by decide) rfl (fun ls hl => ?_)
      obtain rfl : n174 = nI (k + 1) := en174.trans (nI_1 k)
      refine lv_goto (tgt := 159) hx hb d_Mo_init_177 (by decide) ?_
      exact ih (k + 1, Mn) ⟨by first | omega | (dsimp only; omega), mR_hei k2 eMn⟩ (by first | omega | (dsimp only; omega)) _ _ _ hw (lv_sub hl [0, 1, 2] rfl)
  ·
    refine lv_iload_n hx hb d_Mo_init_133 rfl (lv_at hl 1 rfl) ?_
    refine lv_iconst (v := 1) hx hb d_Mo_init_134 (by decide) ?_
    refine lv_icmp_ge (tgt := 142) hx hb d_Mo_init_135 (by decide) (fun c135 => ?_) (fun c135 => ?_)
    ·
      refine lv_iload_n hx hb d_Mo_init_142 rfl (lv_at hl 1 rfl) ?_
      refine lv_bipush (v := 12) hx hb d_Mo_init_143 (by decide) ?_
      refine lv_icmp_le (tgt := 153) hx hb d_Mo_init_145 (by decide) (fun c145 => ?_) (fun c145 => ?_)
      ·
        refine lv_iload_n hx hb d_Mo_init_153 rfl (lv_at hl 1 rfl) ?_
        exact J154 _ (clG_n (fun z => Int32.not_lt.mpr c135 z) (fun z => Int32.not_lt.mpr c145 z)).symm
      ·
        refine lv_bipush (v := 12) hx hb d_Mo_init_148 (by decide) ?_
        refine lv_goto (tgt := 154) hx hb d_Mo_init_150 (by decide) ?_
        exact J154 12 (by unfold clG; rw [if_neg (fun z => Int32.not_lt.mpr c135 z), if_pos (Int32.not_le.mp c145)]; rfl)
    ·
      refine lv_iconst (v := 1) hx hb d_Mo_init_138 (by decide) ?_
      refine lv_goto (tgt := 154) hx hb d_Mo_init_139 (by decide) ?_
      exact J154 1 (by unfold clG; rw [if_pos (Int32.not_le.mp c135)]; rfl)
