set_option maxHeartbeats 4000000 in
set_option maxRecDepth 100000 in
theorem c_Mo_step (l : Launch) (D : va_G) (cs : Nat → ClassId) (M : xM) (sz : Nat) (m0 : Nat) (v : gV) (o : List Nat) (hm : mR cs M m0 v o) (hG0 : gAll v o) (t : Int64) : Met l y_Mo_step w_Mo_step ({ frames := 3, cells := 0, slots := 0, locals := 73 }) (xPc D classes (xtys cs) M sz [.ref m0, .long t]) (xQ D classes M sz (fun rv M1 => ∃ r : Int32, rv = some (.int r) ∧ ∃ (v1 : gV) (o1 : List Nat), pStep v o t r v1 o1 ∧ mR cs M1 m0 v1 o1)) 0 0 (xA M sz) := by
  have hI0 := hG0.1
  have hGb := hI0.1.2
  have hG1 := hI0.1.1
  have hn := hI0.2.1
  have hnow := hI0.2.2.1
  have z0 : M m0 = some (mHead m0 v o) := hm 0 (by decide)
  refine x_met (maxL := 4) (ret := (some .int)) (by decide) (Nat.le_of_ble_eq_true rfl) ?_
  intro p e s m below meth c ls hsz hF hr hlk hnm hK hZ hw hl
  obtain ⟨hx, hb, hml, hown, hts⟩ := id hF
  have hA : ∀ q, s.heap.size ≤ q → xA M sz q := x_hA hsz
  have hl : lv_has ls 4 [(0, .ref m0), (1, .long t)] := hl
  refine lv_aload_n hx hb d_Mo_step_0 rfl (lv_at hl 0 rfl) ?_
  refine lv_iconst (v := 0) hx hb d_Mo_step_1 (by decide) ?_
  refine x_put (C := "GateTimesModel") (T := F_Mo) (N := 21) (ty := .int) hx hb hts i_Mo t_Mo t_Mo_ok n_Mo hown hK hw z0 rfl 0 (by decide) (hts _ wd_259) (fun _ h9 => h9) rfl (by decide +kernel) rfl rfl (Nat.le_of_ble_eq_true rfl) d_Mo_step_2 (fun M1 H locs eM1 hw => ?_)
  rw [x_up_id (e := mHead m0 v o) z0 eM1] at hw
  refine lv_lload_n hx hb d_Mo_step_5 rfl (lv_at hl 1 rfl) ?_
  refine lv_aload_n hx hb d_Mo_step_6 rfl (lv_at hl 0 rfl) ?_
  refine x_get (C := "GateTimesModel") (T := F_Mo) (N := 21) hx hb hts i_Mo hown hK hw z0 rfl 17 (by decide) (hts _ wd_276) (fun _ h9 => h9) rfl d_Mo_step_7 ?_
  refine lv_ldc2 (v := 1000000000) hx hb hown (hts _ wd_334) d_Mo_step_10 ?_
  refine x_calliM (va_runS (As := [.long t, .long (lN (v 12 2)), .long 1000000000]) (rest := []) hF (c_Mo_isIn l D cs M _ t (lN (v 12 2)) 1000000000) (x_cwS 3 hts wd_331 wd_332 wd_6 wd_333 rfl rfl (by decide +kernel) ⟨Nat.le_of_ble_eq_true rfl, Nat.le_of_ble_eq_true rfl⟩) (x_preS hK hZ hw) rfl rfl hl.1 rfl (lv_room (Nat.le_of_ble_eq_true rfl)) d_Mo_step_13 ⟨Nat.le_of_ble_eq_true rfl, Nat.le_of_ble_eq_true rfl⟩) hw hA (fun r H locs hp hw => ?_)
  rcases hp with ⟨rfl, ok⟩ | ⟨rfl, ok⟩
  ·
    refine lv_if_ne (tgt := 22) hx hb d_Mo_step_16 (by decide) (fun c16 => ?_) (fun c16 => False.elim (absurd c16 (by decide)))
    obtain ⟨n, rfl, n1, n2⟩ := okT_of ok hnow
    refine lv_aload_n hx hb d_Mo_step_22 rfl (lv_at hl 0 rfl) ?_
    refine lv_lload_n hx hb d_Mo_step_23 rfl (lv_at hl 1 rfl) ?_
    refine x_callv (va_runV (As := [.long (lN n)]) (rest := []) hF (c_Mo_pass l D cs M _ m0 v o hm n hI0 hG0.2.1 n2) (x_cwV 1 hts wd_347 wd_349 wp_10 wd_6 wd_350 rfl rfl (by decide +kernel) ⟨Nat.le_of_ble_eq_true rfl, Nat.le_of_ble_eq_true rfl⟩) (x_preV hK hZ hw z0 rfl) rfl rfl hl.1 rfl (lv_room (Nat.le_of_ble_eq_true rfl)) d_Mo_step_24 ⟨Nat.le_of_ble_eq_true rfl, Nat.le_of_ble_eq_true rfl⟩) hw hA (fun M1 H locs hp hw => ?_)
    obtain ⟨v1, o1, hpa, hm1⟩ := hp
    have z0 : M1 m0 = some (mHead m0 v1 o1) := hm1 0 (by decide)
    refine lv_aload_n hx hb d_Mo_step_27 rfl (lv_at hl 0 rfl) ?_
    refine x_get (C := "GateTimesModel") (T := F_Mo) (N := 21) hx hb hts i_Mo hown hK hw z0 rfl 18 (by decide) (hts _ wd_277) (fun _ h9 => h9) rfl d_Mo_step_28 ?_
    refine lv_aload_n hx hb d_Mo_step_31 rfl (lv_at hl 0 rfl) ?_
    refine x_get (C := "GateTimesModel") (T := F_Mo) (N := 21) hx hb hts i_Mo hown hK hw z0 rfl 20 (by decide) (hts _ wd_279) (fun _ h9 => h9) rfl d_Mo_step_32 ?_
    refine lv_isub hx hb d_Mo_step_35 ?_
    refine lv_topi (fun n35 en35 => ?_)
    refine lv_istore_n (lv' := [(3, .int n35), (0, .ref m0), (1, .long (lN n))]) hx hb d_Mo_step_36 rfl hl (by decide) rfl (fun ls hl => ?_)
    refine lv_aload_n hx hb d_Mo_step_37 rfl (lv_at hl 1 rfl) ?_
    refine lv_aload_n hx hb d_Mo_step_38 rfl (lv_at hl 1 rfl) ?_
    refine x_get (C := "GateTimesModel") (T := F_Mo) (N := 21) hx hb hts i_Mo hown hK hw z0 rfl 18 (by decide) (hts _ wd_277) (fun _ h9 => h9) rfl d_Mo_step_39 ?_
    refine x_put (C := "GateTimesModel") (T := F_Mo) (N := 21) (ty := .int) hx hb hts i_Mo t_Mo t_Mo_ok n_Mo hown hK hw z0 rfl 20 (by decide) (hts _ wd_279) (fun _ h9 => h9) rfl (by decide +kernel) rfl rfl (Nat.le_of_ble_eq_true rfl) d_Mo_step_42 (fun M2 H locs eM2 hw => ?_)
    refine lv_iload_n hx hb d_Mo_step_45 rfl (lv_at hl 0 rfl) ?_
    exact x_iret hx hb hr hlk rfl hw (⟨_, rfl, up2 v1 12 3 o1.length, o1, Or.inr ⟨n, v1, rfl, n1, n2, hpa, en35, rfl⟩, mR_told hm1 (by rw [eM2]; rfl)⟩) d_Mo_step_46
  ·
    refine lv_if_ne (tgt := 22) hx hb d_Mo_step_16 (by decide) (fun c16 => False.elim (c16 rfl)) (fun c16 => ?_)
    refine lv_bipush (v := (-102)) hx hb d_Mo_step_19 (by decide) ?_
    exact x_iret hx hb hr hlk rfl hw (⟨_, rfl, v, o, Or.inl ⟨ok, rfl, rfl, rfl⟩, hm⟩) d_Mo_step_21
set_option maxHeartbeats 4000000 in
set_option maxRecDepth 100000 in
theorem c_Mo_order (l : Launch) (D : va_G) (cs : Nat → ClassId) (M : xM) (sz : Nat) (m0 : Nat) (v : gV) (o : List Nat) (hm : mR cs M m0 v o) (hG0 : gAll v o) (i b : Int32) (t : Int64) : Met l y_Mo_order w_Mo_order ({ frames := 3, cells := 0, slots := 0, locals := 73 }) (xPc D classes (xtys cs) M sz [.ref m0, .int i, .int b, .long t]) (xQ D classes M sz (fun rv M1 => ∃ r : Int32, rv = some (.int r) ∧ ∃ (v1 : gV) (o1 : List Nat), pOrd v o i b t r v1 o1 ∧ mR cs M1 m0 v1 o1)) 0 0 (xA M sz) := by
  have hI0 := hG0.1
  have hGb := hI0.1.2
  have hG1 := hI0.1.1
  have hn := hI0.2.1
  have hnow := hI0.2.2.1
  have z0 : M m0 = some (mHead m0 v o) := hm 0 (by decide)
  refine x_met (maxL := 7) (ret := (some .int)) (by decide) (Nat.le_of_ble_eq_true rfl) ?_
  intro p e s m below meth c ls hsz hF hr hlk hnm hK hZ hw hl
  obtain ⟨hx, hb, hml, hown, hts⟩ := id hF
  have hA : ∀ q, s.heap.size ≤ q → xA M sz q := x_hA hsz
  have hl : lv_has ls 7 [(0, .ref m0), (1, .int i), (2, .int b), (3, .long t)] := hl
  refine lv_aload_n hx hb d_Mo_order_0 rfl (lv_at hl 0 rfl) ?_
  refine lv_iconst (v := 0) hx hb d_Mo_order_1 (by decide) ?_
  refine x_put (C := "GateTimesModel") (T := F_Mo) (N := 21) (ty := .int) hx hb hts i_Mo t_Mo t_Mo_ok n_Mo hown hK hw z0 rfl 0 (by decide) (hts _ wd_259) (fun _ h9 => h9) rfl (by decide +kernel) rfl rfl (Nat.le_of_ble_eq_true rfl) d_Mo_order_2 (fun M1 H locs eM1 hw => ?_)
  rw [x_up_id (e := mHead m0 v o) z0 eM1] at hw
  refine lv_aload_n hx hb d_Mo_order_5 rfl (lv_at hl 0 rfl) ?_
  refine lv_iload_n hx hb d_Mo_order_6 rfl (lv_at hl 1 rfl) ?_
  refine x_calliM (va_runV (As := [.int i]) (rest := []) hF (c_Mo_isItem l D cs M _ m0 v o hm hn i) (x_cwV 1 hts wd_339 wd_341 wp_8 wd_6 wd_342 rfl rfl (by decide +kernel) ⟨Nat.le_of_ble_eq_true rfl, Nat.le_of_ble_eq_true rfl⟩) (x_preV hK hZ hw z0 rfl) rfl rfl hl.1 rfl (lv_room (Nat.le_of_ble_eq_true rfl)) d_Mo_order_7 ⟨Nat.le_of_ble_eq_true rfl, Nat.le_of_ble_eq_true rfl⟩) hw hA (fun r H locs hp hw => ?_)
  rcases hp with ⟨rfl, ok⟩ | ⟨rfl, ok⟩
  ·
    refine lv_if_eq (tgt := 21) hx hb d_Mo_order_10 (by decide) (fun c10 => False.elim (absurd c10 (by decide))) (fun c10 => ?_)
    refine lv_aload_n hx hb d_Mo_order_13 rfl (lv_at hl 0 rfl) ?_
    refine lv_iload_n hx hb d_Mo_order_14 rfl (lv_at hl 2 rfl) ?_
    refine x_calliM (va_runV (As := [.int b]) (rest := []) hF (c_Mo_isBin l D cs M _ m0 v o hm hG1 hGb b) (x_cwV 1 hts wd_343 wd_345 wp_9 wd_6 wd_346 rfl rfl (by decide +kernel) ⟨Nat.le_of_ble_eq_true rfl, Nat.le_of_ble_eq_true rfl⟩) (x_preV hK hZ hw z0 rfl) rfl rfl hl.1 rfl (lv_room (Nat.le_of_ble_eq_true rfl)) d_Mo_order_15 ⟨Nat.le_of_ble_eq_true rfl, Nat.le_of_ble_eq_true rfl⟩) hw hA (fun r H locs hp hw => ?_)
    rcases hp with ⟨rfl, ok2⟩ | ⟨rfl, ok2⟩
    ·
      refine lv_if_ne (tgt := 24) hx hb d_Mo_order_18 (by decide) (fun c18 => ?_) (fun c18 => False.elim (absurd c18 (by decide)))
      refine lv_lload_n hx hb d_Mo_order_24 rfl (lv_at hl 3 rfl) ?_
      refine lv_aload_n hx hb d_Mo_order_25 rfl (lv_at hl 0 rfl) ?_
      refine x_get (C := "GateTimesModel") (T := F_Mo) (N := 21) hx hb hts i_Mo hown hK hw z0 rfl 17 (by decide) (hts _ wd_276) (fun _ h9 => h9) rfl d_Mo_order_26 ?_
      refine lv_ldc2 (v := 1000000000) hx hb hown (hts _ wd_334) d_Mo_order_29 ?_
      refine x_calliM (va_runS (As := [.long t, .long (lN (v 12 2)), .long 1000000000]) (rest := []) hF (c_Mo_isIn l D cs M _ t (lN (v 12 2)) 1000000000) (x_cwS 3 hts wd_331 wd_332 wd_6 wd_333 rfl rfl (by decide +kernel) ⟨Nat.le_of_ble_eq_true rfl, Nat.le_of_ble_eq_true rfl⟩) (x_preS hK hZ hw) rfl rfl hl.1 rfl (lv_room (Nat.le_of_ble_eq_true rfl)) d_Mo_order_32 ⟨Nat.le_of_ble_eq_true rfl, Nat.le_of_ble_eq_true rfl⟩) hw hA (fun r H locs hp hw => ?_)
      rcases hp with ⟨rfl, ok3⟩ | ⟨rfl, ok3⟩
      ·
        refine lv_if_ne (tgt := 41) hx hb d_Mo_order_35 (by decide) (fun c35 => ?_) (fun c35 => False.elim (absurd c35 (by decide)))
        obtain ⟨n, rfl, n1, n2⟩ := okT_of ok3 hnow
        obtain ⟨k, rfl, k1, k2⟩ := ok
        obtain ⟨g, rfl, g1⟩ := ok2
        refine lv_aload_n hx hb d_Mo_order_41 rfl (lv_at hl 0 rfl) ?_
        refine lv_lload_n hx hb d_Mo_order_42 rfl (lv_at hl 3 rfl) ?_
        refine x_callv (va_runV (As := [.long (lN n)]) (rest := []) hF (c_Mo_pass l D cs M _ m0 v o hm n hI0 hG0.2.1 n2) (x_cwV 1 hts wd_347 wd_349 wp_10 wd_6 wd_350 rfl rfl (by decide +kernel) ⟨Nat.le_of_ble_eq_true rfl, Nat.le_of_ble_eq_true rfl⟩) (x_preV hK hZ hw z0 rfl) rfl rfl hl.1 rfl (lv_room (Nat.le_of_ble_eq_true rfl)) d_Mo_order_43 ⟨Nat.le_of_ble_eq_true rfl, Nat.le_of_ble_eq_true rfl⟩) hw hA (fun M1 H locs hp hw => ?_)
        obtain ⟨v1, o1, hpa, hm1⟩ := hp
        obtain ⟨pa, p2, p3, p4, p5, p6⟩ := passed_all hG0 n1 n2 hpa
        have k3 : k ≤ v1 12 1 := by omega
        have hit := pa.1.2.2.2.2.1 k k1 k3
        unfold gItem at hit
        have k4 : k < 401 := by omega
        have z0 : M1 m0 = some (mHead m0 v1 o1) := hm1 0 (by decide)
        have g3 : M1 (m0 + 3) = some (aI (cs 0) 401 (fun j => if j = 0 ∨ v1 12 1 < j then 0 else eN (v1 2 j))) := hm1 3 (by decide)
        have g5 : M1 (m0 + 5) = some (aI (cs 0) 401 (fun j => if j = 0 ∨ v1 12 1 < j then 0 else eN (v1 3 j))) := hm1 5 (by decide)
        have g6 : M1 (m0 + 6) = some (aI (cs 0) 401 (fun j => nI (v1 5 j))) := hm1 6 (by decide)
        refine lv_aload_n hx hb d_Mo_order_46 rfl (lv_at hl 0 rfl) ?_
        refine x_get (C := "GateTimesModel") (T := F_Mo) (N := 21) hx hb hts i_Mo hown hK hw z0 rfl 7 (by decide) (hts _ wd_266) (fun _ h9 => h9) rfl d_Mo_order_47 ?_
        refine lv_iload_n hx hb d_Mo_order_50 rfl (lv_at hl 1 rfl) ?_
        refine x_ialdN hx hb hK hw g5 0 rfl k4 (by decide) d_Mo_order_51 ?_
        rw [if_neg (by omega)]
        refine lv_if_ge (tgt := 64) hx hb d_Mo_order_52 (by decide) (fun c52 => ?_) (fun c52 => ?_)
        ·
          have c3 : v1 3 k ≠ 0 := (eN_pos (by omega)).mp c52
          refine lv_aload_n hx hb d_Mo_order_64 rfl (lv_at hl 0 rfl) ?_
          refine x_get (C := "GateTimesModel") (T := F_Mo) (N := 21) hx hb hts i_Mo hown hK hw z0 rfl 7 (by decide) (hts _ wd_266) (fun _ h9 => h9) rfl d_Mo_order_65 ?_
          refine lv_iload_n hx hb d_Mo_order_68 rfl (lv_at hl 1 rfl) ?_
          refine x_ialdN hx hb hK hw g5 0 rfl k4 (by decide) d_Mo_order_69 ?_
          rw [if_neg (by omega)]
          refine lv_if_lt (tgt := 77) hx hb d_Mo_order_70 (by decide) (fun c70 => False.elim (c3 ((eN_neg (by omega)).mp c70))) (fun c70 => ?_)
          refine lv_iconst (v := 0) hx hb d_Mo_order_73 (by decide) ?_
          refine lv_goto (tgt := 78) hx hb d_Mo_order_74 (by decide) ?_
          exact x_iret hx hb hr hlk rfl hw (⟨_, rfl, v1, o1, Or.inr (Or.inr ⟨k, g, n, v1, rfl, k1, k2, rfl, g1, rfl, n1, n2, hpa, Or.inl ⟨c3, rfl, rfl⟩⟩), hm1⟩) d_Mo_order_78
        ·
          have c3 : v1 3 k = 0 := Decidable.byContradiction (fun z => c52 ((eN_pos (by omega)).mpr z))
          refine lv_aload_n hx hb d_Mo_order_55 rfl (lv_at hl 0 rfl) ?_
          refine x_get (C := "GateTimesModel") (T := F_Mo) (N := 21) hx hb hts i_Mo hown hK hw z0 rfl 5 (by decide) (hts _ wd_264) (fun _ h9 => h9) rfl d_Mo_order_56 ?_
          refine lv_iload_n hx hb d_Mo_order_59 rfl (lv_at hl 1 rfl) ?_
          refine x_ialdN hx hb hK hw g3 0 rfl k4 (by decide) d_Mo_order_60 ?_
          rw [if_neg (by omega)]
          refine lv_if_lt (tgt := 79) hx hb d_Mo_order_61 (by decide) (fun c61 => ?_) (fun c61 => ?_)
          ·
            have c2 : v1 2 k = 0 := (eN_neg (by omega)).mp c61
            have hfb : fr v1 k g < 1000020000 := by unfold fr; omega
            refine lv_lload_n hx hb d_Mo_order_79 rfl (lv_at hl 3 rfl) ?_
            refine lv_ldc2 (v := 200) hx hb hown (hts _ wd_360) d_Mo_order_80 ?_
            refine lv_ladd hx hb d_Mo_order_83 ?_
            refine lv_topl (fun n83 en83 => ?_)
            obtain rfl : n83 = lN (n + 200) := en83.trans (lN_add n 200)
            refine lv_aload_n hx hb d_Mo_order_84 rfl (lv_at hl 0 rfl) ?_
            refine lv_iload_n hx hb d_Mo_order_85 rfl (lv_at hl 1 rfl) ?_
            refine lv_iload_n hx hb d_Mo_order_86 rfl (lv_at hl 2 rfl) ?_
            refine x_calllM (va_runV (As := [.int (nI k), .int (nI g)]) (rest := [.long (lN (n + 200))]) hF (c_Mo_front l D cs M1 _ m0 v1 o1 hm1 k g (by omega) (by omega)) (x_cwV 2 hts wd_351 wd_353 wp_11 wd_6 wd_354 rfl rfl (by decide +kernel) ⟨Nat.le_of_ble_eq_true rfl, Nat.le_of_ble_eq_true rfl⟩) (x_preV hK hZ hw z0 rfl) rfl rfl hl.1 rfl (lv_room (Nat.le_of_ble_eq_true rfl)) d_Mo_order_87 ⟨Nat.le_of_ble_eq_true rfl, Nat.le_of_ble_eq_true rfl⟩) hw hA (fun r H locs hp hw => ?_)
            subst hp
            refine lv_lsub hx hb d_Mo_order_90 ?_
            refine lv_topl (fun n90 en90 => ?_)
            by_cases hd : fr v1 k g < n + 200
            ·
              obtain rfl : n90 = lN (n + 200 - fr v1 k g) := en90.trans (lN_sub (by omega))
              refine lv_lstore (lv' := [(5, .long (lN (n + 200 - fr v1 k g))), (0, .ref m0), (1, .int (nI k)), (2, .int (nI g)), (3, .long (lN n))]) hx hb d_Mo_order_91 hl (by decide) rfl (fun ls hl => ?_)
              refine lv_lload hx hb d_Mo_order_93 (lv_at hl 0 rfl) ?_
              refine lv_lconst (v := 0) hx hb d_Mo_order_95 (by decide) ?_
              refine W.lcmp hx hb d_Mo_order_96 ?_
              refine lv_if_le (tgt := 111) hx hb d_Mo_order_97 (by decide) (fun c97 => False.elim (l_pos (by omega) (by omega) ((lg_cmp_le _ _).mp c97))) (fun c97 => ?_)
              replace c97 := (fun z => c97 ((lg_cmp_le _ _).mpr z))
              refine lv_aload_n hx hb d_Mo_order_100 rfl (lv_at hl 1 rfl) ?_
              refine x_get (C := "GateTimesModel") (T := F_Mo) (N := 21) hx hb hts i_Mo hown hK hw z0 rfl 8 (by decide) (hts _ wd_267) (fun _ h9 => h9) rfl d_Mo_order_101 ?_
              refine lv_iload_n hx hb d_Mo_order_104 rfl (lv_at hl 2 rfl) ?_
              refine lv_lload hx hb d_Mo_order_105 (lv_at hl 0 rfl) ?_
              refine lv_l2i hx hb d_Mo_order_107 rfl ?_
              refine lv_topi (fun n107 en107 => ?_)
              obtain rfl : n107 = nI (n + 200 - fr v1 k g) := en107.trans (lN_i _)
              refine x_iastN hx hb hK hw g6 0 rfl k4 (by decide) d_Mo_order_108 (fun M2 H locs eM2 hw => ?_)
              refine lv_iconst (v := 0) hx hb d_Mo_order_109 (by decide) ?_
              exact x_iret hx hb hr hlk rfl hw (⟨_, rfl, up2 v1 5 k (n + 200 - fr v1 k g), o1, Or.inr (Or.inr ⟨k, g, n, v1, rfl, k1, k2, rfl, g1, rfl, n1, n2, hpa, Or.inr (Or.inr (Or.inl ⟨c3, c2, hd, rfl, rfl⟩))⟩), mR_5 hm1 eM2⟩) d_Mo_order_110
            ·
              refine lv_lstore (lv' := [(5, .long n90), (0, .ref m0), (1, .int (nI k)), (2, .int (nI g)), (3, .long (lN n))]) hx hb d_Mo_order_91 hl (by decide) rfl (fun ls hl => ?_)
              refine lv_lload hx hb d_Mo_order_93 (lv_at hl 0 rfl) ?_
              refine lv_lconst (v := 0) hx hb d_Mo_order_95 (by decide) ?_
              refine W.lcmp hx hb d_Mo_order_96 ?_
              have hd2 : n90 ≤ 0 := by rw [en90]; exact l_neg (by omega) (by omega)
              refine lv_if_le (tgt := 111) hx hb d_Mo_order_97 (by decide) (fun c97 => ?_) (fun c97 => False.elim ((fun z => c97 ((lg_cmp_le _ _).mpr z)) hd2))
              replace c97 := ((lg_cmp_le _ _).mp c97)
              refine lv_aload_n hx hb d_Mo_order_111 rfl (lv_at hl 1 rfl) ?_
              refine x_get (C := "GateTimesModel") (T := F_Mo) (N := 21) hx hb hts i_Mo hown hK hw z0 rfl 5 (by decide) (hts _ wd_264) (fun _ h9 => h9) rfl d_Mo_order_112 ?_
              refine lv_iload_n hx hb d_Mo_order_115 rfl (lv_at hl 2 rfl) ?_
              refine lv_iload_n hx hb d_Mo_order_116 rfl (lv_at hl 3 rfl) ?_
              refine x_iastN hx hb hK hw g3 0 rfl k4 (by decide) d_Mo_order_117 (fun M2 H locs eM2 hw => ?_)
              refine lv_iconst (v := 1) hx hb d_Mo_order_118 (by decide) ?_
              exact x_iret hx hb hr hlk rfl hw (⟨_, rfl, up2 v1 2 k (g + 1), o1, Or.inr (Or.inr ⟨k, g, n, v1, rfl, k1, k2, rfl, g1, rfl, n1, n2, hpa, Or.inr (Or.inr (Or.inr ⟨c3, c2, hd, rfl, rfl⟩))⟩), mR_2 hm1 k1 k3 eM2⟩) d_Mo_order_119
          ·
            have c2 : v1 2 k ≠ 0 := fun z => c61 ((eN_neg (by omega)).mpr z)
            refine lv_aload_n hx hb d_Mo_order_64 rfl (lv_at hl 0 rfl) ?_
            refine x_get (C := "GateTimesModel") (T := F_Mo) (N := 21) hx hb hts i_Mo hown hK hw z0 rfl 7 (by decide) (hts _ wd_266) (fun _ h9 => h9) rfl d_Mo_order_65 ?_
            refine lv_iload_n hx hb d_Mo_order_68 rfl (lv_at hl 1 rfl) ?_
            refine x_ialdN hx hb hK hw g5 0 rfl k4 (by decide) d_Mo_order_69 ?_
            rw [if_neg (by omega)]
            refine lv_if_lt (tgt := 77) hx hb d_Mo_order_70 (by decide) (fun c70 => ?_) (fun c70 => False.elim (c70 ((eN_neg (by omega)).mpr c3)))
            refine lv_iconst (v := 2) hx hb d_Mo_order_77 (by decide) ?_
            exact x_iret hx hb hr hlk rfl hw (⟨_, rfl, v1, o1, Or.inr (Or.inr ⟨k, g, n, v1, rfl, k1, k2, rfl, g1, rfl, n1, n2, hpa, Or.inr (Or.inl ⟨c3, c2, rfl, rfl⟩)⟩), hm1⟩) d_Mo_order_78
      ·
        refine lv_if_ne (tgt := 41) hx hb d_Mo_order_35 (by decide) (fun c35 => False.elim (c35 rfl)) (fun c35 => ?_)
        refine lv_bipush (v := (-102)) hx hb d_Mo_order_38 (by decide) ?_
        exact x_iret hx hb hr hlk rfl hw (⟨_, rfl, v, o, Or.inr (Or.inl ⟨ok, ok2, ok3, rfl, rfl, rfl⟩), hm⟩) d_Mo_order_40
    ·
      refine lv_if_ne (tgt := 24) hx hb d_Mo_order_18 (by decide) (fun c18 => False.elim (c18 rfl)) (fun c18 => ?_)
      refine lv_bipush (v := (-101)) hx hb d_Mo_order_21 (by decide) ?_
      exact x_iret hx hb hr hlk rfl hw (⟨_, rfl, v, o, Or.inl ⟨fun z => ok2 z.2, rfl, rfl, rfl⟩, hm⟩) d_Mo_order_23
  ·
    refine lv_if_eq (tgt := 21) hx hb d_Mo_order_10 (by decide) (fun c10 => ?_) (fun c10 => False.elim (c10 rfl))
    refine lv_bipush (v := (-101)) hx hb d_Mo_order_21 (by decide) ?_
    exact x_iret hx hb hr hlk rfl hw (⟨_, rfl, v, o, Or.inl ⟨fun z => ok z.1, rfl, rfl, rfl⟩, hm⟩) d_Mo_order_23
set_option maxHeartbeats 4000000 in
set_option maxRecDepth 100000 in
theorem c_Mo_height (l : Launch) (D : va_G) (cs : Nat → ClassId) (M : xM) (sz : Nat) (m0 : Nat) (v : gV) (o : List Nat) (hm : mR cs M m0 v o) (hG0 : gAll v o) (b n0 : Int32) : Met l y_Mo_height w_Mo_height ({ frames := 2, cells := 0, slots := 0, locals := 46 }) (xPc D classes (xtys cs) M sz [.ref m0, .int b, .int n0]) (xQ D classes M sz (fun rv M1 => ∃ r : Int32, rv = some (.int r) ∧ ∃ (v1 : gV) (o1 : List Nat), pHei v b n0 r v1 ∧ o1 = o ∧ mR cs M1 m0 v1 o1)) 0 0 (xA M sz) := by
  have hI0 := hG0.1
  have hGb := hI0.1.2
  have hG1 := hI0.1.1
  have hn := hI0.2.1
  have hnow := hI0.2.2.1
  have z0 : M m0 = some (mHead m0 v o) := hm 0 (by decide)
  refine x_met (maxL := 4) (ret := (some .int)) (by decide) (Nat.le_of_ble_eq_true rfl) ?_
  intro p e s m below meth c ls hsz hF hr hlk hnm hK hZ hw hl
  obtain ⟨hx, hb, hml, hown, hts⟩ := id hF
  have hA : ∀ q, s.heap.size ≤ q → xA M sz q := x_hA hsz
  have hl : lv_has ls 4 [(0, .ref m0), (1, .int b), (2, .int n0)] := hl
  refine lv_aload_n hx hb d_Mo_height_0 rfl (lv_at hl 0 rfl) ?_
  refine lv_iconst (v := 0) hx hb d_Mo_height_1 (by decide) ?_
  refine x_put (C := "GateTimesModel") (T := F_Mo) (N := 21) (ty := .int) hx hb hts i_Mo t_Mo t_Mo_ok n_Mo hown hK hw z0 rfl 0 (by decide) (hts _ wd_259) (fun _ h9 => h9) rfl (by decide +kernel) rfl rfl (Nat.le_of_ble_eq_true rfl) d_Mo_height_2 (fun M1 H locs eM1 hw => ?_)
  rw [x_up_id (e := mHead m0 v o) z0 eM1] at hw
  refine lv_aload_n hx hb d_Mo_height_5 rfl (lv_at hl 0 rfl) ?_
  refine lv_iload_n hx hb d_Mo_height_6 rfl (lv_at hl 1 rfl) ?_
  refine x_calliM (va_runV (As := [.int b]) (rest := []) hF (c_Mo_isBin l D cs M _ m0 v o hm hG1 hGb b) (x_cwV 1 hts wd_343 wd_345 wp_9 wd_6 wd_346 rfl rfl (by decide +kernel) ⟨Nat.le_of_ble_eq_true rfl, Nat.le_of_ble_eq_true rfl⟩) (x_preV hK hZ hw z0 rfl) rfl rfl hl.1 rfl (lv_room (Nat.le_of_ble_eq_true rfl)) d_Mo_height_7 ⟨Nat.le_of_ble_eq_true rfl, Nat.le_of_ble_eq_true rfl⟩) hw hA (fun r H locs hp hw => ?_)
  rcases hp with ⟨rfl, ok⟩ | ⟨rfl, ok⟩
  ·
    refine lv_if_ne (tgt := 16) hx hb d_Mo_height_10 (by decide) (fun c10 => ?_) (fun c10 => False.elim (absurd c10 (by decide)))
    obtain ⟨g, rfl, g1⟩ := ok
    have hg3 : g < 13 := by omega
    have hga := hI0.2.2.2.2.2.2.1 g (by omega)
    unfold gGate at hga
    refine lv_iload_n hx hb d_Mo_height_16 rfl (lv_at hl 2 rfl) ?_
    refine lv_i2l hx hb d_Mo_height_17 rfl ?_
    refine lv_topl (fun n17 en17 => ?_)
    obtain rfl : n17 = n0.toInt64 := en17
    refine lv_lconst (v := 1) hx hb d_Mo_height_18 (by decide) ?_
    refine lv_ldc2 (v := 1000) hx hb hown (hts _ wd_355) d_Mo_height_19 ?_
    refine x_calliM (va_runS (As := [.long n0.toInt64, .long 1, .long 1000]) (rest := []) hF (c_Mo_isIn l D cs M _ n0.toInt64 1 1000) (x_cwS 3 hts wd_331 wd_332 wd_6 wd_333 rfl rfl (by decide +kernel) ⟨Nat.le_of_ble_eq_true rfl, Nat.le_of_ble_eq_true rfl⟩) (x_preS hK hZ hw) rfl rfl hl.1 rfl (lv_room (Nat.le_of_ble_eq_true rfl)) d_Mo_height_22 ⟨Nat.le_of_ble_eq_true rfl, Nat.le_of_ble_eq_true rfl⟩) hw hA (fun r H locs hp hw => ?_)
    rw [hn_iff] at hp
    rcases hp with ⟨rfl, ok2⟩ | ⟨rfl, ok2⟩
    ·
      refine lv_if_ne (tgt := 31) hx hb d_Mo_height_25 (by decide) (fun c25 => ?_) (fun c25 => False.elim (absurd c25 (by decide)))
      obtain ⟨k, rfl, k1, k2⟩ : ∃ k, n0 = nI k ∧ 1 ≤ k ∧ k ≤ 1000 := by
        rcases pk_ix n0 (show 1001 < 2 ^ 31 by decide) with z | z | ⟨k, y1, rfl⟩
        · exact absurd (Int32.lt_of_le_of_lt ok2.1 z) (by decide)
        · exact absurd ok2.2 (Int32.not_le.mpr (Int32.lt_of_lt_of_le (show (1000 : Int32) < nI 1001 by decide) z))
        · exact ⟨k, rfl, Nat.le_of_not_lt (fun z => Int32.not_lt.mpr ok2.1 (nI_lt (b := 1) z (by decide))), by omega⟩
      have g12 : M (m0 + 12) = some (aI (cs 0) 13 (fun g => nI (v 9 g))) := hm 12 (by decide)
      refine lv_aload_n hx hb d_Mo_height_31 rfl (lv_at hl 0 rfl) ?_
      refine x_get (C := "GateTimesModel") (T := F_Mo) (N := 21) hx hb hts i_Mo hown hK hw z0 rfl 14 (by decide) (hts _ wd_273) (fun _ h9 => h9) rfl d_Mo_height_32 ?_
      refine lv_iload_n hx hb d_Mo_height_35 rfl (lv_at hl 1 rfl) ?_
      refine x_ialdN hx hb hK hw g12 0 rfl hg3 (by decide) d_Mo_height_36 ?_
      refine lv_istore_n (lv' := [(3, .int (nI (v 9 g))), (0, .ref m0), (1, .int (nI g)), (2, .int (nI k))]) hx hb d_Mo_height_37 rfl hl (by decide) rfl (fun ls hl => ?_)
      refine lv_aload_n hx hb d_Mo_height_38 rfl (lv_at hl 1 rfl) ?_
      refine x_get (C := "GateTimesModel") (T := F_Mo) (N := 21) hx hb hts i_Mo hown hK hw z0 rfl 14 (by decide) (hts _ wd_273) (fun _ h9 => h9) rfl d_Mo_height_39 ?_
      refine lv_iload_n hx hb d_Mo_height_42 rfl (lv_at hl 2 rfl) ?_
      refine lv_iload_n hx hb d_Mo_height_43 rfl (lv_at hl 3 rfl) ?_
      refine x_iastN hx hb hK hw g12 0 rfl hg3 (by decide) d_Mo_height_44 (fun M2 H locs eM2 hw => ?_)
      refine lv_iload_n hx hb d_Mo_height_45 rfl (lv_at hl 0 rfl) ?_
      exact x_iret hx hb hr hlk rfl hw (⟨_, rfl, up2 v 9 g k, o, Or.inr (Or.inr ⟨g, k, rfl, g1, rfl, k1, k2, rfl, rfl⟩), rfl, mR_9 hm eM2⟩) d_Mo_height_46
    ·
      refine lv_if_ne (tgt := 31) hx hb d_Mo_height_25 (by decide) (fun c25 => False.elim (c25 rfl)) (fun c25 => ?_)
      refine lv_bipush (v := (-102)) hx hb d_Mo_height_28 (by decide) ?_
      exact x_iret hx hb hr hlk rfl hw (⟨_, rfl, v, o, Or.inr (Or.inl ⟨⟨g, rfl, g1⟩, ok2, rfl, rfl⟩), rfl, hm⟩) d_Mo_height_30
  ·
    refine lv_if_ne (tgt := 16) hx hb d_Mo_height_10 (by decide) (fun c10 => False.elim (c10 rfl)) (fun c10 => ?_)
    refine lv_bipush (v := (-101)) hx hb d_Mo_height_13 (by decide) ?_
    exact x_iret hx hb hr hlk rfl hw (⟨_, rfl, v, o, Or.inl ⟨ok, rfl, rfl⟩, rfl, hm⟩) d_Mo_height_15
set_option maxHeartbeats 4000000 in
set_option maxRecDepth 100000 in
theorem c_Mo_swap (l : Launch) (D : va_G) (cs : Nat → ClassId) (M : xM) (sz : Nat) (m0 : Nat) (v : gV) (o : List Nat) (hm : mR cs M m0 v o) (hG0 : gAll v o) (b : Int32) : Met l y_Mo_swap w_Mo_swap ({ frames := 2, cells := 0, slots := 0, locals := 46 }) (xPc D classes (xtys cs) M sz [.ref m0, .int b]) (xQ D classes M sz (fun rv M1 => ∃ r : Int32, rv = some (.int r) ∧ ∃ (v1 : gV) (o1 : List Nat), pSwp v b r v1 ∧ o1 = o ∧ mR cs M1 m0 v1 o1)) 0 0 (xA M sz) := by
  have hI0 := hG0.1
  have hGb := hI0.1.2
  have hG1 := hI0.1.1
  have hn := hI0.2.1
  have hnow := hI0.2.2.1
  have z0 : M m0 = some (mHead m0 v o) := hm 0 (by decide)
  refine x_met (maxL := 3) (ret := (some .int)) (by decide) (Nat.le_of_ble_eq_true rfl) ?_
  intro p e s m below meth c ls hsz hF hr hlk hnm hK hZ hw hl
  obtain ⟨hx, hb, hml, hown, hts⟩ := id hF
  have hA : ∀ q, s.heap.size ≤ q → xA M sz q := x_hA hsz
  have hl : lv_has ls 3 [(0, .ref m0), (1, .int b)] := hl
  refine lv_aload_n hx hb d_Mo_swap_0 rfl (lv_at hl 0 rfl) ?_
  refine lv_iconst (v := 0) hx hb d_Mo_swap_1 (by decide) ?_
  refine x_put (C := "GateTimesModel") (T := F_Mo) (N := 21) (ty := .int) hx hb hts i_Mo t_Mo t_Mo_ok n_Mo hown hK hw z0 rfl 0 (by decide) (hts _ wd_259) (fun _ h9 => h9) rfl (by decide +kernel) rfl rfl (Nat.le_of_ble_eq_true rfl) d_Mo_swap_2 (fun M1 H locs eM1 hw => ?_)
  rw [x_up_id (e := mHead m0 v o) z0 eM1] at hw
  refine lv_aload_n hx hb d_Mo_swap_5 rfl (lv_at hl 0 rfl) ?_
  refine lv_iload_n hx hb d_Mo_swap_6 rfl (lv_at hl 1 rfl) ?_
  refine x_calliM (va_runV (As := [.int b]) (rest := []) hF (c_Mo_isBin l D cs M _ m0 v o hm hG1 hGb b) (x_cwV 1 hts wd_343 wd_345 wp_9 wd_6 wd_346 rfl rfl (by decide +kernel) ⟨Nat.le_of_ble_eq_true rfl, Nat.le_of_ble_eq_true rfl⟩) (x_preV hK hZ hw z0 rfl) rfl rfl hl.1 rfl (lv_room (Nat.le_of_ble_eq_true rfl)) d_Mo_swap_7 ⟨Nat.le_of_ble_eq_true rfl, Nat.le_of_ble_eq_true rfl⟩) hw hA (fun r H locs hp hw => ?_)
  rcases hp with ⟨rfl, ok⟩ | ⟨rfl, ok⟩
  ·
    refine lv_if_ne (tgt := 16) hx hb d_Mo_swap_10 (by decide) (fun c10 => ?_) (fun c10 => False.elim (absurd c10 (by decide)))
    obtain ⟨g, rfl, g1⟩ := ok
    have hg3 : g < 13 := by omega
    have hga := hI0.2.2.2.2.2.2.1 g (by omega)
    unfold gGate at hga
    have g13 : M (m0 + 13) = some (aI (cs 0) 13 (fun g => nI (v 10 g))) := hm 13 (by decide)
    refine lv_aload_n hx hb d_Mo_swap_16 rfl (lv_at hl 0 rfl) ?_
    refine x_get (C := "GateTimesModel") (T := F_Mo) (N := 21) hx hb hts i_Mo hown hK hw z0 rfl 15 (by decide) (hts _ wd_274) (fun _ h9 => h9) rfl d_Mo_swap_17 ?_
    refine lv_iload_n hx hb d_Mo_swap_20 rfl (lv_at hl 1 rfl) ?_
    refine x_ialdN hx hb hK hw g13 0 rfl hg3 (by decide) d_Mo_swap_21 ?_
    refine lv_istore_n (lv' := [(2, .int (nI (v 10 g))), (0, .ref m0), (1, .int (nI g))]) hx hb d_Mo_swap_22 rfl hl (by decide) rfl (fun ls hl => ?_)
    refine lv_aload_n hx hb d_Mo_swap_23 rfl (lv_at hl 1 rfl) ?_
    refine x_get (C := "GateTimesModel") (T := F_Mo) (N := 21) hx hb hts i_Mo hown hK hw z0 rfl 15 (by decide) (hts _ wd_274) (fun _ h9 => h9) rfl d_Mo_swap_24 ?_
    refine lv_iload_n hx hb d_Mo_swap_27 rfl (lv_at hl 2 rfl) ?_
    refine lv_iconst (v := 0) hx hb d_Mo_swap_28 (by decide) ?_
    rw [← nI_0]
    refine x_iastN hx hb hK hw g13 0 rfl hg3 (by decide) d_Mo_swap_29 (fun M2 H locs eM2 hw => ?_)
    refine lv_iload_n hx hb d_Mo_swap_30 rfl (lv_at hl 0 rfl) ?_
    exact x_iret hx hb hr hlk rfl hw (⟨_, rfl, up2 v 10 g 0, o, Or.inr ⟨g, rfl, g1, rfl, rfl⟩, rfl, mR_10 hm eM2⟩) d_Mo_swap_31
  ·
    refine lv_if_ne (tgt := 16) hx hb d_Mo_swap_10 (by decide) (fun c10 => False.elim (c10 rfl)) (fun c10 => ?_)
    refine lv_bipush (v := (-101)) hx hb d_Mo_swap_13 (by decide) ?_
    exact x_iret hx hb hr hlk rfl hw (⟨_, rfl, v, o, Or.inl ⟨ok, rfl, rfl⟩, rfl, hm⟩) d_Mo_swap_15
set_option maxHeartbeats 4000000 in
set_option maxRecDepth 100000 in
theorem c_Mo_stuck (l : Launch) (D : va_G) (cs : Nat → ClassId) (M : xM) (sz : Nat) (m0 : Nat) (v : gV) (o : List Nat) (hm : mR cs M m0 v o) (hG0 : gAll v o) (b : Int32) (s0 : Nat) (hs : s0 ≤ 1) : Met l y_Mo_stuck w_Mo_stuck ({ frames := 2, cells := 0, slots := 0, locals := 46 }) (xPc D classes (xtys cs) M sz [.ref m0, .int b, .int (nI s0)]) (xQ D classes M sz (fun rv M1 => ∃ r : Int32, rv = some (.int r) ∧ ∃ (v1 : gV) (o1 : List Nat), pStk v b s0 r v1 ∧ o1 = o ∧ mR cs M1 m0 v1 o1)) 0 0 (xA M sz) := by
  have hI0 := hG0.1
  have hGb := hI0.1.2
  have hG1 := hI0.1.1
  have hn := hI0.2.1
  have hnow := hI0.2.2.1
  have z0 : M m0 = some (mHead m0 v o) := hm 0 (by decide)
  refine x_met (maxL := 4) (ret := (some .int)) (by decide) (Nat.le_of_ble_eq_true rfl) ?_
  intro p e s m below meth c ls hsz hF hr hlk hnm hK hZ hw hl
  obtain ⟨hx, hb, hml, hown, hts⟩ := id hF
  have hA : ∀ q, s.heap.size ≤ q → xA M sz q := x_hA hsz
  have hl : lv_has ls 4 [(0, .ref m0), (1, .int b), (2, .int (nI s0))] := hl
  refine lv_aload_n hx hb d_Mo_stuck_0 rfl (lv_at hl 0 rfl) ?_
  refine lv_iconst (v := 0) hx hb d_Mo_stuck_1 (by decide) ?_
  refine x_put (C := "GateTimesModel") (T := F_Mo) (N := 21) (ty := .int) hx hb hts i_Mo t_Mo t_Mo_ok n_Mo hown hK hw z0 rfl 0 (by decide) (hts _ wd_259) (fun _ h9 => h9) rfl (by decide +kernel) rfl rfl (Nat.le_of_ble_eq_true rfl) d_Mo_stuck_2 (fun M1 H locs eM1 hw => ?_)
  rw [x_up_id (e := mHead m0 v o) z0 eM1] at hw
  refine lv_aload_n hx hb d_Mo_stuck_5 rfl (lv_at hl 0 rfl) ?_
  refine lv_iload_n hx hb d_Mo_stuck_6 rfl (lv_at hl 1 rfl) ?_
  refine x_calliM (va_runV (As := [.int b]) (rest := []) hF (c_Mo_isBin l D cs M _ m0 v o hm hG1 hGb b) (x_cwV 1 hts wd_343 wd_345 wp_9 wd_6 wd_346 rfl rfl (by decide +kernel) ⟨Nat.le_of_ble_eq_true rfl, Nat.le_of_ble_eq_true rfl⟩) (x_preV hK hZ hw z0 rfl) rfl rfl hl.1 rfl (lv_room (Nat.le_of_ble_eq_true rfl)) d_Mo_stuck_7 ⟨Nat.le_of_ble_eq_true rfl, Nat.le_of_ble_eq_true rfl⟩) hw hA (fun r H locs hp hw => ?_)
  rcases hp with ⟨rfl, ok⟩ | ⟨rfl, ok⟩
  ·
    refine lv_if_ne (tgt := 16) hx hb d_Mo_stuck_10 (by decide) (fun c10 => ?_) (fun c10 => False.elim (absurd c10 (by decide)))
    obtain ⟨g, rfl, g1⟩ := ok
    have hg3 : g < 13 := by omega
    have hga := hI0.2.2.2.2.2.2.1 g (by omega)
    unfold gGate at hga
    have g9 : M (m0 + 9) = some (aI (cs 2) 13 (fun g => nI (v 7 g))) := hm 9 (by decide)
    refine lv_aload_n hx hb d_Mo_stuck_16 rfl (lv_at hl 0 rfl) ?_
    refine x_get (C := "GateTimesModel") (T := F_Mo) (N := 21) hx hb hts i_Mo hown hK hw z0 rfl 11 (by decide) (hts _ wd_270) (fun _ h9 => h9) rfl d_Mo_stuck_17 ?_
    refine lv_iload_n hx hb d_Mo_stuck_20 rfl (lv_at hl 1 rfl) ?_
    refine x_zaldN hx hb hK hw g9 2 rfl hg3 (by decide) d_Mo_stuck_21 ?_
    refine lv_istore_n (lv' := [(3, .int (nI (v 7 g))), (0, .ref m0), (1, .int (nI g)), (2, .int (nI s0))]) hx hb d_Mo_stuck_22 rfl hl (by decide) rfl (fun ls hl => ?_)
    refine lv_aload_n hx hb d_Mo_stuck_23 rfl (lv_at hl 1 rfl) ?_
    refine x_get (C := "GateTimesModel") (T := F_Mo) (N := 21) hx hb hts i_Mo hown hK hw z0 rfl 11 (by decide) (hts _ wd_270) (fun _ h9 => h9) rfl d_Mo_stuck_24 ?_
    refine lv_iload_n hx hb d_Mo_stuck_27 rfl (lv_at hl 2 rfl) ?_
    refine lv_iload_n hx hb d_Mo_stuck_28 rfl (lv_at hl 3 rfl) ?_
    refine x_zastN hx hb hK hw g9 2 rfl hg3 (by decide) d_Mo_stuck_29 (fun M2 H locs eM2 hw => ?_)
    rw [zn_b hs] at eM2
    refine lv_iload_n hx hb d_Mo_stuck_30 rfl (lv_at hl 0 rfl) ?_
    refine lv_iload_n hx hb d_Mo_stuck_31 rfl (lv_at hl 3 rfl) ?_
    refine lv_icmp_ne (tgt := 39) hx hb d_Mo_stuck_32 (by decide) (fun c32 => ?_) (fun c32 => ?_)
    ·
      refine lv_iconst (v := 1) hx hb d_Mo_stuck_39 (by decide) ?_
      exact x_iret hx hb hr hlk rfl hw (⟨_, rfl, up2 v 7 g s0, o, Or.inr ⟨g, rfl, g1, by rw [if_neg (fun z => c32 (by rw [z]))], rfl⟩, rfl, mR_7 hm eM2⟩) d_Mo_stuck_40
    ·
      refine lv_iconst (v := 0) hx hb d_Mo_stuck_35 (by decide) ?_
      refine lv_goto (tgt := 40) hx hb d_Mo_stuck_36 (by decide) ?_
      exact x_iret hx hb hr hlk rfl hw (⟨_, rfl, up2 v 7 g s0, o, Or.inr ⟨g, rfl, g1, by rw [if_pos (nI_inj2 (by omega) (by omega) c32)], rfl⟩, rfl, mR_7 hm eM2⟩) d_Mo_stuck_40
  ·
    refine lv_if_ne (tgt := 16) hx hb d_Mo_stuck_10 (by decide) (fun c10 => False.elim (c10 rfl)) (fun c10 => ?_)
    refine lv_bipush (v := (-101)) hx hb d_Mo_stuck_13 (by decide) ?_
    exact x_iret hx hb hr hlk rfl hw (⟨_, rfl, v, o, Or.inl ⟨ok, rfl, rfl⟩, rfl, hm⟩) d_Mo_stuck_15
set_option maxHeartbeats 4000000 in
set_option maxRecDepth 100000 in
theorem c_Mo_late (l : Launch) (D : va_G) (cs : Nat → ClassId) (M : xM) (sz : Nat) (m0 : Nat) (v : gV) (o : List Nat) (hm : mR cs M m0 v o) (hG0 : gAll v o) (i : Int32) : Met l y_Mo_late w_Mo_late ({ frames := 2, cells := 0, slots := 0, locals := 46 }) (xPc D classes (xtys cs) M sz [.ref m0, .int i]) (xQ D classes M sz (fun rv M1 => ∃ r : Int32, rv = some (.int r) ∧ pLat v i r ∧ M1 = M)) 0 0 (xA M sz) := by
  have hI0 := hG0.1
  have hGb := hI0.1.2
  have hG1 := hI0.1.1
  have hn := hI0.2.1
  have hnow := hI0.2.2.1
  have z0 : M m0 = some (mHead m0 v o) := hm 0 (by decide)
  refine x_met (maxL := 2) (ret := (some .int)) (by decide) (Nat.le_of_ble_eq_true rfl) ?_
  intro p e s m below meth c ls hsz hF hr hlk hnm hK hZ hw hl
  obtain ⟨hx, hb, hml, hown, hts⟩ := id hF
  have hA : ∀ q, s.heap.size ≤ q → xA M sz q := x_hA hsz
  have hl : lv_has ls 2 [(0, .ref m0), (1, .int i)] := hl
  refine lv_aload_n hx hb d_Mo_late_0 rfl (lv_at hl 0 rfl) ?_
  refine lv_iconst (v := 0) hx hb d_Mo_late_1 (by decide) ?_
  refine x_put (C := "GateTimesModel") (T := F_Mo) (N := 21) (ty := .int) hx hb hts i_Mo t_Mo t_Mo_ok n_Mo hown hK hw z0 rfl 0 (by decide) (hts _ wd_259) (fun _ h9 => h9) rfl (by decide +kernel) rfl rfl (Nat.le_of_ble_eq_true rfl) d_Mo_late_2 (fun M1 H locs eM1 hw => ?_)
  rw [x_up_id (e := mHead m0 v o) z0 eM1] at hw
  refine lv_aload_n hx hb d_Mo_late_5 rfl (lv_at hl 0 rfl) ?_
  refine lv_iload_n hx hb d_Mo_late_6 rfl (lv_at hl 1 rfl) ?_
  refine x_calliM (va_runV (As := [.int i]) (rest := []) hF (c_Mo_isItem l D cs M _ m0 v o hm hn i) (x_cwV 1 hts wd_339 wd_341 wp_8 wd_6 wd_342 rfl rfl (by decide +kernel) ⟨Nat.le_of_ble_eq_true rfl, Nat.le_of_ble_eq_true rfl⟩) (x_preV hK hZ hw z0 rfl) rfl rfl hl.1 rfl (lv_room (Nat.le_of_ble_eq_true rfl)) d_Mo_late_7 ⟨Nat.le_of_ble_eq_true rfl, Nat.le_of_ble_eq_true rfl⟩) hw hA (fun r H locs hp hw => ?_)
  rcases hp with ⟨rfl, ok⟩ | ⟨rfl, ok⟩
  ·
    refine lv_if_eq (tgt := 22) hx hb d_Mo_late_10 (by decide) (fun c10 => False.elim (absurd c10 (by decide))) (fun c10 => ?_)
    obtain ⟨k, rfl, k1, k2⟩ := ok
    have g6 : M (m0 + 6) = some (aI (cs 0) 401 (fun j => nI (v 5 j))) := hm 6 (by decide)
    refine lv_aload_n hx hb d_Mo_late_13 rfl (lv_at hl 0 rfl) ?_
    refine x_get (C := "GateTimesModel") (T := F_Mo) (N := 21) hx hb hts i_Mo hown hK hw z0 rfl 8 (by decide) (hts _ wd_267) (fun _ h9 => h9) rfl d_Mo_late_14 ?_
    refine lv_iload_n hx hb d_Mo_late_17 rfl (lv_at hl 1 rfl) ?_
    refine x_ialdN hx hb hK hw g6 0 rfl (show k < 401 by omega) (by decide) d_Mo_late_18 ?_
    refine lv_goto (tgt := 24) hx hb d_Mo_late_19 (by decide) ?_
    exact x_iret hx hb hr hlk rfl hw (⟨_, rfl, Or.inr ⟨k, rfl, k1, k2, rfl⟩, rfl⟩) d_Mo_late_24
  ·
    refine lv_if_eq (tgt := 22) hx hb d_Mo_late_10 (by decide) (fun c10 => ?_) (fun c10 => False.elim (c10 rfl))
    refine lv_bipush (v := (-101)) hx hb d_Mo_late_22 (by decide) ?_
    exact x_iret hx hb hr hlk rfl hw (⟨_, rfl, Or.inl ⟨ok, rfl⟩, rfl⟩) d_Mo_late_24
set_option maxHeartbeats 4000000 in
set_option maxRecDepth 100000 in
theorem c_Mo_count (l : Launch) (D : va_G) (cs : Nat → ClassId) (M : xM) (sz : Nat) (m0 : Nat) (v : gV) (o : List Nat) (hm : mR cs M m0 v o) (hG0 : gAll v o) (b : Int32) : Met l y_Mo_count w_Mo_count ({ frames := 1, cells := 0, slots := 0, locals := 25 }) (xPc D classes (xtys cs) M sz [.ref m0, .int b]) (xQ D classes M sz (fun rv M1 => ∃ r : Int32, rv = some (.int r) ∧ pCnt v b r ∧ M1 = M)) 0 0 (xA M sz) := by
  have hI0 := hG0.1
  have hGb := hI0.1.2
  have hG1 := hI0.1.1
  have hn := hI0.2.1
  have hnow := hI0.2.2.1
  have z0 : M m0 = some (mHead m0 v o) := hm 0 (by decide)
  refine x_met (maxL := 2) (ret := (some .int)) (by decide) (Nat.le_of_ble_eq_true rfl) ?_
  intro p e s m below meth c ls hsz hF hr hlk hnm hK hZ hw hl
  obtain ⟨hx, hb, hml, hown, hts⟩ := id hF
  have hA : ∀ q, s.heap.size ≤ q → xA M sz q := x_hA hsz
  have hl : lv_has ls 2 [(0, .ref m0), (1, .int b)] := hl
  refine lv_aload_n hx hb d_Mo_count_0 rfl (lv_at hl 0 rfl) ?_
  refine lv_iconst (v := 0) hx hb d_Mo_count_1 (by decide) ?_
  refine x_put (C := "GateTimesModel") (T := F_Mo) (N := 21) (ty := .int) hx hb hts i_Mo t_Mo t_Mo_ok n_Mo hown hK hw z0 rfl 0 (by decide) (hts _ wd_259) (fun _ h9 => h9) rfl (by decide +kernel) rfl rfl (Nat.le_of_ble_eq_true rfl) d_Mo_count_2 (fun M1 H locs eM1 hw => ?_)
  rw [x_up_id (e := mHead m0 v o) z0 eM1] at hw
  refine lv_iload_n hx hb d_Mo_count_5 rfl (lv_at hl 1 rfl) ?_
  refine lv_i2l hx hb d_Mo_count_6 rfl ?_
  refine lv_topl (fun n6 en6 => ?_)
  obtain rfl : n6 = b.toInt64 := en6
  refine lv_lconst (v := 0) hx hb d_Mo_count_7 (by decide) ?_
  refine lv_aload_n hx hb d_Mo_count_8 rfl (lv_at hl 0 rfl) ?_
  refine x_get (C := "GateTimesModel") (T := F_Mo) (N := 21) hx hb hts i_Mo hown hK hw z0 rfl 1 (by decide) (hts _ wd_260) (fun _ h9 => h9) rfl d_Mo_count_9 ?_
  refine lv_i2l hx hb d_Mo_count_12 rfl ?_
  refine lv_topl (fun n12 en12 => ?_)
  obtain rfl : n12 = lN (v 12 0) := en12.trans (nI_l (by omega))
  refine x_calliM (va_runS (As := [.long b.toInt64, .long 0, .long (lN (v 12 0))]) (rest := []) hF (c_Mo_isIn l D cs M _ b.toInt64 0 (lN (v 12 0))) (x_cwS 3 hts wd_331 wd_332 wd_6 wd_333 rfl rfl (by decide +kernel) ⟨Nat.le_of_ble_eq_true rfl, Nat.le_of_ble_eq_true rfl⟩) (x_preS hK hZ hw) rfl rfl hl.1 rfl (lv_room (Nat.le_of_ble_eq_true rfl)) d_Mo_count_13 ⟨Nat.le_of_ble_eq_true rfl, Nat.le_of_ble_eq_true rfl⟩) hw hA (fun r H locs hp hw => ?_)
  rw [cn_iff hGb] at hp
  rcases hp with ⟨rfl, ok⟩ | ⟨rfl, ok⟩
  ·
    refine lv_if_eq (tgt := 28) hx hb d_Mo_count_16 (by decide) (fun c16 => False.elim (absurd c16 (by decide))) (fun c16 => ?_)
    obtain ⟨g, rfl, g1⟩ := ok
    have g14 : M (m0 + 14) = some (aI (cs 0) 13 (fun g => nI (v 11 g))) := hm 14 (by decide)
    refine lv_aload_n hx hb d_Mo_count_19 rfl (lv_at hl 0 rfl) ?_
    refine x_get (C := "GateTimesModel") (T := F_Mo) (N := 21) hx hb hts i_Mo hown hK hw z0 rfl 16 (by decide) (hts _ wd_275) (fun _ h9 => h9) rfl d_Mo_count_20 ?_
    refine lv_iload_n hx hb d_Mo_count_23 rfl (lv_at hl 1 rfl) ?_
    refine x_ialdN hx hb hK hw g14 0 rfl (show g < 13 by omega) (by decide) d_Mo_count_24 ?_
    refine lv_goto (tgt := 30) hx hb d_Mo_count_25 (by decide) ?_
    exact x_iret hx hb hr hlk rfl hw (⟨_, rfl, Or.inr ⟨g, rfl, g1, rfl⟩, rfl⟩) d_Mo_count_30
  ·
    refine lv_if_eq (tgt := 28) hx hb d_Mo_count_16 (by decide) (fun c16 => ?_) (fun c16 => False.elim (c16 rfl))
    refine lv_bipush (v := (-101)) hx hb d_Mo_count_28 (by decide) ?_
    exact x_iret hx hb hr hlk rfl hw (⟨_, rfl, Or.inl ⟨ok, rfl⟩, rfl⟩) d_Mo_count_30
set_option maxHeartbeats 4000000 in
set_option maxRecDepth 100000 in
theorem c_Mo_out (l : Launch) (D : va_G) (cs : Nat → ClassId) (M : xM) (sz : Nat) (m0 : Nat) (v : gV) (o : List Nat) (hm : mR cs M m0 v o) (hG0 : gAll v o) (i wh : Int32) : Met l y_Mo_out w_Mo_out ({ frames := 0, cells := 0, slots := 0, locals := 0 }) (xPc D classes (xtys cs) M sz [.ref m0, .int i, .int wh]) (xQ D classes M sz (fun rv M1 => ∃ r : Int32, rv = some (.int r) ∧ pOut v o i wh r ∧ M1 = M)) 0 0 (xA M sz) := by
  have hI0 := hG0.1
  have hGb := hI0.1.2
  have hG1 := hI0.1.1
  have hn := hI0.2.1
  have hnow := hI0.2.2.1
  have z0 : M m0 = some (mHead m0 v o) := hm 0 (by decide)
  refine x_met (maxL := 3) (ret := (some .int)) (by decide) (Nat.le_of_ble_eq_true rfl) ?_
  intro p e s m below meth c ls hsz hF hr hlk hnm hK hZ hw hl
  obtain ⟨hx, hb, hml, hown, hts⟩ := id hF
  have hA : ∀ q, s.heap.size ≤ q → xA M sz q := x_hA hsz
  have hl : lv_has ls 3 [(0, .ref m0), (1, .int i), (2, .int wh)] := hl
  refine lv_aload_n hx hb d_Mo_out_0 rfl (lv_at hl 0 rfl) ?_
  refine lv_iconst (v := 0) hx hb d_Mo_out_1 (by decide) ?_
  refine x_put (C := "GateTimesModel") (T := F_Mo) (N := 21) (ty := .int) hx hb hts i_Mo t_Mo t_Mo_ok n_Mo hown hK hw z0 rfl 0 (by decide) (hts _ wd_259) (fun _ h9 => h9) rfl (by decide +kernel) rfl rfl (Nat.le_of_ble_eq_true rfl) d_Mo_out_2 (fun M1 H locs eM1 hw => ?_)
  rw [x_up_id (e := mHead m0 v o) z0 eM1] at hw
  have g5 : M (m0 + 5) = some (aI (cs 0) 401 (fun j => if j = 0 ∨ v 12 1 < j then 0 else eN (v 3 j))) := hm 5 (by decide)
  have g7 : M (m0 + 7) = some (aL (cs 1) 401 (fun j => if v 3 j = 0 then 0 else lN (tm v j))) := hm 7 (by decide)
  have g15 : M (m0 + 15) = some (aI (cs 0) 400 (fun k => nI (oat o k))) := hm 15 (by decide)
  have hlen := came_few hG0.2.1
  refine lv_iload_n hx hb d_Mo_out_5 rfl (lv_at hl 1 rfl) ?_
  refine lv_if_lt (tgt := 17) hx hb d_Mo_out_6 (by decide) (fun c6 => ?_) (fun c6 => ?_)
  ·
    refine lv_iconst (v := (-1)) hx hb d_Mo_out_17 (by decide) ?_
    exact x_iret hx hb hr hlk rfl hw (⟨_, rfl, Or.inl ⟨fun ⟨k, y1, y2⟩ => nI_pos (by omega) (y1 ▸ c6), rfl⟩, rfl⟩) d_Mo_out_18
  ·
    refine lv_iload_n hx hb d_Mo_out_9 rfl (lv_at hl 1 rfl) ?_
    refine lv_aload_n hx hb d_Mo_out_10 rfl (lv_at hl 0 rfl) ?_
    refine x_get (C := "GateTimesModel") (T := F_Mo) (N := 21) hx hb hts i_Mo hown hK hw z0 rfl 18 (by decide) (hts _ wd_277) (fun _ h9 => h9) rfl d_Mo_out_11 ?_
    refine lv_icmp_lt (tgt := 19) hx hb d_Mo_out_14 (by decide) (fun c14 => ?_) (fun c14 => ?_)
    ·
      obtain ⟨k, hk, rfl⟩ : ∃ k, k < o.length ∧ i = nI k := by
        rcases pk_ix i (show o.length < 2 ^ 31 by omega) with z | z | z
        · exact absurd z c6
        · exact absurd c14 (Int32.not_lt.mpr z)
        · exact z
      have hmm := (hG0.2.1.1 (oat o k)).mp (oat_mem hk)
      have hit := hI0.2.2.2.2.1 _ hmm.1 hmm.2.1
      unfold gItem at hit
      have hob : oat o k < 401 := by omega
      refine lv_iload_n hx hb d_Mo_out_19 rfl (lv_at hl 2 rfl) ?_
      refine lv_if_ne (tgt := 32) hx hb d_Mo_out_20 (by decide) (fun c20 => ?_) (fun c20 => ?_)
      ·
        refine lv_iload_n hx hb d_Mo_out_32 rfl (lv_at hl 2 rfl) ?_
        refine lv_iconst (v := 1) hx hb d_Mo_out_33 (by decide) ?_
        refine lv_icmp_ne (tgt := 51) hx hb d_Mo_out_34 (by decide) (fun c34 => ?_) (fun c34 => ?_)
        ·
          refine lv_iload_n hx hb d_Mo_out_51 rfl (lv_at hl 2 rfl) ?_
          refine lv_iconst (v := 2) hx hb d_Mo_out_52 (by decide) ?_
          refine lv_icmp_ne (tgt := 71) hx hb d_Mo_out_53 (by decide) (fun c53 => ?_) (fun c53 => ?_)
          ·
            refine lv_iconst (v := (-1)) hx hb d_Mo_out_71 (by decide) ?_
            exact x_iret hx hb hr hlk rfl hw (⟨_, rfl, Or.inr ⟨k, rfl, hk, by rw [if_neg c20, if_neg c34, if_neg c53]⟩, rfl⟩) d_Mo_out_72
          ·
            refine lv_aload_n hx hb d_Mo_out_56 rfl (lv_at hl 0 rfl) ?_
            refine x_get (C := "GateTimesModel") (T := F_Mo) (N := 21) hx hb hts i_Mo hown hK hw z0 rfl 9 (by decide) (hts _ wd_268) (fun _ h9 => h9) rfl d_Mo_out_57 ?_
            refine lv_aload_n hx hb d_Mo_out_60 rfl (lv_at hl 0 rfl) ?_
            refine x_get (C := "GateTimesModel") (T := F_Mo) (N := 21) hx hb hts i_Mo hown hK hw z0 rfl 19 (by decide) (hts _ wd_278) (fun _ h9 => h9) rfl d_Mo_out_61 ?_
            refine lv_iload_n hx hb d_Mo_out_64 rfl (lv_at hl 1 rfl) ?_
            refine x_ialdN hx hb hK hw g15 0 rfl (show k < 400 by omega) (by decide) d_Mo_out_65 ?_
            refine x_laldN hx hb hK hw g7 1 rfl hob (by decide) d_Mo_out_66 ?_
            rw [if_neg hmm.2.2]
            refine lv_l2i hx hb d_Mo_out_67 rfl ?_
            refine lv_topi (fun n67 en67 => ?_)
            obtain rfl : n67 = nI (tm v (oat o k)) := en67.trans (lN_i _)
            refine lv_goto (tgt := 72) hx hb d_Mo_out_68 (by decide) ?_
            exact x_iret hx hb hr hlk rfl hw (⟨_, rfl, Or.inr ⟨k, rfl, hk, by rw [if_neg c20, if_neg c34, if_pos c53]⟩, rfl⟩) d_Mo_out_72
        ·
          refine lv_aload_n hx hb d_Mo_out_37 rfl (lv_at hl 0 rfl) ?_
          refine x_get (C := "GateTimesModel") (T := F_Mo) (N := 21) hx hb hts i_Mo hown hK hw z0 rfl 7 (by decide) (hts _ wd_266) (fun _ h9 => h9) rfl d_Mo_out_38 ?_
          refine lv_aload_n hx hb d_Mo_out_41 rfl (lv_at hl 0 rfl) ?_
          refine x_get (C := "GateTimesModel") (T := F_Mo) (N := 21) hx hb hts i_Mo hown hK hw z0 rfl 19 (by decide) (hts _ wd_278) (fun _ h9 => h9) rfl d_Mo_out_42 ?_
          refine lv_iload_n hx hb d_Mo_out_45 rfl (lv_at hl 1 rfl) ?_
          refine x_ialdN hx hb hK hw g15 0 rfl (show k < 400 by omega) (by decide) d_Mo_out_46 ?_
          refine x_ialdN hx hb hK hw g5 0 rfl hob (by decide) d_Mo_out_47 ?_
          rw [if_neg (by omega)]
          refine lv_goto (tgt := 72) hx hb d_Mo_out_48 (by decide) ?_
          exact x_iret hx hb hr hlk rfl hw (⟨_, rfl, Or.inr ⟨k, rfl, hk, by rw [if_neg c20, if_pos c34]⟩, rfl⟩) d_Mo_out_72
      ·
        refine lv_aload_n hx hb d_Mo_out_23 rfl (lv_at hl 0 rfl) ?_
        refine x_get (C := "GateTimesModel") (T := F_Mo) (N := 21) hx hb hts i_Mo hown hK hw z0 rfl 19 (by decide) (hts _ wd_278) (fun _ h9 => h9) rfl d_Mo_out_24 ?_
        refine lv_iload_n hx hb d_Mo_out_27 rfl (lv_at hl 1 rfl) ?_
        refine x_ialdN hx hb hK hw g15 0 rfl (show k < 400 by omega) (by decide) d_Mo_out_28 ?_
        refine lv_goto (tgt := 72) hx hb d_Mo_out_29 (by decide) ?_
        exact x_iret hx hb hr hlk rfl hw (⟨_, rfl, Or.inr ⟨k, rfl, hk, by rw [if_pos c20]⟩, rfl⟩) d_Mo_out_72
    ·
      refine lv_iconst (v := (-1)) hx hb d_Mo_out_17 (by decide) ?_
      exact x_iret hx hb hr hlk rfl hw (⟨_, rfl, Or.inl ⟨fun ⟨k, y1, y2⟩ => c14 (y1 ▸ nI_lt y2 (by omega)), rfl⟩, rfl⟩) d_Mo_out_18
