set_option maxHeartbeats 4000000 in
set_option maxRecDepth 100000 in
theorem c_Gate_takes (l : Launch) (D : va_G) (cs : Nat → ClassId) (M : xM) (sz : Nat) (x v P : gV) (g0 i0 q qi : Nat) (f1 : M q = some (cGate v g0)) (f2 : M qi = some (cItem x v P i0)) (hg : g0 < v 12 0) (hG : v 12 0 ≤ 12) (h6 : v 6 g0 ≤ 1) (h7 : v 7 g0 ≤ 1) (h8 : v 8 g0 ≤ 1000020000) (h9 : v 9 g0 ≤ 1000) (h10 : v 10 g0 < 100000) (h0 : v 0 i0 ≤ 1000000000) (h1 : v 1 i0 ≤ 900) (h2 : v 2 i0 ≤ 12) : Met l y_Gate_takes w_Gate_takes ({ frames := 1, cells := 0, slots := 0, locals := 21 }) (xPc D classes (xtys cs) M sz [.ref q, .ref qi, .int (nI g0)]) (xQ D classes M sz (fun rv M1 => ∃ r : Int32, rv = some (.int r) ∧ r = nI (opv v i0 g0) ∧ M1 = va_up M q (some (cGate (evt v i0 g0) g0)))) 0 0 (xA M sz) := by
  refine x_met (maxL := 4) (ret := (some .boolean)) (by decide) (Nat.le_of_ble_eq_true rfl) ?_
  intro p e s m below meth c ls hsz hF hr hlk hnm hK hZ hw hl
  obtain ⟨hx, hb, hml, hown, hts⟩ := id hF
  have hA : ∀ q, s.heap.size ≤ q → xA M sz q := x_hA hsz
  have hl : lv_has ls 4 [(0, .ref q), (1, .ref qi), (2, .int (nI g0))] := hl
  obtain ⟨B, hB⟩ : ∃ B : Nat, B = if v 2 i0 = g0 + 1 ∧ v 10 g0 < v 9 g0 then 1 else 0 := ⟨_, rfl⟩
  have hB1 : B ≤ 1 := by rw [hB]; split <;> omega
  have hop : opv v i0 g0 = if v 7 g0 = 0 ∧ v 8 g0 ≤ fr v i0 g0 then B else v 6 g0 := by unfold opv; rw [if_neg (by omega), hB]
  have hop1 : opv v i0 g0 ≤ 1 := opv_le h6
  have hfr : v 0 i0 + 1000 * g0 + 1000 = fr v i0 g0 := rfl
  have hfb : fr v i0 g0 ≤ 1000020000 := by unfold fr; omega
  refine x_cut (α := Int32) 24 (fun b => b = nI B) (fun b => [.int b]) (fun b hJ => ?_) (fun J24 => ?_)
  ·
    subst hJ
    refine lv_istore_n (lv' := [(3, .int (nI B)), (0, .ref q), (1, .ref qi), (2, .int (nI g0))]) hx hb d_Gate_takes_24 rfl hl (by decide) rfl (fun ls hl => ?_)
    refine x_cutH (A := xA M sz) (D := D) (cl := classes) (H0 := s.heap) (nL := 4) (α := Unit) 50 (fun _ M1 => M1 = va_up M q (some (.inr (kGate, [.int (nI (opv v i0 g0)), .int (nI (v 7 g0)), .int (nI (v 9 g0)), .int (nI (v 10 g0)), .long (lN (v 8 g0))])))) (fun _ => [(3, .int (nI B)), (0, .ref q), (1, .ref qi), (2, .int (nI g0))]) (fun _ => []) (fun _ M1 H locs ls hJ hw hl => ?_) (fun J50 => ?_)
    ·
      have h1 : M1 q = some (.inr (kGate, [.int (nI (opv v i0 g0)), .int (nI (v 7 g0)), .int (nI (v 9 g0)), .int (nI (v 10 g0)), .long (lN (v 8 g0))])) := x_up_self hJ
      have hne : qi ≠ q := x_diff f2 f1 (fun z => by cases z)
      have h2 : M1 qi = some (cItem x v P i0) := x_keep hJ hne f2
      refine lv_aload_n hx hb d_Gate_takes_50 rfl (lv_at hl 1 rfl) ?_
      refine lv_aload_n hx hb d_Gate_takes_51 rfl (lv_at hl 2 rfl) ?_
      refine lv_iload_n hx hb d_Gate_takes_52 rfl (lv_at hl 3 rfl) ?_
      refine x_calllM (va_runV (As := [.int (nI g0)]) (rest := [.ref q]) hF (c_Item_frontAt l D cs M1 _ qi (v 0 i0) g0 _ _ h2 (by omega)) (x_cwV 1 hts wd_211 wd_195 wd_196 wd_7 wd_197 rfl rfl (by decide +kernel) ⟨Nat.le_of_ble_eq_true rfl, Nat.le_of_ble_eq_true rfl⟩) (x_preV hK hZ hw h2 rfl) rfl rfl hl.1 rfl (lv_room (Nat.le_of_ble_eq_true rfl)) d_Gate_takes_53 ⟨Nat.le_of_ble_eq_true rfl, Nat.le_of_ble_eq_true rfl⟩) hw hA (fun r H locs hp hw => ?_)
      subst hp
      refine lv_aload_n hx hb d_Gate_takes_56 rfl (lv_at hl 2 rfl) ?_
      refine x_get (C := "GateTimes$Item") (T := F_Item) (N := 7) hx hb hts i_Item hown hK hw h2 rfl 2 (by decide) (hts _ wd_139) (fun _ h9 => h9) rfl d_Gate_takes_57 ?_
      refine lv_ladd hx hb d_Gate_takes_60 ?_
      refine lv_topl (fun n60 en60 => ?_)
      obtain rfl : n60 = lN (fr v i0 g0 + v 1 i0) := en60.trans (lN_add _ _)
      refine lv_ldc2 (v := 200) hx hb hown (hts _ wd_212) d_Gate_takes_61 ?_
      refine lv_ladd hx hb d_Gate_takes_64 ?_
      refine lv_topl (fun n64 en64 => ?_)
      obtain rfl : n64 = lN (fr v i0 g0 + v 1 i0 + 200) := en64.trans (lN_add _ 200)
      refine x_put (C := "GateTimes$Gate") (T := F_Gate) (N := 5) (ty := .long) hx hb hts i_Gate t_Gate t_Gate_ok n_Gate hown hK hw h1 rfl 4 (by decide) (hts _ wd_54) (fun _ h9 => h9) rfl (by decide +kernel) rfl rfl (Nat.le_of_ble_eq_true rfl) d_Gate_takes_65 (fun M2 H locs eM2 hw => ?_)
      have h3 : M2 q = some (.inr (kGate, [.int (nI (opv v i0 g0)), .int (nI (v 7 g0)), .int (nI (v 9 g0)), .int (nI (v 10 g0)), .long (lN (fr v i0 g0 + v 1 i0 + 200))])) := x_up_self eM2
      replace eM2 := x_up2 hJ eM2
      refine lv_aload_n hx hb d_Gate_takes_68 rfl (lv_at hl 1 rfl) ?_
      refine x_get (C := "GateTimes$Gate") (T := F_Gate) (N := 5) hx hb hts i_Gate hown hK hw h3 rfl 0 (by decide) (hts _ wd_47) (fun _ h9 => h9) rfl d_Gate_takes_69 ?_
      refine lv_if_eq (tgt := 85) hx hb d_Gate_takes_72 (by decide) (fun c72 => ?_) (fun c72 => ?_)
      ·
        replace c72 : opv v i0 g0 = 0 := nI_inj2 (by omega) (by decide) c72
        refine lv_aload_n hx hb d_Gate_takes_85 rfl (lv_at hl 1 rfl) ?_
        refine x_get (C := "GateTimes$Gate") (T := F_Gate) (N := 5) hx hb hts i_Gate hown hK hw h3 rfl 0 (by decide) (hts _ wd_47) (fun _ h9 => h9) rfl d_Gate_takes_86 ?_
        exact x_iret hx hb hr hlk (nar_b hop1) hw (⟨_, rfl, rfl, by rw [eM2]; unfold cGate; rw [evt_6, evt_8, evt_10, evt_k (a := 7) (by decide), evt_k (a := 9) (by decide), if_neg (by omega)]; rfl⟩) d_Gate_takes_89
      ·
        replace c72 : opv v i0 g0 = 1 := by
          have : opv v i0 g0 ≠ 0 := fun z => c72 (by rw [z]; exact nI_0)
          omega
        refine lv_aload_n hx hb d_Gate_takes_75 rfl (lv_at hl 1 rfl) ?_
        refine lv_dup hx hb d_Gate_takes_76 rfl ?_
        refine x_get (C := "GateTimes$Gate") (T := F_Gate) (N := 5) hx hb hts i_Gate hown hK hw h3 rfl 3 (by decide) (hts _ wd_52) (fun _ h9 => h9) rfl d_Gate_takes_77 ?_
        refine lv_iconst (v := 1) hx hb d_Gate_takes_80 (by decide) ?_
        refine lv_iadd hx hb d_Gate_takes_81 ?_
        refine lv_topi (fun n81 en81 => ?_)
        obtain rfl : n81 = nI (v 10 g0 + 1) := en81.trans (nI_1 _)
        refine x_put (C := "GateTimes$Gate") (T := F_Gate) (N := 5) (ty := .int) hx hb hts i_Gate t_Gate t_Gate_ok n_Gate hown hK hw h3 rfl 3 (by decide) (hts _ wd_52) (fun _ h9 => h9) rfl (by decide +kernel) rfl rfl (Nat.le_of_ble_eq_true rfl) d_Gate_takes_82 (fun M3 H locs eM3 hw => ?_)
        have h4 : M3 q = some (.inr (kGate, [.int (nI (opv v i0 g0)), .int (nI (v 7 g0)), .int (nI (v 9 g0)), .int (nI (v 10 g0 + 1)), .long (lN (fr v i0 g0 + v 1 i0 + 200))])) := x_up_self eM3
        replace eM3 := x_up2 eM2 eM3
        refine lv_aload_n hx hb d_Gate_takes_85 rfl (lv_at hl 1 rfl) ?_
        refine x_get (C := "GateTimes$Gate") (T := F_Gate) (N := 5) hx hb hts i_Gate hown hK hw h4 rfl 0 (by decide) (hts _ wd_47) (fun _ h9 => h9) rfl d_Gate_takes_86 ?_
        exact x_iret hx hb hr hlk (nar_b hop1) hw (⟨_, rfl, rfl, by rw [eM3]; unfold cGate; rw [evt_6, evt_8, evt_10, evt_k (a := 7) (by decide), evt_k (a := 9) (by decide), if_pos c72]; rfl⟩) d_Gate_takes_89
    ·
      refine lv_aload_n hx hb d_Gate_takes_25 rfl (lv_at hl 1 rfl) ?_
      refine x_get (C := "GateTimes$Gate") (T := F_Gate) (N := 5) hx hb hts i_Gate hown hK hw f1 rfl 1 (by decide) (hts _ wd_48) (fun _ h9 => h9) rfl d_Gate_takes_26 ?_
      refine lv_if_ne (tgt := 50) hx hb d_Gate_takes_29 (by decide) (fun c29 => ?_) (fun c29 => ?_)
      ·
        exact J50 () M _ _ _ (x_self f1 (by rw [hop, if_neg (fun z => c29 (by rw [z.1]; exact nI_0))]; rfl)) hw hl
      ·
        replace c29 : v 7 g0 = 0 := nI_inj2 (by omega) (by decide) c29
        refine lv_aload_n hx hb d_Gate_takes_32 rfl (lv_at hl 2 rfl) ?_
        refine lv_iload_n hx hb d_Gate_takes_33 rfl (lv_at hl 3 rfl) ?_
        refine x_calllM (va_runV (As := [.int (nI g0)]) (rest := []) hF (c_Item_frontAt l D cs M _ qi (v 0 i0) g0 _ _ f2 (by omega)) (x_cwV 1 hts wd_211 wd_195 wd_196 wd_7 wd_197 rfl rfl (by decide +kernel) ⟨Nat.le_of_ble_eq_true rfl, Nat.le_of_ble_eq_true rfl⟩) (x_preV hK hZ hw f2 rfl) rfl rfl hl.1 rfl (lv_room (Nat.le_of_ble_eq_true rfl)) d_Gate_takes_34 ⟨Nat.le_of_ble_eq_true rfl, Nat.le_of_ble_eq_true rfl⟩) hw hA (fun r H locs hp hw => ?_)
        subst hp
        refine lv_aload_n hx hb d_Gate_takes_37 rfl (lv_at hl 1 rfl) ?_
        refine x_get (C := "GateTimes$Gate") (T := F_Gate) (N := 5) hx hb hts i_Gate hown hK hw f1 rfl 4 (by decide) (hts _ wd_54) (fun _ h9 => h9) rfl d_Gate_takes_38 ?_
        refine W.lcmp hx hb d_Gate_takes_41 ?_
        refine lv_if_lt (tgt := 50) hx hb d_Gate_takes_42 (by decide) (fun c42 => ?_) (fun c42 => ?_)
        ·
          replace c42 := (lg_cmp_lt _ _).mp c42
          exact J50 () M _ _ _ (x_self f1 (by rw [hop, if_neg (fun z => absurd ((lN_lt (by omega) (by omega)).mp c42) (by omega))]; rfl)) hw hl
        ·
          replace c42 := fun z => c42 ((lg_cmp_lt _ _).mpr z)
          refine lv_aload_n hx hb d_Gate_takes_45 rfl (lv_at hl 1 rfl) ?_
          refine lv_iload_n hx hb d_Gate_takes_46 rfl (lv_at hl 0 rfl) ?_
          refine x_put (C := "GateTimes$Gate") (T := F_Gate) (N := 5) (ty := .boolean) hx hb hts i_Gate t_Gate t_Gate_ok n_Gate hown hK hw f1 rfl 0 (by decide) (hts _ wd_47) (fun _ h9 => h9) rfl (by decide +kernel) (nar_b hB1) (fit_b hB1) (Nat.le_of_ble_eq_true rfl) d_Gate_takes_47 (fun M1 H locs eM1 hw => ?_)
          exact J50 () M1 _ _ _ (by rw [eM1, hop, if_pos ⟨c29, Nat.le_of_not_lt (fun z => c42 ((lN_lt (by omega) (by omega)).mpr z))⟩]; rfl) hw hl
  ·
    refine lv_aload_n hx hb d_Gate_takes_0 rfl (lv_at hl 1 rfl) ?_
    refine x_get (C := "GateTimes$Item") (T := F_Item) (N := 7) hx hb hts i_Item hown hK hw f2 rfl 3 (by decide) (hts _ wd_142) (fun _ h9 => h9) rfl d_Gate_takes_1 ?_
    refine lv_iload_n hx hb d_Gate_takes_4 rfl (lv_at hl 2 rfl) ?_
    refine lv_icmp_ne (tgt := 23) hx hb d_Gate_takes_5 (by decide) (fun c5 => ?_) (fun c5 => ?_)
    ·
      refine lv_iconst (v := 0) hx hb d_Gate_takes_23 (by decide) ?_
      exact J24 0 (by rw [hB, if_neg (fun z => c5 ((eN_is (by omega) (by omega)).mpr z.1)), nI_0])
    ·
      replace c5 := (eN_is (by omega) (by omega)).mp c5
      refine lv_aload_n hx hb d_Gate_takes_8 rfl (lv_at hl 0 rfl) ?_
      refine x_get (C := "GateTimes$Gate") (T := F_Gate) (N := 5) hx hb hts i_Gate hown hK hw f1 rfl 3 (by decide) (hts _ wd_52) (fun _ h9 => h9) rfl d_Gate_takes_9 ?_
      refine lv_aload_n hx hb d_Gate_takes_12 rfl (lv_at hl 0 rfl) ?_
      refine x_get (C := "GateTimes$Gate") (T := F_Gate) (N := 5) hx hb hts i_Gate hown hK hw f1 rfl 2 (by decide) (hts _ wd_50) (fun _ h9 => h9) rfl d_Gate_takes_13 ?_
      refine lv_icmp_ge (tgt := 23) hx hb d_Gate_takes_16 (by decide) (fun c16 => ?_) (fun c16 => ?_)
      ·
        refine lv_iconst (v := 0) hx hb d_Gate_takes_23 (by decide) ?_
        exact J24 0 (by rw [hB, if_neg (fun z => absurd ((nI_leI (by omega) (by omega)).mp c16) (by omega)), nI_0])
      ·
        refine lv_iconst (v := 1) hx hb d_Gate_takes_19 (by decide) ?_
        refine lv_goto (tgt := 24) hx hb d_Gate_takes_20 (by decide) ?_
        exact J24 1 (by rw [hB, if_pos ⟨c5, Nat.lt_of_not_le (fun z => c16 ((nI_leI (by omega) (by omega)).mpr z))⟩]; rfl)
