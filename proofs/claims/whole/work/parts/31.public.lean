set_option maxHeartbeats 4000000 in
set_option maxRecDepth 100000 in
theorem c_GT_step (l : Launch) (D : va_G) (cs : Nat → ClassId) (M : xM) (sz : Nat) (a0 : Nat) (v : gV) (o : List Nat) (hS : clS cs M a0 v o) (hG0 : gAll v o) (t : Int64) : Met l y_GT_step w_GT_step ({ frames := 5, cells := 0, slots := 0, locals := 110 }) (xPc D classes (xtys cs) M sz [.ref a0, .long t]) (xQ D classes M sz (fun rv M1 => ∃ r : Int32, rv = some (.int r) ∧ ∃ (v1 : gV) (o1 : List Nat), pStep v o t r v1 o1 ∧ clS cs M1 a0 v1 o1)) 0 0 (xA M sz) := by
  obtain ⟨x, P, L, rfl, hR, hL⟩ := hS
  have hI0 := hG0.1
  have hGb := hI0.1.2
  have hn := hI0.2.1
  have hnow := hI0.2.2.1
  have f0 : M (x 0 0) = some (cHead x v) := hR.1 0 0 (vd0 (by decide))
  refine x_met (maxL := 4) (ret := (some .int)) (by decide) (Nat.le_of_ble_eq_true rfl) ?_
  intro p e s m below meth c ls hsz hF hr hlk hnm hK hZ hw hl
  obtain ⟨hx, hb, hml, hown, hts⟩ := id hF
  have hA : ∀ q, s.heap.size ≤ q → xA M sz q := x_hA hsz
  have hl : lv_has ls 4 [(0, .ref (x 0 0)), (1, .long t)] := hl
  refine lv_aload_n hx hb d_GT_step_0 rfl (lv_at hl 0 rfl) ?_
  refine lv_lload_n hx hb d_GT_step_1 rfl (lv_at hl 1 rfl) ?_
  refine x_calliM (va_runV (As := [.long t]) (rest := []) hF (c_GT_isTimeAhead l D cs M _ x v P o (o.filter (wr v)) hR t) (x_cwV 1 hts wd_110 wd_112 wp_0 wd_1 wd_113 rfl rfl (by decide +kernel) ⟨Nat.le_of_ble_eq_true rfl, Nat.le_of_ble_eq_true rfl⟩) (x_preV hK hZ hw f0 rfl) rfl rfl hl.1 rfl (lv_room (Nat.le_of_ble_eq_true rfl)) d_GT_step_2 ⟨Nat.le_of_ble_eq_true rfl, Nat.le_of_ble_eq_true rfl⟩) hw hA (fun r H locs hp hw => ?_)
  rcases hp with ⟨rfl, ok⟩ | ⟨rfl, ok⟩
  ·
    refine lv_if_ne (tgt := 11) hx hb d_GT_step_5 (by decide) (fun c5 => ?_) (fun c5 => False.elim (absurd c5 (by decide)))
    obtain ⟨n, rfl, n1, n2⟩ := okT_of ok hnow
    refine lv_aload_n hx hb d_GT_step_11 rfl (lv_at hl 0 rfl) ?_
    refine lv_lload_n hx hb d_GT_step_12 rfl (lv_at hl 1 rfl) ?_
    refine x_callv (va_runV (As := [.long (lN n)]) (rest := []) hF (c_GT_passTo l D cs M _ x v P o L n hR hG0 hL n2) (x_cwV 1 hts wd_186 wd_188 wp_4 wd_1 wd_189 rfl rfl (by decide +kernel) ⟨Nat.le_of_ble_eq_true rfl, Nat.le_of_ble_eq_true rfl⟩) (x_preV hK hZ hw f0 rfl) rfl rfl hl.1 rfl (lv_room (Nat.le_of_ble_eq_true rfl)) d_GT_step_13 ⟨Nat.le_of_ble_eq_true rfl, Nat.le_of_ble_eq_true rfl⟩) hw hA (fun M1 H locs hp hw => ?_)
    obtain ⟨P1, L1, v1, o1, hR1, hL1, hpa⟩ := hp
    have f1 : M1 (x 0 0) = some (cHead x v1) := hR1.1 0 0 (vd0 (by decide))
    have f6 : M1 (x 0 6) = some (cRow (x 0 7) o1.length) := hR1.1 0 6 (vd0 (by decide))
    refine lv_aload_n hx hb d_GT_step_16 rfl (lv_at hl 0 rfl) ?_
    refine x_get (C := "GateTimes") (T := F_GT) (N := 8) hx hb hts i_GT hown hK hw f1 rfl 4 (by decide) (hts _ wd_84) (fun _ h9 => h9) rfl d_GT_step_17 ?_
    refine x_get (C := "GateTimes$Row") (T := F_Row) (N := 2) hx hb hts i_Row hown hK hw f6 rfl 1 (by decide) (hts _ wd_26) (fun _ h9 => h9) rfl d_GT_step_20 ?_
    refine lv_aload_n hx hb d_GT_step_23 rfl (lv_at hl 0 rfl) ?_
    refine x_get (C := "GateTimes") (T := F_GT) (N := 8) hx hb hts i_GT hown hK hw f1 rfl 6 (by decide) (hts _ wd_86) (fun _ h9 => h9) rfl d_GT_step_24 ?_
    refine lv_isub hx hb d_GT_step_27 ?_
    refine lv_topi (fun n27 en27 => ?_)
    refine lv_istore_n (lv' := [(3, .int n27), (0, .ref (x 0 0)), (1, .long (lN n))]) hx hb d_GT_step_28 rfl hl (by decide) rfl (fun ls hl => ?_)
    refine lv_aload_n hx hb d_GT_step_29 rfl (lv_at hl 1 rfl) ?_
    refine lv_aload_n hx hb d_GT_step_30 rfl (lv_at hl 1 rfl) ?_
    refine x_get (C := "GateTimes") (T := F_GT) (N := 8) hx hb hts i_GT hown hK hw f1 rfl 4 (by decide) (hts _ wd_84) (fun _ h9 => h9) rfl d_GT_step_31 ?_
    refine x_get (C := "GateTimes$Row") (T := F_Row) (N := 2) hx hb hts i_Row hown hK hw f6 rfl 1 (by decide) (hts _ wd_26) (fun _ h9 => h9) rfl d_GT_step_34 ?_
    refine x_put (C := "GateTimes") (T := F_GT) (N := 8) (ty := .int) hx hb hts i_GT t_GT t_GT_ok n_GT hown hK hw f1 rfl 6 (by decide) (hts _ wd_86) (fun _ h9 => h9) rfl (by decide +kernel) rfl rfl (Nat.le_of_ble_eq_true rfl) d_GT_step_37 (fun M2 H locs eM2 hw => ?_)
    refine lv_iload_n hx hb d_GT_step_40 rfl (lv_at hl 0 rfl) ?_
    have e2 : ∀ i, up2 v1 12 3 o1.length 2 i = v1 2 i := fun i => up2_k _ _ _ _ (by decide)
    have e3 : ∀ i, up2 v1 12 3 o1.length 3 i = v1 3 i := fun i => up2_k _ _ _ _ (by decide)
    exact x_iret hx hb hr hlk rfl hw (⟨_, rfl, up2 v1 12 3 o1.length, o1, Or.inr ⟨n, v1, rfl, n1, n2, hpa, en27, rfl⟩, x, P1, L1, rfl, by rw [wr_cong e2 e3]; exact cR_head hR1 (fun a b n4 h9 => by unfold up2; rw [if_neg (fun z => h9 ⟨z.1, Or.inr z.2⟩)]) (by rw [eM2]; unfold cHead; rw [up2_self, up2_i _ _ _ _ (show (2 : Nat) ≠ 3 by decide)]; rfl), Lk_cong hL1 (up2_i _ _ _ _ (by decide)) (up2_i _ _ _ _ (by decide)) e3 (fun i => up2_k _ _ _ _ (by decide))⟩) d_GT_step_41
  ·
    refine lv_if_ne (tgt := 11) hx hb d_GT_step_5 (by decide) (fun c5 => False.elim (c5 rfl)) (fun c5 => ?_)
    refine lv_bipush (v := (-102)) hx hb d_GT_step_8 (by decide) ?_
    exact x_iret hx hb hr hlk rfl hw (⟨_, rfl, v, o, Or.inl ⟨ok, rfl, rfl, rfl⟩, ⟨x, P, L, rfl, hR, hL⟩⟩) d_GT_step_10
set_option maxHeartbeats 4000000 in
set_option maxRecDepth 100000 in
theorem c_GT_order (l : Launch) (D : va_G) (cs : Nat → ClassId) (M : xM) (sz : Nat) (a0 : Nat) (v : gV) (o : List Nat) (hS : clS cs M a0 v o) (hG0 : gAll v o) (i b : Int32) (t : Int64) : Met l y_GT_order w_GT_order ({ frames := 5, cells := 0, slots := 0, locals := 110 }) (xPc D classes (xtys cs) M sz [.ref a0, .int i, .int b, .long t]) (xQ D classes M sz (fun rv M1 => ∃ r : Int32, rv = some (.int r) ∧ ∃ (v1 : gV) (o1 : List Nat), pOrd v o i b t r v1 o1 ∧ clS cs M1 a0 v1 o1)) 0 0 (xA M sz) := by
  obtain ⟨x, P, L, rfl, hR, hL⟩ := hS
  have hI0 := hG0.1
  have hGb := hI0.1.2
  have hn := hI0.2.1
  have hnow := hI0.2.2.1
  have f0 : M (x 0 0) = some (cHead x v) := hR.1 0 0 (vd0 (by decide))
  refine x_met (maxL := 8) (ret := (some .int)) (by decide) (Nat.le_of_ble_eq_true rfl) ?_
  intro p e s m below meth c ls hsz hF hr hlk hnm hK hZ hw hl
  obtain ⟨hx, hb, hml, hown, hts⟩ := id hF
  have hA : ∀ q, s.heap.size ≤ q → xA M sz q := x_hA hsz
  have hl : lv_has ls 8 [(0, .ref (x 0 0)), (1, .int i), (2, .int b), (3, .long t)] := hl
  refine lv_aload_n hx hb d_GT_order_0 rfl (lv_at hl 0 rfl) ?_
  refine lv_iload_n hx hb d_GT_order_1 rfl (lv_at hl 1 rfl) ?_
  refine x_callqM (va_runV (As := [.int i]) (rest := []) hF (c_GT_itemOf l D cs M _ x v P o (o.filter (wr v)) hR hn i) (x_cwV 1 hts wd_178 wd_180 wp_2 wd_1 wd_181 rfl rfl (by decide +kernel) ⟨Nat.le_of_ble_eq_true rfl, Nat.le_of_ble_eq_true rfl⟩) (x_preV hK hZ hw f0 rfl) rfl rfl hl.1 rfl (lv_room (Nat.le_of_ble_eq_true rfl)) d_GT_order_2 ⟨Nat.le_of_ble_eq_true rfl, Nat.le_of_ble_eq_true rfl⟩) hw hA (fun q H locs hp hw => ?_)
  rcases hp with ⟨k, rfl, k1, k2, rfl⟩ | ⟨k1, rfl⟩
  ·
    refine lv_astore (lv' := [(5, .ref (x 3 k)), (0, .ref (x 0 0)), (1, .int (nI k)), (2, .int b), (3, .long t)]) hx hb d_GT_order_5 hl (by decide) rfl (fun ls hl => ?_)
    refine lv_aload hx hb d_GT_order_7 (lv_at hl 0 rfl) ?_
    refine lv_ifnull hx hb d_GT_order_9 ?_
    refine lv_aload_n hx hb d_GT_order_12 rfl (lv_at hl 1 rfl) ?_
    refine lv_iload_n hx hb d_GT_order_13 rfl (lv_at hl 3 rfl) ?_
    refine x_callqM (va_runV (As := [.int b]) (rest := []) hF (c_GT_gateOf l D cs M _ x v P o (o.filter (wr v)) hR hGb b) (x_cwV 1 hts wd_182 wd_184 wp_3 wd_1 wd_185 rfl rfl (by decide +kernel) ⟨Nat.le_of_ble_eq_true rfl, Nat.le_of_ble_eq_true rfl⟩) (x_preV hK hZ hw f0 rfl) rfl rfl hl.1 rfl (lv_room (Nat.le_of_ble_eq_true rfl)) d_GT_order_14 ⟨Nat.le_of_ble_eq_true rfl, Nat.le_of_ble_eq_true rfl⟩) hw hA (fun q2 H locs hp hw => ?_)
    rcases hp with ⟨g, rfl, g1, rfl⟩ | ⟨g1, rfl⟩
    ·
      refine lv_ifnonnull (tgt := 23) hx hb d_GT_order_17 (by decide) ?_
      refine lv_aload_n hx hb d_GT_order_23 rfl (lv_at hl 1 rfl) ?_
      refine lv_lload_n hx hb d_GT_order_24 rfl (lv_at hl 4 rfl) ?_
      refine x_calliM (va_runV (As := [.long t]) (rest := []) hF (c_GT_isTimeAhead l D cs M _ x v P o (o.filter (wr v)) hR t) (x_cwV 1 hts wd_110 wd_112 wp_0 wd_1 wd_113 rfl rfl (by decide +kernel) ⟨Nat.le_of_ble_eq_true rfl, Nat.le_of_ble_eq_true rfl⟩) (x_preV hK hZ hw f0 rfl) rfl rfl hl.1 rfl (lv_room (Nat.le_of_ble_eq_true rfl)) d_GT_order_25 ⟨Nat.le_of_ble_eq_true rfl, Nat.le_of_ble_eq_true rfl⟩) hw hA (fun r H locs hp hw => ?_)
      rcases hp with ⟨rfl, ok⟩ | ⟨rfl, ok⟩
      ·
        refine lv_if_ne (tgt := 34) hx hb d_GT_order_28 (by decide) (fun c28 => ?_) (fun c28 => False.elim (absurd c28 (by decide)))
        obtain ⟨n, rfl, n1, n2⟩ := okT_of ok hnow
        refine lv_aload_n hx hb d_GT_order_34 rfl (lv_at hl 1 rfl) ?_
        refine lv_lload_n hx hb d_GT_order_35 rfl (lv_at hl 4 rfl) ?_
        refine x_callv (va_runV (As := [.long (lN n)]) (rest := []) hF (c_GT_passTo l D cs M _ x v P o L n hR hG0 hL n2) (x_cwV 1 hts wd_186 wd_188 wp_4 wd_1 wd_189 rfl rfl (by decide +kernel) ⟨Nat.le_of_ble_eq_true rfl, Nat.le_of_ble_eq_true rfl⟩) (x_preV hK hZ hw f0 rfl) rfl rfl hl.1 rfl (lv_room (Nat.le_of_ble_eq_true rfl)) d_GT_order_36 ⟨Nat.le_of_ble_eq_true rfl, Nat.le_of_ble_eq_true rfl⟩) hw hA (fun M1 H locs hp hw => ?_)
        obtain ⟨P1, L1, v1, o1, hR1, hL1, hpa⟩ := hp
        obtain ⟨pa, p2, p3, p4, p5, p6⟩ := passed_all hG0 n1 n2 hpa
        have k3 : k ≤ v1 12 1 := by omega
        have hit := pa.1.2.2.2.2.1 k k1 k3
        unfold gItem at hit
        have fi : M1 (x 3 k) = some (cItem x v1 P1 k) := hR1.1 3 _ (vd3 k1 k3)
        refine lv_aload hx hb d_GT_order_39 (lv_at hl 0 rfl) ?_
        refine x_get (C := "GateTimes$Item") (T := F_Item) (N := 7) hx hb hts i_Item hown hK hw fi rfl 4 (by decide) (hts _ wd_145) (fun _ h9 => h9) rfl d_GT_order_41 ?_
        refine lv_iconst (v := (-1)) hx hb d_GT_order_44 (by decide) ?_
        refine lv_icmp_eq (tgt := 50) hx hb d_GT_order_45 (by decide) (fun c45 => ?_) (fun c45 => ?_)
        ·
          have c3 : v1 3 k = 0 := (eN_m1 (by omega)).mp c45
          refine lv_aload hx hb d_GT_order_50 (lv_at hl 0 rfl) ?_
          refine x_get (C := "GateTimes$Item") (T := F_Item) (N := 7) hx hb hts i_Item hown hK hw fi rfl 3 (by decide) (hts _ wd_143) (fun _ h9 => h9) rfl d_GT_order_52 ?_
          refine lv_iconst (v := (-1)) hx hb d_GT_order_55 (by decide) ?_
          refine lv_icmp_eq (tgt := 61) hx hb d_GT_order_56 (by decide) (fun c56 => ?_) (fun c56 => ?_)
          ·
            have c2 : v1 2 k = 0 := (eN_m1 (by omega)).mp c56
            have hfr : v1 0 k + 1000 * g + 1000 = fr v1 k g := rfl
            have hfb : fr v1 k g < 1000020000 := by unfold fr; omega
            refine lv_lload_n hx hb d_GT_order_61 rfl (lv_at hl 4 rfl) ?_
            refine lv_ldc2 (v := 200) hx hb hown (hts _ wd_217) d_GT_order_62 ?_
            refine lv_ladd hx hb d_GT_order_65 ?_
            refine lv_topl (fun n65 en65 => ?_)
            obtain rfl : n65 = lN (n + 200) := en65.trans (lN_add n 200)
            refine lv_aload hx hb d_GT_order_66 (lv_at hl 0 rfl) ?_
            refine lv_iload_n hx hb d_GT_order_68 rfl (lv_at hl 3 rfl) ?_
            refine x_calllM (va_runV (As := [.int (nI g)]) (rest := [.long (lN (n + 200))]) hF (c_Item_frontAt l D cs M1 _ (x 3 k) (v1 0 k) g _ _ fi (by omega)) (x_cwV 1 hts wd_194 wd_195 wd_196 wd_7 wd_197 rfl rfl (by decide +kernel) ⟨Nat.le_of_ble_eq_true rfl, Nat.le_of_ble_eq_true rfl⟩) (x_preV hK hZ hw fi rfl) rfl rfl hl.1 rfl (lv_room (Nat.le_of_ble_eq_true rfl)) d_GT_order_69 ⟨Nat.le_of_ble_eq_true rfl, Nat.le_of_ble_eq_true rfl⟩) hw hA (fun r H locs hp hw => ?_)
            rw [hfr] at hp
            subst hp
            refine lv_lsub hx hb d_GT_order_72 ?_
            refine lv_topl (fun n72 en72 => ?_)
            by_cases hd : fr v1 k g < n + 200
            ·
              obtain rfl : n72 = lN (n + 200 - fr v1 k g) := en72.trans (lN_sub (by omega))
              refine lv_lstore (lv' := [(6, .long (lN (n + 200 - fr v1 k g))), (5, .ref (x 3 k)), (0, .ref (x 0 0)), (1, .int (nI k)), (2, .int (nI g)), (3, .long (lN n))]) hx hb d_GT_order_73 hl (by decide) rfl (fun ls hl => ?_)
              refine lv_lload hx hb d_GT_order_75 (lv_at hl 0 rfl) ?_
              refine lv_lconst (v := 0) hx hb d_GT_order_77 (by decide) ?_
              refine W.lcmp hx hb d_GT_order_78 ?_
              refine lv_if_le (tgt := 92) hx hb d_GT_order_79 (by decide) (fun c79 => False.elim (l_pos (by omega) (by omega) ((lg_cmp_le _ _).mp c79))) (fun c79 => ?_)
              replace c79 := (fun z => c79 ((lg_cmp_le _ _).mpr z))
              refine lv_aload hx hb d_GT_order_82 (lv_at hl 1 rfl) ?_
              refine lv_lload hx hb d_GT_order_84 (lv_at hl 0 rfl) ?_
              refine lv_l2i hx hb d_GT_order_86 rfl ?_
              refine lv_topi (fun n86 en86 => ?_)
              obtain rfl : n86 = nI (n + 200 - fr v1 k g) := en86.trans (lN_i _)
              refine x_put (C := "GateTimes$Item") (T := F_Item) (N := 7) (ty := .int) hx hb hts i_Item t_Item t_Item_ok n_Item hown hK hw fi rfl 5 (by decide) (hts _ wd_147) (fun _ h9 => h9) rfl (by decide +kernel) rfl rfl (Nat.le_of_ble_eq_true rfl) d_GT_order_87 (fun M2 H locs eM2 hw => ?_)
              refine lv_iconst (v := 0) hx hb d_GT_order_90 (by decide) ?_
              have hV : ∀ a b, ¬ (a = 5 ∧ b = k) → up2 v1 5 k (n + 200 - fr v1 k g) a b = v1 a b := fun a b h9 => by unfold up2; rw [if_neg h9]
              exact x_iret hx hb hr hlk rfl hw (⟨_, rfl, up2 v1 5 k (n + 200 - fr v1 k g), o1, Or.inr (Or.inr ⟨k, g, n, v1, rfl, k1, k2, rfl, g1, rfl, n1, n2, hpa, Or.inr (Or.inr (Or.inl ⟨c3, c2, hd, rfl, rfl⟩))⟩), ⟨x, P1, L1, rfl, by rw [wr_cong (fun i => hV 2 i (by omega)) (fun i => hV 3 i (by omega))]; exact cR_item hR1 k1 k3 (fun a b n4 h9 => hV a b (by omega)) (by rw [eM2]; unfold cItem; rw [up2_self]; rfl), Lk_cong hL1 (hV _ _ (by omega)) (hV _ _ (by omega)) (fun i => hV _ _ (by omega)) (fun i => hV _ _ (by omega))⟩⟩) d_GT_order_91
            ·
              refine lv_lstore (lv' := [(6, .long n72), (5, .ref (x 3 k)), (0, .ref (x 0 0)), (1, .int (nI k)), (2, .int (nI g)), (3, .long (lN n))]) hx hb d_GT_order_73 hl (by decide) rfl (fun ls hl => ?_)
              refine lv_lload hx hb d_GT_order_75 (lv_at hl 0 rfl) ?_
              refine lv_lconst (v := 0) hx hb d_GT_order_77 (by decide) ?_
              refine W.lcmp hx hb d_GT_order_78 ?_
              have hd2 : n72 ≤ 0 := by rw [en72]; exact l_neg (by omega) (by omega)
              refine lv_if_le (tgt := 92) hx hb d_GT_order_79 (by decide) (fun c79 => ?_) (fun c79 => False.elim ((fun z => c79 ((lg_cmp_le _ _).mpr z)) hd2))
              replace c79 := ((lg_cmp_le _ _).mp c79)
              refine lv_aload hx hb d_GT_order_92 (lv_at hl 1 rfl) ?_
              refine lv_iload_n hx hb d_GT_order_94 rfl (lv_at hl 4 rfl) ?_
              refine x_put (C := "GateTimes$Item") (T := F_Item) (N := 7) (ty := .int) hx hb hts i_Item t_Item t_Item_ok n_Item hown hK hw fi rfl 3 (by decide) (hts _ wd_143) (fun _ h9 => h9) rfl (by decide +kernel) rfl rfl (Nat.le_of_ble_eq_true rfl) d_GT_order_95 (fun M2 H locs eM2 hw => ?_)
              refine lv_iconst (v := 1) hx hb d_GT_order_98 (by decide) ?_
              have hV : ∀ a b, ¬ (a = 2 ∧ b = k) → up2 v1 2 k (g + 1) a b = v1 a b := fun a b h9 => by unfold up2; rw [if_neg h9]
              have hwr : o1.filter (wr (up2 v1 2 k (g + 1))) = o1.filter (wr v1) := List.filter_congr (fun a ha => by
                have z : a ≠ k := came_ne pa.2.1 ha c3
                unfold wr
                rw [hV 2 a (by omega), hV 3 a (by omega)])
              exact x_iret hx hb hr hlk rfl hw (⟨_, rfl, up2 v1 2 k (g + 1), o1, Or.inr (Or.inr ⟨k, g, n, v1, rfl, k1, k2, rfl, g1, rfl, n1, n2, hpa, Or.inr (Or.inr (Or.inr ⟨c3, c2, hd, rfl, rfl⟩))⟩), ⟨x, P1, L1, rfl, by rw [hwr]; exact cR_item hR1 k1 k3 (fun a b n4 h9 => hV a b (by omega)) (by rw [eM2]; unfold cItem; rw [up2_self, eN_s]; rfl), Lk_cong hL1 (hV _ _ (by omega)) (hV _ _ (by omega)) (fun i => hV _ _ (by omega)) (fun i => hV _ _ (by omega))⟩⟩) d_GT_order_99
          ·
            refine lv_iconst (v := 2) hx hb d_GT_order_59 (by decide) ?_
            exact x_iret hx hb hr hlk rfl hw (⟨_, rfl, v1, o1, Or.inr (Or.inr ⟨k, g, n, v1, rfl, k1, k2, rfl, g1, rfl, n1, n2, hpa, Or.inr (Or.inl ⟨c3, fun z => c56 ((eN_m1 (by omega)).mpr z), rfl, rfl⟩)⟩), ⟨x, P1, L1, rfl, hR1, hL1⟩⟩) d_GT_order_60
        ·
          refine lv_iconst (v := 0) hx hb d_GT_order_48 (by decide) ?_
          exact x_iret hx hb hr hlk rfl hw (⟨_, rfl, v1, o1, Or.inr (Or.inr ⟨k, g, n, v1, rfl, k1, k2, rfl, g1, rfl, n1, n2, hpa, Or.inl ⟨fun z => c45 ((eN_m1 (by omega)).mpr z), rfl, rfl⟩⟩), ⟨x, P1, L1, rfl, hR1, hL1⟩⟩) d_GT_order_49
      ·
        refine lv_if_ne (tgt := 34) hx hb d_GT_order_28 (by decide) (fun c28 => False.elim (c28 rfl)) (fun c28 => ?_)
        refine lv_bipush (v := (-102)) hx hb d_GT_order_31 (by decide) ?_
        exact x_iret hx hb hr hlk rfl hw (⟨_, rfl, v, o, Or.inr (Or.inl ⟨⟨k, rfl, k1, k2⟩, ⟨g, rfl, g1⟩, ok, rfl, rfl, rfl⟩), ⟨x, P, L, rfl, hR, hL⟩⟩) d_GT_order_33
    ·
      refine lv_ifnonnullN hx hb d_GT_order_17 ?_
      refine lv_bipush (v := (-101)) hx hb d_GT_order_20 (by decide) ?_
      exact x_iret hx hb hr hlk rfl hw (⟨_, rfl, v, o, Or.inl ⟨fun z => g1 z.2, rfl, rfl, rfl⟩, ⟨x, P, L, rfl, hR, hL⟩⟩) d_GT_order_22
  ·
    refine lv_astoreN (lv' := [(5, .null), (0, .ref (x 0 0)), (1, .int i), (2, .int b), (3, .long t)]) hx hb d_GT_order_5 hl (by decide) rfl (fun ls hl => ?_)
    refine lv_aloadN hx hb d_GT_order_7 (lv_at hl 0 rfl) ?_
    refine lv_ifnullN (tgt := 20) hx hb d_GT_order_9 (by decide) ?_
    refine lv_bipush (v := (-101)) hx hb d_GT_order_20 (by decide) ?_
    exact x_iret hx hb hr hlk rfl hw (⟨_, rfl, v, o, Or.inl ⟨fun z => k1 z.1, rfl, rfl, rfl⟩, ⟨x, P, L, rfl, hR, hL⟩⟩) d_GT_order_22
set_option maxHeartbeats 4000000 in
set_option maxRecDepth 100000 in
theorem c_GT_height (l : Launch) (D : va_G) (cs : Nat → ClassId) (M : xM) (sz : Nat) (a0 : Nat) (v : gV) (o : List Nat) (hS : clS cs M a0 v o) (hG0 : gAll v o) (b n0 : Int32) : Met l y_GT_height w_GT_height ({ frames := 1, cells := 0, slots := 0, locals := 21 }) (xPc D classes (xtys cs) M sz [.ref a0, .int b, .int n0]) (xQ D classes M sz (fun rv M1 => ∃ r : Int32, rv = some (.int r) ∧ ∃ (v1 : gV) (o1 : List Nat), pHei v b n0 r v1 ∧ o1 = o ∧ clS cs M1 a0 v1 o1)) 0 0 (xA M sz) := by
  obtain ⟨x, P, L, rfl, hR, hL⟩ := hS
  have hI0 := hG0.1
  have hGb := hI0.1.2
  have hn := hI0.2.1
  have hnow := hI0.2.2.1
  have f0 : M (x 0 0) = some (cHead x v) := hR.1 0 0 (vd0 (by decide))
  refine x_met (maxL := 5) (ret := (some .int)) (by decide) (Nat.le_of_ble_eq_true rfl) ?_
  intro p e s m below meth c ls hsz hF hr hlk hnm hK hZ hw hl
  obtain ⟨hx, hb, hml, hown, hts⟩ := id hF
  have hA : ∀ q, s.heap.size ≤ q → xA M sz q := x_hA hsz
  have hl : lv_has ls 5 [(0, .ref (x 0 0)), (1, .int b), (2, .int n0)] := hl
  refine lv_aload_n hx hb d_GT_height_0 rfl (lv_at hl 0 rfl) ?_
  refine lv_iload_n hx hb d_GT_height_1 rfl (lv_at hl 1 rfl) ?_
  refine x_callqM (va_runV (As := [.int b]) (rest := []) hF (c_GT_gateOf l D cs M _ x v P o (o.filter (wr v)) hR hGb b) (x_cwV 1 hts wd_182 wd_184 wp_3 wd_1 wd_185 rfl rfl (by decide +kernel) ⟨Nat.le_of_ble_eq_true rfl, Nat.le_of_ble_eq_true rfl⟩) (x_preV hK hZ hw f0 rfl) rfl rfl hl.1 rfl (lv_room (Nat.le_of_ble_eq_true rfl)) d_GT_height_2 ⟨Nat.le_of_ble_eq_true rfl, Nat.le_of_ble_eq_true rfl⟩) hw hA (fun q2 H locs hp hw => ?_)
  rcases hp with ⟨g, rfl, g1, rfl⟩ | ⟨g1, rfl⟩
  ·
    refine lv_astore_n (lv' := [(3, .ref (x 1 g)), (0, .ref (x 0 0)), (1, .int (nI g)), (2, .int n0)]) hx hb d_GT_height_5 rfl hl (by decide) rfl (fun ls hl => ?_)
    refine lv_aload_n hx hb d_GT_height_6 rfl (lv_at hl 0 rfl) ?_
    have fg : M (x 1 g) = some (cGate v g) := hR.1 1 _ (vd1 g1)
    have hga := hI0.2.2.2.2.2.2.1 g (by omega)
    unfold gGate at hga
    refine lv_ifnonnull (tgt := 13) hx hb d_GT_height_7 (by decide) ?_
    refine lv_iload_n hx hb d_GT_height_13 rfl (lv_at hl 3 rfl) ?_
    refine lv_iconst (v := 1) hx hb d_GT_height_14 (by decide) ?_
    refine lv_icmp_lt (tgt := 25) hx hb d_GT_height_15 (by decide) (fun c15 => ?_) (fun c15 => ?_)
    ·
      refine lv_bipush (v := (-102)) hx hb d_GT_height_25 (by decide) ?_
      exact x_iret hx hb hr hlk rfl hw (⟨_, rfl, v, o, Or.inr (Or.inl ⟨⟨g, rfl, g1⟩, fun z => Int32.not_lt.mpr z.1 c15, rfl, rfl⟩), rfl, ⟨x, P, L, rfl, hR, hL⟩⟩) d_GT_height_27
    ·
      refine lv_iload_n hx hb d_GT_height_18 rfl (lv_at hl 3 rfl) ?_
      refine lv_sipush (v := 1000) hx hb d_GT_height_19 (by decide) ?_
      refine lv_icmp_le (tgt := 28) hx hb d_GT_height_22 (by decide) (fun c22 => ?_) (fun c22 => ?_)
      ·
        obtain ⟨k, rfl, k1, k2⟩ : ∃ k, n0 = nI k ∧ 1 ≤ k ∧ k ≤ 1000 := by
          rcases pk_ix n0 (show 1001 < 2 ^ 31 by decide) with z | z | ⟨k, z1, rfl⟩
          · exact absurd (Int32.lt_trans z (show (0 : Int32) < 1 by decide)) c15
          · exact absurd c22 (Int32.not_le.mpr (Int32.lt_of_lt_of_le (show (1000 : Int32) < nI 1001 by decide) z))
          · exact ⟨k, rfl, Nat.le_of_not_lt (fun z => c15 (nI_lt (b := 1) z (by decide))), by omega⟩
        refine lv_aload_n hx hb d_GT_height_28 rfl (lv_at hl 0 rfl) ?_
        refine x_get (C := "GateTimes$Gate") (T := F_Gate) (N := 5) hx hb hts i_Gate hown hK hw fg rfl 2 (by decide) (hts _ wd_51) (fun _ h9 => h9) rfl d_GT_height_29 ?_
        refine lv_istore (lv' := [(4, .int (nI (v 9 g))), (3, .ref (x 1 g)), (0, .ref (x 0 0)), (1, .int (nI g)), (2, .int (nI k))]) hx hb d_GT_height_32 hl (by decide) rfl (fun ls hl => ?_)
        refine lv_aload_n hx hb d_GT_height_34 rfl (lv_at hl 1 rfl) ?_
        refine lv_iload_n hx hb d_GT_height_35 rfl (lv_at hl 4 rfl) ?_
        refine x_put (C := "GateTimes$Gate") (T := F_Gate) (N := 5) (ty := .int) hx hb hts i_Gate t_Gate t_Gate_ok n_Gate hown hK hw fg rfl 2 (by decide) (hts _ wd_51) (fun _ h9 => h9) rfl (by decide +kernel) rfl rfl (Nat.le_of_ble_eq_true rfl) d_GT_height_36 (fun M1 H locs eM1 hw => ?_)
        refine lv_iload hx hb d_GT_height_39 (lv_at hl 0 rfl) ?_
        have hV : ∀ a b, ¬ (a = 9 ∧ b = g) → up2 v 9 g k a b = v a b := fun a b h9 => by unfold up2; rw [if_neg h9]
        exact x_iret hx hb hr hlk rfl hw (⟨_, rfl, up2 v 9 g k, o, Or.inr (Or.inr ⟨g, k, rfl, g1, rfl, k1, k2, rfl, rfl⟩), rfl, x, P, L, rfl, by rw [wr_cong (fun i => hV 2 i (by omega)) (fun i => hV 3 i (by omega))]; exact cR_gate hR g1 (fun a b n4 h9 => hV a b (by omega)) (by rw [eM1]; unfold cGate; rw [up2_self]; rfl), Lk_cong hL (hV _ _ (by omega)) (hV _ _ (by omega)) (fun i => hV _ _ (by omega)) (fun i => hV _ _ (by omega))⟩) d_GT_height_41
      ·
        refine lv_bipush (v := (-102)) hx hb d_GT_height_25 (by decide) ?_
        exact x_iret hx hb hr hlk rfl hw (⟨_, rfl, v, o, Or.inr (Or.inl ⟨⟨g, rfl, g1⟩, fun z => c22 z.2, rfl, rfl⟩), rfl, ⟨x, P, L, rfl, hR, hL⟩⟩) d_GT_height_27
  ·
    refine lv_astore_nN (lv' := [(3, .null), (0, .ref (x 0 0)), (1, .int b), (2, .int n0)]) hx hb d_GT_height_5 rfl hl (by decide) rfl (fun ls hl => ?_)
    refine lv_aload_nN hx hb d_GT_height_6 rfl (lv_at hl 0 rfl) ?_
    refine lv_ifnonnullN hx hb d_GT_height_7 ?_
    refine lv_bipush (v := (-101)) hx hb d_GT_height_10 (by decide) ?_
    exact x_iret hx hb hr hlk rfl hw (⟨_, rfl, v, o, Or.inl ⟨g1, rfl, rfl⟩, rfl, ⟨x, P, L, rfl, hR, hL⟩⟩) d_GT_height_12
set_option maxHeartbeats 4000000 in
set_option maxRecDepth 100000 in
theorem c_GT_swap (l : Launch) (D : va_G) (cs : Nat → ClassId) (M : xM) (sz : Nat) (a0 : Nat) (v : gV) (o : List Nat) (hS : clS cs M a0 v o) (hG0 : gAll v o) (b : Int32) : Met l y_GT_swap w_GT_swap ({ frames := 1, cells := 0, slots := 0, locals := 21 }) (xPc D classes (xtys cs) M sz [.ref a0, .int b]) (xQ D classes M sz (fun rv M1 => ∃ r : Int32, rv = some (.int r) ∧ ∃ (v1 : gV) (o1 : List Nat), pSwp v b r v1 ∧ o1 = o ∧ clS cs M1 a0 v1 o1)) 0 0 (xA M sz) := by
  obtain ⟨x, P, L, rfl, hR, hL⟩ := hS
  have hI0 := hG0.1
  have hGb := hI0.1.2
  have hn := hI0.2.1
  have hnow := hI0.2.2.1
  have f0 : M (x 0 0) = some (cHead x v) := hR.1 0 0 (vd0 (by decide))
  refine x_met (maxL := 4) (ret := (some .int)) (by decide) (Nat.le_of_ble_eq_true rfl) ?_
  intro p e s m below meth c ls hsz hF hr hlk hnm hK hZ hw hl
  obtain ⟨hx, hb, hml, hown, hts⟩ := id hF
  have hA : ∀ q, s.heap.size ≤ q → xA M sz q := x_hA hsz
  have hl : lv_has ls 4 [(0, .ref (x 0 0)), (1, .int b)] := hl
  refine lv_aload_n hx hb d_GT_swap_0 rfl (lv_at hl 0 rfl) ?_
  refine lv_iload_n hx hb d_GT_swap_1 rfl (lv_at hl 1 rfl) ?_
  refine x_callqM (va_runV (As := [.int b]) (rest := []) hF (c_GT_gateOf l D cs M _ x v P o (o.filter (wr v)) hR hGb b) (x_cwV 1 hts wd_182 wd_184 wp_3 wd_1 wd_185 rfl rfl (by decide +kernel) ⟨Nat.le_of_ble_eq_true rfl, Nat.le_of_ble_eq_true rfl⟩) (x_preV hK hZ hw f0 rfl) rfl rfl hl.1 rfl (lv_room (Nat.le_of_ble_eq_true rfl)) d_GT_swap_2 ⟨Nat.le_of_ble_eq_true rfl, Nat.le_of_ble_eq_true rfl⟩) hw hA (fun q2 H locs hp hw => ?_)
  rcases hp with ⟨g, rfl, g1, rfl⟩ | ⟨g1, rfl⟩
  ·
    refine lv_astore_n (lv' := [(2, .ref (x 1 g)), (0, .ref (x 0 0)), (1, .int (nI g))]) hx hb d_GT_swap_5 rfl hl (by decide) rfl (fun ls hl => ?_)
    refine lv_aload_n hx hb d_GT_swap_6 rfl (lv_at hl 0 rfl) ?_
    have fg : M (x 1 g) = some (cGate v g) := hR.1 1 _ (vd1 g1)
    have hga := hI0.2.2.2.2.2.2.1 g (by omega)
    unfold gGate at hga
    refine lv_ifnonnull (tgt := 13) hx hb d_GT_swap_7 (by decide) ?_
    refine lv_aload_n hx hb d_GT_swap_13 rfl (lv_at hl 0 rfl) ?_
    refine x_get (C := "GateTimes$Gate") (T := F_Gate) (N := 5) hx hb hts i_Gate hown hK hw fg rfl 3 (by decide) (hts _ wd_53) (fun _ h9 => h9) rfl d_GT_swap_14 ?_
    refine lv_istore_n (lv' := [(3, .int (nI (v 10 g))), (2, .ref (x 1 g)), (0, .ref (x 0 0)), (1, .int (nI g))]) hx hb d_GT_swap_17 rfl hl (by decide) rfl (fun ls hl => ?_)
    refine lv_aload_n hx hb d_GT_swap_18 rfl (lv_at hl 1 rfl) ?_
    refine lv_iconst (v := 0) hx hb d_GT_swap_19 (by decide) ?_
    refine x_put (C := "GateTimes$Gate") (T := F_Gate) (N := 5) (ty := .int) hx hb hts i_Gate t_Gate t_Gate_ok n_Gate hown hK hw fg rfl 3 (by decide) (hts _ wd_53) (fun _ h9 => h9) rfl (by decide +kernel) rfl rfl (Nat.le_of_ble_eq_true rfl) d_GT_swap_20 (fun M1 H locs eM1 hw => ?_)
    refine lv_iload_n hx hb d_GT_swap_23 rfl (lv_at hl 0 rfl) ?_
    have hV : ∀ a b, ¬ (a = 10 ∧ b = g) → up2 v 10 g 0 a b = v a b := fun a b h9 => by unfold up2; rw [if_neg h9]
    exact x_iret hx hb hr hlk rfl hw (⟨_, rfl, up2 v 10 g 0, o, Or.inr ⟨g, rfl, g1, rfl, rfl⟩, rfl, x, P, L, rfl, by rw [wr_cong (fun i => hV 2 i (by omega)) (fun i => hV 3 i (by omega))]; exact cR_gate hR g1 (fun a b n4 h9 => hV a b (by omega)) (by rw [eM1]; unfold cGate; rw [up2_self]; rfl), Lk_cong hL (hV _ _ (by omega)) (hV _ _ (by omega)) (fun i => hV _ _ (by omega)) (fun i => hV _ _ (by omega))⟩) d_GT_swap_24
  ·
    refine lv_astore_nN (lv' := [(2, .null), (0, .ref (x 0 0)), (1, .int b)]) hx hb d_GT_swap_5 rfl hl (by decide) rfl (fun ls hl => ?_)
    refine lv_aload_nN hx hb d_GT_swap_6 rfl (lv_at hl 0 rfl) ?_
    refine lv_ifnonnullN hx hb d_GT_swap_7 ?_
    refine lv_bipush (v := (-101)) hx hb d_GT_swap_10 (by decide) ?_
    exact x_iret hx hb hr hlk rfl hw (⟨_, rfl, v, o, Or.inl ⟨g1, rfl, rfl⟩, rfl, ⟨x, P, L, rfl, hR, hL⟩⟩) d_GT_swap_12
set_option maxHeartbeats 4000000 in
set_option maxRecDepth 100000 in
theorem c_GT_stuck (l : Launch) (D : va_G) (cs : Nat → ClassId) (M : xM) (sz : Nat) (a0 : Nat) (v : gV) (o : List Nat) (hS : clS cs M a0 v o) (hG0 : gAll v o) (b : Int32) (s0 : Nat) (hs : s0 ≤ 1) : Met l y_GT_stuck w_GT_stuck ({ frames := 1, cells := 0, slots := 0, locals := 21 }) (xPc D classes (xtys cs) M sz [.ref a0, .int b, .int (nI s0)]) (xQ D classes M sz (fun rv M1 => ∃ r : Int32, rv = some (.int r) ∧ ∃ (v1 : gV) (o1 : List Nat), pStk v b s0 r v1 ∧ o1 = o ∧ clS cs M1 a0 v1 o1)) 0 0 (xA M sz) := by
  obtain ⟨x, P, L, rfl, hR, hL⟩ := hS
  have hI0 := hG0.1
  have hGb := hI0.1.2
  have hn := hI0.2.1
  have hnow := hI0.2.2.1
  have f0 : M (x 0 0) = some (cHead x v) := hR.1 0 0 (vd0 (by decide))
  refine x_met (maxL := 4) (ret := (some .int)) (by decide) (Nat.le_of_ble_eq_true rfl) ?_
  intro p e s m below meth c ls hsz hF hr hlk hnm hK hZ hw hl
  obtain ⟨hx, hb, hml, hown, hts⟩ := id hF
  have hA : ∀ q, s.heap.size ≤ q → xA M sz q := x_hA hsz
  have hl : lv_has ls 4 [(0, .ref (x 0 0)), (1, .int b), (2, .int (nI s0))] := hl
  refine lv_aload_n hx hb d_GT_stuck_0 rfl (lv_at hl 0 rfl) ?_
  refine lv_iload_n hx hb d_GT_stuck_1 rfl (lv_at hl 1 rfl) ?_
  refine x_callqM (va_runV (As := [.int b]) (rest := []) hF (c_GT_gateOf l D cs M _ x v P o (o.filter (wr v)) hR hGb b) (x_cwV 1 hts wd_182 wd_184 wp_3 wd_1 wd_185 rfl rfl (by decide +kernel) ⟨Nat.le_of_ble_eq_true rfl, Nat.le_of_ble_eq_true rfl⟩) (x_preV hK hZ hw f0 rfl) rfl rfl hl.1 rfl (lv_room (Nat.le_of_ble_eq_true rfl)) d_GT_stuck_2 ⟨Nat.le_of_ble_eq_true rfl, Nat.le_of_ble_eq_true rfl⟩) hw hA (fun q2 H locs hp hw => ?_)
  rcases hp with ⟨g, rfl, g1, rfl⟩ | ⟨g1, rfl⟩
  ·
    refine lv_astore_n (lv' := [(3, .ref (x 1 g)), (0, .ref (x 0 0)), (1, .int (nI g)), (2, .int (nI s0))]) hx hb d_GT_stuck_5 rfl hl (by decide) rfl (fun ls hl => ?_)
    refine lv_aload_n hx hb d_GT_stuck_6 rfl (lv_at hl 0 rfl) ?_
    have fg : M (x 1 g) = some (cGate v g) := hR.1 1 _ (vd1 g1)
    have hga := hI0.2.2.2.2.2.2.1 g (by omega)
    unfold gGate at hga
    refine lv_ifnonnull (tgt := 13) hx hb d_GT_stuck_7 (by decide) ?_
    refine lv_aload_n hx hb d_GT_stuck_13 rfl (lv_at hl 0 rfl) ?_
    refine x_get (C := "GateTimes$Gate") (T := F_Gate) (N := 5) hx hb hts i_Gate hown hK hw fg rfl 1 (by decide) (hts _ wd_49) (fun _ h9 => h9) rfl d_GT_stuck_14 ?_
    refine lv_iload_n hx hb d_GT_stuck_17 rfl (lv_at hl 3 rfl) ?_
    refine lv_icmp_ne (tgt := 23) hx hb d_GT_stuck_18 (by decide) (fun c18 => ?_) (fun c18 => ?_)
    ·
      refine lv_aload_n hx hb d_GT_stuck_23 rfl (lv_at hl 0 rfl) ?_
      refine lv_iload_n hx hb d_GT_stuck_24 rfl (lv_at hl 3 rfl) ?_
      refine x_put (C := "GateTimes$Gate") (T := F_Gate) (N := 5) (ty := .boolean) hx hb hts i_Gate t_Gate t_Gate_ok n_Gate hown hK hw fg rfl 1 (by decide) (hts _ wd_49) (fun _ h9 => h9) rfl (by decide +kernel) (nar_b hs) (fit_b hs) (Nat.le_of_ble_eq_true rfl) d_GT_stuck_25 (fun M1 H locs eM1 hw => ?_)
      refine lv_iconst (v := 1) hx hb d_GT_stuck_28 (by decide) ?_
      have hV : ∀ a b, ¬ (a = 7 ∧ b = g) → up2 v 7 g s0 a b = v a b := fun a b h9 => by unfold up2; rw [if_neg h9]
      exact x_iret hx hb hr hlk rfl hw (⟨_, rfl, up2 v 7 g s0, o, Or.inr ⟨g, rfl, g1, by rw [if_neg (fun z => c18 (by rw [z]))], rfl⟩, rfl, x, P, L, rfl, by rw [wr_cong (fun i => hV 2 i (by omega)) (fun i => hV 3 i (by omega))]; exact cR_gate hR g1 (fun a b n4 h9 => hV a b (by omega)) (by rw [eM1]; unfold cGate; rw [up2_self]; rfl), Lk_cong hL (hV _ _ (by omega)) (hV _ _ (by omega)) (fun i => hV _ _ (by omega)) (fun i => hV _ _ (by omega))⟩) d_GT_stuck_29
    ·
      have c19 : v 7 g = s0 := nI_inj2 (by omega) (by omega) c18
      refine lv_iconst (v := 0) hx hb d_GT_stuck_21 (by decide) ?_
      exact x_iret hx hb hr hlk rfl hw (⟨_, rfl, v, o, Or.inr ⟨g, rfl, g1, by rw [if_pos c19], (up2_id c19).symm⟩, rfl, ⟨x, P, L, rfl, hR, hL⟩⟩) d_GT_stuck_22
  ·
    refine lv_astore_nN (lv' := [(3, .null), (0, .ref (x 0 0)), (1, .int b), (2, .int (nI s0))]) hx hb d_GT_stuck_5 rfl hl (by decide) rfl (fun ls hl => ?_)
    refine lv_aload_nN hx hb d_GT_stuck_6 rfl (lv_at hl 0 rfl) ?_
    refine lv_ifnonnullN hx hb d_GT_stuck_7 ?_
    refine lv_bipush (v := (-101)) hx hb d_GT_stuck_10 (by decide) ?_
    exact x_iret hx hb hr hlk rfl hw (⟨_, rfl, v, o, Or.inl ⟨g1, rfl, rfl⟩, rfl, ⟨x, P, L, rfl, hR, hL⟩⟩) d_GT_stuck_12
set_option maxHeartbeats 4000000 in
set_option maxRecDepth 100000 in
theorem c_GT_late (l : Launch) (D : va_G) (cs : Nat → ClassId) (M : xM) (sz : Nat) (a0 : Nat) (v : gV) (o : List Nat) (hS : clS cs M a0 v o) (hG0 : gAll v o) (i : Int32) : Met l y_GT_late w_GT_late ({ frames := 2, cells := 0, slots := 0, locals := 42 }) (xPc D classes (xtys cs) M sz [.ref a0, .int i]) (xQ D classes M sz (fun rv M1 => ∃ r : Int32, rv = some (.int r) ∧ pLat v i r ∧ M1 = M)) 0 0 (xA M sz) := by
  obtain ⟨x, P, L, rfl, hR, hL⟩ := hS
  have hI0 := hG0.1
  have hGb := hI0.1.2
  have hn := hI0.2.1
  have hnow := hI0.2.2.1
  have f0 : M (x 0 0) = some (cHead x v) := hR.1 0 0 (vd0 (by decide))
  refine x_met (maxL := 3) (ret := (some .int)) (by decide) (Nat.le_of_ble_eq_true rfl) ?_
  intro p e s m below meth c ls hsz hF hr hlk hnm hK hZ hw hl
  obtain ⟨hx, hb, hml, hown, hts⟩ := id hF
  have hA : ∀ q, s.heap.size ≤ q → xA M sz q := x_hA hsz
  have hl : lv_has ls 3 [(0, .ref (x 0 0)), (1, .int i)] := hl
  refine lv_aload_n hx hb d_GT_late_0 rfl (lv_at hl 0 rfl) ?_
  refine lv_iload_n hx hb d_GT_late_1 rfl (lv_at hl 1 rfl) ?_
  refine x_callqM (va_runV (As := [.int i]) (rest := []) hF (c_GT_itemOf l D cs M _ x v P o (o.filter (wr v)) hR hn i) (x_cwV 1 hts wd_178 wd_180 wp_2 wd_1 wd_181 rfl rfl (by decide +kernel) ⟨Nat.le_of_ble_eq_true rfl, Nat.le_of_ble_eq_true rfl⟩) (x_preV hK hZ hw f0 rfl) rfl rfl hl.1 rfl (lv_room (Nat.le_of_ble_eq_true rfl)) d_GT_late_2 ⟨Nat.le_of_ble_eq_true rfl, Nat.le_of_ble_eq_true rfl⟩) hw hA (fun q H locs hp hw => ?_)
  rcases hp with ⟨k, rfl, k1, k2, rfl⟩ | ⟨k1, rfl⟩
  ·
    refine lv_astore_n (lv' := [(2, .ref (x 3 k)), (0, .ref (x 0 0)), (1, .int (nI k))]) hx hb d_GT_late_5 rfl hl (by decide) rfl (fun ls hl => ?_)
    refine lv_aload_n hx hb d_GT_late_6 rfl (lv_at hl 0 rfl) ?_
    have fi : M (x 3 k) = some (cItem x v P k) := hR.1 3 _ (vd3 k1 k2)
    refine lv_ifnonnull (tgt := 15) hx hb d_GT_late_7 (by decide) ?_
    refine lv_aload_n hx hb d_GT_late_15 rfl (lv_at hl 0 rfl) ?_
    refine x_get (C := "GateTimes$Item") (T := F_Item) (N := 7) hx hb hts i_Item hown hK hw fi rfl 5 (by decide) (hts _ wd_147) (fun _ h9 => h9) rfl d_GT_late_16 ?_
    exact x_iret hx hb hr hlk rfl hw (⟨_, rfl, Or.inr ⟨k, rfl, k1, k2, rfl⟩, rfl⟩) d_GT_late_19
  ·
    refine lv_astore_nN (lv' := [(2, .null), (0, .ref (x 0 0)), (1, .int i)]) hx hb d_GT_late_5 rfl hl (by decide) rfl (fun ls hl => ?_)
    refine lv_aload_nN hx hb d_GT_late_6 rfl (lv_at hl 0 rfl) ?_
    refine lv_ifnonnullN hx hb d_GT_late_7 ?_
    refine lv_bipush (v := (-101)) hx hb d_GT_late_10 (by decide) ?_
    refine lv_goto (tgt := 19) hx hb d_GT_late_12 (by decide) ?_
    exact x_iret hx hb hr hlk rfl hw (⟨_, rfl, Or.inl ⟨k1, rfl⟩, rfl⟩) d_GT_late_19
set_option maxHeartbeats 4000000 in
set_option maxRecDepth 100000 in
theorem c_GT_count (l : Launch) (D : va_G) (cs : Nat → ClassId) (M : xM) (sz : Nat) (a0 : Nat) (v : gV) (o : List Nat) (hS : clS cs M a0 v o) (hG0 : gAll v o) (b : Int32) : Met l y_GT_count w_GT_count ({ frames := 0, cells := 0, slots := 0, locals := 0 }) (xPc D classes (xtys cs) M sz [.ref a0, .int b]) (xQ D classes M sz (fun rv M1 => ∃ r : Int32, rv = some (.int r) ∧ pCnt v b r ∧ M1 = M)) 0 0 (xA M sz) := by
  obtain ⟨x, P, L, rfl, hR, hL⟩ := hS
  have hI0 := hG0.1
  have hGb := hI0.1.2
  have hn := hI0.2.1
  have hnow := hI0.2.2.1
  have f0 : M (x 0 0) = some (cHead x v) := hR.1 0 0 (vd0 (by decide))
  refine x_met (maxL := 2) (ret := (some .int)) (by decide) (Nat.le_of_ble_eq_true rfl) ?_
  intro p e s m below meth c ls hsz hF hr hlk hnm hK hZ hw hl
  obtain ⟨hx, hb, hml, hown, hts⟩ := id hF
  have hA : ∀ q, s.heap.size ≤ q → xA M sz q := x_hA hsz
  have hl : lv_has ls 2 [(0, .ref (x 0 0)), (1, .int b)] := hl
  have f3 : M (x 0 3) = some (aI (cs 0) (v 12 0 + 1) (fun p => nI (v 11 p))) := hR.1 0 3 (vd0 (by decide))
  refine lv_iload_n hx hb d_GT_count_0 rfl (lv_at hl 1 rfl) ?_
  refine lv_if_lt (tgt := 13) hx hb d_GT_count_1 (by decide) (fun c1 => ?_) (fun c1 => ?_)
  ·
    refine lv_bipush (v := (-101)) hx hb d_GT_count_13 (by decide) ?_
    refine lv_goto (tgt := 24) hx hb d_GT_count_15 (by decide) ?_
    exact x_iret hx hb hr hlk rfl hw (⟨_, rfl, Or.inl ⟨fun ⟨g, j1, j2⟩ => nI_pos (by omega) (j1 ▸ c1), rfl⟩, rfl⟩) d_GT_count_24
  ·
    refine lv_iload_n hx hb d_GT_count_4 rfl (lv_at hl 1 rfl) ?_
    refine lv_aload_n hx hb d_GT_count_5 rfl (lv_at hl 0 rfl) ?_
    refine x_get (C := "GateTimes") (T := F_GT) (N := 8) hx hb hts i_GT hown hK hw f0 rfl 2 (by decide) (hts _ wd_82) (fun _ h9 => h9) rfl d_GT_count_6 ?_
    refine x_alen (v := nI (v 12 0 + 1)) hx hb hK hw f3 0 rfl rfl d_GT_count_9 ?_
    refine lv_icmp_lt (tgt := 18) hx hb d_GT_count_10 (by decide) (fun c10 => ?_) (fun c10 => ?_)
    ·
      obtain ⟨g, hg, rfl⟩ : ∃ g, g < v 12 0 + 1 ∧ b = nI g := by
        rcases pk_ix b (show v 12 0 + 1 < 2 ^ 31 by omega) with z | z | z
        · exact absurd z c1
        · exact absurd c10 (Int32.not_lt.mpr z)
        · exact z
      refine lv_aload_n hx hb d_GT_count_18 rfl (lv_at hl 0 rfl) ?_
      refine x_get (C := "GateTimes") (T := F_GT) (N := 8) hx hb hts i_GT hown hK hw f0 rfl 2 (by decide) (hts _ wd_82) (fun _ h9 => h9) rfl d_GT_count_19 ?_
      refine lv_iload_n hx hb d_GT_count_22 rfl (lv_at hl 1 rfl) ?_
      refine x_ialdN hx hb hK hw f3 0 rfl hg (by omega) d_GT_count_23 ?_
      exact x_iret hx hb hr hlk rfl hw (⟨_, rfl, Or.inr ⟨g, rfl, by omega, rfl⟩, rfl⟩) d_GT_count_24
    ·
      refine lv_bipush (v := (-101)) hx hb d_GT_count_13 (by decide) ?_
      refine lv_goto (tgt := 24) hx hb d_GT_count_15 (by decide) ?_
      exact x_iret hx hb hr hlk rfl hw (⟨_, rfl, Or.inl ⟨fun ⟨g, j1, j2⟩ => c10 (j1 ▸ nI_lt (by omega) (by omega)), rfl⟩, rfl⟩) d_GT_count_24
set_option maxHeartbeats 4000000 in
set_option maxRecDepth 100000 in
theorem c_GT_out (l : Launch) (D : va_G) (cs : Nat → ClassId) (M : xM) (sz : Nat) (a0 : Nat) (v : gV) (o : List Nat) (hS : clS cs M a0 v o) (hG0 : gAll v o) (i wh : Int32) : Met l y_GT_out w_GT_out ({ frames := 1, cells := 0, slots := 0, locals := 21 }) (xPc D classes (xtys cs) M sz [.ref a0, .int i, .int wh]) (xQ D classes M sz (fun rv M1 => ∃ r : Int32, rv = some (.int r) ∧ pOut v o i wh r ∧ M1 = M)) 0 0 (xA M sz) := by
  obtain ⟨x, P, L, rfl, hR, hL⟩ := hS
  have hI0 := hG0.1
  have hGb := hI0.1.2
  have hn := hI0.2.1
  have hnow := hI0.2.2.1
  have f0 : M (x 0 0) = some (cHead x v) := hR.1 0 0 (vd0 (by decide))
  refine x_met (maxL := 4) (ret := (some .int)) (by decide) (Nat.le_of_ble_eq_true rfl) ?_
  intro p e s m below meth c ls hsz hF hr hlk hnm hK hZ hw hl
  obtain ⟨hx, hb, hml, hown, hts⟩ := id hF
  have hA : ∀ q, s.heap.size ≤ q → xA M sz q := x_hA hsz
  have hl : lv_has ls 4 [(0, .ref (x 0 0)), (1, .int i), (2, .int wh)] := hl
  have f6 : M (x 0 6) = some (cRow (x 0 7) o.length) := hR.1 0 6 (vd0 (by decide))
  have f7 : M (x 0 7) = some (aQ (cs 5) 400 (fun k => if k < o.length then some (x 3 (oat o k)) else none)) := hR.1 0 7 (vd0 (by decide))
  have hlen : o.length ≤ 400 := by
    have := came_few hG0.2.1
    have : o.length ≤ o.length := by first | exact Nat.le_refl _ | exact List.length_filter_le _ _
    omega
  refine lv_aload_n hx hb d_GT_out_0 rfl (lv_at hl 0 rfl) ?_
  refine x_get (C := "GateTimes") (T := F_GT) (N := 8) hx hb hts i_GT hown hK hw f0 rfl 4 (by decide) (hts _ wd_84) (fun _ h9 => h9) rfl d_GT_out_1 ?_
  refine lv_iload_n hx hb d_GT_out_4 rfl (lv_at hl 1 rfl) ?_
  refine x_callqM (va_runV (As := [.int i]) (rest := []) hF (c_Row_get l D cs M _ (x 0 6) (x 0 7) o.length _ f6 f7 hlen i) (x_cwV 1 hts wd_119 wd_120 wd_121 wd_2 wd_122 rfl rfl (by decide +kernel) ⟨Nat.le_of_ble_eq_true rfl, Nat.le_of_ble_eq_true rfl⟩) (x_preV hK hZ hw f6 rfl) rfl rfl hl.1 rfl (lv_room (Nat.le_of_ble_eq_true rfl)) d_GT_out_5 ⟨Nat.le_of_ble_eq_true rfl, Nat.le_of_ble_eq_true rfl⟩) hw hA (fun q H locs hp hw => ?_)
  rcases hp with ⟨k, z1, rfl, rfl⟩ | ⟨z1, rfl⟩
  ·
    rw [if_pos z1]
    refine lv_astore_n (lv' := [(3, .ref (x 3 (oat o k))), (0, .ref (x 0 0)), (1, .int (nI k)), (2, .int wh)]) hx hb d_GT_out_8 rfl hl (by decide) rfl (fun ls hl => ?_)
    refine lv_aload_n hx hb d_GT_out_9 rfl (lv_at hl 0 rfl) ?_
    have hm := (hG0.2.1.1 (oat o k)).mp (by first | exact oat_mem z1 | exact (List.mem_filter.mp (oat_mem z1)).1)
    have hit := hI0.2.2.2.2.1 _ hm.1 hm.2.1
    unfold gItem at hit
    obtain ⟨j, hj⟩ : ∃ j, j = oat o k := ⟨_, rfl⟩
    rw [← hj] at hm hit hl ⊢
    have fi : M (x 3 j) = some (cItem x v P j) := hR.1 3 _ (vd3 hm.1 hm.2.1)
    refine lv_ifnonnull (tgt := 15) hx hb d_GT_out_10 (by decide) ?_
    refine lv_iload_n hx hb d_GT_out_15 rfl (lv_at hl 3 rfl) ?_
    by_cases w0 : wh = 0
    ·
      subst w0
      refine lv_tableIn (tgt := 44) hx hb d_GT_out_16 (by decide) (by decide) rfl (by decide) ?_
      refine lv_aload_n hx hb d_GT_out_44 rfl (lv_at hl 0 rfl) ?_
      refine x_get (C := "GateTimes$Item") (T := F_Item) (N := 7) hx hb hts i_Item hown hK hw fi rfl 0 (by decide) (hts _ wd_135) (fun _ h9 => h9) rfl d_GT_out_45 ?_
      exact x_iret hx hb hr hlk rfl hw (⟨_, rfl, Or.inr ⟨k, rfl, z1, by rw [← hj]; rfl⟩, rfl⟩) d_GT_out_48
    ·
      by_cases w1 : wh = 1
      ·
        subst w1
        refine lv_tableIn (tgt := 49) hx hb d_GT_out_16 (by decide) (by decide) rfl (by decide) ?_
        refine lv_aload_n hx hb d_GT_out_49 rfl (lv_at hl 0 rfl) ?_
        refine x_get (C := "GateTimes$Item") (T := F_Item) (N := 7) hx hb hts i_Item hown hK hw fi rfl 4 (by decide) (hts _ wd_145) (fun _ h9 => h9) rfl d_GT_out_50 ?_
        exact x_iret hx hb hr hlk rfl hw (⟨_, rfl, Or.inr ⟨k, rfl, z1, by rw [← hj]; rfl⟩, rfl⟩) d_GT_out_53
      ·
        by_cases w2 : wh = 2
        ·
          subst w2
          refine lv_tableIn (tgt := 54) hx hb d_GT_out_16 (by decide) (by decide) rfl (by decide) ?_
          refine lv_aload_n hx hb d_GT_out_54 rfl (lv_at hl 0 rfl) ?_
          refine lv_aload_n hx hb d_GT_out_55 rfl (lv_at hl 0 rfl) ?_
          refine x_get (C := "GateTimes$Item") (T := F_Item) (N := 7) hx hb hts i_Item hown hK hw fi rfl 4 (by decide) (hts _ wd_145) (fun _ h9 => h9) rfl d_GT_out_56 ?_
          obtain ⟨g, hg⟩ : ∃ g, v 3 j = g + 1 := ⟨v 3 j - 1, by omega⟩
          rw [hg, eN_s]
          refine x_calllM (va_runV (As := [.int (nI g)]) (rest := []) hF (c_Item_frontAt l D cs M _ (x 3 j) (v 0 j) g _ _ fi (by omega)) (x_cwV 1 hts wd_194 wd_195 wd_196 wd_7 wd_197 rfl rfl (by decide +kernel) ⟨Nat.le_of_ble_eq_true rfl, Nat.le_of_ble_eq_true rfl⟩) (x_preV hK hZ hw fi rfl) rfl rfl hl.1 rfl (lv_room (Nat.le_of_ble_eq_true rfl)) d_GT_out_59 ⟨Nat.le_of_ble_eq_true rfl, Nat.le_of_ble_eq_true rfl⟩) hw hA (fun r H locs hp hw => ?_)
          obtain rfl : r = lN (tm v j) := hp.trans (congrArg lN (by unfold tm; omega))
          refine lv_l2i hx hb d_GT_out_62 rfl ?_
          refine lv_topi (fun n62 en62 => ?_)
          obtain rfl : n62 = nI (tm v j) := en62.trans (lN_i _)
          exact x_iret hx hb hr hlk rfl hw (⟨_, rfl, Or.inr ⟨k, rfl, z1, by rw [← hj]; rfl⟩, rfl⟩) d_GT_out_63
        ·
          refine lv_tableOut (tgt := 64) hx hb d_GT_out_16 (sw3 w0 w1 w2) (by decide) ?_
          refine lv_iconst (v := (-1)) hx hb d_GT_out_64 (by decide) ?_
          exact x_iret hx hb hr hlk rfl hw (⟨_, rfl, Or.inr ⟨k, rfl, z1, by rw [if_neg w0, if_neg w1, if_neg w2]⟩, rfl⟩) d_GT_out_65
  ·
    refine lv_astore_nN (lv' := [(3, .null), (0, .ref (x 0 0)), (1, .int i), (2, .int wh)]) hx hb d_GT_out_8 rfl hl (by decide) rfl (fun ls hl => ?_)
    refine lv_aload_nN hx hb d_GT_out_9 rfl (lv_at hl 0 rfl) ?_
    refine lv_ifnonnullN hx hb d_GT_out_10 ?_
    refine lv_iconst (v := (-1)) hx hb d_GT_out_13 (by decide) ?_
    exact x_iret hx hb hr hlk rfl hw (⟨_, rfl, Or.inl ⟨fun ⟨k, y1, y2⟩ => z1 ⟨k, y2, y1⟩, rfl⟩, rfl⟩) d_GT_out_14
set_option maxHeartbeats 4000000 in
set_option maxRecDepth 100000 in
theorem c_GT_verify (l : Launch) (D : va_G) (cs : Nat → ClassId) (M : xM) (sz : Nat) (a0 : Nat) (v : gV) (o : List Nat) (hS : clS cs M a0 v o) (hG0 : gAll v o) (i wh : Int32) : Met l y_GT_verify w_GT_verify ({ frames := 1, cells := 0, slots := 0, locals := 21 }) (xPc D classes (xtys cs) M sz [.ref a0, .int i, .int wh]) (xQ D classes M sz (fun rv M1 => ∃ r : Int32, rv = some (.int r) ∧ pVer v o i wh r ∧ M1 = M)) 0 0 (xA M sz) := by
  obtain ⟨x, P, L, rfl, hR, hL⟩ := hS
  have hI0 := hG0.1
  have hGb := hI0.1.2
  have hn := hI0.2.1
  have hnow := hI0.2.2.1
  have f0 : M (x 0 0) = some (cHead x v) := hR.1 0 0 (vd0 (by decide))
  refine x_met (maxL := 4) (ret := (some .int)) (by decide) (Nat.le_of_ble_eq_true rfl) ?_
  intro p e s m below meth c ls hsz hF hr hlk hnm hK hZ hw hl
  obtain ⟨hx, hb, hml, hown, hts⟩ := id hF
  have hA : ∀ q, s.heap.size ≤ q → xA M sz q := x_hA hsz
  have hl : lv_has ls 4 [(0, .ref (x 0 0)), (1, .int i), (2, .int wh)] := hl
  have f6 : M (x 0 8) = some (cRow (x 0 9) (o.filter (wr v)).length) := hR.1 0 8 (vd0 (by decide))
  have f7 : M (x 0 9) = some (aQ (cs 5) 400 (fun k => if k < (o.filter (wr v)).length then some (x 3 (oat (o.filter (wr v)) k)) else none)) := hR.1 0 9 (vd0 (by decide))
  have hlen : (o.filter (wr v)).length ≤ 400 := by
    have := came_few hG0.2.1
    have : (o.filter (wr v)).length ≤ o.length := by first | exact Nat.le_refl _ | exact List.length_filter_le _ _
    omega
  refine lv_aload_n hx hb d_GT_verify_0 rfl (lv_at hl 0 rfl) ?_
  refine x_get (C := "GateTimes") (T := F_GT) (N := 8) hx hb hts i_GT hown hK hw f0 rfl 5 (by decide) (hts _ wd_85) (fun _ h9 => h9) rfl d_GT_verify_1 ?_
  refine lv_iload_n hx hb d_GT_verify_4 rfl (lv_at hl 1 rfl) ?_
  refine x_callqM (va_runV (As := [.int i]) (rest := []) hF (c_Row_get l D cs M _ (x 0 8) (x 0 9) (o.filter (wr v)).length _ f6 f7 hlen i) (x_cwV 1 hts wd_119 wd_120 wd_121 wd_2 wd_122 rfl rfl (by decide +kernel) ⟨Nat.le_of_ble_eq_true rfl, Nat.le_of_ble_eq_true rfl⟩) (x_preV hK hZ hw f6 rfl) rfl rfl hl.1 rfl (lv_room (Nat.le_of_ble_eq_true rfl)) d_GT_verify_5 ⟨Nat.le_of_ble_eq_true rfl, Nat.le_of_ble_eq_true rfl⟩) hw hA (fun q H locs hp hw => ?_)
  rcases hp with ⟨k, z1, rfl, rfl⟩ | ⟨z1, rfl⟩
  ·
    rw [if_pos z1]
    refine lv_astore_n (lv' := [(3, .ref (x 3 (oat (o.filter (wr v)) k))), (0, .ref (x 0 0)), (1, .int (nI k)), (2, .int wh)]) hx hb d_GT_verify_8 rfl hl (by decide) rfl (fun ls hl => ?_)
    refine lv_aload_n hx hb d_GT_verify_9 rfl (lv_at hl 0 rfl) ?_
    have hm := (hG0.2.1.1 (oat (o.filter (wr v)) k)).mp (by first | exact oat_mem z1 | exact (List.mem_filter.mp (oat_mem z1)).1)
    have hit := hI0.2.2.2.2.1 _ hm.1 hm.2.1
    unfold gItem at hit
    obtain ⟨j, hj⟩ : ∃ j, j = oat (o.filter (wr v)) k := ⟨_, rfl⟩
    rw [← hj] at hm hit hl ⊢
    have fi : M (x 3 j) = some (cItem x v P j) := hR.1 3 _ (vd3 hm.1 hm.2.1)
    refine lv_ifnonnull (tgt := 15) hx hb d_GT_verify_10 (by decide) ?_
    refine lv_iload_n hx hb d_GT_verify_15 rfl (lv_at hl 3 rfl) ?_
    by_cases w0 : wh = 0
    ·
      subst w0
      refine lv_tableIn (tgt := 44) hx hb d_GT_verify_16 (by decide) (by decide) rfl (by decide) ?_
      refine lv_aload_n hx hb d_GT_verify_44 rfl (lv_at hl 0 rfl) ?_
      refine x_get (C := "GateTimes$Item") (T := F_Item) (N := 7) hx hb hts i_Item hown hK hw fi rfl 0 (by decide) (hts _ wd_135) (fun _ h9 => h9) rfl d_GT_verify_45 ?_
      exact x_iret hx hb hr hlk rfl hw (⟨_, rfl, Or.inr ⟨k, rfl, z1, by rw [← hj]; rfl⟩, rfl⟩) d_GT_verify_48
    ·
      by_cases w1 : wh = 1
      ·
        subst w1
        refine lv_tableIn (tgt := 49) hx hb d_GT_verify_16 (by decide) (by decide) rfl (by decide) ?_
        refine lv_aload_n hx hb d_GT_verify_49 rfl (lv_at hl 0 rfl) ?_
        refine x_get (C := "GateTimes$Item") (T := F_Item) (N := 7) hx hb hts i_Item hown hK hw fi rfl 3 (by decide) (hts _ wd_143) (fun _ h9 => h9) rfl d_GT_verify_50 ?_
        exact x_iret hx hb hr hlk rfl hw (⟨_, rfl, Or.inr ⟨k, rfl, z1, by rw [← hj]; rfl⟩, rfl⟩) d_GT_verify_53
      ·
        by_cases w2 : wh = 2
        ·
          subst w2
          refine lv_tableIn (tgt := 54) hx hb d_GT_verify_16 (by decide) (by decide) rfl (by decide) ?_
          refine lv_aload_n hx hb d_GT_verify_54 rfl (lv_at hl 0 rfl) ?_
          refine x_get (C := "GateTimes$Item") (T := F_Item) (N := 7) hx hb hts i_Item hown hK hw fi rfl 4 (by decide) (hts _ wd_145) (fun _ h9 => h9) rfl d_GT_verify_55 ?_
          exact x_iret hx hb hr hlk rfl hw (⟨_, rfl, Or.inr ⟨k, rfl, z1, by rw [← hj]; rfl⟩, rfl⟩) d_GT_verify_58
        ·
          refine lv_tableOut (tgt := 59) hx hb d_GT_verify_16 (sw3 w0 w1 w2) (by decide) ?_
          refine lv_iconst (v := (-1)) hx hb d_GT_verify_59 (by decide) ?_
          exact x_iret hx hb hr hlk rfl hw (⟨_, rfl, Or.inr ⟨k, rfl, z1, by rw [if_neg w0, if_neg w1, if_neg w2]⟩, rfl⟩) d_GT_verify_60
  ·
    refine lv_astore_nN (lv' := [(3, .null), (0, .ref (x 0 0)), (1, .int i), (2, .int wh)]) hx hb d_GT_verify_8 rfl hl (by decide) rfl (fun ls hl => ?_)
    refine lv_aload_nN hx hb d_GT_verify_9 rfl (lv_at hl 0 rfl) ?_
    refine lv_ifnonnullN hx hb d_GT_verify_10 ?_
    refine lv_iconst (v := (-1)) hx hb d_GT_verify_13 (by decide) ?_
    exact x_iret hx hb hr hlk rfl hw (⟨_, rfl, Or.inl ⟨fun ⟨k, y1, y2⟩ => z1 ⟨k, y2, y1⟩, rfl⟩, rfl⟩) d_GT_verify_14
