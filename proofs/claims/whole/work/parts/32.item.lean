set_option maxHeartbeats 4000000 in
set_option maxRecDepth 100000 in
theorem c_GT_item (l : Launch) (D : va_G) (cs : Nat → ClassId) (M : xM) (sz : Nat) (a0 : Nat) (v : gV) (o : List Nat) (hS : clS cs M a0 v o) (hG0 : gAll v o) (at1 len1 : Int64) : Met l y_GT_item w_GT_item ({ frames := 2, cells := 1, slots := 7, locals := 44 }) (xPc D classes (xtys cs) M sz [.ref a0, .long at1, .long len1]) (xQ D classes M sz (fun rv M1 => ∃ r : Int32, rv = some (.int r) ∧ ∃ (v1 : gV) (o1 : List Nat), pItem v at1 len1 r v1 ∧ o1 = o ∧ clS cs M1 a0 v1 o1)) 1 7 (xA M sz) := by
  obtain ⟨x, P, L, rfl, hR, hL⟩ := hS
  have hI0 := hG0.1
  have hGb := hI0.1.2
  have hn := hI0.2.1
  have hnow := hI0.2.2.1
  have f0 : M (x 0 0) = some (cHead x v) := hR.1 0 0 (vd0 (by decide))
  refine x_met (maxL := 6) (ret := (some .int)) (by decide) (Nat.le_of_ble_eq_true rfl) ?_
  intro p e s m below meth c ls hsz hF hr hlk hnm hK hZ hw hl
  obtain ⟨hx, hb, hml, hown, hts⟩ := id hF
  have hA : ∀ q, s.heap.size ≤ q → xA M sz q := x_hA hsz
  have hl : lv_has ls 6 [(0, .ref (x 0 0)), (1, .long at1), (3, .long len1)] := hl
  refine lv_lload_n hx hb d_GT_item_0 rfl (lv_at hl 2 rfl) ?_
  refine lv_lconst (v := 1) hx hb d_GT_item_1 (by decide) ?_
  refine W.lcmp hx hb d_GT_item_2 ?_
  refine lv_if_lt (tgt := 30) hx hb d_GT_item_3 (by decide) (fun c3 => ?_) (fun c3 => ?_)
  ·
    replace c3 := (lg_cmp_lt _ _).mp c3
    refine lv_bipush (v := (-102)) hx hb d_GT_item_30 (by decide) ?_
    refine W.widen (k := 1) (n := 7) (by decide) (by decide) ?_
    exact x_iret hx hb hr hlk rfl hw (⟨_, rfl, v, o, Or.inl ⟨fun z => Int64.not_lt.mpr z.1 c3, rfl, rfl⟩, rfl, ⟨x, P, L, rfl, hR, hL⟩⟩) d_GT_item_32
  ·
    replace c3 := fun z => c3 ((lg_cmp_lt _ _).mpr z)
    refine lv_lload_n hx hb d_GT_item_6 rfl (lv_at hl 2 rfl) ?_
    refine lv_ldc2 (v := 900) hx hb hown (hts _ wd_109) d_GT_item_7 ?_
    refine W.lcmp hx hb d_GT_item_10 ?_
    refine lv_if_gt (tgt := 30) hx hb d_GT_item_11 (by decide) (fun c11 => ?_) (fun c11 => ?_)
    ·
      replace c11 := (lg_cmp_gt _ _).mp c11
      refine lv_bipush (v := (-102)) hx hb d_GT_item_30 (by decide) ?_
      refine W.widen (k := 1) (n := 7) (by decide) (by decide) ?_
      exact x_iret hx hb hr hlk rfl hw (⟨_, rfl, v, o, Or.inl ⟨fun z => Int64.not_lt.mpr z.2.1 c11, rfl, rfl⟩, rfl, ⟨x, P, L, rfl, hR, hL⟩⟩) d_GT_item_32
    ·
      replace c11 := fun z => c11 ((lg_cmp_gt _ _).mpr z)
      refine lv_aload_n hx hb d_GT_item_14 rfl (lv_at hl 0 rfl) ?_
      refine lv_lload_n hx hb d_GT_item_15 rfl (lv_at hl 1 rfl) ?_
      refine x_calliM (va_runV (As := [.long at1]) (rest := []) hF (c_GT_isTimeAhead l D cs M _ x v P o (o.filter (wr v)) hR at1) (x_cwV 1 hts wd_110 wd_112 wp_0 wd_1 wd_113 rfl rfl (by decide +kernel) ⟨Nat.le_of_ble_eq_true rfl, Nat.le_of_ble_eq_true rfl⟩) (x_preV hK hZ hw f0 rfl) rfl rfl hl.1 rfl (lv_room (Nat.le_of_ble_eq_true rfl)) d_GT_item_16 ⟨Nat.le_of_ble_eq_true rfl, Nat.le_of_ble_eq_true rfl⟩) hw hA (fun r H locs hp hw => ?_)
      rcases hp with ⟨rfl, ok⟩ | ⟨rfl, ok⟩
      ·
        refine lv_if_eq (tgt := 30) hx hb d_GT_item_19 (by decide) (fun c19 => False.elim (absurd c19 (by decide))) (fun c19 => ?_)
        refine lv_aload_n hx hb d_GT_item_22 rfl (lv_at hl 0 rfl) ?_
        refine lv_lload_n hx hb d_GT_item_23 rfl (lv_at hl 1 rfl) ?_
        refine x_calliM (va_runV (As := [.long at1]) (rest := []) hF (c_GT_isBehindLastItem l D cs M _ x v P o (o.filter (wr v)) hR hn at1) (x_cwV 1 hts wd_115 wd_117 wp_1 wd_1 wd_118 rfl rfl (by decide +kernel) ⟨Nat.le_of_ble_eq_true rfl, Nat.le_of_ble_eq_true rfl⟩) (x_preV hK hZ hw f0 rfl) rfl rfl hl.1 rfl (lv_room (Nat.le_of_ble_eq_true rfl)) d_GT_item_24 ⟨Nat.le_of_ble_eq_true rfl, Nat.le_of_ble_eq_true rfl⟩) hw hA (fun r H locs hp hw => ?_)
        rcases hp with ⟨rfl, ok2⟩ | ⟨rfl, ok2⟩
        ·
          refine lv_if_ne (tgt := 33) hx hb d_GT_item_27 (by decide) (fun c27 => ?_) (fun c27 => False.elim (absurd c27 (by decide)))
          have hok : okI v at1 len1 := ⟨Int64.not_lt.mp c3, Int64.not_lt.mp c11, ok, ok2⟩
          obtain ⟨a, rfl, a1, a2⟩ := okT_of ok hnow
          obtain ⟨l1, rfl, l2, l3⟩ := l_of (a := 1) (b := 900) hok.1 hok.2.1 (by decide) (by decide)
          have f4 : M (x 0 4) = some (cRow (x 0 5) (v 12 1)) := hR.1 0 4 (vd0 (by decide))
          have f5 : M (x 0 5) = some (aQ (cs 5) 400 (fun k => if k < v 12 1 then some (x 3 (k + 1)) else none)) := hR.1 0 5 (vd0 (by decide))
          refine lv_aload_n hx hb d_GT_item_33 rfl (lv_at hl 0 rfl) ?_
          refine x_get (C := "GateTimes") (T := F_GT) (N := 8) hx hb hts i_GT hown hK hw f0 rfl 3 (by decide) (hts _ wd_83) (fun _ h9 => h9) rfl d_GT_item_34 ?_
          refine x_calliM (va_runV (As := []) (rest := []) hF (c_Row_isFull l D cs M _ (x 0 4) (x 0 5) (v 12 1) _ f4 f5 hn) (x_cwV 0 hts wd_124 wd_125 wd_126 wd_2 wd_127 rfl rfl (by decide +kernel) ⟨Nat.le_of_ble_eq_true rfl, Nat.le_of_ble_eq_true rfl⟩) (x_preV hK hZ hw f4 rfl) rfl rfl hl.1 rfl (lv_room (Nat.le_of_ble_eq_true rfl)) d_GT_item_37 ⟨Nat.le_of_ble_eq_true rfl, Nat.le_of_ble_eq_true rfl⟩) hw hA (fun r H locs hp hw => ?_)
          by_cases hf : v 12 1 < 400
          ·
            rw [if_pos hf] at hp
            subst hp
            refine lv_if_eq (tgt := 46) hx hb d_GT_item_40 (by decide) (fun c40 => ?_) (fun c40 => False.elim (c40 rfl))
            refine x_newO (C := "GateTimes$Item") (T := F_Item) (N := 7) (ci := kItem) (fs := [.int 0, .long 0, .long 0, .int 0, .int 0, .int 0, .null]) hx hb hts i_Item t_Item t_Item_ok hown (hts _ wd_128) (hts _ wd_129) (hts _ wd_7) hK hw hA rfl (fun j hj => by rcases (show j = 0 ∨ j = 1 ∨ j = 2 ∨ j = 3 ∨ j = 4 ∨ j = 5 ∨ j = 6 by omega) with rfl | rfl | rfl | rfl | rfl | rfl | rfl <;> rfl) (Nat.le_of_ble_eq_true rfl) (Nat.le_of_ble_eq_true rfl) d_GT_item_46 (fun q M1 H eq eM1 hnq hzq hw => ?_)
            have nq : ∀ c d, vd v c d → x c d ≠ q := fun c d z e9 => by
              have := hR.1 c d z
              rw [e9, hnq] at this
              cases this
            have f0 : M1 (x 0 0) = some (cHead x v) := x_keep eM1 (nq 0 0 (vd0 (by decide))) f0
            have f4 : M1 (x 0 4) = some (cRow (x 0 5) (v 12 1)) := x_keep eM1 (nq 0 4 (vd0 (by decide))) f4
            have f5 : M1 (x 0 5) = some (aQ (cs 5) 400 (fun k => if k < v 12 1 then some (x 3 (k + 1)) else none)) := x_keep eM1 (nq 0 5 (vd0 (by decide))) f5
            have fq : M1 q = some (.inr (kItem, [.int 0, .long 0, .long 0, .int 0, .int 0, .int 0, .null])) := x_up_self eM1
            refine lv_dup hx hb d_GT_item_49 rfl ?_
            refine lv_aload_n hx hb d_GT_item_50 rfl (lv_at hl 0 rfl) ?_
            refine x_get (C := "GateTimes") (T := F_GT) (N := 8) hx hb hts i_GT hown hK hw f0 rfl 3 (by decide) (hts _ wd_83) (fun _ h9 => h9) rfl d_GT_item_51 ?_
            refine x_get (C := "GateTimes$Row") (T := F_Row) (N := 2) hx hb hts i_Row hown hK hw f4 rfl 1 (by decide) (hts _ wd_26) (fun _ h9 => h9) rfl d_GT_item_54 ?_
            refine lv_iconst (v := 1) hx hb d_GT_item_57 (by decide) ?_
            refine lv_iadd hx hb d_GT_item_58 ?_
            refine lv_topi (fun n58 en58 => ?_)
            obtain rfl : n58 = nI (v 12 1 + 1) := en58.trans (nI_1 _)
            refine lv_lload_n hx hb d_GT_item_59 rfl (lv_at hl 1 rfl) ?_
            refine lv_lload_n hx hb d_GT_item_60 rfl (lv_at hl 2 rfl) ?_
            refine x_callv (va_runI (b := q) (As := [.int (nI (v 12 1 + 1)), .long (lN a), .long (lN l1)]) (rest := [.ref q]) hF (c_Item_init l D cs M1 _ q (nI (v 12 1 + 1)) (lN a) (lN l1) fq) (cwI 3 hts (x_ws wd_132) rfl rfl rfl (hts _ wd_7) (hts _ wd_130) (hts _ wd_131) rfl (by decide +kernel) ⟨Nat.le_of_ble_eq_true rfl, Nat.le_of_ble_eq_true rfl⟩) (x_preS hK hZ hw) rfl rfl hl.1 rfl (lv_room (Nat.le_of_ble_eq_true rfl)) d_GT_item_61 ⟨Nat.le_of_ble_eq_true rfl, Nat.le_of_ble_eq_true rfl⟩) hw hA (fun M2 H locs hp hw => ?_)
            have eM2 := x_up2 eM1 hp
            have fq : M2 q = some (.inr (kItem, [.int (nI (v 12 1 + 1)), .long (lN a), .long (lN l1), .int (-1), .int (-1), .int 0, .null])) := x_up_self hp
            have f0 : M2 (x 0 0) = some (cHead x v) := x_keep hp (nq 0 0 (vd0 (by decide))) f0
            have f4 : M2 (x 0 4) = some (cRow (x 0 5) (v 12 1)) := x_keep hp (nq 0 4 (vd0 (by decide))) f4
            have f5 : M2 (x 0 5) = some (aQ (cs 5) 400 (fun k => if k < v 12 1 then some (x 3 (k + 1)) else none)) := x_keep hp (nq 0 5 (vd0 (by decide))) f5
            refine lv_astore (lv' := [(5, .ref q), (0, .ref (x 0 0)), (1, .long (lN a)), (3, .long (lN l1))]) hx hb d_GT_item_64 hl (by decide) rfl (fun ls hl => ?_)
            refine lv_aload_n hx hb d_GT_item_66 rfl (lv_at hl 1 rfl) ?_
            refine x_get (C := "GateTimes") (T := F_GT) (N := 8) hx hb hts i_GT hown hK hw f0 rfl 3 (by decide) (hts _ wd_83) (fun _ h9 => h9) rfl d_GT_item_67 ?_
            refine lv_aload hx hb d_GT_item_70 (lv_at hl 0 rfl) ?_
            refine x_callv (va_runV (As := [.ref q]) (rest := []) hF (c_Row_add l D cs M2 _ (x 0 4) (x 0 5) (v 12 1) q _ _ f4 f5 fq hf) (x_cwV 1 hts wd_165 wd_166 wd_167 wd_2 wd_168 rfl rfl (by decide +kernel) ⟨Nat.le_of_ble_eq_true rfl, Nat.le_of_ble_eq_true rfl⟩) (x_preV hK hZ hw f4 rfl) rfl rfl hl.1 rfl (lv_room (Nat.le_of_ble_eq_true rfl)) d_GT_item_72 ⟨Nat.le_of_ble_eq_true rfl, Nat.le_of_ble_eq_true rfl⟩) hw hA (fun M3 H locs hp hw => ?_)
            have hPb := Lk_P hI0 hL
            have hP2 : P 2 (v 12 1 + 1) = 0 := by
              rcases hL.2 (v 12 1 + 1) with z | z
              · omega
              · exact z
            have hor : ∀ j, j ∈ o → j ≤ v 12 1 := fun j hj => ((hG0.2.1.1 j).mp hj).2.1
            have hR3 := cR_new (a := a) (l := l1) hR hI0 hPb hP2 hor (fun j hj => hor j (List.mem_filter.mp hj).1) hnq eM2 hp
            obtain ⟨x1, hx1⟩ : ∃ x1, x1 = up2 x 3 (v 12 1 + 1) q := ⟨_, rfl⟩
            rw [← hx1] at hR3
            have hxq : q = x1 3 (v 12 1 + 1) := by rw [hx1, up2_self]
            have hx0 : ∀ b, x 0 b = x1 0 b := fun b => by rw [hx1, up2_k _ _ _ _ (by decide)]
            obtain ⟨v1, hv1⟩ : ∃ v1, v1 = addI v a l1 := ⟨_, rfl⟩
            rw [← hv1] at hR3
            have e0 : v1 12 0 = v 12 0 := by rw [hv1]; exact addI_k v a l1 (by decide) (by decide) (by decide)
            have e1 : v1 12 1 = v 12 1 + 1 := by rw [hv1]; exact addI_n v a l1
            rw [hxq, hx0] at hl
            have f0 : M3 (x1 0 0) = some (cHead x1 v1) := hR3.1 0 0 (vd0 (by decide))
            have f2 : M3 (x1 0 2) = some (aQ (cs 4) (v1 12 0 + 1) (fun p => if p ≤ v1 12 0 then some (x1 2 p) else none)) := hR3.1 0 2 (vd0 (by decide))
            have fl : M3 (x1 2 0) = some (cLine x1 P 0) := hR3.1 2 0 (vd2 (Nat.zero_le _))
            refine lv_aload_n hx hb d_GT_item_75 rfl (lv_at hl 1 rfl) ?_
            refine x_get (C := "GateTimes") (T := F_GT) (N := 8) hx hb hts i_GT hown hK hw f0 rfl 1 (by decide) (hts _ wd_81) (fun _ h9 => h9) rfl d_GT_item_76 ?_
            refine lv_iconst (v := 0) hx hb d_GT_item_79 (by decide) ?_
            rw [← nI_0]
            refine x_aldqN hx hb hK hw f2 4 rfl (Nat.succ_pos _) (by omega) d_GT_item_80 ?_
            rw [if_pos (Nat.zero_le _)]
            refine lv_aload hx hb d_GT_item_81 (lv_at hl 0 rfl) ?_
            refine x_callv (va_runV (As := [.ref (x1 3 (v 12 1 + 1))]) (rest := []) hF (c_Line_join l D cs M3 _ x1 v1 P o (o.filter (wr v)) 0 (v 12 1 + 1) hR3 (Nat.zero_le _) (by omega) (Or.inr (by have := (hPb.1 0 (Nat.zero_le _)).2; omega))) (x_cwV 1 hts wd_170 wd_171 wd_172 wd_5 wd_173 rfl rfl (by decide +kernel) ⟨Nat.le_of_ble_eq_true rfl, Nat.le_of_ble_eq_true rfl⟩) (x_preV hK hZ hw fl rfl) rfl rfl hl.1 rfl (lv_room (Nat.le_of_ble_eq_true rfl)) d_GT_item_83 ⟨Nat.le_of_ble_eq_true rfl, Nat.le_of_ble_eq_true rfl⟩) hw hA (fun M4 H locs hp hw => ?_)
            have fi : M4 (x1 3 (v 12 1 + 1)) = some (cItem x1 v1 (jnP P 0 (v 12 1 + 1)) (v 12 1 + 1)) := hp.1 3 _ (vd3 (by omega) (by omega))
            refine lv_aload hx hb d_GT_item_86 (lv_at hl 0 rfl) ?_
            refine x_get (C := "GateTimes$Item") (T := F_Item) (N := 7) hx hb hts i_Item hown hK hw fi rfl 0 (by decide) (hts _ wd_135) (fun _ h9 => h9) rfl d_GT_item_88 ?_
            have e2 : ∀ i, v1 2 i = v 2 i := fun i => by rw [hv1]; exact addI_k v a l1 (by decide) (by decide) (fun z => absurd z (by decide))
            have e3 : ∀ i, v1 3 i = v 3 i := fun i => by rw [hv1]; exact addI_k v a l1 (by decide) (by decide) (fun z => absurd z (by decide))
            have hcl : clS cs M4 (x 0 0) v1 o := ⟨x1, _, _, hx0 0, by rw [wr_cong e2 e3]; exact hp, by rw [hv1]; exact Lk_add hI0 hL⟩
            have hbb : v 12 1 = 0 ∨ v 0 (v 12 1) + v 1 (v 12 1) + 50 ≤ a := by
              rcases Nat.eq_zero_or_pos (v 12 1) with z | z
              · exact Or.inl z
              · have hit := hI0.2.2.2.2.1 (v 12 1) z (Nat.le_refl _)
                unfold gItem at hit
                exact ok2.imp id (fun y => (lN_le (by omega) (by omega)).mp y)
            exact x_iret hx hb hr hlk rfl hw (⟨_, rfl, v1, o, Or.inr (Or.inr ⟨hok, hf, a, l1, rfl, rfl, a1, a2, l2, l3, hbb, rfl, hv1⟩), rfl, hcl⟩) d_GT_item_91
          ·
            rw [if_neg hf] at hp
            subst hp
            refine lv_if_eq (tgt := 46) hx hb d_GT_item_40 (by decide) (fun c40 => False.elim (absurd c40 (by decide))) (fun c40 => ?_)
            refine lv_bipush (v := (-104)) hx hb d_GT_item_43 (by decide) ?_
            refine W.widen (k := 1) (n := 7) (by decide) (by decide) ?_
            exact x_iret hx hb hr hlk rfl hw (⟨_, rfl, v, o, Or.inr (Or.inl ⟨hok, by omega, rfl, rfl⟩), rfl, ⟨x, P, L, rfl, hR, hL⟩⟩) d_GT_item_45
        ·
          refine lv_if_ne (tgt := 33) hx hb d_GT_item_27 (by decide) (fun c27 => False.elim (c27 rfl)) (fun c27 => ?_)
          refine lv_bipush (v := (-102)) hx hb d_GT_item_30 (by decide) ?_
          refine W.widen (k := 1) (n := 7) (by decide) (by decide) ?_
          exact x_iret hx hb hr hlk rfl hw (⟨_, rfl, v, o, Or.inl ⟨fun z => ok2 z.2.2.2, rfl, rfl⟩, rfl, ⟨x, P, L, rfl, hR, hL⟩⟩) d_GT_item_32
      ·
        refine lv_if_eq (tgt := 30) hx hb d_GT_item_19 (by decide) (fun c19 => ?_) (fun c19 => False.elim (c19 rfl))
        refine lv_bipush (v := (-102)) hx hb d_GT_item_30 (by decide) ?_
        refine W.widen (k := 1) (n := 7) (by decide) (by decide) ?_
        exact x_iret hx hb hr hlk rfl hw (⟨_, rfl, v, o, Or.inl ⟨fun z => ok z.2.2.1, rfl, rfl⟩, rfl, ⟨x, P, L, rfl, hR, hL⟩⟩) d_GT_item_32
