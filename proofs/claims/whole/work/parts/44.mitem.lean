set_option maxHeartbeats 4000000 in
set_option maxRecDepth 100000 in
theorem c_Mo_item (l : Launch) (D : va_G) (cs : Nat → ClassId) (M : xM) (sz : Nat) (m0 : Nat) (v : gV) (o : List Nat) (hm : mR cs M m0 v o) (hG0 : gAll v o) (at1 len1 : Int64) : Met l y_Mo_item w_Mo_item ({ frames := 1, cells := 0, slots := 0, locals := 25 }) (xPc D classes (xtys cs) M sz [.ref m0, .long at1, .long len1]) (xQ D classes M sz (fun rv M1 => ∃ r : Int32, rv = some (.int r) ∧ ∃ (v1 : gV) (o1 : List Nat), pItem v at1 len1 r v1 ∧ o1 = o ∧ mR cs M1 m0 v1 o1)) 0 0 (xA M sz) := by
  have hI0 := hG0.1
  have hGb := hI0.1.2
  have hG1 := hI0.1.1
  have hn := hI0.2.1
  have hnow := hI0.2.2.1
  have z0 : M m0 = some (mHead m0 v o) := hm 0 (by decide)
  refine x_met (maxL := 6) (ret := (some .int)) (by decide) (Nat.le_of_ble_eq_true rfl) ?_
  intro p e s m below meth c ls hsz hF hr hlk hnm hK hZ hw hl
  obtain ⟨hx, hb, hml, hown, hts⟩ := id hF
  have hA : ∀ q, s.heap.size ≤ q → xA M sz q := x_hA hsz
  have hl : lv_has ls 6 [(0, .ref m0), (1, .long at1), (3, .long len1)] := hl
  refine lv_aload_n hx hb d_Mo_item_0 rfl (lv_at hl 0 rfl) ?_
  refine lv_iconst (v := 0) hx hb d_Mo_item_1 (by decide) ?_
  refine x_put (C := "GateTimesModel") (T := F_Mo) (N := 21) (ty := .int) hx hb hts i_Mo t_Mo t_Mo_ok n_Mo hown hK hw z0 rfl 0 (by decide) (hts _ wd_259) (fun _ h9 => h9) rfl (by decide +kernel) rfl rfl (Nat.le_of_ble_eq_true rfl) d_Mo_item_2 (fun M1 H locs eM1 hw => ?_)
  rw [x_up_id (e := mHead m0 v o) z0 eM1] at hw
  have g1 : M (m0 + 1) = some (aL (cs 1) 401 (fun j => lN (v 0 j))) := hm 1 (by decide)
  have g2 : M (m0 + 2) = some (aL (cs 1) 401 (fun j => lN (v 1 j))) := hm 2 (by decide)
  have hn4 : v 12 1 < 401 := by omega
  obtain ⟨nr, hnr⟩ : ∃ nr : Prop, nr = (0 < v 12 1 ∧ at1 - lN (v 0 (v 12 1)) - lN (v 1 (v 12 1)) < 50) := ⟨_, rfl⟩
  refine x_cut (α := Int32) 45 (fun b => (b = 1 ∧ nr) ∨ (b = 0 ∧ ¬ nr)) (fun b => [.int b]) (fun b hJ => ?_) (fun J45 => ?_)
  ·
    refine lv_istore (lv' := [(5, .int b), (0, .ref m0), (1, .long at1), (3, .long len1)]) hx hb d_Mo_item_45 hl (by decide) rfl (fun ls hl => ?_)
    refine lv_lload_n hx hb d_Mo_item_47 rfl (lv_at hl 3 rfl) ?_
    refine lv_lconst (v := 1) hx hb d_Mo_item_48 (by decide) ?_
    refine lv_ldc2 (v := 900) hx hb hown (hts _ wd_330) d_Mo_item_49 ?_
    refine x_calliM (va_runS (As := [.long len1, .long 1, .long 900]) (rest := []) hF (c_Mo_isIn l D cs M _ len1 1 900) (x_cwS 3 hts wd_331 wd_332 wd_6 wd_333 rfl rfl (by decide +kernel) ⟨Nat.le_of_ble_eq_true rfl, Nat.le_of_ble_eq_true rfl⟩) (x_preS hK hZ hw) rfl rfl hl.1 rfl (lv_room (Nat.le_of_ble_eq_true rfl)) d_Mo_item_52 ⟨Nat.le_of_ble_eq_true rfl, Nat.le_of_ble_eq_true rfl⟩) hw hA (fun r H locs hp hw => ?_)
    rcases hp with ⟨rfl, ok⟩ | ⟨rfl, ok⟩
    ·
      refine lv_if_eq (tgt := 77) hx hb d_Mo_item_55 (by decide) (fun c55 => False.elim (absurd c55 (by decide))) (fun c55 => ?_)
      refine lv_lload_n hx hb d_Mo_item_58 rfl (lv_at hl 2 rfl) ?_
      refine lv_aload_n hx hb d_Mo_item_59 rfl (lv_at hl 1 rfl) ?_
      refine x_get (C := "GateTimesModel") (T := F_Mo) (N := 21) hx hb hts i_Mo hown hK hw z0 rfl 17 (by decide) (hts _ wd_276) (fun _ h9 => h9) rfl d_Mo_item_60 ?_
      refine lv_ldc2 (v := 1000000000) hx hb hown (hts _ wd_334) d_Mo_item_63 ?_
      refine x_calliM (va_runS (As := [.long at1, .long (lN (v 12 2)), .long 1000000000]) (rest := []) hF (c_Mo_isIn l D cs M _ at1 (lN (v 12 2)) 1000000000) (x_cwS 3 hts wd_331 wd_332 wd_6 wd_333 rfl rfl (by decide +kernel) ⟨Nat.le_of_ble_eq_true rfl, Nat.le_of_ble_eq_true rfl⟩) (x_preS hK hZ hw) rfl rfl hl.1 rfl (lv_room (Nat.le_of_ble_eq_true rfl)) d_Mo_item_66 ⟨Nat.le_of_ble_eq_true rfl, Nat.le_of_ble_eq_true rfl⟩) hw hA (fun r H locs hp hw => ?_)
      rcases hp with ⟨rfl, ok2⟩ | ⟨rfl, ok2⟩
      ·
        refine lv_if_eq (tgt := 77) hx hb d_Mo_item_69 (by decide) (fun c69 => False.elim (absurd c69 (by decide))) (fun c69 => ?_)
        obtain ⟨a, rfl, a1, a2⟩ := okT_of ok2 hnow
        obtain ⟨l1, rfl, l2, l3⟩ := l_of (a := 1) (b := 900) ok.1 ok.2 (by decide) (by decide)
        have hbd : 0 < v 12 1 → v 0 (v 12 1) ≤ 1000000000 ∧ v 1 (v 12 1) ≤ 900 := fun z => by
          have := hI0.2.2.2.2.1 (v 12 1) z (Nat.le_refl _)
          unfold gItem at this
          omega
        have hnr2 : nr ↔ (0 < v 12 1 ∧ a < v 0 (v 12 1) + v 1 (v 12 1) + 50) := by
          rw [hnr]
          constructor
          · rintro ⟨z1, z2⟩
            have := hbd z1
            exact ⟨z1, (l_near (by omega) (by omega) (by omega)).mp z2⟩
          · rintro ⟨z1, z2⟩
            have := hbd z1
            exact ⟨z1, (l_near (by omega) (by omega) (by omega)).mpr z2⟩
        refine lv_iload hx hb d_Mo_item_72 (lv_at hl 0 rfl) ?_
        rcases hJ with ⟨rfl, hnb⟩ | ⟨rfl, hnb⟩
        ·
          refine lv_if_eq (tgt := 80) hx hb d_Mo_item_74 (by decide) (fun c74 => False.elim (absurd c74 (by decide))) (fun c74 => ?_)
          refine lv_bipush (v := (-102)) hx hb d_Mo_item_77 (by decide) ?_
          exact x_iret hx hb hr hlk rfl hw (⟨_, rfl, v, o, Or.inl ⟨fun z => z.2.2.2.elim (fun x => absurd (hnr2.mp hnb).1 (by omega)) (fun x => absurd ((lN_le (by have := hbd (hnr2.mp hnb).1; omega) (by omega)).mp x) (by have := hnr2.mp hnb; omega)), rfl, rfl⟩, rfl, hm⟩) d_Mo_item_79
        ·
          refine lv_if_eq (tgt := 80) hx hb d_Mo_item_74 (by decide) (fun c74 => ?_) (fun c74 => False.elim (c74 rfl))
          have hbb : v 12 1 = 0 ∨ v 0 (v 12 1) + v 1 (v 12 1) + 50 ≤ a := by
            rcases Nat.eq_zero_or_pos (v 12 1) with z | z
            · exact Or.inl z
            · exact Or.inr (Nat.le_of_not_lt (fun y => hnb (hnr2.mpr ⟨z, y⟩)))
          have hok : okI v (lN a) (lN l1) := ⟨ok.1, ok.2, ok2, hbb.imp id (fun y => (lN_le (by omega) (by omega)).mpr y)⟩
          refine lv_aload_n hx hb d_Mo_item_80 rfl (lv_at hl 1 rfl) ?_
          refine x_get (C := "GateTimesModel") (T := F_Mo) (N := 21) hx hb hts i_Mo hown hK hw z0 rfl 2 (by decide) (hts _ wd_261) (fun _ h9 => h9) rfl d_Mo_item_81 ?_
          refine lv_sipush (v := 400) hx hb d_Mo_item_84 (by decide) ?_
          refine lv_icmp_ne (tgt := 93) hx hb d_Mo_item_87 (by decide) (fun c87 => ?_) (fun c87 => ?_)
          ·
            have hf : v 12 1 < 400 := by
              have : v 12 1 ≠ 400 := fun z => c87 (by rw [z]; rfl)
              omega
            have hn5 : v 12 1 + 1 < 401 := by omega
            have zr := hI0.2.2.2.2.2.2.2
            refine lv_aload_n hx hb d_Mo_item_93 rfl (lv_at hl 1 rfl) ?_
            refine lv_dup hx hb d_Mo_item_94 rfl ?_
            refine x_get (C := "GateTimesModel") (T := F_Mo) (N := 21) hx hb hts i_Mo hown hK hw z0 rfl 2 (by decide) (hts _ wd_261) (fun _ h9 => h9) rfl d_Mo_item_95 ?_
            refine lv_iconst (v := 1) hx hb d_Mo_item_98 (by decide) ?_
            refine lv_iadd hx hb d_Mo_item_99 ?_
            refine lv_topi (fun n99 en99 => ?_)
            obtain rfl : n99 = nI (v 12 1 + 1) := en99.trans (nI_1 _)
            refine x_put (C := "GateTimesModel") (T := F_Mo) (N := 21) (ty := .int) hx hb hts i_Mo t_Mo t_Mo_ok n_Mo hown hK hw z0 rfl 2 (by decide) (hts _ wd_261) (fun _ h9 => h9) rfl (by decide +kernel) rfl rfl (Nat.le_of_ble_eq_true rfl) d_Mo_item_100 (fun M1 H locs eM1 hw => ?_)
            have x1 := mX_set (M1 := M1) (k := 0) (e := mHead m0 (addI v a l1) o) (mX_of hm) (by rw [eM1, mHead_add]; rfl)
            have z0 : M1 m0 = some (mHead m0 (addI v a l1) o) := x1 0 (by decide)
            rw [mHead_add] at z0
            have g1 : M1 (m0 + 1) = some (aL (cs 1) 401 (fun j => lN (v 0 j))) := x1 1 (by decide)
            refine lv_aload_n hx hb d_Mo_item_103 rfl (lv_at hl 1 rfl) ?_
            refine x_get (C := "GateTimesModel") (T := F_Mo) (N := 21) hx hb hts i_Mo hown hK hw z0 rfl 3 (by decide) (hts _ wd_262) (fun _ h9 => h9) rfl d_Mo_item_104 ?_
            refine lv_aload_n hx hb d_Mo_item_107 rfl (lv_at hl 1 rfl) ?_
            refine x_get (C := "GateTimesModel") (T := F_Mo) (N := 21) hx hb hts i_Mo hown hK hw z0 rfl 2 (by decide) (hts _ wd_261) (fun _ h9 => h9) rfl d_Mo_item_108 ?_
            refine lv_lload_n hx hb d_Mo_item_111 rfl (lv_at hl 2 rfl) ?_
            refine x_lastN hx hb hK hw g1 1 rfl hn5 (by decide) d_Mo_item_112 (fun M2 H locs eM2 hw => ?_)
            rw [ad_0 (l := l1)] at eM2
            have x2 := mX_set x1 eM2
            have z0 : M2 m0 = some (mHead m0 (addI v a l1) o) := x2 0 (by decide)
            rw [mHead_add] at z0
            have g2 : M2 (m0 + 2) = some (aL (cs 1) 401 (fun j => lN (v 1 j))) := x2 2 (by decide)
            refine lv_aload_n hx hb d_Mo_item_113 rfl (lv_at hl 1 rfl) ?_
            refine x_get (C := "GateTimesModel") (T := F_Mo) (N := 21) hx hb hts i_Mo hown hK hw z0 rfl 4 (by decide) (hts _ wd_263) (fun _ h9 => h9) rfl d_Mo_item_114 ?_
            refine lv_aload_n hx hb d_Mo_item_117 rfl (lv_at hl 1 rfl) ?_
            refine x_get (C := "GateTimesModel") (T := F_Mo) (N := 21) hx hb hts i_Mo hown hK hw z0 rfl 2 (by decide) (hts _ wd_261) (fun _ h9 => h9) rfl d_Mo_item_118 ?_
            refine lv_lload_n hx hb d_Mo_item_121 rfl (lv_at hl 3 rfl) ?_
            refine x_lastN hx hb hK hw g2 1 rfl hn5 (by decide) d_Mo_item_122 (fun M3 H locs eM3 hw => ?_)
            rw [ad_1 (a := a)] at eM3
            have x3 := mX_set x2 eM3
            have z0 : M3 m0 = some (mHead m0 (addI v a l1) o) := x3 0 (by decide)
            rw [mHead_add] at z0
            have g3 : M3 (m0 + 3) = some (aI (cs 0) 401 (fun j => if j = 0 ∨ v 12 1 < j then 0 else eN (v 2 j))) := x3 3 (by decide)
            refine lv_aload_n hx hb d_Mo_item_123 rfl (lv_at hl 1 rfl) ?_
            refine x_get (C := "GateTimesModel") (T := F_Mo) (N := 21) hx hb hts i_Mo hown hK hw z0 rfl 5 (by decide) (hts _ wd_264) (fun _ h9 => h9) rfl d_Mo_item_124 ?_
            refine lv_aload_n hx hb d_Mo_item_127 rfl (lv_at hl 1 rfl) ?_
            refine x_get (C := "GateTimesModel") (T := F_Mo) (N := 21) hx hb hts i_Mo hown hK hw z0 rfl 2 (by decide) (hts _ wd_261) (fun _ h9 => h9) rfl d_Mo_item_128 ?_
            refine lv_iconst (v := (-1)) hx hb d_Mo_item_131 (by decide) ?_
            refine x_iastN hx hb hK hw g3 0 rfl hn5 (by decide) d_Mo_item_132 (fun M4 H locs eM4 hw => ?_)
            rw [ad_e (a := a) (l := l1) (c := 2) (Or.inl rfl) (zr 2 _ (by decide) (by omega))] at eM4
            have x4 := mX_set x3 eM4
            have z0 : M4 m0 = some (mHead m0 (addI v a l1) o) := x4 0 (by decide)
            rw [mHead_add] at z0
            have g4 : M4 (m0 + 4) = some (aI (cs 0) 401 (fun j => nI (v 4 j))) := x4 4 (by decide)
            refine lv_aload_n hx hb d_Mo_item_133 rfl (lv_at hl 1 rfl) ?_
            refine x_get (C := "GateTimesModel") (T := F_Mo) (N := 21) hx hb hts i_Mo hown hK hw z0 rfl 6 (by decide) (hts _ wd_265) (fun _ h9 => h9) rfl d_Mo_item_134 ?_
            refine lv_aload_n hx hb d_Mo_item_137 rfl (lv_at hl 1 rfl) ?_
            refine x_get (C := "GateTimesModel") (T := F_Mo) (N := 21) hx hb hts i_Mo hown hK hw z0 rfl 2 (by decide) (hts _ wd_261) (fun _ h9 => h9) rfl d_Mo_item_138 ?_
            refine lv_iconst (v := 0) hx hb d_Mo_item_141 (by decide) ?_
            refine x_iastN hx hb hK hw g4 0 rfl hn5 (by decide) d_Mo_item_142 (fun M5 H locs eM5 hw => ?_)
            rw [ad_4 (a := a) (l := l1) (zr 4 _ (by decide) (by omega))] at eM5
            have x5 := mX_set x4 eM5
            have z0 : M5 m0 = some (mHead m0 (addI v a l1) o) := x5 0 (by decide)
            rw [mHead_add] at z0
            have g5 : M5 (m0 + 5) = some (aI (cs 0) 401 (fun j => if j = 0 ∨ v 12 1 < j then 0 else eN (v 3 j))) := x5 5 (by decide)
            refine lv_aload_n hx hb d_Mo_item_143 rfl (lv_at hl 1 rfl) ?_
            refine x_get (C := "GateTimesModel") (T := F_Mo) (N := 21) hx hb hts i_Mo hown hK hw z0 rfl 7 (by decide) (hts _ wd_266) (fun _ h9 => h9) rfl d_Mo_item_144 ?_
            refine lv_aload_n hx hb d_Mo_item_147 rfl (lv_at hl 1 rfl) ?_
            refine x_get (C := "GateTimesModel") (T := F_Mo) (N := 21) hx hb hts i_Mo hown hK hw z0 rfl 2 (by decide) (hts _ wd_261) (fun _ h9 => h9) rfl d_Mo_item_148 ?_
            refine lv_iconst (v := (-1)) hx hb d_Mo_item_151 (by decide) ?_
            refine x_iastN hx hb hK hw g5 0 rfl hn5 (by decide) d_Mo_item_152 (fun M6 H locs eM6 hw => ?_)
            rw [ad_e (a := a) (l := l1) (c := 3) (Or.inr rfl) (zr 3 _ (by decide) (by omega))] at eM6
            have x6 := mX_set x5 eM6
            have z0 : M6 m0 = some (mHead m0 (addI v a l1) o) := x6 0 (by decide)
            rw [mHead_add] at z0
            refine lv_aload_n hx hb d_Mo_item_153 rfl (lv_at hl 1 rfl) ?_
            refine x_get (C := "GateTimesModel") (T := F_Mo) (N := 21) hx hb hts i_Mo hown hK hw z0 rfl 2 (by decide) (hts _ wd_261) (fun _ h9 => h9) rfl d_Mo_item_154 ?_
            exact x_iret hx hb hr hlk rfl hw (⟨_, rfl, addI v a l1, o, Or.inr (Or.inr ⟨hok, hf, a, l1, rfl, rfl, a1, a2, l2, l3, hbb, rfl, rfl⟩), rfl, mX_to x6 (ad_all (zr 3 _ (by decide) (by omega)))⟩) d_Mo_item_157
          ·
            have hf : v 12 1 = 400 := nI_inj2 (by omega) (by decide) c87
            refine lv_bipush (v := (-104)) hx hb d_Mo_item_90 (by decide) ?_
            exact x_iret hx hb hr hlk rfl hw (⟨_, rfl, v, o, Or.inr (Or.inl ⟨hok, hf, rfl, rfl⟩), rfl, hm⟩) d_Mo_item_92
      ·
        refine lv_if_eq (tgt := 77) hx hb d_Mo_item_69 (by decide) (fun c69 => ?_) (fun c69 => False.elim (c69 rfl))
        refine lv_bipush (v := (-102)) hx hb d_Mo_item_77 (by decide) ?_
        exact x_iret hx hb hr hlk rfl hw (⟨_, rfl, v, o, Or.inl ⟨fun z => ok2 z.2.2.1, rfl, rfl⟩, rfl, hm⟩) d_Mo_item_79
    ·
      refine lv_if_eq (tgt := 77) hx hb d_Mo_item_55 (by decide) (fun c55 => ?_) (fun c55 => False.elim (c55 rfl))
      refine lv_bipush (v := (-102)) hx hb d_Mo_item_77 (by decide) ?_
      exact x_iret hx hb hr hlk rfl hw (⟨_, rfl, v, o, Or.inl ⟨fun z => ok ⟨z.1, z.2.1⟩, rfl, rfl⟩, rfl, hm⟩) d_Mo_item_79
  ·
    refine lv_aload_n hx hb d_Mo_item_5 rfl (lv_at hl 0 rfl) ?_
    refine x_get (C := "GateTimesModel") (T := F_Mo) (N := 21) hx hb hts i_Mo hown hK hw z0 rfl 2 (by decide) (hts _ wd_261) (fun _ h9 => h9) rfl d_Mo_item_6 ?_
    refine lv_if_le (tgt := 44) hx hb d_Mo_item_9 (by decide) (fun c9 => ?_) (fun c9 => ?_)
    ·
      refine lv_iconst (v := 0) hx hb d_Mo_item_44 (by decide) ?_
      exact J45 0 (Or.inr ⟨rfl, by rw [hnr]; exact fun z => nI_nle z.1 (by omega) c9⟩)
    ·
      have hp0 : 0 < v 12 1 := Nat.pos_of_ne_zero (fun z => c9 (by rw [z]; decide))
      refine lv_lload_n hx hb d_Mo_item_12 rfl (lv_at hl 1 rfl) ?_
      refine lv_aload_n hx hb d_Mo_item_13 rfl (lv_at hl 0 rfl) ?_
      refine x_get (C := "GateTimesModel") (T := F_Mo) (N := 21) hx hb hts i_Mo hown hK hw z0 rfl 3 (by decide) (hts _ wd_262) (fun _ h9 => h9) rfl d_Mo_item_14 ?_
      refine lv_aload_n hx hb d_Mo_item_17 rfl (lv_at hl 0 rfl) ?_
      refine x_get (C := "GateTimesModel") (T := F_Mo) (N := 21) hx hb hts i_Mo hown hK hw z0 rfl 2 (by decide) (hts _ wd_261) (fun _ h9 => h9) rfl d_Mo_item_18 ?_
      refine x_laldN hx hb hK hw g1 1 rfl hn4 (by decide) d_Mo_item_21 ?_
      refine lv_lsub hx hb d_Mo_item_22 ?_
      refine lv_topl (fun n22 en22 => ?_)
      refine lv_aload_n hx hb d_Mo_item_23 rfl (lv_at hl 0 rfl) ?_
      refine x_get (C := "GateTimesModel") (T := F_Mo) (N := 21) hx hb hts i_Mo hown hK hw z0 rfl 4 (by decide) (hts _ wd_263) (fun _ h9 => h9) rfl d_Mo_item_24 ?_
      refine lv_aload_n hx hb d_Mo_item_27 rfl (lv_at hl 0 rfl) ?_
      refine x_get (C := "GateTimesModel") (T := F_Mo) (N := 21) hx hb hts i_Mo hown hK hw z0 rfl 2 (by decide) (hts _ wd_261) (fun _ h9 => h9) rfl d_Mo_item_28 ?_
      refine x_laldN hx hb hK hw g2 1 rfl hn4 (by decide) d_Mo_item_31 ?_
      refine lv_lsub hx hb d_Mo_item_32 ?_
      refine lv_topl (fun n32 en32 => ?_)
      refine lv_ldc2 (v := 50) hx hb hown (hts _ wd_329) d_Mo_item_33 ?_
      refine W.lcmp hx hb d_Mo_item_36 ?_
      rw [en32, en22]
      refine lv_if_ge (tgt := 44) hx hb d_Mo_item_37 (by decide) (fun c37 => ?_) (fun c37 => ?_)
      ·
        replace c37 := (lg_cmp_ge _ _).mp c37
        refine lv_iconst (v := 0) hx hb d_Mo_item_44 (by decide) ?_
        exact J45 0 (Or.inr ⟨rfl, by rw [hnr]; exact fun z => Int64.not_lt.mpr c37 z.2⟩)
      ·
        replace c37 := fun z => c37 ((lg_cmp_ge _ _).mpr z)
        refine lv_iconst (v := 1) hx hb d_Mo_item_40 (by decide) ?_
        refine lv_goto (tgt := 45) hx hb d_Mo_item_41 (by decide) ?_
        exact J45 1 (Or.inl ⟨rfl, by rw [hnr]; exact ⟨hp0, Int64.not_le.mp c37⟩⟩)
