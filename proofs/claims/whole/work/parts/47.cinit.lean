set_option maxHeartbeats 4000000 in
set_option maxRecDepth 100000 in
theorem c_GT_init (l : Launch) (D : va_G) (cs : Nat → ClassId) (M : xM) (sz : Nat) (a0 : Nat) (gs : Int32) (h : M a0 = some (.inr (kGT, [.null, .null, .null, .null, .null, .null, .int 0, .long 0]))) : Met l y_GT_init w_GT_init ({ frames := 2, cells := 34, slots := 1340, locals := 32 }) (xPc D classes (xtys cs) M sz [.ref a0, .int gs]) (xQ D classes M sz (fun rv M1 => rv = none ∧ clS cs M1 a0 (v00 (clG gs)) [])) 34 1340 (xA M sz) := by
  refine x_met (maxL := 4) (ret := (none)) (by decide) (Nat.le_of_ble_eq_true rfl) ?_
  intro p e s m below meth c ls hsz hF hr hlk hnm hK hZ hw hl
  obtain ⟨hx, hb, hml, hown, hts⟩ := id hF
  have hA : ∀ q, s.heap.size ≤ q → xA M sz q := x_hA hsz
  have hl : lv_has ls 4 [(0, .ref a0), (1, .int gs)] := hl
  refine lv_aload_n hx hb d_GT_init_0 rfl (lv_at hl 0 rfl) ?_
  refine W.objInit hx hb hown (hts _ wd_13) (hts _ wd_14) (hts _ wd_15) rfl (by rw [hml]; exact hl.1) rfl d_GT_init_1 (Nat.le_of_ble_eq_true rfl) (Nat.le_of_ble_eq_true rfl) ?_
  refine W.eq (g2 := F0 m 4 ls []) rfl ?_
  have B0 : bR M [0] (fun _ => a0) (fun _ => .inr (kGT, [.null, .null, .null, .null, .null, .null, .int 0, .long 0])) := ⟨fun b hb => h, fun b c hb hc _ => by simp at hb hc; omega⟩
  refine lv_aload_n hx hb d_GT_init_4 rfl (lv_at hl 0 rfl) ?_
  refine x_newO (C := "GateTimes$Row") (T := F_Row) (N := 2) (ci := kRow) (fs := [.null, .int 0]) hx hb hts i_Row t_Row t_Row_ok hown (hts _ wd_16) (hts _ wd_17) (hts _ wd_2) hK hw hA rfl (fun j hj => by rcases (show j = 0 ∨ j = 1 by omega) with rfl | rfl <;> rfl) (Nat.le_of_ble_eq_true rfl) (Nat.le_of_ble_eq_true rfl) d_GT_init_5 (fun r4 N4 H er4 eN4 hnr4 hzr4 hw => ?_)
  refine W.cs (cells' := 1) (slots' := 2) rfl rfl ?_
  have B1 := bR_add 4 B0 (by decide) hnr4 eN4
  have fq : N4 r4 = some (.inr (kRow, [.null, .int 0])) := x_up_self eN4
  refine lv_dup hx hb d_GT_init_8 rfl ?_
  obtain ⟨s5, hs5⟩ : ∃ z, z = H.size := ⟨_, rfl⟩
  have hf5 : N4 s5 = none := by
    cases hh : N4 s5 with
    | none => rfl
    | some y => exact absurd (xm_lt hw.1 (x_some hh)) (by omega)
  refine x_callv (va_runIN (b := r4) (As := []) (rest := [.ref r4, .ref a0]) hF (c_Row_init l D cs N4 _ r4 fq) ⟨va_cnB 0 hts (x_ws wd_20) rfl rfl rfl hZ.2.2.2.1 (hts _ wd_2) (by decide +kernel) ⟨Nat.le_of_ble_eq_true rfl, Nat.le_of_ble_eq_true rfl⟩, rfl, hts _ wd_19⟩ (x_preS hK hZ hw) rfl rfl hl.1 rfl (lv_room (Nat.le_of_ble_eq_true rfl)) d_GT_init_9 ⟨Nat.le_of_ble_eq_true rfl, Nat.le_of_ble_eq_true rfl⟩) hw hA (fun P4 H locs hp hw => ?_)
  rw [← hs5] at hp
  refine W.cs (cells' := 2) (slots' := 402) rfl rfl ?_
  have B2 := bR_set 4 (bR_add (e := aQ (cs 5) 400 (fun _ => none)) 5 B1 (by decide) hf5 rfl) (by decide) hp
  have f0 : P4 a0 = some (.inr (kGT, [.null, .null, .null, .null, .null, .null, .int 0, .long 0])) := B2.1 0 (by decide)
  refine x_putF (C := "GateTimes") (T := F_GT) (N := 8) (ty := .object "GateTimes$Row") hx hb hts i_GT t_GT t_GT_ok n_GT hown hK hw f0 rfl 3 (by decide) (hts _ wd_83) (fun _ h9 => h9) rfl hnm rfl (by decide +kernel) rfl rfl (Nat.le_of_ble_eq_true rfl) d_GT_init_12 (fun Q4 H locs eQ4 hw => ?_)
  have B3 := bR_set 0 B2 (by decide) eQ4
  refine lv_aload_n hx hb d_GT_init_15 rfl (lv_at hl 0 rfl) ?_
  refine x_newO (C := "GateTimes$Row") (T := F_Row) (N := 2) (ci := kRow) (fs := [.null, .int 0]) hx hb hts i_Row t_Row t_Row_ok hown (hts _ wd_16) (hts _ wd_17) (hts _ wd_2) hK hw hA rfl (fun j hj => by rcases (show j = 0 ∨ j = 1 by omega) with rfl | rfl <;> rfl) (Nat.le_of_ble_eq_true rfl) (Nat.le_of_ble_eq_true rfl) d_GT_init_16 (fun r6 N6 H er6 eN6 hnr6 hzr6 hw => ?_)
  refine W.cs (cells' := 3) (slots' := 404) rfl rfl ?_
  have B4 := bR_add 6 B3 (by decide) hnr6 eN6
  have fq : N6 r6 = some (.inr (kRow, [.null, .int 0])) := x_up_self eN6
  refine lv_dup hx hb d_GT_init_19 rfl ?_
  obtain ⟨s7, hs7⟩ : ∃ z, z = H.size := ⟨_, rfl⟩
  have hf7 : N6 s7 = none := by
    cases hh : N6 s7 with
    | none => rfl
    | some y => exact absurd (xm_lt hw.1 (x_some hh)) (by omega)
  refine x_callv (va_runIN (b := r6) (As := []) (rest := [.ref r6, .ref a0]) hF (c_Row_init l D cs N6 _ r6 fq) ⟨va_cnB 0 hts (x_ws wd_20) rfl rfl rfl hZ.2.2.2.1 (hts _ wd_2) (by decide +kernel) ⟨Nat.le_of_ble_eq_true rfl, Nat.le_of_ble_eq_true rfl⟩, rfl, hts _ wd_19⟩ (x_preS hK hZ hw) rfl rfl hl.1 rfl (lv_room (Nat.le_of_ble_eq_true rfl)) d_GT_init_20 ⟨Nat.le_of_ble_eq_true rfl, Nat.le_of_ble_eq_true rfl⟩) hw hA (fun P6 H locs hp hw => ?_)
  rw [← hs7] at hp
  refine W.cs (cells' := 4) (slots' := 804) rfl rfl ?_
  have B5 := bR_set 6 (bR_add (e := aQ (cs 5) 400 (fun _ => none)) 7 B4 (by decide) hf7 rfl) (by decide) hp
  have f0 : P6 a0 = some (.inr (kGT, [.null, .null, .null, .ref r4, .null, .null, .int 0, .long 0])) := B5.1 0 (by decide)
  refine x_putF (C := "GateTimes") (T := F_GT) (N := 8) (ty := .object "GateTimes$Row") hx hb hts i_GT t_GT t_GT_ok n_GT hown hK hw f0 rfl 4 (by decide) (hts _ wd_84) (fun _ h9 => h9) rfl hnm rfl (by decide +kernel) rfl rfl (Nat.le_of_ble_eq_true rfl) d_GT_init_23 (fun Q6 H locs eQ6 hw => ?_)
  have B6 := bR_set 0 B5 (by decide) eQ6
  refine lv_aload_n hx hb d_GT_init_26 rfl (lv_at hl 0 rfl) ?_
  refine x_newO (C := "GateTimes$Row") (T := F_Row) (N := 2) (ci := kRow) (fs := [.null, .int 0]) hx hb hts i_Row t_Row t_Row_ok hown (hts _ wd_16) (hts _ wd_17) (hts _ wd_2) hK hw hA rfl (fun j hj => by rcases (show j = 0 ∨ j = 1 by omega) with rfl | rfl <;> rfl) (Nat.le_of_ble_eq_true rfl) (Nat.le_of_ble_eq_true rfl) d_GT_init_27 (fun r8 N8 H er8 eN8 hnr8 hzr8 hw => ?_)
  refine W.cs (cells' := 5) (slots' := 806) rfl rfl ?_
  have B7 := bR_add 8 B6 (by decide) hnr8 eN8
  have fq : N8 r8 = some (.inr (kRow, [.null, .int 0])) := x_up_self eN8
  refine lv_dup hx hb d_GT_init_30 rfl ?_
  obtain ⟨s9, hs9⟩ : ∃ z, z = H.size := ⟨_, rfl⟩
  have hf9 : N8 s9 = none := by
    cases hh : N8 s9 with
    | none => rfl
    | some y => exact absurd (xm_lt hw.1 (x_some hh)) (by omega)
  refine x_callv (va_runIN (b := r8) (As := []) (rest := [.ref r8, .ref a0]) hF (c_Row_init l D cs N8 _ r8 fq) ⟨va_cnB 0 hts (x_ws wd_20) rfl rfl rfl hZ.2.2.2.1 (hts _ wd_2) (by decide +kernel) ⟨Nat.le_of_ble_eq_true rfl, Nat.le_of_ble_eq_true rfl⟩, rfl, hts _ wd_19⟩ (x_preS hK hZ hw) rfl rfl hl.1 rfl (lv_room (Nat.le_of_ble_eq_true rfl)) d_GT_init_31 ⟨Nat.le_of_ble_eq_true rfl, Nat.le_of_ble_eq_true rfl⟩) hw hA (fun P8 H locs hp hw => ?_)
  rw [← hs9] at hp
  refine W.cs (cells' := 6) (slots' := 1206) rfl rfl ?_
  have B8 := bR_set 8 (bR_add (e := aQ (cs 5) 400 (fun _ => none)) 9 B7 (by decide) hf9 rfl) (by decide) hp
  have f0 : P8 a0 = some (.inr (kGT, [.null, .null, .null, .ref r4, .ref r6, .null, .int 0, .long 0])) := B8.1 0 (by decide)
  refine x_putF (C := "GateTimes") (T := F_GT) (N := 8) (ty := .object "GateTimes$Row") hx hb hts i_GT t_GT t_GT_ok n_GT hown hK hw f0 rfl 5 (by decide) (hts _ wd_85) (fun _ h9 => h9) rfl hnm rfl (by decide +kernel) rfl rfl (Nat.le_of_ble_eq_true rfl) d_GT_init_34 (fun Q8 H locs eQ8 hw => ?_)
  have B9 := bR_set 0 B8 (by decide) eQ8
  refine lv_aload_n hx hb d_GT_init_37 rfl (lv_at hl 0 rfl) ?_
  refine lv_iconst (v := 0) hx hb d_GT_init_38 (by decide) ?_
  have f0 : Q8 a0 = some (.inr (kGT, [.null, .null, .null, .ref r4, .ref r6, .ref r8, .int 0, .long 0])) := B9.1 0 (by decide)
  refine x_put (C := "GateTimes") (T := F_GT) (N := 8) (ty := .int) hx hb hts i_GT t_GT t_GT_ok n_GT hown hK hw f0 rfl 6 (by decide) (hts _ wd_86) (fun _ h9 => h9) rfl (by decide +kernel) rfl rfl (Nat.le_of_ble_eq_true rfl) d_GT_init_39 (fun S1 H locs eS1 hw => ?_)
  have B10 := bR_set 0 B9 (by decide) eS1
  refine lv_aload_n hx hb d_GT_init_42 rfl (lv_at hl 0 rfl) ?_
  refine lv_lconst (v := 0) hx hb d_GT_init_43 (by decide) ?_
  have f0 : S1 a0 = some (.inr (kGT, [.null, .null, .null, .ref r4, .ref r6, .ref r8, .int 0, .long 0])) := B10.1 0 (by decide)
  refine x_put (C := "GateTimes") (T := F_GT) (N := 8) (ty := .long) hx hb hts i_GT t_GT t_GT_ok n_GT hown hK hw f0 rfl 7 (by decide) (hts _ wd_87) (fun _ h9 => h9) rfl (by decide +kernel) rfl rfl (Nat.le_of_ble_eq_true rfl) d_GT_init_44 (fun S2 H locs eS2 hw => ?_)
  have B11 := bR_set 0 B10 (by decide) eS2
  refine lv_iconst (v := 1) hx hb d_GT_init_47 (by decide) ?_
  refine lv_bipush (v := 12) hx hb d_GT_init_48 (by decide) ?_
  refine lv_iload_n hx hb d_GT_init_50 rfl (lv_at hl 1 rfl) ?_
  refine va_mmin hx hb (by rw [hml]; exact hl.1.symm) hown (hts _ wd_32) (hts _ wd_33) (hts _ wd_3) (hts _ wd_34) (Nat.le_of_ble_eq_true rfl) (Nat.le_of_ble_eq_true rfl) (Nat.le_of_ble_eq_true rfl) (Nat.le_of_ble_eq_true rfl) d_GT_init_51 ?_
  refine va_mmax hx hb (by rw [hml]; exact hl.1.symm) hown (hts _ wd_35) (hts _ wd_36) (hts _ wd_3) (hts _ wd_37) (Nat.le_of_ble_eq_true rfl) (Nat.le_of_ble_eq_true rfl) (Nat.le_of_ble_eq_true rfl) (Nat.le_of_ble_eq_true rfl) d_GT_init_54 ?_
  rw [clG_mm gs]
  obtain ⟨hG1, hG2⟩ := clG_in gs
  obtain ⟨G, hG⟩ : ∃ G, G = clG gs := ⟨_, rfl⟩
  rw [← hG] at hG1 hG2 ⊢
  refine lv_istore_n (lv' := [(2, .int (nI G)), (0, .ref a0), (1, .int gs)]) hx hb d_GT_init_57 rfl hl (by decide) rfl (fun ls hl => ?_)
  refine lv_aload_n hx hb d_GT_init_58 rfl (lv_at hl 1 rfl) ?_
  refine lv_iload_n hx hb d_GT_init_59 rfl (lv_at hl 0 rfl) ?_
  refine x_newqO (C := "GateTimes$Gate") hx hb hown (hts _ wd_38) hZ.2.1 hK hw hA (cA := cs 3) (hK.2 3 _ rfl).2.choose_spec.choose_spec.2.2.2 (N' := G) (nI_pos (by omega)) (nI_clamp (by omega)) (by omega) (Nat.le_of_ble_eq_true rfl) (show 1206 + (G) ≤ 1340 by omega) d_GT_init_60 (fun q1 T1 H eq1 eT1 hnq1 hzq1 hw => ?_)
  refine W.widen (k := 7) (n := 1219) (by omega) (by omega) ?_
  have B12 := bR_add 1 B11 (by decide) hnq1 eT1
  have f0 : T1 a0 = some (.inr (kGT, [.null, .null, .null, .ref r4, .ref r6, .ref r8, .int 0, .long 0])) := B12.1 0 (by decide)
  refine x_putF (C := "GateTimes") (T := F_GT) (N := 8) (ty := .array (.object "GateTimes$Gate")) hx hb hts i_GT t_GT t_GT_ok n_GT hown hK hw f0 rfl 0 (by decide) (hts _ wd_80) (fun _ h9 => h9) rfl hnm rfl (by decide +kernel) rfl rfl (Nat.le_of_ble_eq_true rfl) d_GT_init_63 (fun T2 H locs eT2 hw => ?_)
  have B13 := bR_set 0 B12 (by decide) eT2
  refine lv_aload_n hx hb d_GT_init_66 rfl (lv_at hl 1 rfl) ?_
  refine lv_iload_n hx hb d_GT_init_67 rfl (lv_at hl 0 rfl) ?_
  refine lv_iconst (v := 1) hx hb d_GT_init_68 (by decide) ?_
  refine lv_iadd hx hb d_GT_init_69 ?_
  refine lv_topi (fun n69 en69 => ?_)
  obtain rfl : n69 = nI (G + 1) := en69.trans (nI_1 _)
  refine x_newqO (C := "GateTimes$Line") hx hb hown (hts _ wd_40) hZ.2.2.1 hK hw hA (cA := cs 4) (hK.2 4 _ rfl).2.choose_spec.choose_spec.2.2.2 (N' := G + 1) (nI_pos (by omega)) (nI_clamp (by omega)) (by omega) (Nat.le_of_ble_eq_true rfl) (show 1219 + (G + 1) ≤ 1340 by omega) d_GT_init_70 (fun q2 T3 H eq2 eT3 hnq2 hzq2 hw => ?_)
  refine W.widen (k := 8) (n := 1232) (by omega) (by omega) ?_
  have B14 := bR_add 2 B13 (by decide) hnq2 eT3
  have f0 : T3 a0 = some (.inr (kGT, [.ref q1, .null, .null, .ref r4, .ref r6, .ref r8, .int 0, .long 0])) := B14.1 0 (by decide)
  refine x_putF (C := "GateTimes") (T := F_GT) (N := 8) (ty := .array (.object "GateTimes$Line")) hx hb hts i_GT t_GT t_GT_ok n_GT hown hK hw f0 rfl 1 (by decide) (hts _ wd_81) (fun _ h9 => h9) rfl hnm rfl (by decide +kernel) rfl rfl (Nat.le_of_ble_eq_true rfl) d_GT_init_73 (fun T4 H locs eT4 hw => ?_)
  have B15 := bR_set 0 B14 (by decide) eT4
  refine lv_aload_n hx hb d_GT_init_76 rfl (lv_at hl 1 rfl) ?_
  refine lv_iload_n hx hb d_GT_init_77 rfl (lv_at hl 0 rfl) ?_
  refine lv_iconst (v := 1) hx hb d_GT_init_78 (by decide) ?_
  refine lv_iadd hx hb d_GT_init_79 ?_
  refine lv_topi (fun n79 en79 => ?_)
  obtain rfl : n79 = nI (G + 1) := en79.trans (nI_1 _)
  refine x_newaO (atype := .int) hx hb (hts _ wd_66) rfl hK hw hA (cA := cs 0) (hK.2 0 _ rfl).2 (N' := G + 1) (a0 := (G + 1, .inl (fun _ => 0))) (fun _ => rfl) (nI_pos (by omega)) (nI_clamp (by omega)) (show (G + 1) * 4 ≤ 536870912 by omega) (Nat.le_of_ble_eq_true rfl) (show 1232 + (G + 1) ≤ 1340 by omega) d_GT_init_80 (fun q3 T5 H eq3 eT5 hnq3 hzq3 hw => ?_)
  refine W.widen (k := 9) (n := 1245) (by omega) (by omega) ?_
  have B16 := bR_add 3 B15 (by decide) hnq3 eT5
  have f0 : T5 a0 = some (.inr (kGT, [.ref q1, .ref q2, .null, .ref r4, .ref r6, .ref r8, .int 0, .long 0])) := B16.1 0 (by decide)
  refine x_putF (C := "GateTimes") (T := F_GT) (N := 8) (ty := .array .int) hx hb hts i_GT t_GT t_GT_ok n_GT hown hK hw f0 rfl 2 (by decide) (hts _ wd_82) (fun _ h9 => h9) rfl hnm rfl (by decide +kernel) rfl rfl (Nat.le_of_ble_eq_true rfl) d_GT_init_82 (fun T6 H locs eT6 hw => ?_)
  have B17 := bR_set 0 B16 (by decide) eT6
  obtain ⟨ad, had⟩ : ∃ ad : Nat → Nat, ad = va_up (va_up (va_up (va_up (va_up (va_up (va_up (va_up (va_up (fun _ => a0) 4 r4) 5 s5) 6 r6) 7 s7) 8 r8) 9 s9) 1 q1) 2 q2) 3 q3 := ⟨_, rfl⟩
  have hp0 : pR cs T6 (fun a b => if a = 0 then ad b else 0) G 0 0 := by
    rw [had]
    refine ⟨fun a b hab => ?_, fun a b c d h1 h2 e => ?_⟩
    · have ha : a = 0 ∧ b < 10 := by
        unfold vp2 at hab
        omega
      obtain ⟨rfl, hb9⟩ := ha
      match b, hb9 with
      | 0, _ => exact B17.1 0 (by decide)
      | 1, _ => exact B17.1 1 (by decide)
      | 2, _ => exact B17.1 2 (by decide)
      | 3, _ => exact B17.1 3 (by decide)
      | 4, _ => exact B17.1 4 (by decide)
      | 5, _ => exact B17.1 5 (by decide)
      | 6, _ => exact B17.1 6 (by decide)
      | 7, _ => exact B17.1 7 (by decide)
      | 8, _ => exact B17.1 8 (by decide)
      | 9, _ => exact B17.1 9 (by decide)
      | b + 10, hb9 => omega
    · have ha : a = 0 ∧ b < 10 := by
        unfold vp2 at h1
        omega
      have hc : c = 0 ∧ d < 10 := by
        unfold vp2 at h2
        omega
      obtain ⟨rfl, hb9⟩ := ha
      obtain ⟨rfl, hd9⟩ := hc
      have m10 : ∀ b, b < 10 → b ∈ [3, 2, 1, 9, 8, 7, 6, 5, 4, 0] := by decide
      exact ⟨rfl, B17.2 b d (by have := m10 b hb9; simp at this ⊢; omega) (by have := m10 d hd9; simp at this ⊢; omega) e⟩
  refine lv_iconst (v := 0) hx hb d_GT_init_85 (by decide) ?_
  refine lv_istore_n (lv' := [(3, .int 0), (2, .int (nI G)), (0, .ref a0), (1, .int gs)]) hx hb d_GT_init_86 rfl hl (by decide) rfl (fun ls hl => ?_)
  have hx00 : a0 = (fun a b => if a = 0 then ad b else 0 : gV) 0 0 := by rw [had]; rfl
  have hl : lv_has ls 4 [(3, .int (nI 0)), (2, .int (nI G)), (0, .ref a0), (1, .int gs)] := hl
  refine x_loopC (A := xA M sz) (D := D) (cl := classes) (H0 := s.heap) (nL := 4) (σ := Nat × gV × xM) (fun ⟨k, xx, My⟩ => G - k) (fun ⟨k, xx, My⟩ => 9 + k) (fun ⟨k, xx, My⟩ => 1245 + 5 * k) (fun ⟨k, xx, My⟩ => k ≤ G ∧ a0 = xx 0 0 ∧ pR cs My xx G k 0) (fun ⟨k, xx, My⟩ => My) (fun ⟨k, xx, My⟩ => [(3, .int (nI k)), (2, .int (nI G)), (0, .ref a0), (1, .int gs)]) (fun z hI ih H locs ls hw hl => ?_) (0, (fun a b => if a = 0 then ad b else 0), T6) ⟨Nat.zero_le _, hx00, hp0⟩ _ _ _ hw hl
  obtain ⟨k, xx, My⟩ := z
  try dsimp only at hI hw hl ih ⊢
  obtain ⟨k1, k2, k3⟩ := hI
  have hpc := k3.1 0 0 (Or.inl ⟨rfl, by decide⟩)
  rw [← k2] at hpc
  refine lv_iload_n hx hb d_GT_init_87 rfl (lv_at hl 0 rfl) ?_
  refine lv_iload_n hx hb d_GT_init_88 rfl (lv_at hl 1 rfl) ?_
  refine lv_icmp_ge (tgt := 111) hx hb d_GT_init_89 (by decide) (fun c89 => ?_) (fun c89 => ?_)
  ·
    have hk : k = G := by
      have := (nI_leI (by omega) (by omega)).mp c89
      omega
    rw [hk] at k3
    refine lv_iconst (v := 0) hx hb d_GT_init_111 (by decide) ?_
    refine lv_istore_n (lv' := [(3, .int 0), (2, .int (nI G)), (0, .ref a0), (1, .int gs)]) hx hb d_GT_init_112 rfl hl (by decide) rfl (fun ls hl => ?_)
    have hl : lv_has ls 4 [(3, .int (nI 0)), (2, .int (nI G)), (0, .ref a0), (1, .int gs)] := hl
    refine W.widen (k := 21) (n := 1305) (by omega) (by omega) ?_
    have hx00 := k2
    refine x_loopC (A := xA M sz) (D := D) (cl := classes) (H0 := s.heap) (nL := 4) (σ := Nat × gV × xM) (fun ⟨k, xx, My⟩ => G + 1 - k) (fun ⟨k, xx, My⟩ => 21 + k) (fun ⟨k, xx, My⟩ => 1305 + 2 * k) (fun ⟨k, xx, My⟩ => k ≤ G + 1 ∧ a0 = xx 0 0 ∧ pR cs My xx G G k) (fun ⟨k, xx, My⟩ => My) (fun ⟨k, xx, My⟩ => [(3, .int (nI k)), (2, .int (nI G)), (0, .ref a0), (1, .int gs)]) (fun z hI ih H locs ls hw hl => ?_) (0, xx, My) ⟨Nat.zero_le _, hx00, k3⟩ _ _ _ hw hl
    obtain ⟨k, xx, My⟩ := z
    try dsimp only at hI hw hl ih ⊢
    obtain ⟨k1, k2, k3⟩ := hI
    have hpc := k3.1 0 0 (Or.inl ⟨rfl, by decide⟩)
    rw [← k2] at hpc
    refine lv_iload_n hx hb d_GT_init_113 rfl (lv_at hl 0 rfl) ?_
    refine lv_iload_n hx hb d_GT_init_114 rfl (lv_at hl 1 rfl) ?_
    refine lv_icmp_gt (tgt := 137) hx hb d_GT_init_115 (by decide) (fun c115 => ?_) (fun c115 => ?_)
    ·
      have hk : k = G + 1 := by
        have := (nI_ltI (by omega) (by omega)).mp c115
        omega
      rw [hk] at k3
      refine W.widen (k := 34) (n := 1340) (by omega) (by omega) ?_
      exact x_vret hx hb hr hlk hw (⟨rfl, by rw [k2]; exact pR_end k3 hG1 hG2⟩) d_GT_init_137
    ·
      have hk : k < G + 1 := Nat.lt_succ_of_le (Nat.le_of_not_lt (fun z => c115 ((nI_ltI (by omega) (by omega)).mpr z)))
      have f0 : My a0 = some (.inr (kGT, [.ref (xx 0 1), .ref (xx 0 2), .ref (xx 0 3), .ref (xx 0 4), .ref (xx 0 6), .ref (xx 0 8), .int 0, .long 0])) := hpc
      have f1 : My (xx 0 2) = some (aQ (cs 4) (G + 1) (fun g => if g < k then some (xx 2 g) else none)) := k3.1 0 2 (Or.inl ⟨rfl, by decide⟩)
      refine lv_aload_n hx hb d_GT_init_118 rfl (lv_at hl 2 rfl) ?_
      refine x_get (C := "GateTimes") (T := F_GT) (N := 8) hx hb hts i_GT hown hK hw f0 rfl 1 (by decide) (hts _ wd_81) (fun _ h9 => h9) rfl d_GT_init_119 ?_
      refine lv_iload_n hx hb d_GT_init_122 rfl (lv_at hl 0 rfl) ?_
      refine x_newO (C := "GateTimes$Line") (T := F_Line) (N := 2) (ci := kLine) (fs := [.null, .null]) hx hb hts i_Line t_Line t_Line_ok hown (hts _ wd_40) (hts _ wd_67) (hts _ wd_5) hK hw hA rfl (fun j hj => by rcases (show j = 0 ∨ j = 1 by omega) with rfl | rfl <;> rfl) (show 21 + k + 1 ≤ 34 by omega) (show 1305 + 2 * k + 2 ≤ 1340 by omega) d_GT_init_123 (fun q My1 H eq eMy1 hnq hzq hw => ?_)
      have fq : My1 q = some (.inr (kLine, [.null, .null])) := x_up_self eMy1
      refine lv_dup hx hb d_GT_init_126 rfl ?_
      refine x_callv (va_runIN (b := q) (As := []) (rest := [.ref q, .int (nI k), .ref (xx 0 2)]) hF (c_Line_init l D cs My1 _ q fq) ⟨va_cnB 0 hts (x_ws wd_70) rfl rfl rfl hZ.2.2.2.2.2 (hts _ wd_5) (by decide +kernel) ⟨Nat.le_of_ble_eq_true rfl, Nat.le_of_ble_eq_true rfl⟩, rfl, hts _ wd_69⟩ (x_preS hK hZ hw) rfl rfl hl.1 rfl (lv_room (Nat.le_of_ble_eq_true rfl)) d_GT_init_127 ⟨show 21 + k + 1 + 0 ≤ 34 by omega, show 1305 + 2 * k + 2 + 0 ≤ 1340 by omega⟩) hw hA (fun My2 H locs hp hw => ?_)
      have eMy2 := x_up2 eMy1 hp
      have f1 : My2 (xx 0 2) = some (aQ (cs 4) (G + 1) (fun g => if g < k then some (xx 2 g) else none)) := x_keep eMy2 (fun z => x_some f1 (z ▸ hnq)) f1
      have fq := x_up_self eMy2
      refine x_astqN hx hb hK hw f1 4 rfl fq rfl hk (by omega) d_GT_init_130 (fun My3 H locs eMy3 hw => ?_)
      rw [eMy2] at eMy3
      obtain ⟨n131, en131⟩ : ∃ y : Int32, y = (nI k) + 1 := ⟨_, rfl⟩
      refine lv_iinc (v := n131) (lv' := [(3, .int n131), (2, .int (nI G)), (0, .ref a0), (1, .int gs)]) hx hb d_GT_init_131 hl (k := 0) rfl (by rw [en131]; rfl) (by decide) rfl (fun ls hl => ?_)
      obtain rfl : n131 = nI (k + 1) := en131.trans (nI_1 k)
      refine lv_goto (tgt := 113) hx hb d_GT_init_134 (by decide) ?_
      refine W.cs (cells' := 21 + (k + 1)) (slots' := 1305 + 2 * (k + 1)) (by omega) (by omega) ?_
      exact ih (k + 1, up2 xx 2 k q, My3) ⟨by first | omega | (dsimp only; omega), k2.trans (up2_k xx k q 0 (show (0 : Nat) ≠ 2 by decide)).symm, pR_line k3 hnq eMy3⟩ (by first | omega | (dsimp only; omega)) _ _ _ hw (lv_sub hl [0, 1, 2, 3] rfl)
  ·
    have hk : k < G := Nat.lt_of_not_le (fun z => c89 ((nI_leI (by omega) (by omega)).mpr z))
    have f0 : My a0 = some (.inr (kGT, [.ref (xx 0 1), .ref (xx 0 2), .ref (xx 0 3), .ref (xx 0 4), .ref (xx 0 6), .ref (xx 0 8), .int 0, .long 0])) := hpc
    have f1 : My (xx 0 1) = some (aQ (cs 3) G (fun g => if g < k then some (xx 1 g) else none)) := k3.1 0 1 (Or.inl ⟨rfl, by decide⟩)
    refine lv_aload_n hx hb d_GT_init_92 rfl (lv_at hl 2 rfl) ?_
    refine x_get (C := "GateTimes") (T := F_GT) (N := 8) hx hb hts i_GT hown hK hw f0 rfl 0 (by decide) (hts _ wd_80) (fun _ h9 => h9) rfl d_GT_init_93 ?_
    refine lv_iload_n hx hb d_GT_init_96 rfl (lv_at hl 0 rfl) ?_
    refine x_newO (C := "GateTimes$Gate") (T := F_Gate) (N := 5) (ci := kGate) (fs := [.int 0, .int 0, .int 0, .int 0, .long 0]) hx hb hts i_Gate t_Gate t_Gate_ok hown (hts _ wd_38) (hts _ wd_42) (hts _ wd_4) hK hw hA rfl (fun j hj => by rcases (show j = 0 ∨ j = 1 ∨ j = 2 ∨ j = 3 ∨ j = 4 by omega) with rfl | rfl | rfl | rfl | rfl <;> rfl) (show 9 + k + 1 ≤ 34 by omega) (show 1245 + 5 * k + 5 ≤ 1340 by omega) d_GT_init_97 (fun q My1 H eq eMy1 hnq hzq hw => ?_)
    have fq : My1 q = some (.inr (kGate, [.int 0, .int 0, .int 0, .int 0, .long 0])) := x_up_self eMy1
    refine lv_dup hx hb d_GT_init_100 rfl ?_
    refine x_callv (va_runIN (b := q) (As := []) (rest := [.ref q, .int (nI k), .ref (xx 0 1)]) hF (c_Gate_init l D cs My1 _ q fq) ⟨va_cnB 0 hts (x_ws wd_45) rfl rfl rfl hZ.2.2.2.2.1 (hts _ wd_4) (by decide +kernel) ⟨Nat.le_of_ble_eq_true rfl, Nat.le_of_ble_eq_true rfl⟩, rfl, hts _ wd_44⟩ (x_preS hK hZ hw) rfl rfl hl.1 rfl (lv_room (Nat.le_of_ble_eq_true rfl)) d_GT_init_101 ⟨show 9 + k + 1 + 0 ≤ 34 by omega, show 1245 + 5 * k + 5 + 0 ≤ 1340 by omega⟩) hw hA (fun My2 H locs hp hw => ?_)
    have eMy2 := x_up2 eMy1 hp
    have f1 : My2 (xx 0 1) = some (aQ (cs 3) G (fun g => if g < k then some (xx 1 g) else none)) := x_keep eMy2 (fun z => x_some f1 (z ▸ hnq)) f1
    have fq := x_up_self eMy2
    refine x_astqN hx hb hK hw f1 3 rfl fq rfl hk (by omega) d_GT_init_104 (fun My3 H locs eMy3 hw => ?_)
    rw [eMy2] at eMy3
    obtain ⟨n105, en105⟩ : ∃ y : Int32, y = (nI k) + 1 := ⟨_, rfl⟩
    refine lv_iinc (v := n105) (lv' := [(3, .int n105), (2, .int (nI G)), (0, .ref a0), (1, .int gs)]) hx hb d_GT_init_105 hl (k := 0) rfl (by rw [en105]; rfl) (by decide) rfl (fun ls hl => ?_)
    obtain rfl : n105 = nI (k + 1) := en105.trans (nI_1 k)
    refine lv_goto (tgt := 87) hx hb d_GT_init_108 (by decide) ?_
    refine W.cs (cells' := 9 + (k + 1)) (slots' := 1245 + 5 * (k + 1)) (by omega) (by omega) ?_
    exact ih (k + 1, up2 xx 1 k q, My3) ⟨by first | omega | (dsimp only; omega), k2.trans (up2_k xx k q 0 (show (0 : Nat) ≠ 1 by decide)).symm, pR_gate k3 hnq eMy3⟩ (by first | omega | (dsimp only; omega)) _ _ _ hw (lv_sub hl [0, 1, 2, 3] rfl)
