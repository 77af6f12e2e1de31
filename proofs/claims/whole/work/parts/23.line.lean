theorem jnP_oth {P : gV} {p i a b : Nat} (h : P 1 p = 0) (h9 : ¬ ((a = 0 ∨ a = 1) ∧ b = p)) : jnP P p i a b = P a b := by
  unfold jnP
  rw [if_pos h]
  unfold up2
  rw [if_neg (fun z => h9 ⟨Or.inr z.1, z.2⟩), if_neg (fun z => h9 ⟨Or.inl z.1, z.2⟩)]
set_option maxHeartbeats 4000000 in
set_option maxRecDepth 100000 in
theorem c_Line_join (l : Launch) (D : va_G) (cs : Nat → ClassId) (M : xM) (sz : Nat) (x v P : gV) (o w : List Nat) (p0 i0 : Nat) (hR : cR cs M x v P o w) (hp0 : p0 ≤ v 12 0) (hi1 : 1 ≤ i0) (hj : P 1 p0 = 0 ∨ P 1 p0 ≤ v 12 1) : Met l y_Line_join w_Line_join ({ frames := 0, cells := 0, slots := 0, locals := 0 }) (xPc D classes (xtys cs) M sz [.ref (x 2 p0), .ref (x 3 i0)]) (xQ D classes M sz (fun rv M1 => rv = none ∧ cR cs M1 x v (jnP P p0 i0) o w)) 0 0 (xA M sz) := by
  refine x_met (maxL := 2) (ret := (none)) (by decide) (Nat.le_of_ble_eq_true rfl) ?_
  intro p e s m below meth c ls hsz hF hr hlk hnm hK hZ hw hl
  obtain ⟨hx, hb, hml, hown, hts⟩ := id hF
  have hA : ∀ q, s.heap.size ≤ q → xA M sz q := x_hA hsz
  have hl : lv_has ls 2 [(0, .ref (x 2 p0)), (1, .ref (x 3 i0))] := hl
  have f0 : M (x 2 p0) = some (cLine x P p0) := hR.1 2 p0 (vd2 hp0)
  refine lv_aload_n hx hb d_Line_join_0 rfl (lv_at hl 0 rfl) ?_
  refine x_get (C := "GateTimes$Line") (T := F_Line) (N := 2) hx hb hts i_Line hown hK hw f0 rfl 1 (by decide) (hts _ wd_74) (fun _ h9 => h9) rfl d_Line_join_1 ?_
  refine x_ifnonnull (tgt := 15) hx hb d_Line_join_4 (by decide) (fun q c4 => ?_) (fun c4 => ?_)
  ·
    obtain ⟨j1, -⟩ := rI_some c4
    have j2 : P 1 p0 ≤ v 12 1 := by omega
    have f0b : M (x 2 p0) = some (.inr (kLine, [va_rf (rI x (P 0 p0)), .ref (x 3 (P 1 p0))])) := by
      rw [f0]
      unfold cLine
      rw [rI_s x j1]
      rfl
    have f3 : M (x 3 (P 1 p0)) = some (cItem x v P (P 1 p0)) := hR.1 3 _ (vd3 j1 j2)
    refine lv_aload_n hx hb d_Line_join_15 rfl (lv_at hl 0 rfl) ?_
    refine x_get (C := "GateTimes$Line") (T := F_Line) (N := 2) hx hb hts i_Line hown hK hw f0b rfl 1 (by decide) (hts _ wd_74) (fun _ h9 => h9) rfl d_Line_join_16 ?_
    refine lv_aload_n hx hb d_Line_join_19 rfl (lv_at hl 1 rfl) ?_
    refine x_put (C := "GateTimes$Item") (T := F_Item) (N := 7) (ty := .object "GateTimes$Item") hx hb hts i_Item t_Item t_Item_ok n_Item hown hK hw f3 rfl 6 (by decide) (hts _ wd_149) (fun _ h9 => h9) rfl (by decide +kernel) rfl rfl (Nat.le_of_ble_eq_true rfl) d_Line_join_20 (fun M1 H locs eM1 hw => ?_)
    have hR1 : cR cs M1 x v (up2 P 2 (P 1 p0) i0) o w := cR_behind hR j1 j2 (fun a b h9 => by unfold up2; rw [if_neg h9]) (by rw [eM1]; unfold cItem; rw [up2_self, rI_s x hi1]; rfl)
    have f1 : M1 (x 2 p0) = some (cLine x (up2 P 2 (P 1 p0) i0) p0) := hR1.1 2 p0 (vd2 hp0)
    refine lv_aload_n hx hb d_Line_join_23 rfl (lv_at hl 0 rfl) ?_
    refine lv_aload_n hx hb d_Line_join_24 rfl (lv_at hl 1 rfl) ?_
    refine x_put (C := "GateTimes$Line") (T := F_Line) (N := 2) (ty := .object "GateTimes$Item") hx hb hts i_Line t_Line t_Line_ok n_Line hown hK hw f1 rfl 1 (by decide) (hts _ wd_74) (fun _ h9 => h9) rfl (by decide +kernel) rfl rfl (Nat.le_of_ble_eq_true rfl) d_Line_join_25 (fun M2 H locs eM2 hw => ?_)
    have e1 : jnP P p0 i0 = up2 (up2 P 2 (P 1 p0) i0) 1 p0 i0 := by
      unfold jnP
      rw [if_neg (by omega)]
    exact x_vret hx hb hr hlk hw (⟨rfl, by rw [e1]; exact cR_line hR1 hp0 (fun a b h9 => by unfold up2; rw [if_neg (fun z => h9 ⟨Or.inr z.1, z.2⟩)]) (by rw [eM2]; unfold cLine; rw [up2_self, up2_k _ _ _ _ (show (0 : Nat) ≠ 1 by decide), rI_s x hi1]; rfl)⟩) d_Line_join_28
  ·
    have e0 : P 1 p0 = 0 := rI_none c4
    refine lv_aload_n hx hb d_Line_join_7 rfl (lv_at hl 0 rfl) ?_
    refine lv_aload_n hx hb d_Line_join_8 rfl (lv_at hl 1 rfl) ?_
    refine x_put (C := "GateTimes$Line") (T := F_Line) (N := 2) (ty := .object "GateTimes$Item") hx hb hts i_Line t_Line t_Line_ok n_Line hown hK hw f0 rfl 0 (by decide) (hts _ wd_72) (fun _ h9 => h9) rfl (by decide +kernel) rfl rfl (Nat.le_of_ble_eq_true rfl) d_Line_join_9 (fun M1 H locs eM1 hw => ?_)
    have f1 : M1 (x 2 p0) = some (.inr (kLine, [.ref (x 3 i0), va_rf (rI x (P 1 p0))])) := x_up_self eM1
    refine lv_goto (tgt := 23) hx hb d_Line_join_12 (by decide) ?_
    refine lv_aload_n hx hb d_Line_join_23 rfl (lv_at hl 0 rfl) ?_
    refine lv_aload_n hx hb d_Line_join_24 rfl (lv_at hl 1 rfl) ?_
    refine x_put (C := "GateTimes$Line") (T := F_Line) (N := 2) (ty := .object "GateTimes$Item") hx hb hts i_Line t_Line t_Line_ok n_Line hown hK hw f1 rfl 1 (by decide) (hts _ wd_74) (fun _ h9 => h9) rfl (by decide +kernel) rfl rfl (Nat.le_of_ble_eq_true rfl) d_Line_join_25 (fun M2 H locs eM2 hw => ?_)
    have e1 : (.inr (kLine, [.ref (x 3 i0), .ref (x 3 i0)]) : va_E) = cLine x (jnP P p0 i0) p0 := by
      unfold cLine
      rw [jnP_0, jnP_1, if_pos ⟨rfl, e0⟩, if_pos rfl, rI_s x hi1]
      rfl
    exact x_vret hx hb hr hlk hw (⟨rfl, cR_line hR hp0 (fun a b h9 => jnP_oth e0 h9) (by rw [x_up2 eM1 eM2, ← e1]; rfl)⟩) d_Line_join_28
set_option maxHeartbeats 4000000 in
set_option maxRecDepth 100000 in
theorem c_Line_leave (l : Launch) (D : va_G) (cs : Nat → ClassId) (M : xM) (sz : Nat) (x v P : gV) (o w : List Nat) (p0 : Nat) (hR : cR cs M x v P o w) (hp0 : p0 ≤ v 12 0) (hj : P 0 p0 = 0 ∨ P 0 p0 ≤ v 12 1) : Met l y_Line_leave w_Line_leave ({ frames := 0, cells := 0, slots := 0, locals := 0 }) (xPc D classes (xtys cs) M sz [.ref (x 2 p0)]) (xQ D classes M sz (fun rv M1 => ∃ q : Option Nat, rv = some (va_rf q) ∧ ((P 0 p0 = 0 ∧ q = none ∧ M1 = M) ∨ (1 ≤ P 0 p0 ∧ q = some (x 3 (P 0 p0)) ∧ cR cs M1 x v (lvP P p0 (P 0 p0)) o w)))) 0 0 (xA M sz) := by
  refine x_met (maxL := 2) (ret := (some (.object "GateTimes$Item"))) (by decide) (Nat.le_of_ble_eq_true rfl) ?_
  intro p e s m below meth c ls hsz hF hr hlk hnm hK hZ hw hl
  obtain ⟨hx, hb, hml, hown, hts⟩ := id hF
  have hA : ∀ q, s.heap.size ≤ q → xA M sz q := x_hA hsz
  have hl : lv_has ls 2 [(0, .ref (x 2 p0))] := hl
  have f0 : M (x 2 p0) = some (cLine x P p0) := hR.1 2 p0 (vd2 hp0)
  refine lv_aload_n hx hb d_Line_leave_0 rfl (lv_at hl 0 rfl) ?_
  refine x_get (C := "GateTimes$Line") (T := F_Line) (N := 2) hx hb hts i_Line hown hK hw f0 rfl 0 (by decide) (hts _ wd_72) (fun _ h9 => h9) rfl d_Line_leave_1 ?_
  refine x_astore_n (lv' := [(1, va_rf (rI x (P 0 p0))), (0, .ref (x 2 p0))]) hx hb d_Line_leave_4 rfl hl (by decide) rfl (fun ls hl => ?_)
  refine x_aload_n hx hb d_Line_leave_5 rfl (lv_at hl 0 rfl) ?_
  refine x_ifnull (tgt := 34) hx hb d_Line_leave_6 (by decide) (fun c6 => ?_) (fun q c6 => ?_)
  ·
    refine x_aload_n hx hb d_Line_leave_34 rfl (lv_at hl 0 rfl) ?_
    exact x_aret (r := rI x (P 0 p0)) hx hb hr hlk hw (⟨rI x (P 0 p0), rfl, Or.inl ⟨rI_none c6, c6, rfl⟩⟩) d_Line_leave_35
  ·
    obtain ⟨j1, -⟩ := rI_some c6
    have j2 : P 0 p0 ≤ v 12 1 := by omega
    rw [rI_s x j1] at hl
    have hl : lv_has ls 2 [(1, .ref (x 3 (P 0 p0))), (0, .ref (x 2 p0))] := hl
    have f3 : M (x 3 (P 0 p0)) = some (cItem x v P (P 0 p0)) := hR.1 3 _ (vd3 j1 j2)
    refine lv_aload_n hx hb d_Line_leave_9 rfl (lv_at hl 1 rfl) ?_
    refine lv_aload_n hx hb d_Line_leave_10 rfl (lv_at hl 0 rfl) ?_
    refine x_get (C := "GateTimes$Item") (T := F_Item) (N := 7) hx hb hts i_Item hown hK hw f3 rfl 6 (by decide) (hts _ wd_149) (fun _ h9 => h9) rfl d_Line_leave_11 ?_
    refine x_put (C := "GateTimes$Line") (T := F_Line) (N := 2) (ty := .object "GateTimes$Item") hx hb hts i_Line t_Line t_Line_ok n_Line hown hK hw f0 rfl 0 (by decide) (hts _ wd_72) (fun _ h9 => h9) rfl (by decide +kernel) (x_nar (rI x (P 2 (P 0 p0)))) (x_fit (rI x (P 2 (P 0 p0)))) (Nat.le_of_ble_eq_true rfl) d_Line_leave_14 (fun M1 H locs eM1 hw => ?_)
    have hR1 : cR cs M1 x v (up2 P 0 p0 (P 2 (P 0 p0))) o w := cR_line hR hp0 (fun a b h9 => by unfold up2; rw [if_neg (fun z => h9 ⟨Or.inl z.1, z.2⟩)]) (by rw [eM1]; unfold cLine; rw [up2_self, up2_k _ _ _ _ (show (1 : Nat) ≠ 0 by decide)]; rfl)
    have f3 : M1 (x 3 (P 0 p0)) = some (cItem x v (up2 P 0 p0 (P 2 (P 0 p0))) (P 0 p0)) := hR1.1 3 _ (vd3 j1 j2)
    refine lv_aload_n hx hb d_Line_leave_17 rfl (lv_at hl 0 rfl) ?_
    refine lv_null hx hb d_Line_leave_18 ?_
    refine x_put (C := "GateTimes$Item") (T := F_Item) (N := 7) (ty := .object "GateTimes$Item") hx hb hts i_Item t_Item t_Item_ok n_Item hown hK hw f3 rfl 6 (by decide) (hts _ wd_149) (fun _ h9 => h9) rfl (by decide +kernel) rfl rfl (Nat.le_of_ble_eq_true rfl) d_Line_leave_19 (fun M2 H locs eM2 hw => ?_)
    have hR2 : cR cs M2 x v (up2 (up2 P 0 p0 (P 2 (P 0 p0))) 2 (P 0 p0) 0) o w := cR_behind hR1 j1 j2 (fun a b h9 => by unfold up2; rw [if_neg h9]) (by rw [eM2]; unfold cItem; rw [up2_self]; rfl)
    have f0 : M2 (x 2 p0) = some (.inr (kLine, [va_rf (rI x (P 2 (P 0 p0))), va_rf (rI x (P 1 p0))])) := by
      rw [hR2.1 2 p0 (vd2 hp0)]
      simp only [cel, cLine]
      rw [up2_k _ _ _ _ (show (0 : Nat) ≠ 2 by decide), up2_self, up2_k _ _ _ _ (show (1 : Nat) ≠ 2 by decide), up2_k _ _ _ _ (show (1 : Nat) ≠ 0 by decide)]
    refine lv_aload_n hx hb d_Line_leave_22 rfl (lv_at hl 1 rfl) ?_
    refine x_get (C := "GateTimes$Line") (T := F_Line) (N := 2) hx hb hts i_Line hown hK hw f0 rfl 0 (by decide) (hts _ wd_72) (fun _ h9 => h9) rfl d_Line_leave_23 ?_
    refine x_ifnonnull (tgt := 34) hx hb d_Line_leave_26 (by decide) (fun q c26 => ?_) (fun c26 => ?_)
    ·
      have e0 := (rI_some c26).1
      refine lv_aload_n hx hb d_Line_leave_34 rfl (lv_at hl 0 rfl) ?_
      exact x_aret (r := some (x 3 (P 0 p0))) hx hb hr hlk hw (⟨some (x 3 (P 0 p0)), rfl, Or.inr ⟨j1, rfl, by unfold lvP; rw [if_neg (by omega)]; exact hR2⟩⟩) d_Line_leave_35
    ·
      have e0 : P 2 (P 0 p0) = 0 := rI_none c26
      refine lv_aload_n hx hb d_Line_leave_29 rfl (lv_at hl 1 rfl) ?_
      refine lv_null hx hb d_Line_leave_30 ?_
      refine x_put (C := "GateTimes$Line") (T := F_Line) (N := 2) (ty := .object "GateTimes$Item") hx hb hts i_Line t_Line t_Line_ok n_Line hown hK hw f0 rfl 1 (by decide) (hts _ wd_74) (fun _ h9 => h9) rfl (by decide +kernel) rfl rfl (Nat.le_of_ble_eq_true rfl) d_Line_leave_31 (fun M3 H locs eM3 hw => ?_)
      refine lv_aload_n hx hb d_Line_leave_34 rfl (lv_at hl 0 rfl) ?_
      exact x_aret (r := some (x 3 (P 0 p0))) hx hb hr hlk hw (⟨some (x 3 (P 0 p0)), rfl, Or.inr ⟨j1, rfl, by unfold lvP; rw [if_pos e0]; exact cR_line hR2 hp0 (fun a b h9 => by unfold up2; rw [if_neg (fun z => h9 ⟨Or.inr z.1, z.2⟩)]) (by rw [eM3]; unfold cLine; rw [up2_self, up2_k _ _ _ _ (show (0 : Nat) ≠ 1 by decide), up2_k _ _ _ _ (show (0 : Nat) ≠ 2 by decide), up2_self]; rfl)⟩⟩) d_Line_leave_35
