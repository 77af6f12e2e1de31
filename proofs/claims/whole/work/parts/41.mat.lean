theorem ev_off {cs : Nat → ClassId} {m0 : Nat} {v : gV} {o : List Nat} {i0 g0 : Nat} (ho : opv v i0 g0 ≠ 1) : ∀ k, k < 16 → (va_up (va_up (va_up (va_up (mel cs m0 v o) 8 (aI (cs 2) 13 (fun h => nI (evt v i0 g0 6 h)))) 10 (aI (cs 2) 13 (fun h => if evt v i0 g0 8 h = 0 then 0 else 1))) 11 (aL (cs 1) 13 (fun h => lN (evt v i0 g0 8 h - 200)))) 4 (aI (cs 0) 401 (fun j => nI (evt v i0 g0 4 j)))) k = mel cs m0 (evt v i0 g0) o k := by
  have k0 : ∀ j, evt v i0 g0 0 j = v 0 j := fun j => evt_k (by decide)
  have k1 : ∀ j, evt v i0 g0 1 j = v 1 j := fun j => evt_k (by decide)
  have k2 : ∀ j, evt v i0 g0 2 j = v 2 j := fun j => evt_k (by decide)
  have k5 : ∀ j, evt v i0 g0 5 j = v 5 j := fun j => evt_k (by decide)
  have k7 : ∀ j, evt v i0 g0 7 j = v 7 j := fun j => evt_k (by decide)
  have k9 : ∀ j, evt v i0 g0 9 j = v 9 j := fun j => evt_k (by decide)
  have k12 : ∀ j, evt v i0 g0 12 j = v 12 j := fun j => evt_k (by decide)
  have k3 : ∀ j, evt v i0 g0 3 j = v 3 j := fun j => evx_3n j ho
  have k10 : ∀ j, evt v i0 g0 10 j = v 10 j := fun j => evx_10n j ho
  have k11 : ∀ j, evt v i0 g0 11 j = v 11 j := fun j => evx_11n j ho
  refine m16 ?_ ?_ ?_ ?_ ?_ ?_ ?_ ?_ ?_ ?_ ?_ ?_ ?_ ?_ ?_ ?_
  · show mHead m0 v o = mHead m0 (evt v i0 g0) o
    simp only [mHead, k12]
  · show mel cs m0 v o 1 = mel cs m0 (evt v i0 g0) o 1
    simp only [mel, k0]
  · show mel cs m0 v o 2 = mel cs m0 (evt v i0 g0) o 2
    simp only [mel, k1]
  · show mel cs m0 v o 3 = mel cs m0 (evt v i0 g0) o 3
    simp only [mel, k12, k2]
  · rfl
  · show mel cs m0 v o 5 = mel cs m0 (evt v i0 g0) o 5
    simp only [mel, k12, k3]
  · show mel cs m0 v o 6 = mel cs m0 (evt v i0 g0) o 6
    simp only [mel, k5]
  · show mel cs m0 v o 7 = mel cs m0 (evt v i0 g0) o 7
    simp only [mel, k3, tm, k0]
  · rfl
  · show mel cs m0 v o 9 = mel cs m0 (evt v i0 g0) o 9
    simp only [mel, k7]
  · rfl
  · rfl
  · show mel cs m0 v o 12 = mel cs m0 (evt v i0 g0) o 12
    simp only [mel, k9]
  · show mel cs m0 v o 13 = mel cs m0 (evt v i0 g0) o 13
    simp only [mel, k10]
  · show mel cs m0 v o 14 = mel cs m0 (evt v i0 g0) o 14
    simp only [mel, k11]
  · rfl
theorem ev_in {cs : Nat → ClassId} {m0 : Nat} {v : gV} {o : List Nat} {i0 g0 : Nat} (ho : opv v i0 g0 = 1) : ∀ k, k < 16 → (va_up (va_up (va_up (va_up (va_up (va_up (va_up (mel cs m0 v o) 8 (aI (cs 2) 13 (fun h => nI (evt v i0 g0 6 h)))) 10 (aI (cs 2) 13 (fun h => if evt v i0 g0 8 h = 0 then 0 else 1))) 11 (aL (cs 1) 13 (fun h => lN (evt v i0 g0 8 h - 200)))) 5 (aI (cs 0) 401 (fun j => if j = 0 ∨ evt v i0 g0 12 1 < j then 0 else eN (evt v i0 g0 3 j)))) 7 (aL (cs 1) 401 (fun j => if evt v i0 g0 3 j = 0 then 0 else lN (tm (evt v i0 g0) j)))) 13 (aI (cs 0) 13 (fun h => nI (evt v i0 g0 10 h)))) 14 (aI (cs 0) 13 (fun h => nI (evt v i0 g0 11 h)))) k = mel cs m0 (evt v i0 g0) o k := by
  have k0 : ∀ j, evt v i0 g0 0 j = v 0 j := fun j => evt_k (by decide)
  have k1 : ∀ j, evt v i0 g0 1 j = v 1 j := fun j => evt_k (by decide)
  have k2 : ∀ j, evt v i0 g0 2 j = v 2 j := fun j => evt_k (by decide)
  have k5 : ∀ j, evt v i0 g0 5 j = v 5 j := fun j => evt_k (by decide)
  have k7 : ∀ j, evt v i0 g0 7 j = v 7 j := fun j => evt_k (by decide)
  have k9 : ∀ j, evt v i0 g0 9 j = v 9 j := fun j => evt_k (by decide)
  have k12 : ∀ j, evt v i0 g0 12 j = v 12 j := fun j => evt_k (by decide)
  have k4 : ∀ j, evt v i0 g0 4 j = v 4 j := fun j => evx_4y j ho
  refine m16 ?_ ?_ ?_ ?_ ?_ ?_ ?_ ?_ ?_ ?_ ?_ ?_ ?_ ?_ ?_ ?_
  · show mHead m0 v o = mHead m0 (evt v i0 g0) o
    simp only [mHead, k12]
  · show mel cs m0 v o 1 = mel cs m0 (evt v i0 g0) o 1
    simp only [mel, k0]
  · show mel cs m0 v o 2 = mel cs m0 (evt v i0 g0) o 2
    simp only [mel, k1]
  · show mel cs m0 v o 3 = mel cs m0 (evt v i0 g0) o 3
    simp only [mel, k12, k2]
  · show mel cs m0 v o 4 = mel cs m0 (evt v i0 g0) o 4
    simp only [mel, k4]
  · rfl
  · show mel cs m0 v o 6 = mel cs m0 (evt v i0 g0) o 6
    simp only [mel, k5]
  · rfl
  · rfl
  · show mel cs m0 v o 9 = mel cs m0 (evt v i0 g0) o 9
    simp only [mel, k7]
  · rfl
  · rfl
  · show mel cs m0 v o 12 = mel cs m0 (evt v i0 g0) o 12
    simp only [mel, k9]
  · rfl
  · rfl
  · rfl
set_option maxHeartbeats 4000000 in
set_option maxRecDepth 100000 in
theorem c_Mo_at (l : Launch) (D : va_G) (cs : Nat → ClassId) (M : xM) (sz : Nat) (m0 : Nat) (v : gV) (o : List Nat) (hm : mR cs M m0 v o) (i0 g0 : Nat) (hi1 : 1 ≤ i0) (hi2 : i0 ≤ v 12 1) (hn : v 12 1 ≤ 400) (hg : g0 ≤ v 12 0) (hG : v 12 0 ≤ 12) (h6 : v 6 g0 ≤ 1) (h7 : v 7 g0 ≤ 1) (h8 : v 8 g0 ≤ 1000020000) (h8b : v 8 g0 = 0 ∨ 200 ≤ v 8 g0) (h9 : v 9 g0 ≤ 1000) (h10 : v 10 g0 < 100000) (h0 : v 0 i0 ≤ 1000000000) (h1 : v 1 i0 ≤ 900) (h2 : v 2 i0 ≤ 12) (h3 : v 3 i0 = 0) : Met l y_Mo_at w_Mo_at ({ frames := 1, cells := 0, slots := 0, locals := 22 }) (xPc D classes (xtys cs) M sz [.ref m0, .int (nI i0), .int (nI g0)]) (xQ D classes M sz (fun rv M1 => rv = none ∧ mR cs M1 m0 (evt v i0 g0) o)) 0 0 (xA M sz) := by
  refine x_met (maxL := 7) (ret := (none)) (by decide) (Nat.le_of_ble_eq_true rfl) ?_
  intro p e s m below meth c ls hsz hF hr hlk hnm hK hZ hw hl
  obtain ⟨hx, hb, hml, hown, hts⟩ := id hF
  have hA : ∀ q, s.heap.size ≤ q → xA M sz q := x_hA hsz
  have hl : lv_has ls 7 [(0, .ref m0), (1, .int (nI i0)), (2, .int (nI g0))] := hl
  have z0 : M m0 = some (mHead m0 v o) := hm 0 (by decide)
  have g1 : M (m0 + 1) = some (aL (cs 1) 401 (fun j => lN (v 0 j))) := hm 1 (by decide)
  have g2 : M (m0 + 2) = some (aL (cs 1) 401 (fun j => lN (v 1 j))) := hm 2 (by decide)
  have g3 : M (m0 + 3) = some (aI (cs 0) 401 (fun j => if j = 0 ∨ v 12 1 < j then 0 else eN (v 2 j))) := hm 3 (by decide)
  have g4 : M (m0 + 4) = some (aI (cs 0) 401 (fun j => nI (v 4 j))) := hm 4 (by decide)
  have g5 : M (m0 + 5) = some (aI (cs 0) 401 (fun j => if j = 0 ∨ v 12 1 < j then 0 else eN (v 3 j))) := hm 5 (by decide)
  have g6 : M (m0 + 6) = some (aI (cs 0) 401 (fun j => nI (v 5 j))) := hm 6 (by decide)
  have g7 : M (m0 + 7) = some (aL (cs 1) 401 (fun j => if v 3 j = 0 then 0 else lN (tm v j))) := hm 7 (by decide)
  have g8 : M (m0 + 8) = some (aI (cs 2) 13 (fun g => nI (v 6 g))) := hm 8 (by decide)
  have g9 : M (m0 + 9) = some (aI (cs 2) 13 (fun g => nI (v 7 g))) := hm 9 (by decide)
  have g10 : M (m0 + 10) = some (aI (cs 2) 13 (fun g => if v 8 g = 0 then 0 else 1)) := hm 10 (by decide)
  have g11 : M (m0 + 11) = some (aL (cs 1) 13 (fun g => lN (v 8 g - 200))) := hm 11 (by decide)
  have g12 : M (m0 + 12) = some (aI (cs 0) 13 (fun g => nI (v 9 g))) := hm 12 (by decide)
  have g13 : M (m0 + 13) = some (aI (cs 0) 13 (fun g => nI (v 10 g))) := hm 13 (by decide)
  have g14 : M (m0 + 14) = some (aI (cs 0) 13 (fun g => nI (v 11 g))) := hm 14 (by decide)
  have g15 : M (m0 + 15) = some (aI (cs 0) 400 (fun k => nI (oat o k))) := hm 15 (by decide)
  have hfb : fr v i0 g0 < 1000020000 := by unfold fr; omega
  have hi3 : i0 < 401 := by omega
  have hg3 : g0 < 13 := by omega
  have hop1 : opv v i0 g0 ≤ 1 := opv_le h6
  obtain ⟨B, hB⟩ : ∃ B : Nat, B = if g0 < v 12 0 ∧ v 2 i0 = g0 + 1 ∧ v 10 g0 < v 9 g0 then 1 else 0 := ⟨_, rfl⟩
  have hB1 : B ≤ 1 := by rw [hB]; split <;> omega
  obtain ⟨C, hC⟩ : ∃ C : Nat, C = if v 7 g0 = 0 ∧ v 8 g0 ≤ fr v i0 g0 then 1 else 0 := ⟨_, rfl⟩
  have hC1 : C ≤ 1 := by rw [hC]; split <;> omega
  refine lv_aload_n hx hb d_Mo_at_0 rfl (lv_at hl 0 rfl) ?_
  refine lv_iload_n hx hb d_Mo_at_1 rfl (lv_at hl 1 rfl) ?_
  refine lv_iload_n hx hb d_Mo_at_2 rfl (lv_at hl 2 rfl) ?_
  refine x_calllM (va_runV (As := [.int (nI i0), .int (nI g0)]) (rest := []) hF (c_Mo_front l D cs M _ m0 v o hm i0 g0 (by omega) (by omega)) (x_cwV 2 hts wd_351 wd_353 wp_11 wd_6 wd_354 rfl rfl (by decide +kernel) ⟨Nat.le_of_ble_eq_true rfl, Nat.le_of_ble_eq_true rfl⟩) (x_preV hK hZ hw z0 rfl) rfl rfl hl.1 rfl (lv_room (Nat.le_of_ble_eq_true rfl)) d_Mo_at_3 ⟨Nat.le_of_ble_eq_true rfl, Nat.le_of_ble_eq_true rfl⟩) hw hA (fun r H locs hp hw => ?_)
  subst hp
  refine lv_lstore_n (lv' := [(3, .long (lN (fr v i0 g0))), (0, .ref m0), (1, .int (nI i0)), (2, .int (nI g0))]) hx hb d_Mo_at_6 rfl hl (by decide) rfl (fun ls hl => ?_)
  refine x_cut (α := Int32) 45 (fun b => b = nI B) (fun b => [.int b]) (fun b hJ => ?_) (fun J45 => ?_)
  ·
    subst hJ
    refine lv_istore (lv' := [(5, .int (nI B)), (3, .long (lN (fr v i0 g0))), (0, .ref m0), (1, .int (nI i0)), (2, .int (nI g0))]) hx hb d_Mo_at_45 hl (by decide) rfl (fun ls hl => ?_)
    refine x_cut (α := Int32) 85 (fun b => b = nI C) (fun b => [.int b]) (fun b hJ => ?_) (fun J85 => ?_)
    ·
      subst hJ
      refine lv_istore (lv' := [(6, .int (nI C)), (5, .int (nI B)), (3, .long (lN (fr v i0 g0))), (0, .ref m0), (1, .int (nI i0)), (2, .int (nI g0))]) hx hb d_Mo_at_85 hl (by decide) rfl (fun ls hl => ?_)
      refine lv_aload_n hx hb d_Mo_at_87 rfl (lv_at hl 3 rfl) ?_
      refine x_get (C := "GateTimesModel") (T := F_Mo) (N := 21) hx hb hts i_Mo hown hK hw z0 rfl 10 (by decide) (hts _ wd_269) (fun _ h9 => h9) rfl d_Mo_at_88 ?_
      refine lv_iload_n hx hb d_Mo_at_91 rfl (lv_at hl 5 rfl) ?_
      refine x_cut (α := Int32) 127 (fun b => b = nI (opv v i0 g0)) (fun b => [.int b, .int (nI g0), .ref (m0 + 8)]) (fun b hJ => ?_) (fun J127 => ?_)
      ·
        subst hJ
        refine x_zastN hx hb hK hw g8 2 rfl hg3 (by decide) d_Mo_at_127 (fun M1 H locs eM1 hw => ?_)
        rw [zn_b hop1, ma_8] at eM1
        have x1 := mX_set (mX_of hm) eM1
        have z0 : M1 m0 = some (mHead m0 v o) := x1 0 (by decide)
        have g10 : M1 (m0 + 10) = some (aI (cs 2) 13 (fun g => if v 8 g = 0 then 0 else 1)) := x1 10 (by decide)
        refine lv_aload_n hx hb d_Mo_at_128 rfl (lv_at hl 3 rfl) ?_
        refine x_get (C := "GateTimesModel") (T := F_Mo) (N := 21) hx hb hts i_Mo hown hK hw z0 rfl 12 (by decide) (hts _ wd_271) (fun _ h9 => h9) rfl d_Mo_at_129 ?_
        refine lv_iload_n hx hb d_Mo_at_132 rfl (lv_at hl 5 rfl) ?_
        refine lv_iconst (v := 1) hx hb d_Mo_at_133 (by decide) ?_
        refine x_zastN hx hb hK hw g10 2 rfl hg3 (by decide) d_Mo_at_134 (fun M2 H locs eM2 hw => ?_)
        rw [show vp_nar .boolean 1 = 1 from rfl, ma_10 (i := i0)] at eM2
        have x2 := mX_set x1 eM2
        have z0 : M2 m0 = some (mHead m0 v o) := x2 0 (by decide)
        have g11 : M2 (m0 + 11) = some (aL (cs 1) 13 (fun g => lN (v 8 g - 200))) := x2 11 (by decide)
        have g2 : M2 (m0 + 2) = some (aL (cs 1) 401 (fun j => lN (v 1 j))) := x2 2 (by decide)
        refine lv_aload_n hx hb d_Mo_at_135 rfl (lv_at hl 3 rfl) ?_
        refine x_get (C := "GateTimesModel") (T := F_Mo) (N := 21) hx hb hts i_Mo hown hK hw z0 rfl 13 (by decide) (hts _ wd_272) (fun _ h9 => h9) rfl d_Mo_at_136 ?_
        refine lv_iload_n hx hb d_Mo_at_139 rfl (lv_at hl 5 rfl) ?_
        refine lv_lload_n hx hb d_Mo_at_140 rfl (lv_at hl 2 rfl) ?_
        refine lv_aload_n hx hb d_Mo_at_141 rfl (lv_at hl 3 rfl) ?_
        refine x_get (C := "GateTimesModel") (T := F_Mo) (N := 21) hx hb hts i_Mo hown hK hw z0 rfl 4 (by decide) (hts _ wd_263) (fun _ h9 => h9) rfl d_Mo_at_142 ?_
        refine lv_iload_n hx hb d_Mo_at_145 rfl (lv_at hl 4 rfl) ?_
        refine x_laldN hx hb hK hw g2 1 rfl hi3 (by decide) d_Mo_at_146 ?_
        refine lv_ladd hx hb d_Mo_at_147 ?_
        refine lv_topl (fun n147 en147 => ?_)
        obtain rfl : n147 = lN (fr v i0 g0 + v 1 i0) := en147.trans (lN_add _ _)
        refine x_lastN hx hb hK hw g11 1 rfl hg3 (by decide) d_Mo_at_148 (fun M3 H locs eM3 hw => ?_)
        rw [ma_11] at eM3
        have x3 := mX_set x2 eM3
        have z0 : M3 m0 = some (mHead m0 v o) := x3 0 (by decide)
        have g8 : M3 (m0 + 8) = some (aI (cs 2) 13 (fun h => nI (evt v i0 g0 6 h))) := x3 8 (by decide)
        refine lv_aload_n hx hb d_Mo_at_149 rfl (lv_at hl 3 rfl) ?_
        refine x_get (C := "GateTimesModel") (T := F_Mo) (N := 21) hx hb hts i_Mo hown hK hw z0 rfl 10 (by decide) (hts _ wd_269) (fun _ h9 => h9) rfl d_Mo_at_150 ?_
        refine lv_iload_n hx hb d_Mo_at_153 rfl (lv_at hl 5 rfl) ?_
        refine x_zaldN hx hb hK hw g8 2 rfl hg3 (by decide) d_Mo_at_154 ?_
        rw [evt_6]
        refine lv_if_eq (tgt := 195) hx hb d_Mo_at_155 (by decide) (fun c155 => ?_) (fun c155 => ?_)
        ·
          have hop : opv v i0 g0 ≠ 1 := by
            have : opv v i0 g0 = 0 := nI_inj2 (by omega) (by decide) c155
            omega
          have g4 : M3 (m0 + 4) = some (aI (cs 0) 401 (fun j => nI (v 4 j))) := x3 4 (by decide)
          refine lv_aload_n hx hb d_Mo_at_195 rfl (lv_at hl 3 rfl) ?_
          refine x_get (C := "GateTimesModel") (T := F_Mo) (N := 21) hx hb hts i_Mo hown hK hw z0 rfl 6 (by decide) (hts _ wd_265) (fun _ h9 => h9) rfl d_Mo_at_196 ?_
          refine lv_iload_n hx hb d_Mo_at_199 rfl (lv_at hl 4 rfl) ?_
          refine lv_dup2_11 hx hb d_Mo_at_200 rfl rfl ?_
          refine x_ialdN hx hb hK hw g4 0 rfl hi3 (by decide) d_Mo_at_201 ?_
          refine lv_iconst (v := 1) hx hb d_Mo_at_202 (by decide) ?_
          refine lv_iadd hx hb d_Mo_at_203 ?_
          refine lv_topi (fun n203 en203 => ?_)
          obtain rfl : n203 = nI (v 4 i0 + 1) := en203.trans (nI_1 _)
          refine x_iastN hx hb hK hw g4 0 rfl hi3 (by decide) d_Mo_at_204 (fun M4 H locs eM4 hw => ?_)
          rw [ma_4 hop] at eM4
          have x4 := mX_set x3 eM4
          have hE : mR cs M4 m0 (evt v i0 g0) o := mX_to x4 (ev_off hop)
          exact x_vret hx hb hr hlk hw (⟨rfl, hE⟩) d_Mo_at_205
        ·
          have hop : opv v i0 g0 = 1 := by
            have : opv v i0 g0 ≠ 0 := fun z => c155 (by rw [z]; exact nI_0)
            omega
          have g5 : M3 (m0 + 5) = some (aI (cs 0) 401 (fun j => if j = 0 ∨ v 12 1 < j then 0 else eN (v 3 j))) := x3 5 (by decide)
          refine lv_aload_n hx hb d_Mo_at_158 rfl (lv_at hl 3 rfl) ?_
          refine x_get (C := "GateTimesModel") (T := F_Mo) (N := 21) hx hb hts i_Mo hown hK hw z0 rfl 7 (by decide) (hts _ wd_266) (fun _ h9 => h9) rfl d_Mo_at_159 ?_
          refine lv_iload_n hx hb d_Mo_at_162 rfl (lv_at hl 4 rfl) ?_
          refine lv_iload_n hx hb d_Mo_at_163 rfl (lv_at hl 5 rfl) ?_
          refine x_iastN hx hb hK hw g5 0 rfl hi3 (by decide) d_Mo_at_164 (fun M4 H locs eM4 hw => ?_)
          rw [ma_5 hop hi1 hi2] at eM4
          have x4 := mX_set x3 eM4
          have z0 : M4 m0 = some (mHead m0 v o) := x4 0 (by decide)
          have g7 : M4 (m0 + 7) = some (aL (cs 1) 401 (fun j => if v 3 j = 0 then 0 else lN (tm v j))) := x4 7 (by decide)
          refine lv_aload_n hx hb d_Mo_at_165 rfl (lv_at hl 3 rfl) ?_
          refine x_get (C := "GateTimesModel") (T := F_Mo) (N := 21) hx hb hts i_Mo hown hK hw z0 rfl 9 (by decide) (hts _ wd_268) (fun _ h9 => h9) rfl d_Mo_at_166 ?_
          refine lv_iload_n hx hb d_Mo_at_169 rfl (lv_at hl 4 rfl) ?_
          refine lv_lload_n hx hb d_Mo_at_170 rfl (lv_at hl 2 rfl) ?_
          refine x_lastN hx hb hK hw g7 1 rfl hi3 (by decide) d_Mo_at_171 (fun M5 H locs eM5 hw => ?_)
          rw [ma_7 hop] at eM5
          have x5 := mX_set x4 eM5
          have z0 : M5 m0 = some (mHead m0 v o) := x5 0 (by decide)
          have g13 : M5 (m0 + 13) = some (aI (cs 0) 13 (fun g => nI (v 10 g))) := x5 13 (by decide)
          refine lv_aload_n hx hb d_Mo_at_172 rfl (lv_at hl 3 rfl) ?_
          refine x_get (C := "GateTimesModel") (T := F_Mo) (N := 21) hx hb hts i_Mo hown hK hw z0 rfl 15 (by decide) (hts _ wd_274) (fun _ h9 => h9) rfl d_Mo_at_173 ?_
          refine lv_iload_n hx hb d_Mo_at_176 rfl (lv_at hl 5 rfl) ?_
          refine lv_dup2_11 hx hb d_Mo_at_177 rfl rfl ?_
          refine x_ialdN hx hb hK hw g13 0 rfl hg3 (by decide) d_Mo_at_178 ?_
          refine lv_iconst (v := 1) hx hb d_Mo_at_179 (by decide) ?_
          refine lv_iadd hx hb d_Mo_at_180 ?_
          refine lv_topi (fun n180 en180 => ?_)
          obtain rfl : n180 = nI (v 10 g0 + 1) := en180.trans (nI_1 _)
          refine x_iastN hx hb hK hw g13 0 rfl hg3 (by decide) d_Mo_at_181 (fun M6 H locs eM6 hw => ?_)
          rw [ma_13 hop] at eM6
          have x6 := mX_set x5 eM6
          have z0 : M6 m0 = some (mHead m0 v o) := x6 0 (by decide)
          have g14 : M6 (m0 + 14) = some (aI (cs 0) 13 (fun g => nI (v 11 g))) := x6 14 (by decide)
          refine lv_aload_n hx hb d_Mo_at_182 rfl (lv_at hl 3 rfl) ?_
          refine x_get (C := "GateTimesModel") (T := F_Mo) (N := 21) hx hb hts i_Mo hown hK hw z0 rfl 16 (by decide) (hts _ wd_275) (fun _ h9 => h9) rfl d_Mo_at_183 ?_
          refine lv_iload_n hx hb d_Mo_at_186 rfl (lv_at hl 5 rfl) ?_
          refine lv_dup2_11 hx hb d_Mo_at_187 rfl rfl ?_
          refine x_ialdN hx hb hK hw g14 0 rfl hg3 (by decide) d_Mo_at_188 ?_
          refine lv_iconst (v := 1) hx hb d_Mo_at_189 (by decide) ?_
          refine lv_iadd hx hb d_Mo_at_190 ?_
          refine lv_topi (fun n190 en190 => ?_)
          obtain rfl : n190 = nI (v 11 g0 + 1) := en190.trans (nI_1 _)
          refine x_iastN hx hb hK hw g14 0 rfl hg3 (by decide) d_Mo_at_191 (fun M7 H locs eM7 hw => ?_)
          rw [ma_14 hop] at eM7
          have x7 := mX_set x6 eM7
          have hE : mR cs M7 m0 (evt v i0 g0) o := mX_to x7 (ev_in hop)
          refine lv_goto (tgt := 205) hx hb d_Mo_at_192 (by decide) ?_
          exact x_vret hx hb hr hlk hw (⟨rfl, hE⟩) d_Mo_at_205
      ·
        refine lv_iload_n hx hb d_Mo_at_92 rfl (lv_at hl 5 rfl) ?_
        refine lv_aload_n hx hb d_Mo_at_93 rfl (lv_at hl 3 rfl) ?_
        refine x_get (C := "GateTimesModel") (T := F_Mo) (N := 21) hx hb hts i_Mo hown hK hw z0 rfl 1 (by decide) (hts _ wd_260) (fun _ h9 => h9) rfl d_Mo_at_94 ?_
        refine lv_icmp_eq (tgt := 122) hx hb d_Mo_at_97 (by decide) (fun c97 => ?_) (fun c97 => ?_)
        ·
          refine lv_iconst (v := 1) hx hb d_Mo_at_122 (by decide) ?_
          refine lv_goto (tgt := 127) hx hb d_Mo_at_123 (by decide) ?_
          exact J127 1 (by rw [show opv v i0 g0 = 1 from by rw [nI_inj2 (by omega) (by omega) c97]; exact opv_last v i0]; rfl)
        ·
          have dg : g0 ≠ v 12 0 := fun z => c97 (by rw [z])
          have hop : opv v i0 g0 = if C = 1 then B else v 6 g0 := by
            unfold opv
            rw [if_neg dg, hC, hB]
            by_cases z : v 7 g0 = 0 ∧ v 8 g0 ≤ fr v i0 g0
            · rw [if_pos z, if_pos z, if_pos rfl]
              by_cases y : v 2 i0 = g0 + 1 ∧ v 10 g0 < v 9 g0
              · rw [if_pos y, if_pos ⟨by omega, y⟩]
              · rw [if_neg y, if_neg (fun x => y x.2)]
            · rw [if_neg z, if_neg z, if_neg (by decide)]
          refine lv_iload hx hb d_Mo_at_100 (lv_at hl 0 rfl) ?_
          refine lv_if_eq (tgt := 113) hx hb d_Mo_at_102 (by decide) (fun c102 => ?_) (fun c102 => ?_)
          ·
            have dc : C = 0 := nI_inj2 (by omega) (by decide) c102
            refine lv_aload_n hx hb d_Mo_at_113 rfl (lv_at hl 3 rfl) ?_
            refine x_get (C := "GateTimesModel") (T := F_Mo) (N := 21) hx hb hts i_Mo hown hK hw z0 rfl 10 (by decide) (hts _ wd_269) (fun _ h9 => h9) rfl d_Mo_at_114 ?_
            refine lv_iload_n hx hb d_Mo_at_117 rfl (lv_at hl 5 rfl) ?_
            refine x_zaldN hx hb hK hw g8 2 rfl hg3 (by decide) d_Mo_at_118 ?_
            refine lv_if_eq (tgt := 126) hx hb d_Mo_at_119 (by decide) (fun c119 => ?_) (fun c119 => ?_)
            ·
              refine lv_iconst (v := 0) hx hb d_Mo_at_126 (by decide) ?_
              exact J127 0 (by rw [show opv v i0 g0 = 0 from by rw [hop, if_neg (by omega)]; exact nI_inj2 (by omega) (by decide) c119, nI_0])
            ·
              refine lv_iconst (v := 1) hx hb d_Mo_at_122 (by decide) ?_
              refine lv_goto (tgt := 127) hx hb d_Mo_at_123 (by decide) ?_
              exact J127 1 (by rw [show opv v i0 g0 = 1 from by have z : v 6 g0 ≠ 0 := fun z => c119 (by rw [z]; exact nI_0); rw [hop, if_neg (by omega)]; omega]; rfl)
          ·
            have dc : C = 1 := by have z : C ≠ 0 := fun z => c102 (by rw [z]; exact nI_0); omega
            refine lv_iload hx hb d_Mo_at_105 (lv_at hl 1 rfl) ?_
            refine lv_if_eq (tgt := 126) hx hb d_Mo_at_107 (by decide) (fun c107 => ?_) (fun c107 => ?_)
            ·
              refine lv_iconst (v := 0) hx hb d_Mo_at_126 (by decide) ?_
              exact J127 0 (by rw [show opv v i0 g0 = 0 from by rw [hop, if_pos dc]; exact nI_inj2 (by omega) (by decide) c107, nI_0])
            ·
              refine lv_goto (tgt := 122) hx hb d_Mo_at_110 (by decide) ?_
              refine lv_iconst (v := 1) hx hb d_Mo_at_122 (by decide) ?_
              refine lv_goto (tgt := 127) hx hb d_Mo_at_123 (by decide) ?_
              exact J127 1 (by rw [show opv v i0 g0 = 1 from by have z : B ≠ 0 := fun z => c107 (by rw [z]; exact nI_0); rw [hop, if_pos dc]; omega]; rfl)
    ·
      refine lv_aload_n hx hb d_Mo_at_47 rfl (lv_at hl 2 rfl) ?_
      refine x_get (C := "GateTimesModel") (T := F_Mo) (N := 21) hx hb hts i_Mo hown hK hw z0 rfl 11 (by decide) (hts _ wd_270) (fun _ h9 => h9) rfl d_Mo_at_48 ?_
      refine lv_iload_n hx hb d_Mo_at_51 rfl (lv_at hl 4 rfl) ?_
      refine x_zaldN hx hb hK hw g9 2 rfl hg3 (by decide) d_Mo_at_52 ?_
      refine lv_if_ne (tgt := 84) hx hb d_Mo_at_53 (by decide) (fun c53 => ?_) (fun c53 => ?_)
      ·
        refine lv_iconst (v := 0) hx hb d_Mo_at_84 (by decide) ?_
        exact J85 0 (by rw [hC, if_neg (fun z => c53 (by rw [z.1]; exact nI_0)), nI_0])
      ·
        have d7 : v 7 g0 = 0 := nI_inj2 (by omega) (by decide) c53
        refine lv_aload_n hx hb d_Mo_at_56 rfl (lv_at hl 2 rfl) ?_
        refine x_get (C := "GateTimesModel") (T := F_Mo) (N := 21) hx hb hts i_Mo hown hK hw z0 rfl 12 (by decide) (hts _ wd_271) (fun _ h9 => h9) rfl d_Mo_at_57 ?_
        refine lv_iload_n hx hb d_Mo_at_60 rfl (lv_at hl 4 rfl) ?_
        refine x_zaldN hx hb hK hw g10 2 rfl hg3 (by decide) d_Mo_at_61 ?_
        by_cases d8 : v 8 g0 = 0
        ·
          rw [if_pos d8]
          refine lv_if_eq (tgt := 80) hx hb d_Mo_at_62 (by decide) (fun c62 => ?_) (fun c62 => False.elim (c62 rfl))
          refine lv_iconst (v := 1) hx hb d_Mo_at_80 (by decide) ?_
          refine lv_goto (tgt := 85) hx hb d_Mo_at_81 (by decide) ?_
          exact J85 1 (by rw [hC, if_pos (⟨d7, by omega⟩)]; rfl)
        ·
          rw [if_neg d8]
          refine lv_if_eq (tgt := 80) hx hb d_Mo_at_62 (by decide) (fun c62 => False.elim (absurd c62 (by decide))) (fun c62 => ?_)
          refine lv_lload_n hx hb d_Mo_at_65 rfl (lv_at hl 1 rfl) ?_
          refine lv_aload_n hx hb d_Mo_at_66 rfl (lv_at hl 2 rfl) ?_
          refine x_get (C := "GateTimesModel") (T := F_Mo) (N := 21) hx hb hts i_Mo hown hK hw z0 rfl 13 (by decide) (hts _ wd_272) (fun _ h9 => h9) rfl d_Mo_at_67 ?_
          refine lv_iload_n hx hb d_Mo_at_70 rfl (lv_at hl 4 rfl) ?_
          refine x_laldN hx hb hK hw g11 1 rfl hg3 (by decide) d_Mo_at_71 ?_
          refine lv_lsub hx hb d_Mo_at_72 ?_
          refine lv_topl (fun n72 en72 => ?_)
          refine lv_ldc2 (v := 200) hx hb hown (hts _ wd_360) d_Mo_at_73 ?_
          refine W.lcmp hx hb d_Mo_at_76 ?_
          rw [en72]
          refine lv_if_lt (tgt := 84) hx hb d_Mo_at_77 (by decide) (fun c77 => ?_) (fun c77 => ?_)
          ·
            replace c77 := (lg_cmp_lt _ _).mp c77
            refine lv_iconst (v := 0) hx hb d_Mo_at_84 (by decide) ?_
            exact J85 0 (by rw [hC, if_neg (fun z => absurd ((l_lt200 (by omega) (by omega) (by omega)).mp c77) (by omega)), nI_0])
          ·
            replace c77 := fun z => c77 ((lg_cmp_lt _ _).mpr z)
            refine lv_iconst (v := 1) hx hb d_Mo_at_80 (by decide) ?_
            refine lv_goto (tgt := 85) hx hb d_Mo_at_81 (by decide) ?_
            exact J85 1 (by rw [hC, if_pos (⟨d7, Nat.le_of_not_lt (fun z => c77 ((l_lt200 (by omega) (by omega) (by omega)).mpr z))⟩)]; rfl)
  ·
    refine lv_iload_n hx hb d_Mo_at_7 rfl (lv_at hl 3 rfl) ?_
    refine lv_aload_n hx hb d_Mo_at_8 rfl (lv_at hl 1 rfl) ?_
    refine x_get (C := "GateTimesModel") (T := F_Mo) (N := 21) hx hb hts i_Mo hown hK hw z0 rfl 1 (by decide) (hts _ wd_260) (fun _ h9 => h9) rfl d_Mo_at_9 ?_
    refine lv_icmp_ge (tgt := 44) hx hb d_Mo_at_12 (by decide) (fun c12 => ?_) (fun c12 => ?_)
    ·
      refine lv_iconst (v := 0) hx hb d_Mo_at_44 (by decide) ?_
      exact J45 0 (by rw [hB, if_neg (fun z => absurd ((nI_leI (by omega) (by omega)).mp c12) (by omega)), nI_0])
    ·
      refine lv_aload_n hx hb d_Mo_at_15 rfl (lv_at hl 1 rfl) ?_
      refine x_get (C := "GateTimesModel") (T := F_Mo) (N := 21) hx hb hts i_Mo hown hK hw z0 rfl 5 (by decide) (hts _ wd_264) (fun _ h9 => h9) rfl d_Mo_at_16 ?_
      refine lv_iload_n hx hb d_Mo_at_19 rfl (lv_at hl 2 rfl) ?_
      refine x_ialdN hx hb hK hw g3 0 rfl hi3 (by decide) d_Mo_at_20 ?_
      rw [if_neg (by omega)]
      refine lv_iload_n hx hb d_Mo_at_21 rfl (lv_at hl 3 rfl) ?_
      refine lv_icmp_ne (tgt := 44) hx hb d_Mo_at_22 (by decide) (fun c22 => ?_) (fun c22 => ?_)
      ·
        refine lv_iconst (v := 0) hx hb d_Mo_at_44 (by decide) ?_
        exact J45 0 (by rw [hB, if_neg (fun z => c22 ((eN_is (by omega) (by omega)).mpr z.2.1)), nI_0])
      ·
        refine lv_aload_n hx hb d_Mo_at_25 rfl (lv_at hl 1 rfl) ?_
        refine x_get (C := "GateTimesModel") (T := F_Mo) (N := 21) hx hb hts i_Mo hown hK hw z0 rfl 15 (by decide) (hts _ wd_274) (fun _ h9 => h9) rfl d_Mo_at_26 ?_
        refine lv_iload_n hx hb d_Mo_at_29 rfl (lv_at hl 3 rfl) ?_
        refine x_ialdN hx hb hK hw g13 0 rfl hg3 (by decide) d_Mo_at_30 ?_
        refine lv_aload_n hx hb d_Mo_at_31 rfl (lv_at hl 1 rfl) ?_
        refine x_get (C := "GateTimesModel") (T := F_Mo) (N := 21) hx hb hts i_Mo hown hK hw z0 rfl 14 (by decide) (hts _ wd_273) (fun _ h9 => h9) rfl d_Mo_at_32 ?_
        refine lv_iload_n hx hb d_Mo_at_35 rfl (lv_at hl 3 rfl) ?_
        refine x_ialdN hx hb hK hw g12 0 rfl hg3 (by decide) d_Mo_at_36 ?_
        refine lv_icmp_ge (tgt := 44) hx hb d_Mo_at_37 (by decide) (fun c37 => ?_) (fun c37 => ?_)
        ·
          refine lv_iconst (v := 0) hx hb d_Mo_at_44 (by decide) ?_
          exact J45 0 (by rw [hB, if_neg (fun z => absurd ((nI_leI (by omega) (by omega)).mp c37) (by omega)), nI_0])
        ·
          refine lv_iconst (v := 1) hx hb d_Mo_at_40 (by decide) ?_
          refine lv_goto (tgt := 45) hx hb d_Mo_at_41 (by decide) ?_
          exact J45 1 (by rw [hB, if_pos ⟨Nat.lt_of_not_le (fun z => c12 ((nI_leI (by omega) (by omega)).mpr z)), (eN_is (by omega) (by omega)).mp c22, Nat.lt_of_not_le (fun z => c37 ((nI_leI (by omega) (by omega)).mpr z))⟩]; rfl)
