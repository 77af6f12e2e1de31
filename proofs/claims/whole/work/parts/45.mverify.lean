set_option maxHeartbeats 4000000 in
set_option maxRecDepth 100000 in
theorem c_Mo_verify (l : Launch) (D : va_G) (cs : Nat → ClassId) (M : xM) (sz : Nat) (m0 : Nat) (v : gV) (o : List Nat) (hm : mR cs M m0 v o) (hG0 : gAll v o) (i wh : Int32) : Met l y_Mo_verify w_Mo_verify ({ frames := 0, cells := 0, slots := 0, locals := 0 }) (xPc D classes (xtys cs) M sz [.ref m0, .int i, .int wh]) (xQ D classes M sz (fun rv M1 => ∃ r : Int32, rv = some (.int r) ∧ pVer v o i wh r ∧ M1 = M)) 0 0 (xA M sz) := by
  have hI0 := hG0.1
  have hGb := hI0.1.2
  have hG1 := hI0.1.1
  have hn := hI0.2.1
  have hnow := hI0.2.2.1
  have z0 : M m0 = some (mHead m0 v o) := hm 0 (by decide)
  refine x_met (maxL := 7) (ret := (some .int)) (by decide) (Nat.le_of_ble_eq_true rfl) ?_
  intro p e s m below meth c ls hsz hF hr hlk hnm hK hZ hw hl
  obtain ⟨hx, hb, hml, hown, hts⟩ := id hF
  have hA : ∀ q, s.heap.size ≤ q → xA M sz q := x_hA hsz
  have hl : lv_has ls 7 [(0, .ref m0), (1, .int i), (2, .int wh)] := hl
  refine lv_aload_n hx hb d_Mo_verify_0 rfl (lv_at hl 0 rfl) ?_
  refine lv_iconst (v := 0) hx hb d_Mo_verify_1 (by decide) ?_
  refine x_put (C := "GateTimesModel") (T := F_Mo) (N := 21) (ty := .int) hx hb hts i_Mo t_Mo t_Mo_ok n_Mo hown hK hw z0 rfl 0 (by decide) (hts _ wd_259) (fun _ h9 => h9) rfl (by decide +kernel) rfl rfl (Nat.le_of_ble_eq_true rfl) d_Mo_verify_2 (fun M1 H locs eM1 hw => ?_)
  rw [x_up_id (e := mHead m0 v o) z0 eM1] at hw
  have g3 : M (m0 + 3) = some (aI (cs 0) 401 (fun j => if j = 0 ∨ v 12 1 < j then 0 else eN (v 2 j))) := hm 3 (by decide)
  have g5 : M (m0 + 5) = some (aI (cs 0) 401 (fun j => if j = 0 ∨ v 12 1 < j then 0 else eN (v 3 j))) := hm 5 (by decide)
  have g15 : M (m0 + 15) = some (aI (cs 0) 400 (fun k => nI (oat o k))) := hm 15 (by decide)
  have hlen := came_few hG0.2.1
  refine lv_iconst (v := 0) hx hb d_Mo_verify_5 (by decide) ?_
  refine lv_istore_n (lv' := [(3, .int 0), (0, .ref m0), (1, .int i), (2, .int wh)]) hx hb d_Mo_verify_6 rfl hl (by decide) rfl (fun ls hl => ?_)
  refine lv_iconst (v := 0) hx hb d_Mo_verify_7 (by decide) ?_
  refine lv_istore (lv' := [(4, .int 0), (3, .int 0), (0, .ref m0), (1, .int i), (2, .int wh)]) hx hb d_Mo_verify_8 hl (by decide) rfl (fun ls hl => ?_)
  have hl : lv_has ls 7 [(4, .int (nI 0)), (3, .int (nI (wc (wr v) o 0))), (0, .ref m0), (1, .int i), (2, .int wh)] := by
    rw [wc_0]
    exact hl
  have hi0 : i < 0 ∨ ∃ I, i = nI I ∧ I < 2 ^ 31 ∧ wc (wr v) o 0 ≤ I := by
    by_cases z : i < 0
    · exact Or.inl z
    · obtain ⟨I, y1, y2⟩ := nI_of z
      exact Or.inr ⟨I, y2, y1, by rw [wc_0]; omega⟩
  refine x_loop (A := xA M sz) (D := D) (cl := classes) (H0 := s.heap) (nL := 7) (σ := Nat) (fun k => o.length - k) (fun k => k ≤ o.length ∧ (i < 0 ∨ ∃ I, i = nI I ∧ I < 2 ^ 31 ∧ wc (wr v) o k ≤ I)) (fun k => M) (fun k => [(4, .int (nI k)), (3, .int (nI (wc (wr v) o k))), (0, .ref m0), (1, .int i), (2, .int wh)]) (fun k hI ih H locs ls hw hl => ?_) 0 ⟨Nat.zero_le _, hi0⟩ _ _ _ hw hl
  try dsimp only at hI hw hl ih
  obtain ⟨h1, h2⟩ := hI
  have hfl : (o.filter (wr v)).length ≤ o.length := List.length_filter_le _ _
  have hwc : wc (wr v) o k ≤ o.length := by
    unfold wc
    have y1 : ((o.take k).filter (wr v)).length ≤ (o.take k).length := List.length_filter_le _ _
    have y2 : (o.take k).length ≤ o.length := by rw [List.length_take]; omega
    omega
  refine lv_iload hx hb d_Mo_verify_10 (lv_at hl 0 rfl) ?_
  refine lv_aload_n hx hb d_Mo_verify_12 rfl (lv_at hl 2 rfl) ?_
  refine x_get (C := "GateTimesModel") (T := F_Mo) (N := 21) hx hb hts i_Mo hown hK hw z0 rfl 18 (by decide) (hts _ wd_277) (fun _ h9 => h9) rfl d_Mo_verify_13 ?_
  refine lv_icmp_ge (tgt := 136) hx hb d_Mo_verify_16 (by decide) (fun c16 => ?_) (fun c16 => ?_)
  ·
    have hk : k = o.length := by
      have := (nI_leI (by omega) (by omega)).mp c16
      omega
    subst hk
    refine lv_iconst (v := (-1)) hx hb d_Mo_verify_136 (by decide) ?_
    rw [wc_all] at h2
    exact x_iret hx hb hr hlk rfl hw (⟨_, rfl, Or.inl ⟨fun ⟨j, y1, y2⟩ => h2.elim (fun z => nI_pos (by omega) (y1 ▸ z)) (fun ⟨I, z1, z2, z3⟩ => absurd (nI_inj2 (by omega) z2 (y1.symm.trans z1)) (by omega)), rfl⟩, rfl⟩) d_Mo_verify_137
  ·
    have hk : k < o.length := Nat.lt_of_not_le (fun z => c16 ((nI_leI (by omega) (by omega)).mpr z))
    refine lv_iload_n hx hb d_Mo_verify_19 rfl (lv_at hl 3 rfl) ?_
    refine lv_if_lt (tgt := 136) hx hb d_Mo_verify_20 (by decide) (fun c20 => ?_) (fun c20 => ?_)
    ·
      refine lv_iconst (v := (-1)) hx hb d_Mo_verify_136 (by decide) ?_
      exact x_iret hx hb hr hlk rfl hw (⟨_, rfl, Or.inl ⟨fun ⟨j, y1, y2⟩ => by have : (o.filter (wr v)).length ≤ o.length := List.length_filter_le _ _; exact nI_pos (by omega) (y1 ▸ c20), rfl⟩, rfl⟩) d_Mo_verify_137
    ·
      obtain ⟨I, rfl, I1, I2⟩ := h2.resolve_left c20
      have hmm := (hG0.2.1.1 (oat o k)).mp (oat_mem hk)
      obtain ⟨j, hj⟩ : ∃ j, j = oat o k := ⟨_, rfl⟩
      rw [← hj] at hmm
      have hit := hI0.2.2.2.2.1 _ hmm.1 hmm.2.1
      unfold gItem at hit
      have hob : j < 401 := by omega
      refine lv_aload_n hx hb d_Mo_verify_23 rfl (lv_at hl 2 rfl) ?_
      refine x_get (C := "GateTimesModel") (T := F_Mo) (N := 21) hx hb hts i_Mo hown hK hw z0 rfl 19 (by decide) (hts _ wd_278) (fun _ h9 => h9) rfl d_Mo_verify_24 ?_
      refine lv_iload hx hb d_Mo_verify_27 (lv_at hl 0 rfl) ?_
      refine x_ialdN hx hb hK hw g15 0 rfl (show k < 400 by omega) (by decide) d_Mo_verify_29 ?_
      rw [← hj]
      refine lv_istore (lv' := [(5, .int (nI j)), (4, .int (nI k)), (3, .int (nI (wc (wr v) o k))), (0, .ref m0), (1, .int (nI I)), (2, .int wh)]) hx hb d_Mo_verify_30 hl (by decide) rfl (fun ls hl => ?_)
      have hw1 := wc_s (wr v) o k hk
      rw [← hj] at hw1
      refine x_cut (α := Int32) 64 (fun b => (b = 1 ∧ wr v j = true) ∨ (b = 0 ∧ ¬ wr v j = true)) (fun b => [.int b]) (fun b hJ => ?_) (fun J64 => ?_)
      ·
        rcases hJ with ⟨rfl, hwr⟩ | ⟨rfl, hwr⟩
        ·
          refine lv_istore (lv' := [(6, .int 1), (5, .int (nI j)), (4, .int (nI k)), (3, .int (nI (wc (wr v) o k))), (0, .ref m0), (1, .int (nI I)), (2, .int wh)]) hx hb d_Mo_verify_64 hl (by decide) rfl (fun ls hl => ?_)
          refine lv_iload hx hb d_Mo_verify_66 (lv_at hl 0 rfl) ?_
          refine lv_if_eq (tgt := 117) hx hb d_Mo_verify_68 (by decide) (fun c68 => False.elim (absurd c68 (by decide))) (fun c68 => ?_)
          rw [if_pos hwr] at hw1
          refine lv_iload_n hx hb d_Mo_verify_71 rfl (lv_at hl 3 rfl) ?_
          refine lv_iload_n hx hb d_Mo_verify_72 rfl (lv_at hl 5 rfl) ?_
          refine lv_icmp_ne (tgt := 117) hx hb d_Mo_verify_73 (by decide) (fun c73 => ?_) (fun c73 => ?_)
          ·
            have hIn : wc (wr v) o k ≠ I := fun z => c73 (by rw [z])
            refine lv_iload hx hb d_Mo_verify_117 (lv_at hl 0 rfl) ?_
            refine lv_if_eq (tgt := 128) hx hb d_Mo_verify_119 (by decide) (fun c119 => False.elim (absurd c119 (by decide))) (fun c119 => ?_)
            refine lv_iload_n hx hb d_Mo_verify_122 rfl (lv_at hl 3 rfl) ?_
            refine lv_iconst (v := 1) hx hb d_Mo_verify_123 (by decide) ?_
            refine lv_iadd hx hb d_Mo_verify_124 ?_
            refine lv_topi (fun n124 en124 => ?_)
            obtain rfl : n124 = nI (wc (wr v) o (k + 1)) := en124.trans (by rw [hw1]; exact nI_1 _)
            refine lv_goto (tgt := 129) hx hb d_Mo_verify_125 (by decide) ?_
            refine lv_istore_n (lv' := [(3, .int (nI (wc (wr v) o (k + 1)))), (6, .int 1), (5, .int (nI j)), (4, .int (nI k)), (0, .ref m0), (1, .int (nI I)), (2, .int wh)]) hx hb d_Mo_verify_129 rfl hl (by decide) rfl (fun ls hl => ?_)
            obtain ⟨n130, en130⟩ : ∃ y : Int32, y = (nI k) + 1 := ⟨_, rfl⟩
            refine lv_iinc (v := n130) (lv' := [(4, .int n130), (3, .int (nI (wc (wr v) o (k + 1)))), (6, .int 1), (5, .int (nI j)), (0, .ref m0), (1, .int (nI I)), (2, .int wh)]) hx hb d_Mo_verify_130 hl (k := 3) rfl (by rw [en130]; rfl) (by decide) rfl (fun ls hl => ?_)
            obtain rfl : n130 = nI (k + 1) := en130.trans (nI_1 k)
            refine lv_goto (tgt := 10) hx hb d_Mo_verify_133 (by decide) ?_
            exact ih (k + 1) ⟨(by first | omega | (dsimp only; omega)), Or.inr ⟨I, rfl, I1, (by first | omega | (dsimp only; omega))⟩⟩ (by first | omega | (dsimp only; omega)) _ _ _ hw (lv_sub hl [0, 1, 4, 5, 6] rfl)
          ·
            have hIn : wc (wr v) o k = I := nI_inj2 (by omega) (by omega) c73
            obtain ⟨q1, q2⟩ := wc_at (wr v) o k hk (by rw [← hj]; exact hwr)
            rw [hIn] at q1 q2
            rw [← hj] at q2
            refine lv_iload_n hx hb d_Mo_verify_76 rfl (lv_at hl 6 rfl) ?_
            refine lv_if_ne (tgt := 85) hx hb d_Mo_verify_77 (by decide) (fun c77 => ?_) (fun c77 => ?_)
            ·
              refine lv_iload_n hx hb d_Mo_verify_85 rfl (lv_at hl 6 rfl) ?_
              refine lv_iconst (v := 1) hx hb d_Mo_verify_86 (by decide) ?_
              refine lv_icmp_ne (tgt := 100) hx hb d_Mo_verify_87 (by decide) (fun c87 => ?_) (fun c87 => ?_)
              ·
                refine lv_iload_n hx hb d_Mo_verify_100 rfl (lv_at hl 6 rfl) ?_
                refine lv_iconst (v := 2) hx hb d_Mo_verify_101 (by decide) ?_
                refine lv_icmp_ne (tgt := 115) hx hb d_Mo_verify_102 (by decide) (fun c102 => ?_) (fun c102 => ?_)
                ·
                  refine lv_iconst (v := (-1)) hx hb d_Mo_verify_115 (by decide) ?_
                  exact x_iret hx hb hr hlk rfl hw (⟨_, rfl, Or.inr ⟨I, rfl, q1, by rw [q2, if_neg c77, if_neg c87, if_neg c102]⟩, rfl⟩) d_Mo_verify_116
                ·
                  refine lv_aload_n hx hb d_Mo_verify_105 rfl (lv_at hl 4 rfl) ?_
                  refine x_get (C := "GateTimesModel") (T := F_Mo) (N := 21) hx hb hts i_Mo hown hK hw z0 rfl 7 (by decide) (hts _ wd_266) (fun _ h9 => h9) rfl d_Mo_verify_106 ?_
                  refine lv_iload hx hb d_Mo_verify_109 (lv_at hl 1 rfl) ?_
                  refine x_ialdN hx hb hK hw g5 0 rfl hob (by decide) d_Mo_verify_111 ?_
                  rw [if_neg (by omega)]
                  refine lv_goto (tgt := 116) hx hb d_Mo_verify_112 (by decide) ?_
                  exact x_iret hx hb hr hlk rfl hw (⟨_, rfl, Or.inr ⟨I, rfl, q1, by rw [q2, if_neg c77, if_neg c87, if_pos c102]⟩, rfl⟩) d_Mo_verify_116
              ·
                refine lv_aload_n hx hb d_Mo_verify_90 rfl (lv_at hl 4 rfl) ?_
                refine x_get (C := "GateTimesModel") (T := F_Mo) (N := 21) hx hb hts i_Mo hown hK hw z0 rfl 5 (by decide) (hts _ wd_264) (fun _ h9 => h9) rfl d_Mo_verify_91 ?_
                refine lv_iload hx hb d_Mo_verify_94 (lv_at hl 1 rfl) ?_
                refine x_ialdN hx hb hK hw g3 0 rfl hob (by decide) d_Mo_verify_96 ?_
                rw [if_neg (by omega)]
                refine lv_goto (tgt := 116) hx hb d_Mo_verify_97 (by decide) ?_
                exact x_iret hx hb hr hlk rfl hw (⟨_, rfl, Or.inr ⟨I, rfl, q1, by rw [q2, if_neg c77, if_pos c87]⟩, rfl⟩) d_Mo_verify_116
            ·
              refine lv_iload hx hb d_Mo_verify_80 (lv_at hl 1 rfl) ?_
              refine lv_goto (tgt := 116) hx hb d_Mo_verify_82 (by decide) ?_
              exact x_iret hx hb hr hlk rfl hw (⟨_, rfl, Or.inr ⟨I, rfl, q1, by rw [q2, if_pos c77]⟩, rfl⟩) d_Mo_verify_116
        ·
          refine lv_istore (lv' := [(6, .int 0), (5, .int (nI j)), (4, .int (nI k)), (3, .int (nI (wc (wr v) o k))), (0, .ref m0), (1, .int (nI I)), (2, .int wh)]) hx hb d_Mo_verify_64 hl (by decide) rfl (fun ls hl => ?_)
          refine lv_iload hx hb d_Mo_verify_66 (lv_at hl 0 rfl) ?_
          refine lv_if_eq (tgt := 117) hx hb d_Mo_verify_68 (by decide) (fun c68 => ?_) (fun c68 => False.elim (c68 rfl))
          rw [if_neg hwr] at hw1
          refine lv_iload hx hb d_Mo_verify_117 (lv_at hl 0 rfl) ?_
          refine lv_if_eq (tgt := 128) hx hb d_Mo_verify_119 (by decide) (fun c119 => ?_) (fun c119 => False.elim (c119 rfl))
          refine lv_iload_n hx hb d_Mo_verify_128 rfl (lv_at hl 3 rfl) ?_
          rw [show nI (wc (wr v) o k) = nI (wc (wr v) o (k + 1)) from by rw [hw1]; rfl]
          refine lv_istore_n (lv' := [(3, .int (nI (wc (wr v) o (k + 1)))), (6, .int 0), (5, .int (nI j)), (4, .int (nI k)), (0, .ref m0), (1, .int (nI I)), (2, .int wh)]) hx hb d_Mo_verify_129 rfl hl (by decide) rfl (fun ls hl => ?_)
          obtain ⟨n130, en130⟩ : ∃ y : Int32, y = (nI k) + 1 := ⟨_, rfl⟩
          refine lv_iinc (v := n130) (lv' := [(4, .int n130), (3, .int (nI (wc (wr v) o (k + 1)))), (6, .int 0), (5, .int (nI j)), (0, .ref m0), (1, .int (nI I)), (2, .int wh)]) hx hb d_Mo_verify_130 hl (k := 3) rfl (by rw [en130]; rfl) (by decide) rfl (fun ls hl => ?_)
          obtain rfl : n130 = nI (k + 1) := en130.trans (nI_1 k)
          refine lv_goto (tgt := 10) hx hb d_Mo_verify_133 (by decide) ?_
          exact ih (k + 1) ⟨(by first | omega | (dsimp only; omega)), Or.inr ⟨I, rfl, I1, (by first | omega | (dsimp only; omega))⟩⟩ (by first | omega | (dsimp only; omega)) _ _ _ hw (lv_sub hl [0, 1, 4, 5, 6] rfl)
      ·
        refine lv_aload_n hx hb d_Mo_verify_32 rfl (lv_at hl 3 rfl) ?_
        refine x_get (C := "GateTimesModel") (T := F_Mo) (N := 21) hx hb hts i_Mo hown hK hw z0 rfl 5 (by decide) (hts _ wd_264) (fun _ h9 => h9) rfl d_Mo_verify_33 ?_
        refine lv_iload hx hb d_Mo_verify_36 (lv_at hl 0 rfl) ?_
        refine x_ialdN hx hb hK hw g3 0 rfl hob (by decide) d_Mo_verify_38 ?_
        rw [if_neg (by omega)]
        refine lv_if_lt (tgt := 63) hx hb d_Mo_verify_39 (by decide) (fun c39 => ?_) (fun c39 => ?_)
        ·
          refine lv_iconst (v := 0) hx hb d_Mo_verify_63 (by decide) ?_
          exact J64 0 (Or.inr ⟨rfl, fun z => (wr_is.mp z).1 ((eN_neg (by omega)).mp c39)⟩)
        ·
          refine lv_aload_n hx hb d_Mo_verify_42 rfl (lv_at hl 3 rfl) ?_
          refine x_get (C := "GateTimesModel") (T := F_Mo) (N := 21) hx hb hts i_Mo hown hK hw z0 rfl 5 (by decide) (hts _ wd_264) (fun _ h9 => h9) rfl d_Mo_verify_43 ?_
          refine lv_iload hx hb d_Mo_verify_46 (lv_at hl 0 rfl) ?_
          refine x_ialdN hx hb hK hw g3 0 rfl hob (by decide) d_Mo_verify_48 ?_
          rw [if_neg (by omega)]
          refine lv_aload_n hx hb d_Mo_verify_49 rfl (lv_at hl 3 rfl) ?_
          refine x_get (C := "GateTimesModel") (T := F_Mo) (N := 21) hx hb hts i_Mo hown hK hw z0 rfl 7 (by decide) (hts _ wd_266) (fun _ h9 => h9) rfl d_Mo_verify_50 ?_
          refine lv_iload hx hb d_Mo_verify_53 (lv_at hl 0 rfl) ?_
          refine x_ialdN hx hb hK hw g5 0 rfl hob (by decide) d_Mo_verify_55 ?_
          rw [if_neg (by omega)]
          refine lv_icmp_eq (tgt := 63) hx hb d_Mo_verify_56 (by decide) (fun c56 => ?_) (fun c56 => ?_)
          ·
            refine lv_iconst (v := 0) hx hb d_Mo_verify_63 (by decide) ?_
            exact J64 0 (Or.inr ⟨rfl, fun z => (wr_is.mp z).2 ((eN_inj (by omega) (by omega)).mp c56)⟩)
          ·
            refine lv_iconst (v := 1) hx hb d_Mo_verify_59 (by decide) ?_
            refine lv_goto (tgt := 64) hx hb d_Mo_verify_60 (by decide) ?_
            exact J64 1 (Or.inl ⟨rfl, wr_is.mpr ⟨fun z => c39 ((eN_neg (by omega)).mpr z), fun z => c56 (by rw [z])⟩⟩)
