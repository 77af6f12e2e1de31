set_option maxHeartbeats 4000000 in
set_option maxRecDepth 100000 in
theorem whole_start {p : Program} {e : Env} {s : State} {m : MethodId} {below : List Frame} {meth : Method} {c : Code} (l : Launch) {b L : Nat} {xs : Nat → Int32} (hL : L ≤ 2561) (C0 : lw_At p s m meth c b L xs) : W p l e room_1 s m #[Value.ref b] below meth c s.heap [] 0 0 (lw_Z below #[Value.ref b] s) (entryFrame m ([Value.ref b] : List Value).toArray 4) := by
  obtain ⟨hx, hb, hr, hml, hown, htbl, hX, hbl, hlocks, hgv⟩ := id C0
  have hown : s.vm.findClass "GateTimesLaw" = some m.cls := hown
  have hts : ∀ w ∈ aw, w.before #[Value.ref b] s = true := fun w h => htbl w (aw_tbl w h)
  have hZ : xZ s := xZ_of htbl
  obtain ⟨D, cs, hK⟩ := l_K hts hZ
  have hF : CallFix p m c code 4 s #[Value.ref b] aw "GateTimesLaw" := ⟨hx, hb, hml, hown, hts⟩
  have hA : ∀ q : Nat, s.heap.size ≤ q → (fun q : Nat => s.heap.size ≤ q) q := fun _ h => h
  have hbA : ¬ (fun q : Nat => s.heap.size ≤ q) b := Nat.not_le.mpr hbl
  have hw : xw (fun q : Nat => s.heap.size ≤ q) D classes (fun _ => none) s.heap s.heap [] := ⟨fun a f h => (by cases h), fun a h => absurd rfl h, va_S.rf⟩
  have hl := lv_entry ([.ref b]) (n := 4) (Nat.le_of_ble_eq_true rfl)
  rw [lg_entry_eq]
  generalize (lg_sl ([.ref b]) ++ List.replicate (4 - (lg_sl ([.ref b])).length) Slot.unset).toArray = ls at hl ⊢
  have hl : lv_has ls 4 [(0, .ref b)] := hl
  refine x_newO (C := "GateTimes") (T := F_GT) (N := 8) (ci := kGT) (fs := [.null, .null, .null, .null, .null, .null, .int 0, .long 0]) hx hb hts i_GT t_GT t_GT_ok hown (hts _ wd_8) (hts _ wd_9) (hts _ wd_1) hK hw hA rfl (fun j hj => by rcases (show j = 0 ∨ j = 1 ∨ j = 2 ∨ j = 3 ∨ j = 4 ∨ j = 5 ∨ j = 6 ∨ j = 7 by omega) with rfl | rfl | rfl | rfl | rfl | rfl | rfl | rfl <;> rfl) (Nat.le_of_ble_eq_true rfl) (Nat.le_of_ble_eq_true rfl) d_Law_law_0 (fun q M1 H eq eM1 hnq hzq hw => ?_)
  have f0 : M1 q = some (.inr (kGT, [.null, .null, .null, .null, .null, .null, .int 0, .long 0])) := x_up_self eM1
  refine lv_dup hx hb d_Law_law_3 rfl ?_
  refine lv_aload_n hx hb d_Law_law_4 rfl (lv_at hl 0 rfl) ?_
  refine lv_iconst (v := 0) hx hb d_Law_law_5 (by decide) ?_
  refine l_cell (r := lc0 L xs) (ar := ([.ref b, .int 0] : List Value).toArray) (va_runS (As := [.ref b, .int 0]) (rest := [.ref q, .ref q]) hF (c_Law_cell l b L xs hL) (x_cwS 2 hts wd_250 wd_251 wd_0 wd_252 rfl rfl (by decide +kernel) ⟨Nat.le_of_ble_eq_true rfl, Nat.le_of_ble_eq_true rfl⟩) (l_preC hX hbl hbA hw.2.2) rfl rfl hl.1 rfl (lv_room (Nat.le_of_ble_eq_true rfl)) d_Law_law_6 ⟨Nat.le_of_ble_eq_true rfl, Nat.le_of_ble_eq_true rfl⟩) ?_
  refine x_callv (va_runI (b := q) (As := [.int (lc0 L xs)]) (rest := [.ref q]) hF (c_GT_init l D cs M1 _ q (lc0 L xs) f0) (cwI 1 hts (x_ws wd_12) rfl rfl rfl (hts _ wd_1) (hts _ wd_10) (hts _ wd_11) rfl (by decide +kernel) ⟨Nat.le_of_ble_eq_true rfl, Nat.le_of_ble_eq_true rfl⟩) (x_preS hK hZ hw) rfl rfl hl.1 rfl (lv_room (Nat.le_of_ble_eq_true rfl)) d_Law_law_9 ⟨Nat.le_of_ble_eq_true rfl, Nat.le_of_ble_eq_true rfl⟩) hw hA (fun M2 H locs hp hw => ?_)
  refine W.cs (cells' := 35) (slots' := 1348) rfl rfl ?_
  have hS := hp
  refine lv_astore_n (lv' := [(1, .ref q), (0, .ref b)]) hx hb d_Law_law_12 rfl hl (by decide) rfl (fun ls hl => ?_)
  refine x_newO (C := "GateTimesModel") (T := F_Mo) (N := 21) (ci := kMo) (fs := [.int 0, .int 0, .int 0, .null, .null, .null, .null, .null, .null, .null, .null, .null, .null, .null, .null, .null, .null, .long 0, .int 0, .null, .int 0]) hx hb hts i_Mo t_Mo t_Mo_ok hown (hts _ wd_253) (hts _ wd_254) (hts _ wd_6) hK hw hA rfl (fun j hj => by rcases (show j = 0 ∨ j = 1 ∨ j = 2 ∨ j = 3 ∨ j = 4 ∨ j = 5 ∨ j = 6 ∨ j = 7 ∨ j = 8 ∨ j = 9 ∨ j = 10 ∨ j = 11 ∨ j = 12 ∨ j = 13 ∨ j = 14 ∨ j = 15 ∨ j = 16 ∨ j = 17 ∨ j = 18 ∨ j = 19 ∨ j = 20 by omega) with rfl | rfl | rfl | rfl | rfl | rfl | rfl | rfl | rfl | rfl | rfl | rfl | rfl | rfl | rfl | rfl | rfl | rfl | rfl | rfl | rfl <;> rfl) (Nat.le_of_ble_eq_true rfl) (Nat.le_of_ble_eq_true rfl) d_Law_law_13 (fun k M3 H ek eM3 hnk hzk hw => ?_)
  have hw := l2s (l2_split hw eM3 hnk)
  refine lv_dup hx hb d_Law_law_16 rfl ?_
  refine lv_aload_n hx hb d_Law_law_17 rfl (lv_at hl 1 rfl) ?_
  refine lv_iconst (v := 0) hx hb d_Law_law_18 (by decide) ?_
  refine l_cell (r := lc0 L xs) (ar := ([.ref b, .int 0] : List Value).toArray) (va_runS (As := [.ref b, .int 0]) (rest := [.ref k, .ref k]) hF (c_Law_cell l b L xs hL) (x_cwS 2 hts wd_250 wd_251 wd_0 wd_252 rfl rfl (by decide +kernel) ⟨Nat.le_of_ble_eq_true rfl, Nat.le_of_ble_eq_true rfl⟩) (l_preC hX hbl hbA hw.1.2.2) rfl rfl hl.1 rfl (lv_room (Nat.le_of_ble_eq_true rfl)) d_Law_law_19 ⟨Nat.le_of_ble_eq_true rfl, Nat.le_of_ble_eq_true rfl⟩) ?_
  refine l_callv (va_runI (b := k) (As := [.int (lc0 L xs)]) (rest := [.ref k]) hF (c_Mo_init l D cs _ _ k (lc0 L xs) hzk (va_up_self _ _ _)) (cwI 1 hts (x_ws wd_257) rfl rfl rfl (hts _ wd_6) (hts _ wd_255) (hts _ wd_256) rfl (by decide +kernel) ⟨Nat.le_of_ble_eq_true rfl, Nat.le_of_ble_eq_true rfl⟩) (x_preS hK hZ (l2w hw)) rfl rfl hl.1 rfl (lv_room (Nat.le_of_ble_eq_true rfl)) d_Law_law_22 ⟨Nat.le_of_ble_eq_true rfl, Nat.le_of_ble_eq_true rfl⟩) hw hA (fun N1 H locs hp hw => ?_)
  have hw := l2s hw
  refine W.cs (cells' := 51) (slots' := 4667) rfl rfl ?_
  refine lv_astore_n (lv' := [(2, .ref k), (1, .ref q), (0, .ref b)]) hx hb d_Law_law_25 rfl hl (by decide) rfl (fun ls hl => ?_)
  refine lv_iconst (v := 1) hx hb d_Law_law_26 (by decide) ?_
  refine lv_istore_n (lv' := [(3, .int 1), (2, .ref k), (1, .ref q), (0, .ref b)]) hx hb d_Law_law_27 rfl hl (by decide) rfl (fun ls hl => ?_)
  refine W.widen (k := 60) (n := 5000) (by decide) (by decide) ?_
  exact law_loop ⟨hx, hb, hml, hown, hts, hX, hbl, hK, hZ, hL⟩ hr hlocks 513 0 (by decide) (by decide) _ [] M2 N1 _ _ ls (gAll_0 (clG_in _).1 (clG_in _).2) hS hp hw (lv_sub hl [0, 1, 2, 3] rfl)
