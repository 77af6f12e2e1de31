set_option maxHeartbeats 4000000 in
set_option maxRecDepth 100000 in
theorem t_item {p : Program} {l : Launch} {e : Env} {s : State} {m : MethodId} {below : List Frame} {meth : Method} {c : Code} {b L : Nat} {xs : Nat → Int32} {D : va_G} {cs : Nat → ClassId} (C0 : l_At p s m c b L xs D cs) {a0 m0 i : Nat} {v : gV} {o : List Nat} {M N : xM} {H : Heap} {locs : List Loc} {ls : Array Slot} {cells slots : Nat} {Q : State → Prop} (hi : i + 5 ≤ L) (hcc : cells + 1 ≤ 600000) (hss : slots + 7 ≤ 7302250) (hG0 : gAll v o) (hS : clS cs M a0 v o) (hm : mR cs N m0 v o) (hw : l2 (fun q : Nat => s.heap.size ≤ q) D classes M N s.heap H locs) (hl : lv_has ls 4 [(3, .int (nI i)), (2, .ref m0), (1, .ref a0), (0, .ref b)])
    (J : ∀ (v1 : gV) (o1 : List Nat) (M1 N1 : xM) (H1 : Heap) (locs1 : List Loc), gAll v1 o1 → clS cs M1 a0 v1 o1 → mR cs N1 m0 v1 o1 → l2 (fun q : Nat => s.heap.size ≤ q) D classes M1 N1 s.heap H1 locs1 → W p l e room_1 s m #[Value.ref b] below meth c H1 locs1 (cells + 1) (slots + 7) Q (F0 m 532 ls [])) : W p l e room_1 s m #[Value.ref b] below meth c H locs cells slots Q (F0 m 96 ls []) := by
  obtain ⟨hx, hb, hml, hown, hts, hX, hbl, hK, hZ, hL⟩ := C0
  have hF : CallFix p m c code 4 s #[Value.ref b] aw "GateTimesLaw" := ⟨hx, hb, hml, hown, hts⟩
  have hA : ∀ q : Nat, s.heap.size ≤ q → (fun q : Nat => s.heap.size ≤ q) q := fun _ h => h
  have hbA : ¬ (fun q : Nat => s.heap.size ≤ q) b := Nat.not_le.mpr hbl
  obtain ⟨fs, f0⟩ := clS_at hS
  obtain ⟨gs, g0⟩ := mR_at hm
  refine lv_aload_n hx hb d_Law_law_96 rfl (lv_at hl 2 rfl) ?_
  refine lv_aload_n hx hb d_Law_law_97 rfl (lv_at hl 3 rfl) ?_
  refine lv_iload_n hx hb d_Law_law_98 rfl (lv_at hl 0 rfl) ?_
  refine lv_iconst (v := 1) hx hb d_Law_law_99 (by decide) ?_
  refine lv_iadd hx hb d_Law_law_100 ?_
  refine lv_topi (fun n100 en100 => ?_)
  obtain rfl : n100 = nI (i + 1) := en100.trans (nI_1 i)
  refine l_sld hx hb hX hbl hbA hw.1.2.2 (show i + 1 < L by omega) hL d_Law_law_101 ?_
  refine lv_i2l hx hb d_Law_law_102 rfl ?_
  refine lv_topl (fun n102 en102 => ?_)
  refine lv_bipush (v := 32) hx hb d_Law_law_103 (by decide) ?_
  refine lv_lshl hx hb d_Law_law_105 rfl ?_
  refine lv_topl (fun n105 en105 => ?_)
  refine lv_aload_n hx hb d_Law_law_106 rfl (lv_at hl 3 rfl) ?_
  refine lv_iload_n hx hb d_Law_law_107 rfl (lv_at hl 0 rfl) ?_
  refine lv_iconst (v := 2) hx hb d_Law_law_108 (by decide) ?_
  refine lv_iadd hx hb d_Law_law_109 ?_
  refine lv_topi (fun n109 en109 => ?_)
  obtain rfl : n109 = nI (i + 2) := en109.trans (n_2 i)
  refine l_sld hx hb hX hbl hbA hw.1.2.2 (show i + 2 < L by omega) hL d_Law_law_110 ?_
  refine lv_i2l hx hb d_Law_law_111 rfl ?_
  refine lv_topl (fun n111 en111 => ?_)
  refine lv_ldc2 (v := 4294967295) hx hb hown (hts _ wd_393) d_Law_law_112 ?_
  refine lv_land hx hb d_Law_law_115 ?_
  refine lv_topl (fun n115 en115 => ?_)
  refine lv_lor hx hb d_Law_law_116 ?_
  refine lv_topl (fun n116 en116 => ?_)
  obtain rfl : n116 = jL (xs (i + 1)) (xs (i + 2)) := en116.trans (by rw [en115, en111, en105, en102]; rfl)
  refine lv_aload_n hx hb d_Law_law_117 rfl (lv_at hl 3 rfl) ?_
  refine lv_iload_n hx hb d_Law_law_118 rfl (lv_at hl 0 rfl) ?_
  refine lv_iconst (v := 3) hx hb d_Law_law_119 (by decide) ?_
  refine lv_iadd hx hb d_Law_law_120 ?_
  refine lv_topi (fun n120 en120 => ?_)
  obtain rfl : n120 = nI (i + 3) := en120.trans (n_3 i)
  refine l_sld hx hb hX hbl hbA hw.1.2.2 (show i + 3 < L by omega) hL d_Law_law_121 ?_
  refine lv_i2l hx hb d_Law_law_122 rfl ?_
  refine lv_topl (fun n122 en122 => ?_)
  refine lv_bipush (v := 32) hx hb d_Law_law_123 (by decide) ?_
  refine lv_lshl hx hb d_Law_law_125 rfl ?_
  refine lv_topl (fun n125 en125 => ?_)
  refine lv_aload_n hx hb d_Law_law_126 rfl (lv_at hl 3 rfl) ?_
  refine lv_iload_n hx hb d_Law_law_127 rfl (lv_at hl 0 rfl) ?_
  refine lv_iconst (v := 4) hx hb d_Law_law_128 (by decide) ?_
  refine lv_iadd hx hb d_Law_law_129 ?_
  refine lv_topi (fun n129 en129 => ?_)
  obtain rfl : n129 = nI (i + 4) := en129.trans (n_4 i)
  refine l_sld hx hb hX hbl hbA hw.1.2.2 (show i + 4 < L by omega) hL d_Law_law_130 ?_
  refine lv_i2l hx hb d_Law_law_131 rfl ?_
  refine lv_topl (fun n131 en131 => ?_)
  refine lv_ldc2 (v := 4294967295) hx hb hown (hts _ wd_393) d_Law_law_132 ?_
  refine lv_land hx hb d_Law_law_135 ?_
  refine lv_topl (fun n135 en135 => ?_)
  refine lv_lor hx hb d_Law_law_136 ?_
  refine lv_topl (fun n136 en136 => ?_)
  obtain rfl : n136 = jL (xs (i + 3)) (xs (i + 4)) := en136.trans (by rw [en135, en131, en125, en122]; rfl)
  refine l_calli (va_runV (As := [.long (jL (xs (i + 1)) (xs (i + 2))), .long (jL (xs (i + 3)) (xs (i + 4)))]) (rest := []) hF (c_GT_item l D cs M _ a0 v o hS hG0 (jL (xs (i + 1)) (xs (i + 2))) (jL (xs (i + 3)) (xs (i + 4)))) (x_cwV 2 hts wd_105 wd_106 wd_107 wd_1 wd_108 rfl rfl (by decide +kernel) ⟨Nat.le_of_ble_eq_true rfl, Nat.le_of_ble_eq_true rfl⟩) (x_preV hK hZ (l2w hw) f0 rfl) rfl rfl hl.1 rfl (lv_room (Nat.le_of_ble_eq_true rfl)) d_Law_law_137 ⟨show cells + 1 ≤ 600000 by omega, show slots + 7 ≤ 7302250 by omega⟩) hw hA (fun r1 M1 H locs hp hw => ?_)
  obtain ⟨v1, o1, hp1, ho1, hS1⟩ := hp
  rw [ho1] at hS1
  have hw := l2s hw
  refine lv_aload_n hx hb d_Law_law_140 rfl (lv_at hl 1 rfl) ?_
  refine lv_aload_n hx hb d_Law_law_141 rfl (lv_at hl 3 rfl) ?_
  refine lv_iload_n hx hb d_Law_law_142 rfl (lv_at hl 0 rfl) ?_
  refine lv_iconst (v := 1) hx hb d_Law_law_143 (by decide) ?_
  refine lv_iadd hx hb d_Law_law_144 ?_
  refine lv_topi (fun n144 en144 => ?_)
  obtain rfl : n144 = nI (i + 1) := en144.trans (nI_1 i)
  refine l_sld hx hb hX hbl hbA hw.1.2.2 (show i + 1 < L by omega) hL d_Law_law_145 ?_
  refine lv_i2l hx hb d_Law_law_146 rfl ?_
  refine lv_topl (fun n146 en146 => ?_)
  refine lv_bipush (v := 32) hx hb d_Law_law_147 (by decide) ?_
  refine lv_lshl hx hb d_Law_law_149 rfl ?_
  refine lv_topl (fun n149 en149 => ?_)
  refine lv_aload_n hx hb d_Law_law_150 rfl (lv_at hl 3 rfl) ?_
  refine lv_iload_n hx hb d_Law_law_151 rfl (lv_at hl 0 rfl) ?_
  refine lv_iconst (v := 2) hx hb d_Law_law_152 (by decide) ?_
  refine lv_iadd hx hb d_Law_law_153 ?_
  refine lv_topi (fun n153 en153 => ?_)
  obtain rfl : n153 = nI (i + 2) := en153.trans (n_2 i)
  refine l_sld hx hb hX hbl hbA hw.1.2.2 (show i + 2 < L by omega) hL d_Law_law_154 ?_
  refine lv_i2l hx hb d_Law_law_155 rfl ?_
  refine lv_topl (fun n155 en155 => ?_)
  refine lv_ldc2 (v := 4294967295) hx hb hown (hts _ wd_393) d_Law_law_156 ?_
  refine lv_land hx hb d_Law_law_159 ?_
  refine lv_topl (fun n159 en159 => ?_)
  refine lv_lor hx hb d_Law_law_160 ?_
  refine lv_topl (fun n160 en160 => ?_)
  obtain rfl : n160 = jL (xs (i + 1)) (xs (i + 2)) := en160.trans (by rw [en159, en155, en149, en146]; rfl)
  refine lv_aload_n hx hb d_Law_law_161 rfl (lv_at hl 3 rfl) ?_
  refine lv_iload_n hx hb d_Law_law_162 rfl (lv_at hl 0 rfl) ?_
  refine lv_iconst (v := 3) hx hb d_Law_law_163 (by decide) ?_
  refine lv_iadd hx hb d_Law_law_164 ?_
  refine lv_topi (fun n164 en164 => ?_)
  obtain rfl : n164 = nI (i + 3) := en164.trans (n_3 i)
  refine l_sld hx hb hX hbl hbA hw.1.2.2 (show i + 3 < L by omega) hL d_Law_law_165 ?_
  refine lv_i2l hx hb d_Law_law_166 rfl ?_
  refine lv_topl (fun n166 en166 => ?_)
  refine lv_bipush (v := 32) hx hb d_Law_law_167 (by decide) ?_
  refine lv_lshl hx hb d_Law_law_169 rfl ?_
  refine lv_topl (fun n169 en169 => ?_)
  refine lv_aload_n hx hb d_Law_law_170 rfl (lv_at hl 3 rfl) ?_
  refine lv_iload_n hx hb d_Law_law_171 rfl (lv_at hl 0 rfl) ?_
  refine lv_iconst (v := 4) hx hb d_Law_law_172 (by decide) ?_
  refine lv_iadd hx hb d_Law_law_173 ?_
  refine lv_topi (fun n173 en173 => ?_)
  obtain rfl : n173 = nI (i + 4) := en173.trans (n_4 i)
  refine l_sld hx hb hX hbl hbA hw.1.2.2 (show i + 4 < L by omega) hL d_Law_law_174 ?_
  refine lv_i2l hx hb d_Law_law_175 rfl ?_
  refine lv_topl (fun n175 en175 => ?_)
  refine lv_ldc2 (v := 4294967295) hx hb hown (hts _ wd_393) d_Law_law_176 ?_
  refine lv_land hx hb d_Law_law_179 ?_
  refine lv_topl (fun n179 en179 => ?_)
  refine lv_lor hx hb d_Law_law_180 ?_
  refine lv_topl (fun n180 en180 => ?_)
  obtain rfl : n180 = jL (xs (i + 3)) (xs (i + 4)) := en180.trans (by rw [en179, en175, en169, en166]; rfl)
  refine l_calli (va_runV (As := [.long (jL (xs (i + 1)) (xs (i + 2))), .long (jL (xs (i + 3)) (xs (i + 4)))]) (rest := [.int r1]) hF (c_Mo_item l D cs N _ m0 v o hm hG0 (jL (xs (i + 1)) (xs (i + 2))) (jL (xs (i + 3)) (xs (i + 4)))) (x_cwV 2 hts wd_325 wd_326 wd_327 wd_6 wd_328 rfl rfl (by decide +kernel) ⟨Nat.le_of_ble_eq_true rfl, Nat.le_of_ble_eq_true rfl⟩) (x_preV hK hZ (l2w hw) g0 rfl) rfl rfl hl.1 rfl (lv_room (Nat.le_of_ble_eq_true rfl)) d_Law_law_181 ⟨show cells + 1 + 0 ≤ 600000 by omega, show slots + 7 + 0 ≤ 7302250 by omega⟩) hw hA (fun r2 N1 H locs hp hw => ?_)
  obtain ⟨v2, o2, hp2, ho2, hm1⟩ := hp
  rw [ho2] at hm1
  have hw := l2s hw
  obtain ⟨er, ev⟩ := pItem_one hp1 hp2
  rw [← ev] at hm1
  refine lv_icmp_eq (tgt := 532) hx hb d_Law_law_184 (by decide) (fun c184 => ?_) (fun c184 => False.elim (c184 er))
  refine W.widen (k := cells + 1) (n := slots + 7) (by omega) (by omega) ?_
  exact J v1 o M1 N1 _ _ (pItem_all hG0 hp1) hS1 hm1 hw
set_option maxHeartbeats 4000000 in
set_option maxRecDepth 100000 in
theorem t_order {p : Program} {l : Launch} {e : Env} {s : State} {m : MethodId} {below : List Frame} {meth : Method} {c : Code} {b L : Nat} {xs : Nat → Int32} {D : va_G} {cs : Nat → ClassId} (C0 : l_At p s m c b L xs D cs) {a0 m0 i : Nat} {v : gV} {o : List Nat} {M N : xM} {H : Heap} {locs : List Loc} {ls : Array Slot} {cells slots : Nat} {Q : State → Prop} (hi : i + 5 ≤ L) (hcc : cells + 1 ≤ 600000) (hss : slots + 7 ≤ 7302250) (hG0 : gAll v o) (hS : clS cs M a0 v o) (hm : mR cs N m0 v o) (hw : l2 (fun q : Nat => s.heap.size ≤ q) D classes M N s.heap H locs) (hl : lv_has ls 4 [(3, .int (nI i)), (2, .ref m0), (1, .ref a0), (0, .ref b)])
    (J : ∀ (v1 : gV) (o1 : List Nat) (M1 N1 : xM) (H1 : Heap) (locs1 : List Loc), gAll v1 o1 → clS cs M1 a0 v1 o1 → mR cs N1 m0 v1 o1 → l2 (fun q : Nat => s.heap.size ≤ q) D classes M1 N1 s.heap H1 locs1 → W p l e room_1 s m #[Value.ref b] below meth c H1 locs1 (cells + 1) (slots + 7) Q (F0 m 532 ls [])) : W p l e room_1 s m #[Value.ref b] below meth c H locs cells slots Q (F0 m 189 ls []) := by
  obtain ⟨hx, hb, hml, hown, hts, hX, hbl, hK, hZ, hL⟩ := C0
  have hF : CallFix p m c code 4 s #[Value.ref b] aw "GateTimesLaw" := ⟨hx, hb, hml, hown, hts⟩
  have hA : ∀ q : Nat, s.heap.size ≤ q → (fun q : Nat => s.heap.size ≤ q) q := fun _ h => h
  have hbA : ¬ (fun q : Nat => s.heap.size ≤ q) b := Nat.not_le.mpr hbl
  obtain ⟨fs, f0⟩ := clS_at hS
  obtain ⟨gs, g0⟩ := mR_at hm
  refine lv_aload_n hx hb d_Law_law_189 rfl (lv_at hl 2 rfl) ?_
  refine lv_aload_n hx hb d_Law_law_190 rfl (lv_at hl 3 rfl) ?_
  refine lv_iload_n hx hb d_Law_law_191 rfl (lv_at hl 0 rfl) ?_
  refine lv_iconst (v := 1) hx hb d_Law_law_192 (by decide) ?_
  refine lv_iadd hx hb d_Law_law_193 ?_
  refine lv_topi (fun n193 en193 => ?_)
  obtain rfl : n193 = nI (i + 1) := en193.trans (nI_1 i)
  refine l_sld hx hb hX hbl hbA hw.1.2.2 (show i + 1 < L by omega) hL d_Law_law_194 ?_
  refine lv_aload_n hx hb d_Law_law_195 rfl (lv_at hl 3 rfl) ?_
  refine lv_iload_n hx hb d_Law_law_196 rfl (lv_at hl 0 rfl) ?_
  refine lv_iconst (v := 2) hx hb d_Law_law_197 (by decide) ?_
  refine lv_iadd hx hb d_Law_law_198 ?_
  refine lv_topi (fun n198 en198 => ?_)
  obtain rfl : n198 = nI (i + 2) := en198.trans (n_2 i)
  refine l_sld hx hb hX hbl hbA hw.1.2.2 (show i + 2 < L by omega) hL d_Law_law_199 ?_
  refine lv_aload_n hx hb d_Law_law_200 rfl (lv_at hl 3 rfl) ?_
  refine lv_iload_n hx hb d_Law_law_201 rfl (lv_at hl 0 rfl) ?_
  refine lv_iconst (v := 3) hx hb d_Law_law_202 (by decide) ?_
  refine lv_iadd hx hb d_Law_law_203 ?_
  refine lv_topi (fun n203 en203 => ?_)
  obtain rfl : n203 = nI (i + 3) := en203.trans (n_3 i)
  refine l_sld hx hb hX hbl hbA hw.1.2.2 (show i + 3 < L by omega) hL d_Law_law_204 ?_
  refine lv_i2l hx hb d_Law_law_205 rfl ?_
  refine lv_topl (fun n205 en205 => ?_)
  refine lv_bipush (v := 32) hx hb d_Law_law_206 (by decide) ?_
  refine lv_lshl hx hb d_Law_law_208 rfl ?_
  refine lv_topl (fun n208 en208 => ?_)
  refine lv_aload_n hx hb d_Law_law_209 rfl (lv_at hl 3 rfl) ?_
  refine lv_iload_n hx hb d_Law_law_210 rfl (lv_at hl 0 rfl) ?_
  refine lv_iconst (v := 4) hx hb d_Law_law_211 (by decide) ?_
  refine lv_iadd hx hb d_Law_law_212 ?_
  refine lv_topi (fun n212 en212 => ?_)
  obtain rfl : n212 = nI (i + 4) := en212.trans (n_4 i)
  refine l_sld hx hb hX hbl hbA hw.1.2.2 (show i + 4 < L by omega) hL d_Law_law_213 ?_
  refine lv_i2l hx hb d_Law_law_214 rfl ?_
  refine lv_topl (fun n214 en214 => ?_)
  refine lv_ldc2 (v := 4294967295) hx hb hown (hts _ wd_393) d_Law_law_215 ?_
  refine lv_land hx hb d_Law_law_218 ?_
  refine lv_topl (fun n218 en218 => ?_)
  refine lv_lor hx hb d_Law_law_219 ?_
  refine lv_topl (fun n219 en219 => ?_)
  obtain rfl : n219 = jL (xs (i + 3)) (xs (i + 4)) := en219.trans (by rw [en218, en214, en208, en205]; rfl)
  refine l_calli (va_runV (As := [.int (xs (i + 1)), .int (xs (i + 2)), .long (jL (xs (i + 3)) (xs (i + 4)))]) (rest := []) hF (c_GT_order l D cs M _ a0 v o hS hG0 (xs (i + 1)) (xs (i + 2)) (jL (xs (i + 3)) (xs (i + 4)))) (x_cwV 3 hts wd_174 wd_175 wd_176 wd_1 wd_177 rfl rfl (by decide +kernel) ⟨Nat.le_of_ble_eq_true rfl, Nat.le_of_ble_eq_true rfl⟩) (x_preV hK hZ (l2w hw) f0 rfl) rfl rfl hl.1 rfl (lv_room (Nat.le_of_ble_eq_true rfl)) d_Law_law_220 ⟨show cells + 0 ≤ 600000 by omega, show slots + 0 ≤ 7302250 by omega⟩) hw hA (fun r1 M1 H locs hp hw => ?_)
  obtain ⟨v1, o1, hp1, hS1⟩ := hp
  have hw := l2s hw
  refine lv_aload_n hx hb d_Law_law_223 rfl (lv_at hl 1 rfl) ?_
  refine lv_aload_n hx hb d_Law_law_224 rfl (lv_at hl 3 rfl) ?_
  refine lv_iload_n hx hb d_Law_law_225 rfl (lv_at hl 0 rfl) ?_
  refine lv_iconst (v := 1) hx hb d_Law_law_226 (by decide) ?_
  refine lv_iadd hx hb d_Law_law_227 ?_
  refine lv_topi (fun n227 en227 => ?_)
  obtain rfl : n227 = nI (i + 1) := en227.trans (nI_1 i)
  refine l_sld hx hb hX hbl hbA hw.1.2.2 (show i + 1 < L by omega) hL d_Law_law_228 ?_
  refine lv_aload_n hx hb d_Law_law_229 rfl (lv_at hl 3 rfl) ?_
  refine lv_iload_n hx hb d_Law_law_230 rfl (lv_at hl 0 rfl) ?_
  refine lv_iconst (v := 2) hx hb d_Law_law_231 (by decide) ?_
  refine lv_iadd hx hb d_Law_law_232 ?_
  refine lv_topi (fun n232 en232 => ?_)
  obtain rfl : n232 = nI (i + 2) := en232.trans (n_2 i)
  refine l_sld hx hb hX hbl hbA hw.1.2.2 (show i + 2 < L by omega) hL d_Law_law_233 ?_
  refine lv_aload_n hx hb d_Law_law_234 rfl (lv_at hl 3 rfl) ?_
  refine lv_iload_n hx hb d_Law_law_235 rfl (lv_at hl 0 rfl) ?_
  refine lv_iconst (v := 3) hx hb d_Law_law_236 (by decide) ?_
  refine lv_iadd hx hb d_Law_law_237 ?_
  refine lv_topi (fun n237 en237 => ?_)
  obtain rfl : n237 = nI (i + 3) := en237.trans (n_3 i)
  refine l_sld hx hb hX hbl hbA hw.1.2.2 (show i + 3 < L by omega) hL d_Law_law_238 ?_
  refine lv_i2l hx hb d_Law_law_239 rfl ?_
  refine lv_topl (fun n239 en239 => ?_)
  refine lv_bipush (v := 32) hx hb d_Law_law_240 (by decide) ?_
  refine lv_lshl hx hb d_Law_law_242 rfl ?_
  refine lv_topl (fun n242 en242 => ?_)
  refine lv_aload_n hx hb d_Law_law_243 rfl (lv_at hl 3 rfl) ?_
  refine lv_iload_n hx hb d_Law_law_244 rfl (lv_at hl 0 rfl) ?_
  refine lv_iconst (v := 4) hx hb d_Law_law_245 (by decide) ?_
  refine lv_iadd hx hb d_Law_law_246 ?_
  refine lv_topi (fun n246 en246 => ?_)
  obtain rfl : n246 = nI (i + 4) := en246.trans (n_4 i)
  refine l_sld hx hb hX hbl hbA hw.1.2.2 (show i + 4 < L by omega) hL d_Law_law_247 ?_
  refine lv_i2l hx hb d_Law_law_248 rfl ?_
  refine lv_topl (fun n248 en248 => ?_)
  refine lv_ldc2 (v := 4294967295) hx hb hown (hts _ wd_393) d_Law_law_249 ?_
  refine lv_land hx hb d_Law_law_252 ?_
  refine lv_topl (fun n252 en252 => ?_)
  refine lv_lor hx hb d_Law_law_253 ?_
  refine lv_topl (fun n253 en253 => ?_)
  obtain rfl : n253 = jL (xs (i + 3)) (xs (i + 4)) := en253.trans (by rw [en252, en248, en242, en239]; rfl)
  refine l_calli (va_runV (As := [.int (xs (i + 1)), .int (xs (i + 2)), .long (jL (xs (i + 3)) (xs (i + 4)))]) (rest := [.int r1]) hF (c_Mo_order l D cs N _ m0 v o hm hG0 (xs (i + 1)) (xs (i + 2)) (jL (xs (i + 3)) (xs (i + 4)))) (x_cwV 3 hts wd_335 wd_336 wd_337 wd_6 wd_338 rfl rfl (by decide +kernel) ⟨Nat.le_of_ble_eq_true rfl, Nat.le_of_ble_eq_true rfl⟩) (x_preV hK hZ (l2w hw) g0 rfl) rfl rfl hl.1 rfl (lv_room (Nat.le_of_ble_eq_true rfl)) d_Law_law_254 ⟨show cells + 0 + 0 ≤ 600000 by omega, show slots + 0 + 0 ≤ 7302250 by omega⟩) hw hA (fun r2 N1 H locs hp hw => ?_)
  obtain ⟨v2, o2, hp2, hm1⟩ := hp
  have hw := l2s hw
  obtain ⟨er, ev, eo⟩ := pOrd_one hG0 hp1 hp2
  rw [← ev, ← eo] at hm1
  refine lv_icmp_eq (tgt := 532) hx hb d_Law_law_257 (by decide) (fun c257 => ?_) (fun c257 => False.elim (c257 er))
  refine W.widen (k := cells + 1) (n := slots + 7) (by omega) (by omega) ?_
  exact J v1 o1 M1 N1 _ _ (pOrd_all hG0 hp1) hS1 hm1 hw
set_option maxHeartbeats 4000000 in
set_option maxRecDepth 100000 in
theorem t_step {p : Program} {l : Launch} {e : Env} {s : State} {m : MethodId} {below : List Frame} {meth : Method} {c : Code} {b L : Nat} {xs : Nat → Int32} {D : va_G} {cs : Nat → ClassId} (C0 : l_At p s m c b L xs D cs) {a0 m0 i : Nat} {v : gV} {o : List Nat} {M N : xM} {H : Heap} {locs : List Loc} {ls : Array Slot} {cells slots : Nat} {Q : State → Prop} (hi : i + 5 ≤ L) (hcc : cells + 1 ≤ 600000) (hss : slots + 7 ≤ 7302250) (hG0 : gAll v o) (hS : clS cs M a0 v o) (hm : mR cs N m0 v o) (hw : l2 (fun q : Nat => s.heap.size ≤ q) D classes M N s.heap H locs) (hl : lv_has ls 4 [(3, .int (nI i)), (2, .ref m0), (1, .ref a0), (0, .ref b)])
    (J : ∀ (v1 : gV) (o1 : List Nat) (M1 N1 : xM) (H1 : Heap) (locs1 : List Loc), gAll v1 o1 → clS cs M1 a0 v1 o1 → mR cs N1 m0 v1 o1 → l2 (fun q : Nat => s.heap.size ≤ q) D classes M1 N1 s.heap H1 locs1 → W p l e room_1 s m #[Value.ref b] below meth c H1 locs1 (cells + 1) (slots + 7) Q (F0 m 532 ls [])) : W p l e room_1 s m #[Value.ref b] below meth c H locs cells slots Q (F0 m 262 ls []) := by
  obtain ⟨hx, hb, hml, hown, hts, hX, hbl, hK, hZ, hL⟩ := C0
  have hF : CallFix p m c code 4 s #[Value.ref b] aw "GateTimesLaw" := ⟨hx, hb, hml, hown, hts⟩
  have hA : ∀ q : Nat, s.heap.size ≤ q → (fun q : Nat => s.heap.size ≤ q) q := fun _ h => h
  have hbA : ¬ (fun q : Nat => s.heap.size ≤ q) b := Nat.not_le.mpr hbl
  obtain ⟨fs, f0⟩ := clS_at hS
  obtain ⟨gs, g0⟩ := mR_at hm
  refine lv_aload_n hx hb d_Law_law_262 rfl (lv_at hl 2 rfl) ?_
  refine lv_aload_n hx hb d_Law_law_263 rfl (lv_at hl 3 rfl) ?_
  refine lv_iload_n hx hb d_Law_law_264 rfl (lv_at hl 0 rfl) ?_
  refine lv_iconst (v := 1) hx hb d_Law_law_265 (by decide) ?_
  refine lv_iadd hx hb d_Law_law_266 ?_
  refine lv_topi (fun n266 en266 => ?_)
  obtain rfl : n266 = nI (i + 1) := en266.trans (nI_1 i)
  refine l_sld hx hb hX hbl hbA hw.1.2.2 (show i + 1 < L by omega) hL d_Law_law_267 ?_
  refine lv_i2l hx hb d_Law_law_268 rfl ?_
  refine lv_topl (fun n268 en268 => ?_)
  refine lv_bipush (v := 32) hx hb d_Law_law_269 (by decide) ?_
  refine lv_lshl hx hb d_Law_law_271 rfl ?_
  refine lv_topl (fun n271 en271 => ?_)
  refine lv_aload_n hx hb d_Law_law_272 rfl (lv_at hl 3 rfl) ?_
  refine lv_iload_n hx hb d_Law_law_273 rfl (lv_at hl 0 rfl) ?_
  refine lv_iconst (v := 2) hx hb d_Law_law_274 (by decide) ?_
  refine lv_iadd hx hb d_Law_law_275 ?_
  refine lv_topi (fun n275 en275 => ?_)
  obtain rfl : n275 = nI (i + 2) := en275.trans (n_2 i)
  refine l_sld hx hb hX hbl hbA hw.1.2.2 (show i + 2 < L by omega) hL d_Law_law_276 ?_
  refine lv_i2l hx hb d_Law_law_277 rfl ?_
  refine lv_topl (fun n277 en277 => ?_)
  refine lv_ldc2 (v := 4294967295) hx hb hown (hts _ wd_393) d_Law_law_278 ?_
  refine lv_land hx hb d_Law_law_281 ?_
  refine lv_topl (fun n281 en281 => ?_)
  refine lv_lor hx hb d_Law_law_282 ?_
  refine lv_topl (fun n282 en282 => ?_)
  obtain rfl : n282 = jL (xs (i + 1)) (xs (i + 2)) := en282.trans (by rw [en281, en277, en271, en268]; rfl)
  refine l_calli (va_runV (As := [.long (jL (xs (i + 1)) (xs (i + 2)))]) (rest := []) hF (c_GT_step l D cs M _ a0 v o hS hG0 (jL (xs (i + 1)) (xs (i + 2)))) (x_cwV 1 hts wd_218 wd_219 wd_220 wd_1 wd_221 rfl rfl (by decide +kernel) ⟨Nat.le_of_ble_eq_true rfl, Nat.le_of_ble_eq_true rfl⟩) (x_preV hK hZ (l2w hw) f0 rfl) rfl rfl hl.1 rfl (lv_room (Nat.le_of_ble_eq_true rfl)) d_Law_law_283 ⟨show cells + 0 ≤ 600000 by omega, show slots + 0 ≤ 7302250 by omega⟩) hw hA (fun r1 M1 H locs hp hw => ?_)
  obtain ⟨v1, o1, hp1, hS1⟩ := hp
  have hw := l2s hw
  refine lv_aload_n hx hb d_Law_law_286 rfl (lv_at hl 1 rfl) ?_
  refine lv_aload_n hx hb d_Law_law_287 rfl (lv_at hl 3 rfl) ?_
  refine lv_iload_n hx hb d_Law_law_288 rfl (lv_at hl 0 rfl) ?_
  refine lv_iconst (v := 1) hx hb d_Law_law_289 (by decide) ?_
  refine lv_iadd hx hb d_Law_law_290 ?_
  refine lv_topi (fun n290 en290 => ?_)
  obtain rfl : n290 = nI (i + 1) := en290.trans (nI_1 i)
  refine l_sld hx hb hX hbl hbA hw.1.2.2 (show i + 1 < L by omega) hL d_Law_law_291 ?_
  refine lv_i2l hx hb d_Law_law_292 rfl ?_
  refine lv_topl (fun n292 en292 => ?_)
  refine lv_bipush (v := 32) hx hb d_Law_law_293 (by decide) ?_
  refine lv_lshl hx hb d_Law_law_295 rfl ?_
  refine lv_topl (fun n295 en295 => ?_)
  refine lv_aload_n hx hb d_Law_law_296 rfl (lv_at hl 3 rfl) ?_
  refine lv_iload_n hx hb d_Law_law_297 rfl (lv_at hl 0 rfl) ?_
  refine lv_iconst (v := 2) hx hb d_Law_law_298 (by decide) ?_
  refine lv_iadd hx hb d_Law_law_299 ?_
  refine lv_topi (fun n299 en299 => ?_)
  obtain rfl : n299 = nI (i + 2) := en299.trans (n_2 i)
  refine l_sld hx hb hX hbl hbA hw.1.2.2 (show i + 2 < L by omega) hL d_Law_law_300 ?_
  refine lv_i2l hx hb d_Law_law_301 rfl ?_
  refine lv_topl (fun n301 en301 => ?_)
  refine lv_ldc2 (v := 4294967295) hx hb hown (hts _ wd_393) d_Law_law_302 ?_
  refine lv_land hx hb d_Law_law_305 ?_
  refine lv_topl (fun n305 en305 => ?_)
  refine lv_lor hx hb d_Law_law_306 ?_
  refine lv_topl (fun n306 en306 => ?_)
  obtain rfl : n306 = jL (xs (i + 1)) (xs (i + 2)) := en306.trans (by rw [en305, en301, en295, en292]; rfl)
  refine l_calli (va_runV (As := [.long (jL (xs (i + 1)) (xs (i + 2)))]) (rest := [.int r1]) hF (c_Mo_step l D cs N _ m0 v o hm hG0 (jL (xs (i + 1)) (xs (i + 2)))) (x_cwV 1 hts wd_361 wd_362 wd_363 wd_6 wd_364 rfl rfl (by decide +kernel) ⟨Nat.le_of_ble_eq_true rfl, Nat.le_of_ble_eq_true rfl⟩) (x_preV hK hZ (l2w hw) g0 rfl) rfl rfl hl.1 rfl (lv_room (Nat.le_of_ble_eq_true rfl)) d_Law_law_307 ⟨show cells + 0 + 0 ≤ 600000 by omega, show slots + 0 + 0 ≤ 7302250 by omega⟩) hw hA (fun r2 N1 H locs hp hw => ?_)
  obtain ⟨v2, o2, hp2, hm1⟩ := hp
  have hw := l2s hw
  obtain ⟨er, ev, eo⟩ := pStep_one hG0 hp1 hp2
  rw [← ev, ← eo] at hm1
  refine lv_icmp_eq (tgt := 532) hx hb d_Law_law_310 (by decide) (fun c310 => ?_) (fun c310 => False.elim (c310 er))
  refine W.widen (k := cells + 1) (n := slots + 7) (by omega) (by omega) ?_
  exact J v1 o1 M1 N1 _ _ (pStep_all hG0 hp1) hS1 hm1 hw
set_option maxHeartbeats 4000000 in
set_option maxRecDepth 100000 in
theorem t_out {p : Program} {l : Launch} {e : Env} {s : State} {m : MethodId} {below : List Frame} {meth : Method} {c : Code} {b L : Nat} {xs : Nat → Int32} {D : va_G} {cs : Nat → ClassId} (C0 : l_At p s m c b L xs D cs) {a0 m0 i : Nat} {v : gV} {o : List Nat} {M N : xM} {H : Heap} {locs : List Loc} {ls : Array Slot} {cells slots : Nat} {Q : State → Prop} (hi : i + 5 ≤ L) (hcc : cells + 1 ≤ 600000) (hss : slots + 7 ≤ 7302250) (hG0 : gAll v o) (hS : clS cs M a0 v o) (hm : mR cs N m0 v o) (hw : l2 (fun q : Nat => s.heap.size ≤ q) D classes M N s.heap H locs) (hl : lv_has ls 4 [(3, .int (nI i)), (2, .ref m0), (1, .ref a0), (0, .ref b)])
    (J : ∀ (v1 : gV) (o1 : List Nat) (M1 N1 : xM) (H1 : Heap) (locs1 : List Loc), gAll v1 o1 → clS cs M1 a0 v1 o1 → mR cs N1 m0 v1 o1 → l2 (fun q : Nat => s.heap.size ≤ q) D classes M1 N1 s.heap H1 locs1 → W p l e room_1 s m #[Value.ref b] below meth c H1 locs1 (cells + 1) (slots + 7) Q (F0 m 532 ls [])) : W p l e room_1 s m #[Value.ref b] below meth c H locs cells slots Q (F0 m 315 ls []) := by
  obtain ⟨hx, hb, hml, hown, hts, hX, hbl, hK, hZ, hL⟩ := C0
  have hF : CallFix p m c code 4 s #[Value.ref b] aw "GateTimesLaw" := ⟨hx, hb, hml, hown, hts⟩
  have hA : ∀ q : Nat, s.heap.size ≤ q → (fun q : Nat => s.heap.size ≤ q) q := fun _ h => h
  have hbA : ¬ (fun q : Nat => s.heap.size ≤ q) b := Nat.not_le.mpr hbl
  obtain ⟨fs, f0⟩ := clS_at hS
  obtain ⟨gs, g0⟩ := mR_at hm
  refine lv_aload_n hx hb d_Law_law_315 rfl (lv_at hl 2 rfl) ?_
  refine lv_aload_n hx hb d_Law_law_316 rfl (lv_at hl 3 rfl) ?_
  refine lv_iload_n hx hb d_Law_law_317 rfl (lv_at hl 0 rfl) ?_
  refine lv_iconst (v := 1) hx hb d_Law_law_318 (by decide) ?_
  refine lv_iadd hx hb d_Law_law_319 ?_
  refine lv_topi (fun n319 en319 => ?_)
  obtain rfl : n319 = nI (i + 1) := en319.trans (nI_1 i)
  refine l_sld hx hb hX hbl hbA hw.1.2.2 (show i + 1 < L by omega) hL d_Law_law_320 ?_
  refine lv_aload_n hx hb d_Law_law_321 rfl (lv_at hl 3 rfl) ?_
  refine lv_iload_n hx hb d_Law_law_322 rfl (lv_at hl 0 rfl) ?_
  refine lv_iconst (v := 2) hx hb d_Law_law_323 (by decide) ?_
  refine lv_iadd hx hb d_Law_law_324 ?_
  refine lv_topi (fun n324 en324 => ?_)
  obtain rfl : n324 = nI (i + 2) := en324.trans (n_2 i)
  refine l_sld hx hb hX hbl hbA hw.1.2.2 (show i + 2 < L by omega) hL d_Law_law_325 ?_
  refine l_calli (va_runV (As := [.int (xs (i + 1)), .int (xs (i + 2))]) (rest := []) hF (c_GT_out l D cs M _ a0 v o hS hG0 (xs (i + 1)) (xs (i + 2))) (x_cwV 2 hts wd_222 wd_223 wd_224 wd_1 wd_225 rfl rfl (by decide +kernel) ⟨Nat.le_of_ble_eq_true rfl, Nat.le_of_ble_eq_true rfl⟩) (x_preV hK hZ (l2w hw) f0 rfl) rfl rfl hl.1 rfl (lv_room (Nat.le_of_ble_eq_true rfl)) d_Law_law_326 ⟨show cells + 0 ≤ 600000 by omega, show slots + 0 ≤ 7302250 by omega⟩) hw hA (fun r1 M1 H locs hp hw => ?_)
  obtain ⟨hp1, hM1⟩ := hp
  have hw := l2s hw
  refine lv_aload_n hx hb d_Law_law_329 rfl (lv_at hl 1 rfl) ?_
  refine lv_aload_n hx hb d_Law_law_330 rfl (lv_at hl 3 rfl) ?_
  refine lv_iload_n hx hb d_Law_law_331 rfl (lv_at hl 0 rfl) ?_
  refine lv_iconst (v := 1) hx hb d_Law_law_332 (by decide) ?_
  refine lv_iadd hx hb d_Law_law_333 ?_
  refine lv_topi (fun n333 en333 => ?_)
  obtain rfl : n333 = nI (i + 1) := en333.trans (nI_1 i)
  refine l_sld hx hb hX hbl hbA hw.1.2.2 (show i + 1 < L by omega) hL d_Law_law_334 ?_
  refine lv_aload_n hx hb d_Law_law_335 rfl (lv_at hl 3 rfl) ?_
  refine lv_iload_n hx hb d_Law_law_336 rfl (lv_at hl 0 rfl) ?_
  refine lv_iconst (v := 2) hx hb d_Law_law_337 (by decide) ?_
  refine lv_iadd hx hb d_Law_law_338 ?_
  refine lv_topi (fun n338 en338 => ?_)
  obtain rfl : n338 = nI (i + 2) := en338.trans (n_2 i)
  refine l_sld hx hb hX hbl hbA hw.1.2.2 (show i + 2 < L by omega) hL d_Law_law_339 ?_
  refine l_calli (va_runV (As := [.int (xs (i + 1)), .int (xs (i + 2))]) (rest := [.int r1]) hF (c_Mo_out l D cs N _ m0 v o hm hG0 (xs (i + 1)) (xs (i + 2))) (x_cwV 2 hts wd_365 wd_366 wd_367 wd_6 wd_368 rfl rfl (by decide +kernel) ⟨Nat.le_of_ble_eq_true rfl, Nat.le_of_ble_eq_true rfl⟩) (x_preV hK hZ (l2w hw) g0 rfl) rfl rfl hl.1 rfl (lv_room (Nat.le_of_ble_eq_true rfl)) d_Law_law_340 ⟨show cells + 0 + 0 ≤ 600000 by omega, show slots + 0 + 0 ≤ 7302250 by omega⟩) hw hA (fun r2 N1 H locs hp hw => ?_)
  obtain ⟨hp2, hN1⟩ := hp
  have hw := l2s hw
  have er := pPick_one (Nat.le_trans (came_few hG0.2.1) hG0.1.2.1) hp1 hp2
  rw [hM1, hN1] at hw
  refine lv_icmp_eq (tgt := 532) hx hb d_Law_law_343 (by decide) (fun c343 => ?_) (fun c343 => False.elim (c343 er))
  refine W.widen (k := cells + 1) (n := slots + 7) (by omega) (by omega) ?_
  exact J v o M N _ _ hG0 hS hm hw
set_option maxHeartbeats 4000000 in
set_option maxRecDepth 100000 in
theorem t_height {p : Program} {l : Launch} {e : Env} {s : State} {m : MethodId} {below : List Frame} {meth : Method} {c : Code} {b L : Nat} {xs : Nat → Int32} {D : va_G} {cs : Nat → ClassId} (C0 : l_At p s m c b L xs D cs) {a0 m0 i : Nat} {v : gV} {o : List Nat} {M N : xM} {H : Heap} {locs : List Loc} {ls : Array Slot} {cells slots : Nat} {Q : State → Prop} (hi : i + 5 ≤ L) (hcc : cells + 1 ≤ 600000) (hss : slots + 7 ≤ 7302250) (hG0 : gAll v o) (hS : clS cs M a0 v o) (hm : mR cs N m0 v o) (hw : l2 (fun q : Nat => s.heap.size ≤ q) D classes M N s.heap H locs) (hl : lv_has ls 4 [(3, .int (nI i)), (2, .ref m0), (1, .ref a0), (0, .ref b)])
    (J : ∀ (v1 : gV) (o1 : List Nat) (M1 N1 : xM) (H1 : Heap) (locs1 : List Loc), gAll v1 o1 → clS cs M1 a0 v1 o1 → mR cs N1 m0 v1 o1 → l2 (fun q : Nat => s.heap.size ≤ q) D classes M1 N1 s.heap H1 locs1 → W p l e room_1 s m #[Value.ref b] below meth c H1 locs1 (cells + 1) (slots + 7) Q (F0 m 532 ls [])) : W p l e room_1 s m #[Value.ref b] below meth c H locs cells slots Q (F0 m 348 ls []) := by
  obtain ⟨hx, hb, hml, hown, hts, hX, hbl, hK, hZ, hL⟩ := C0
  have hF : CallFix p m c code 4 s #[Value.ref b] aw "GateTimesLaw" := ⟨hx, hb, hml, hown, hts⟩
  have hA : ∀ q : Nat, s.heap.size ≤ q → (fun q : Nat => s.heap.size ≤ q) q := fun _ h => h
  have hbA : ¬ (fun q : Nat => s.heap.size ≤ q) b := Nat.not_le.mpr hbl
  obtain ⟨fs, f0⟩ := clS_at hS
  obtain ⟨gs, g0⟩ := mR_at hm
  refine lv_aload_n hx hb d_Law_law_348 rfl (lv_at hl 2 rfl) ?_
  refine lv_aload_n hx hb d_Law_law_349 rfl (lv_at hl 3 rfl) ?_
  refine lv_iload_n hx hb d_Law_law_350 rfl (lv_at hl 0 rfl) ?_
  refine lv_iconst (v := 1) hx hb d_Law_law_351 (by decide) ?_
  refine lv_iadd hx hb d_Law_law_352 ?_
  refine lv_topi (fun n352 en352 => ?_)
  obtain rfl : n352 = nI (i + 1) := en352.trans (nI_1 i)
  refine l_sld hx hb hX hbl hbA hw.1.2.2 (show i + 1 < L by omega) hL d_Law_law_353 ?_
  refine lv_aload_n hx hb d_Law_law_354 rfl (lv_at hl 3 rfl) ?_
  refine lv_iload_n hx hb d_Law_law_355 rfl (lv_at hl 0 rfl) ?_
  refine lv_iconst (v := 2) hx hb d_Law_law_356 (by decide) ?_
  refine lv_iadd hx hb d_Law_law_357 ?_
  refine lv_topi (fun n357 en357 => ?_)
  obtain rfl : n357 = nI (i + 2) := en357.trans (n_2 i)
  refine l_sld hx hb hX hbl hbA hw.1.2.2 (show i + 2 < L by omega) hL d_Law_law_358 ?_
  refine l_calli (va_runV (As := [.int (xs (i + 1)), .int (xs (i + 2))]) (rest := []) hF (c_GT_height l D cs M _ a0 v o hS hG0 (xs (i + 1)) (xs (i + 2))) (x_cwV 2 hts wd_226 wd_227 wd_228 wd_1 wd_229 rfl rfl (by decide +kernel) ⟨Nat.le_of_ble_eq_true rfl, Nat.le_of_ble_eq_true rfl⟩) (x_preV hK hZ (l2w hw) f0 rfl) rfl rfl hl.1 rfl (lv_room (Nat.le_of_ble_eq_true rfl)) d_Law_law_359 ⟨show cells + 0 ≤ 600000 by omega, show slots + 0 ≤ 7302250 by omega⟩) hw hA (fun r1 M1 H locs hp hw => ?_)
  obtain ⟨v1, o1, hp1, ho1, hS1⟩ := hp
  rw [ho1] at hS1
  have hw := l2s hw
  refine lv_aload_n hx hb d_Law_law_362 rfl (lv_at hl 1 rfl) ?_
  refine lv_aload_n hx hb d_Law_law_363 rfl (lv_at hl 3 rfl) ?_
  refine lv_iload_n hx hb d_Law_law_364 rfl (lv_at hl 0 rfl) ?_
  refine lv_iconst (v := 1) hx hb d_Law_law_365 (by decide) ?_
  refine lv_iadd hx hb d_Law_law_366 ?_
  refine lv_topi (fun n366 en366 => ?_)
  obtain rfl : n366 = nI (i + 1) := en366.trans (nI_1 i)
  refine l_sld hx hb hX hbl hbA hw.1.2.2 (show i + 1 < L by omega) hL d_Law_law_367 ?_
  refine lv_aload_n hx hb d_Law_law_368 rfl (lv_at hl 3 rfl) ?_
  refine lv_iload_n hx hb d_Law_law_369 rfl (lv_at hl 0 rfl) ?_
  refine lv_iconst (v := 2) hx hb d_Law_law_370 (by decide) ?_
  refine lv_iadd hx hb d_Law_law_371 ?_
  refine lv_topi (fun n371 en371 => ?_)
  obtain rfl : n371 = nI (i + 2) := en371.trans (n_2 i)
  refine l_sld hx hb hX hbl hbA hw.1.2.2 (show i + 2 < L by omega) hL d_Law_law_372 ?_
  refine l_calli (va_runV (As := [.int (xs (i + 1)), .int (xs (i + 2))]) (rest := [.int r1]) hF (c_Mo_height l D cs N _ m0 v o hm hG0 (xs (i + 1)) (xs (i + 2))) (x_cwV 2 hts wd_369 wd_370 wd_371 wd_6 wd_372 rfl rfl (by decide +kernel) ⟨Nat.le_of_ble_eq_true rfl, Nat.le_of_ble_eq_true rfl⟩) (x_preV hK hZ (l2w hw) g0 rfl) rfl rfl hl.1 rfl (lv_room (Nat.le_of_ble_eq_true rfl)) d_Law_law_373 ⟨show cells + 0 + 0 ≤ 600000 by omega, show slots + 0 + 0 ≤ 7302250 by omega⟩) hw hA (fun r2 N1 H locs hp hw => ?_)
  obtain ⟨v2, o2, hp2, ho2, hm1⟩ := hp
  rw [ho2] at hm1
  have hw := l2s hw
  obtain ⟨er, ev⟩ := pHei_one hG0.1.1.2 hp1 hp2
  rw [← ev] at hm1
  refine lv_icmp_eq (tgt := 532) hx hb d_Law_law_376 (by decide) (fun c376 => ?_) (fun c376 => False.elim (c376 er))
  refine W.widen (k := cells + 1) (n := slots + 7) (by omega) (by omega) ?_
  exact J v1 o M1 N1 _ _ (pHei_all hG0 hp1) hS1 hm1 hw
set_option maxHeartbeats 4000000 in
set_option maxRecDepth 100000 in
theorem t_swap {p : Program} {l : Launch} {e : Env} {s : State} {m : MethodId} {below : List Frame} {meth : Method} {c : Code} {b L : Nat} {xs : Nat → Int32} {D : va_G} {cs : Nat → ClassId} (C0 : l_At p s m c b L xs D cs) {a0 m0 i : Nat} {v : gV} {o : List Nat} {M N : xM} {H : Heap} {locs : List Loc} {ls : Array Slot} {cells slots : Nat} {Q : State → Prop} (hi : i + 5 ≤ L) (hcc : cells + 1 ≤ 600000) (hss : slots + 7 ≤ 7302250) (hG0 : gAll v o) (hS : clS cs M a0 v o) (hm : mR cs N m0 v o) (hw : l2 (fun q : Nat => s.heap.size ≤ q) D classes M N s.heap H locs) (hl : lv_has ls 4 [(3, .int (nI i)), (2, .ref m0), (1, .ref a0), (0, .ref b)])
    (J : ∀ (v1 : gV) (o1 : List Nat) (M1 N1 : xM) (H1 : Heap) (locs1 : List Loc), gAll v1 o1 → clS cs M1 a0 v1 o1 → mR cs N1 m0 v1 o1 → l2 (fun q : Nat => s.heap.size ≤ q) D classes M1 N1 s.heap H1 locs1 → W p l e room_1 s m #[Value.ref b] below meth c H1 locs1 (cells + 1) (slots + 7) Q (F0 m 532 ls [])) : W p l e room_1 s m #[Value.ref b] below meth c H locs cells slots Q (F0 m 381 ls []) := by
  obtain ⟨hx, hb, hml, hown, hts, hX, hbl, hK, hZ, hL⟩ := C0
  have hF : CallFix p m c code 4 s #[Value.ref b] aw "GateTimesLaw" := ⟨hx, hb, hml, hown, hts⟩
  have hA : ∀ q : Nat, s.heap.size ≤ q → (fun q : Nat => s.heap.size ≤ q) q := fun _ h => h
  have hbA : ¬ (fun q : Nat => s.heap.size ≤ q) b := Nat.not_le.mpr hbl
  obtain ⟨fs, f0⟩ := clS_at hS
  obtain ⟨gs, g0⟩ := mR_at hm
  refine lv_aload_n hx hb d_Law_law_381 rfl (lv_at hl 2 rfl) ?_
  refine lv_aload_n hx hb d_Law_law_382 rfl (lv_at hl 3 rfl) ?_
  refine lv_iload_n hx hb d_Law_law_383 rfl (lv_at hl 0 rfl) ?_
  refine lv_iconst (v := 1) hx hb d_Law_law_384 (by decide) ?_
  refine lv_iadd hx hb d_Law_law_385 ?_
  refine lv_topi (fun n385 en385 => ?_)
  obtain rfl : n385 = nI (i + 1) := en385.trans (nI_1 i)
  refine l_sld hx hb hX hbl hbA hw.1.2.2 (show i + 1 < L by omega) hL d_Law_law_386 ?_
  refine l_calli (va_runV (As := [.int (xs (i + 1))]) (rest := []) hF (c_GT_swap l D cs M _ a0 v o hS hG0 (xs (i + 1))) (x_cwV 1 hts wd_230 wd_231 wd_232 wd_1 wd_233 rfl rfl (by decide +kernel) ⟨Nat.le_of_ble_eq_true rfl, Nat.le_of_ble_eq_true rfl⟩) (x_preV hK hZ (l2w hw) f0 rfl) rfl rfl hl.1 rfl (lv_room (Nat.le_of_ble_eq_true rfl)) d_Law_law_387 ⟨show cells + 0 ≤ 600000 by omega, show slots + 0 ≤ 7302250 by omega⟩) hw hA (fun r1 M1 H locs hp hw => ?_)
  obtain ⟨v1, o1, hp1, ho1, hS1⟩ := hp
  rw [ho1] at hS1
  have hw := l2s hw
  refine lv_aload_n hx hb d_Law_law_390 rfl (lv_at hl 1 rfl) ?_
  refine lv_aload_n hx hb d_Law_law_391 rfl (lv_at hl 3 rfl) ?_
  refine lv_iload_n hx hb d_Law_law_392 rfl (lv_at hl 0 rfl) ?_
  refine lv_iconst (v := 1) hx hb d_Law_law_393 (by decide) ?_
  refine lv_iadd hx hb d_Law_law_394 ?_
  refine lv_topi (fun n394 en394 => ?_)
  obtain rfl : n394 = nI (i + 1) := en394.trans (nI_1 i)
  refine l_sld hx hb hX hbl hbA hw.1.2.2 (show i + 1 < L by omega) hL d_Law_law_395 ?_
  refine l_calli (va_runV (As := [.int (xs (i + 1))]) (rest := [.int r1]) hF (c_Mo_swap l D cs N _ m0 v o hm hG0 (xs (i + 1))) (x_cwV 1 hts wd_373 wd_374 wd_375 wd_6 wd_376 rfl rfl (by decide +kernel) ⟨Nat.le_of_ble_eq_true rfl, Nat.le_of_ble_eq_true rfl⟩) (x_preV hK hZ (l2w hw) g0 rfl) rfl rfl hl.1 rfl (lv_room (Nat.le_of_ble_eq_true rfl)) d_Law_law_396 ⟨show cells + 0 + 0 ≤ 600000 by omega, show slots + 0 + 0 ≤ 7302250 by omega⟩) hw hA (fun r2 N1 H locs hp hw => ?_)
  obtain ⟨v2, o2, hp2, ho2, hm1⟩ := hp
  rw [ho2] at hm1
  have hw := l2s hw
  obtain ⟨er, ev⟩ := pSwp_one hG0.1.1.2 hp1 hp2
  rw [← ev] at hm1
  refine lv_icmp_eq (tgt := 532) hx hb d_Law_law_399 (by decide) (fun c399 => ?_) (fun c399 => False.elim (c399 er))
  refine W.widen (k := cells + 1) (n := slots + 7) (by omega) (by omega) ?_
  exact J v1 o M1 N1 _ _ (pSwp_all hG0 hp1) hS1 hm1 hw
set_option maxHeartbeats 4000000 in
set_option maxRecDepth 100000 in
theorem t_stuck {p : Program} {l : Launch} {e : Env} {s : State} {m : MethodId} {below : List Frame} {meth : Method} {c : Code} {b L : Nat} {xs : Nat → Int32} {D : va_G} {cs : Nat → ClassId} (C0 : l_At p s m c b L xs D cs) {a0 m0 i : Nat} {v : gV} {o : List Nat} {M N : xM} {H : Heap} {locs : List Loc} {ls : Array Slot} {cells slots : Nat} {Q : State → Prop} (hi : i + 5 ≤ L) (hcc : cells + 1 ≤ 600000) (hss : slots + 7 ≤ 7302250) (hG0 : gAll v o) (hS : clS cs M a0 v o) (hm : mR cs N m0 v o) (hw : l2 (fun q : Nat => s.heap.size ≤ q) D classes M N s.heap H locs) (hl : lv_has ls 4 [(3, .int (nI i)), (2, .ref m0), (1, .ref a0), (0, .ref b)])
    (J : ∀ (v1 : gV) (o1 : List Nat) (M1 N1 : xM) (H1 : Heap) (locs1 : List Loc), gAll v1 o1 → clS cs M1 a0 v1 o1 → mR cs N1 m0 v1 o1 → l2 (fun q : Nat => s.heap.size ≤ q) D classes M1 N1 s.heap H1 locs1 → W p l e room_1 s m #[Value.ref b] below meth c H1 locs1 (cells + 1) (slots + 7) Q (F0 m 532 ls [])) : W p l e room_1 s m #[Value.ref b] below meth c H locs cells slots Q (F0 m 404 ls []) := by
  obtain ⟨hx, hb, hml, hown, hts, hX, hbl, hK, hZ, hL⟩ := C0
  have hF : CallFix p m c code 4 s #[Value.ref b] aw "GateTimesLaw" := ⟨hx, hb, hml, hown, hts⟩
  have hA : ∀ q : Nat, s.heap.size ≤ q → (fun q : Nat => s.heap.size ≤ q) q := fun _ h => h
  have hbA : ¬ (fun q : Nat => s.heap.size ≤ q) b := Nat.not_le.mpr hbl
  obtain ⟨fs, f0⟩ := clS_at hS
  obtain ⟨gs, g0⟩ := mR_at hm
  by_cases hz : xs (i + 2) = 0
  ·
    refine lv_aload_n hx hb d_Law_law_404 rfl (lv_at hl 2 rfl) ?_
    refine lv_aload_n hx hb d_Law_law_405 rfl (lv_at hl 3 rfl) ?_
    refine lv_iload_n hx hb d_Law_law_406 rfl (lv_at hl 0 rfl) ?_
    refine lv_iconst (v := 1) hx hb d_Law_law_407 (by decide) ?_
    refine lv_iadd hx hb d_Law_law_408 ?_
    refine lv_topi (fun n408 en408 => ?_)
    obtain rfl : n408 = nI (i + 1) := en408.trans (nI_1 i)
    refine l_sld hx hb hX hbl hbA hw.1.2.2 (show i + 1 < L by omega) hL d_Law_law_409 ?_
    refine lv_aload_n hx hb d_Law_law_410 rfl (lv_at hl 3 rfl) ?_
    refine lv_iload_n hx hb d_Law_law_411 rfl (lv_at hl 0 rfl) ?_
    refine lv_iconst (v := 2) hx hb d_Law_law_412 (by decide) ?_
    refine lv_iadd hx hb d_Law_law_413 ?_
    refine lv_topi (fun n413 en413 => ?_)
    obtain rfl : n413 = nI (i + 2) := en413.trans (n_2 i)
    refine l_sld hx hb hX hbl hbA hw.1.2.2 (show i + 2 < L by omega) hL d_Law_law_414 ?_
    refine lv_if_eq (tgt := 422) hx hb d_Law_law_415 (by decide) (fun c415 => ?_) (fun c415 => False.elim (c415 hz))
    refine lv_iconst (v := 0) hx hb d_Law_law_422 (by decide) ?_
    refine l_calli (va_runV (As := [.int (xs (i + 1)), .int 0]) (rest := []) hF (c_GT_stuck l D cs M _ a0 v o hS hG0 (xs (i + 1)) 0 (by decide)) (x_cwV 2 hts wd_234 wd_235 wd_236 wd_1 wd_237 rfl rfl (by decide +kernel) ⟨Nat.le_of_ble_eq_true rfl, Nat.le_of_ble_eq_true rfl⟩) (x_preV hK hZ (l2w hw) f0 rfl) rfl rfl hl.1 rfl (lv_room (Nat.le_of_ble_eq_true rfl)) d_Law_law_423 ⟨show cells + 0 ≤ 600000 by omega, show slots + 0 ≤ 7302250 by omega⟩) hw hA (fun r1 M1 H locs hp hw => ?_)
    obtain ⟨v1, o1, hp1, ho1, hS1⟩ := hp
    rw [ho1] at hS1
    have hw := l2s hw
    refine lv_aload_n hx hb d_Law_law_426 rfl (lv_at hl 1 rfl) ?_
    refine lv_aload_n hx hb d_Law_law_427 rfl (lv_at hl 3 rfl) ?_
    refine lv_iload_n hx hb d_Law_law_428 rfl (lv_at hl 0 rfl) ?_
    refine lv_iconst (v := 1) hx hb d_Law_law_429 (by decide) ?_
    refine lv_iadd hx hb d_Law_law_430 ?_
    refine lv_topi (fun n430 en430 => ?_)
    obtain rfl : n430 = nI (i + 1) := en430.trans (nI_1 i)
    refine l_sld hx hb hX hbl hbA hw.1.2.2 (show i + 1 < L by omega) hL d_Law_law_431 ?_
    refine lv_aload_n hx hb d_Law_law_432 rfl (lv_at hl 3 rfl) ?_
    refine lv_iload_n hx hb d_Law_law_433 rfl (lv_at hl 0 rfl) ?_
    refine lv_iconst (v := 2) hx hb d_Law_law_434 (by decide) ?_
    refine lv_iadd hx hb d_Law_law_435 ?_
    refine lv_topi (fun n435 en435 => ?_)
    obtain rfl : n435 = nI (i + 2) := en435.trans (n_2 i)
    refine l_sld hx hb hX hbl hbA hw.1.2.2 (show i + 2 < L by omega) hL d_Law_law_436 ?_
    refine lv_if_eq (tgt := 444) hx hb d_Law_law_437 (by decide) (fun c437 => ?_) (fun c437 => False.elim (c437 hz))
    refine lv_iconst (v := 0) hx hb d_Law_law_444 (by decide) ?_
    refine l_calli (va_runV (As := [.int (xs (i + 1)), .int 0]) (rest := [.int r1]) hF (c_Mo_stuck l D cs N _ m0 v o hm hG0 (xs (i + 1)) 0 (by decide)) (x_cwV 2 hts wd_377 wd_378 wd_379 wd_6 wd_380 rfl rfl (by decide +kernel) ⟨Nat.le_of_ble_eq_true rfl, Nat.le_of_ble_eq_true rfl⟩) (x_preV hK hZ (l2w hw) g0 rfl) rfl rfl hl.1 rfl (lv_room (Nat.le_of_ble_eq_true rfl)) d_Law_law_445 ⟨show cells + 0 + 0 ≤ 600000 by omega, show slots + 0 + 0 ≤ 7302250 by omega⟩) hw hA (fun r2 N1 H locs hp hw => ?_)
    obtain ⟨v2, o2, hp2, ho2, hm1⟩ := hp
    rw [ho2] at hm1
    have hw := l2s hw
    obtain ⟨er, ev⟩ := pStk_one hG0.1.1.2 hp1 hp2
    rw [← ev] at hm1
    refine lv_icmp_eq (tgt := 532) hx hb d_Law_law_448 (by decide) (fun c448 => ?_) (fun c448 => False.elim (c448 er))
    refine W.widen (k := cells + 1) (n := slots + 7) (by omega) (by omega) ?_
    exact J v1 o M1 N1 _ _ (pStk_all hG0 (by decide) hp1) hS1 hm1 hw
  ·
    refine lv_aload_n hx hb d_Law_law_404 rfl (lv_at hl 2 rfl) ?_
    refine lv_aload_n hx hb d_Law_law_405 rfl (lv_at hl 3 rfl) ?_
    refine lv_iload_n hx hb d_Law_law_406 rfl (lv_at hl 0 rfl) ?_
    refine lv_iconst (v := 1) hx hb d_Law_law_407 (by decide) ?_
    refine lv_iadd hx hb d_Law_law_408 ?_
    refine lv_topi (fun n408 en408 => ?_)
    obtain rfl : n408 = nI (i + 1) := en408.trans (nI_1 i)
    refine l_sld hx hb hX hbl hbA hw.1.2.2 (show i + 1 < L by omega) hL d_Law_law_409 ?_
    refine lv_aload_n hx hb d_Law_law_410 rfl (lv_at hl 3 rfl) ?_
    refine lv_iload_n hx hb d_Law_law_411 rfl (lv_at hl 0 rfl) ?_
    refine lv_iconst (v := 2) hx hb d_Law_law_412 (by decide) ?_
    refine lv_iadd hx hb d_Law_law_413 ?_
    refine lv_topi (fun n413 en413 => ?_)
    obtain rfl : n413 = nI (i + 2) := en413.trans (n_2 i)
    refine l_sld hx hb hX hbl hbA hw.1.2.2 (show i + 2 < L by omega) hL d_Law_law_414 ?_
    refine lv_if_eq (tgt := 422) hx hb d_Law_law_415 (by decide) (fun c415 => False.elim (hz c415)) (fun c415 => ?_)
    refine lv_iconst (v := 1) hx hb d_Law_law_418 (by decide) ?_
    refine lv_goto (tgt := 423) hx hb d_Law_law_419 (by decide) ?_
    refine l_calli (va_runV (As := [.int (xs (i + 1)), .int 1]) (rest := []) hF (c_GT_stuck l D cs M _ a0 v o hS hG0 (xs (i + 1)) 1 (by decide)) (x_cwV 2 hts wd_234 wd_235 wd_236 wd_1 wd_237 rfl rfl (by decide +kernel) ⟨Nat.le_of_ble_eq_true rfl, Nat.le_of_ble_eq_true rfl⟩) (x_preV hK hZ (l2w hw) f0 rfl) rfl rfl hl.1 rfl (lv_room (Nat.le_of_ble_eq_true rfl)) d_Law_law_423 ⟨show cells + 0 ≤ 600000 by omega, show slots + 0 ≤ 7302250 by omega⟩) hw hA (fun r1 M1 H locs hp hw => ?_)
    obtain ⟨v1, o1, hp1, ho1, hS1⟩ := hp
    rw [ho1] at hS1
    have hw := l2s hw
    refine lv_aload_n hx hb d_Law_law_426 rfl (lv_at hl 1 rfl) ?_
    refine lv_aload_n hx hb d_Law_law_427 rfl (lv_at hl 3 rfl) ?_
    refine lv_iload_n hx hb d_Law_law_428 rfl (lv_at hl 0 rfl) ?_
    refine lv_iconst (v := 1) hx hb d_Law_law_429 (by decide) ?_
    refine lv_iadd hx hb d_Law_law_430 ?_
    refine lv_topi (fun n430 en430 => ?_)
    obtain rfl : n430 = nI (i + 1) := en430.trans (nI_1 i)
    refine l_sld hx hb hX hbl hbA hw.1.2.2 (show i + 1 < L by omega) hL d_Law_law_431 ?_
    refine lv_aload_n hx hb d_Law_law_432 rfl (lv_at hl 3 rfl) ?_
    refine lv_iload_n hx hb d_Law_law_433 rfl (lv_at hl 0 rfl) ?_
    refine lv_iconst (v := 2) hx hb d_Law_law_434 (by decide) ?_
    refine lv_iadd hx hb d_Law_law_435 ?_
    refine lv_topi (fun n435 en435 => ?_)
    obtain rfl : n435 = nI (i + 2) := en435.trans (n_2 i)
    refine l_sld hx hb hX hbl hbA hw.1.2.2 (show i + 2 < L by omega) hL d_Law_law_436 ?_
    refine lv_if_eq (tgt := 444) hx hb d_Law_law_437 (by decide) (fun c437 => False.elim (hz c437)) (fun c437 => ?_)
    refine lv_iconst (v := 1) hx hb d_Law_law_440 (by decide) ?_
    refine lv_goto (tgt := 445) hx hb d_Law_law_441 (by decide) ?_
    refine l_calli (va_runV (As := [.int (xs (i + 1)), .int 1]) (rest := [.int r1]) hF (c_Mo_stuck l D cs N _ m0 v o hm hG0 (xs (i + 1)) 1 (by decide)) (x_cwV 2 hts wd_377 wd_378 wd_379 wd_6 wd_380 rfl rfl (by decide +kernel) ⟨Nat.le_of_ble_eq_true rfl, Nat.le_of_ble_eq_true rfl⟩) (x_preV hK hZ (l2w hw) g0 rfl) rfl rfl hl.1 rfl (lv_room (Nat.le_of_ble_eq_true rfl)) d_Law_law_445 ⟨show cells + 0 + 0 ≤ 600000 by omega, show slots + 0 + 0 ≤ 7302250 by omega⟩) hw hA (fun r2 N1 H locs hp hw => ?_)
    obtain ⟨v2, o2, hp2, ho2, hm1⟩ := hp
    rw [ho2] at hm1
    have hw := l2s hw
    obtain ⟨er, ev⟩ := pStk_one hG0.1.1.2 hp1 hp2
    rw [← ev] at hm1
    refine lv_icmp_eq (tgt := 532) hx hb d_Law_law_448 (by decide) (fun c448 => ?_) (fun c448 => False.elim (c448 er))
    refine W.widen (k := cells + 1) (n := slots + 7) (by omega) (by omega) ?_
    exact J v1 o M1 N1 _ _ (pStk_all hG0 (by decide) hp1) hS1 hm1 hw
set_option maxHeartbeats 4000000 in
set_option maxRecDepth 100000 in
theorem t_late {p : Program} {l : Launch} {e : Env} {s : State} {m : MethodId} {below : List Frame} {meth : Method} {c : Code} {b L : Nat} {xs : Nat → Int32} {D : va_G} {cs : Nat → ClassId} (C0 : l_At p s m c b L xs D cs) {a0 m0 i : Nat} {v : gV} {o : List Nat} {M N : xM} {H : Heap} {locs : List Loc} {ls : Array Slot} {cells slots : Nat} {Q : State → Prop} (hi : i + 5 ≤ L) (hcc : cells + 1 ≤ 600000) (hss : slots + 7 ≤ 7302250) (hG0 : gAll v o) (hS : clS cs M a0 v o) (hm : mR cs N m0 v o) (hw : l2 (fun q : Nat => s.heap.size ≤ q) D classes M N s.heap H locs) (hl : lv_has ls 4 [(3, .int (nI i)), (2, .ref m0), (1, .ref a0), (0, .ref b)])
    (J : ∀ (v1 : gV) (o1 : List Nat) (M1 N1 : xM) (H1 : Heap) (locs1 : List Loc), gAll v1 o1 → clS cs M1 a0 v1 o1 → mR cs N1 m0 v1 o1 → l2 (fun q : Nat => s.heap.size ≤ q) D classes M1 N1 s.heap H1 locs1 → W p l e room_1 s m #[Value.ref b] below meth c H1 locs1 (cells + 1) (slots + 7) Q (F0 m 532 ls [])) : W p l e room_1 s m #[Value.ref b] below meth c H locs cells slots Q (F0 m 453 ls []) := by
  obtain ⟨hx, hb, hml, hown, hts, hX, hbl, hK, hZ, hL⟩ := C0
  have hF : CallFix p m c code 4 s #[Value.ref b] aw "GateTimesLaw" := ⟨hx, hb, hml, hown, hts⟩
  have hA : ∀ q : Nat, s.heap.size ≤ q → (fun q : Nat => s.heap.size ≤ q) q := fun _ h => h
  have hbA : ¬ (fun q : Nat => s.heap.size ≤ q) b := Nat.not_le.mpr hbl
  obtain ⟨fs, f0⟩ := clS_at hS
  obtain ⟨gs, g0⟩ := mR_at hm
  refine lv_aload_n hx hb d_Law_law_453 rfl (lv_at hl 2 rfl) ?_
  refine lv_aload_n hx hb d_Law_law_454 rfl (lv_at hl 3 rfl) ?_
  refine lv_iload_n hx hb d_Law_law_455 rfl (lv_at hl 0 rfl) ?_
  refine lv_iconst (v := 1) hx hb d_Law_law_456 (by decide) ?_
  refine lv_iadd hx hb d_Law_law_457 ?_
  refine lv_topi (fun n457 en457 => ?_)
  obtain rfl : n457 = nI (i + 1) := en457.trans (nI_1 i)
  refine l_sld hx hb hX hbl hbA hw.1.2.2 (show i + 1 < L by omega) hL d_Law_law_458 ?_
  refine l_calli (va_runV (As := [.int (xs (i + 1))]) (rest := []) hF (c_GT_late l D cs M _ a0 v o hS hG0 (xs (i + 1))) (x_cwV 1 hts wd_238 wd_239 wd_240 wd_1 wd_241 rfl rfl (by decide +kernel) ⟨Nat.le_of_ble_eq_true rfl, Nat.le_of_ble_eq_true rfl⟩) (x_preV hK hZ (l2w hw) f0 rfl) rfl rfl hl.1 rfl (lv_room (Nat.le_of_ble_eq_true rfl)) d_Law_law_459 ⟨show cells + 0 ≤ 600000 by omega, show slots + 0 ≤ 7302250 by omega⟩) hw hA (fun r1 M1 H locs hp hw => ?_)
  obtain ⟨hp1, hM1⟩ := hp
  have hw := l2s hw
  refine lv_aload_n hx hb d_Law_law_462 rfl (lv_at hl 1 rfl) ?_
  refine lv_aload_n hx hb d_Law_law_463 rfl (lv_at hl 3 rfl) ?_
  refine lv_iload_n hx hb d_Law_law_464 rfl (lv_at hl 0 rfl) ?_
  refine lv_iconst (v := 1) hx hb d_Law_law_465 (by decide) ?_
  refine lv_iadd hx hb d_Law_law_466 ?_
  refine lv_topi (fun n466 en466 => ?_)
  obtain rfl : n466 = nI (i + 1) := en466.trans (nI_1 i)
  refine l_sld hx hb hX hbl hbA hw.1.2.2 (show i + 1 < L by omega) hL d_Law_law_467 ?_
  refine l_calli (va_runV (As := [.int (xs (i + 1))]) (rest := [.int r1]) hF (c_Mo_late l D cs N _ m0 v o hm hG0 (xs (i + 1))) (x_cwV 1 hts wd_381 wd_382 wd_383 wd_6 wd_384 rfl rfl (by decide +kernel) ⟨Nat.le_of_ble_eq_true rfl, Nat.le_of_ble_eq_true rfl⟩) (x_preV hK hZ (l2w hw) g0 rfl) rfl rfl hl.1 rfl (lv_room (Nat.le_of_ble_eq_true rfl)) d_Law_law_468 ⟨show cells + 0 + 0 ≤ 600000 by omega, show slots + 0 + 0 ≤ 7302250 by omega⟩) hw hA (fun r2 N1 H locs hp hw => ?_)
  obtain ⟨hp2, hN1⟩ := hp
  have hw := l2s hw
  have er := pLat_one hG0.1.2.1 hp1 hp2
  rw [hM1, hN1] at hw
  refine lv_icmp_eq (tgt := 532) hx hb d_Law_law_471 (by decide) (fun c471 => ?_) (fun c471 => False.elim (c471 er))
  refine W.widen (k := cells + 1) (n := slots + 7) (by omega) (by omega) ?_
  exact J v o M N _ _ hG0 hS hm hw
set_option maxHeartbeats 4000000 in
set_option maxRecDepth 100000 in
theorem t_count {p : Program} {l : Launch} {e : Env} {s : State} {m : MethodId} {below : List Frame} {meth : Method} {c : Code} {b L : Nat} {xs : Nat → Int32} {D : va_G} {cs : Nat → ClassId} (C0 : l_At p s m c b L xs D cs) {a0 m0 i : Nat} {v : gV} {o : List Nat} {M N : xM} {H : Heap} {locs : List Loc} {ls : Array Slot} {cells slots : Nat} {Q : State → Prop} (hi : i + 5 ≤ L) (hcc : cells + 1 ≤ 600000) (hss : slots + 7 ≤ 7302250) (hG0 : gAll v o) (hS : clS cs M a0 v o) (hm : mR cs N m0 v o) (hw : l2 (fun q : Nat => s.heap.size ≤ q) D classes M N s.heap H locs) (hl : lv_has ls 4 [(3, .int (nI i)), (2, .ref m0), (1, .ref a0), (0, .ref b)])
    (J : ∀ (v1 : gV) (o1 : List Nat) (M1 N1 : xM) (H1 : Heap) (locs1 : List Loc), gAll v1 o1 → clS cs M1 a0 v1 o1 → mR cs N1 m0 v1 o1 → l2 (fun q : Nat => s.heap.size ≤ q) D classes M1 N1 s.heap H1 locs1 → W p l e room_1 s m #[Value.ref b] below meth c H1 locs1 (cells + 1) (slots + 7) Q (F0 m 532 ls [])) : W p l e room_1 s m #[Value.ref b] below meth c H locs cells slots Q (F0 m 476 ls []) := by
  obtain ⟨hx, hb, hml, hown, hts, hX, hbl, hK, hZ, hL⟩ := C0
  have hF : CallFix p m c code 4 s #[Value.ref b] aw "GateTimesLaw" := ⟨hx, hb, hml, hown, hts⟩
  have hA : ∀ q : Nat, s.heap.size ≤ q → (fun q : Nat => s.heap.size ≤ q) q := fun _ h => h
  have hbA : ¬ (fun q : Nat => s.heap.size ≤ q) b := Nat.not_le.mpr hbl
  obtain ⟨fs, f0⟩ := clS_at hS
  obtain ⟨gs, g0⟩ := mR_at hm
  refine lv_aload_n hx hb d_Law_law_476 rfl (lv_at hl 2 rfl) ?_
  refine lv_aload_n hx hb d_Law_law_477 rfl (lv_at hl 3 rfl) ?_
  refine lv_iload_n hx hb d_Law_law_478 rfl (lv_at hl 0 rfl) ?_
  refine lv_iconst (v := 1) hx hb d_Law_law_479 (by decide) ?_
  refine lv_iadd hx hb d_Law_law_480 ?_
  refine lv_topi (fun n480 en480 => ?_)
  obtain rfl : n480 = nI (i + 1) := en480.trans (nI_1 i)
  refine l_sld hx hb hX hbl hbA hw.1.2.2 (show i + 1 < L by omega) hL d_Law_law_481 ?_
  refine l_calli (va_runV (As := [.int (xs (i + 1))]) (rest := []) hF (c_GT_count l D cs M _ a0 v o hS hG0 (xs (i + 1))) (x_cwV 1 hts wd_242 wd_243 wd_244 wd_1 wd_245 rfl rfl (by decide +kernel) ⟨Nat.le_of_ble_eq_true rfl, Nat.le_of_ble_eq_true rfl⟩) (x_preV hK hZ (l2w hw) f0 rfl) rfl rfl hl.1 rfl (lv_room (Nat.le_of_ble_eq_true rfl)) d_Law_law_482 ⟨show cells + 0 ≤ 600000 by omega, show slots + 0 ≤ 7302250 by omega⟩) hw hA (fun r1 M1 H locs hp hw => ?_)
  obtain ⟨hp1, hM1⟩ := hp
  have hw := l2s hw
  refine lv_aload_n hx hb d_Law_law_485 rfl (lv_at hl 1 rfl) ?_
  refine lv_aload_n hx hb d_Law_law_486 rfl (lv_at hl 3 rfl) ?_
  refine lv_iload_n hx hb d_Law_law_487 rfl (lv_at hl 0 rfl) ?_
  refine lv_iconst (v := 1) hx hb d_Law_law_488 (by decide) ?_
  refine lv_iadd hx hb d_Law_law_489 ?_
  refine lv_topi (fun n489 en489 => ?_)
  obtain rfl : n489 = nI (i + 1) := en489.trans (nI_1 i)
  refine l_sld hx hb hX hbl hbA hw.1.2.2 (show i + 1 < L by omega) hL d_Law_law_490 ?_
  refine l_calli (va_runV (As := [.int (xs (i + 1))]) (rest := [.int r1]) hF (c_Mo_count l D cs N _ m0 v o hm hG0 (xs (i + 1))) (x_cwV 1 hts wd_385 wd_386 wd_387 wd_6 wd_388 rfl rfl (by decide +kernel) ⟨Nat.le_of_ble_eq_true rfl, Nat.le_of_ble_eq_true rfl⟩) (x_preV hK hZ (l2w hw) g0 rfl) rfl rfl hl.1 rfl (lv_room (Nat.le_of_ble_eq_true rfl)) d_Law_law_491 ⟨show cells + 0 + 0 ≤ 600000 by omega, show slots + 0 + 0 ≤ 7302250 by omega⟩) hw hA (fun r2 N1 H locs hp hw => ?_)
  obtain ⟨hp2, hN1⟩ := hp
  have hw := l2s hw
  have er := pCnt_one hG0.1.1.2 hp1 hp2
  rw [hM1, hN1] at hw
  refine lv_icmp_eq (tgt := 532) hx hb d_Law_law_494 (by decide) (fun c494 => ?_) (fun c494 => False.elim (c494 er))
  refine W.widen (k := cells + 1) (n := slots + 7) (by omega) (by omega) ?_
  exact J v o M N _ _ hG0 hS hm hw
set_option maxHeartbeats 4000000 in
set_option maxRecDepth 100000 in
theorem t_verify {p : Program} {l : Launch} {e : Env} {s : State} {m : MethodId} {below : List Frame} {meth : Method} {c : Code} {b L : Nat} {xs : Nat → Int32} {D : va_G} {cs : Nat → ClassId} (C0 : l_At p s m c b L xs D cs) {a0 m0 i : Nat} {v : gV} {o : List Nat} {M N : xM} {H : Heap} {locs : List Loc} {ls : Array Slot} {cells slots : Nat} {Q : State → Prop} (hi : i + 5 ≤ L) (hcc : cells + 1 ≤ 600000) (hss : slots + 7 ≤ 7302250) (hG0 : gAll v o) (hS : clS cs M a0 v o) (hm : mR cs N m0 v o) (hw : l2 (fun q : Nat => s.heap.size ≤ q) D classes M N s.heap H locs) (hl : lv_has ls 4 [(3, .int (nI i)), (2, .ref m0), (1, .ref a0), (0, .ref b)])
    (J : ∀ (v1 : gV) (o1 : List Nat) (M1 N1 : xM) (H1 : Heap) (locs1 : List Loc), gAll v1 o1 → clS cs M1 a0 v1 o1 → mR cs N1 m0 v1 o1 → l2 (fun q : Nat => s.heap.size ≤ q) D classes M1 N1 s.heap H1 locs1 → W p l e room_1 s m #[Value.ref b] below meth c H1 locs1 (cells + 1) (slots + 7) Q (F0 m 532 ls [])) : W p l e room_1 s m #[Value.ref b] below meth c H locs cells slots Q (F0 m 499 ls []) := by
  obtain ⟨hx, hb, hml, hown, hts, hX, hbl, hK, hZ, hL⟩ := C0
  have hF : CallFix p m c code 4 s #[Value.ref b] aw "GateTimesLaw" := ⟨hx, hb, hml, hown, hts⟩
  have hA : ∀ q : Nat, s.heap.size ≤ q → (fun q : Nat => s.heap.size ≤ q) q := fun _ h => h
  have hbA : ¬ (fun q : Nat => s.heap.size ≤ q) b := Nat.not_le.mpr hbl
  obtain ⟨fs, f0⟩ := clS_at hS
  obtain ⟨gs, g0⟩ := mR_at hm
  refine lv_aload_n hx hb d_Law_law_499 rfl (lv_at hl 2 rfl) ?_
  refine lv_aload_n hx hb d_Law_law_500 rfl (lv_at hl 3 rfl) ?_
  refine lv_iload_n hx hb d_Law_law_501 rfl (lv_at hl 0 rfl) ?_
  refine lv_iconst (v := 1) hx hb d_Law_law_502 (by decide) ?_
  refine lv_iadd hx hb d_Law_law_503 ?_
  refine lv_topi (fun n503 en503 => ?_)
  obtain rfl : n503 = nI (i + 1) := en503.trans (nI_1 i)
  refine l_sld hx hb hX hbl hbA hw.1.2.2 (show i + 1 < L by omega) hL d_Law_law_504 ?_
  refine lv_aload_n hx hb d_Law_law_505 rfl (lv_at hl 3 rfl) ?_
  refine lv_iload_n hx hb d_Law_law_506 rfl (lv_at hl 0 rfl) ?_
  refine lv_iconst (v := 2) hx hb d_Law_law_507 (by decide) ?_
  refine lv_iadd hx hb d_Law_law_508 ?_
  refine lv_topi (fun n508 en508 => ?_)
  obtain rfl : n508 = nI (i + 2) := en508.trans (n_2 i)
  refine l_sld hx hb hX hbl hbA hw.1.2.2 (show i + 2 < L by omega) hL d_Law_law_509 ?_
  refine l_calli (va_runV (As := [.int (xs (i + 1)), .int (xs (i + 2))]) (rest := []) hF (c_GT_verify l D cs M _ a0 v o hS hG0 (xs (i + 1)) (xs (i + 2))) (x_cwV 2 hts wd_246 wd_247 wd_248 wd_1 wd_249 rfl rfl (by decide +kernel) ⟨Nat.le_of_ble_eq_true rfl, Nat.le_of_ble_eq_true rfl⟩) (x_preV hK hZ (l2w hw) f0 rfl) rfl rfl hl.1 rfl (lv_room (Nat.le_of_ble_eq_true rfl)) d_Law_law_510 ⟨show cells + 0 ≤ 600000 by omega, show slots + 0 ≤ 7302250 by omega⟩) hw hA (fun r1 M1 H locs hp hw => ?_)
  obtain ⟨hp1, hM1⟩ := hp
  have hw := l2s hw
  refine lv_aload_n hx hb d_Law_law_513 rfl (lv_at hl 1 rfl) ?_
  refine lv_aload_n hx hb d_Law_law_514 rfl (lv_at hl 3 rfl) ?_
  refine lv_iload_n hx hb d_Law_law_515 rfl (lv_at hl 0 rfl) ?_
  refine lv_iconst (v := 1) hx hb d_Law_law_516 (by decide) ?_
  refine lv_iadd hx hb d_Law_law_517 ?_
  refine lv_topi (fun n517 en517 => ?_)
  obtain rfl : n517 = nI (i + 1) := en517.trans (nI_1 i)
  refine l_sld hx hb hX hbl hbA hw.1.2.2 (show i + 1 < L by omega) hL d_Law_law_518 ?_
  refine lv_aload_n hx hb d_Law_law_519 rfl (lv_at hl 3 rfl) ?_
  refine lv_iload_n hx hb d_Law_law_520 rfl (lv_at hl 0 rfl) ?_
  refine lv_iconst (v := 2) hx hb d_Law_law_521 (by decide) ?_
  refine lv_iadd hx hb d_Law_law_522 ?_
  refine lv_topi (fun n522 en522 => ?_)
  obtain rfl : n522 = nI (i + 2) := en522.trans (n_2 i)
  refine l_sld hx hb hX hbl hbA hw.1.2.2 (show i + 2 < L by omega) hL d_Law_law_523 ?_
  refine l_calli (va_runV (As := [.int (xs (i + 1)), .int (xs (i + 2))]) (rest := [.int r1]) hF (c_Mo_verify l D cs N _ m0 v o hm hG0 (xs (i + 1)) (xs (i + 2))) (x_cwV 2 hts wd_389 wd_390 wd_391 wd_6 wd_392 rfl rfl (by decide +kernel) ⟨Nat.le_of_ble_eq_true rfl, Nat.le_of_ble_eq_true rfl⟩) (x_preV hK hZ (l2w hw) g0 rfl) rfl rfl hl.1 rfl (lv_room (Nat.le_of_ble_eq_true rfl)) d_Law_law_524 ⟨show cells + 0 + 0 ≤ 600000 by omega, show slots + 0 + 0 ≤ 7302250 by omega⟩) hw hA (fun r2 N1 H locs hp hw => ?_)
  obtain ⟨hp2, hN1⟩ := hp
  have hw := l2s hw
  have er := pPick_one (Nat.le_trans (List.length_filter_le _ _) (Nat.le_trans (came_few hG0.2.1) hG0.1.2.1)) hp1 hp2
  rw [hM1, hN1] at hw
  refine lv_icmp_eq (tgt := 532) hx hb d_Law_law_527 (by decide) (fun c527 => ?_) (fun c527 => False.elim (c527 er))
  refine W.widen (k := cells + 1) (n := slots + 7) (by omega) (by omega) ?_
  exact J v o M N _ _ hG0 hS hm hw
