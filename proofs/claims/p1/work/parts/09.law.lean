set_option maxHeartbeats 4000000 in
set_option maxRecDepth 100000 in
theorem lk_0 {p : Program} {l : Launch} {e : Env} {s : State} {m : MethodId} {below : List Frame} {meth : Method} {c : Code} {b : Nat} {xs : Nat → Int32} {E : kq_T} {H : Heap} {locs : List Loc} {ls : Array Slot} {x m_ : Nat} {Lx Lm : List Nat} {σx σm : Nat → va_E} (C0 : lw_At p s m meth c b 6 xs) (hK : kq_K E s) (hFx : fr_X E Lx σx x) (hFm : fr_M E Lm σm m_) (hw : kq_w E (fun q : Nat => s.heap.size ≤ q) s.heap (va_pl Lm σm) Lx σx H locs) (hl : lv_has ls 4 [(3, .int 0), (2, .ref m_), (1, .ref x), (0, .ref b)]) : W p l e room_1 s m #[Value.ref b] below meth c H locs 1000 10000 (lw_Z below #[Value.ref b] s) (F0 m 204 ls []) := by
  obtain ⟨hx, hb, hr, hml, hown, hts, hX, hbl, hlocks, hgv⟩ := id C0
  have hown : s.vm.findClass RL = some m.cls := hown
  have hb : c.code = cL_law := hb
  have hts := fun w h => hts w (wsL_law_in w h)
  have hbA : ¬ (fun q : Nat => s.heap.size ≤ q) b := Nat.not_le.mpr hbl
  refine lv_aload_n hx hb dL_law_204 rfl (lv_at hl 2 rfl) ?_
  refine lv_aload_n hx hb dL_law_205 rfl (lv_at hl 3 rfl) ?_
  refine lv_iload_n hx hb dL_law_206 rfl (lv_at hl 0 rfl) ?_
  refine lv_iconst (v := 1) hx hb dL_law_207 (by decide) ?_
  refine lv_iadd hx hb dL_law_208 ?_
  refine lv_topi (fun v1 ev1 => ?_)
  have ev1 : v1 = 1 := by rw [ev1]; decide
  subst ev1
  refine va_sld hx hb hX hbl hbA hw.2.2.1 (by unfold vp_in; decide) dL_law_209 ?_
  refine lv_aload_n hx hb dL_law_210 rfl (lv_at hl 3 rfl) ?_
  refine lv_iload_n hx hb dL_law_211 rfl (lv_at hl 0 rfl) ?_
  refine lv_iconst (v := 2) hx hb dL_law_212 (by decide) ?_
  refine lv_iadd hx hb dL_law_213 ?_
  refine lv_topi (fun v2 ev2 => ?_)
  have ev2 : v2 = 2 := by rw [ev2]; decide
  subst ev2
  refine va_sld hx hb hX hbl hbA hw.2.2.1 (by unfold vp_in; decide) dL_law_214 ?_
  refine lv_aload_n hx hb dL_law_215 rfl (lv_at hl 3 rfl) ?_
  refine lv_iload_n hx hb dL_law_216 rfl (lv_at hl 0 rfl) ?_
  refine lv_iconst (v := 3) hx hb dL_law_217 (by decide) ?_
  refine lv_iadd hx hb dL_law_218 ?_
  refine lv_topi (fun v3 ev3 => ?_)
  have ev3 : v3 = 3 := by rw [ev3]; decide
  subst ev3
  refine va_sld hx hb hX hbl hbA hw.2.2.1 (by unfold vp_in; decide) dL_law_219 ?_
  obtain ⟨fsx, hSx⟩ := hFx.self.2
  refine kq_callI (As := [.int (xs (Int32.toNatClampNeg 1)), .int (xs (Int32.toNatClampNeg 2)), .int (xs (Int32.toNatClampNeg 3))]) (rest := []) (n := 3) (q := (RX7, TX7, 9)) (ci := 7) (mc := 0) (ms := 0) ⟨hx, hb, hml, hown, hts⟩ (f_X7_row l E Lx σx hFx (xs (Int32.toNatClampNeg 1)) (xs (Int32.toNatClampNeg 2)) (xs (Int32.toNatClampNeg 3))) gL_law_X7_row rfl (by decide +kernel) ⟨Nat.le_of_ble_eq_true rfl, Nat.le_of_ble_eq_true rfl⟩ hK hw hFx.self.1 hSx rfl rfl hl.1 rfl (Nat.le_of_ble_eq_true rfl) dL_law_220 rfl rfl ⟨Nat.le_of_ble_eq_true rfl, Nat.le_of_ble_eq_true rfl⟩ (fun r1 Lr1 σr1 H locs er1 hw => ?_)
  refine lv_aload_n hx hb dL_law_223 rfl (lv_at hl 1 rfl) ?_
  refine lv_aload_n hx hb dL_law_224 rfl (lv_at hl 3 rfl) ?_
  refine lv_iload_n hx hb dL_law_225 rfl (lv_at hl 0 rfl) ?_
  refine lv_iconst (v := 1) hx hb dL_law_226 (by decide) ?_
  refine lv_iadd hx hb dL_law_227 ?_
  refine lv_topi (fun v4 ev4 => ?_)
  have ev4 : v4 = 1 := by rw [ev4]; decide
  subst ev4
  refine va_sld hx hb hX hbl hbA hw.2.2.1 (by unfold vp_in; decide) dL_law_228 ?_
  refine lv_aload_n hx hb dL_law_229 rfl (lv_at hl 3 rfl) ?_
  refine lv_iload_n hx hb dL_law_230 rfl (lv_at hl 0 rfl) ?_
  refine lv_iconst (v := 2) hx hb dL_law_231 (by decide) ?_
  refine lv_iadd hx hb dL_law_232 ?_
  refine lv_topi (fun v5 ev5 => ?_)
  have ev5 : v5 = 2 := by rw [ev5]; decide
  subst ev5
  refine va_sld hx hb hX hbl hbA hw.2.2.1 (by unfold vp_in; decide) dL_law_233 ?_
  refine lv_aload_n hx hb dL_law_234 rfl (lv_at hl 3 rfl) ?_
  refine lv_iload_n hx hb dL_law_235 rfl (lv_at hl 0 rfl) ?_
  refine lv_iconst (v := 3) hx hb dL_law_236 (by decide) ?_
  refine lv_iadd hx hb dL_law_237 ?_
  refine lv_topi (fun v6 ev6 => ?_)
  have ev6 : v6 = 3 := by rw [ev6]; decide
  subst ev6
  refine va_sld hx hb hX hbl hbA hw.2.2.1 (by unfold vp_in; decide) dL_law_238 ?_
  have hw := kq_swap hw
  obtain ⟨fsm, hSm⟩ := hFm.self.2
  refine kq_callI (As := [.int (xs (Int32.toNatClampNeg 1)), .int (xs (Int32.toNatClampNeg 2)), .int (xs (Int32.toNatClampNeg 3))]) (rest := [.int r1]) (n := 3) (q := (RX8, TX8, 23)) (ci := 8) (mc := 0) (ms := 0) ⟨hx, hb, hml, hown, hts⟩ (f_X8_row l E Lm σm hFm (xs (Int32.toNatClampNeg 1)) (xs (Int32.toNatClampNeg 2)) (xs (Int32.toNatClampNeg 3))) gL_law_X8_row rfl (by decide +kernel) ⟨Nat.le_of_ble_eq_true rfl, Nat.le_of_ble_eq_true rfl⟩ hK hw hFm.self.1 hSm rfl rfl hl.1 rfl (Nat.le_of_ble_eq_true rfl) dL_law_239 rfl rfl ⟨Nat.le_of_ble_eq_true rfl, Nat.le_of_ble_eq_true rfl⟩ (fun r2 Lr2 σr2 H locs er2 hw => ?_)
  refine lv_icmp_eq (tgt := 1421) hx hb dL_law_242 (by decide) (fun ce => ?_) (fun ce => ?_)
  · exact lk_end C0 hw.2.2.1 hl (Nat.le_of_ble_eq_true rfl) (Nat.le_of_ble_eq_true rfl)
  · exact absurd (er1.trans er2.symm) ce
set_option maxHeartbeats 4000000 in
set_option maxRecDepth 100000 in
theorem lk_1 {p : Program} {l : Launch} {e : Env} {s : State} {m : MethodId} {below : List Frame} {meth : Method} {c : Code} {b : Nat} {xs : Nat → Int32} {E : kq_T} {H : Heap} {locs : List Loc} {ls : Array Slot} {x m_ : Nat} {Lx Lm : List Nat} {σx σm : Nat → va_E} (C0 : lw_At p s m meth c b 6 xs) (hK : kq_K E s) (hFx : fr_X E Lx σx x) (hFm : fr_M E Lm σm m_) (hw : kq_w E (fun q : Nat => s.heap.size ≤ q) s.heap (va_pl Lm σm) Lx σx H locs) (hl : lv_has ls 4 [(3, .int 0), (2, .ref m_), (1, .ref x), (0, .ref b)]) : W p l e room_1 s m #[Value.ref b] below meth c H locs 1000 10000 (lw_Z below #[Value.ref b] s) (F0 m 247 ls []) := by
  obtain ⟨hx, hb, hr, hml, hown, hts, hX, hbl, hlocks, hgv⟩ := id C0
  have hown : s.vm.findClass RL = some m.cls := hown
  have hb : c.code = cL_law := hb
  have hts := fun w h => hts w (wsL_law_in w h)
  have hbA : ¬ (fun q : Nat => s.heap.size ≤ q) b := Nat.not_le.mpr hbl
  refine lv_aload_n hx hb dL_law_247 rfl (lv_at hl 2 rfl) ?_
  refine lv_aload_n hx hb dL_law_248 rfl (lv_at hl 3 rfl) ?_
  refine lv_iload_n hx hb dL_law_249 rfl (lv_at hl 0 rfl) ?_
  refine lv_iconst (v := 1) hx hb dL_law_250 (by decide) ?_
  refine lv_iadd hx hb dL_law_251 ?_
  refine lv_topi (fun v1 ev1 => ?_)
  have ev1 : v1 = 1 := by rw [ev1]; decide
  subst ev1
  refine va_sld hx hb hX hbl hbA hw.2.2.1 (by unfold vp_in; decide) dL_law_252 ?_
  refine lv_aload_n hx hb dL_law_253 rfl (lv_at hl 3 rfl) ?_
  refine lv_iload_n hx hb dL_law_254 rfl (lv_at hl 0 rfl) ?_
  refine lv_iconst (v := 2) hx hb dL_law_255 (by decide) ?_
  refine lv_iadd hx hb dL_law_256 ?_
  refine lv_topi (fun v2 ev2 => ?_)
  have ev2 : v2 = 2 := by rw [ev2]; decide
  subst ev2
  refine va_sld hx hb hX hbl hbA hw.2.2.1 (by unfold vp_in; decide) dL_law_257 ?_
  refine lv_aload_n hx hb dL_law_258 rfl (lv_at hl 3 rfl) ?_
  refine lv_iload_n hx hb dL_law_259 rfl (lv_at hl 0 rfl) ?_
  refine lv_iconst (v := 3) hx hb dL_law_260 (by decide) ?_
  refine lv_iadd hx hb dL_law_261 ?_
  refine lv_topi (fun v3 ev3 => ?_)
  have ev3 : v3 = 3 := by rw [ev3]; decide
  subst ev3
  refine va_sld hx hb hX hbl hbA hw.2.2.1 (by unfold vp_in; decide) dL_law_262 ?_
  obtain ⟨fsx, hSx⟩ := hFx.self.2
  refine kq_callI (As := [.int (xs (Int32.toNatClampNeg 1)), .int (xs (Int32.toNatClampNeg 2)), .int (xs (Int32.toNatClampNeg 3))]) (rest := []) (n := 3) (q := (RX7, TX7, 9)) (ci := 7) (mc := 0) (ms := 0) ⟨hx, hb, hml, hown, hts⟩ (f_X7_set l E Lx σx hFx (xs (Int32.toNatClampNeg 1)) (xs (Int32.toNatClampNeg 2)) (xs (Int32.toNatClampNeg 3))) gL_law_X7_set rfl (by decide +kernel) ⟨Nat.le_of_ble_eq_true rfl, Nat.le_of_ble_eq_true rfl⟩ hK hw hFx.self.1 hSx rfl rfl hl.1 rfl (Nat.le_of_ble_eq_true rfl) dL_law_263 rfl rfl ⟨Nat.le_of_ble_eq_true rfl, Nat.le_of_ble_eq_true rfl⟩ (fun r1 Lr1 σr1 H locs er1 hw => ?_)
  refine lv_aload_n hx hb dL_law_266 rfl (lv_at hl 1 rfl) ?_
  refine lv_aload_n hx hb dL_law_267 rfl (lv_at hl 3 rfl) ?_
  refine lv_iload_n hx hb dL_law_268 rfl (lv_at hl 0 rfl) ?_
  refine lv_iconst (v := 1) hx hb dL_law_269 (by decide) ?_
  refine lv_iadd hx hb dL_law_270 ?_
  refine lv_topi (fun v4 ev4 => ?_)
  have ev4 : v4 = 1 := by rw [ev4]; decide
  subst ev4
  refine va_sld hx hb hX hbl hbA hw.2.2.1 (by unfold vp_in; decide) dL_law_271 ?_
  refine lv_aload_n hx hb dL_law_272 rfl (lv_at hl 3 rfl) ?_
  refine lv_iload_n hx hb dL_law_273 rfl (lv_at hl 0 rfl) ?_
  refine lv_iconst (v := 2) hx hb dL_law_274 (by decide) ?_
  refine lv_iadd hx hb dL_law_275 ?_
  refine lv_topi (fun v5 ev5 => ?_)
  have ev5 : v5 = 2 := by rw [ev5]; decide
  subst ev5
  refine va_sld hx hb hX hbl hbA hw.2.2.1 (by unfold vp_in; decide) dL_law_276 ?_
  refine lv_aload_n hx hb dL_law_277 rfl (lv_at hl 3 rfl) ?_
  refine lv_iload_n hx hb dL_law_278 rfl (lv_at hl 0 rfl) ?_
  refine lv_iconst (v := 3) hx hb dL_law_279 (by decide) ?_
  refine lv_iadd hx hb dL_law_280 ?_
  refine lv_topi (fun v6 ev6 => ?_)
  have ev6 : v6 = 3 := by rw [ev6]; decide
  subst ev6
  refine va_sld hx hb hX hbl hbA hw.2.2.1 (by unfold vp_in; decide) dL_law_281 ?_
  have hw := kq_swap hw
  obtain ⟨fsm, hSm⟩ := hFm.self.2
  refine kq_callI (As := [.int (xs (Int32.toNatClampNeg 1)), .int (xs (Int32.toNatClampNeg 2)), .int (xs (Int32.toNatClampNeg 3))]) (rest := [.int r1]) (n := 3) (q := (RX8, TX8, 23)) (ci := 8) (mc := 0) (ms := 0) ⟨hx, hb, hml, hown, hts⟩ (f_X8_set l E Lm σm hFm (xs (Int32.toNatClampNeg 1)) (xs (Int32.toNatClampNeg 2)) (xs (Int32.toNatClampNeg 3))) gL_law_X8_set rfl (by decide +kernel) ⟨Nat.le_of_ble_eq_true rfl, Nat.le_of_ble_eq_true rfl⟩ hK hw hFm.self.1 hSm rfl rfl hl.1 rfl (Nat.le_of_ble_eq_true rfl) dL_law_282 rfl rfl ⟨Nat.le_of_ble_eq_true rfl, Nat.le_of_ble_eq_true rfl⟩ (fun r2 Lr2 σr2 H locs er2 hw => ?_)
  refine lv_icmp_eq (tgt := 1421) hx hb dL_law_285 (by decide) (fun ce => ?_) (fun ce => ?_)
  · exact lk_end C0 hw.2.2.1 hl (Nat.le_of_ble_eq_true rfl) (Nat.le_of_ble_eq_true rfl)
  · exact absurd (er1.trans er2.symm) ce
set_option maxHeartbeats 4000000 in
set_option maxRecDepth 100000 in
theorem lk_2 {p : Program} {l : Launch} {e : Env} {s : State} {m : MethodId} {below : List Frame} {meth : Method} {c : Code} {b : Nat} {xs : Nat → Int32} {E : kq_T} {H : Heap} {locs : List Loc} {ls : Array Slot} {x m_ : Nat} {Lx Lm : List Nat} {σx σm : Nat → va_E} (C0 : lw_At p s m meth c b 6 xs) (hK : kq_K E s) (hFx : fr_X E Lx σx x) (hFm : fr_M E Lm σm m_) (hw : kq_w E (fun q : Nat => s.heap.size ≤ q) s.heap (va_pl Lm σm) Lx σx H locs) (hl : lv_has ls 4 [(3, .int 0), (2, .ref m_), (1, .ref x), (0, .ref b)]) : W p l e room_1 s m #[Value.ref b] below meth c H locs 1000 10000 (lw_Z below #[Value.ref b] s) (F0 m 290 ls []) := by
  obtain ⟨hx, hb, hr, hml, hown, hts, hX, hbl, hlocks, hgv⟩ := id C0
  have hown : s.vm.findClass RL = some m.cls := hown
  have hb : c.code = cL_law := hb
  have hts := fun w h => hts w (wsL_law_in w h)
  have hbA : ¬ (fun q : Nat => s.heap.size ≤ q) b := Nat.not_le.mpr hbl
  refine lv_aload_n hx hb dL_law_290 rfl (lv_at hl 2 rfl) ?_
  refine lv_aload_n hx hb dL_law_291 rfl (lv_at hl 3 rfl) ?_
  refine lv_iload_n hx hb dL_law_292 rfl (lv_at hl 0 rfl) ?_
  refine lv_iconst (v := 1) hx hb dL_law_293 (by decide) ?_
  refine lv_iadd hx hb dL_law_294 ?_
  refine lv_topi (fun v1 ev1 => ?_)
  have ev1 : v1 = 1 := by rw [ev1]; decide
  subst ev1
  refine va_sld hx hb hX hbl hbA hw.2.2.1 (by unfold vp_in; decide) dL_law_295 ?_
  refine lv_aload_n hx hb dL_law_296 rfl (lv_at hl 3 rfl) ?_
  refine lv_iload_n hx hb dL_law_297 rfl (lv_at hl 0 rfl) ?_
  refine lv_iconst (v := 2) hx hb dL_law_298 (by decide) ?_
  refine lv_iadd hx hb dL_law_299 ?_
  refine lv_topi (fun v2 ev2 => ?_)
  have ev2 : v2 = 2 := by rw [ev2]; decide
  subst ev2
  refine va_sld hx hb hX hbl hbA hw.2.2.1 (by unfold vp_in; decide) dL_law_300 ?_
  refine lv_aload_n hx hb dL_law_301 rfl (lv_at hl 3 rfl) ?_
  refine lv_iload_n hx hb dL_law_302 rfl (lv_at hl 0 rfl) ?_
  refine lv_iconst (v := 3) hx hb dL_law_303 (by decide) ?_
  refine lv_iadd hx hb dL_law_304 ?_
  refine lv_topi (fun v3 ev3 => ?_)
  have ev3 : v3 = 3 := by rw [ev3]; decide
  subst ev3
  refine va_sld hx hb hX hbl hbA hw.2.2.1 (by unfold vp_in; decide) dL_law_305 ?_
  refine lv_aload_n hx hb dL_law_306 rfl (lv_at hl 3 rfl) ?_
  refine lv_iload_n hx hb dL_law_307 rfl (lv_at hl 0 rfl) ?_
  refine lv_iconst (v := 4) hx hb dL_law_308 (by decide) ?_
  refine lv_iadd hx hb dL_law_309 ?_
  refine lv_topi (fun v4 ev4 => ?_)
  have ev4 : v4 = 4 := by rw [ev4]; decide
  subst ev4
  refine va_sld hx hb hX hbl hbA hw.2.2.1 (by unfold vp_in; decide) dL_law_310 ?_
  refine lv_aload_n hx hb dL_law_311 rfl (lv_at hl 3 rfl) ?_
  refine lv_iload_n hx hb dL_law_312 rfl (lv_at hl 0 rfl) ?_
  refine lv_iconst (v := 5) hx hb dL_law_313 (by decide) ?_
  refine lv_iadd hx hb dL_law_314 ?_
  refine lv_topi (fun v5 ev5 => ?_)
  have ev5 : v5 = 5 := by rw [ev5]; decide
  subst ev5
  refine va_sld hx hb hX hbl hbA hw.2.2.1 (by unfold vp_in; decide) dL_law_315 ?_
  obtain ⟨fsx, hSx⟩ := hFx.self.2
  refine kq_callI (As := [.int (xs (Int32.toNatClampNeg 1)), .int (xs (Int32.toNatClampNeg 2)), .int (xs (Int32.toNatClampNeg 3)), .int (xs (Int32.toNatClampNeg 4)), .int (xs (Int32.toNatClampNeg 5))]) (rest := []) (n := 5) (q := (RX7, TX7, 9)) (ci := 7) (mc := 0) (ms := 0) ⟨hx, hb, hml, hown, hts⟩ (f_X7_copy l E Lx σx hFx (xs (Int32.toNatClampNeg 1)) (xs (Int32.toNatClampNeg 2)) (xs (Int32.toNatClampNeg 3)) (xs (Int32.toNatClampNeg 4)) (xs (Int32.toNatClampNeg 5))) gL_law_X7_copy rfl (by decide +kernel) ⟨Nat.le_of_ble_eq_true rfl, Nat.le_of_ble_eq_true rfl⟩ hK hw hFx.self.1 hSx rfl rfl hl.1 rfl (Nat.le_of_ble_eq_true rfl) dL_law_316 rfl rfl ⟨Nat.le_of_ble_eq_true rfl, Nat.le_of_ble_eq_true rfl⟩ (fun r1 Lr1 σr1 H locs er1 hw => ?_)
  refine lv_aload_n hx hb dL_law_319 rfl (lv_at hl 1 rfl) ?_
  refine lv_aload_n hx hb dL_law_320 rfl (lv_at hl 3 rfl) ?_
  refine lv_iload_n hx hb dL_law_321 rfl (lv_at hl 0 rfl) ?_
  refine lv_iconst (v := 1) hx hb dL_law_322 (by decide) ?_
  refine lv_iadd hx hb dL_law_323 ?_
  refine lv_topi (fun v6 ev6 => ?_)
  have ev6 : v6 = 1 := by rw [ev6]; decide
  subst ev6
  refine va_sld hx hb hX hbl hbA hw.2.2.1 (by unfold vp_in; decide) dL_law_324 ?_
  refine lv_aload_n hx hb dL_law_325 rfl (lv_at hl 3 rfl) ?_
  refine lv_iload_n hx hb dL_law_326 rfl (lv_at hl 0 rfl) ?_
  refine lv_iconst (v := 2) hx hb dL_law_327 (by decide) ?_
  refine lv_iadd hx hb dL_law_328 ?_
  refine lv_topi (fun v7 ev7 => ?_)
  have ev7 : v7 = 2 := by rw [ev7]; decide
  subst ev7
  refine va_sld hx hb hX hbl hbA hw.2.2.1 (by unfold vp_in; decide) dL_law_329 ?_
  refine lv_aload_n hx hb dL_law_330 rfl (lv_at hl 3 rfl) ?_
  refine lv_iload_n hx hb dL_law_331 rfl (lv_at hl 0 rfl) ?_
  refine lv_iconst (v := 3) hx hb dL_law_332 (by decide) ?_
  refine lv_iadd hx hb dL_law_333 ?_
  refine lv_topi (fun v8 ev8 => ?_)
  have ev8 : v8 = 3 := by rw [ev8]; decide
  subst ev8
  refine va_sld hx hb hX hbl hbA hw.2.2.1 (by unfold vp_in; decide) dL_law_334 ?_
  refine lv_aload_n hx hb dL_law_335 rfl (lv_at hl 3 rfl) ?_
  refine lv_iload_n hx hb dL_law_336 rfl (lv_at hl 0 rfl) ?_
  refine lv_iconst (v := 4) hx hb dL_law_337 (by decide) ?_
  refine lv_iadd hx hb dL_law_338 ?_
  refine lv_topi (fun v9 ev9 => ?_)
  have ev9 : v9 = 4 := by rw [ev9]; decide
  subst ev9
  refine va_sld hx hb hX hbl hbA hw.2.2.1 (by unfold vp_in; decide) dL_law_339 ?_
  refine lv_aload_n hx hb dL_law_340 rfl (lv_at hl 3 rfl) ?_
  refine lv_iload_n hx hb dL_law_341 rfl (lv_at hl 0 rfl) ?_
  refine lv_iconst (v := 5) hx hb dL_law_342 (by decide) ?_
  refine lv_iadd hx hb dL_law_343 ?_
  refine lv_topi (fun v10 ev10 => ?_)
  have ev10 : v10 = 5 := by rw [ev10]; decide
  subst ev10
  refine va_sld hx hb hX hbl hbA hw.2.2.1 (by unfold vp_in; decide) dL_law_344 ?_
  have hw := kq_swap hw
  obtain ⟨fsm, hSm⟩ := hFm.self.2
  refine kq_callI (As := [.int (xs (Int32.toNatClampNeg 1)), .int (xs (Int32.toNatClampNeg 2)), .int (xs (Int32.toNatClampNeg 3)), .int (xs (Int32.toNatClampNeg 4)), .int (xs (Int32.toNatClampNeg 5))]) (rest := [.int r1]) (n := 5) (q := (RX8, TX8, 23)) (ci := 8) (mc := 0) (ms := 0) ⟨hx, hb, hml, hown, hts⟩ (f_X8_copy l E Lm σm hFm (xs (Int32.toNatClampNeg 1)) (xs (Int32.toNatClampNeg 2)) (xs (Int32.toNatClampNeg 3)) (xs (Int32.toNatClampNeg 4)) (xs (Int32.toNatClampNeg 5))) gL_law_X8_copy rfl (by decide +kernel) ⟨Nat.le_of_ble_eq_true rfl, Nat.le_of_ble_eq_true rfl⟩ hK hw hFm.self.1 hSm rfl rfl hl.1 rfl (Nat.le_of_ble_eq_true rfl) dL_law_345 rfl rfl ⟨Nat.le_of_ble_eq_true rfl, Nat.le_of_ble_eq_true rfl⟩ (fun r2 Lr2 σr2 H locs er2 hw => ?_)
  refine lv_icmp_eq (tgt := 1421) hx hb dL_law_348 (by decide) (fun ce => ?_) (fun ce => ?_)
  · exact lk_end C0 hw.2.2.1 hl (Nat.le_of_ble_eq_true rfl) (Nat.le_of_ble_eq_true rfl)
  · exact absurd (er1.trans er2.symm) ce
set_option maxHeartbeats 4000000 in
set_option maxRecDepth 100000 in
theorem lk_3 {p : Program} {l : Launch} {e : Env} {s : State} {m : MethodId} {below : List Frame} {meth : Method} {c : Code} {b : Nat} {xs : Nat → Int32} {E : kq_T} {H : Heap} {locs : List Loc} {ls : Array Slot} {x m_ : Nat} {Lx Lm : List Nat} {σx σm : Nat → va_E} (C0 : lw_At p s m meth c b 6 xs) (hK : kq_K E s) (hFx : fr_X E Lx σx x) (hFm : fr_M E Lm σm m_) (hw : kq_w E (fun q : Nat => s.heap.size ≤ q) s.heap (va_pl Lm σm) Lx σx H locs) (hl : lv_has ls 4 [(3, .int 0), (2, .ref m_), (1, .ref x), (0, .ref b)]) : W p l e room_1 s m #[Value.ref b] below meth c H locs 1000 10000 (lw_Z below #[Value.ref b] s) (F0 m 353 ls []) := by
  obtain ⟨hx, hb, hr, hml, hown, hts, hX, hbl, hlocks, hgv⟩ := id C0
  have hown : s.vm.findClass RL = some m.cls := hown
  have hb : c.code = cL_law := hb
  have hts := fun w h => hts w (wsL_law_in w h)
  have hbA : ¬ (fun q : Nat => s.heap.size ≤ q) b := Nat.not_le.mpr hbl
  refine lv_aload_n hx hb dL_law_353 rfl (lv_at hl 2 rfl) ?_
  refine lv_aload_n hx hb dL_law_354 rfl (lv_at hl 3 rfl) ?_
  refine lv_iload_n hx hb dL_law_355 rfl (lv_at hl 0 rfl) ?_
  refine lv_iconst (v := 1) hx hb dL_law_356 (by decide) ?_
  refine lv_iadd hx hb dL_law_357 ?_
  refine lv_topi (fun v1 ev1 => ?_)
  have ev1 : v1 = 1 := by rw [ev1]; decide
  subst ev1
  refine va_sld hx hb hX hbl hbA hw.2.2.1 (by unfold vp_in; decide) dL_law_358 ?_
  obtain ⟨fsx, hSx⟩ := hFx.self.2
  refine kq_callI (As := [.int (xs (Int32.toNatClampNeg 1))]) (rest := []) (n := 1) (q := (RX7, TX7, 9)) (ci := 7) (mc := 0) (ms := 0) ⟨hx, hb, hml, hown, hts⟩ (f_X7_drop l E Lx σx hFx (xs (Int32.toNatClampNeg 1))) gL_law_X7_drop rfl (by decide +kernel) ⟨Nat.le_of_ble_eq_true rfl, Nat.le_of_ble_eq_true rfl⟩ hK hw hFx.self.1 hSx rfl rfl hl.1 rfl (Nat.le_of_ble_eq_true rfl) dL_law_359 rfl rfl ⟨Nat.le_of_ble_eq_true rfl, Nat.le_of_ble_eq_true rfl⟩ (fun r1 Lr1 σr1 H locs er1 hw => ?_)
  refine lv_aload_n hx hb dL_law_362 rfl (lv_at hl 1 rfl) ?_
  refine lv_aload_n hx hb dL_law_363 rfl (lv_at hl 3 rfl) ?_
  refine lv_iload_n hx hb dL_law_364 rfl (lv_at hl 0 rfl) ?_
  refine lv_iconst (v := 1) hx hb dL_law_365 (by decide) ?_
  refine lv_iadd hx hb dL_law_366 ?_
  refine lv_topi (fun v2 ev2 => ?_)
  have ev2 : v2 = 1 := by rw [ev2]; decide
  subst ev2
  refine va_sld hx hb hX hbl hbA hw.2.2.1 (by unfold vp_in; decide) dL_law_367 ?_
  have hw := kq_swap hw
  obtain ⟨fsm, hSm⟩ := hFm.self.2
  refine kq_callI (As := [.int (xs (Int32.toNatClampNeg 1))]) (rest := [.int r1]) (n := 1) (q := (RX8, TX8, 23)) (ci := 8) (mc := 0) (ms := 0) ⟨hx, hb, hml, hown, hts⟩ (f_X8_drop l E Lm σm hFm (xs (Int32.toNatClampNeg 1))) gL_law_X8_drop rfl (by decide +kernel) ⟨Nat.le_of_ble_eq_true rfl, Nat.le_of_ble_eq_true rfl⟩ hK hw hFm.self.1 hSm rfl rfl hl.1 rfl (Nat.le_of_ble_eq_true rfl) dL_law_368 rfl rfl ⟨Nat.le_of_ble_eq_true rfl, Nat.le_of_ble_eq_true rfl⟩ (fun r2 Lr2 σr2 H locs er2 hw => ?_)
  refine lv_icmp_eq (tgt := 1421) hx hb dL_law_371 (by decide) (fun ce => ?_) (fun ce => ?_)
  · exact lk_end C0 hw.2.2.1 hl (Nat.le_of_ble_eq_true rfl) (Nat.le_of_ble_eq_true rfl)
  · exact absurd (er1.trans er2.symm) ce
set_option maxHeartbeats 4000000 in
set_option maxRecDepth 100000 in
theorem lk_4 {p : Program} {l : Launch} {e : Env} {s : State} {m : MethodId} {below : List Frame} {meth : Method} {c : Code} {b : Nat} {xs : Nat → Int32} {E : kq_T} {H : Heap} {locs : List Loc} {ls : Array Slot} {x m_ : Nat} {Lx Lm : List Nat} {σx σm : Nat → va_E} (C0 : lw_At p s m meth c b 6 xs) (hK : kq_K E s) (hFx : fr_X E Lx σx x) (hFm : fr_M E Lm σm m_) (hw : kq_w E (fun q : Nat => s.heap.size ≤ q) s.heap (va_pl Lm σm) Lx σx H locs) (hl : lv_has ls 4 [(3, .int 0), (2, .ref m_), (1, .ref x), (0, .ref b)]) : W p l e room_1 s m #[Value.ref b] below meth c H locs 1000 10000 (lw_Z below #[Value.ref b] s) (F0 m 376 ls []) := by
  obtain ⟨hx, hb, hr, hml, hown, hts, hX, hbl, hlocks, hgv⟩ := id C0
  have hown : s.vm.findClass RL = some m.cls := hown
  have hb : c.code = cL_law := hb
  have hts := fun w h => hts w (wsL_law_in w h)
  have hbA : ¬ (fun q : Nat => s.heap.size ≤ q) b := Nat.not_le.mpr hbl
  refine lv_aload_n hx hb dL_law_376 rfl (lv_at hl 2 rfl) ?_
  refine lv_aload_n hx hb dL_law_377 rfl (lv_at hl 3 rfl) ?_
  refine lv_iload_n hx hb dL_law_378 rfl (lv_at hl 0 rfl) ?_
  refine lv_iconst (v := 1) hx hb dL_law_379 (by decide) ?_
  refine lv_iadd hx hb dL_law_380 ?_
  refine lv_topi (fun v1 ev1 => ?_)
  have ev1 : v1 = 1 := by rw [ev1]; decide
  subst ev1
  refine va_sld hx hb hX hbl hbA hw.2.2.1 (by unfold vp_in; decide) dL_law_381 ?_
  obtain ⟨fsx, hSx⟩ := hFx.self.2
  refine kq_callI (As := [.int (xs (Int32.toNatClampNeg 1))]) (rest := []) (n := 1) (q := (RX7, TX7, 9)) (ci := 7) (mc := 0) (ms := 0) ⟨hx, hb, hml, hown, hts⟩ (f_X7_feed l E Lx σx hFx (xs (Int32.toNatClampNeg 1))) gL_law_X7_feed rfl (by decide +kernel) ⟨Nat.le_of_ble_eq_true rfl, Nat.le_of_ble_eq_true rfl⟩ hK hw hFx.self.1 hSx rfl rfl hl.1 rfl (Nat.le_of_ble_eq_true rfl) dL_law_382 rfl rfl ⟨Nat.le_of_ble_eq_true rfl, Nat.le_of_ble_eq_true rfl⟩ (fun r1 Lr1 σr1 H locs er1 hw => ?_)
  refine lv_aload_n hx hb dL_law_385 rfl (lv_at hl 1 rfl) ?_
  refine lv_aload_n hx hb dL_law_386 rfl (lv_at hl 3 rfl) ?_
  refine lv_iload_n hx hb dL_law_387 rfl (lv_at hl 0 rfl) ?_
  refine lv_iconst (v := 1) hx hb dL_law_388 (by decide) ?_
  refine lv_iadd hx hb dL_law_389 ?_
  refine lv_topi (fun v2 ev2 => ?_)
  have ev2 : v2 = 1 := by rw [ev2]; decide
  subst ev2
  refine va_sld hx hb hX hbl hbA hw.2.2.1 (by unfold vp_in; decide) dL_law_390 ?_
  have hw := kq_swap hw
  obtain ⟨fsm, hSm⟩ := hFm.self.2
  refine kq_callI (As := [.int (xs (Int32.toNatClampNeg 1))]) (rest := [.int r1]) (n := 1) (q := (RX8, TX8, 23)) (ci := 8) (mc := 0) (ms := 0) ⟨hx, hb, hml, hown, hts⟩ (f_X8_feed l E Lm σm hFm (xs (Int32.toNatClampNeg 1))) gL_law_X8_feed rfl (by decide +kernel) ⟨Nat.le_of_ble_eq_true rfl, Nat.le_of_ble_eq_true rfl⟩ hK hw hFm.self.1 hSm rfl rfl hl.1 rfl (Nat.le_of_ble_eq_true rfl) dL_law_391 rfl rfl ⟨Nat.le_of_ble_eq_true rfl, Nat.le_of_ble_eq_true rfl⟩ (fun r2 Lr2 σr2 H locs er2 hw => ?_)
  refine lv_icmp_eq (tgt := 1421) hx hb dL_law_394 (by decide) (fun ce => ?_) (fun ce => ?_)
  · exact lk_end C0 hw.2.2.1 hl (Nat.le_of_ble_eq_true rfl) (Nat.le_of_ble_eq_true rfl)
  · exact absurd (er1.trans er2.symm) ce
set_option maxHeartbeats 4000000 in
set_option maxRecDepth 100000 in
theorem lk_5 {p : Program} {l : Launch} {e : Env} {s : State} {m : MethodId} {below : List Frame} {meth : Method} {c : Code} {b : Nat} {xs : Nat → Int32} {E : kq_T} {H : Heap} {locs : List Loc} {ls : Array Slot} {x m_ : Nat} {Lx Lm : List Nat} {σx σm : Nat → va_E} (C0 : lw_At p s m meth c b 6 xs) (hK : kq_K E s) (hFx : fr_X E Lx σx x) (hFm : fr_M E Lm σm m_) (hw : kq_w E (fun q : Nat => s.heap.size ≤ q) s.heap (va_pl Lm σm) Lx σx H locs) (hl : lv_has ls 4 [(3, .int 0), (2, .ref m_), (1, .ref x), (0, .ref b)]) : W p l e room_1 s m #[Value.ref b] below meth c H locs 1000 10000 (lw_Z below #[Value.ref b] s) (F0 m 399 ls []) := by
  obtain ⟨hx, hb, hr, hml, hown, hts, hX, hbl, hlocks, hgv⟩ := id C0
  have hown : s.vm.findClass RL = some m.cls := hown
  have hb : c.code = cL_law := hb
  have hts := fun w h => hts w (wsL_law_in w h)
  have hbA : ¬ (fun q : Nat => s.heap.size ≤ q) b := Nat.not_le.mpr hbl
  refine lv_aload_n hx hb dL_law_399 rfl (lv_at hl 2 rfl) ?_
  obtain ⟨fsx, hSx⟩ := hFx.self.2
  refine kq_callI (As := []) (rest := []) (n := 0) (q := (RX7, TX7, 9)) (ci := 7) (mc := 0) (ms := 0) ⟨hx, hb, hml, hown, hts⟩ (f_X7_gate l E Lx σx hFx) gL_law_X7_gate rfl (by decide +kernel) ⟨Nat.le_of_ble_eq_true rfl, Nat.le_of_ble_eq_true rfl⟩ hK hw hFx.self.1 hSx rfl rfl hl.1 rfl (Nat.le_of_ble_eq_true rfl) dL_law_400 rfl rfl ⟨Nat.le_of_ble_eq_true rfl, Nat.le_of_ble_eq_true rfl⟩ (fun r1 Lr1 σr1 H locs er1 hw => ?_)
  refine lv_aload_n hx hb dL_law_403 rfl (lv_at hl 1 rfl) ?_
  have hw := kq_swap hw
  obtain ⟨fsm, hSm⟩ := hFm.self.2
  refine kq_callI (As := []) (rest := [.int r1]) (n := 0) (q := (RX8, TX8, 23)) (ci := 8) (mc := 0) (ms := 0) ⟨hx, hb, hml, hown, hts⟩ (f_X8_gate l E Lm σm hFm) gL_law_X8_gate rfl (by decide +kernel) ⟨Nat.le_of_ble_eq_true rfl, Nat.le_of_ble_eq_true rfl⟩ hK hw hFm.self.1 hSm rfl rfl hl.1 rfl (Nat.le_of_ble_eq_true rfl) dL_law_404 rfl rfl ⟨Nat.le_of_ble_eq_true rfl, Nat.le_of_ble_eq_true rfl⟩ (fun r2 Lr2 σr2 H locs er2 hw => ?_)
  refine lv_icmp_eq (tgt := 1421) hx hb dL_law_407 (by decide) (fun ce => ?_) (fun ce => ?_)
  · exact lk_end C0 hw.2.2.1 hl (Nat.le_of_ble_eq_true rfl) (Nat.le_of_ble_eq_true rfl)
  · exact absurd (er1.trans er2.symm) ce
set_option maxHeartbeats 4000000 in
set_option maxRecDepth 100000 in
theorem lk_6 {p : Program} {l : Launch} {e : Env} {s : State} {m : MethodId} {below : List Frame} {meth : Method} {c : Code} {b : Nat} {xs : Nat → Int32} {E : kq_T} {H : Heap} {locs : List Loc} {ls : Array Slot} {x m_ : Nat} {Lx Lm : List Nat} {σx σm : Nat → va_E} (C0 : lw_At p s m meth c b 6 xs) (hK : kq_K E s) (hFx : fr_X E Lx σx x) (hFm : fr_M E Lm σm m_) (hw : kq_w E (fun q : Nat => s.heap.size ≤ q) s.heap (va_pl Lm σm) Lx σx H locs) (hl : lv_has ls 4 [(3, .int 0), (2, .ref m_), (1, .ref x), (0, .ref b)]) : W p l e room_1 s m #[Value.ref b] below meth c H locs 1000 10000 (lw_Z below #[Value.ref b] s) (F0 m 412 ls []) := by
  obtain ⟨hx, hb, hr, hml, hown, hts, hX, hbl, hlocks, hgv⟩ := id C0
  have hown : s.vm.findClass RL = some m.cls := hown
  have hb : c.code = cL_law := hb
  have hts := fun w h => hts w (wsL_law_in w h)
  have hbA : ¬ (fun q : Nat => s.heap.size ≤ q) b := Nat.not_le.mpr hbl
  refine lv_aload_n hx hb dL_law_412 rfl (lv_at hl 2 rfl) ?_
  obtain ⟨fsx, hSx⟩ := hFx.self.2
  refine kq_callI (As := []) (rest := []) (n := 0) (q := (RX7, TX7, 9)) (ci := 7) (mc := 0) (ms := 0) ⟨hx, hb, hml, hown, hts⟩ (f_X7_fault l E Lx σx hFx) gL_law_X7_fault rfl (by decide +kernel) ⟨Nat.le_of_ble_eq_true rfl, Nat.le_of_ble_eq_true rfl⟩ hK hw hFx.self.1 hSx rfl rfl hl.1 rfl (Nat.le_of_ble_eq_true rfl) dL_law_413 rfl rfl ⟨Nat.le_of_ble_eq_true rfl, Nat.le_of_ble_eq_true rfl⟩ (fun r1 Lr1 σr1 H locs er1 hw => ?_)
  refine lv_aload_n hx hb dL_law_416 rfl (lv_at hl 1 rfl) ?_
  have hw := kq_swap hw
  obtain ⟨fsm, hSm⟩ := hFm.self.2
  refine kq_callI (As := []) (rest := [.int r1]) (n := 0) (q := (RX8, TX8, 23)) (ci := 8) (mc := 0) (ms := 0) ⟨hx, hb, hml, hown, hts⟩ (f_X8_fault l E Lm σm hFm) gL_law_X8_fault rfl (by decide +kernel) ⟨Nat.le_of_ble_eq_true rfl, Nat.le_of_ble_eq_true rfl⟩ hK hw hFm.self.1 hSm rfl rfl hl.1 rfl (Nat.le_of_ble_eq_true rfl) dL_law_417 rfl rfl ⟨Nat.le_of_ble_eq_true rfl, Nat.le_of_ble_eq_true rfl⟩ (fun r2 Lr2 σr2 H locs er2 hw => ?_)
  refine lv_icmp_eq (tgt := 1421) hx hb dL_law_420 (by decide) (fun ce => ?_) (fun ce => ?_)
  · exact lk_end C0 hw.2.2.1 hl (Nat.le_of_ble_eq_true rfl) (Nat.le_of_ble_eq_true rfl)
  · exact absurd (er1.trans er2.symm) ce
set_option maxHeartbeats 4000000 in
set_option maxRecDepth 100000 in
theorem lk_7 {p : Program} {l : Launch} {e : Env} {s : State} {m : MethodId} {below : List Frame} {meth : Method} {c : Code} {b : Nat} {xs : Nat → Int32} {E : kq_T} {H : Heap} {locs : List Loc} {ls : Array Slot} {x m_ : Nat} {Lx Lm : List Nat} {σx σm : Nat → va_E} (C0 : lw_At p s m meth c b 6 xs) (hK : kq_K E s) (hFx : fr_X E Lx σx x) (hFm : fr_M E Lm σm m_) (hw : kq_w E (fun q : Nat => s.heap.size ≤ q) s.heap (va_pl Lm σm) Lx σx H locs) (hl : lv_has ls 4 [(3, .int 0), (2, .ref m_), (1, .ref x), (0, .ref b)]) : W p l e room_1 s m #[Value.ref b] below meth c H locs 1000 10000 (lw_Z below #[Value.ref b] s) (F0 m 425 ls []) := by
  obtain ⟨hx, hb, hr, hml, hown, hts, hX, hbl, hlocks, hgv⟩ := id C0
  have hown : s.vm.findClass RL = some m.cls := hown
  have hb : c.code = cL_law := hb
  have hts := fun w h => hts w (wsL_law_in w h)
  have hbA : ¬ (fun q : Nat => s.heap.size ≤ q) b := Nat.not_le.mpr hbl
  refine lv_aload_n hx hb dL_law_425 rfl (lv_at hl 2 rfl) ?_
  refine lv_aload_n hx hb dL_law_426 rfl (lv_at hl 3 rfl) ?_
  refine lv_iload_n hx hb dL_law_427 rfl (lv_at hl 0 rfl) ?_
  refine lv_iconst (v := 1) hx hb dL_law_428 (by decide) ?_
  refine lv_iadd hx hb dL_law_429 ?_
  refine lv_topi (fun v1 ev1 => ?_)
  have ev1 : v1 = 1 := by rw [ev1]; decide
  subst ev1
  refine va_sld hx hb hX hbl hbA hw.2.2.1 (by unfold vp_in; decide) dL_law_430 ?_
  obtain ⟨fsx, hSx⟩ := hFx.self.2
  refine kq_callI (As := [.int (xs (Int32.toNatClampNeg 1))]) (rest := []) (n := 1) (q := (RX7, TX7, 9)) (ci := 7) (mc := 0) (ms := 0) ⟨hx, hb, hml, hown, hts⟩ (f_X7_nights l E Lx σx hFx (xs (Int32.toNatClampNeg 1))) gL_law_X7_nights rfl (by decide +kernel) ⟨Nat.le_of_ble_eq_true rfl, Nat.le_of_ble_eq_true rfl⟩ hK hw hFx.self.1 hSx rfl rfl hl.1 rfl (Nat.le_of_ble_eq_true rfl) dL_law_431 rfl rfl ⟨Nat.le_of_ble_eq_true rfl, Nat.le_of_ble_eq_true rfl⟩ (fun r1 Lr1 σr1 H locs er1 hw => ?_)
  refine lv_aload_n hx hb dL_law_434 rfl (lv_at hl 1 rfl) ?_
  refine lv_aload_n hx hb dL_law_435 rfl (lv_at hl 3 rfl) ?_
  refine lv_iload_n hx hb dL_law_436 rfl (lv_at hl 0 rfl) ?_
  refine lv_iconst (v := 1) hx hb dL_law_437 (by decide) ?_
  refine lv_iadd hx hb dL_law_438 ?_
  refine lv_topi (fun v2 ev2 => ?_)
  have ev2 : v2 = 1 := by rw [ev2]; decide
  subst ev2
  refine va_sld hx hb hX hbl hbA hw.2.2.1 (by unfold vp_in; decide) dL_law_439 ?_
  have hw := kq_swap hw
  obtain ⟨fsm, hSm⟩ := hFm.self.2
  refine kq_callI (As := [.int (xs (Int32.toNatClampNeg 1))]) (rest := [.int r1]) (n := 1) (q := (RX8, TX8, 23)) (ci := 8) (mc := 0) (ms := 0) ⟨hx, hb, hml, hown, hts⟩ (f_X8_nights l E Lm σm hFm (xs (Int32.toNatClampNeg 1))) gL_law_X8_nights rfl (by decide +kernel) ⟨Nat.le_of_ble_eq_true rfl, Nat.le_of_ble_eq_true rfl⟩ hK hw hFm.self.1 hSm rfl rfl hl.1 rfl (Nat.le_of_ble_eq_true rfl) dL_law_440 rfl rfl ⟨Nat.le_of_ble_eq_true rfl, Nat.le_of_ble_eq_true rfl⟩ (fun r2 Lr2 σr2 H locs er2 hw => ?_)
  refine lv_icmp_eq (tgt := 1421) hx hb dL_law_443 (by decide) (fun ce => ?_) (fun ce => ?_)
  · exact lk_end C0 hw.2.2.1 hl (Nat.le_of_ble_eq_true rfl) (Nat.le_of_ble_eq_true rfl)
  · exact absurd (er1.trans er2.symm) ce
set_option maxHeartbeats 4000000 in
set_option maxRecDepth 100000 in
theorem lk_8 {p : Program} {l : Launch} {e : Env} {s : State} {m : MethodId} {below : List Frame} {meth : Method} {c : Code} {b : Nat} {xs : Nat → Int32} {E : kq_T} {H : Heap} {locs : List Loc} {ls : Array Slot} {x m_ : Nat} {Lx Lm : List Nat} {σx σm : Nat → va_E} (C0 : lw_At p s m meth c b 6 xs) (hK : kq_K E s) (hFx : fr_X E Lx σx x) (hFm : fr_M E Lm σm m_) (hw : kq_w E (fun q : Nat => s.heap.size ≤ q) s.heap (va_pl Lm σm) Lx σx H locs) (hl : lv_has ls 4 [(3, .int 0), (2, .ref m_), (1, .ref x), (0, .ref b)]) : W p l e room_1 s m #[Value.ref b] below meth c H locs 1000 10000 (lw_Z below #[Value.ref b] s) (F0 m 448 ls []) := by
  obtain ⟨hx, hb, hr, hml, hown, hts, hX, hbl, hlocks, hgv⟩ := id C0
  have hown : s.vm.findClass RL = some m.cls := hown
  have hb : c.code = cL_law := hb
  have hts := fun w h => hts w (wsL_law_in w h)
  have hbA : ¬ (fun q : Nat => s.heap.size ≤ q) b := Nat.not_le.mpr hbl
  refine lv_aload_n hx hb dL_law_448 rfl (lv_at hl 2 rfl) ?_
  refine lv_aload_n hx hb dL_law_449 rfl (lv_at hl 3 rfl) ?_
  refine lv_iload_n hx hb dL_law_450 rfl (lv_at hl 0 rfl) ?_
  refine lv_iconst (v := 1) hx hb dL_law_451 (by decide) ?_
  refine lv_iadd hx hb dL_law_452 ?_
  refine lv_topi (fun v1 ev1 => ?_)
  have ev1 : v1 = 1 := by rw [ev1]; decide
  subst ev1
  refine va_sld hx hb hX hbl hbA hw.2.2.1 (by unfold vp_in; decide) dL_law_453 ?_
  refine lv_aload_n hx hb dL_law_454 rfl (lv_at hl 3 rfl) ?_
  refine lv_iload_n hx hb dL_law_455 rfl (lv_at hl 0 rfl) ?_
  refine lv_iconst (v := 2) hx hb dL_law_456 (by decide) ?_
  refine lv_iadd hx hb dL_law_457 ?_
  refine lv_topi (fun v2 ev2 => ?_)
  have ev2 : v2 = 2 := by rw [ev2]; decide
  subst ev2
  refine va_sld hx hb hX hbl hbA hw.2.2.1 (by unfold vp_in; decide) dL_law_458 ?_
  obtain ⟨fsx, hSx⟩ := hFx.self.2
  refine kq_callI (As := [.int (xs (Int32.toNatClampNeg 1)), .int (xs (Int32.toNatClampNeg 2))]) (rest := []) (n := 2) (q := (RX7, TX7, 9)) (ci := 7) (mc := 0) (ms := 0) ⟨hx, hb, hml, hown, hts⟩ (f_X7_say l E Lx σx hFx (xs (Int32.toNatClampNeg 1)) (xs (Int32.toNatClampNeg 2))) gL_law_X7_say rfl (by decide +kernel) ⟨Nat.le_of_ble_eq_true rfl, Nat.le_of_ble_eq_true rfl⟩ hK hw hFx.self.1 hSx rfl rfl hl.1 rfl (Nat.le_of_ble_eq_true rfl) dL_law_459 rfl rfl ⟨Nat.le_of_ble_eq_true rfl, Nat.le_of_ble_eq_true rfl⟩ (fun r1 Lr1 σr1 H locs er1 hw => ?_)
  refine lv_aload_n hx hb dL_law_462 rfl (lv_at hl 1 rfl) ?_
  refine lv_aload_n hx hb dL_law_463 rfl (lv_at hl 3 rfl) ?_
  refine lv_iload_n hx hb dL_law_464 rfl (lv_at hl 0 rfl) ?_
  refine lv_iconst (v := 1) hx hb dL_law_465 (by decide) ?_
  refine lv_iadd hx hb dL_law_466 ?_
  refine lv_topi (fun v3 ev3 => ?_)
  have ev3 : v3 = 1 := by rw [ev3]; decide
  subst ev3
  refine va_sld hx hb hX hbl hbA hw.2.2.1 (by unfold vp_in; decide) dL_law_467 ?_
  refine lv_aload_n hx hb dL_law_468 rfl (lv_at hl 3 rfl) ?_
  refine lv_iload_n hx hb dL_law_469 rfl (lv_at hl 0 rfl) ?_
  refine lv_iconst (v := 2) hx hb dL_law_470 (by decide) ?_
  refine lv_iadd hx hb dL_law_471 ?_
  refine lv_topi (fun v4 ev4 => ?_)
  have ev4 : v4 = 2 := by rw [ev4]; decide
  subst ev4
  refine va_sld hx hb hX hbl hbA hw.2.2.1 (by unfold vp_in; decide) dL_law_472 ?_
  have hw := kq_swap hw
  obtain ⟨fsm, hSm⟩ := hFm.self.2
  refine kq_callI (As := [.int (xs (Int32.toNatClampNeg 1)), .int (xs (Int32.toNatClampNeg 2))]) (rest := [.int r1]) (n := 2) (q := (RX8, TX8, 23)) (ci := 8) (mc := 0) (ms := 0) ⟨hx, hb, hml, hown, hts⟩ (f_X8_say l E Lm σm hFm (xs (Int32.toNatClampNeg 1)) (xs (Int32.toNatClampNeg 2))) gL_law_X8_say rfl (by decide +kernel) ⟨Nat.le_of_ble_eq_true rfl, Nat.le_of_ble_eq_true rfl⟩ hK hw hFm.self.1 hSm rfl rfl hl.1 rfl (Nat.le_of_ble_eq_true rfl) dL_law_473 rfl rfl ⟨Nat.le_of_ble_eq_true rfl, Nat.le_of_ble_eq_true rfl⟩ (fun r2 Lr2 σr2 H locs er2 hw => ?_)
  refine lv_icmp_eq (tgt := 1421) hx hb dL_law_476 (by decide) (fun ce => ?_) (fun ce => ?_)
  · exact lk_end C0 hw.2.2.1 hl (Nat.le_of_ble_eq_true rfl) (Nat.le_of_ble_eq_true rfl)
  · exact absurd (er1.trans er2.symm) ce
set_option maxHeartbeats 4000000 in
set_option maxRecDepth 100000 in
theorem lk_9 {p : Program} {l : Launch} {e : Env} {s : State} {m : MethodId} {below : List Frame} {meth : Method} {c : Code} {b : Nat} {xs : Nat → Int32} {E : kq_T} {H : Heap} {locs : List Loc} {ls : Array Slot} {x m_ : Nat} {Lx Lm : List Nat} {σx σm : Nat → va_E} (C0 : lw_At p s m meth c b 6 xs) (hK : kq_K E s) (hFx : fr_X E Lx σx x) (hFm : fr_M E Lm σm m_) (hw : kq_w E (fun q : Nat => s.heap.size ≤ q) s.heap (va_pl Lm σm) Lx σx H locs) (hl : lv_has ls 4 [(3, .int 0), (2, .ref m_), (1, .ref x), (0, .ref b)]) : W p l e room_1 s m #[Value.ref b] below meth c H locs 1000 10000 (lw_Z below #[Value.ref b] s) (F0 m 481 ls []) := by
  obtain ⟨hx, hb, hr, hml, hown, hts, hX, hbl, hlocks, hgv⟩ := id C0
  have hown : s.vm.findClass RL = some m.cls := hown
  have hb : c.code = cL_law := hb
  have hts := fun w h => hts w (wsL_law_in w h)
  have hbA : ¬ (fun q : Nat => s.heap.size ≤ q) b := Nat.not_le.mpr hbl
  refine lv_aload_n hx hb dL_law_481 rfl (lv_at hl 2 rfl) ?_
  refine lv_aload_n hx hb dL_law_482 rfl (lv_at hl 3 rfl) ?_
  refine lv_iload_n hx hb dL_law_483 rfl (lv_at hl 0 rfl) ?_
  refine lv_iconst (v := 1) hx hb dL_law_484 (by decide) ?_
  refine lv_iadd hx hb dL_law_485 ?_
  refine lv_topi (fun v1 ev1 => ?_)
  have ev1 : v1 = 1 := by rw [ev1]; decide
  subst ev1
  refine va_sld hx hb hX hbl hbA hw.2.2.1 (by unfold vp_in; decide) dL_law_486 ?_
  obtain ⟨fsx, hSx⟩ := hFx.self.2
  refine kq_callI (As := [.int (xs (Int32.toNatClampNeg 1))]) (rest := []) (n := 1) (q := (RX7, TX7, 9)) (ci := 7) (mc := 0) (ms := 0) ⟨hx, hb, hml, hown, hts⟩ (f_X7_start l E Lx σx hFx (xs (Int32.toNatClampNeg 1))) gL_law_X7_start rfl (by decide +kernel) ⟨Nat.le_of_ble_eq_true rfl, Nat.le_of_ble_eq_true rfl⟩ hK hw hFx.self.1 hSx rfl rfl hl.1 rfl (Nat.le_of_ble_eq_true rfl) dL_law_487 rfl rfl ⟨Nat.le_of_ble_eq_true rfl, Nat.le_of_ble_eq_true rfl⟩ (fun r1 Lr1 σr1 H locs er1 hw => ?_)
  refine lv_aload_n hx hb dL_law_490 rfl (lv_at hl 1 rfl) ?_
  refine lv_aload_n hx hb dL_law_491 rfl (lv_at hl 3 rfl) ?_
  refine lv_iload_n hx hb dL_law_492 rfl (lv_at hl 0 rfl) ?_
  refine lv_iconst (v := 1) hx hb dL_law_493 (by decide) ?_
  refine lv_iadd hx hb dL_law_494 ?_
  refine lv_topi (fun v2 ev2 => ?_)
  have ev2 : v2 = 1 := by rw [ev2]; decide
  subst ev2
  refine va_sld hx hb hX hbl hbA hw.2.2.1 (by unfold vp_in; decide) dL_law_495 ?_
  have hw := kq_swap hw
  obtain ⟨fsm, hSm⟩ := hFm.self.2
  refine kq_callI (As := [.int (xs (Int32.toNatClampNeg 1))]) (rest := [.int r1]) (n := 1) (q := (RX8, TX8, 23)) (ci := 8) (mc := 0) (ms := 0) ⟨hx, hb, hml, hown, hts⟩ (f_X8_start l E Lm σm hFm (xs (Int32.toNatClampNeg 1))) gL_law_X8_start rfl (by decide +kernel) ⟨Nat.le_of_ble_eq_true rfl, Nat.le_of_ble_eq_true rfl⟩ hK hw hFm.self.1 hSm rfl rfl hl.1 rfl (Nat.le_of_ble_eq_true rfl) dL_law_496 rfl rfl ⟨Nat.le_of_ble_eq_true rfl, Nat.le_of_ble_eq_true rfl⟩ (fun r2 Lr2 σr2 H locs er2 hw => ?_)
  refine lv_icmp_eq (tgt := 1421) hx hb dL_law_499 (by decide) (fun ce => ?_) (fun ce => ?_)
  · exact lk_end C0 hw.2.2.1 hl (Nat.le_of_ble_eq_true rfl) (Nat.le_of_ble_eq_true rfl)
  · exact absurd (er1.trans er2.symm) ce
set_option maxHeartbeats 4000000 in
set_option maxRecDepth 100000 in
theorem lk_10 {p : Program} {l : Launch} {e : Env} {s : State} {m : MethodId} {below : List Frame} {meth : Method} {c : Code} {b : Nat} {xs : Nat → Int32} {E : kq_T} {H : Heap} {locs : List Loc} {ls : Array Slot} {x m_ : Nat} {Lx Lm : List Nat} {σx σm : Nat → va_E} (C0 : lw_At p s m meth c b 6 xs) (hK : kq_K E s) (hFx : fr_X E Lx σx x) (hFm : fr_M E Lm σm m_) (hw : kq_w E (fun q : Nat => s.heap.size ≤ q) s.heap (va_pl Lm σm) Lx σx H locs) (hl : lv_has ls 4 [(3, .int 0), (2, .ref m_), (1, .ref x), (0, .ref b)]) : W p l e room_1 s m #[Value.ref b] below meth c H locs 1000 10000 (lw_Z below #[Value.ref b] s) (F0 m 504 ls []) := by
  obtain ⟨hx, hb, hr, hml, hown, hts, hX, hbl, hlocks, hgv⟩ := id C0
  have hown : s.vm.findClass RL = some m.cls := hown
  have hb : c.code = cL_law := hb
  have hts := fun w h => hts w (wsL_law_in w h)
  have hbA : ¬ (fun q : Nat => s.heap.size ≤ q) b := Nat.not_le.mpr hbl
  refine lv_aload_n hx hb dL_law_504 rfl (lv_at hl 2 rfl) ?_
  refine lv_aload_n hx hb dL_law_505 rfl (lv_at hl 3 rfl) ?_
  refine lv_iload_n hx hb dL_law_506 rfl (lv_at hl 0 rfl) ?_
  refine lv_iconst (v := 1) hx hb dL_law_507 (by decide) ?_
  refine lv_iadd hx hb dL_law_508 ?_
  refine lv_topi (fun v1 ev1 => ?_)
  have ev1 : v1 = 1 := by rw [ev1]; decide
  subst ev1
  refine va_sld hx hb hX hbl hbA hw.2.2.1 (by unfold vp_in; decide) dL_law_509 ?_
  refine lv_aload_n hx hb dL_law_510 rfl (lv_at hl 3 rfl) ?_
  refine lv_iload_n hx hb dL_law_511 rfl (lv_at hl 0 rfl) ?_
  refine lv_iconst (v := 2) hx hb dL_law_512 (by decide) ?_
  refine lv_iadd hx hb dL_law_513 ?_
  refine lv_topi (fun v2 ev2 => ?_)
  have ev2 : v2 = 2 := by rw [ev2]; decide
  subst ev2
  refine va_sld hx hb hX hbl hbA hw.2.2.1 (by unfold vp_in; decide) dL_law_514 ?_
  obtain ⟨fsx, hSx⟩ := hFx.self.2
  refine kq_callI (As := [.int (xs (Int32.toNatClampNeg 1)), .int (xs (Int32.toNatClampNeg 2))]) (rest := []) (n := 2) (q := (RX7, TX7, 9)) (ci := 7) (mc := 0) (ms := 0) ⟨hx, hb, hml, hown, hts⟩ (f_X7_dismiss l E Lx σx hFx (xs (Int32.toNatClampNeg 1)) (xs (Int32.toNatClampNeg 2))) gL_law_X7_dismiss rfl (by decide +kernel) ⟨Nat.le_of_ble_eq_true rfl, Nat.le_of_ble_eq_true rfl⟩ hK hw hFx.self.1 hSx rfl rfl hl.1 rfl (Nat.le_of_ble_eq_true rfl) dL_law_515 rfl rfl ⟨Nat.le_of_ble_eq_true rfl, Nat.le_of_ble_eq_true rfl⟩ (fun r1 Lr1 σr1 H locs er1 hw => ?_)
  refine lv_aload_n hx hb dL_law_518 rfl (lv_at hl 1 rfl) ?_
  refine lv_aload_n hx hb dL_law_519 rfl (lv_at hl 3 rfl) ?_
  refine lv_iload_n hx hb dL_law_520 rfl (lv_at hl 0 rfl) ?_
  refine lv_iconst (v := 1) hx hb dL_law_521 (by decide) ?_
  refine lv_iadd hx hb dL_law_522 ?_
  refine lv_topi (fun v3 ev3 => ?_)
  have ev3 : v3 = 1 := by rw [ev3]; decide
  subst ev3
  refine va_sld hx hb hX hbl hbA hw.2.2.1 (by unfold vp_in; decide) dL_law_523 ?_
  refine lv_aload_n hx hb dL_law_524 rfl (lv_at hl 3 rfl) ?_
  refine lv_iload_n hx hb dL_law_525 rfl (lv_at hl 0 rfl) ?_
  refine lv_iconst (v := 2) hx hb dL_law_526 (by decide) ?_
  refine lv_iadd hx hb dL_law_527 ?_
  refine lv_topi (fun v4 ev4 => ?_)
  have ev4 : v4 = 2 := by rw [ev4]; decide
  subst ev4
  refine va_sld hx hb hX hbl hbA hw.2.2.1 (by unfold vp_in; decide) dL_law_528 ?_
  have hw := kq_swap hw
  obtain ⟨fsm, hSm⟩ := hFm.self.2
  refine kq_callI (As := [.int (xs (Int32.toNatClampNeg 1)), .int (xs (Int32.toNatClampNeg 2))]) (rest := [.int r1]) (n := 2) (q := (RX8, TX8, 23)) (ci := 8) (mc := 0) (ms := 0) ⟨hx, hb, hml, hown, hts⟩ (f_X8_dismiss l E Lm σm hFm (xs (Int32.toNatClampNeg 1)) (xs (Int32.toNatClampNeg 2))) gL_law_X8_dismiss rfl (by decide +kernel) ⟨Nat.le_of_ble_eq_true rfl, Nat.le_of_ble_eq_true rfl⟩ hK hw hFm.self.1 hSm rfl rfl hl.1 rfl (Nat.le_of_ble_eq_true rfl) dL_law_529 rfl rfl ⟨Nat.le_of_ble_eq_true rfl, Nat.le_of_ble_eq_true rfl⟩ (fun r2 Lr2 σr2 H locs er2 hw => ?_)
  refine lv_icmp_eq (tgt := 1421) hx hb dL_law_532 (by decide) (fun ce => ?_) (fun ce => ?_)
  · exact lk_end C0 hw.2.2.1 hl (Nat.le_of_ble_eq_true rfl) (Nat.le_of_ble_eq_true rfl)
  · exact absurd (er1.trans er2.symm) ce
set_option maxHeartbeats 4000000 in
set_option maxRecDepth 100000 in
theorem lk_11 {p : Program} {l : Launch} {e : Env} {s : State} {m : MethodId} {below : List Frame} {meth : Method} {c : Code} {b : Nat} {xs : Nat → Int32} {E : kq_T} {H : Heap} {locs : List Loc} {ls : Array Slot} {x m_ : Nat} {Lx Lm : List Nat} {σx σm : Nat → va_E} (C0 : lw_At p s m meth c b 6 xs) (hK : kq_K E s) (hFx : fr_X E Lx σx x) (hFm : fr_M E Lm σm m_) (hw : kq_w E (fun q : Nat => s.heap.size ≤ q) s.heap (va_pl Lm σm) Lx σx H locs) (hl : lv_has ls 4 [(3, .int 0), (2, .ref m_), (1, .ref x), (0, .ref b)]) : W p l e room_1 s m #[Value.ref b] below meth c H locs 1000 10000 (lw_Z below #[Value.ref b] s) (F0 m 537 ls []) := by
  obtain ⟨hx, hb, hr, hml, hown, hts, hX, hbl, hlocks, hgv⟩ := id C0
  have hown : s.vm.findClass RL = some m.cls := hown
  have hb : c.code = cL_law := hb
  have hts := fun w h => hts w (wsL_law_in w h)
  have hbA : ¬ (fun q : Nat => s.heap.size ≤ q) b := Nat.not_le.mpr hbl
  refine lv_aload_n hx hb dL_law_537 rfl (lv_at hl 2 rfl) ?_
  obtain ⟨fsx, hSx⟩ := hFx.self.2
  refine kq_callI (As := []) (rest := []) (n := 0) (q := (RX7, TX7, 9)) (ci := 7) (mc := 0) (ms := 0) ⟨hx, hb, hml, hown, hts⟩ (f_X7_undo l E Lx σx hFx) gL_law_X7_undo rfl (by decide +kernel) ⟨Nat.le_of_ble_eq_true rfl, Nat.le_of_ble_eq_true rfl⟩ hK hw hFx.self.1 hSx rfl rfl hl.1 rfl (Nat.le_of_ble_eq_true rfl) dL_law_538 rfl rfl ⟨Nat.le_of_ble_eq_true rfl, Nat.le_of_ble_eq_true rfl⟩ (fun r1 Lr1 σr1 H locs er1 hw => ?_)
  refine lv_aload_n hx hb dL_law_541 rfl (lv_at hl 1 rfl) ?_
  have hw := kq_swap hw
  obtain ⟨fsm, hSm⟩ := hFm.self.2
  refine kq_callI (As := []) (rest := [.int r1]) (n := 0) (q := (RX8, TX8, 23)) (ci := 8) (mc := 0) (ms := 0) ⟨hx, hb, hml, hown, hts⟩ (f_X8_undo l E Lm σm hFm) gL_law_X8_undo rfl (by decide +kernel) ⟨Nat.le_of_ble_eq_true rfl, Nat.le_of_ble_eq_true rfl⟩ hK hw hFm.self.1 hSm rfl rfl hl.1 rfl (Nat.le_of_ble_eq_true rfl) dL_law_542 rfl rfl ⟨Nat.le_of_ble_eq_true rfl, Nat.le_of_ble_eq_true rfl⟩ (fun r2 Lr2 σr2 H locs er2 hw => ?_)
  refine lv_icmp_eq (tgt := 1421) hx hb dL_law_545 (by decide) (fun ce => ?_) (fun ce => ?_)
  · exact lk_end C0 hw.2.2.1 hl (Nat.le_of_ble_eq_true rfl) (Nat.le_of_ble_eq_true rfl)
  · exact absurd (er1.trans er2.symm) ce
set_option maxHeartbeats 4000000 in
set_option maxRecDepth 100000 in
theorem lk_12 {p : Program} {l : Launch} {e : Env} {s : State} {m : MethodId} {below : List Frame} {meth : Method} {c : Code} {b : Nat} {xs : Nat → Int32} {E : kq_T} {H : Heap} {locs : List Loc} {ls : Array Slot} {x m_ : Nat} {Lx Lm : List Nat} {σx σm : Nat → va_E} (C0 : lw_At p s m meth c b 6 xs) (hK : kq_K E s) (hFx : fr_X E Lx σx x) (hFm : fr_M E Lm σm m_) (hw : kq_w E (fun q : Nat => s.heap.size ≤ q) s.heap (va_pl Lm σm) Lx σx H locs) (hl : lv_has ls 4 [(3, .int 0), (2, .ref m_), (1, .ref x), (0, .ref b)]) : W p l e room_1 s m #[Value.ref b] below meth c H locs 1000 10000 (lw_Z below #[Value.ref b] s) (F0 m 550 ls []) := by
  obtain ⟨hx, hb, hr, hml, hown, hts, hX, hbl, hlocks, hgv⟩ := id C0
  have hown : s.vm.findClass RL = some m.cls := hown
  have hb : c.code = cL_law := hb
  have hts := fun w h => hts w (wsL_law_in w h)
  have hbA : ¬ (fun q : Nat => s.heap.size ≤ q) b := Nat.not_le.mpr hbl
  refine lv_aload_n hx hb dL_law_550 rfl (lv_at hl 2 rfl) ?_
  refine lv_aload_n hx hb dL_law_551 rfl (lv_at hl 3 rfl) ?_
  refine lv_iload_n hx hb dL_law_552 rfl (lv_at hl 0 rfl) ?_
  refine lv_iconst (v := 1) hx hb dL_law_553 (by decide) ?_
  refine lv_iadd hx hb dL_law_554 ?_
  refine lv_topi (fun v1 ev1 => ?_)
  have ev1 : v1 = 1 := by rw [ev1]; decide
  subst ev1
  refine va_sld hx hb hX hbl hbA hw.2.2.1 (by unfold vp_in; decide) dL_law_555 ?_
  refine lv_aload_n hx hb dL_law_556 rfl (lv_at hl 3 rfl) ?_
  refine lv_iload_n hx hb dL_law_557 rfl (lv_at hl 0 rfl) ?_
  refine lv_iconst (v := 2) hx hb dL_law_558 (by decide) ?_
  refine lv_iadd hx hb dL_law_559 ?_
  refine lv_topi (fun v2 ev2 => ?_)
  have ev2 : v2 = 2 := by rw [ev2]; decide
  subst ev2
  refine va_sld hx hb hX hbl hbA hw.2.2.1 (by unfold vp_in; decide) dL_law_560 ?_
  obtain ⟨fsx, hSx⟩ := hFx.self.2
  refine kq_callI (As := [.int (xs (Int32.toNatClampNeg 1)), .int (xs (Int32.toNatClampNeg 2))]) (rest := []) (n := 2) (q := (RX7, TX7, 9)) (ci := 7) (mc := 0) (ms := 0) ⟨hx, hb, hml, hown, hts⟩ (f_X7_letter l E Lx σx hFx (xs (Int32.toNatClampNeg 1)) (xs (Int32.toNatClampNeg 2))) gL_law_X7_letter rfl (by decide +kernel) ⟨Nat.le_of_ble_eq_true rfl, Nat.le_of_ble_eq_true rfl⟩ hK hw hFx.self.1 hSx rfl rfl hl.1 rfl (Nat.le_of_ble_eq_true rfl) dL_law_561 rfl rfl ⟨Nat.le_of_ble_eq_true rfl, Nat.le_of_ble_eq_true rfl⟩ (fun r1 Lr1 σr1 H locs er1 hw => ?_)
  refine lv_aload_n hx hb dL_law_564 rfl (lv_at hl 1 rfl) ?_
  refine lv_aload_n hx hb dL_law_565 rfl (lv_at hl 3 rfl) ?_
  refine lv_iload_n hx hb dL_law_566 rfl (lv_at hl 0 rfl) ?_
  refine lv_iconst (v := 1) hx hb dL_law_567 (by decide) ?_
  refine lv_iadd hx hb dL_law_568 ?_
  refine lv_topi (fun v3 ev3 => ?_)
  have ev3 : v3 = 1 := by rw [ev3]; decide
  subst ev3
  refine va_sld hx hb hX hbl hbA hw.2.2.1 (by unfold vp_in; decide) dL_law_569 ?_
  refine lv_aload_n hx hb dL_law_570 rfl (lv_at hl 3 rfl) ?_
  refine lv_iload_n hx hb dL_law_571 rfl (lv_at hl 0 rfl) ?_
  refine lv_iconst (v := 2) hx hb dL_law_572 (by decide) ?_
  refine lv_iadd hx hb dL_law_573 ?_
  refine lv_topi (fun v4 ev4 => ?_)
  have ev4 : v4 = 2 := by rw [ev4]; decide
  subst ev4
  refine va_sld hx hb hX hbl hbA hw.2.2.1 (by unfold vp_in; decide) dL_law_574 ?_
  have hw := kq_swap hw
  obtain ⟨fsm, hSm⟩ := hFm.self.2
  refine kq_callI (As := [.int (xs (Int32.toNatClampNeg 1)), .int (xs (Int32.toNatClampNeg 2))]) (rest := [.int r1]) (n := 2) (q := (RX8, TX8, 23)) (ci := 8) (mc := 0) (ms := 0) ⟨hx, hb, hml, hown, hts⟩ (f_X8_letter l E Lm σm hFm (xs (Int32.toNatClampNeg 1)) (xs (Int32.toNatClampNeg 2))) gL_law_X8_letter rfl (by decide +kernel) ⟨Nat.le_of_ble_eq_true rfl, Nat.le_of_ble_eq_true rfl⟩ hK hw hFm.self.1 hSm rfl rfl hl.1 rfl (Nat.le_of_ble_eq_true rfl) dL_law_575 rfl rfl ⟨Nat.le_of_ble_eq_true rfl, Nat.le_of_ble_eq_true rfl⟩ (fun r2 Lr2 σr2 H locs er2 hw => ?_)
  refine lv_icmp_eq (tgt := 1421) hx hb dL_law_578 (by decide) (fun ce => ?_) (fun ce => ?_)
  · exact lk_end C0 hw.2.2.1 hl (Nat.le_of_ble_eq_true rfl) (Nat.le_of_ble_eq_true rfl)
  · exact absurd (er1.trans er2.symm) ce
set_option maxHeartbeats 4000000 in
set_option maxRecDepth 100000 in
theorem lk_13 {p : Program} {l : Launch} {e : Env} {s : State} {m : MethodId} {below : List Frame} {meth : Method} {c : Code} {b : Nat} {xs : Nat → Int32} {E : kq_T} {H : Heap} {locs : List Loc} {ls : Array Slot} {x m_ : Nat} {Lx Lm : List Nat} {σx σm : Nat → va_E} (C0 : lw_At p s m meth c b 6 xs) (hK : kq_K E s) (hFx : fr_X E Lx σx x) (hFm : fr_M E Lm σm m_) (hw : kq_w E (fun q : Nat => s.heap.size ≤ q) s.heap (va_pl Lm σm) Lx σx H locs) (hl : lv_has ls 4 [(3, .int 0), (2, .ref m_), (1, .ref x), (0, .ref b)]) : W p l e room_1 s m #[Value.ref b] below meth c H locs 1000 10000 (lw_Z below #[Value.ref b] s) (F0 m 583 ls []) := by
  obtain ⟨hx, hb, hr, hml, hown, hts, hX, hbl, hlocks, hgv⟩ := id C0
  have hown : s.vm.findClass RL = some m.cls := hown
  have hb : c.code = cL_law := hb
  have hts := fun w h => hts w (wsL_law_in w h)
  have hbA : ¬ (fun q : Nat => s.heap.size ≤ q) b := Nat.not_le.mpr hbl
  refine lv_aload_n hx hb dL_law_583 rfl (lv_at hl 2 rfl) ?_
  refine lv_aload_n hx hb dL_law_584 rfl (lv_at hl 3 rfl) ?_
  refine lv_iload_n hx hb dL_law_585 rfl (lv_at hl 0 rfl) ?_
  refine lv_iconst (v := 1) hx hb dL_law_586 (by decide) ?_
  refine lv_iadd hx hb dL_law_587 ?_
  refine lv_topi (fun v1 ev1 => ?_)
  have ev1 : v1 = 1 := by rw [ev1]; decide
  subst ev1
  refine va_sld hx hb hX hbl hbA hw.2.2.1 (by unfold vp_in; decide) dL_law_588 ?_
  refine lv_aload_n hx hb dL_law_589 rfl (lv_at hl 3 rfl) ?_
  refine lv_iload_n hx hb dL_law_590 rfl (lv_at hl 0 rfl) ?_
  refine lv_iconst (v := 2) hx hb dL_law_591 (by decide) ?_
  refine lv_iadd hx hb dL_law_592 ?_
  refine lv_topi (fun v2 ev2 => ?_)
  have ev2 : v2 = 2 := by rw [ev2]; decide
  subst ev2
  refine va_sld hx hb hX hbl hbA hw.2.2.1 (by unfold vp_in; decide) dL_law_593 ?_
  refine lv_aload_n hx hb dL_law_594 rfl (lv_at hl 3 rfl) ?_
  refine lv_iload_n hx hb dL_law_595 rfl (lv_at hl 0 rfl) ?_
  refine lv_iconst (v := 3) hx hb dL_law_596 (by decide) ?_
  refine lv_iadd hx hb dL_law_597 ?_
  refine lv_topi (fun v3 ev3 => ?_)
  have ev3 : v3 = 3 := by rw [ev3]; decide
  subst ev3
  refine va_sld hx hb hX hbl hbA hw.2.2.1 (by unfold vp_in; decide) dL_law_598 ?_
  obtain ⟨fsx, hSx⟩ := hFx.self.2
  refine kq_callI (As := [.int (xs (Int32.toNatClampNeg 1)), .int (xs (Int32.toNatClampNeg 2)), .int (xs (Int32.toNatClampNeg 3))]) (rest := []) (n := 3) (q := (RX7, TX7, 9)) (ci := 7) (mc := 0) (ms := 0) ⟨hx, hb, hml, hown, hts⟩ (f_X7_like l E Lx σx hFx (xs (Int32.toNatClampNeg 1)) (xs (Int32.toNatClampNeg 2)) (xs (Int32.toNatClampNeg 3))) gL_law_X7_like rfl (by decide +kernel) ⟨Nat.le_of_ble_eq_true rfl, Nat.le_of_ble_eq_true rfl⟩ hK hw hFx.self.1 hSx rfl rfl hl.1 rfl (Nat.le_of_ble_eq_true rfl) dL_law_599 rfl rfl ⟨Nat.le_of_ble_eq_true rfl, Nat.le_of_ble_eq_true rfl⟩ (fun r1 Lr1 σr1 H locs er1 hw => ?_)
  refine lv_aload_n hx hb dL_law_602 rfl (lv_at hl 1 rfl) ?_
  refine lv_aload_n hx hb dL_law_603 rfl (lv_at hl 3 rfl) ?_
  refine lv_iload_n hx hb dL_law_604 rfl (lv_at hl 0 rfl) ?_
  refine lv_iconst (v := 1) hx hb dL_law_605 (by decide) ?_
  refine lv_iadd hx hb dL_law_606 ?_
  refine lv_topi (fun v4 ev4 => ?_)
  have ev4 : v4 = 1 := by rw [ev4]; decide
  subst ev4
  refine va_sld hx hb hX hbl hbA hw.2.2.1 (by unfold vp_in; decide) dL_law_607 ?_
  refine lv_aload_n hx hb dL_law_608 rfl (lv_at hl 3 rfl) ?_
  refine lv_iload_n hx hb dL_law_609 rfl (lv_at hl 0 rfl) ?_
  refine lv_iconst (v := 2) hx hb dL_law_610 (by decide) ?_
  refine lv_iadd hx hb dL_law_611 ?_
  refine lv_topi (fun v5 ev5 => ?_)
  have ev5 : v5 = 2 := by rw [ev5]; decide
  subst ev5
  refine va_sld hx hb hX hbl hbA hw.2.2.1 (by unfold vp_in; decide) dL_law_612 ?_
  refine lv_aload_n hx hb dL_law_613 rfl (lv_at hl 3 rfl) ?_
  refine lv_iload_n hx hb dL_law_614 rfl (lv_at hl 0 rfl) ?_
  refine lv_iconst (v := 3) hx hb dL_law_615 (by decide) ?_
  refine lv_iadd hx hb dL_law_616 ?_
  refine lv_topi (fun v6 ev6 => ?_)
  have ev6 : v6 = 3 := by rw [ev6]; decide
  subst ev6
  refine va_sld hx hb hX hbl hbA hw.2.2.1 (by unfold vp_in; decide) dL_law_617 ?_
  have hw := kq_swap hw
  obtain ⟨fsm, hSm⟩ := hFm.self.2
  refine kq_callI (As := [.int (xs (Int32.toNatClampNeg 1)), .int (xs (Int32.toNatClampNeg 2)), .int (xs (Int32.toNatClampNeg 3))]) (rest := [.int r1]) (n := 3) (q := (RX8, TX8, 23)) (ci := 8) (mc := 0) (ms := 0) ⟨hx, hb, hml, hown, hts⟩ (f_X8_like l E Lm σm hFm (xs (Int32.toNatClampNeg 1)) (xs (Int32.toNatClampNeg 2)) (xs (Int32.toNatClampNeg 3))) gL_law_X8_like rfl (by decide +kernel) ⟨Nat.le_of_ble_eq_true rfl, Nat.le_of_ble_eq_true rfl⟩ hK hw hFm.self.1 hSm rfl rfl hl.1 rfl (Nat.le_of_ble_eq_true rfl) dL_law_618 rfl rfl ⟨Nat.le_of_ble_eq_true rfl, Nat.le_of_ble_eq_true rfl⟩ (fun r2 Lr2 σr2 H locs er2 hw => ?_)
  refine lv_icmp_eq (tgt := 1421) hx hb dL_law_621 (by decide) (fun ce => ?_) (fun ce => ?_)
  · exact lk_end C0 hw.2.2.1 hl (Nat.le_of_ble_eq_true rfl) (Nat.le_of_ble_eq_true rfl)
  · exact absurd (er1.trans er2.symm) ce
set_option maxHeartbeats 4000000 in
set_option maxRecDepth 100000 in
theorem lk_14 {p : Program} {l : Launch} {e : Env} {s : State} {m : MethodId} {below : List Frame} {meth : Method} {c : Code} {b : Nat} {xs : Nat → Int32} {E : kq_T} {H : Heap} {locs : List Loc} {ls : Array Slot} {x m_ : Nat} {Lx Lm : List Nat} {σx σm : Nat → va_E} (C0 : lw_At p s m meth c b 6 xs) (hK : kq_K E s) (hFx : fr_X E Lx σx x) (hFm : fr_M E Lm σm m_) (hw : kq_w E (fun q : Nat => s.heap.size ≤ q) s.heap (va_pl Lm σm) Lx σx H locs) (hl : lv_has ls 4 [(3, .int 0), (2, .ref m_), (1, .ref x), (0, .ref b)]) : W p l e room_1 s m #[Value.ref b] below meth c H locs 1000 10000 (lw_Z below #[Value.ref b] s) (F0 m 626 ls []) := by
  obtain ⟨hx, hb, hr, hml, hown, hts, hX, hbl, hlocks, hgv⟩ := id C0
  have hown : s.vm.findClass RL = some m.cls := hown
  have hb : c.code = cL_law := hb
  have hts := fun w h => hts w (wsL_law_in w h)
  have hbA : ¬ (fun q : Nat => s.heap.size ≤ q) b := Nat.not_le.mpr hbl
  refine lv_aload_n hx hb dL_law_626 rfl (lv_at hl 2 rfl) ?_
  refine lv_aload_n hx hb dL_law_627 rfl (lv_at hl 3 rfl) ?_
  refine lv_iload_n hx hb dL_law_628 rfl (lv_at hl 0 rfl) ?_
  refine lv_iconst (v := 1) hx hb dL_law_629 (by decide) ?_
  refine lv_iadd hx hb dL_law_630 ?_
  refine lv_topi (fun v1 ev1 => ?_)
  have ev1 : v1 = 1 := by rw [ev1]; decide
  subst ev1
  refine va_sld hx hb hX hbl hbA hw.2.2.1 (by unfold vp_in; decide) dL_law_631 ?_
  refine lv_aload_n hx hb dL_law_632 rfl (lv_at hl 3 rfl) ?_
  refine lv_iload_n hx hb dL_law_633 rfl (lv_at hl 0 rfl) ?_
  refine lv_iconst (v := 2) hx hb dL_law_634 (by decide) ?_
  refine lv_iadd hx hb dL_law_635 ?_
  refine lv_topi (fun v2 ev2 => ?_)
  have ev2 : v2 = 2 := by rw [ev2]; decide
  subst ev2
  refine va_sld hx hb hX hbl hbA hw.2.2.1 (by unfold vp_in; decide) dL_law_636 ?_
  obtain ⟨fsx, hSx⟩ := hFx.self.2
  refine kq_callI (As := [.int (xs (Int32.toNatClampNeg 1)), .int (xs (Int32.toNatClampNeg 2))]) (rest := []) (n := 2) (q := (RX7, TX7, 9)) (ci := 7) (mc := 0) (ms := 0) ⟨hx, hb, hml, hown, hts⟩ (f_X7_guard l E Lx σx hFx (xs (Int32.toNatClampNeg 1)) (xs (Int32.toNatClampNeg 2))) gL_law_X7_guard rfl (by decide +kernel) ⟨Nat.le_of_ble_eq_true rfl, Nat.le_of_ble_eq_true rfl⟩ hK hw hFx.self.1 hSx rfl rfl hl.1 rfl (Nat.le_of_ble_eq_true rfl) dL_law_637 rfl rfl ⟨Nat.le_of_ble_eq_true rfl, Nat.le_of_ble_eq_true rfl⟩ (fun r1 Lr1 σr1 H locs er1 hw => ?_)
  refine lv_aload_n hx hb dL_law_640 rfl (lv_at hl 1 rfl) ?_
  refine lv_aload_n hx hb dL_law_641 rfl (lv_at hl 3 rfl) ?_
  refine lv_iload_n hx hb dL_law_642 rfl (lv_at hl 0 rfl) ?_
  refine lv_iconst (v := 1) hx hb dL_law_643 (by decide) ?_
  refine lv_iadd hx hb dL_law_644 ?_
  refine lv_topi (fun v3 ev3 => ?_)
  have ev3 : v3 = 1 := by rw [ev3]; decide
  subst ev3
  refine va_sld hx hb hX hbl hbA hw.2.2.1 (by unfold vp_in; decide) dL_law_645 ?_
  refine lv_aload_n hx hb dL_law_646 rfl (lv_at hl 3 rfl) ?_
  refine lv_iload_n hx hb dL_law_647 rfl (lv_at hl 0 rfl) ?_
  refine lv_iconst (v := 2) hx hb dL_law_648 (by decide) ?_
  refine lv_iadd hx hb dL_law_649 ?_
  refine lv_topi (fun v4 ev4 => ?_)
  have ev4 : v4 = 2 := by rw [ev4]; decide
  subst ev4
  refine va_sld hx hb hX hbl hbA hw.2.2.1 (by unfold vp_in; decide) dL_law_650 ?_
  have hw := kq_swap hw
  obtain ⟨fsm, hSm⟩ := hFm.self.2
  refine kq_callI (As := [.int (xs (Int32.toNatClampNeg 1)), .int (xs (Int32.toNatClampNeg 2))]) (rest := [.int r1]) (n := 2) (q := (RX8, TX8, 23)) (ci := 8) (mc := 0) (ms := 0) ⟨hx, hb, hml, hown, hts⟩ (f_X8_guard l E Lm σm hFm (xs (Int32.toNatClampNeg 1)) (xs (Int32.toNatClampNeg 2))) gL_law_X8_guard rfl (by decide +kernel) ⟨Nat.le_of_ble_eq_true rfl, Nat.le_of_ble_eq_true rfl⟩ hK hw hFm.self.1 hSm rfl rfl hl.1 rfl (Nat.le_of_ble_eq_true rfl) dL_law_651 rfl rfl ⟨Nat.le_of_ble_eq_true rfl, Nat.le_of_ble_eq_true rfl⟩ (fun r2 Lr2 σr2 H locs er2 hw => ?_)
  refine lv_icmp_eq (tgt := 1421) hx hb dL_law_654 (by decide) (fun ce => ?_) (fun ce => ?_)
  · exact lk_end C0 hw.2.2.1 hl (Nat.le_of_ble_eq_true rfl) (Nat.le_of_ble_eq_true rfl)
  · exact absurd (er1.trans er2.symm) ce
set_option maxHeartbeats 4000000 in
set_option maxRecDepth 100000 in
theorem lk_15 {p : Program} {l : Launch} {e : Env} {s : State} {m : MethodId} {below : List Frame} {meth : Method} {c : Code} {b : Nat} {xs : Nat → Int32} {E : kq_T} {H : Heap} {locs : List Loc} {ls : Array Slot} {x m_ : Nat} {Lx Lm : List Nat} {σx σm : Nat → va_E} (C0 : lw_At p s m meth c b 6 xs) (hK : kq_K E s) (hFx : fr_X E Lx σx x) (hFm : fr_M E Lm σm m_) (hw : kq_w E (fun q : Nat => s.heap.size ≤ q) s.heap (va_pl Lm σm) Lx σx H locs) (hl : lv_has ls 4 [(3, .int 0), (2, .ref m_), (1, .ref x), (0, .ref b)]) : W p l e room_1 s m #[Value.ref b] below meth c H locs 1000 10000 (lw_Z below #[Value.ref b] s) (F0 m 659 ls []) := by
  obtain ⟨hx, hb, hr, hml, hown, hts, hX, hbl, hlocks, hgv⟩ := id C0
  have hown : s.vm.findClass RL = some m.cls := hown
  have hb : c.code = cL_law := hb
  have hts := fun w h => hts w (wsL_law_in w h)
  have hbA : ¬ (fun q : Nat => s.heap.size ≤ q) b := Nat.not_le.mpr hbl
  refine lv_aload_n hx hb dL_law_659 rfl (lv_at hl 2 rfl) ?_
  refine lv_aload_n hx hb dL_law_660 rfl (lv_at hl 3 rfl) ?_
  refine lv_iload_n hx hb dL_law_661 rfl (lv_at hl 0 rfl) ?_
  refine lv_iconst (v := 1) hx hb dL_law_662 (by decide) ?_
  refine lv_iadd hx hb dL_law_663 ?_
  refine lv_topi (fun v1 ev1 => ?_)
  have ev1 : v1 = 1 := by rw [ev1]; decide
  subst ev1
  refine va_sld hx hb hX hbl hbA hw.2.2.1 (by unfold vp_in; decide) dL_law_664 ?_
  refine lv_aload_n hx hb dL_law_665 rfl (lv_at hl 3 rfl) ?_
  refine lv_iload_n hx hb dL_law_666 rfl (lv_at hl 0 rfl) ?_
  refine lv_iconst (v := 2) hx hb dL_law_667 (by decide) ?_
  refine lv_iadd hx hb dL_law_668 ?_
  refine lv_topi (fun v2 ev2 => ?_)
  have ev2 : v2 = 2 := by rw [ev2]; decide
  subst ev2
  refine va_sld hx hb hX hbl hbA hw.2.2.1 (by unfold vp_in; decide) dL_law_669 ?_
  obtain ⟨fsx, hSx⟩ := hFx.self.2
  refine kq_callI (As := [.int (xs (Int32.toNatClampNeg 1)), .int (xs (Int32.toNatClampNeg 2))]) (rest := []) (n := 2) (q := (RX7, TX7, 9)) (ci := 7) (mc := 0) (ms := 0) ⟨hx, hb, hml, hown, hts⟩ (f_X7_tried l E Lx σx hFx (xs (Int32.toNatClampNeg 1)) (xs (Int32.toNatClampNeg 2))) gL_law_X7_tried rfl (by decide +kernel) ⟨Nat.le_of_ble_eq_true rfl, Nat.le_of_ble_eq_true rfl⟩ hK hw hFx.self.1 hSx rfl rfl hl.1 rfl (Nat.le_of_ble_eq_true rfl) dL_law_670 rfl rfl ⟨Nat.le_of_ble_eq_true rfl, Nat.le_of_ble_eq_true rfl⟩ (fun r1 Lr1 σr1 H locs er1 hw => ?_)
  refine lv_aload_n hx hb dL_law_673 rfl (lv_at hl 1 rfl) ?_
  refine lv_aload_n hx hb dL_law_674 rfl (lv_at hl 3 rfl) ?_
  refine lv_iload_n hx hb dL_law_675 rfl (lv_at hl 0 rfl) ?_
  refine lv_iconst (v := 1) hx hb dL_law_676 (by decide) ?_
  refine lv_iadd hx hb dL_law_677 ?_
  refine lv_topi (fun v3 ev3 => ?_)
  have ev3 : v3 = 1 := by rw [ev3]; decide
  subst ev3
  refine va_sld hx hb hX hbl hbA hw.2.2.1 (by unfold vp_in; decide) dL_law_678 ?_
  refine lv_aload_n hx hb dL_law_679 rfl (lv_at hl 3 rfl) ?_
  refine lv_iload_n hx hb dL_law_680 rfl (lv_at hl 0 rfl) ?_
  refine lv_iconst (v := 2) hx hb dL_law_681 (by decide) ?_
  refine lv_iadd hx hb dL_law_682 ?_
  refine lv_topi (fun v4 ev4 => ?_)
  have ev4 : v4 = 2 := by rw [ev4]; decide
  subst ev4
  refine va_sld hx hb hX hbl hbA hw.2.2.1 (by unfold vp_in; decide) dL_law_683 ?_
  have hw := kq_swap hw
  obtain ⟨fsm, hSm⟩ := hFm.self.2
  refine kq_callI (As := [.int (xs (Int32.toNatClampNeg 1)), .int (xs (Int32.toNatClampNeg 2))]) (rest := [.int r1]) (n := 2) (q := (RX8, TX8, 23)) (ci := 8) (mc := 0) (ms := 0) ⟨hx, hb, hml, hown, hts⟩ (f_X8_tried l E Lm σm hFm (xs (Int32.toNatClampNeg 1)) (xs (Int32.toNatClampNeg 2))) gL_law_X8_tried rfl (by decide +kernel) ⟨Nat.le_of_ble_eq_true rfl, Nat.le_of_ble_eq_true rfl⟩ hK hw hFm.self.1 hSm rfl rfl hl.1 rfl (Nat.le_of_ble_eq_true rfl) dL_law_684 rfl rfl ⟨Nat.le_of_ble_eq_true rfl, Nat.le_of_ble_eq_true rfl⟩ (fun r2 Lr2 σr2 H locs er2 hw => ?_)
  refine lv_icmp_eq (tgt := 1421) hx hb dL_law_687 (by decide) (fun ce => ?_) (fun ce => ?_)
  · exact lk_end C0 hw.2.2.1 hl (Nat.le_of_ble_eq_true rfl) (Nat.le_of_ble_eq_true rfl)
  · exact absurd (er1.trans er2.symm) ce
set_option maxHeartbeats 4000000 in
set_option maxRecDepth 100000 in
theorem lk_16 {p : Program} {l : Launch} {e : Env} {s : State} {m : MethodId} {below : List Frame} {meth : Method} {c : Code} {b : Nat} {xs : Nat → Int32} {E : kq_T} {H : Heap} {locs : List Loc} {ls : Array Slot} {x m_ : Nat} {Lx Lm : List Nat} {σx σm : Nat → va_E} (C0 : lw_At p s m meth c b 6 xs) (hK : kq_K E s) (hFx : fr_X E Lx σx x) (hFm : fr_M E Lm σm m_) (hw : kq_w E (fun q : Nat => s.heap.size ≤ q) s.heap (va_pl Lm σm) Lx σx H locs) (hl : lv_has ls 4 [(3, .int 0), (2, .ref m_), (1, .ref x), (0, .ref b)]) : W p l e room_1 s m #[Value.ref b] below meth c H locs 1000 10000 (lw_Z below #[Value.ref b] s) (F0 m 692 ls []) := by
  obtain ⟨hx, hb, hr, hml, hown, hts, hX, hbl, hlocks, hgv⟩ := id C0
  have hown : s.vm.findClass RL = some m.cls := hown
  have hb : c.code = cL_law := hb
  have hts := fun w h => hts w (wsL_law_in w h)
  have hbA : ¬ (fun q : Nat => s.heap.size ≤ q) b := Nat.not_le.mpr hbl
  refine lv_aload_n hx hb dL_law_692 rfl (lv_at hl 2 rfl) ?_
  refine lv_aload_n hx hb dL_law_693 rfl (lv_at hl 3 rfl) ?_
  refine lv_iload_n hx hb dL_law_694 rfl (lv_at hl 0 rfl) ?_
  refine lv_iconst (v := 1) hx hb dL_law_695 (by decide) ?_
  refine lv_iadd hx hb dL_law_696 ?_
  refine lv_topi (fun v1 ev1 => ?_)
  have ev1 : v1 = 1 := by rw [ev1]; decide
  subst ev1
  refine va_sld hx hb hX hbl hbA hw.2.2.1 (by unfold vp_in; decide) dL_law_697 ?_
  obtain ⟨fsx, hSx⟩ := hFx.self.2
  refine kq_callI (As := [.int (xs (Int32.toNatClampNeg 1))]) (rest := []) (n := 1) (q := (RX7, TX7, 9)) (ci := 7) (mc := 0) (ms := 0) ⟨hx, hb, hml, hown, hts⟩ (f_X7_secret l E Lx σx hFx (xs (Int32.toNatClampNeg 1))) gL_law_X7_secret rfl (by decide +kernel) ⟨Nat.le_of_ble_eq_true rfl, Nat.le_of_ble_eq_true rfl⟩ hK hw hFx.self.1 hSx rfl rfl hl.1 rfl (Nat.le_of_ble_eq_true rfl) dL_law_698 rfl rfl ⟨Nat.le_of_ble_eq_true rfl, Nat.le_of_ble_eq_true rfl⟩ (fun r1 Lr1 σr1 H locs er1 hw => ?_)
  refine lv_aload_n hx hb dL_law_701 rfl (lv_at hl 1 rfl) ?_
  refine lv_aload_n hx hb dL_law_702 rfl (lv_at hl 3 rfl) ?_
  refine lv_iload_n hx hb dL_law_703 rfl (lv_at hl 0 rfl) ?_
  refine lv_iconst (v := 1) hx hb dL_law_704 (by decide) ?_
  refine lv_iadd hx hb dL_law_705 ?_
  refine lv_topi (fun v2 ev2 => ?_)
  have ev2 : v2 = 1 := by rw [ev2]; decide
  subst ev2
  refine va_sld hx hb hX hbl hbA hw.2.2.1 (by unfold vp_in; decide) dL_law_706 ?_
  have hw := kq_swap hw
  obtain ⟨fsm, hSm⟩ := hFm.self.2
  refine kq_callI (As := [.int (xs (Int32.toNatClampNeg 1))]) (rest := [.int r1]) (n := 1) (q := (RX8, TX8, 23)) (ci := 8) (mc := 0) (ms := 0) ⟨hx, hb, hml, hown, hts⟩ (f_X8_secret l E Lm σm hFm (xs (Int32.toNatClampNeg 1))) gL_law_X8_secret rfl (by decide +kernel) ⟨Nat.le_of_ble_eq_true rfl, Nat.le_of_ble_eq_true rfl⟩ hK hw hFm.self.1 hSm rfl rfl hl.1 rfl (Nat.le_of_ble_eq_true rfl) dL_law_707 rfl rfl ⟨Nat.le_of_ble_eq_true rfl, Nat.le_of_ble_eq_true rfl⟩ (fun r2 Lr2 σr2 H locs er2 hw => ?_)
  refine lv_icmp_eq (tgt := 1421) hx hb dL_law_710 (by decide) (fun ce => ?_) (fun ce => ?_)
  · exact lk_end C0 hw.2.2.1 hl (Nat.le_of_ble_eq_true rfl) (Nat.le_of_ble_eq_true rfl)
  · exact absurd (er1.trans er2.symm) ce
set_option maxHeartbeats 4000000 in
set_option maxRecDepth 100000 in
theorem lk_17 {p : Program} {l : Launch} {e : Env} {s : State} {m : MethodId} {below : List Frame} {meth : Method} {c : Code} {b : Nat} {xs : Nat → Int32} {E : kq_T} {H : Heap} {locs : List Loc} {ls : Array Slot} {x m_ : Nat} {Lx Lm : List Nat} {σx σm : Nat → va_E} (C0 : lw_At p s m meth c b 6 xs) (hK : kq_K E s) (hFx : fr_X E Lx σx x) (hFm : fr_M E Lm σm m_) (hw : kq_w E (fun q : Nat => s.heap.size ≤ q) s.heap (va_pl Lm σm) Lx σx H locs) (hl : lv_has ls 4 [(3, .int 0), (2, .ref m_), (1, .ref x), (0, .ref b)]) : W p l e room_1 s m #[Value.ref b] below meth c H locs 1000 10000 (lw_Z below #[Value.ref b] s) (F0 m 715 ls []) := by
  obtain ⟨hx, hb, hr, hml, hown, hts, hX, hbl, hlocks, hgv⟩ := id C0
  have hown : s.vm.findClass RL = some m.cls := hown
  have hb : c.code = cL_law := hb
  have hts := fun w h => hts w (wsL_law_in w h)
  have hbA : ¬ (fun q : Nat => s.heap.size ≤ q) b := Nat.not_le.mpr hbl
  refine lv_aload_n hx hb dL_law_715 rfl (lv_at hl 2 rfl) ?_
  refine lv_aload_n hx hb dL_law_716 rfl (lv_at hl 3 rfl) ?_
  refine lv_iload_n hx hb dL_law_717 rfl (lv_at hl 0 rfl) ?_
  refine lv_iconst (v := 1) hx hb dL_law_718 (by decide) ?_
  refine lv_iadd hx hb dL_law_719 ?_
  refine lv_topi (fun v1 ev1 => ?_)
  have ev1 : v1 = 1 := by rw [ev1]; decide
  subst ev1
  refine va_sld hx hb hX hbl hbA hw.2.2.1 (by unfold vp_in; decide) dL_law_720 ?_
  refine lv_aload_n hx hb dL_law_721 rfl (lv_at hl 3 rfl) ?_
  refine lv_iload_n hx hb dL_law_722 rfl (lv_at hl 0 rfl) ?_
  refine lv_iconst (v := 2) hx hb dL_law_723 (by decide) ?_
  refine lv_iadd hx hb dL_law_724 ?_
  refine lv_topi (fun v2 ev2 => ?_)
  have ev2 : v2 = 2 := by rw [ev2]; decide
  subst ev2
  refine va_sld hx hb hX hbl hbA hw.2.2.1 (by unfold vp_in; decide) dL_law_725 ?_
  refine lv_aload_n hx hb dL_law_726 rfl (lv_at hl 3 rfl) ?_
  refine lv_iload_n hx hb dL_law_727 rfl (lv_at hl 0 rfl) ?_
  refine lv_iconst (v := 3) hx hb dL_law_728 (by decide) ?_
  refine lv_iadd hx hb dL_law_729 ?_
  refine lv_topi (fun v3 ev3 => ?_)
  have ev3 : v3 = 3 := by rw [ev3]; decide
  subst ev3
  refine va_sld hx hb hX hbl hbA hw.2.2.1 (by unfold vp_in; decide) dL_law_730 ?_
  obtain ⟨fsx, hSx⟩ := hFx.self.2
  refine kq_callI (As := [.int (xs (Int32.toNatClampNeg 1)), .int (xs (Int32.toNatClampNeg 2)), .int (xs (Int32.toNatClampNeg 3))]) (rest := []) (n := 3) (q := (RX7, TX7, 9)) (ci := 7) (mc := 0) (ms := 0) ⟨hx, hb, hml, hown, hts⟩ (f_X7_taken l E Lx σx hFx (xs (Int32.toNatClampNeg 1)) (xs (Int32.toNatClampNeg 2)) (xs (Int32.toNatClampNeg 3))) gL_law_X7_taken rfl (by decide +kernel) ⟨Nat.le_of_ble_eq_true rfl, Nat.le_of_ble_eq_true rfl⟩ hK hw hFx.self.1 hSx rfl rfl hl.1 rfl (Nat.le_of_ble_eq_true rfl) dL_law_731 rfl rfl ⟨Nat.le_of_ble_eq_true rfl, Nat.le_of_ble_eq_true rfl⟩ (fun r1 Lr1 σr1 H locs er1 hw => ?_)
  refine lv_aload_n hx hb dL_law_734 rfl (lv_at hl 1 rfl) ?_
  refine lv_aload_n hx hb dL_law_735 rfl (lv_at hl 3 rfl) ?_
  refine lv_iload_n hx hb dL_law_736 rfl (lv_at hl 0 rfl) ?_
  refine lv_iconst (v := 1) hx hb dL_law_737 (by decide) ?_
  refine lv_iadd hx hb dL_law_738 ?_
  refine lv_topi (fun v4 ev4 => ?_)
  have ev4 : v4 = 1 := by rw [ev4]; decide
  subst ev4
  refine va_sld hx hb hX hbl hbA hw.2.2.1 (by unfold vp_in; decide) dL_law_739 ?_
  refine lv_aload_n hx hb dL_law_740 rfl (lv_at hl 3 rfl) ?_
  refine lv_iload_n hx hb dL_law_741 rfl (lv_at hl 0 rfl) ?_
  refine lv_iconst (v := 2) hx hb dL_law_742 (by decide) ?_
  refine lv_iadd hx hb dL_law_743 ?_
  refine lv_topi (fun v5 ev5 => ?_)
  have ev5 : v5 = 2 := by rw [ev5]; decide
  subst ev5
  refine va_sld hx hb hX hbl hbA hw.2.2.1 (by unfold vp_in; decide) dL_law_744 ?_
  refine lv_aload_n hx hb dL_law_745 rfl (lv_at hl 3 rfl) ?_
  refine lv_iload_n hx hb dL_law_746 rfl (lv_at hl 0 rfl) ?_
  refine lv_iconst (v := 3) hx hb dL_law_747 (by decide) ?_
  refine lv_iadd hx hb dL_law_748 ?_
  refine lv_topi (fun v6 ev6 => ?_)
  have ev6 : v6 = 3 := by rw [ev6]; decide
  subst ev6
  refine va_sld hx hb hX hbl hbA hw.2.2.1 (by unfold vp_in; decide) dL_law_749 ?_
  have hw := kq_swap hw
  obtain ⟨fsm, hSm⟩ := hFm.self.2
  refine kq_callI (As := [.int (xs (Int32.toNatClampNeg 1)), .int (xs (Int32.toNatClampNeg 2)), .int (xs (Int32.toNatClampNeg 3))]) (rest := [.int r1]) (n := 3) (q := (RX8, TX8, 23)) (ci := 8) (mc := 0) (ms := 0) ⟨hx, hb, hml, hown, hts⟩ (f_X8_taken l E Lm σm hFm (xs (Int32.toNatClampNeg 1)) (xs (Int32.toNatClampNeg 2)) (xs (Int32.toNatClampNeg 3))) gL_law_X8_taken rfl (by decide +kernel) ⟨Nat.le_of_ble_eq_true rfl, Nat.le_of_ble_eq_true rfl⟩ hK hw hFm.self.1 hSm rfl rfl hl.1 rfl (Nat.le_of_ble_eq_true rfl) dL_law_750 rfl rfl ⟨Nat.le_of_ble_eq_true rfl, Nat.le_of_ble_eq_true rfl⟩ (fun r2 Lr2 σr2 H locs er2 hw => ?_)
  refine lv_icmp_eq (tgt := 1421) hx hb dL_law_753 (by decide) (fun ce => ?_) (fun ce => ?_)
  · exact lk_end C0 hw.2.2.1 hl (Nat.le_of_ble_eq_true rfl) (Nat.le_of_ble_eq_true rfl)
  · exact absurd (er1.trans er2.symm) ce
set_option maxHeartbeats 4000000 in
set_option maxRecDepth 100000 in
theorem lk_18 {p : Program} {l : Launch} {e : Env} {s : State} {m : MethodId} {below : List Frame} {meth : Method} {c : Code} {b : Nat} {xs : Nat → Int32} {E : kq_T} {H : Heap} {locs : List Loc} {ls : Array Slot} {x m_ : Nat} {Lx Lm : List Nat} {σx σm : Nat → va_E} (C0 : lw_At p s m meth c b 6 xs) (hK : kq_K E s) (hFx : fr_X E Lx σx x) (hFm : fr_M E Lm σm m_) (hw : kq_w E (fun q : Nat => s.heap.size ≤ q) s.heap (va_pl Lm σm) Lx σx H locs) (hl : lv_has ls 4 [(3, .int 0), (2, .ref m_), (1, .ref x), (0, .ref b)]) : W p l e room_1 s m #[Value.ref b] below meth c H locs 1000 10000 (lw_Z below #[Value.ref b] s) (F0 m 758 ls []) := by
  obtain ⟨hx, hb, hr, hml, hown, hts, hX, hbl, hlocks, hgv⟩ := id C0
  have hown : s.vm.findClass RL = some m.cls := hown
  have hb : c.code = cL_law := hb
  have hts := fun w h => hts w (wsL_law_in w h)
  have hbA : ¬ (fun q : Nat => s.heap.size ≤ q) b := Nat.not_le.mpr hbl
  refine lv_aload_n hx hb dL_law_758 rfl (lv_at hl 2 rfl) ?_
  refine lv_aload_n hx hb dL_law_759 rfl (lv_at hl 3 rfl) ?_
  refine lv_iload_n hx hb dL_law_760 rfl (lv_at hl 0 rfl) ?_
  refine lv_iconst (v := 1) hx hb dL_law_761 (by decide) ?_
  refine lv_iadd hx hb dL_law_762 ?_
  refine lv_topi (fun v1 ev1 => ?_)
  have ev1 : v1 = 1 := by rw [ev1]; decide
  subst ev1
  refine va_sld hx hb hX hbl hbA hw.2.2.1 (by unfold vp_in; decide) dL_law_763 ?_
  refine lv_aload_n hx hb dL_law_764 rfl (lv_at hl 3 rfl) ?_
  refine lv_iload_n hx hb dL_law_765 rfl (lv_at hl 0 rfl) ?_
  refine lv_iconst (v := 2) hx hb dL_law_766 (by decide) ?_
  refine lv_iadd hx hb dL_law_767 ?_
  refine lv_topi (fun v2 ev2 => ?_)
  have ev2 : v2 = 2 := by rw [ev2]; decide
  subst ev2
  refine va_sld hx hb hX hbl hbA hw.2.2.1 (by unfold vp_in; decide) dL_law_768 ?_
  obtain ⟨fsx, hSx⟩ := hFx.self.2
  refine kq_callI (As := [.int (xs (Int32.toNatClampNeg 1)), .int (xs (Int32.toNatClampNeg 2))]) (rest := []) (n := 2) (q := (RX7, TX7, 9)) (ci := 7) (mc := 0) (ms := 0) ⟨hx, hb, hml, hown, hts⟩ (f_X7_safe l E Lx σx hFx (xs (Int32.toNatClampNeg 1)) (xs (Int32.toNatClampNeg 2))) gL_law_X7_safe rfl (by decide +kernel) ⟨Nat.le_of_ble_eq_true rfl, Nat.le_of_ble_eq_true rfl⟩ hK hw hFx.self.1 hSx rfl rfl hl.1 rfl (Nat.le_of_ble_eq_true rfl) dL_law_769 rfl rfl ⟨Nat.le_of_ble_eq_true rfl, Nat.le_of_ble_eq_true rfl⟩ (fun r1 Lr1 σr1 H locs er1 hw => ?_)
  refine lv_aload_n hx hb dL_law_772 rfl (lv_at hl 1 rfl) ?_
  refine lv_aload_n hx hb dL_law_773 rfl (lv_at hl 3 rfl) ?_
  refine lv_iload_n hx hb dL_law_774 rfl (lv_at hl 0 rfl) ?_
  refine lv_iconst (v := 1) hx hb dL_law_775 (by decide) ?_
  refine lv_iadd hx hb dL_law_776 ?_
  refine lv_topi (fun v3 ev3 => ?_)
  have ev3 : v3 = 1 := by rw [ev3]; decide
  subst ev3
  refine va_sld hx hb hX hbl hbA hw.2.2.1 (by unfold vp_in; decide) dL_law_777 ?_
  refine lv_aload_n hx hb dL_law_778 rfl (lv_at hl 3 rfl) ?_
  refine lv_iload_n hx hb dL_law_779 rfl (lv_at hl 0 rfl) ?_
  refine lv_iconst (v := 2) hx hb dL_law_780 (by decide) ?_
  refine lv_iadd hx hb dL_law_781 ?_
  refine lv_topi (fun v4 ev4 => ?_)
  have ev4 : v4 = 2 := by rw [ev4]; decide
  subst ev4
  refine va_sld hx hb hX hbl hbA hw.2.2.1 (by unfold vp_in; decide) dL_law_782 ?_
  have hw := kq_swap hw
  obtain ⟨fsm, hSm⟩ := hFm.self.2
  refine kq_callI (As := [.int (xs (Int32.toNatClampNeg 1)), .int (xs (Int32.toNatClampNeg 2))]) (rest := [.int r1]) (n := 2) (q := (RX8, TX8, 23)) (ci := 8) (mc := 0) (ms := 0) ⟨hx, hb, hml, hown, hts⟩ (f_X8_safe l E Lm σm hFm (xs (Int32.toNatClampNeg 1)) (xs (Int32.toNatClampNeg 2))) gL_law_X8_safe rfl (by decide +kernel) ⟨Nat.le_of_ble_eq_true rfl, Nat.le_of_ble_eq_true rfl⟩ hK hw hFm.self.1 hSm rfl rfl hl.1 rfl (Nat.le_of_ble_eq_true rfl) dL_law_783 rfl rfl ⟨Nat.le_of_ble_eq_true rfl, Nat.le_of_ble_eq_true rfl⟩ (fun r2 Lr2 σr2 H locs er2 hw => ?_)
  refine lv_icmp_eq (tgt := 1421) hx hb dL_law_786 (by decide) (fun ce => ?_) (fun ce => ?_)
  · exact lk_end C0 hw.2.2.1 hl (Nat.le_of_ble_eq_true rfl) (Nat.le_of_ble_eq_true rfl)
  · exact absurd (er1.trans er2.symm) ce
set_option maxHeartbeats 4000000 in
set_option maxRecDepth 100000 in
theorem lk_19 {p : Program} {l : Launch} {e : Env} {s : State} {m : MethodId} {below : List Frame} {meth : Method} {c : Code} {b : Nat} {xs : Nat → Int32} {E : kq_T} {H : Heap} {locs : List Loc} {ls : Array Slot} {x m_ : Nat} {Lx Lm : List Nat} {σx σm : Nat → va_E} (C0 : lw_At p s m meth c b 6 xs) (hK : kq_K E s) (hFx : fr_X E Lx σx x) (hFm : fr_M E Lm σm m_) (hw : kq_w E (fun q : Nat => s.heap.size ≤ q) s.heap (va_pl Lm σm) Lx σx H locs) (hl : lv_has ls 4 [(3, .int 0), (2, .ref m_), (1, .ref x), (0, .ref b)]) : W p l e room_1 s m #[Value.ref b] below meth c H locs 1000 10000 (lw_Z below #[Value.ref b] s) (F0 m 791 ls []) := by
  obtain ⟨hx, hb, hr, hml, hown, hts, hX, hbl, hlocks, hgv⟩ := id C0
  have hown : s.vm.findClass RL = some m.cls := hown
  have hb : c.code = cL_law := hb
  have hts := fun w h => hts w (wsL_law_in w h)
  have hbA : ¬ (fun q : Nat => s.heap.size ≤ q) b := Nat.not_le.mpr hbl
  refine lv_aload_n hx hb dL_law_791 rfl (lv_at hl 2 rfl) ?_
  refine lv_aload_n hx hb dL_law_792 rfl (lv_at hl 3 rfl) ?_
  refine lv_iload_n hx hb dL_law_793 rfl (lv_at hl 0 rfl) ?_
  refine lv_iconst (v := 1) hx hb dL_law_794 (by decide) ?_
  refine lv_iadd hx hb dL_law_795 ?_
  refine lv_topi (fun v1 ev1 => ?_)
  have ev1 : v1 = 1 := by rw [ev1]; decide
  subst ev1
  refine va_sld hx hb hX hbl hbA hw.2.2.1 (by unfold vp_in; decide) dL_law_796 ?_
  refine lv_aload_n hx hb dL_law_797 rfl (lv_at hl 3 rfl) ?_
  refine lv_iload_n hx hb dL_law_798 rfl (lv_at hl 0 rfl) ?_
  refine lv_iconst (v := 2) hx hb dL_law_799 (by decide) ?_
  refine lv_iadd hx hb dL_law_800 ?_
  refine lv_topi (fun v2 ev2 => ?_)
  have ev2 : v2 = 2 := by rw [ev2]; decide
  subst ev2
  refine va_sld hx hb hX hbl hbA hw.2.2.1 (by unfold vp_in; decide) dL_law_801 ?_
  obtain ⟨fsx, hSx⟩ := hFx.self.2
  refine kq_callI (As := [.int (xs (Int32.toNatClampNeg 1)), .int (xs (Int32.toNatClampNeg 2))]) (rest := []) (n := 2) (q := (RX7, TX7, 9)) (ci := 7) (mc := 0) (ms := 0) ⟨hx, hb, hml, hown, hts⟩ (f_X7_open l E Lx σx hFx (xs (Int32.toNatClampNeg 1)) (xs (Int32.toNatClampNeg 2))) gL_law_X7_open rfl (by decide +kernel) ⟨Nat.le_of_ble_eq_true rfl, Nat.le_of_ble_eq_true rfl⟩ hK hw hFx.self.1 hSx rfl rfl hl.1 rfl (Nat.le_of_ble_eq_true rfl) dL_law_802 rfl rfl ⟨Nat.le_of_ble_eq_true rfl, Nat.le_of_ble_eq_true rfl⟩ (fun r1 Lr1 σr1 H locs er1 hw => ?_)
  refine lv_aload_n hx hb dL_law_805 rfl (lv_at hl 1 rfl) ?_
  refine lv_aload_n hx hb dL_law_806 rfl (lv_at hl 3 rfl) ?_
  refine lv_iload_n hx hb dL_law_807 rfl (lv_at hl 0 rfl) ?_
  refine lv_iconst (v := 1) hx hb dL_law_808 (by decide) ?_
  refine lv_iadd hx hb dL_law_809 ?_
  refine lv_topi (fun v3 ev3 => ?_)
  have ev3 : v3 = 1 := by rw [ev3]; decide
  subst ev3
  refine va_sld hx hb hX hbl hbA hw.2.2.1 (by unfold vp_in; decide) dL_law_810 ?_
  refine lv_aload_n hx hb dL_law_811 rfl (lv_at hl 3 rfl) ?_
  refine lv_iload_n hx hb dL_law_812 rfl (lv_at hl 0 rfl) ?_
  refine lv_iconst (v := 2) hx hb dL_law_813 (by decide) ?_
  refine lv_iadd hx hb dL_law_814 ?_
  refine lv_topi (fun v4 ev4 => ?_)
  have ev4 : v4 = 2 := by rw [ev4]; decide
  subst ev4
  refine va_sld hx hb hX hbl hbA hw.2.2.1 (by unfold vp_in; decide) dL_law_815 ?_
  have hw := kq_swap hw
  obtain ⟨fsm, hSm⟩ := hFm.self.2
  refine kq_callI (As := [.int (xs (Int32.toNatClampNeg 1)), .int (xs (Int32.toNatClampNeg 2))]) (rest := [.int r1]) (n := 2) (q := (RX8, TX8, 23)) (ci := 8) (mc := 0) (ms := 0) ⟨hx, hb, hml, hown, hts⟩ (f_X8_open l E Lm σm hFm (xs (Int32.toNatClampNeg 1)) (xs (Int32.toNatClampNeg 2))) gL_law_X8_open rfl (by decide +kernel) ⟨Nat.le_of_ble_eq_true rfl, Nat.le_of_ble_eq_true rfl⟩ hK hw hFm.self.1 hSm rfl rfl hl.1 rfl (Nat.le_of_ble_eq_true rfl) dL_law_816 rfl rfl ⟨Nat.le_of_ble_eq_true rfl, Nat.le_of_ble_eq_true rfl⟩ (fun r2 Lr2 σr2 H locs er2 hw => ?_)
  refine lv_icmp_eq (tgt := 1421) hx hb dL_law_819 (by decide) (fun ce => ?_) (fun ce => ?_)
  · exact lk_end C0 hw.2.2.1 hl (Nat.le_of_ble_eq_true rfl) (Nat.le_of_ble_eq_true rfl)
  · exact absurd (er1.trans er2.symm) ce
set_option maxHeartbeats 4000000 in
set_option maxRecDepth 100000 in
theorem lk_20 {p : Program} {l : Launch} {e : Env} {s : State} {m : MethodId} {below : List Frame} {meth : Method} {c : Code} {b : Nat} {xs : Nat → Int32} {E : kq_T} {H : Heap} {locs : List Loc} {ls : Array Slot} {x m_ : Nat} {Lx Lm : List Nat} {σx σm : Nat → va_E} (C0 : lw_At p s m meth c b 6 xs) (hK : kq_K E s) (hFx : fr_X E Lx σx x) (hFm : fr_M E Lm σm m_) (hw : kq_w E (fun q : Nat => s.heap.size ≤ q) s.heap (va_pl Lm σm) Lx σx H locs) (hl : lv_has ls 4 [(3, .int 0), (2, .ref m_), (1, .ref x), (0, .ref b)]) : W p l e room_1 s m #[Value.ref b] below meth c H locs 1000 10000 (lw_Z below #[Value.ref b] s) (F0 m 824 ls []) := by
  obtain ⟨hx, hb, hr, hml, hown, hts, hX, hbl, hlocks, hgv⟩ := id C0
  have hown : s.vm.findClass RL = some m.cls := hown
  have hb : c.code = cL_law := hb
  have hts := fun w h => hts w (wsL_law_in w h)
  have hbA : ¬ (fun q : Nat => s.heap.size ≤ q) b := Nat.not_le.mpr hbl
  refine lv_aload_n hx hb dL_law_824 rfl (lv_at hl 2 rfl) ?_
  refine lv_aload_n hx hb dL_law_825 rfl (lv_at hl 3 rfl) ?_
  refine lv_iload_n hx hb dL_law_826 rfl (lv_at hl 0 rfl) ?_
  refine lv_iconst (v := 1) hx hb dL_law_827 (by decide) ?_
  refine lv_iadd hx hb dL_law_828 ?_
  refine lv_topi (fun v1 ev1 => ?_)
  have ev1 : v1 = 1 := by rw [ev1]; decide
  subst ev1
  refine va_sld hx hb hX hbl hbA hw.2.2.1 (by unfold vp_in; decide) dL_law_829 ?_
  obtain ⟨fsx, hSx⟩ := hFx.self.2
  refine kq_callI (As := [.int (xs (Int32.toNatClampNeg 1))]) (rest := []) (n := 1) (q := (RX7, TX7, 9)) (ci := 7) (mc := 0) (ms := 0) ⟨hx, hb, hml, hown, hts⟩ (f_X7_next l E Lx σx hFx (xs (Int32.toNatClampNeg 1))) gL_law_X7_next rfl (by decide +kernel) ⟨Nat.le_of_ble_eq_true rfl, Nat.le_of_ble_eq_true rfl⟩ hK hw hFx.self.1 hSx rfl rfl hl.1 rfl (Nat.le_of_ble_eq_true rfl) dL_law_830 rfl rfl ⟨Nat.le_of_ble_eq_true rfl, Nat.le_of_ble_eq_true rfl⟩ (fun r1 Lr1 σr1 H locs er1 hw => ?_)
  refine lv_aload_n hx hb dL_law_833 rfl (lv_at hl 1 rfl) ?_
  refine lv_aload_n hx hb dL_law_834 rfl (lv_at hl 3 rfl) ?_
  refine lv_iload_n hx hb dL_law_835 rfl (lv_at hl 0 rfl) ?_
  refine lv_iconst (v := 1) hx hb dL_law_836 (by decide) ?_
  refine lv_iadd hx hb dL_law_837 ?_
  refine lv_topi (fun v2 ev2 => ?_)
  have ev2 : v2 = 1 := by rw [ev2]; decide
  subst ev2
  refine va_sld hx hb hX hbl hbA hw.2.2.1 (by unfold vp_in; decide) dL_law_838 ?_
  have hw := kq_swap hw
  obtain ⟨fsm, hSm⟩ := hFm.self.2
  refine kq_callI (As := [.int (xs (Int32.toNatClampNeg 1))]) (rest := [.int r1]) (n := 1) (q := (RX8, TX8, 23)) (ci := 8) (mc := 0) (ms := 0) ⟨hx, hb, hml, hown, hts⟩ (f_X8_next l E Lm σm hFm (xs (Int32.toNatClampNeg 1))) gL_law_X8_next rfl (by decide +kernel) ⟨Nat.le_of_ble_eq_true rfl, Nat.le_of_ble_eq_true rfl⟩ hK hw hFm.self.1 hSm rfl rfl hl.1 rfl (Nat.le_of_ble_eq_true rfl) dL_law_839 rfl rfl ⟨Nat.le_of_ble_eq_true rfl, Nat.le_of_ble_eq_true rfl⟩ (fun r2 Lr2 σr2 H locs er2 hw => ?_)
  refine lv_icmp_eq (tgt := 1421) hx hb dL_law_842 (by decide) (fun ce => ?_) (fun ce => ?_)
  · exact lk_end C0 hw.2.2.1 hl (Nat.le_of_ble_eq_true rfl) (Nat.le_of_ble_eq_true rfl)
  · exact absurd (er1.trans er2.symm) ce
set_option maxHeartbeats 4000000 in
set_option maxRecDepth 100000 in
theorem lk_21 {p : Program} {l : Launch} {e : Env} {s : State} {m : MethodId} {below : List Frame} {meth : Method} {c : Code} {b : Nat} {xs : Nat → Int32} {E : kq_T} {H : Heap} {locs : List Loc} {ls : Array Slot} {x m_ : Nat} {Lx Lm : List Nat} {σx σm : Nat → va_E} (C0 : lw_At p s m meth c b 6 xs) (hK : kq_K E s) (hFx : fr_X E Lx σx x) (hFm : fr_M E Lm σm m_) (hw : kq_w E (fun q : Nat => s.heap.size ≤ q) s.heap (va_pl Lm σm) Lx σx H locs) (hl : lv_has ls 4 [(3, .int 0), (2, .ref m_), (1, .ref x), (0, .ref b)]) : W p l e room_1 s m #[Value.ref b] below meth c H locs 1000 10000 (lw_Z below #[Value.ref b] s) (F0 m 847 ls []) := by
  obtain ⟨hx, hb, hr, hml, hown, hts, hX, hbl, hlocks, hgv⟩ := id C0
  have hown : s.vm.findClass RL = some m.cls := hown
  have hb : c.code = cL_law := hb
  have hts := fun w h => hts w (wsL_law_in w h)
  have hbA : ¬ (fun q : Nat => s.heap.size ≤ q) b := Nat.not_le.mpr hbl
  refine lv_aload_n hx hb dL_law_847 rfl (lv_at hl 2 rfl) ?_
  obtain ⟨fsx, hSx⟩ := hFx.self.2
  refine kq_callI (As := []) (rest := []) (n := 0) (q := (RX7, TX7, 9)) (ci := 7) (mc := 0) (ms := 0) ⟨hx, hb, hml, hown, hts⟩ (f_X7_agree l E Lx σx hFx) gL_law_X7_agree rfl (by decide +kernel) ⟨Nat.le_of_ble_eq_true rfl, Nat.le_of_ble_eq_true rfl⟩ hK hw hFx.self.1 hSx rfl rfl hl.1 rfl (Nat.le_of_ble_eq_true rfl) dL_law_848 rfl rfl ⟨Nat.le_of_ble_eq_true rfl, Nat.le_of_ble_eq_true rfl⟩ (fun r1 Lr1 σr1 H locs er1 hw => ?_)
  refine lv_aload_n hx hb dL_law_851 rfl (lv_at hl 1 rfl) ?_
  have hw := kq_swap hw
  obtain ⟨fsm, hSm⟩ := hFm.self.2
  refine kq_callI (As := []) (rest := [.int r1]) (n := 0) (q := (RX8, TX8, 23)) (ci := 8) (mc := 0) (ms := 0) ⟨hx, hb, hml, hown, hts⟩ (f_X8_agree l E Lm σm hFm) gL_law_X8_agree rfl (by decide +kernel) ⟨Nat.le_of_ble_eq_true rfl, Nat.le_of_ble_eq_true rfl⟩ hK hw hFm.self.1 hSm rfl rfl hl.1 rfl (Nat.le_of_ble_eq_true rfl) dL_law_852 rfl rfl ⟨Nat.le_of_ble_eq_true rfl, Nat.le_of_ble_eq_true rfl⟩ (fun r2 Lr2 σr2 H locs er2 hw => ?_)
  refine lv_icmp_eq (tgt := 1421) hx hb dL_law_855 (by decide) (fun ce => ?_) (fun ce => ?_)
  · exact lk_end C0 hw.2.2.1 hl (Nat.le_of_ble_eq_true rfl) (Nat.le_of_ble_eq_true rfl)
  · exact absurd (er1.trans er2.symm) ce
set_option maxHeartbeats 4000000 in
set_option maxRecDepth 100000 in
theorem lk_22 {p : Program} {l : Launch} {e : Env} {s : State} {m : MethodId} {below : List Frame} {meth : Method} {c : Code} {b : Nat} {xs : Nat → Int32} {E : kq_T} {H : Heap} {locs : List Loc} {ls : Array Slot} {x m_ : Nat} {Lx Lm : List Nat} {σx σm : Nat → va_E} (C0 : lw_At p s m meth c b 6 xs) (hK : kq_K E s) (hFx : fr_X E Lx σx x) (hFm : fr_M E Lm σm m_) (hw : kq_w E (fun q : Nat => s.heap.size ≤ q) s.heap (va_pl Lm σm) Lx σx H locs) (hl : lv_has ls 4 [(3, .int 0), (2, .ref m_), (1, .ref x), (0, .ref b)]) : W p l e room_1 s m #[Value.ref b] below meth c H locs 1000 10000 (lw_Z below #[Value.ref b] s) (F0 m 860 ls []) := by
  obtain ⟨hx, hb, hr, hml, hown, hts, hX, hbl, hlocks, hgv⟩ := id C0
  have hown : s.vm.findClass RL = some m.cls := hown
  have hb : c.code = cL_law := hb
  have hts := fun w h => hts w (wsL_law_in w h)
  have hbA : ¬ (fun q : Nat => s.heap.size ≤ q) b := Nat.not_le.mpr hbl
  refine lv_aload_n hx hb dL_law_860 rfl (lv_at hl 2 rfl) ?_
  refine lv_aload_n hx hb dL_law_861 rfl (lv_at hl 3 rfl) ?_
  refine lv_iload_n hx hb dL_law_862 rfl (lv_at hl 0 rfl) ?_
  refine lv_iconst (v := 1) hx hb dL_law_863 (by decide) ?_
  refine lv_iadd hx hb dL_law_864 ?_
  refine lv_topi (fun v1 ev1 => ?_)
  have ev1 : v1 = 1 := by rw [ev1]; decide
  subst ev1
  refine va_sld hx hb hX hbl hbA hw.2.2.1 (by unfold vp_in; decide) dL_law_865 ?_
  obtain ⟨fsx, hSx⟩ := hFx.self.2
  refine kq_callI (As := [.int (xs (Int32.toNatClampNeg 1))]) (rest := []) (n := 1) (q := (RX7, TX7, 9)) (ci := 7) (mc := 0) (ms := 0) ⟨hx, hb, hml, hown, hts⟩ (f_X7_man l E Lx σx hFx (xs (Int32.toNatClampNeg 1))) gL_law_X7_man rfl (by decide +kernel) ⟨Nat.le_of_ble_eq_true rfl, Nat.le_of_ble_eq_true rfl⟩ hK hw hFx.self.1 hSx rfl rfl hl.1 rfl (Nat.le_of_ble_eq_true rfl) dL_law_866 rfl rfl ⟨Nat.le_of_ble_eq_true rfl, Nat.le_of_ble_eq_true rfl⟩ (fun r1 Lr1 σr1 H locs er1 hw => ?_)
  refine lv_aload_n hx hb dL_law_869 rfl (lv_at hl 1 rfl) ?_
  refine lv_aload_n hx hb dL_law_870 rfl (lv_at hl 3 rfl) ?_
  refine lv_iload_n hx hb dL_law_871 rfl (lv_at hl 0 rfl) ?_
  refine lv_iconst (v := 1) hx hb dL_law_872 (by decide) ?_
  refine lv_iadd hx hb dL_law_873 ?_
  refine lv_topi (fun v2 ev2 => ?_)
  have ev2 : v2 = 1 := by rw [ev2]; decide
  subst ev2
  refine va_sld hx hb hX hbl hbA hw.2.2.1 (by unfold vp_in; decide) dL_law_874 ?_
  have hw := kq_swap hw
  obtain ⟨fsm, hSm⟩ := hFm.self.2
  refine kq_callI (As := [.int (xs (Int32.toNatClampNeg 1))]) (rest := [.int r1]) (n := 1) (q := (RX8, TX8, 23)) (ci := 8) (mc := 0) (ms := 0) ⟨hx, hb, hml, hown, hts⟩ (f_X8_man l E Lm σm hFm (xs (Int32.toNatClampNeg 1))) gL_law_X8_man rfl (by decide +kernel) ⟨Nat.le_of_ble_eq_true rfl, Nat.le_of_ble_eq_true rfl⟩ hK hw hFm.self.1 hSm rfl rfl hl.1 rfl (Nat.le_of_ble_eq_true rfl) dL_law_875 rfl rfl ⟨Nat.le_of_ble_eq_true rfl, Nat.le_of_ble_eq_true rfl⟩ (fun r2 Lr2 σr2 H locs er2 hw => ?_)
  refine lv_icmp_eq (tgt := 1421) hx hb dL_law_878 (by decide) (fun ce => ?_) (fun ce => ?_)
  · exact lk_end C0 hw.2.2.1 hl (Nat.le_of_ble_eq_true rfl) (Nat.le_of_ble_eq_true rfl)
  · exact absurd (er1.trans er2.symm) ce
set_option maxHeartbeats 4000000 in
set_option maxRecDepth 100000 in
theorem lk_23 {p : Program} {l : Launch} {e : Env} {s : State} {m : MethodId} {below : List Frame} {meth : Method} {c : Code} {b : Nat} {xs : Nat → Int32} {E : kq_T} {H : Heap} {locs : List Loc} {ls : Array Slot} {x m_ : Nat} {Lx Lm : List Nat} {σx σm : Nat → va_E} (C0 : lw_At p s m meth c b 6 xs) (hK : kq_K E s) (hFx : fr_X E Lx σx x) (hFm : fr_M E Lm σm m_) (hw : kq_w E (fun q : Nat => s.heap.size ≤ q) s.heap (va_pl Lm σm) Lx σx H locs) (hl : lv_has ls 4 [(3, .int 0), (2, .ref m_), (1, .ref x), (0, .ref b)]) : W p l e room_1 s m #[Value.ref b] below meth c H locs 1000 10000 (lw_Z below #[Value.ref b] s) (F0 m 883 ls []) := by
  obtain ⟨hx, hb, hr, hml, hown, hts, hX, hbl, hlocks, hgv⟩ := id C0
  have hown : s.vm.findClass RL = some m.cls := hown
  have hb : c.code = cL_law := hb
  have hts := fun w h => hts w (wsL_law_in w h)
  have hbA : ¬ (fun q : Nat => s.heap.size ≤ q) b := Nat.not_le.mpr hbl
  refine lv_aload_n hx hb dL_law_883 rfl (lv_at hl 2 rfl) ?_
  obtain ⟨fsx, hSx⟩ := hFx.self.2
  refine kq_callI (As := []) (rest := []) (n := 0) (q := (RX7, TX7, 9)) (ci := 7) (mc := 0) (ms := 0) ⟨hx, hb, hml, hown, hts⟩ (f_X7_fewest l E Lx σx hFx) gL_law_X7_fewest rfl (by decide +kernel) ⟨Nat.le_of_ble_eq_true rfl, Nat.le_of_ble_eq_true rfl⟩ hK hw hFx.self.1 hSx rfl rfl hl.1 rfl (Nat.le_of_ble_eq_true rfl) dL_law_884 rfl rfl ⟨Nat.le_of_ble_eq_true rfl, Nat.le_of_ble_eq_true rfl⟩ (fun r1 Lr1 σr1 H locs er1 hw => ?_)
  refine lv_aload_n hx hb dL_law_887 rfl (lv_at hl 1 rfl) ?_
  have hw := kq_swap hw
  obtain ⟨fsm, hSm⟩ := hFm.self.2
  refine kq_callI (As := []) (rest := [.int r1]) (n := 0) (q := (RX8, TX8, 23)) (ci := 8) (mc := 0) (ms := 0) ⟨hx, hb, hml, hown, hts⟩ (f_X8_fewest l E Lm σm hFm) gL_law_X8_fewest rfl (by decide +kernel) ⟨Nat.le_of_ble_eq_true rfl, Nat.le_of_ble_eq_true rfl⟩ hK hw hFm.self.1 hSm rfl rfl hl.1 rfl (Nat.le_of_ble_eq_true rfl) dL_law_888 rfl rfl ⟨Nat.le_of_ble_eq_true rfl, Nat.le_of_ble_eq_true rfl⟩ (fun r2 Lr2 σr2 H locs er2 hw => ?_)
  refine lv_icmp_eq (tgt := 1421) hx hb dL_law_891 (by decide) (fun ce => ?_) (fun ce => ?_)
  · exact lk_end C0 hw.2.2.1 hl (Nat.le_of_ble_eq_true rfl) (Nat.le_of_ble_eq_true rfl)
  · exact absurd (er1.trans er2.symm) ce
set_option maxHeartbeats 4000000 in
set_option maxRecDepth 100000 in
theorem lk_24 {p : Program} {l : Launch} {e : Env} {s : State} {m : MethodId} {below : List Frame} {meth : Method} {c : Code} {b : Nat} {xs : Nat → Int32} {E : kq_T} {H : Heap} {locs : List Loc} {ls : Array Slot} {x m_ : Nat} {Lx Lm : List Nat} {σx σm : Nat → va_E} (C0 : lw_At p s m meth c b 6 xs) (hK : kq_K E s) (hFx : fr_X E Lx σx x) (hFm : fr_M E Lm σm m_) (hw : kq_w E (fun q : Nat => s.heap.size ≤ q) s.heap (va_pl Lm σm) Lx σx H locs) (hl : lv_has ls 4 [(3, .int 0), (2, .ref m_), (1, .ref x), (0, .ref b)]) : W p l e room_1 s m #[Value.ref b] below meth c H locs 1000 10000 (lw_Z below #[Value.ref b] s) (F0 m 896 ls []) := by
  obtain ⟨hx, hb, hr, hml, hown, hts, hX, hbl, hlocks, hgv⟩ := id C0
  have hown : s.vm.findClass RL = some m.cls := hown
  have hb : c.code = cL_law := hb
  have hts := fun w h => hts w (wsL_law_in w h)
  have hbA : ¬ (fun q : Nat => s.heap.size ≤ q) b := Nat.not_le.mpr hbl
  refine lv_aload_n hx hb dL_law_896 rfl (lv_at hl 2 rfl) ?_
  refine lv_aload_n hx hb dL_law_897 rfl (lv_at hl 3 rfl) ?_
  refine lv_iload_n hx hb dL_law_898 rfl (lv_at hl 0 rfl) ?_
  refine lv_iconst (v := 1) hx hb dL_law_899 (by decide) ?_
  refine lv_iadd hx hb dL_law_900 ?_
  refine lv_topi (fun v1 ev1 => ?_)
  have ev1 : v1 = 1 := by rw [ev1]; decide
  subst ev1
  refine va_sld hx hb hX hbl hbA hw.2.2.1 (by unfold vp_in; decide) dL_law_901 ?_
  refine lv_aload_n hx hb dL_law_902 rfl (lv_at hl 3 rfl) ?_
  refine lv_iload_n hx hb dL_law_903 rfl (lv_at hl 0 rfl) ?_
  refine lv_iconst (v := 2) hx hb dL_law_904 (by decide) ?_
  refine lv_iadd hx hb dL_law_905 ?_
  refine lv_topi (fun v2 ev2 => ?_)
  have ev2 : v2 = 2 := by rw [ev2]; decide
  subst ev2
  refine va_sld hx hb hX hbl hbA hw.2.2.1 (by unfold vp_in; decide) dL_law_906 ?_
  refine lv_aload_n hx hb dL_law_907 rfl (lv_at hl 3 rfl) ?_
  refine lv_iload_n hx hb dL_law_908 rfl (lv_at hl 0 rfl) ?_
  refine lv_iconst (v := 3) hx hb dL_law_909 (by decide) ?_
  refine lv_iadd hx hb dL_law_910 ?_
  refine lv_topi (fun v3 ev3 => ?_)
  have ev3 : v3 = 3 := by rw [ev3]; decide
  subst ev3
  refine va_sld hx hb hX hbl hbA hw.2.2.1 (by unfold vp_in; decide) dL_law_911 ?_
  refine lv_aload_n hx hb dL_law_912 rfl (lv_at hl 3 rfl) ?_
  refine lv_iload_n hx hb dL_law_913 rfl (lv_at hl 0 rfl) ?_
  refine lv_iconst (v := 4) hx hb dL_law_914 (by decide) ?_
  refine lv_iadd hx hb dL_law_915 ?_
  refine lv_topi (fun v4 ev4 => ?_)
  have ev4 : v4 = 4 := by rw [ev4]; decide
  subst ev4
  refine va_sld hx hb hX hbl hbA hw.2.2.1 (by unfold vp_in; decide) dL_law_916 ?_
  obtain ⟨fsx, hSx⟩ := hFx.self.2
  refine kq_callI (As := [.int (xs (Int32.toNatClampNeg 1)), .int (xs (Int32.toNatClampNeg 2)), .int (xs (Int32.toNatClampNeg 3)), .int (xs (Int32.toNatClampNeg 4))]) (rest := []) (n := 4) (q := (RX7, TX7, 9)) (ci := 7) (mc := 0) (ms := 0) ⟨hx, hb, hml, hown, hts⟩ (f_X7_march l E Lx σx hFx (xs (Int32.toNatClampNeg 1)) (xs (Int32.toNatClampNeg 2)) (xs (Int32.toNatClampNeg 3)) (xs (Int32.toNatClampNeg 4))) gL_law_X7_march rfl (by decide +kernel) ⟨Nat.le_of_ble_eq_true rfl, Nat.le_of_ble_eq_true rfl⟩ hK hw hFx.self.1 hSx rfl rfl hl.1 rfl (Nat.le_of_ble_eq_true rfl) dL_law_917 rfl rfl ⟨Nat.le_of_ble_eq_true rfl, Nat.le_of_ble_eq_true rfl⟩ (fun r1 Lr1 σr1 H locs er1 hw => ?_)
  refine lv_aload_n hx hb dL_law_920 rfl (lv_at hl 1 rfl) ?_
  refine lv_aload_n hx hb dL_law_921 rfl (lv_at hl 3 rfl) ?_
  refine lv_iload_n hx hb dL_law_922 rfl (lv_at hl 0 rfl) ?_
  refine lv_iconst (v := 1) hx hb dL_law_923 (by decide) ?_
  refine lv_iadd hx hb dL_law_924 ?_
  refine lv_topi (fun v5 ev5 => ?_)
  have ev5 : v5 = 1 := by rw [ev5]; decide
  subst ev5
  refine va_sld hx hb hX hbl hbA hw.2.2.1 (by unfold vp_in; decide) dL_law_925 ?_
  refine lv_aload_n hx hb dL_law_926 rfl (lv_at hl 3 rfl) ?_
  refine lv_iload_n hx hb dL_law_927 rfl (lv_at hl 0 rfl) ?_
  refine lv_iconst (v := 2) hx hb dL_law_928 (by decide) ?_
  refine lv_iadd hx hb dL_law_929 ?_
  refine lv_topi (fun v6 ev6 => ?_)
  have ev6 : v6 = 2 := by rw [ev6]; decide
  subst ev6
  refine va_sld hx hb hX hbl hbA hw.2.2.1 (by unfold vp_in; decide) dL_law_930 ?_
  refine lv_aload_n hx hb dL_law_931 rfl (lv_at hl 3 rfl) ?_
  refine lv_iload_n hx hb dL_law_932 rfl (lv_at hl 0 rfl) ?_
  refine lv_iconst (v := 3) hx hb dL_law_933 (by decide) ?_
  refine lv_iadd hx hb dL_law_934 ?_
  refine lv_topi (fun v7 ev7 => ?_)
  have ev7 : v7 = 3 := by rw [ev7]; decide
  subst ev7
  refine va_sld hx hb hX hbl hbA hw.2.2.1 (by unfold vp_in; decide) dL_law_935 ?_
  refine lv_aload_n hx hb dL_law_936 rfl (lv_at hl 3 rfl) ?_
  refine lv_iload_n hx hb dL_law_937 rfl (lv_at hl 0 rfl) ?_
  refine lv_iconst (v := 4) hx hb dL_law_938 (by decide) ?_
  refine lv_iadd hx hb dL_law_939 ?_
  refine lv_topi (fun v8 ev8 => ?_)
  have ev8 : v8 = 4 := by rw [ev8]; decide
  subst ev8
  refine va_sld hx hb hX hbl hbA hw.2.2.1 (by unfold vp_in; decide) dL_law_940 ?_
  have hw := kq_swap hw
  obtain ⟨fsm, hSm⟩ := hFm.self.2
  refine kq_callI (As := [.int (xs (Int32.toNatClampNeg 1)), .int (xs (Int32.toNatClampNeg 2)), .int (xs (Int32.toNatClampNeg 3)), .int (xs (Int32.toNatClampNeg 4))]) (rest := [.int r1]) (n := 4) (q := (RX8, TX8, 23)) (ci := 8) (mc := 0) (ms := 0) ⟨hx, hb, hml, hown, hts⟩ (f_X8_march l E Lm σm hFm (xs (Int32.toNatClampNeg 1)) (xs (Int32.toNatClampNeg 2)) (xs (Int32.toNatClampNeg 3)) (xs (Int32.toNatClampNeg 4))) gL_law_X8_march rfl (by decide +kernel) ⟨Nat.le_of_ble_eq_true rfl, Nat.le_of_ble_eq_true rfl⟩ hK hw hFm.self.1 hSm rfl rfl hl.1 rfl (Nat.le_of_ble_eq_true rfl) dL_law_941 rfl rfl ⟨Nat.le_of_ble_eq_true rfl, Nat.le_of_ble_eq_true rfl⟩ (fun r2 Lr2 σr2 H locs er2 hw => ?_)
  refine lv_icmp_eq (tgt := 1421) hx hb dL_law_944 (by decide) (fun ce => ?_) (fun ce => ?_)
  · exact lk_end C0 hw.2.2.1 hl (Nat.le_of_ble_eq_true rfl) (Nat.le_of_ble_eq_true rfl)
  · exact absurd (er1.trans er2.symm) ce
set_option maxHeartbeats 4000000 in
set_option maxRecDepth 100000 in
theorem lk_25 {p : Program} {l : Launch} {e : Env} {s : State} {m : MethodId} {below : List Frame} {meth : Method} {c : Code} {b : Nat} {xs : Nat → Int32} {E : kq_T} {H : Heap} {locs : List Loc} {ls : Array Slot} {x m_ : Nat} {Lx Lm : List Nat} {σx σm : Nat → va_E} (C0 : lw_At p s m meth c b 6 xs) (hK : kq_K E s) (hFx : fr_X E Lx σx x) (hFm : fr_M E Lm σm m_) (hw : kq_w E (fun q : Nat => s.heap.size ≤ q) s.heap (va_pl Lm σm) Lx σx H locs) (hl : lv_has ls 4 [(3, .int 0), (2, .ref m_), (1, .ref x), (0, .ref b)]) : W p l e room_1 s m #[Value.ref b] below meth c H locs 1000 10000 (lw_Z below #[Value.ref b] s) (F0 m 949 ls []) := by
  obtain ⟨hx, hb, hr, hml, hown, hts, hX, hbl, hlocks, hgv⟩ := id C0
  have hown : s.vm.findClass RL = some m.cls := hown
  have hb : c.code = cL_law := hb
  have hts := fun w h => hts w (wsL_law_in w h)
  have hbA : ¬ (fun q : Nat => s.heap.size ≤ q) b := Nat.not_le.mpr hbl
  refine lv_aload_n hx hb dL_law_949 rfl (lv_at hl 2 rfl) ?_
  refine lv_aload_n hx hb dL_law_950 rfl (lv_at hl 3 rfl) ?_
  refine lv_iload_n hx hb dL_law_951 rfl (lv_at hl 0 rfl) ?_
  refine lv_iconst (v := 1) hx hb dL_law_952 (by decide) ?_
  refine lv_iadd hx hb dL_law_953 ?_
  refine lv_topi (fun v1 ev1 => ?_)
  have ev1 : v1 = 1 := by rw [ev1]; decide
  subst ev1
  refine va_sld hx hb hX hbl hbA hw.2.2.1 (by unfold vp_in; decide) dL_law_954 ?_
  refine lv_aload_n hx hb dL_law_955 rfl (lv_at hl 3 rfl) ?_
  refine lv_iload_n hx hb dL_law_956 rfl (lv_at hl 0 rfl) ?_
  refine lv_iconst (v := 2) hx hb dL_law_957 (by decide) ?_
  refine lv_iadd hx hb dL_law_958 ?_
  refine lv_topi (fun v2 ev2 => ?_)
  have ev2 : v2 = 2 := by rw [ev2]; decide
  subst ev2
  refine va_sld hx hb hX hbl hbA hw.2.2.1 (by unfold vp_in; decide) dL_law_959 ?_
  refine lv_aload_n hx hb dL_law_960 rfl (lv_at hl 3 rfl) ?_
  refine lv_iload_n hx hb dL_law_961 rfl (lv_at hl 0 rfl) ?_
  refine lv_iconst (v := 3) hx hb dL_law_962 (by decide) ?_
  refine lv_iadd hx hb dL_law_963 ?_
  refine lv_topi (fun v3 ev3 => ?_)
  have ev3 : v3 = 3 := by rw [ev3]; decide
  subst ev3
  refine va_sld hx hb hX hbl hbA hw.2.2.1 (by unfold vp_in; decide) dL_law_964 ?_
  obtain ⟨fsx, hSx⟩ := hFx.self.2
  refine kq_callI (As := [.int (xs (Int32.toNatClampNeg 1)), .int (xs (Int32.toNatClampNeg 2)), .int (xs (Int32.toNatClampNeg 3))]) (rest := []) (n := 3) (q := (RX7, TX7, 9)) (ci := 7) (mc := 0) (ms := 0) ⟨hx, hb, hml, hown, hts⟩ (f_X7_cheap l E Lx σx hFx (xs (Int32.toNatClampNeg 1)) (xs (Int32.toNatClampNeg 2)) (xs (Int32.toNatClampNeg 3))) gL_law_X7_cheap rfl (by decide +kernel) ⟨Nat.le_of_ble_eq_true rfl, Nat.le_of_ble_eq_true rfl⟩ hK hw hFx.self.1 hSx rfl rfl hl.1 rfl (Nat.le_of_ble_eq_true rfl) dL_law_965 rfl rfl ⟨Nat.le_of_ble_eq_true rfl, Nat.le_of_ble_eq_true rfl⟩ (fun r1 Lr1 σr1 H locs er1 hw => ?_)
  refine lv_aload_n hx hb dL_law_968 rfl (lv_at hl 1 rfl) ?_
  refine lv_aload_n hx hb dL_law_969 rfl (lv_at hl 3 rfl) ?_
  refine lv_iload_n hx hb dL_law_970 rfl (lv_at hl 0 rfl) ?_
  refine lv_iconst (v := 1) hx hb dL_law_971 (by decide) ?_
  refine lv_iadd hx hb dL_law_972 ?_
  refine lv_topi (fun v4 ev4 => ?_)
  have ev4 : v4 = 1 := by rw [ev4]; decide
  subst ev4
  refine va_sld hx hb hX hbl hbA hw.2.2.1 (by unfold vp_in; decide) dL_law_973 ?_
  refine lv_aload_n hx hb dL_law_974 rfl (lv_at hl 3 rfl) ?_
  refine lv_iload_n hx hb dL_law_975 rfl (lv_at hl 0 rfl) ?_
  refine lv_iconst (v := 2) hx hb dL_law_976 (by decide) ?_
  refine lv_iadd hx hb dL_law_977 ?_
  refine lv_topi (fun v5 ev5 => ?_)
  have ev5 : v5 = 2 := by rw [ev5]; decide
  subst ev5
  refine va_sld hx hb hX hbl hbA hw.2.2.1 (by unfold vp_in; decide) dL_law_978 ?_
  refine lv_aload_n hx hb dL_law_979 rfl (lv_at hl 3 rfl) ?_
  refine lv_iload_n hx hb dL_law_980 rfl (lv_at hl 0 rfl) ?_
  refine lv_iconst (v := 3) hx hb dL_law_981 (by decide) ?_
  refine lv_iadd hx hb dL_law_982 ?_
  refine lv_topi (fun v6 ev6 => ?_)
  have ev6 : v6 = 3 := by rw [ev6]; decide
  subst ev6
  refine va_sld hx hb hX hbl hbA hw.2.2.1 (by unfold vp_in; decide) dL_law_983 ?_
  have hw := kq_swap hw
  obtain ⟨fsm, hSm⟩ := hFm.self.2
  refine kq_callI (As := [.int (xs (Int32.toNatClampNeg 1)), .int (xs (Int32.toNatClampNeg 2)), .int (xs (Int32.toNatClampNeg 3))]) (rest := [.int r1]) (n := 3) (q := (RX8, TX8, 23)) (ci := 8) (mc := 0) (ms := 0) ⟨hx, hb, hml, hown, hts⟩ (f_X8_cheap l E Lm σm hFm (xs (Int32.toNatClampNeg 1)) (xs (Int32.toNatClampNeg 2)) (xs (Int32.toNatClampNeg 3))) gL_law_X8_cheap rfl (by decide +kernel) ⟨Nat.le_of_ble_eq_true rfl, Nat.le_of_ble_eq_true rfl⟩ hK hw hFm.self.1 hSm rfl rfl hl.1 rfl (Nat.le_of_ble_eq_true rfl) dL_law_984 rfl rfl ⟨Nat.le_of_ble_eq_true rfl, Nat.le_of_ble_eq_true rfl⟩ (fun r2 Lr2 σr2 H locs er2 hw => ?_)
  refine lv_icmp_eq (tgt := 1421) hx hb dL_law_987 (by decide) (fun ce => ?_) (fun ce => ?_)
  · exact lk_end C0 hw.2.2.1 hl (Nat.le_of_ble_eq_true rfl) (Nat.le_of_ble_eq_true rfl)
  · exact absurd (er1.trans er2.symm) ce
set_option maxHeartbeats 4000000 in
set_option maxRecDepth 100000 in
theorem lk_26 {p : Program} {l : Launch} {e : Env} {s : State} {m : MethodId} {below : List Frame} {meth : Method} {c : Code} {b : Nat} {xs : Nat → Int32} {E : kq_T} {H : Heap} {locs : List Loc} {ls : Array Slot} {x m_ : Nat} {Lx Lm : List Nat} {σx σm : Nat → va_E} (C0 : lw_At p s m meth c b 6 xs) (hK : kq_K E s) (hFx : fr_X E Lx σx x) (hFm : fr_M E Lm σm m_) (hw : kq_w E (fun q : Nat => s.heap.size ≤ q) s.heap (va_pl Lm σm) Lx σx H locs) (hl : lv_has ls 4 [(3, .int 0), (2, .ref m_), (1, .ref x), (0, .ref b)]) : W p l e room_1 s m #[Value.ref b] below meth c H locs 1000 10000 (lw_Z below #[Value.ref b] s) (F0 m 992 ls []) := by
  obtain ⟨hx, hb, hr, hml, hown, hts, hX, hbl, hlocks, hgv⟩ := id C0
  have hown : s.vm.findClass RL = some m.cls := hown
  have hb : c.code = cL_law := hb
  have hts := fun w h => hts w (wsL_law_in w h)
  have hbA : ¬ (fun q : Nat => s.heap.size ≤ q) b := Nat.not_le.mpr hbl
  refine lv_aload_n hx hb dL_law_992 rfl (lv_at hl 2 rfl) ?_
  refine lv_aload_n hx hb dL_law_993 rfl (lv_at hl 3 rfl) ?_
  refine lv_iload_n hx hb dL_law_994 rfl (lv_at hl 0 rfl) ?_
  refine lv_iconst (v := 1) hx hb dL_law_995 (by decide) ?_
  refine lv_iadd hx hb dL_law_996 ?_
  refine lv_topi (fun v1 ev1 => ?_)
  have ev1 : v1 = 1 := by rw [ev1]; decide
  subst ev1
  refine va_sld hx hb hX hbl hbA hw.2.2.1 (by unfold vp_in; decide) dL_law_997 ?_
  refine lv_aload_n hx hb dL_law_998 rfl (lv_at hl 3 rfl) ?_
  refine lv_iload_n hx hb dL_law_999 rfl (lv_at hl 0 rfl) ?_
  refine lv_iconst (v := 2) hx hb dL_law_1000 (by decide) ?_
  refine lv_iadd hx hb dL_law_1001 ?_
  refine lv_topi (fun v2 ev2 => ?_)
  have ev2 : v2 = 2 := by rw [ev2]; decide
  subst ev2
  refine va_sld hx hb hX hbl hbA hw.2.2.1 (by unfold vp_in; decide) dL_law_1002 ?_
  obtain ⟨fsx, hSx⟩ := hFx.self.2
  refine kq_callI (As := [.int (xs (Int32.toNatClampNeg 1)), .int (xs (Int32.toNatClampNeg 2))]) (rest := []) (n := 2) (q := (RX7, TX7, 9)) (ci := 7) (mc := 0) (ms := 0) ⟨hx, hb, hml, hown, hts⟩ (f_X7_near l E Lx σx hFx (xs (Int32.toNatClampNeg 1)) (xs (Int32.toNatClampNeg 2))) gL_law_X7_near rfl (by decide +kernel) ⟨Nat.le_of_ble_eq_true rfl, Nat.le_of_ble_eq_true rfl⟩ hK hw hFx.self.1 hSx rfl rfl hl.1 rfl (Nat.le_of_ble_eq_true rfl) dL_law_1003 rfl rfl ⟨Nat.le_of_ble_eq_true rfl, Nat.le_of_ble_eq_true rfl⟩ (fun r1 Lr1 σr1 H locs er1 hw => ?_)
  refine lv_aload_n hx hb dL_law_1006 rfl (lv_at hl 1 rfl) ?_
  refine lv_aload_n hx hb dL_law_1007 rfl (lv_at hl 3 rfl) ?_
  refine lv_iload_n hx hb dL_law_1008 rfl (lv_at hl 0 rfl) ?_
  refine lv_iconst (v := 1) hx hb dL_law_1009 (by decide) ?_
  refine lv_iadd hx hb dL_law_1010 ?_
  refine lv_topi (fun v3 ev3 => ?_)
  have ev3 : v3 = 1 := by rw [ev3]; decide
  subst ev3
  refine va_sld hx hb hX hbl hbA hw.2.2.1 (by unfold vp_in; decide) dL_law_1011 ?_
  refine lv_aload_n hx hb dL_law_1012 rfl (lv_at hl 3 rfl) ?_
  refine lv_iload_n hx hb dL_law_1013 rfl (lv_at hl 0 rfl) ?_
  refine lv_iconst (v := 2) hx hb dL_law_1014 (by decide) ?_
  refine lv_iadd hx hb dL_law_1015 ?_
  refine lv_topi (fun v4 ev4 => ?_)
  have ev4 : v4 = 2 := by rw [ev4]; decide
  subst ev4
  refine va_sld hx hb hX hbl hbA hw.2.2.1 (by unfold vp_in; decide) dL_law_1016 ?_
  have hw := kq_swap hw
  obtain ⟨fsm, hSm⟩ := hFm.self.2
  refine kq_callI (As := [.int (xs (Int32.toNatClampNeg 1)), .int (xs (Int32.toNatClampNeg 2))]) (rest := [.int r1]) (n := 2) (q := (RX8, TX8, 23)) (ci := 8) (mc := 0) (ms := 0) ⟨hx, hb, hml, hown, hts⟩ (f_X8_near l E Lm σm hFm (xs (Int32.toNatClampNeg 1)) (xs (Int32.toNatClampNeg 2))) gL_law_X8_near rfl (by decide +kernel) ⟨Nat.le_of_ble_eq_true rfl, Nat.le_of_ble_eq_true rfl⟩ hK hw hFm.self.1 hSm rfl rfl hl.1 rfl (Nat.le_of_ble_eq_true rfl) dL_law_1017 rfl rfl ⟨Nat.le_of_ble_eq_true rfl, Nat.le_of_ble_eq_true rfl⟩ (fun r2 Lr2 σr2 H locs er2 hw => ?_)
  refine lv_icmp_eq (tgt := 1421) hx hb dL_law_1020 (by decide) (fun ce => ?_) (fun ce => ?_)
  · exact lk_end C0 hw.2.2.1 hl (Nat.le_of_ble_eq_true rfl) (Nat.le_of_ble_eq_true rfl)
  · exact absurd (er1.trans er2.symm) ce
set_option maxHeartbeats 4000000 in
set_option maxRecDepth 100000 in
theorem lk_27 {p : Program} {l : Launch} {e : Env} {s : State} {m : MethodId} {below : List Frame} {meth : Method} {c : Code} {b : Nat} {xs : Nat → Int32} {E : kq_T} {H : Heap} {locs : List Loc} {ls : Array Slot} {x m_ : Nat} {Lx Lm : List Nat} {σx σm : Nat → va_E} (C0 : lw_At p s m meth c b 6 xs) (hK : kq_K E s) (hFx : fr_X E Lx σx x) (hFm : fr_M E Lm σm m_) (hw : kq_w E (fun q : Nat => s.heap.size ≤ q) s.heap (va_pl Lm σm) Lx σx H locs) (hl : lv_has ls 4 [(3, .int 0), (2, .ref m_), (1, .ref x), (0, .ref b)]) : W p l e room_1 s m #[Value.ref b] below meth c H locs 1000 10000 (lw_Z below #[Value.ref b] s) (F0 m 1025 ls []) := by
  obtain ⟨hx, hb, hr, hml, hown, hts, hX, hbl, hlocks, hgv⟩ := id C0
  have hown : s.vm.findClass RL = some m.cls := hown
  have hb : c.code = cL_law := hb
  have hts := fun w h => hts w (wsL_law_in w h)
  have hbA : ¬ (fun q : Nat => s.heap.size ≤ q) b := Nat.not_le.mpr hbl
  refine lv_aload_n hx hb dL_law_1025 rfl (lv_at hl 2 rfl) ?_
  refine lv_aload_n hx hb dL_law_1026 rfl (lv_at hl 3 rfl) ?_
  refine lv_iload_n hx hb dL_law_1027 rfl (lv_at hl 0 rfl) ?_
  refine lv_iconst (v := 1) hx hb dL_law_1028 (by decide) ?_
  refine lv_iadd hx hb dL_law_1029 ?_
  refine lv_topi (fun v1 ev1 => ?_)
  have ev1 : v1 = 1 := by rw [ev1]; decide
  subst ev1
  refine va_sld hx hb hX hbl hbA hw.2.2.1 (by unfold vp_in; decide) dL_law_1030 ?_
  refine lv_aload_n hx hb dL_law_1031 rfl (lv_at hl 3 rfl) ?_
  refine lv_iload_n hx hb dL_law_1032 rfl (lv_at hl 0 rfl) ?_
  refine lv_iconst (v := 2) hx hb dL_law_1033 (by decide) ?_
  refine lv_iadd hx hb dL_law_1034 ?_
  refine lv_topi (fun v2 ev2 => ?_)
  have ev2 : v2 = 2 := by rw [ev2]; decide
  subst ev2
  refine va_sld hx hb hX hbl hbA hw.2.2.1 (by unfold vp_in; decide) dL_law_1035 ?_
  refine lv_aload_n hx hb dL_law_1036 rfl (lv_at hl 3 rfl) ?_
  refine lv_iload_n hx hb dL_law_1037 rfl (lv_at hl 0 rfl) ?_
  refine lv_iconst (v := 3) hx hb dL_law_1038 (by decide) ?_
  refine lv_iadd hx hb dL_law_1039 ?_
  refine lv_topi (fun v3 ev3 => ?_)
  have ev3 : v3 = 3 := by rw [ev3]; decide
  subst ev3
  refine va_sld hx hb hX hbl hbA hw.2.2.1 (by unfold vp_in; decide) dL_law_1040 ?_
  refine lv_aload_n hx hb dL_law_1041 rfl (lv_at hl 3 rfl) ?_
  refine lv_iload_n hx hb dL_law_1042 rfl (lv_at hl 0 rfl) ?_
  refine lv_iconst (v := 4) hx hb dL_law_1043 (by decide) ?_
  refine lv_iadd hx hb dL_law_1044 ?_
  refine lv_topi (fun v4 ev4 => ?_)
  have ev4 : v4 = 4 := by rw [ev4]; decide
  subst ev4
  refine va_sld hx hb hX hbl hbA hw.2.2.1 (by unfold vp_in; decide) dL_law_1045 ?_
  obtain ⟨fsx, hSx⟩ := hFx.self.2
  refine kq_callI (As := [.int (xs (Int32.toNatClampNeg 1)), .int (xs (Int32.toNatClampNeg 2)), .int (xs (Int32.toNatClampNeg 3)), .int (xs (Int32.toNatClampNeg 4))]) (rest := []) (n := 4) (q := (RX7, TX7, 9)) (ci := 7) (mc := 0) (ms := 0) ⟨hx, hb, hml, hown, hts⟩ (f_X7_rules l E Lx σx hFx (xs (Int32.toNatClampNeg 1)) (xs (Int32.toNatClampNeg 2)) (xs (Int32.toNatClampNeg 3)) (xs (Int32.toNatClampNeg 4))) gL_law_X7_rules rfl (by decide +kernel) ⟨Nat.le_of_ble_eq_true rfl, Nat.le_of_ble_eq_true rfl⟩ hK hw hFx.self.1 hSx rfl rfl hl.1 rfl (Nat.le_of_ble_eq_true rfl) dL_law_1046 rfl rfl ⟨Nat.le_of_ble_eq_true rfl, Nat.le_of_ble_eq_true rfl⟩ (fun r1 Lr1 σr1 H locs er1 hw => ?_)
  refine lv_aload_n hx hb dL_law_1049 rfl (lv_at hl 1 rfl) ?_
  refine lv_aload_n hx hb dL_law_1050 rfl (lv_at hl 3 rfl) ?_
  refine lv_iload_n hx hb dL_law_1051 rfl (lv_at hl 0 rfl) ?_
  refine lv_iconst (v := 1) hx hb dL_law_1052 (by decide) ?_
  refine lv_iadd hx hb dL_law_1053 ?_
  refine lv_topi (fun v5 ev5 => ?_)
  have ev5 : v5 = 1 := by rw [ev5]; decide
  subst ev5
  refine va_sld hx hb hX hbl hbA hw.2.2.1 (by unfold vp_in; decide) dL_law_1054 ?_
  refine lv_aload_n hx hb dL_law_1055 rfl (lv_at hl 3 rfl) ?_
  refine lv_iload_n hx hb dL_law_1056 rfl (lv_at hl 0 rfl) ?_
  refine lv_iconst (v := 2) hx hb dL_law_1057 (by decide) ?_
  refine lv_iadd hx hb dL_law_1058 ?_
  refine lv_topi (fun v6 ev6 => ?_)
  have ev6 : v6 = 2 := by rw [ev6]; decide
  subst ev6
  refine va_sld hx hb hX hbl hbA hw.2.2.1 (by unfold vp_in; decide) dL_law_1059 ?_
  refine lv_aload_n hx hb dL_law_1060 rfl (lv_at hl 3 rfl) ?_
  refine lv_iload_n hx hb dL_law_1061 rfl (lv_at hl 0 rfl) ?_
  refine lv_iconst (v := 3) hx hb dL_law_1062 (by decide) ?_
  refine lv_iadd hx hb dL_law_1063 ?_
  refine lv_topi (fun v7 ev7 => ?_)
  have ev7 : v7 = 3 := by rw [ev7]; decide
  subst ev7
  refine va_sld hx hb hX hbl hbA hw.2.2.1 (by unfold vp_in; decide) dL_law_1064 ?_
  refine lv_aload_n hx hb dL_law_1065 rfl (lv_at hl 3 rfl) ?_
  refine lv_iload_n hx hb dL_law_1066 rfl (lv_at hl 0 rfl) ?_
  refine lv_iconst (v := 4) hx hb dL_law_1067 (by decide) ?_
  refine lv_iadd hx hb dL_law_1068 ?_
  refine lv_topi (fun v8 ev8 => ?_)
  have ev8 : v8 = 4 := by rw [ev8]; decide
  subst ev8
  refine va_sld hx hb hX hbl hbA hw.2.2.1 (by unfold vp_in; decide) dL_law_1069 ?_
  have hw := kq_swap hw
  obtain ⟨fsm, hSm⟩ := hFm.self.2
  refine kq_callI (As := [.int (xs (Int32.toNatClampNeg 1)), .int (xs (Int32.toNatClampNeg 2)), .int (xs (Int32.toNatClampNeg 3)), .int (xs (Int32.toNatClampNeg 4))]) (rest := [.int r1]) (n := 4) (q := (RX8, TX8, 23)) (ci := 8) (mc := 0) (ms := 0) ⟨hx, hb, hml, hown, hts⟩ (f_X8_rules l E Lm σm hFm (xs (Int32.toNatClampNeg 1)) (xs (Int32.toNatClampNeg 2)) (xs (Int32.toNatClampNeg 3)) (xs (Int32.toNatClampNeg 4))) gL_law_X8_rules rfl (by decide +kernel) ⟨Nat.le_of_ble_eq_true rfl, Nat.le_of_ble_eq_true rfl⟩ hK hw hFm.self.1 hSm rfl rfl hl.1 rfl (Nat.le_of_ble_eq_true rfl) dL_law_1070 rfl rfl ⟨Nat.le_of_ble_eq_true rfl, Nat.le_of_ble_eq_true rfl⟩ (fun r2 Lr2 σr2 H locs er2 hw => ?_)
  refine lv_icmp_eq (tgt := 1421) hx hb dL_law_1073 (by decide) (fun ce => ?_) (fun ce => ?_)
  · exact lk_end C0 hw.2.2.1 hl (Nat.le_of_ble_eq_true rfl) (Nat.le_of_ble_eq_true rfl)
  · exact absurd (er1.trans er2.symm) ce
set_option maxHeartbeats 4000000 in
set_option maxRecDepth 100000 in
theorem lk_28 {p : Program} {l : Launch} {e : Env} {s : State} {m : MethodId} {below : List Frame} {meth : Method} {c : Code} {b : Nat} {xs : Nat → Int32} {E : kq_T} {H : Heap} {locs : List Loc} {ls : Array Slot} {x m_ : Nat} {Lx Lm : List Nat} {σx σm : Nat → va_E} (C0 : lw_At p s m meth c b 6 xs) (hK : kq_K E s) (hFx : fr_X E Lx σx x) (hFm : fr_M E Lm σm m_) (hw : kq_w E (fun q : Nat => s.heap.size ≤ q) s.heap (va_pl Lm σm) Lx σx H locs) (hl : lv_has ls 4 [(3, .int 0), (2, .ref m_), (1, .ref x), (0, .ref b)]) : W p l e room_1 s m #[Value.ref b] below meth c H locs 1000 10000 (lw_Z below #[Value.ref b] s) (F0 m 1078 ls []) := by
  obtain ⟨hx, hb, hr, hml, hown, hts, hX, hbl, hlocks, hgv⟩ := id C0
  have hown : s.vm.findClass RL = some m.cls := hown
  have hb : c.code = cL_law := hb
  have hts := fun w h => hts w (wsL_law_in w h)
  have hbA : ¬ (fun q : Nat => s.heap.size ≤ q) b := Nat.not_le.mpr hbl
  refine lv_aload_n hx hb dL_law_1078 rfl (lv_at hl 2 rfl) ?_
  refine lv_aload_n hx hb dL_law_1079 rfl (lv_at hl 3 rfl) ?_
  refine lv_iload_n hx hb dL_law_1080 rfl (lv_at hl 0 rfl) ?_
  refine lv_iconst (v := 1) hx hb dL_law_1081 (by decide) ?_
  refine lv_iadd hx hb dL_law_1082 ?_
  refine lv_topi (fun v1 ev1 => ?_)
  have ev1 : v1 = 1 := by rw [ev1]; decide
  subst ev1
  refine va_sld hx hb hX hbl hbA hw.2.2.1 (by unfold vp_in; decide) dL_law_1083 ?_
  refine lv_aload_n hx hb dL_law_1084 rfl (lv_at hl 3 rfl) ?_
  refine lv_iload_n hx hb dL_law_1085 rfl (lv_at hl 0 rfl) ?_
  refine lv_iconst (v := 2) hx hb dL_law_1086 (by decide) ?_
  refine lv_iadd hx hb dL_law_1087 ?_
  refine lv_topi (fun v2 ev2 => ?_)
  have ev2 : v2 = 2 := by rw [ev2]; decide
  subst ev2
  refine va_sld hx hb hX hbl hbA hw.2.2.1 (by unfold vp_in; decide) dL_law_1088 ?_
  refine lv_aload_n hx hb dL_law_1089 rfl (lv_at hl 3 rfl) ?_
  refine lv_iload_n hx hb dL_law_1090 rfl (lv_at hl 0 rfl) ?_
  refine lv_iconst (v := 3) hx hb dL_law_1091 (by decide) ?_
  refine lv_iadd hx hb dL_law_1092 ?_
  refine lv_topi (fun v3 ev3 => ?_)
  have ev3 : v3 = 3 := by rw [ev3]; decide
  subst ev3
  refine va_sld hx hb hX hbl hbA hw.2.2.1 (by unfold vp_in; decide) dL_law_1093 ?_
  refine lv_aload_n hx hb dL_law_1094 rfl (lv_at hl 3 rfl) ?_
  refine lv_iload_n hx hb dL_law_1095 rfl (lv_at hl 0 rfl) ?_
  refine lv_iconst (v := 4) hx hb dL_law_1096 (by decide) ?_
  refine lv_iadd hx hb dL_law_1097 ?_
  refine lv_topi (fun v4 ev4 => ?_)
  have ev4 : v4 = 4 := by rw [ev4]; decide
  subst ev4
  refine va_sld hx hb hX hbl hbA hw.2.2.1 (by unfold vp_in; decide) dL_law_1098 ?_
  obtain ⟨fsx, hSx⟩ := hFx.self.2
  refine kq_callI (As := [.int (xs (Int32.toNatClampNeg 1)), .int (xs (Int32.toNatClampNeg 2)), .int (xs (Int32.toNatClampNeg 3)), .int (xs (Int32.toNatClampNeg 4))]) (rest := []) (n := 4) (q := (RX7, TX7, 9)) (ci := 7) (mc := 0) (ms := 0) ⟨hx, hb, hml, hown, hts⟩ (f_X7_fits l E Lx σx hFx (xs (Int32.toNatClampNeg 1)) (xs (Int32.toNatClampNeg 2)) (xs (Int32.toNatClampNeg 3)) (xs (Int32.toNatClampNeg 4))) gL_law_X7_fits rfl (by decide +kernel) ⟨Nat.le_of_ble_eq_true rfl, Nat.le_of_ble_eq_true rfl⟩ hK hw hFx.self.1 hSx rfl rfl hl.1 rfl (Nat.le_of_ble_eq_true rfl) dL_law_1099 rfl rfl ⟨Nat.le_of_ble_eq_true rfl, Nat.le_of_ble_eq_true rfl⟩ (fun r1 Lr1 σr1 H locs er1 hw => ?_)
  refine lv_aload_n hx hb dL_law_1102 rfl (lv_at hl 1 rfl) ?_
  refine lv_aload_n hx hb dL_law_1103 rfl (lv_at hl 3 rfl) ?_
  refine lv_iload_n hx hb dL_law_1104 rfl (lv_at hl 0 rfl) ?_
  refine lv_iconst (v := 1) hx hb dL_law_1105 (by decide) ?_
  refine lv_iadd hx hb dL_law_1106 ?_
  refine lv_topi (fun v5 ev5 => ?_)
  have ev5 : v5 = 1 := by rw [ev5]; decide
  subst ev5
  refine va_sld hx hb hX hbl hbA hw.2.2.1 (by unfold vp_in; decide) dL_law_1107 ?_
  refine lv_aload_n hx hb dL_law_1108 rfl (lv_at hl 3 rfl) ?_
  refine lv_iload_n hx hb dL_law_1109 rfl (lv_at hl 0 rfl) ?_
  refine lv_iconst (v := 2) hx hb dL_law_1110 (by decide) ?_
  refine lv_iadd hx hb dL_law_1111 ?_
  refine lv_topi (fun v6 ev6 => ?_)
  have ev6 : v6 = 2 := by rw [ev6]; decide
  subst ev6
  refine va_sld hx hb hX hbl hbA hw.2.2.1 (by unfold vp_in; decide) dL_law_1112 ?_
  refine lv_aload_n hx hb dL_law_1113 rfl (lv_at hl 3 rfl) ?_
  refine lv_iload_n hx hb dL_law_1114 rfl (lv_at hl 0 rfl) ?_
  refine lv_iconst (v := 3) hx hb dL_law_1115 (by decide) ?_
  refine lv_iadd hx hb dL_law_1116 ?_
  refine lv_topi (fun v7 ev7 => ?_)
  have ev7 : v7 = 3 := by rw [ev7]; decide
  subst ev7
  refine va_sld hx hb hX hbl hbA hw.2.2.1 (by unfold vp_in; decide) dL_law_1117 ?_
  refine lv_aload_n hx hb dL_law_1118 rfl (lv_at hl 3 rfl) ?_
  refine lv_iload_n hx hb dL_law_1119 rfl (lv_at hl 0 rfl) ?_
  refine lv_iconst (v := 4) hx hb dL_law_1120 (by decide) ?_
  refine lv_iadd hx hb dL_law_1121 ?_
  refine lv_topi (fun v8 ev8 => ?_)
  have ev8 : v8 = 4 := by rw [ev8]; decide
  subst ev8
  refine va_sld hx hb hX hbl hbA hw.2.2.1 (by unfold vp_in; decide) dL_law_1122 ?_
  have hw := kq_swap hw
  obtain ⟨fsm, hSm⟩ := hFm.self.2
  refine kq_callI (As := [.int (xs (Int32.toNatClampNeg 1)), .int (xs (Int32.toNatClampNeg 2)), .int (xs (Int32.toNatClampNeg 3)), .int (xs (Int32.toNatClampNeg 4))]) (rest := [.int r1]) (n := 4) (q := (RX8, TX8, 23)) (ci := 8) (mc := 0) (ms := 0) ⟨hx, hb, hml, hown, hts⟩ (f_X8_fits l E Lm σm hFm (xs (Int32.toNatClampNeg 1)) (xs (Int32.toNatClampNeg 2)) (xs (Int32.toNatClampNeg 3)) (xs (Int32.toNatClampNeg 4))) gL_law_X8_fits rfl (by decide +kernel) ⟨Nat.le_of_ble_eq_true rfl, Nat.le_of_ble_eq_true rfl⟩ hK hw hFm.self.1 hSm rfl rfl hl.1 rfl (Nat.le_of_ble_eq_true rfl) dL_law_1123 rfl rfl ⟨Nat.le_of_ble_eq_true rfl, Nat.le_of_ble_eq_true rfl⟩ (fun r2 Lr2 σr2 H locs er2 hw => ?_)
  refine lv_icmp_eq (tgt := 1421) hx hb dL_law_1126 (by decide) (fun ce => ?_) (fun ce => ?_)
  · exact lk_end C0 hw.2.2.1 hl (Nat.le_of_ble_eq_true rfl) (Nat.le_of_ble_eq_true rfl)
  · exact absurd (er1.trans er2.symm) ce
set_option maxHeartbeats 4000000 in
set_option maxRecDepth 100000 in
theorem lk_29 {p : Program} {l : Launch} {e : Env} {s : State} {m : MethodId} {below : List Frame} {meth : Method} {c : Code} {b : Nat} {xs : Nat → Int32} {E : kq_T} {H : Heap} {locs : List Loc} {ls : Array Slot} {x m_ : Nat} {Lx Lm : List Nat} {σx σm : Nat → va_E} (C0 : lw_At p s m meth c b 6 xs) (hK : kq_K E s) (hFx : fr_X E Lx σx x) (hFm : fr_M E Lm σm m_) (hw : kq_w E (fun q : Nat => s.heap.size ≤ q) s.heap (va_pl Lm σm) Lx σx H locs) (hl : lv_has ls 4 [(3, .int 0), (2, .ref m_), (1, .ref x), (0, .ref b)]) : W p l e room_1 s m #[Value.ref b] below meth c H locs 1000 10000 (lw_Z below #[Value.ref b] s) (F0 m 1131 ls []) := by
  obtain ⟨hx, hb, hr, hml, hown, hts, hX, hbl, hlocks, hgv⟩ := id C0
  have hown : s.vm.findClass RL = some m.cls := hown
  have hb : c.code = cL_law := hb
  have hts := fun w h => hts w (wsL_law_in w h)
  have hbA : ¬ (fun q : Nat => s.heap.size ≤ q) b := Nat.not_le.mpr hbl
  refine lv_aload_n hx hb dL_law_1131 rfl (lv_at hl 2 rfl) ?_
  refine lv_aload_n hx hb dL_law_1132 rfl (lv_at hl 3 rfl) ?_
  refine lv_iload_n hx hb dL_law_1133 rfl (lv_at hl 0 rfl) ?_
  refine lv_iconst (v := 1) hx hb dL_law_1134 (by decide) ?_
  refine lv_iadd hx hb dL_law_1135 ?_
  refine lv_topi (fun v1 ev1 => ?_)
  have ev1 : v1 = 1 := by rw [ev1]; decide
  subst ev1
  refine va_sld hx hb hX hbl hbA hw.2.2.1 (by unfold vp_in; decide) dL_law_1136 ?_
  refine lv_aload_n hx hb dL_law_1137 rfl (lv_at hl 3 rfl) ?_
  refine lv_iload_n hx hb dL_law_1138 rfl (lv_at hl 0 rfl) ?_
  refine lv_iconst (v := 2) hx hb dL_law_1139 (by decide) ?_
  refine lv_iadd hx hb dL_law_1140 ?_
  refine lv_topi (fun v2 ev2 => ?_)
  have ev2 : v2 = 2 := by rw [ev2]; decide
  subst ev2
  refine va_sld hx hb hX hbl hbA hw.2.2.1 (by unfold vp_in; decide) dL_law_1141 ?_
  refine lv_aload_n hx hb dL_law_1142 rfl (lv_at hl 3 rfl) ?_
  refine lv_iload_n hx hb dL_law_1143 rfl (lv_at hl 0 rfl) ?_
  refine lv_iconst (v := 3) hx hb dL_law_1144 (by decide) ?_
  refine lv_iadd hx hb dL_law_1145 ?_
  refine lv_topi (fun v3 ev3 => ?_)
  have ev3 : v3 = 3 := by rw [ev3]; decide
  subst ev3
  refine va_sld hx hb hX hbl hbA hw.2.2.1 (by unfold vp_in; decide) dL_law_1146 ?_
  refine lv_aload_n hx hb dL_law_1147 rfl (lv_at hl 3 rfl) ?_
  refine lv_iload_n hx hb dL_law_1148 rfl (lv_at hl 0 rfl) ?_
  refine lv_iconst (v := 4) hx hb dL_law_1149 (by decide) ?_
  refine lv_iadd hx hb dL_law_1150 ?_
  refine lv_topi (fun v4 ev4 => ?_)
  have ev4 : v4 = 4 := by rw [ev4]; decide
  subst ev4
  refine va_sld hx hb hX hbl hbA hw.2.2.1 (by unfold vp_in; decide) dL_law_1151 ?_
  obtain ⟨fsx, hSx⟩ := hFx.self.2
  refine kq_callI (As := [.int (xs (Int32.toNatClampNeg 1)), .int (xs (Int32.toNatClampNeg 2)), .int (xs (Int32.toNatClampNeg 3)), .int (xs (Int32.toNatClampNeg 4))]) (rest := []) (n := 4) (q := (RX7, TX7, 9)) (ci := 7) (mc := 0) (ms := 0) ⟨hx, hb, hml, hown, hts⟩ (f_X7_sure l E Lx σx hFx (xs (Int32.toNatClampNeg 1)) (xs (Int32.toNatClampNeg 2)) (xs (Int32.toNatClampNeg 3)) (xs (Int32.toNatClampNeg 4))) gL_law_X7_sure rfl (by decide +kernel) ⟨Nat.le_of_ble_eq_true rfl, Nat.le_of_ble_eq_true rfl⟩ hK hw hFx.self.1 hSx rfl rfl hl.1 rfl (Nat.le_of_ble_eq_true rfl) dL_law_1152 rfl rfl ⟨Nat.le_of_ble_eq_true rfl, Nat.le_of_ble_eq_true rfl⟩ (fun r1 Lr1 σr1 H locs er1 hw => ?_)
  refine lv_aload_n hx hb dL_law_1155 rfl (lv_at hl 1 rfl) ?_
  refine lv_aload_n hx hb dL_law_1156 rfl (lv_at hl 3 rfl) ?_
  refine lv_iload_n hx hb dL_law_1157 rfl (lv_at hl 0 rfl) ?_
  refine lv_iconst (v := 1) hx hb dL_law_1158 (by decide) ?_
  refine lv_iadd hx hb dL_law_1159 ?_
  refine lv_topi (fun v5 ev5 => ?_)
  have ev5 : v5 = 1 := by rw [ev5]; decide
  subst ev5
  refine va_sld hx hb hX hbl hbA hw.2.2.1 (by unfold vp_in; decide) dL_law_1160 ?_
  refine lv_aload_n hx hb dL_law_1161 rfl (lv_at hl 3 rfl) ?_
  refine lv_iload_n hx hb dL_law_1162 rfl (lv_at hl 0 rfl) ?_
  refine lv_iconst (v := 2) hx hb dL_law_1163 (by decide) ?_
  refine lv_iadd hx hb dL_law_1164 ?_
  refine lv_topi (fun v6 ev6 => ?_)
  have ev6 : v6 = 2 := by rw [ev6]; decide
  subst ev6
  refine va_sld hx hb hX hbl hbA hw.2.2.1 (by unfold vp_in; decide) dL_law_1165 ?_
  refine lv_aload_n hx hb dL_law_1166 rfl (lv_at hl 3 rfl) ?_
  refine lv_iload_n hx hb dL_law_1167 rfl (lv_at hl 0 rfl) ?_
  refine lv_iconst (v := 3) hx hb dL_law_1168 (by decide) ?_
  refine lv_iadd hx hb dL_law_1169 ?_
  refine lv_topi (fun v7 ev7 => ?_)
  have ev7 : v7 = 3 := by rw [ev7]; decide
  subst ev7
  refine va_sld hx hb hX hbl hbA hw.2.2.1 (by unfold vp_in; decide) dL_law_1170 ?_
  refine lv_aload_n hx hb dL_law_1171 rfl (lv_at hl 3 rfl) ?_
  refine lv_iload_n hx hb dL_law_1172 rfl (lv_at hl 0 rfl) ?_
  refine lv_iconst (v := 4) hx hb dL_law_1173 (by decide) ?_
  refine lv_iadd hx hb dL_law_1174 ?_
  refine lv_topi (fun v8 ev8 => ?_)
  have ev8 : v8 = 4 := by rw [ev8]; decide
  subst ev8
  refine va_sld hx hb hX hbl hbA hw.2.2.1 (by unfold vp_in; decide) dL_law_1175 ?_
  have hw := kq_swap hw
  obtain ⟨fsm, hSm⟩ := hFm.self.2
  refine kq_callI (As := [.int (xs (Int32.toNatClampNeg 1)), .int (xs (Int32.toNatClampNeg 2)), .int (xs (Int32.toNatClampNeg 3)), .int (xs (Int32.toNatClampNeg 4))]) (rest := [.int r1]) (n := 4) (q := (RX8, TX8, 23)) (ci := 8) (mc := 0) (ms := 0) ⟨hx, hb, hml, hown, hts⟩ (f_X8_sure l E Lm σm hFm (xs (Int32.toNatClampNeg 1)) (xs (Int32.toNatClampNeg 2)) (xs (Int32.toNatClampNeg 3)) (xs (Int32.toNatClampNeg 4))) gL_law_X8_sure rfl (by decide +kernel) ⟨Nat.le_of_ble_eq_true rfl, Nat.le_of_ble_eq_true rfl⟩ hK hw hFm.self.1 hSm rfl rfl hl.1 rfl (Nat.le_of_ble_eq_true rfl) dL_law_1176 rfl rfl ⟨Nat.le_of_ble_eq_true rfl, Nat.le_of_ble_eq_true rfl⟩ (fun r2 Lr2 σr2 H locs er2 hw => ?_)
  refine lv_icmp_eq (tgt := 1421) hx hb dL_law_1179 (by decide) (fun ce => ?_) (fun ce => ?_)
  · exact lk_end C0 hw.2.2.1 hl (Nat.le_of_ble_eq_true rfl) (Nat.le_of_ble_eq_true rfl)
  · exact absurd (er1.trans er2.symm) ce
set_option maxHeartbeats 4000000 in
set_option maxRecDepth 100000 in
theorem lk_30 {p : Program} {l : Launch} {e : Env} {s : State} {m : MethodId} {below : List Frame} {meth : Method} {c : Code} {b : Nat} {xs : Nat → Int32} {E : kq_T} {H : Heap} {locs : List Loc} {ls : Array Slot} {x m_ : Nat} {Lx Lm : List Nat} {σx σm : Nat → va_E} (C0 : lw_At p s m meth c b 6 xs) (hK : kq_K E s) (hFx : fr_X E Lx σx x) (hFm : fr_M E Lm σm m_) (hw : kq_w E (fun q : Nat => s.heap.size ≤ q) s.heap (va_pl Lm σm) Lx σx H locs) (hl : lv_has ls 4 [(3, .int 0), (2, .ref m_), (1, .ref x), (0, .ref b)]) : W p l e room_1 s m #[Value.ref b] below meth c H locs 1000 10000 (lw_Z below #[Value.ref b] s) (F0 m 1184 ls []) := by
  obtain ⟨hx, hb, hr, hml, hown, hts, hX, hbl, hlocks, hgv⟩ := id C0
  have hown : s.vm.findClass RL = some m.cls := hown
  have hb : c.code = cL_law := hb
  have hts := fun w h => hts w (wsL_law_in w h)
  have hbA : ¬ (fun q : Nat => s.heap.size ≤ q) b := Nat.not_le.mpr hbl
  refine lv_aload_n hx hb dL_law_1184 rfl (lv_at hl 2 rfl) ?_
  refine lv_aload_n hx hb dL_law_1185 rfl (lv_at hl 3 rfl) ?_
  refine lv_iload_n hx hb dL_law_1186 rfl (lv_at hl 0 rfl) ?_
  refine lv_iconst (v := 1) hx hb dL_law_1187 (by decide) ?_
  refine lv_iadd hx hb dL_law_1188 ?_
  refine lv_topi (fun v1 ev1 => ?_)
  have ev1 : v1 = 1 := by rw [ev1]; decide
  subst ev1
  refine va_sld hx hb hX hbl hbA hw.2.2.1 (by unfold vp_in; decide) dL_law_1189 ?_
  refine lv_aload_n hx hb dL_law_1190 rfl (lv_at hl 3 rfl) ?_
  refine lv_iload_n hx hb dL_law_1191 rfl (lv_at hl 0 rfl) ?_
  refine lv_iconst (v := 2) hx hb dL_law_1192 (by decide) ?_
  refine lv_iadd hx hb dL_law_1193 ?_
  refine lv_topi (fun v2 ev2 => ?_)
  have ev2 : v2 = 2 := by rw [ev2]; decide
  subst ev2
  refine va_sld hx hb hX hbl hbA hw.2.2.1 (by unfold vp_in; decide) dL_law_1194 ?_
  refine lv_aload_n hx hb dL_law_1195 rfl (lv_at hl 3 rfl) ?_
  refine lv_iload_n hx hb dL_law_1196 rfl (lv_at hl 0 rfl) ?_
  refine lv_iconst (v := 3) hx hb dL_law_1197 (by decide) ?_
  refine lv_iadd hx hb dL_law_1198 ?_
  refine lv_topi (fun v3 ev3 => ?_)
  have ev3 : v3 = 3 := by rw [ev3]; decide
  subst ev3
  refine va_sld hx hb hX hbl hbA hw.2.2.1 (by unfold vp_in; decide) dL_law_1199 ?_
  obtain ⟨fsx, hSx⟩ := hFx.self.2
  refine kq_callI (As := [.int (xs (Int32.toNatClampNeg 1)), .int (xs (Int32.toNatClampNeg 2)), .int (xs (Int32.toNatClampNeg 3))]) (rest := []) (n := 3) (q := (RX7, TX7, 9)) (ci := 7) (mc := 0) (ms := 0) ⟨hx, hb, hml, hown, hts⟩ (f_X7_drawn l E Lx σx hFx (xs (Int32.toNatClampNeg 1)) (xs (Int32.toNatClampNeg 2)) (xs (Int32.toNatClampNeg 3))) gL_law_X7_drawn rfl (by decide +kernel) ⟨Nat.le_of_ble_eq_true rfl, Nat.le_of_ble_eq_true rfl⟩ hK hw hFx.self.1 hSx rfl rfl hl.1 rfl (Nat.le_of_ble_eq_true rfl) dL_law_1200 rfl rfl ⟨Nat.le_of_ble_eq_true rfl, Nat.le_of_ble_eq_true rfl⟩ (fun r1 Lr1 σr1 H locs er1 hw => ?_)
  refine lv_aload_n hx hb dL_law_1203 rfl (lv_at hl 1 rfl) ?_
  refine lv_aload_n hx hb dL_law_1204 rfl (lv_at hl 3 rfl) ?_
  refine lv_iload_n hx hb dL_law_1205 rfl (lv_at hl 0 rfl) ?_
  refine lv_iconst (v := 1) hx hb dL_law_1206 (by decide) ?_
  refine lv_iadd hx hb dL_law_1207 ?_
  refine lv_topi (fun v4 ev4 => ?_)
  have ev4 : v4 = 1 := by rw [ev4]; decide
  subst ev4
  refine va_sld hx hb hX hbl hbA hw.2.2.1 (by unfold vp_in; decide) dL_law_1208 ?_
  refine lv_aload_n hx hb dL_law_1209 rfl (lv_at hl 3 rfl) ?_
  refine lv_iload_n hx hb dL_law_1210 rfl (lv_at hl 0 rfl) ?_
  refine lv_iconst (v := 2) hx hb dL_law_1211 (by decide) ?_
  refine lv_iadd hx hb dL_law_1212 ?_
  refine lv_topi (fun v5 ev5 => ?_)
  have ev5 : v5 = 2 := by rw [ev5]; decide
  subst ev5
  refine va_sld hx hb hX hbl hbA hw.2.2.1 (by unfold vp_in; decide) dL_law_1213 ?_
  refine lv_aload_n hx hb dL_law_1214 rfl (lv_at hl 3 rfl) ?_
  refine lv_iload_n hx hb dL_law_1215 rfl (lv_at hl 0 rfl) ?_
  refine lv_iconst (v := 3) hx hb dL_law_1216 (by decide) ?_
  refine lv_iadd hx hb dL_law_1217 ?_
  refine lv_topi (fun v6 ev6 => ?_)
  have ev6 : v6 = 3 := by rw [ev6]; decide
  subst ev6
  refine va_sld hx hb hX hbl hbA hw.2.2.1 (by unfold vp_in; decide) dL_law_1218 ?_
  have hw := kq_swap hw
  obtain ⟨fsm, hSm⟩ := hFm.self.2
  refine kq_callI (As := [.int (xs (Int32.toNatClampNeg 1)), .int (xs (Int32.toNatClampNeg 2)), .int (xs (Int32.toNatClampNeg 3))]) (rest := [.int r1]) (n := 3) (q := (RX8, TX8, 23)) (ci := 8) (mc := 0) (ms := 0) ⟨hx, hb, hml, hown, hts⟩ (f_X8_drawn l E Lm σm hFm (xs (Int32.toNatClampNeg 1)) (xs (Int32.toNatClampNeg 2)) (xs (Int32.toNatClampNeg 3))) gL_law_X8_drawn rfl (by decide +kernel) ⟨Nat.le_of_ble_eq_true rfl, Nat.le_of_ble_eq_true rfl⟩ hK hw hFm.self.1 hSm rfl rfl hl.1 rfl (Nat.le_of_ble_eq_true rfl) dL_law_1219 rfl rfl ⟨Nat.le_of_ble_eq_true rfl, Nat.le_of_ble_eq_true rfl⟩ (fun r2 Lr2 σr2 H locs er2 hw => ?_)
  refine lv_icmp_eq (tgt := 1421) hx hb dL_law_1222 (by decide) (fun ce => ?_) (fun ce => ?_)
  · exact lk_end C0 hw.2.2.1 hl (Nat.le_of_ble_eq_true rfl) (Nat.le_of_ble_eq_true rfl)
  · exact absurd (er1.trans er2.symm) ce
set_option maxHeartbeats 4000000 in
set_option maxRecDepth 100000 in
theorem lk_31 {p : Program} {l : Launch} {e : Env} {s : State} {m : MethodId} {below : List Frame} {meth : Method} {c : Code} {b : Nat} {xs : Nat → Int32} {E : kq_T} {H : Heap} {locs : List Loc} {ls : Array Slot} {x m_ : Nat} {Lx Lm : List Nat} {σx σm : Nat → va_E} (C0 : lw_At p s m meth c b 6 xs) (hK : kq_K E s) (hFx : fr_X E Lx σx x) (hFm : fr_M E Lm σm m_) (hw : kq_w E (fun q : Nat => s.heap.size ≤ q) s.heap (va_pl Lm σm) Lx σx H locs) (hl : lv_has ls 4 [(3, .int 0), (2, .ref m_), (1, .ref x), (0, .ref b)]) : W p l e room_1 s m #[Value.ref b] below meth c H locs 1000 10000 (lw_Z below #[Value.ref b] s) (F0 m 1227 ls []) := by
  obtain ⟨hx, hb, hr, hml, hown, hts, hX, hbl, hlocks, hgv⟩ := id C0
  have hown : s.vm.findClass RL = some m.cls := hown
  have hb : c.code = cL_law := hb
  have hts := fun w h => hts w (wsL_law_in w h)
  have hbA : ¬ (fun q : Nat => s.heap.size ≤ q) b := Nat.not_le.mpr hbl
  refine lv_aload_n hx hb dL_law_1227 rfl (lv_at hl 2 rfl) ?_
  refine lv_aload_n hx hb dL_law_1228 rfl (lv_at hl 3 rfl) ?_
  refine lv_iload_n hx hb dL_law_1229 rfl (lv_at hl 0 rfl) ?_
  refine lv_iconst (v := 1) hx hb dL_law_1230 (by decide) ?_
  refine lv_iadd hx hb dL_law_1231 ?_
  refine lv_topi (fun v1 ev1 => ?_)
  have ev1 : v1 = 1 := by rw [ev1]; decide
  subst ev1
  refine va_sld hx hb hX hbl hbA hw.2.2.1 (by unfold vp_in; decide) dL_law_1232 ?_
  obtain ⟨fsx, hSx⟩ := hFx.self.2
  refine kq_callI (As := [.int (xs (Int32.toNatClampNeg 1))]) (rest := []) (n := 1) (q := (RX7, TX7, 9)) (ci := 7) (mc := 0) (ms := 0) ⟨hx, hb, hml, hown, hts⟩ (f_X7_image l E Lx σx hFx (xs (Int32.toNatClampNeg 1))) gL_law_X7_image rfl (by decide +kernel) ⟨Nat.le_of_ble_eq_true rfl, Nat.le_of_ble_eq_true rfl⟩ hK hw hFx.self.1 hSx rfl rfl hl.1 rfl (Nat.le_of_ble_eq_true rfl) dL_law_1233 rfl rfl ⟨Nat.le_of_ble_eq_true rfl, Nat.le_of_ble_eq_true rfl⟩ (fun r1 Lr1 σr1 H locs er1 hw => ?_)
  refine lv_aload_n hx hb dL_law_1236 rfl (lv_at hl 1 rfl) ?_
  refine lv_aload_n hx hb dL_law_1237 rfl (lv_at hl 3 rfl) ?_
  refine lv_iload_n hx hb dL_law_1238 rfl (lv_at hl 0 rfl) ?_
  refine lv_iconst (v := 1) hx hb dL_law_1239 (by decide) ?_
  refine lv_iadd hx hb dL_law_1240 ?_
  refine lv_topi (fun v2 ev2 => ?_)
  have ev2 : v2 = 1 := by rw [ev2]; decide
  subst ev2
  refine va_sld hx hb hX hbl hbA hw.2.2.1 (by unfold vp_in; decide) dL_law_1241 ?_
  have hw := kq_swap hw
  obtain ⟨fsm, hSm⟩ := hFm.self.2
  refine kq_callI (As := [.int (xs (Int32.toNatClampNeg 1))]) (rest := [.int r1]) (n := 1) (q := (RX8, TX8, 23)) (ci := 8) (mc := 0) (ms := 0) ⟨hx, hb, hml, hown, hts⟩ (f_X8_image l E Lm σm hFm (xs (Int32.toNatClampNeg 1))) gL_law_X8_image rfl (by decide +kernel) ⟨Nat.le_of_ble_eq_true rfl, Nat.le_of_ble_eq_true rfl⟩ hK hw hFm.self.1 hSm rfl rfl hl.1 rfl (Nat.le_of_ble_eq_true rfl) dL_law_1242 rfl rfl ⟨Nat.le_of_ble_eq_true rfl, Nat.le_of_ble_eq_true rfl⟩ (fun r2 Lr2 σr2 H locs er2 hw => ?_)
  refine lv_icmp_eq (tgt := 1421) hx hb dL_law_1245 (by decide) (fun ce => ?_) (fun ce => ?_)
  · exact lk_end C0 hw.2.2.1 hl (Nat.le_of_ble_eq_true rfl) (Nat.le_of_ble_eq_true rfl)
  · exact absurd (er1.trans er2.symm) ce
set_option maxHeartbeats 4000000 in
set_option maxRecDepth 100000 in
theorem lk_32 {p : Program} {l : Launch} {e : Env} {s : State} {m : MethodId} {below : List Frame} {meth : Method} {c : Code} {b : Nat} {xs : Nat → Int32} {E : kq_T} {H : Heap} {locs : List Loc} {ls : Array Slot} {x m_ : Nat} {Lx Lm : List Nat} {σx σm : Nat → va_E} (C0 : lw_At p s m meth c b 6 xs) (hK : kq_K E s) (hFx : fr_X E Lx σx x) (hFm : fr_M E Lm σm m_) (hw : kq_w E (fun q : Nat => s.heap.size ≤ q) s.heap (va_pl Lm σm) Lx σx H locs) (hl : lv_has ls 4 [(3, .int 0), (2, .ref m_), (1, .ref x), (0, .ref b)]) : W p l e room_1 s m #[Value.ref b] below meth c H locs 1000 10000 (lw_Z below #[Value.ref b] s) (F0 m 1250 ls []) := by
  obtain ⟨hx, hb, hr, hml, hown, hts, hX, hbl, hlocks, hgv⟩ := id C0
  have hown : s.vm.findClass RL = some m.cls := hown
  have hb : c.code = cL_law := hb
  have hts := fun w h => hts w (wsL_law_in w h)
  have hbA : ¬ (fun q : Nat => s.heap.size ≤ q) b := Nat.not_le.mpr hbl
  refine lv_aload_n hx hb dL_law_1250 rfl (lv_at hl 2 rfl) ?_
  refine lv_aload_n hx hb dL_law_1251 rfl (lv_at hl 3 rfl) ?_
  refine lv_iload_n hx hb dL_law_1252 rfl (lv_at hl 0 rfl) ?_
  refine lv_iconst (v := 1) hx hb dL_law_1253 (by decide) ?_
  refine lv_iadd hx hb dL_law_1254 ?_
  refine lv_topi (fun v1 ev1 => ?_)
  have ev1 : v1 = 1 := by rw [ev1]; decide
  subst ev1
  refine va_sld hx hb hX hbl hbA hw.2.2.1 (by unfold vp_in; decide) dL_law_1255 ?_
  obtain ⟨fsx, hSx⟩ := hFx.self.2
  refine kq_callI (As := [.int (xs (Int32.toNatClampNeg 1))]) (rest := []) (n := 1) (q := (RX7, TX7, 9)) (ci := 7) (mc := 0) (ms := 0) ⟨hx, hb, hml, hown, hts⟩ (f_X7_restore l E Lx σx hFx (xs (Int32.toNatClampNeg 1))) gL_law_X7_restore rfl (by decide +kernel) ⟨Nat.le_of_ble_eq_true rfl, Nat.le_of_ble_eq_true rfl⟩ hK hw hFx.self.1 hSx rfl rfl hl.1 rfl (Nat.le_of_ble_eq_true rfl) dL_law_1256 rfl rfl ⟨Nat.le_of_ble_eq_true rfl, Nat.le_of_ble_eq_true rfl⟩ (fun r1 Lr1 σr1 H locs er1 hw => ?_)
  refine lv_aload_n hx hb dL_law_1259 rfl (lv_at hl 1 rfl) ?_
  refine lv_aload_n hx hb dL_law_1260 rfl (lv_at hl 3 rfl) ?_
  refine lv_iload_n hx hb dL_law_1261 rfl (lv_at hl 0 rfl) ?_
  refine lv_iconst (v := 1) hx hb dL_law_1262 (by decide) ?_
  refine lv_iadd hx hb dL_law_1263 ?_
  refine lv_topi (fun v2 ev2 => ?_)
  have ev2 : v2 = 1 := by rw [ev2]; decide
  subst ev2
  refine va_sld hx hb hX hbl hbA hw.2.2.1 (by unfold vp_in; decide) dL_law_1264 ?_
  have hw := kq_swap hw
  obtain ⟨fsm, hSm⟩ := hFm.self.2
  refine kq_callI (As := [.int (xs (Int32.toNatClampNeg 1))]) (rest := [.int r1]) (n := 1) (q := (RX8, TX8, 23)) (ci := 8) (mc := 0) (ms := 0) ⟨hx, hb, hml, hown, hts⟩ (f_X8_restore l E Lm σm hFm (xs (Int32.toNatClampNeg 1))) gL_law_X8_restore rfl (by decide +kernel) ⟨Nat.le_of_ble_eq_true rfl, Nat.le_of_ble_eq_true rfl⟩ hK hw hFm.self.1 hSm rfl rfl hl.1 rfl (Nat.le_of_ble_eq_true rfl) dL_law_1265 rfl rfl ⟨Nat.le_of_ble_eq_true rfl, Nat.le_of_ble_eq_true rfl⟩ (fun r2 Lr2 σr2 H locs er2 hw => ?_)
  refine lv_icmp_eq (tgt := 1421) hx hb dL_law_1268 (by decide) (fun ce => ?_) (fun ce => ?_)
  · exact lk_end C0 hw.2.2.1 hl (Nat.le_of_ble_eq_true rfl) (Nat.le_of_ble_eq_true rfl)
  · exact absurd (er1.trans er2.symm) ce
set_option maxHeartbeats 4000000 in
set_option maxRecDepth 100000 in
theorem lk_33 {p : Program} {l : Launch} {e : Env} {s : State} {m : MethodId} {below : List Frame} {meth : Method} {c : Code} {b : Nat} {xs : Nat → Int32} {E : kq_T} {H : Heap} {locs : List Loc} {ls : Array Slot} {x m_ : Nat} {Lx Lm : List Nat} {σx σm : Nat → va_E} (C0 : lw_At p s m meth c b 6 xs) (hK : kq_K E s) (hFx : fr_X E Lx σx x) (hFm : fr_M E Lm σm m_) (hw : kq_w E (fun q : Nat => s.heap.size ≤ q) s.heap (va_pl Lm σm) Lx σx H locs) (hl : lv_has ls 4 [(3, .int 0), (2, .ref m_), (1, .ref x), (0, .ref b)]) : W p l e room_1 s m #[Value.ref b] below meth c H locs 1000 10000 (lw_Z below #[Value.ref b] s) (F0 m 1273 ls []) := by
  obtain ⟨hx, hb, hr, hml, hown, hts, hX, hbl, hlocks, hgv⟩ := id C0
  have hown : s.vm.findClass RL = some m.cls := hown
  have hb : c.code = cL_law := hb
  have hts := fun w h => hts w (wsL_law_in w h)
  have hbA : ¬ (fun q : Nat => s.heap.size ≤ q) b := Nat.not_le.mpr hbl
  refine lv_aload_n hx hb dL_law_1273 rfl (lv_at hl 2 rfl) ?_
  refine lv_aload_n hx hb dL_law_1274 rfl (lv_at hl 3 rfl) ?_
  refine lv_iload_n hx hb dL_law_1275 rfl (lv_at hl 0 rfl) ?_
  refine lv_iconst (v := 1) hx hb dL_law_1276 (by decide) ?_
  refine lv_iadd hx hb dL_law_1277 ?_
  refine lv_topi (fun v1 ev1 => ?_)
  have ev1 : v1 = 1 := by rw [ev1]; decide
  subst ev1
  refine va_sld hx hb hX hbl hbA hw.2.2.1 (by unfold vp_in; decide) dL_law_1278 ?_
  obtain ⟨fsx, hSx⟩ := hFx.self.2
  refine kq_callI (As := [.int (xs (Int32.toNatClampNeg 1))]) (rest := []) (n := 1) (q := (RX7, TX7, 9)) (ci := 7) (mc := 0) (ms := 0) ⟨hx, hb, hml, hown, hts⟩ (f_X7_kind l E Lx σx hFx (xs (Int32.toNatClampNeg 1))) gL_law_X7_kind rfl (by decide +kernel) ⟨Nat.le_of_ble_eq_true rfl, Nat.le_of_ble_eq_true rfl⟩ hK hw hFx.self.1 hSx rfl rfl hl.1 rfl (Nat.le_of_ble_eq_true rfl) dL_law_1279 rfl rfl ⟨Nat.le_of_ble_eq_true rfl, Nat.le_of_ble_eq_true rfl⟩ (fun r1 Lr1 σr1 H locs er1 hw => ?_)
  refine lv_aload_n hx hb dL_law_1282 rfl (lv_at hl 1 rfl) ?_
  refine lv_aload_n hx hb dL_law_1283 rfl (lv_at hl 3 rfl) ?_
  refine lv_iload_n hx hb dL_law_1284 rfl (lv_at hl 0 rfl) ?_
  refine lv_iconst (v := 1) hx hb dL_law_1285 (by decide) ?_
  refine lv_iadd hx hb dL_law_1286 ?_
  refine lv_topi (fun v2 ev2 => ?_)
  have ev2 : v2 = 1 := by rw [ev2]; decide
  subst ev2
  refine va_sld hx hb hX hbl hbA hw.2.2.1 (by unfold vp_in; decide) dL_law_1287 ?_
  have hw := kq_swap hw
  obtain ⟨fsm, hSm⟩ := hFm.self.2
  refine kq_callI (As := [.int (xs (Int32.toNatClampNeg 1))]) (rest := [.int r1]) (n := 1) (q := (RX8, TX8, 23)) (ci := 8) (mc := 0) (ms := 0) ⟨hx, hb, hml, hown, hts⟩ (f_X8_kind l E Lm σm hFm (xs (Int32.toNatClampNeg 1))) gL_law_X8_kind rfl (by decide +kernel) ⟨Nat.le_of_ble_eq_true rfl, Nat.le_of_ble_eq_true rfl⟩ hK hw hFm.self.1 hSm rfl rfl hl.1 rfl (Nat.le_of_ble_eq_true rfl) dL_law_1288 rfl rfl ⟨Nat.le_of_ble_eq_true rfl, Nat.le_of_ble_eq_true rfl⟩ (fun r2 Lr2 σr2 H locs er2 hw => ?_)
  refine lv_icmp_eq (tgt := 1421) hx hb dL_law_1291 (by decide) (fun ce => ?_) (fun ce => ?_)
  · exact lk_end C0 hw.2.2.1 hl (Nat.le_of_ble_eq_true rfl) (Nat.le_of_ble_eq_true rfl)
  · exact absurd (er1.trans er2.symm) ce
set_option maxHeartbeats 4000000 in
set_option maxRecDepth 100000 in
theorem lk_34 {p : Program} {l : Launch} {e : Env} {s : State} {m : MethodId} {below : List Frame} {meth : Method} {c : Code} {b : Nat} {xs : Nat → Int32} {E : kq_T} {H : Heap} {locs : List Loc} {ls : Array Slot} {x m_ : Nat} {Lx Lm : List Nat} {σx σm : Nat → va_E} (C0 : lw_At p s m meth c b 6 xs) (hK : kq_K E s) (hFx : fr_X E Lx σx x) (hFm : fr_M E Lm σm m_) (hw : kq_w E (fun q : Nat => s.heap.size ≤ q) s.heap (va_pl Lm σm) Lx σx H locs) (hl : lv_has ls 4 [(3, .int 0), (2, .ref m_), (1, .ref x), (0, .ref b)]) : W p l e room_1 s m #[Value.ref b] below meth c H locs 1000 10000 (lw_Z below #[Value.ref b] s) (F0 m 1296 ls []) := by
  obtain ⟨hx, hb, hr, hml, hown, hts, hX, hbl, hlocks, hgv⟩ := id C0
  have hown : s.vm.findClass RL = some m.cls := hown
  have hb : c.code = cL_law := hb
  have hts := fun w h => hts w (wsL_law_in w h)
  have hbA : ¬ (fun q : Nat => s.heap.size ≤ q) b := Nat.not_le.mpr hbl
  refine lv_aload_n hx hb dL_law_1296 rfl (lv_at hl 2 rfl) ?_
  refine lv_aload_n hx hb dL_law_1297 rfl (lv_at hl 3 rfl) ?_
  refine lv_iload_n hx hb dL_law_1298 rfl (lv_at hl 0 rfl) ?_
  refine lv_iconst (v := 1) hx hb dL_law_1299 (by decide) ?_
  refine lv_iadd hx hb dL_law_1300 ?_
  refine lv_topi (fun v1 ev1 => ?_)
  have ev1 : v1 = 1 := by rw [ev1]; decide
  subst ev1
  refine va_sld hx hb hX hbl hbA hw.2.2.1 (by unfold vp_in; decide) dL_law_1301 ?_
  refine lv_aload_n hx hb dL_law_1302 rfl (lv_at hl 3 rfl) ?_
  refine lv_iload_n hx hb dL_law_1303 rfl (lv_at hl 0 rfl) ?_
  refine lv_iconst (v := 2) hx hb dL_law_1304 (by decide) ?_
  refine lv_iadd hx hb dL_law_1305 ?_
  refine lv_topi (fun v2 ev2 => ?_)
  have ev2 : v2 = 2 := by rw [ev2]; decide
  subst ev2
  refine va_sld hx hb hX hbl hbA hw.2.2.1 (by unfold vp_in; decide) dL_law_1306 ?_
  obtain ⟨fsx, hSx⟩ := hFx.self.2
  refine kq_callI (As := [.int (xs (Int32.toNatClampNeg 1)), .int (xs (Int32.toNatClampNeg 2))]) (rest := []) (n := 2) (q := (RX7, TX7, 9)) (ci := 7) (mc := 0) (ms := 0) ⟨hx, hb, hml, hown, hts⟩ (f_X7_as l E Lx σx hFx (xs (Int32.toNatClampNeg 1)) (xs (Int32.toNatClampNeg 2))) gL_law_X7_as rfl (by decide +kernel) ⟨Nat.le_of_ble_eq_true rfl, Nat.le_of_ble_eq_true rfl⟩ hK hw hFx.self.1 hSx rfl rfl hl.1 rfl (Nat.le_of_ble_eq_true rfl) dL_law_1307 rfl rfl ⟨Nat.le_of_ble_eq_true rfl, Nat.le_of_ble_eq_true rfl⟩ (fun r1 Lr1 σr1 H locs er1 hw => ?_)
  refine lv_aload_n hx hb dL_law_1310 rfl (lv_at hl 1 rfl) ?_
  refine lv_aload_n hx hb dL_law_1311 rfl (lv_at hl 3 rfl) ?_
  refine lv_iload_n hx hb dL_law_1312 rfl (lv_at hl 0 rfl) ?_
  refine lv_iconst (v := 1) hx hb dL_law_1313 (by decide) ?_
  refine lv_iadd hx hb dL_law_1314 ?_
  refine lv_topi (fun v3 ev3 => ?_)
  have ev3 : v3 = 1 := by rw [ev3]; decide
  subst ev3
  refine va_sld hx hb hX hbl hbA hw.2.2.1 (by unfold vp_in; decide) dL_law_1315 ?_
  refine lv_aload_n hx hb dL_law_1316 rfl (lv_at hl 3 rfl) ?_
  refine lv_iload_n hx hb dL_law_1317 rfl (lv_at hl 0 rfl) ?_
  refine lv_iconst (v := 2) hx hb dL_law_1318 (by decide) ?_
  refine lv_iadd hx hb dL_law_1319 ?_
  refine lv_topi (fun v4 ev4 => ?_)
  have ev4 : v4 = 2 := by rw [ev4]; decide
  subst ev4
  refine va_sld hx hb hX hbl hbA hw.2.2.1 (by unfold vp_in; decide) dL_law_1320 ?_
  have hw := kq_swap hw
  obtain ⟨fsm, hSm⟩ := hFm.self.2
  refine kq_callI (As := [.int (xs (Int32.toNatClampNeg 1)), .int (xs (Int32.toNatClampNeg 2))]) (rest := [.int r1]) (n := 2) (q := (RX8, TX8, 23)) (ci := 8) (mc := 0) (ms := 0) ⟨hx, hb, hml, hown, hts⟩ (f_X8_as l E Lm σm hFm (xs (Int32.toNatClampNeg 1)) (xs (Int32.toNatClampNeg 2))) gL_law_X8_as rfl (by decide +kernel) ⟨Nat.le_of_ble_eq_true rfl, Nat.le_of_ble_eq_true rfl⟩ hK hw hFm.self.1 hSm rfl rfl hl.1 rfl (Nat.le_of_ble_eq_true rfl) dL_law_1321 rfl rfl ⟨Nat.le_of_ble_eq_true rfl, Nat.le_of_ble_eq_true rfl⟩ (fun r2 Lr2 σr2 H locs er2 hw => ?_)
  refine lv_icmp_eq (tgt := 1421) hx hb dL_law_1324 (by decide) (fun ce => ?_) (fun ce => ?_)
  · exact lk_end C0 hw.2.2.1 hl (Nat.le_of_ble_eq_true rfl) (Nat.le_of_ble_eq_true rfl)
  · exact absurd (er1.trans er2.symm) ce
set_option maxHeartbeats 4000000 in
set_option maxRecDepth 100000 in
theorem lk_35 {p : Program} {l : Launch} {e : Env} {s : State} {m : MethodId} {below : List Frame} {meth : Method} {c : Code} {b : Nat} {xs : Nat → Int32} {E : kq_T} {H : Heap} {locs : List Loc} {ls : Array Slot} {x m_ : Nat} {Lx Lm : List Nat} {σx σm : Nat → va_E} (C0 : lw_At p s m meth c b 6 xs) (hK : kq_K E s) (hFx : fr_X E Lx σx x) (hFm : fr_M E Lm σm m_) (hw : kq_w E (fun q : Nat => s.heap.size ≤ q) s.heap (va_pl Lm σm) Lx σx H locs) (hl : lv_has ls 4 [(3, .int 0), (2, .ref m_), (1, .ref x), (0, .ref b)]) : W p l e room_1 s m #[Value.ref b] below meth c H locs 1000 10000 (lw_Z below #[Value.ref b] s) (F0 m 1329 ls []) := by
  obtain ⟨hx, hb, hr, hml, hown, hts, hX, hbl, hlocks, hgv⟩ := id C0
  have hown : s.vm.findClass RL = some m.cls := hown
  have hb : c.code = cL_law := hb
  have hts := fun w h => hts w (wsL_law_in w h)
  have hbA : ¬ (fun q : Nat => s.heap.size ≤ q) b := Nat.not_le.mpr hbl
  refine lv_aload_n hx hb dL_law_1329 rfl (lv_at hl 2 rfl) ?_
  refine lv_aload_n hx hb dL_law_1330 rfl (lv_at hl 3 rfl) ?_
  refine lv_iload_n hx hb dL_law_1331 rfl (lv_at hl 0 rfl) ?_
  refine lv_iconst (v := 1) hx hb dL_law_1332 (by decide) ?_
  refine lv_iadd hx hb dL_law_1333 ?_
  refine lv_topi (fun v1 ev1 => ?_)
  have ev1 : v1 = 1 := by rw [ev1]; decide
  subst ev1
  refine va_sld hx hb hX hbl hbA hw.2.2.1 (by unfold vp_in; decide) dL_law_1334 ?_
  refine lv_aload_n hx hb dL_law_1335 rfl (lv_at hl 3 rfl) ?_
  refine lv_iload_n hx hb dL_law_1336 rfl (lv_at hl 0 rfl) ?_
  refine lv_iconst (v := 2) hx hb dL_law_1337 (by decide) ?_
  refine lv_iadd hx hb dL_law_1338 ?_
  refine lv_topi (fun v2 ev2 => ?_)
  have ev2 : v2 = 2 := by rw [ev2]; decide
  subst ev2
  refine va_sld hx hb hX hbl hbA hw.2.2.1 (by unfold vp_in; decide) dL_law_1339 ?_
  obtain ⟨fsx, hSx⟩ := hFx.self.2
  refine kq_callI (As := [.int (xs (Int32.toNatClampNeg 1)), .int (xs (Int32.toNatClampNeg 2))]) (rest := []) (n := 2) (q := (RX7, TX7, 9)) (ci := 7) (mc := 0) (ms := 0) ⟨hx, hb, hml, hown, hts⟩ (f_X7_ask l E Lx σx hFx (xs (Int32.toNatClampNeg 1)) (xs (Int32.toNatClampNeg 2))) gL_law_X7_ask rfl (by decide +kernel) ⟨Nat.le_of_ble_eq_true rfl, Nat.le_of_ble_eq_true rfl⟩ hK hw hFx.self.1 hSx rfl rfl hl.1 rfl (Nat.le_of_ble_eq_true rfl) dL_law_1340 rfl rfl ⟨Nat.le_of_ble_eq_true rfl, Nat.le_of_ble_eq_true rfl⟩ (fun r1 Lr1 σr1 H locs er1 hw => ?_)
  refine lv_aload_n hx hb dL_law_1343 rfl (lv_at hl 1 rfl) ?_
  refine lv_aload_n hx hb dL_law_1344 rfl (lv_at hl 3 rfl) ?_
  refine lv_iload_n hx hb dL_law_1345 rfl (lv_at hl 0 rfl) ?_
  refine lv_iconst (v := 1) hx hb dL_law_1346 (by decide) ?_
  refine lv_iadd hx hb dL_law_1347 ?_
  refine lv_topi (fun v3 ev3 => ?_)
  have ev3 : v3 = 1 := by rw [ev3]; decide
  subst ev3
  refine va_sld hx hb hX hbl hbA hw.2.2.1 (by unfold vp_in; decide) dL_law_1348 ?_
  refine lv_aload_n hx hb dL_law_1349 rfl (lv_at hl 3 rfl) ?_
  refine lv_iload_n hx hb dL_law_1350 rfl (lv_at hl 0 rfl) ?_
  refine lv_iconst (v := 2) hx hb dL_law_1351 (by decide) ?_
  refine lv_iadd hx hb dL_law_1352 ?_
  refine lv_topi (fun v4 ev4 => ?_)
  have ev4 : v4 = 2 := by rw [ev4]; decide
  subst ev4
  refine va_sld hx hb hX hbl hbA hw.2.2.1 (by unfold vp_in; decide) dL_law_1353 ?_
  have hw := kq_swap hw
  obtain ⟨fsm, hSm⟩ := hFm.self.2
  refine kq_callI (As := [.int (xs (Int32.toNatClampNeg 1)), .int (xs (Int32.toNatClampNeg 2))]) (rest := [.int r1]) (n := 2) (q := (RX8, TX8, 23)) (ci := 8) (mc := 0) (ms := 0) ⟨hx, hb, hml, hown, hts⟩ (f_X8_ask l E Lm σm hFm (xs (Int32.toNatClampNeg 1)) (xs (Int32.toNatClampNeg 2))) gL_law_X8_ask rfl (by decide +kernel) ⟨Nat.le_of_ble_eq_true rfl, Nat.le_of_ble_eq_true rfl⟩ hK hw hFm.self.1 hSm rfl rfl hl.1 rfl (Nat.le_of_ble_eq_true rfl) dL_law_1354 rfl rfl ⟨Nat.le_of_ble_eq_true rfl, Nat.le_of_ble_eq_true rfl⟩ (fun r2 Lr2 σr2 H locs er2 hw => ?_)
  refine lv_icmp_eq (tgt := 1421) hx hb dL_law_1357 (by decide) (fun ce => ?_) (fun ce => ?_)
  · exact lk_end C0 hw.2.2.1 hl (Nat.le_of_ble_eq_true rfl) (Nat.le_of_ble_eq_true rfl)
  · exact absurd (er1.trans er2.symm) ce
set_option maxHeartbeats 4000000 in
set_option maxRecDepth 100000 in
theorem lk_36 {p : Program} {l : Launch} {e : Env} {s : State} {m : MethodId} {below : List Frame} {meth : Method} {c : Code} {b : Nat} {xs : Nat → Int32} {E : kq_T} {H : Heap} {locs : List Loc} {ls : Array Slot} {x m_ : Nat} {Lx Lm : List Nat} {σx σm : Nat → va_E} (C0 : lw_At p s m meth c b 6 xs) (hK : kq_K E s) (hFx : fr_X E Lx σx x) (hFm : fr_M E Lm σm m_) (hw : kq_w E (fun q : Nat => s.heap.size ≤ q) s.heap (va_pl Lm σm) Lx σx H locs) (hl : lv_has ls 4 [(3, .int 0), (2, .ref m_), (1, .ref x), (0, .ref b)]) : W p l e room_1 s m #[Value.ref b] below meth c H locs 1000 10000 (lw_Z below #[Value.ref b] s) (F0 m 1362 ls []) := by
  obtain ⟨hx, hb, hr, hml, hown, hts, hX, hbl, hlocks, hgv⟩ := id C0
  have hown : s.vm.findClass RL = some m.cls := hown
  have hb : c.code = cL_law := hb
  have hts := fun w h => hts w (wsL_law_in w h)
  have hbA : ¬ (fun q : Nat => s.heap.size ≤ q) b := Nat.not_le.mpr hbl
  refine lv_aload_n hx hb dL_law_1362 rfl (lv_at hl 2 rfl) ?_
  refine lv_aload_n hx hb dL_law_1363 rfl (lv_at hl 3 rfl) ?_
  refine lv_iload_n hx hb dL_law_1364 rfl (lv_at hl 0 rfl) ?_
  refine lv_iconst (v := 1) hx hb dL_law_1365 (by decide) ?_
  refine lv_iadd hx hb dL_law_1366 ?_
  refine lv_topi (fun v1 ev1 => ?_)
  have ev1 : v1 = 1 := by rw [ev1]; decide
  subst ev1
  refine va_sld hx hb hX hbl hbA hw.2.2.1 (by unfold vp_in; decide) dL_law_1367 ?_
  obtain ⟨fsx, hSx⟩ := hFx.self.2
  refine kq_callI (As := [.int (xs (Int32.toNatClampNeg 1))]) (rest := []) (n := 1) (q := (RX7, TX7, 9)) (ci := 7) (mc := 0) (ms := 0) ⟨hx, hb, hml, hown, hts⟩ (f_X7_trace l E Lx σx hFx (xs (Int32.toNatClampNeg 1))) gL_law_X7_trace rfl (by decide +kernel) ⟨Nat.le_of_ble_eq_true rfl, Nat.le_of_ble_eq_true rfl⟩ hK hw hFx.self.1 hSx rfl rfl hl.1 rfl (Nat.le_of_ble_eq_true rfl) dL_law_1368 rfl rfl ⟨Nat.le_of_ble_eq_true rfl, Nat.le_of_ble_eq_true rfl⟩ (fun r1 Lr1 σr1 H locs er1 hw => ?_)
  refine lv_aload_n hx hb dL_law_1371 rfl (lv_at hl 1 rfl) ?_
  refine lv_aload_n hx hb dL_law_1372 rfl (lv_at hl 3 rfl) ?_
  refine lv_iload_n hx hb dL_law_1373 rfl (lv_at hl 0 rfl) ?_
  refine lv_iconst (v := 1) hx hb dL_law_1374 (by decide) ?_
  refine lv_iadd hx hb dL_law_1375 ?_
  refine lv_topi (fun v2 ev2 => ?_)
  have ev2 : v2 = 1 := by rw [ev2]; decide
  subst ev2
  refine va_sld hx hb hX hbl hbA hw.2.2.1 (by unfold vp_in; decide) dL_law_1376 ?_
  have hw := kq_swap hw
  obtain ⟨fsm, hSm⟩ := hFm.self.2
  refine kq_callI (As := [.int (xs (Int32.toNatClampNeg 1))]) (rest := [.int r1]) (n := 1) (q := (RX8, TX8, 23)) (ci := 8) (mc := 0) (ms := 0) ⟨hx, hb, hml, hown, hts⟩ (f_X8_trace l E Lm σm hFm (xs (Int32.toNatClampNeg 1))) gL_law_X8_trace rfl (by decide +kernel) ⟨Nat.le_of_ble_eq_true rfl, Nat.le_of_ble_eq_true rfl⟩ hK hw hFm.self.1 hSm rfl rfl hl.1 rfl (Nat.le_of_ble_eq_true rfl) dL_law_1377 rfl rfl ⟨Nat.le_of_ble_eq_true rfl, Nat.le_of_ble_eq_true rfl⟩ (fun r2 Lr2 σr2 H locs er2 hw => ?_)
  refine lv_icmp_eq (tgt := 1421) hx hb dL_law_1380 (by decide) (fun ce => ?_) (fun ce => ?_)
  · exact lk_end C0 hw.2.2.1 hl (Nat.le_of_ble_eq_true rfl) (Nat.le_of_ble_eq_true rfl)
  · exact absurd (er1.trans er2.symm) ce
set_option maxHeartbeats 4000000 in
set_option maxRecDepth 100000 in
theorem lk_37 {p : Program} {l : Launch} {e : Env} {s : State} {m : MethodId} {below : List Frame} {meth : Method} {c : Code} {b : Nat} {xs : Nat → Int32} {E : kq_T} {H : Heap} {locs : List Loc} {ls : Array Slot} {x m_ : Nat} {Lx Lm : List Nat} {σx σm : Nat → va_E} (C0 : lw_At p s m meth c b 6 xs) (hK : kq_K E s) (hFx : fr_X E Lx σx x) (hFm : fr_M E Lm σm m_) (hw : kq_w E (fun q : Nat => s.heap.size ≤ q) s.heap (va_pl Lm σm) Lx σx H locs) (hl : lv_has ls 4 [(3, .int 0), (2, .ref m_), (1, .ref x), (0, .ref b)]) : W p l e room_1 s m #[Value.ref b] below meth c H locs 1000 10000 (lw_Z below #[Value.ref b] s) (F0 m 1385 ls []) := by
  obtain ⟨hx, hb, hr, hml, hown, hts, hX, hbl, hlocks, hgv⟩ := id C0
  have hown : s.vm.findClass RL = some m.cls := hown
  have hb : c.code = cL_law := hb
  have hts := fun w h => hts w (wsL_law_in w h)
  have hbA : ¬ (fun q : Nat => s.heap.size ≤ q) b := Nat.not_le.mpr hbl
  refine lv_aload_n hx hb dL_law_1385 rfl (lv_at hl 2 rfl) ?_
  refine lv_aload_n hx hb dL_law_1386 rfl (lv_at hl 3 rfl) ?_
  refine lv_iload_n hx hb dL_law_1387 rfl (lv_at hl 0 rfl) ?_
  refine lv_iconst (v := 1) hx hb dL_law_1388 (by decide) ?_
  refine lv_iadd hx hb dL_law_1389 ?_
  refine lv_topi (fun v1 ev1 => ?_)
  have ev1 : v1 = 1 := by rw [ev1]; decide
  subst ev1
  refine va_sld hx hb hX hbl hbA hw.2.2.1 (by unfold vp_in; decide) dL_law_1390 ?_
  obtain ⟨fsx, hSx⟩ := hFx.self.2
  refine kq_callI (As := [.int (xs (Int32.toNatClampNeg 1))]) (rest := []) (n := 1) (q := (RX7, TX7, 9)) (ci := 7) (mc := 0) (ms := 0) ⟨hx, hb, hml, hown, hts⟩ (f_X7_count l E Lx σx hFx (xs (Int32.toNatClampNeg 1))) gL_law_X7_count rfl (by decide +kernel) ⟨Nat.le_of_ble_eq_true rfl, Nat.le_of_ble_eq_true rfl⟩ hK hw hFx.self.1 hSx rfl rfl hl.1 rfl (Nat.le_of_ble_eq_true rfl) dL_law_1391 rfl rfl ⟨Nat.le_of_ble_eq_true rfl, Nat.le_of_ble_eq_true rfl⟩ (fun r1 Lr1 σr1 H locs er1 hw => ?_)
  refine lv_aload_n hx hb dL_law_1394 rfl (lv_at hl 1 rfl) ?_
  refine lv_aload_n hx hb dL_law_1395 rfl (lv_at hl 3 rfl) ?_
  refine lv_iload_n hx hb dL_law_1396 rfl (lv_at hl 0 rfl) ?_
  refine lv_iconst (v := 1) hx hb dL_law_1397 (by decide) ?_
  refine lv_iadd hx hb dL_law_1398 ?_
  refine lv_topi (fun v2 ev2 => ?_)
  have ev2 : v2 = 1 := by rw [ev2]; decide
  subst ev2
  refine va_sld hx hb hX hbl hbA hw.2.2.1 (by unfold vp_in; decide) dL_law_1399 ?_
  have hw := kq_swap hw
  obtain ⟨fsm, hSm⟩ := hFm.self.2
  refine kq_callI (As := [.int (xs (Int32.toNatClampNeg 1))]) (rest := [.int r1]) (n := 1) (q := (RX8, TX8, 23)) (ci := 8) (mc := 0) (ms := 0) ⟨hx, hb, hml, hown, hts⟩ (f_X8_count l E Lm σm hFm (xs (Int32.toNatClampNeg 1))) gL_law_X8_count rfl (by decide +kernel) ⟨Nat.le_of_ble_eq_true rfl, Nat.le_of_ble_eq_true rfl⟩ hK hw hFm.self.1 hSm rfl rfl hl.1 rfl (Nat.le_of_ble_eq_true rfl) dL_law_1400 rfl rfl ⟨Nat.le_of_ble_eq_true rfl, Nat.le_of_ble_eq_true rfl⟩ (fun r2 Lr2 σr2 H locs er2 hw => ?_)
  refine lv_icmp_eq (tgt := 1421) hx hb dL_law_1403 (by decide) (fun ce => ?_) (fun ce => ?_)
  · exact lk_end C0 hw.2.2.1 hl (Nat.le_of_ble_eq_true rfl) (Nat.le_of_ble_eq_true rfl)
  · exact absurd (er1.trans er2.symm) ce
set_option maxHeartbeats 4000000 in
set_option maxRecDepth 100000 in
theorem lk_38 {p : Program} {l : Launch} {e : Env} {s : State} {m : MethodId} {below : List Frame} {meth : Method} {c : Code} {b : Nat} {xs : Nat → Int32} {E : kq_T} {H : Heap} {locs : List Loc} {ls : Array Slot} {x m_ : Nat} {Lx Lm : List Nat} {σx σm : Nat → va_E} (C0 : lw_At p s m meth c b 6 xs) (hK : kq_K E s) (hFx : fr_X E Lx σx x) (hFm : fr_M E Lm σm m_) (hw : kq_w E (fun q : Nat => s.heap.size ≤ q) s.heap (va_pl Lm σm) Lx σx H locs) (hl : lv_has ls 4 [(3, .int 0), (2, .ref m_), (1, .ref x), (0, .ref b)]) : W p l e room_1 s m #[Value.ref b] below meth c H locs 1000 10000 (lw_Z below #[Value.ref b] s) (F0 m 1408 ls []) := by
  obtain ⟨hx, hb, hr, hml, hown, hts, hX, hbl, hlocks, hgv⟩ := id C0
  have hown : s.vm.findClass RL = some m.cls := hown
  have hb : c.code = cL_law := hb
  have hts := fun w h => hts w (wsL_law_in w h)
  have hbA : ¬ (fun q : Nat => s.heap.size ≤ q) b := Nat.not_le.mpr hbl
  refine lv_aload_n hx hb dL_law_1408 rfl (lv_at hl 2 rfl) ?_
  obtain ⟨fsx, hSx⟩ := hFx.self.2
  refine kq_callI (As := []) (rest := []) (n := 0) (q := (RX7, TX7, 9)) (ci := 7) (mc := 0) (ms := 0) ⟨hx, hb, hml, hown, hts⟩ (f_X7_status l E Lx σx hFx) gL_law_X7_status rfl (by decide +kernel) ⟨Nat.le_of_ble_eq_true rfl, Nat.le_of_ble_eq_true rfl⟩ hK hw hFx.self.1 hSx rfl rfl hl.1 rfl (Nat.le_of_ble_eq_true rfl) dL_law_1409 rfl rfl ⟨Nat.le_of_ble_eq_true rfl, Nat.le_of_ble_eq_true rfl⟩ (fun r1 Lr1 σr1 H locs er1 hw => ?_)
  refine lv_aload_n hx hb dL_law_1412 rfl (lv_at hl 1 rfl) ?_
  have hw := kq_swap hw
  obtain ⟨fsm, hSm⟩ := hFm.self.2
  refine kq_callI (As := []) (rest := [.int r1]) (n := 0) (q := (RX8, TX8, 23)) (ci := 8) (mc := 0) (ms := 0) ⟨hx, hb, hml, hown, hts⟩ (f_X8_status l E Lm σm hFm) gL_law_X8_status rfl (by decide +kernel) ⟨Nat.le_of_ble_eq_true rfl, Nat.le_of_ble_eq_true rfl⟩ hK hw hFm.self.1 hSm rfl rfl hl.1 rfl (Nat.le_of_ble_eq_true rfl) dL_law_1413 rfl rfl ⟨Nat.le_of_ble_eq_true rfl, Nat.le_of_ble_eq_true rfl⟩ (fun r2 Lr2 σr2 H locs er2 hw => ?_)
  refine lv_icmp_eq (tgt := 1421) hx hb dL_law_1416 (by decide) (fun ce => ?_) (fun ce => ?_)
  · exact lk_end C0 hw.2.2.1 hl (Nat.le_of_ble_eq_true rfl) (Nat.le_of_ble_eq_true rfl)
  · exact absurd (er1.trans er2.symm) ce
