set_option maxHeartbeats 4000000 in
set_option maxRecDepth 100000 in
theorem lk_0 {p : Program} {l : Launch} {e : Env} {s : State} {m : MethodId} {below : List Frame} {meth : Method} {c : Code} {b L : Nat} {xs : Nat → Int32} {E : kq_T} {H : Heap} {locs : List Loc} {ls : Array Slot} {Zx Zm : km_Z} {vx vm : Mm} {q : Nat} {J : Mm → Mm → Prop} {C : Prop} (hop : jop_row J C) (C0 : lw_At p s m meth c b L xs) (hK : kq_K E (fun q : Nat => s.heap.size ≤ q) s) (hq : q + 6 ≤ L) (hL : L ≤ 384) (hJ : J vx vm) (hw : tw E (fun q : Nat => s.heap.size ≤ q) s.heap Zx Zm vx vm H locs) (hl : lv_has ls 4 [(3, .int (nI q)), (2, .ref (Zm.1 30 0)), (1, .ref (Zx.1 0 0)), (0, .ref b)]) (kk : ∀ (vx1 vm1 : Mm) (H1 : Heap) (locs1 : List Loc) (ls1 : Array Slot), J vx1 vm1 → tw E (fun q : Nat => s.heap.size ≤ q) s.heap Zx Zm vx1 vm1 H1 locs1 → lv_has ls1 4 [(3, .int (nI q)), (2, .ref (Zm.1 30 0)), (1, .ref (Zx.1 0 0)), (0, .ref b)] → W p l e room_1 s m #[Value.ref b] below meth c H1 locs1 1000 10000 (lw_Z below #[Value.ref b] s) (F0 m 1421 ls1 [])) : W p l e room_1 s m #[Value.ref b] below meth c H locs 1000 10000 (lw_Z below #[Value.ref b] s) (F0 m 204 ls []) := by
  obtain ⟨hx, hb, hr, hml, hown, hts, hX, hbl, hlocks, hgv⟩ := id C0
  have hown : s.vm.findClass RL = some m.cls := hown
  have hb : c.code = cL_law := hb
  have hts := fun w h => hts w (wsL_law_in w h)
  have hbA : ¬ (fun q : Nat => s.heap.size ≤ q) b := Nat.not_le.mpr hbl
  obtain ⟨r1, vx1, r2, vm1, hoX, hoM, hJ1, hC⟩ := hop vx vm (xs (Int32.toNatClampNeg (nI (q + 1)))) (xs (Int32.toNatClampNeg (nI (q + 2)))) (xs (Int32.toNatClampNeg (nI (q + 3)))) hJ
  refine lv_aload_n hx hb dL_law_204 rfl (lv_at hl 2 rfl) ?_
  refine lv_aload_n hx hb dL_law_205 rfl (lv_at hl 3 rfl) ?_
  refine lv_iload_n hx hb dL_law_206 rfl (lv_at hl 0 rfl) ?_
  refine lv_iconst (v := 1) hx hb dL_law_207 (by decide) ?_
  refine lv_iadd hx hb dL_law_208 ?_
  refine lv_topi (fun z0 ez0 => ?_)
  have ez0 : z0 = nI (q + 1) := ez0.trans (nI_add q 1)
  subst ez0
  refine va_sld hx hb hX hbl hbA hw.S (vp_in_nI (show q + 1 < L by omega) (by omega)) dL_law_209 ?_
  refine lv_aload_n hx hb dL_law_210 rfl (lv_at hl 3 rfl) ?_
  refine lv_iload_n hx hb dL_law_211 rfl (lv_at hl 0 rfl) ?_
  refine lv_iconst (v := 2) hx hb dL_law_212 (by decide) ?_
  refine lv_iadd hx hb dL_law_213 ?_
  refine lv_topi (fun z1 ez1 => ?_)
  have ez1 : z1 = nI (q + 2) := ez1.trans (nI_add q 2)
  subst ez1
  refine va_sld hx hb hX hbl hbA hw.S (vp_in_nI (show q + 2 < L by omega) (by omega)) dL_law_214 ?_
  refine lv_aload_n hx hb dL_law_215 rfl (lv_at hl 3 rfl) ?_
  refine lv_iload_n hx hb dL_law_216 rfl (lv_at hl 0 rfl) ?_
  refine lv_iconst (v := 3) hx hb dL_law_217 (by decide) ?_
  refine lv_iadd hx hb dL_law_218 ?_
  refine lv_topi (fun z2 ez2 => ?_)
  have ez2 : z2 = nI (q + 3) := ez2.trans (nI_add q 3)
  subst ez2
  refine va_sld hx hb hX hbl hbA hw.S (vp_in_nI (show q + 3 < L by omega) (by omega)) dL_law_219 ?_
  have hsX : g_X7_row vx (xs (Int32.toNatClampNeg (nI (q + 1)))) (xs (Int32.toNatClampNeg (nI (q + 2)))) (xs (Int32.toNatClampNeg (nI (q + 3)))) ≠ none := fun h9 => by rw [show oX_row vx (xs (Int32.toNatClampNeg (nI (q + 1)))) (xs (Int32.toNatClampNeg (nI (q + 2)))) (xs (Int32.toNatClampNeg (nI (q + 3)))) = g_X7_row vx (xs (Int32.toNatClampNeg (nI (q + 1)))) (xs (Int32.toNatClampNeg (nI (q + 2)))) (xs (Int32.toNatClampNeg (nI (q + 3)))) from rfl, h9] at hoX; cases hoX
  refine tw_cX (As := [.int (xs (Int32.toNatClampNeg (nI (q + 1)))), .int (xs (Int32.toNatClampNeg (nI (q + 2)))), .int (xs (Int32.toNatClampNeg (nI (q + 3))))]) (rest := []) (n := 3) ⟨hx, hb, hml, hown, hts⟩ (d_X7_row l E Zx vx (xs (Int32.toNatClampNeg (nI (q + 1)))) (xs (Int32.toNatClampNeg (nI (q + 2)))) (xs (Int32.toNatClampNeg (nI (q + 3)))) hsX) gL_law_X7_row rfl (by decide +kernel) ⟨Nat.le_of_ble_eq_true rfl, Nat.le_of_ble_eq_true rfl⟩ hK hw rfl hl.1 rfl (Nat.le_of_ble_eq_true rfl) dL_law_220 rfl rfl ⟨Nat.le_of_ble_eq_true rfl, Nat.le_of_ble_eq_true rfl⟩ (fun rX vX H locs hp hw => ?_)
  have hzX : (some (rX, vX) : Option (Int32 × Mm)) = some (r1, vx1) := by rw [← hoX, show oX_row vx (xs (Int32.toNatClampNeg (nI (q + 1)))) (xs (Int32.toNatClampNeg (nI (q + 2)))) (xs (Int32.toNatClampNeg (nI (q + 3)))) = g_X7_row vx (xs (Int32.toNatClampNeg (nI (q + 1)))) (xs (Int32.toNatClampNeg (nI (q + 2)))) (xs (Int32.toNatClampNeg (nI (q + 3)))) from rfl, hp]
  obtain ⟨e1X, e2X⟩ := Prod.mk.inj (Option.some.inj hzX)
  subst e1X
  rw [e2X] at hw
  refine lv_pop hx hb dL_law_223 rfl ?_
  refine lv_aload_n hx hb dL_law_224 rfl (lv_at hl 1 rfl) ?_
  refine lv_aload_n hx hb dL_law_225 rfl (lv_at hl 3 rfl) ?_
  refine lv_iload_n hx hb dL_law_226 rfl (lv_at hl 0 rfl) ?_
  refine lv_iconst (v := 1) hx hb dL_law_227 (by decide) ?_
  refine lv_iadd hx hb dL_law_228 ?_
  refine lv_topi (fun z3 ez3 => ?_)
  have ez3 : z3 = nI (q + 1) := ez3.trans (nI_add q 1)
  subst ez3
  refine va_sld hx hb hX hbl hbA hw.S (vp_in_nI (show q + 1 < L by omega) (by omega)) dL_law_229 ?_
  refine lv_aload_n hx hb dL_law_230 rfl (lv_at hl 3 rfl) ?_
  refine lv_iload_n hx hb dL_law_231 rfl (lv_at hl 0 rfl) ?_
  refine lv_iconst (v := 2) hx hb dL_law_232 (by decide) ?_
  refine lv_iadd hx hb dL_law_233 ?_
  refine lv_topi (fun z4 ez4 => ?_)
  have ez4 : z4 = nI (q + 2) := ez4.trans (nI_add q 2)
  subst ez4
  refine va_sld hx hb hX hbl hbA hw.S (vp_in_nI (show q + 2 < L by omega) (by omega)) dL_law_234 ?_
  refine lv_aload_n hx hb dL_law_235 rfl (lv_at hl 3 rfl) ?_
  refine lv_iload_n hx hb dL_law_236 rfl (lv_at hl 0 rfl) ?_
  refine lv_iconst (v := 3) hx hb dL_law_237 (by decide) ?_
  refine lv_iadd hx hb dL_law_238 ?_
  refine lv_topi (fun z5 ez5 => ?_)
  have ez5 : z5 = nI (q + 3) := ez5.trans (nI_add q 3)
  subst ez5
  refine va_sld hx hb hX hbl hbA hw.S (vp_in_nI (show q + 3 < L by omega) (by omega)) dL_law_239 ?_
  have hsM : g_X8_row vm (xs (Int32.toNatClampNeg (nI (q + 1)))) (xs (Int32.toNatClampNeg (nI (q + 2)))) (xs (Int32.toNatClampNeg (nI (q + 3)))) ≠ none := fun h9 => by rw [show oM_row vm (xs (Int32.toNatClampNeg (nI (q + 1)))) (xs (Int32.toNatClampNeg (nI (q + 2)))) (xs (Int32.toNatClampNeg (nI (q + 3)))) = g_X8_row vm (xs (Int32.toNatClampNeg (nI (q + 1)))) (xs (Int32.toNatClampNeg (nI (q + 2)))) (xs (Int32.toNatClampNeg (nI (q + 3)))) from rfl, h9] at hoM; cases hoM
  refine tw_cM (As := [.int (xs (Int32.toNatClampNeg (nI (q + 1)))), .int (xs (Int32.toNatClampNeg (nI (q + 2)))), .int (xs (Int32.toNatClampNeg (nI (q + 3))))]) (rest := []) (n := 3) ⟨hx, hb, hml, hown, hts⟩ (d_X8_row l E Zm vm (xs (Int32.toNatClampNeg (nI (q + 1)))) (xs (Int32.toNatClampNeg (nI (q + 2)))) (xs (Int32.toNatClampNeg (nI (q + 3)))) hsM) gL_law_X8_row rfl (by decide +kernel) ⟨Nat.le_of_ble_eq_true rfl, Nat.le_of_ble_eq_true rfl⟩ hK hw rfl hl.1 rfl (Nat.le_of_ble_eq_true rfl) dL_law_240 rfl rfl ⟨Nat.le_of_ble_eq_true rfl, Nat.le_of_ble_eq_true rfl⟩ (fun rM vM H locs hp hw => ?_)
  have hzM : (some (rM, vM) : Option (Int32 × Mm)) = some (r2, vm1) := by rw [← hoM, show oM_row vm (xs (Int32.toNatClampNeg (nI (q + 1)))) (xs (Int32.toNatClampNeg (nI (q + 2)))) (xs (Int32.toNatClampNeg (nI (q + 3)))) = g_X8_row vm (xs (Int32.toNatClampNeg (nI (q + 1)))) (xs (Int32.toNatClampNeg (nI (q + 2)))) (xs (Int32.toNatClampNeg (nI (q + 3)))) from rfl, hp]
  obtain ⟨e1M, e2M⟩ := Prod.mk.inj (Option.some.inj hzM)
  subst e1M
  rw [e2M] at hw
  refine lv_pop hx hb dL_law_243 rfl ?_
  refine lv_goto (tgt := 1421) hx hb dL_law_244 (by decide) ?_
  exact kk _ _ _ _ _ hJ1 hw hl
set_option maxHeartbeats 4000000 in
set_option maxRecDepth 100000 in
theorem lk_1 {p : Program} {l : Launch} {e : Env} {s : State} {m : MethodId} {below : List Frame} {meth : Method} {c : Code} {b L : Nat} {xs : Nat → Int32} {E : kq_T} {H : Heap} {locs : List Loc} {ls : Array Slot} {Zx Zm : km_Z} {vx vm : Mm} {q : Nat} {J : Mm → Mm → Prop} {C : Prop} (hop : jop_set J C) (C0 : lw_At p s m meth c b L xs) (hK : kq_K E (fun q : Nat => s.heap.size ≤ q) s) (hq : q + 6 ≤ L) (hL : L ≤ 384) (hJ : J vx vm) (hw : tw E (fun q : Nat => s.heap.size ≤ q) s.heap Zx Zm vx vm H locs) (hl : lv_has ls 4 [(3, .int (nI q)), (2, .ref (Zm.1 30 0)), (1, .ref (Zx.1 0 0)), (0, .ref b)]) (kk : ∀ (vx1 vm1 : Mm) (H1 : Heap) (locs1 : List Loc) (ls1 : Array Slot), J vx1 vm1 → tw E (fun q : Nat => s.heap.size ≤ q) s.heap Zx Zm vx1 vm1 H1 locs1 → lv_has ls1 4 [(3, .int (nI q)), (2, .ref (Zm.1 30 0)), (1, .ref (Zx.1 0 0)), (0, .ref b)] → W p l e room_1 s m #[Value.ref b] below meth c H1 locs1 1000 10000 (lw_Z below #[Value.ref b] s) (F0 m 1421 ls1 [])) : W p l e room_1 s m #[Value.ref b] below meth c H locs 1000 10000 (lw_Z below #[Value.ref b] s) (F0 m 247 ls []) := by
  obtain ⟨hx, hb, hr, hml, hown, hts, hX, hbl, hlocks, hgv⟩ := id C0
  have hown : s.vm.findClass RL = some m.cls := hown
  have hb : c.code = cL_law := hb
  have hts := fun w h => hts w (wsL_law_in w h)
  have hbA : ¬ (fun q : Nat => s.heap.size ≤ q) b := Nat.not_le.mpr hbl
  obtain ⟨r1, vx1, r2, vm1, hoX, hoM, hJ1, hC⟩ := hop vx vm (xs (Int32.toNatClampNeg (nI (q + 1)))) (xs (Int32.toNatClampNeg (nI (q + 2)))) (xs (Int32.toNatClampNeg (nI (q + 3)))) hJ
  refine lv_aload_n hx hb dL_law_247 rfl (lv_at hl 2 rfl) ?_
  refine lv_aload_n hx hb dL_law_248 rfl (lv_at hl 3 rfl) ?_
  refine lv_iload_n hx hb dL_law_249 rfl (lv_at hl 0 rfl) ?_
  refine lv_iconst (v := 1) hx hb dL_law_250 (by decide) ?_
  refine lv_iadd hx hb dL_law_251 ?_
  refine lv_topi (fun z0 ez0 => ?_)
  have ez0 : z0 = nI (q + 1) := ez0.trans (nI_add q 1)
  subst ez0
  refine va_sld hx hb hX hbl hbA hw.S (vp_in_nI (show q + 1 < L by omega) (by omega)) dL_law_252 ?_
  refine lv_aload_n hx hb dL_law_253 rfl (lv_at hl 3 rfl) ?_
  refine lv_iload_n hx hb dL_law_254 rfl (lv_at hl 0 rfl) ?_
  refine lv_iconst (v := 2) hx hb dL_law_255 (by decide) ?_
  refine lv_iadd hx hb dL_law_256 ?_
  refine lv_topi (fun z1 ez1 => ?_)
  have ez1 : z1 = nI (q + 2) := ez1.trans (nI_add q 2)
  subst ez1
  refine va_sld hx hb hX hbl hbA hw.S (vp_in_nI (show q + 2 < L by omega) (by omega)) dL_law_257 ?_
  refine lv_aload_n hx hb dL_law_258 rfl (lv_at hl 3 rfl) ?_
  refine lv_iload_n hx hb dL_law_259 rfl (lv_at hl 0 rfl) ?_
  refine lv_iconst (v := 3) hx hb dL_law_260 (by decide) ?_
  refine lv_iadd hx hb dL_law_261 ?_
  refine lv_topi (fun z2 ez2 => ?_)
  have ez2 : z2 = nI (q + 3) := ez2.trans (nI_add q 3)
  subst ez2
  refine va_sld hx hb hX hbl hbA hw.S (vp_in_nI (show q + 3 < L by omega) (by omega)) dL_law_262 ?_
  have hsX : g_X7_set vx (xs (Int32.toNatClampNeg (nI (q + 1)))) (xs (Int32.toNatClampNeg (nI (q + 2)))) (xs (Int32.toNatClampNeg (nI (q + 3)))) ≠ none := fun h9 => by rw [show oX_set vx (xs (Int32.toNatClampNeg (nI (q + 1)))) (xs (Int32.toNatClampNeg (nI (q + 2)))) (xs (Int32.toNatClampNeg (nI (q + 3)))) = g_X7_set vx (xs (Int32.toNatClampNeg (nI (q + 1)))) (xs (Int32.toNatClampNeg (nI (q + 2)))) (xs (Int32.toNatClampNeg (nI (q + 3)))) from rfl, h9] at hoX; cases hoX
  refine tw_cX (As := [.int (xs (Int32.toNatClampNeg (nI (q + 1)))), .int (xs (Int32.toNatClampNeg (nI (q + 2)))), .int (xs (Int32.toNatClampNeg (nI (q + 3))))]) (rest := []) (n := 3) ⟨hx, hb, hml, hown, hts⟩ (d_X7_set l E Zx vx (xs (Int32.toNatClampNeg (nI (q + 1)))) (xs (Int32.toNatClampNeg (nI (q + 2)))) (xs (Int32.toNatClampNeg (nI (q + 3)))) hsX) gL_law_X7_set rfl (by decide +kernel) ⟨Nat.le_of_ble_eq_true rfl, Nat.le_of_ble_eq_true rfl⟩ hK hw rfl hl.1 rfl (Nat.le_of_ble_eq_true rfl) dL_law_263 rfl rfl ⟨Nat.le_of_ble_eq_true rfl, Nat.le_of_ble_eq_true rfl⟩ (fun rX vX H locs hp hw => ?_)
  have hzX : (some (rX, vX) : Option (Int32 × Mm)) = some (r1, vx1) := by rw [← hoX, show oX_set vx (xs (Int32.toNatClampNeg (nI (q + 1)))) (xs (Int32.toNatClampNeg (nI (q + 2)))) (xs (Int32.toNatClampNeg (nI (q + 3)))) = g_X7_set vx (xs (Int32.toNatClampNeg (nI (q + 1)))) (xs (Int32.toNatClampNeg (nI (q + 2)))) (xs (Int32.toNatClampNeg (nI (q + 3)))) from rfl, hp]
  obtain ⟨e1X, e2X⟩ := Prod.mk.inj (Option.some.inj hzX)
  subst e1X
  rw [e2X] at hw
  refine lv_pop hx hb dL_law_266 rfl ?_
  refine lv_aload_n hx hb dL_law_267 rfl (lv_at hl 1 rfl) ?_
  refine lv_aload_n hx hb dL_law_268 rfl (lv_at hl 3 rfl) ?_
  refine lv_iload_n hx hb dL_law_269 rfl (lv_at hl 0 rfl) ?_
  refine lv_iconst (v := 1) hx hb dL_law_270 (by decide) ?_
  refine lv_iadd hx hb dL_law_271 ?_
  refine lv_topi (fun z3 ez3 => ?_)
  have ez3 : z3 = nI (q + 1) := ez3.trans (nI_add q 1)
  subst ez3
  refine va_sld hx hb hX hbl hbA hw.S (vp_in_nI (show q + 1 < L by omega) (by omega)) dL_law_272 ?_
  refine lv_aload_n hx hb dL_law_273 rfl (lv_at hl 3 rfl) ?_
  refine lv_iload_n hx hb dL_law_274 rfl (lv_at hl 0 rfl) ?_
  refine lv_iconst (v := 2) hx hb dL_law_275 (by decide) ?_
  refine lv_iadd hx hb dL_law_276 ?_
  refine lv_topi (fun z4 ez4 => ?_)
  have ez4 : z4 = nI (q + 2) := ez4.trans (nI_add q 2)
  subst ez4
  refine va_sld hx hb hX hbl hbA hw.S (vp_in_nI (show q + 2 < L by omega) (by omega)) dL_law_277 ?_
  refine lv_aload_n hx hb dL_law_278 rfl (lv_at hl 3 rfl) ?_
  refine lv_iload_n hx hb dL_law_279 rfl (lv_at hl 0 rfl) ?_
  refine lv_iconst (v := 3) hx hb dL_law_280 (by decide) ?_
  refine lv_iadd hx hb dL_law_281 ?_
  refine lv_topi (fun z5 ez5 => ?_)
  have ez5 : z5 = nI (q + 3) := ez5.trans (nI_add q 3)
  subst ez5
  refine va_sld hx hb hX hbl hbA hw.S (vp_in_nI (show q + 3 < L by omega) (by omega)) dL_law_282 ?_
  have hsM : g_X8_set vm (xs (Int32.toNatClampNeg (nI (q + 1)))) (xs (Int32.toNatClampNeg (nI (q + 2)))) (xs (Int32.toNatClampNeg (nI (q + 3)))) ≠ none := fun h9 => by rw [show oM_set vm (xs (Int32.toNatClampNeg (nI (q + 1)))) (xs (Int32.toNatClampNeg (nI (q + 2)))) (xs (Int32.toNatClampNeg (nI (q + 3)))) = g_X8_set vm (xs (Int32.toNatClampNeg (nI (q + 1)))) (xs (Int32.toNatClampNeg (nI (q + 2)))) (xs (Int32.toNatClampNeg (nI (q + 3)))) from rfl, h9] at hoM; cases hoM
  refine tw_cM (As := [.int (xs (Int32.toNatClampNeg (nI (q + 1)))), .int (xs (Int32.toNatClampNeg (nI (q + 2)))), .int (xs (Int32.toNatClampNeg (nI (q + 3))))]) (rest := []) (n := 3) ⟨hx, hb, hml, hown, hts⟩ (d_X8_set l E Zm vm (xs (Int32.toNatClampNeg (nI (q + 1)))) (xs (Int32.toNatClampNeg (nI (q + 2)))) (xs (Int32.toNatClampNeg (nI (q + 3)))) hsM) gL_law_X8_set rfl (by decide +kernel) ⟨Nat.le_of_ble_eq_true rfl, Nat.le_of_ble_eq_true rfl⟩ hK hw rfl hl.1 rfl (Nat.le_of_ble_eq_true rfl) dL_law_283 rfl rfl ⟨Nat.le_of_ble_eq_true rfl, Nat.le_of_ble_eq_true rfl⟩ (fun rM vM H locs hp hw => ?_)
  have hzM : (some (rM, vM) : Option (Int32 × Mm)) = some (r2, vm1) := by rw [← hoM, show oM_set vm (xs (Int32.toNatClampNeg (nI (q + 1)))) (xs (Int32.toNatClampNeg (nI (q + 2)))) (xs (Int32.toNatClampNeg (nI (q + 3)))) = g_X8_set vm (xs (Int32.toNatClampNeg (nI (q + 1)))) (xs (Int32.toNatClampNeg (nI (q + 2)))) (xs (Int32.toNatClampNeg (nI (q + 3)))) from rfl, hp]
  obtain ⟨e1M, e2M⟩ := Prod.mk.inj (Option.some.inj hzM)
  subst e1M
  rw [e2M] at hw
  refine lv_pop hx hb dL_law_286 rfl ?_
  refine lv_goto (tgt := 1421) hx hb dL_law_287 (by decide) ?_
  exact kk _ _ _ _ _ hJ1 hw hl
set_option maxHeartbeats 4000000 in
set_option maxRecDepth 100000 in
theorem lk_2 {p : Program} {l : Launch} {e : Env} {s : State} {m : MethodId} {below : List Frame} {meth : Method} {c : Code} {b L : Nat} {xs : Nat → Int32} {E : kq_T} {H : Heap} {locs : List Loc} {ls : Array Slot} {Zx Zm : km_Z} {vx vm : Mm} {q : Nat} {J : Mm → Mm → Prop} {C : Prop} (hop : jop_copy J C) (C0 : lw_At p s m meth c b L xs) (hK : kq_K E (fun q : Nat => s.heap.size ≤ q) s) (hq : q + 6 ≤ L) (hL : L ≤ 384) (hJ : J vx vm) (hw : tw E (fun q : Nat => s.heap.size ≤ q) s.heap Zx Zm vx vm H locs) (hl : lv_has ls 4 [(3, .int (nI q)), (2, .ref (Zm.1 30 0)), (1, .ref (Zx.1 0 0)), (0, .ref b)]) (kk : ∀ (vx1 vm1 : Mm) (H1 : Heap) (locs1 : List Loc) (ls1 : Array Slot), J vx1 vm1 → tw E (fun q : Nat => s.heap.size ≤ q) s.heap Zx Zm vx1 vm1 H1 locs1 → lv_has ls1 4 [(3, .int (nI q)), (2, .ref (Zm.1 30 0)), (1, .ref (Zx.1 0 0)), (0, .ref b)] → W p l e room_1 s m #[Value.ref b] below meth c H1 locs1 1000 10000 (lw_Z below #[Value.ref b] s) (F0 m 1421 ls1 [])) : W p l e room_1 s m #[Value.ref b] below meth c H locs 1000 10000 (lw_Z below #[Value.ref b] s) (F0 m 290 ls []) := by
  obtain ⟨hx, hb, hr, hml, hown, hts, hX, hbl, hlocks, hgv⟩ := id C0
  have hown : s.vm.findClass RL = some m.cls := hown
  have hb : c.code = cL_law := hb
  have hts := fun w h => hts w (wsL_law_in w h)
  have hbA : ¬ (fun q : Nat => s.heap.size ≤ q) b := Nat.not_le.mpr hbl
  obtain ⟨r1, vx1, r2, vm1, hoX, hoM, hJ1, hC⟩ := hop vx vm (xs (Int32.toNatClampNeg (nI (q + 1)))) (xs (Int32.toNatClampNeg (nI (q + 2)))) (xs (Int32.toNatClampNeg (nI (q + 3)))) (xs (Int32.toNatClampNeg (nI (q + 4)))) (xs (Int32.toNatClampNeg (nI (q + 5)))) hJ
  refine lv_aload_n hx hb dL_law_290 rfl (lv_at hl 2 rfl) ?_
  refine lv_aload_n hx hb dL_law_291 rfl (lv_at hl 3 rfl) ?_
  refine lv_iload_n hx hb dL_law_292 rfl (lv_at hl 0 rfl) ?_
  refine lv_iconst (v := 1) hx hb dL_law_293 (by decide) ?_
  refine lv_iadd hx hb dL_law_294 ?_
  refine lv_topi (fun z0 ez0 => ?_)
  have ez0 : z0 = nI (q + 1) := ez0.trans (nI_add q 1)
  subst ez0
  refine va_sld hx hb hX hbl hbA hw.S (vp_in_nI (show q + 1 < L by omega) (by omega)) dL_law_295 ?_
  refine lv_aload_n hx hb dL_law_296 rfl (lv_at hl 3 rfl) ?_
  refine lv_iload_n hx hb dL_law_297 rfl (lv_at hl 0 rfl) ?_
  refine lv_iconst (v := 2) hx hb dL_law_298 (by decide) ?_
  refine lv_iadd hx hb dL_law_299 ?_
  refine lv_topi (fun z1 ez1 => ?_)
  have ez1 : z1 = nI (q + 2) := ez1.trans (nI_add q 2)
  subst ez1
  refine va_sld hx hb hX hbl hbA hw.S (vp_in_nI (show q + 2 < L by omega) (by omega)) dL_law_300 ?_
  refine lv_aload_n hx hb dL_law_301 rfl (lv_at hl 3 rfl) ?_
  refine lv_iload_n hx hb dL_law_302 rfl (lv_at hl 0 rfl) ?_
  refine lv_iconst (v := 3) hx hb dL_law_303 (by decide) ?_
  refine lv_iadd hx hb dL_law_304 ?_
  refine lv_topi (fun z2 ez2 => ?_)
  have ez2 : z2 = nI (q + 3) := ez2.trans (nI_add q 3)
  subst ez2
  refine va_sld hx hb hX hbl hbA hw.S (vp_in_nI (show q + 3 < L by omega) (by omega)) dL_law_305 ?_
  refine lv_aload_n hx hb dL_law_306 rfl (lv_at hl 3 rfl) ?_
  refine lv_iload_n hx hb dL_law_307 rfl (lv_at hl 0 rfl) ?_
  refine lv_iconst (v := 4) hx hb dL_law_308 (by decide) ?_
  refine lv_iadd hx hb dL_law_309 ?_
  refine lv_topi (fun z3 ez3 => ?_)
  have ez3 : z3 = nI (q + 4) := ez3.trans (nI_add q 4)
  subst ez3
  refine va_sld hx hb hX hbl hbA hw.S (vp_in_nI (show q + 4 < L by omega) (by omega)) dL_law_310 ?_
  refine lv_aload_n hx hb dL_law_311 rfl (lv_at hl 3 rfl) ?_
  refine lv_iload_n hx hb dL_law_312 rfl (lv_at hl 0 rfl) ?_
  refine lv_iconst (v := 5) hx hb dL_law_313 (by decide) ?_
  refine lv_iadd hx hb dL_law_314 ?_
  refine lv_topi (fun z4 ez4 => ?_)
  have ez4 : z4 = nI (q + 5) := ez4.trans (nI_add q 5)
  subst ez4
  refine va_sld hx hb hX hbl hbA hw.S (vp_in_nI (show q + 5 < L by omega) (by omega)) dL_law_315 ?_
  have hsX : g_X7_copy vx (xs (Int32.toNatClampNeg (nI (q + 1)))) (xs (Int32.toNatClampNeg (nI (q + 2)))) (xs (Int32.toNatClampNeg (nI (q + 3)))) (xs (Int32.toNatClampNeg (nI (q + 4)))) (xs (Int32.toNatClampNeg (nI (q + 5)))) ≠ none := fun h9 => by rw [show oX_copy vx (xs (Int32.toNatClampNeg (nI (q + 1)))) (xs (Int32.toNatClampNeg (nI (q + 2)))) (xs (Int32.toNatClampNeg (nI (q + 3)))) (xs (Int32.toNatClampNeg (nI (q + 4)))) (xs (Int32.toNatClampNeg (nI (q + 5)))) = g_X7_copy vx (xs (Int32.toNatClampNeg (nI (q + 1)))) (xs (Int32.toNatClampNeg (nI (q + 2)))) (xs (Int32.toNatClampNeg (nI (q + 3)))) (xs (Int32.toNatClampNeg (nI (q + 4)))) (xs (Int32.toNatClampNeg (nI (q + 5)))) from rfl, h9] at hoX; cases hoX
  refine tw_cX (As := [.int (xs (Int32.toNatClampNeg (nI (q + 1)))), .int (xs (Int32.toNatClampNeg (nI (q + 2)))), .int (xs (Int32.toNatClampNeg (nI (q + 3)))), .int (xs (Int32.toNatClampNeg (nI (q + 4)))), .int (xs (Int32.toNatClampNeg (nI (q + 5))))]) (rest := []) (n := 5) ⟨hx, hb, hml, hown, hts⟩ (d_X7_copy l E Zx vx (xs (Int32.toNatClampNeg (nI (q + 1)))) (xs (Int32.toNatClampNeg (nI (q + 2)))) (xs (Int32.toNatClampNeg (nI (q + 3)))) (xs (Int32.toNatClampNeg (nI (q + 4)))) (xs (Int32.toNatClampNeg (nI (q + 5)))) hsX) gL_law_X7_copy rfl (by decide +kernel) ⟨Nat.le_of_ble_eq_true rfl, Nat.le_of_ble_eq_true rfl⟩ hK hw rfl hl.1 rfl (Nat.le_of_ble_eq_true rfl) dL_law_316 rfl rfl ⟨Nat.le_of_ble_eq_true rfl, Nat.le_of_ble_eq_true rfl⟩ (fun rX vX H locs hp hw => ?_)
  have hzX : (some (rX, vX) : Option (Int32 × Mm)) = some (r1, vx1) := by rw [← hoX, show oX_copy vx (xs (Int32.toNatClampNeg (nI (q + 1)))) (xs (Int32.toNatClampNeg (nI (q + 2)))) (xs (Int32.toNatClampNeg (nI (q + 3)))) (xs (Int32.toNatClampNeg (nI (q + 4)))) (xs (Int32.toNatClampNeg (nI (q + 5)))) = g_X7_copy vx (xs (Int32.toNatClampNeg (nI (q + 1)))) (xs (Int32.toNatClampNeg (nI (q + 2)))) (xs (Int32.toNatClampNeg (nI (q + 3)))) (xs (Int32.toNatClampNeg (nI (q + 4)))) (xs (Int32.toNatClampNeg (nI (q + 5)))) from rfl, hp]
  obtain ⟨e1X, e2X⟩ := Prod.mk.inj (Option.some.inj hzX)
  subst e1X
  rw [e2X] at hw
  refine lv_pop hx hb dL_law_319 rfl ?_
  refine lv_aload_n hx hb dL_law_320 rfl (lv_at hl 1 rfl) ?_
  refine lv_aload_n hx hb dL_law_321 rfl (lv_at hl 3 rfl) ?_
  refine lv_iload_n hx hb dL_law_322 rfl (lv_at hl 0 rfl) ?_
  refine lv_iconst (v := 1) hx hb dL_law_323 (by decide) ?_
  refine lv_iadd hx hb dL_law_324 ?_
  refine lv_topi (fun z5 ez5 => ?_)
  have ez5 : z5 = nI (q + 1) := ez5.trans (nI_add q 1)
  subst ez5
  refine va_sld hx hb hX hbl hbA hw.S (vp_in_nI (show q + 1 < L by omega) (by omega)) dL_law_325 ?_
  refine lv_aload_n hx hb dL_law_326 rfl (lv_at hl 3 rfl) ?_
  refine lv_iload_n hx hb dL_law_327 rfl (lv_at hl 0 rfl) ?_
  refine lv_iconst (v := 2) hx hb dL_law_328 (by decide) ?_
  refine lv_iadd hx hb dL_law_329 ?_
  refine lv_topi (fun z6 ez6 => ?_)
  have ez6 : z6 = nI (q + 2) := ez6.trans (nI_add q 2)
  subst ez6
  refine va_sld hx hb hX hbl hbA hw.S (vp_in_nI (show q + 2 < L by omega) (by omega)) dL_law_330 ?_
  refine lv_aload_n hx hb dL_law_331 rfl (lv_at hl 3 rfl) ?_
  refine lv_iload_n hx hb dL_law_332 rfl (lv_at hl 0 rfl) ?_
  refine lv_iconst (v := 3) hx hb dL_law_333 (by decide) ?_
  refine lv_iadd hx hb dL_law_334 ?_
  refine lv_topi (fun z7 ez7 => ?_)
  have ez7 : z7 = nI (q + 3) := ez7.trans (nI_add q 3)
  subst ez7
  refine va_sld hx hb hX hbl hbA hw.S (vp_in_nI (show q + 3 < L by omega) (by omega)) dL_law_335 ?_
  refine lv_aload_n hx hb dL_law_336 rfl (lv_at hl 3 rfl) ?_
  refine lv_iload_n hx hb dL_law_337 rfl (lv_at hl 0 rfl) ?_
  refine lv_iconst (v := 4) hx hb dL_law_338 (by decide) ?_
  refine lv_iadd hx hb dL_law_339 ?_
  refine lv_topi (fun z8 ez8 => ?_)
  have ez8 : z8 = nI (q + 4) := ez8.trans (nI_add q 4)
  subst ez8
  refine va_sld hx hb hX hbl hbA hw.S (vp_in_nI (show q + 4 < L by omega) (by omega)) dL_law_340 ?_
  refine lv_aload_n hx hb dL_law_341 rfl (lv_at hl 3 rfl) ?_
  refine lv_iload_n hx hb dL_law_342 rfl (lv_at hl 0 rfl) ?_
  refine lv_iconst (v := 5) hx hb dL_law_343 (by decide) ?_
  refine lv_iadd hx hb dL_law_344 ?_
  refine lv_topi (fun z9 ez9 => ?_)
  have ez9 : z9 = nI (q + 5) := ez9.trans (nI_add q 5)
  subst ez9
  refine va_sld hx hb hX hbl hbA hw.S (vp_in_nI (show q + 5 < L by omega) (by omega)) dL_law_345 ?_
  have hsM : g_X8_copy vm (xs (Int32.toNatClampNeg (nI (q + 1)))) (xs (Int32.toNatClampNeg (nI (q + 2)))) (xs (Int32.toNatClampNeg (nI (q + 3)))) (xs (Int32.toNatClampNeg (nI (q + 4)))) (xs (Int32.toNatClampNeg (nI (q + 5)))) ≠ none := fun h9 => by rw [show oM_copy vm (xs (Int32.toNatClampNeg (nI (q + 1)))) (xs (Int32.toNatClampNeg (nI (q + 2)))) (xs (Int32.toNatClampNeg (nI (q + 3)))) (xs (Int32.toNatClampNeg (nI (q + 4)))) (xs (Int32.toNatClampNeg (nI (q + 5)))) = g_X8_copy vm (xs (Int32.toNatClampNeg (nI (q + 1)))) (xs (Int32.toNatClampNeg (nI (q + 2)))) (xs (Int32.toNatClampNeg (nI (q + 3)))) (xs (Int32.toNatClampNeg (nI (q + 4)))) (xs (Int32.toNatClampNeg (nI (q + 5)))) from rfl, h9] at hoM; cases hoM
  refine tw_cM (As := [.int (xs (Int32.toNatClampNeg (nI (q + 1)))), .int (xs (Int32.toNatClampNeg (nI (q + 2)))), .int (xs (Int32.toNatClampNeg (nI (q + 3)))), .int (xs (Int32.toNatClampNeg (nI (q + 4)))), .int (xs (Int32.toNatClampNeg (nI (q + 5))))]) (rest := []) (n := 5) ⟨hx, hb, hml, hown, hts⟩ (d_X8_copy l E Zm vm (xs (Int32.toNatClampNeg (nI (q + 1)))) (xs (Int32.toNatClampNeg (nI (q + 2)))) (xs (Int32.toNatClampNeg (nI (q + 3)))) (xs (Int32.toNatClampNeg (nI (q + 4)))) (xs (Int32.toNatClampNeg (nI (q + 5)))) hsM) gL_law_X8_copy rfl (by decide +kernel) ⟨Nat.le_of_ble_eq_true rfl, Nat.le_of_ble_eq_true rfl⟩ hK hw rfl hl.1 rfl (Nat.le_of_ble_eq_true rfl) dL_law_346 rfl rfl ⟨Nat.le_of_ble_eq_true rfl, Nat.le_of_ble_eq_true rfl⟩ (fun rM vM H locs hp hw => ?_)
  have hzM : (some (rM, vM) : Option (Int32 × Mm)) = some (r2, vm1) := by rw [← hoM, show oM_copy vm (xs (Int32.toNatClampNeg (nI (q + 1)))) (xs (Int32.toNatClampNeg (nI (q + 2)))) (xs (Int32.toNatClampNeg (nI (q + 3)))) (xs (Int32.toNatClampNeg (nI (q + 4)))) (xs (Int32.toNatClampNeg (nI (q + 5)))) = g_X8_copy vm (xs (Int32.toNatClampNeg (nI (q + 1)))) (xs (Int32.toNatClampNeg (nI (q + 2)))) (xs (Int32.toNatClampNeg (nI (q + 3)))) (xs (Int32.toNatClampNeg (nI (q + 4)))) (xs (Int32.toNatClampNeg (nI (q + 5)))) from rfl, hp]
  obtain ⟨e1M, e2M⟩ := Prod.mk.inj (Option.some.inj hzM)
  subst e1M
  rw [e2M] at hw
  refine lv_pop hx hb dL_law_349 rfl ?_
  refine lv_goto (tgt := 1421) hx hb dL_law_350 (by decide) ?_
  exact kk _ _ _ _ _ hJ1 hw hl
set_option maxHeartbeats 4000000 in
set_option maxRecDepth 100000 in
theorem lk_3 {p : Program} {l : Launch} {e : Env} {s : State} {m : MethodId} {below : List Frame} {meth : Method} {c : Code} {b L : Nat} {xs : Nat → Int32} {E : kq_T} {H : Heap} {locs : List Loc} {ls : Array Slot} {Zx Zm : km_Z} {vx vm : Mm} {q : Nat} {J : Mm → Mm → Prop} {C : Prop} (hop : jop_drop J C) (C0 : lw_At p s m meth c b L xs) (hK : kq_K E (fun q : Nat => s.heap.size ≤ q) s) (hq : q + 6 ≤ L) (hL : L ≤ 384) (hJ : J vx vm) (hw : tw E (fun q : Nat => s.heap.size ≤ q) s.heap Zx Zm vx vm H locs) (hl : lv_has ls 4 [(3, .int (nI q)), (2, .ref (Zm.1 30 0)), (1, .ref (Zx.1 0 0)), (0, .ref b)]) (kk : ∀ (vx1 vm1 : Mm) (H1 : Heap) (locs1 : List Loc) (ls1 : Array Slot), J vx1 vm1 → tw E (fun q : Nat => s.heap.size ≤ q) s.heap Zx Zm vx1 vm1 H1 locs1 → lv_has ls1 4 [(3, .int (nI q)), (2, .ref (Zm.1 30 0)), (1, .ref (Zx.1 0 0)), (0, .ref b)] → W p l e room_1 s m #[Value.ref b] below meth c H1 locs1 1000 10000 (lw_Z below #[Value.ref b] s) (F0 m 1421 ls1 [])) : W p l e room_1 s m #[Value.ref b] below meth c H locs 1000 10000 (lw_Z below #[Value.ref b] s) (F0 m 353 ls []) := by
  obtain ⟨hx, hb, hr, hml, hown, hts, hX, hbl, hlocks, hgv⟩ := id C0
  have hown : s.vm.findClass RL = some m.cls := hown
  have hb : c.code = cL_law := hb
  have hts := fun w h => hts w (wsL_law_in w h)
  have hbA : ¬ (fun q : Nat => s.heap.size ≤ q) b := Nat.not_le.mpr hbl
  obtain ⟨r1, vx1, r2, vm1, hoX, hoM, hJ1, hC⟩ := hop vx vm (xs (Int32.toNatClampNeg (nI (q + 1)))) hJ
  refine lv_aload_n hx hb dL_law_353 rfl (lv_at hl 2 rfl) ?_
  refine lv_aload_n hx hb dL_law_354 rfl (lv_at hl 3 rfl) ?_
  refine lv_iload_n hx hb dL_law_355 rfl (lv_at hl 0 rfl) ?_
  refine lv_iconst (v := 1) hx hb dL_law_356 (by decide) ?_
  refine lv_iadd hx hb dL_law_357 ?_
  refine lv_topi (fun z0 ez0 => ?_)
  have ez0 : z0 = nI (q + 1) := ez0.trans (nI_add q 1)
  subst ez0
  refine va_sld hx hb hX hbl hbA hw.S (vp_in_nI (show q + 1 < L by omega) (by omega)) dL_law_358 ?_
  have hsX : g_X7_drop vx (xs (Int32.toNatClampNeg (nI (q + 1)))) ≠ none := fun h9 => by rw [show oX_drop vx (xs (Int32.toNatClampNeg (nI (q + 1)))) = g_X7_drop vx (xs (Int32.toNatClampNeg (nI (q + 1)))) from rfl, h9] at hoX; cases hoX
  refine tw_cX (As := [.int (xs (Int32.toNatClampNeg (nI (q + 1))))]) (rest := []) (n := 1) ⟨hx, hb, hml, hown, hts⟩ (d_X7_drop l E Zx vx (xs (Int32.toNatClampNeg (nI (q + 1)))) hsX) gL_law_X7_drop rfl (by decide +kernel) ⟨Nat.le_of_ble_eq_true rfl, Nat.le_of_ble_eq_true rfl⟩ hK hw rfl hl.1 rfl (Nat.le_of_ble_eq_true rfl) dL_law_359 rfl rfl ⟨Nat.le_of_ble_eq_true rfl, Nat.le_of_ble_eq_true rfl⟩ (fun rX vX H locs hp hw => ?_)
  have hzX : (some (rX, vX) : Option (Int32 × Mm)) = some (r1, vx1) := by rw [← hoX, show oX_drop vx (xs (Int32.toNatClampNeg (nI (q + 1)))) = g_X7_drop vx (xs (Int32.toNatClampNeg (nI (q + 1)))) from rfl, hp]
  obtain ⟨e1X, e2X⟩ := Prod.mk.inj (Option.some.inj hzX)
  subst e1X
  rw [e2X] at hw
  refine lv_pop hx hb dL_law_362 rfl ?_
  refine lv_aload_n hx hb dL_law_363 rfl (lv_at hl 1 rfl) ?_
  refine lv_aload_n hx hb dL_law_364 rfl (lv_at hl 3 rfl) ?_
  refine lv_iload_n hx hb dL_law_365 rfl (lv_at hl 0 rfl) ?_
  refine lv_iconst (v := 1) hx hb dL_law_366 (by decide) ?_
  refine lv_iadd hx hb dL_law_367 ?_
  refine lv_topi (fun z1 ez1 => ?_)
  have ez1 : z1 = nI (q + 1) := ez1.trans (nI_add q 1)
  subst ez1
  refine va_sld hx hb hX hbl hbA hw.S (vp_in_nI (show q + 1 < L by omega) (by omega)) dL_law_368 ?_
  have hsM : g_X8_drop vm (xs (Int32.toNatClampNeg (nI (q + 1)))) ≠ none := fun h9 => by rw [show oM_drop vm (xs (Int32.toNatClampNeg (nI (q + 1)))) = g_X8_drop vm (xs (Int32.toNatClampNeg (nI (q + 1)))) from rfl, h9] at hoM; cases hoM
  refine tw_cM (As := [.int (xs (Int32.toNatClampNeg (nI (q + 1))))]) (rest := []) (n := 1) ⟨hx, hb, hml, hown, hts⟩ (d_X8_drop l E Zm vm (xs (Int32.toNatClampNeg (nI (q + 1)))) hsM) gL_law_X8_drop rfl (by decide +kernel) ⟨Nat.le_of_ble_eq_true rfl, Nat.le_of_ble_eq_true rfl⟩ hK hw rfl hl.1 rfl (Nat.le_of_ble_eq_true rfl) dL_law_369 rfl rfl ⟨Nat.le_of_ble_eq_true rfl, Nat.le_of_ble_eq_true rfl⟩ (fun rM vM H locs hp hw => ?_)
  have hzM : (some (rM, vM) : Option (Int32 × Mm)) = some (r2, vm1) := by rw [← hoM, show oM_drop vm (xs (Int32.toNatClampNeg (nI (q + 1)))) = g_X8_drop vm (xs (Int32.toNatClampNeg (nI (q + 1)))) from rfl, hp]
  obtain ⟨e1M, e2M⟩ := Prod.mk.inj (Option.some.inj hzM)
  subst e1M
  rw [e2M] at hw
  refine lv_pop hx hb dL_law_372 rfl ?_
  refine lv_goto (tgt := 1421) hx hb dL_law_373 (by decide) ?_
  exact kk _ _ _ _ _ hJ1 hw hl
set_option maxHeartbeats 4000000 in
set_option maxRecDepth 100000 in
theorem lk_4 {p : Program} {l : Launch} {e : Env} {s : State} {m : MethodId} {below : List Frame} {meth : Method} {c : Code} {b L : Nat} {xs : Nat → Int32} {E : kq_T} {H : Heap} {locs : List Loc} {ls : Array Slot} {Zx Zm : km_Z} {vx vm : Mm} {q : Nat} {J : Mm → Mm → Prop} {C : Prop} (hop : jop_feed J C) (C0 : lw_At p s m meth c b L xs) (hK : kq_K E (fun q : Nat => s.heap.size ≤ q) s) (hq : q + 6 ≤ L) (hL : L ≤ 384) (hJ : J vx vm) (hw : tw E (fun q : Nat => s.heap.size ≤ q) s.heap Zx Zm vx vm H locs) (hl : lv_has ls 4 [(3, .int (nI q)), (2, .ref (Zm.1 30 0)), (1, .ref (Zx.1 0 0)), (0, .ref b)]) (kk : ∀ (vx1 vm1 : Mm) (H1 : Heap) (locs1 : List Loc) (ls1 : Array Slot), J vx1 vm1 → tw E (fun q : Nat => s.heap.size ≤ q) s.heap Zx Zm vx1 vm1 H1 locs1 → lv_has ls1 4 [(3, .int (nI q)), (2, .ref (Zm.1 30 0)), (1, .ref (Zx.1 0 0)), (0, .ref b)] → W p l e room_1 s m #[Value.ref b] below meth c H1 locs1 1000 10000 (lw_Z below #[Value.ref b] s) (F0 m 1421 ls1 [])) : W p l e room_1 s m #[Value.ref b] below meth c H locs 1000 10000 (lw_Z below #[Value.ref b] s) (F0 m 376 ls []) := by
  obtain ⟨hx, hb, hr, hml, hown, hts, hX, hbl, hlocks, hgv⟩ := id C0
  have hown : s.vm.findClass RL = some m.cls := hown
  have hb : c.code = cL_law := hb
  have hts := fun w h => hts w (wsL_law_in w h)
  have hbA : ¬ (fun q : Nat => s.heap.size ≤ q) b := Nat.not_le.mpr hbl
  obtain ⟨r1, vx1, r2, vm1, hoX, hoM, hJ1, hC⟩ := hop vx vm (xs (Int32.toNatClampNeg (nI (q + 1)))) hJ
  refine lv_aload_n hx hb dL_law_376 rfl (lv_at hl 2 rfl) ?_
  refine lv_aload_n hx hb dL_law_377 rfl (lv_at hl 3 rfl) ?_
  refine lv_iload_n hx hb dL_law_378 rfl (lv_at hl 0 rfl) ?_
  refine lv_iconst (v := 1) hx hb dL_law_379 (by decide) ?_
  refine lv_iadd hx hb dL_law_380 ?_
  refine lv_topi (fun z0 ez0 => ?_)
  have ez0 : z0 = nI (q + 1) := ez0.trans (nI_add q 1)
  subst ez0
  refine va_sld hx hb hX hbl hbA hw.S (vp_in_nI (show q + 1 < L by omega) (by omega)) dL_law_381 ?_
  have hsX : g_X7_feed vx (xs (Int32.toNatClampNeg (nI (q + 1)))) ≠ none := fun h9 => by rw [show oX_feed vx (xs (Int32.toNatClampNeg (nI (q + 1)))) = g_X7_feed vx (xs (Int32.toNatClampNeg (nI (q + 1)))) from rfl, h9] at hoX; cases hoX
  refine tw_cX (As := [.int (xs (Int32.toNatClampNeg (nI (q + 1))))]) (rest := []) (n := 1) ⟨hx, hb, hml, hown, hts⟩ (d_X7_feed l E Zx vx (xs (Int32.toNatClampNeg (nI (q + 1)))) hsX) gL_law_X7_feed rfl (by decide +kernel) ⟨Nat.le_of_ble_eq_true rfl, Nat.le_of_ble_eq_true rfl⟩ hK hw rfl hl.1 rfl (Nat.le_of_ble_eq_true rfl) dL_law_382 rfl rfl ⟨Nat.le_of_ble_eq_true rfl, Nat.le_of_ble_eq_true rfl⟩ (fun rX vX H locs hp hw => ?_)
  have hzX : (some (rX, vX) : Option (Int32 × Mm)) = some (r1, vx1) := by rw [← hoX, show oX_feed vx (xs (Int32.toNatClampNeg (nI (q + 1)))) = g_X7_feed vx (xs (Int32.toNatClampNeg (nI (q + 1)))) from rfl, hp]
  obtain ⟨e1X, e2X⟩ := Prod.mk.inj (Option.some.inj hzX)
  subst e1X
  rw [e2X] at hw
  refine lv_pop hx hb dL_law_385 rfl ?_
  refine lv_aload_n hx hb dL_law_386 rfl (lv_at hl 1 rfl) ?_
  refine lv_aload_n hx hb dL_law_387 rfl (lv_at hl 3 rfl) ?_
  refine lv_iload_n hx hb dL_law_388 rfl (lv_at hl 0 rfl) ?_
  refine lv_iconst (v := 1) hx hb dL_law_389 (by decide) ?_
  refine lv_iadd hx hb dL_law_390 ?_
  refine lv_topi (fun z1 ez1 => ?_)
  have ez1 : z1 = nI (q + 1) := ez1.trans (nI_add q 1)
  subst ez1
  refine va_sld hx hb hX hbl hbA hw.S (vp_in_nI (show q + 1 < L by omega) (by omega)) dL_law_391 ?_
  have hsM : g_X8_feed vm (xs (Int32.toNatClampNeg (nI (q + 1)))) ≠ none := fun h9 => by rw [show oM_feed vm (xs (Int32.toNatClampNeg (nI (q + 1)))) = g_X8_feed vm (xs (Int32.toNatClampNeg (nI (q + 1)))) from rfl, h9] at hoM; cases hoM
  refine tw_cM (As := [.int (xs (Int32.toNatClampNeg (nI (q + 1))))]) (rest := []) (n := 1) ⟨hx, hb, hml, hown, hts⟩ (d_X8_feed l E Zm vm (xs (Int32.toNatClampNeg (nI (q + 1)))) hsM) gL_law_X8_feed rfl (by decide +kernel) ⟨Nat.le_of_ble_eq_true rfl, Nat.le_of_ble_eq_true rfl⟩ hK hw rfl hl.1 rfl (Nat.le_of_ble_eq_true rfl) dL_law_392 rfl rfl ⟨Nat.le_of_ble_eq_true rfl, Nat.le_of_ble_eq_true rfl⟩ (fun rM vM H locs hp hw => ?_)
  have hzM : (some (rM, vM) : Option (Int32 × Mm)) = some (r2, vm1) := by rw [← hoM, show oM_feed vm (xs (Int32.toNatClampNeg (nI (q + 1)))) = g_X8_feed vm (xs (Int32.toNatClampNeg (nI (q + 1)))) from rfl, hp]
  obtain ⟨e1M, e2M⟩ := Prod.mk.inj (Option.some.inj hzM)
  subst e1M
  rw [e2M] at hw
  refine lv_pop hx hb dL_law_395 rfl ?_
  refine lv_goto (tgt := 1421) hx hb dL_law_396 (by decide) ?_
  exact kk _ _ _ _ _ hJ1 hw hl
set_option maxHeartbeats 4000000 in
set_option maxRecDepth 100000 in
theorem lk_5 {p : Program} {l : Launch} {e : Env} {s : State} {m : MethodId} {below : List Frame} {meth : Method} {c : Code} {b L : Nat} {xs : Nat → Int32} {E : kq_T} {H : Heap} {locs : List Loc} {ls : Array Slot} {Zx Zm : km_Z} {vx vm : Mm} {q : Nat} {J : Mm → Mm → Prop} {C : Prop} (hop : jop_gate J C) (C0 : lw_At p s m meth c b L xs) (hK : kq_K E (fun q : Nat => s.heap.size ≤ q) s) (hq : q + 6 ≤ L) (hL : L ≤ 384) (hJ : J vx vm) (hw : tw E (fun q : Nat => s.heap.size ≤ q) s.heap Zx Zm vx vm H locs) (hl : lv_has ls 4 [(3, .int (nI q)), (2, .ref (Zm.1 30 0)), (1, .ref (Zx.1 0 0)), (0, .ref b)]) (kk : ∀ (vx1 vm1 : Mm) (H1 : Heap) (locs1 : List Loc) (ls1 : Array Slot), J vx1 vm1 → tw E (fun q : Nat => s.heap.size ≤ q) s.heap Zx Zm vx1 vm1 H1 locs1 → lv_has ls1 4 [(3, .int (nI q)), (2, .ref (Zm.1 30 0)), (1, .ref (Zx.1 0 0)), (0, .ref b)] → W p l e room_1 s m #[Value.ref b] below meth c H1 locs1 1000 10000 (lw_Z below #[Value.ref b] s) (F0 m 1421 ls1 [])) : W p l e room_1 s m #[Value.ref b] below meth c H locs 1000 10000 (lw_Z below #[Value.ref b] s) (F0 m 399 ls []) := by
  obtain ⟨hx, hb, hr, hml, hown, hts, hX, hbl, hlocks, hgv⟩ := id C0
  have hown : s.vm.findClass RL = some m.cls := hown
  have hb : c.code = cL_law := hb
  have hts := fun w h => hts w (wsL_law_in w h)
  have hbA : ¬ (fun q : Nat => s.heap.size ≤ q) b := Nat.not_le.mpr hbl
  obtain ⟨r1, vx1, r2, vm1, hoX, hoM, hJ1, hC⟩ := hop vx vm  hJ
  refine lv_aload_n hx hb dL_law_399 rfl (lv_at hl 2 rfl) ?_
  have hsX : g_X7_gate vx  ≠ none := fun h9 => by rw [show oX_gate vx  = g_X7_gate vx  from rfl, h9] at hoX; cases hoX
  refine tw_cX (As := []) (rest := []) (n := 0) ⟨hx, hb, hml, hown, hts⟩ (d_X7_gate l E Zx vx  hsX) gL_law_X7_gate rfl (by decide +kernel) ⟨Nat.le_of_ble_eq_true rfl, Nat.le_of_ble_eq_true rfl⟩ hK hw rfl hl.1 rfl (Nat.le_of_ble_eq_true rfl) dL_law_400 rfl rfl ⟨Nat.le_of_ble_eq_true rfl, Nat.le_of_ble_eq_true rfl⟩ (fun rX vX H locs hp hw => ?_)
  have hzX : (some (rX, vX) : Option (Int32 × Mm)) = some (r1, vx1) := by rw [← hoX, show oX_gate vx  = g_X7_gate vx  from rfl, hp]
  obtain ⟨e1X, e2X⟩ := Prod.mk.inj (Option.some.inj hzX)
  subst e1X
  rw [e2X] at hw
  refine lv_pop hx hb dL_law_403 rfl ?_
  refine lv_aload_n hx hb dL_law_404 rfl (lv_at hl 1 rfl) ?_
  have hsM : g_X8_gate vm  ≠ none := fun h9 => by rw [show oM_gate vm  = g_X8_gate vm  from rfl, h9] at hoM; cases hoM
  refine tw_cM (As := []) (rest := []) (n := 0) ⟨hx, hb, hml, hown, hts⟩ (d_X8_gate l E Zm vm  hsM) gL_law_X8_gate rfl (by decide +kernel) ⟨Nat.le_of_ble_eq_true rfl, Nat.le_of_ble_eq_true rfl⟩ hK hw rfl hl.1 rfl (Nat.le_of_ble_eq_true rfl) dL_law_405 rfl rfl ⟨Nat.le_of_ble_eq_true rfl, Nat.le_of_ble_eq_true rfl⟩ (fun rM vM H locs hp hw => ?_)
  have hzM : (some (rM, vM) : Option (Int32 × Mm)) = some (r2, vm1) := by rw [← hoM, show oM_gate vm  = g_X8_gate vm  from rfl, hp]
  obtain ⟨e1M, e2M⟩ := Prod.mk.inj (Option.some.inj hzM)
  subst e1M
  rw [e2M] at hw
  refine lv_pop hx hb dL_law_408 rfl ?_
  refine lv_goto (tgt := 1421) hx hb dL_law_409 (by decide) ?_
  exact kk _ _ _ _ _ hJ1 hw hl
set_option maxHeartbeats 4000000 in
set_option maxRecDepth 100000 in
theorem lk_6 {p : Program} {l : Launch} {e : Env} {s : State} {m : MethodId} {below : List Frame} {meth : Method} {c : Code} {b L : Nat} {xs : Nat → Int32} {E : kq_T} {H : Heap} {locs : List Loc} {ls : Array Slot} {Zx Zm : km_Z} {vx vm : Mm} {q : Nat} {J : Mm → Mm → Prop} {C : Prop} (hop : jop_fault J C) (C0 : lw_At p s m meth c b L xs) (hK : kq_K E (fun q : Nat => s.heap.size ≤ q) s) (hq : q + 6 ≤ L) (hL : L ≤ 384) (hJ : J vx vm) (hw : tw E (fun q : Nat => s.heap.size ≤ q) s.heap Zx Zm vx vm H locs) (hl : lv_has ls 4 [(3, .int (nI q)), (2, .ref (Zm.1 30 0)), (1, .ref (Zx.1 0 0)), (0, .ref b)]) (kk : ∀ (vx1 vm1 : Mm) (H1 : Heap) (locs1 : List Loc) (ls1 : Array Slot), J vx1 vm1 → tw E (fun q : Nat => s.heap.size ≤ q) s.heap Zx Zm vx1 vm1 H1 locs1 → lv_has ls1 4 [(3, .int (nI q)), (2, .ref (Zm.1 30 0)), (1, .ref (Zx.1 0 0)), (0, .ref b)] → W p l e room_1 s m #[Value.ref b] below meth c H1 locs1 1000 10000 (lw_Z below #[Value.ref b] s) (F0 m 1421 ls1 [])) : W p l e room_1 s m #[Value.ref b] below meth c H locs 1000 10000 (lw_Z below #[Value.ref b] s) (F0 m 412 ls []) := by
  obtain ⟨hx, hb, hr, hml, hown, hts, hX, hbl, hlocks, hgv⟩ := id C0
  have hown : s.vm.findClass RL = some m.cls := hown
  have hb : c.code = cL_law := hb
  have hts := fun w h => hts w (wsL_law_in w h)
  have hbA : ¬ (fun q : Nat => s.heap.size ≤ q) b := Nat.not_le.mpr hbl
  obtain ⟨r1, vx1, r2, vm1, hoX, hoM, hJ1, hC⟩ := hop vx vm  hJ
  refine lv_aload_n hx hb dL_law_412 rfl (lv_at hl 2 rfl) ?_
  have hsX : g_X7_fault vx  ≠ none := fun h9 => by rw [show oX_fault vx  = (g_X7_fault vx ).map (fun r => (r, vx)) from rfl, h9] at hoX; cases hoX
  refine tw_cX (As := []) (rest := []) (n := 0) ⟨hx, hb, hml, hown, hts⟩ (d_X7_fault l E Zx vx  hsX) gL_law_X7_fault rfl (by decide +kernel) ⟨Nat.le_of_ble_eq_true rfl, Nat.le_of_ble_eq_true rfl⟩ hK hw rfl hl.1 rfl (Nat.le_of_ble_eq_true rfl) dL_law_413 rfl rfl ⟨Nat.le_of_ble_eq_true rfl, Nat.le_of_ble_eq_true rfl⟩ (fun rX vX H locs hp hw => ?_)
  obtain ⟨hp, rfl⟩ := hp
  have hzX : (some (rX, vx) : Option (Int32 × Mm)) = some (r1, vx1) := by rw [← hoX, show oX_fault vx  = (g_X7_fault vx ).map (fun r => (r, vx)) from rfl, hp]; rfl
  obtain ⟨e1X, e2X⟩ := Prod.mk.inj (Option.some.inj hzX)
  subst e1X
  rw [← e2X] at hJ1
  refine lv_pop hx hb dL_law_416 rfl ?_
  refine lv_aload_n hx hb dL_law_417 rfl (lv_at hl 1 rfl) ?_
  have hsM : g_X8_fault vm  ≠ none := fun h9 => by rw [show oM_fault vm  = (g_X8_fault vm ).map (fun r => (r, vm)) from rfl, h9] at hoM; cases hoM
  refine tw_cM (As := []) (rest := []) (n := 0) ⟨hx, hb, hml, hown, hts⟩ (d_X8_fault l E Zm vm  hsM) gL_law_X8_fault rfl (by decide +kernel) ⟨Nat.le_of_ble_eq_true rfl, Nat.le_of_ble_eq_true rfl⟩ hK hw rfl hl.1 rfl (Nat.le_of_ble_eq_true rfl) dL_law_418 rfl rfl ⟨Nat.le_of_ble_eq_true rfl, Nat.le_of_ble_eq_true rfl⟩ (fun rM vM H locs hp hw => ?_)
  obtain ⟨hp, rfl⟩ := hp
  have hzM : (some (rM, vm) : Option (Int32 × Mm)) = some (r2, vm1) := by rw [← hoM, show oM_fault vm  = (g_X8_fault vm ).map (fun r => (r, vm)) from rfl, hp]; rfl
  obtain ⟨e1M, e2M⟩ := Prod.mk.inj (Option.some.inj hzM)
  subst e1M
  rw [← e2M] at hJ1
  refine lv_pop hx hb dL_law_421 rfl ?_
  refine lv_goto (tgt := 1421) hx hb dL_law_422 (by decide) ?_
  exact kk _ _ _ _ _ hJ1 hw hl
set_option maxHeartbeats 4000000 in
set_option maxRecDepth 100000 in
theorem lk_7 {p : Program} {l : Launch} {e : Env} {s : State} {m : MethodId} {below : List Frame} {meth : Method} {c : Code} {b L : Nat} {xs : Nat → Int32} {E : kq_T} {H : Heap} {locs : List Loc} {ls : Array Slot} {Zx Zm : km_Z} {vx vm : Mm} {q : Nat} {J : Mm → Mm → Prop} {C : Prop} (hop : jop_nights J C) (C0 : lw_At p s m meth c b L xs) (hK : kq_K E (fun q : Nat => s.heap.size ≤ q) s) (hq : q + 6 ≤ L) (hL : L ≤ 384) (hJ : J vx vm) (hw : tw E (fun q : Nat => s.heap.size ≤ q) s.heap Zx Zm vx vm H locs) (hl : lv_has ls 4 [(3, .int (nI q)), (2, .ref (Zm.1 30 0)), (1, .ref (Zx.1 0 0)), (0, .ref b)]) (kk : ∀ (vx1 vm1 : Mm) (H1 : Heap) (locs1 : List Loc) (ls1 : Array Slot), J vx1 vm1 → tw E (fun q : Nat => s.heap.size ≤ q) s.heap Zx Zm vx1 vm1 H1 locs1 → lv_has ls1 4 [(3, .int (nI q)), (2, .ref (Zm.1 30 0)), (1, .ref (Zx.1 0 0)), (0, .ref b)] → W p l e room_1 s m #[Value.ref b] below meth c H1 locs1 1000 10000 (lw_Z below #[Value.ref b] s) (F0 m 1421 ls1 [])) : W p l e room_1 s m #[Value.ref b] below meth c H locs 1000 10000 (lw_Z below #[Value.ref b] s) (F0 m 425 ls []) := by
  obtain ⟨hx, hb, hr, hml, hown, hts, hX, hbl, hlocks, hgv⟩ := id C0
  have hown : s.vm.findClass RL = some m.cls := hown
  have hb : c.code = cL_law := hb
  have hts := fun w h => hts w (wsL_law_in w h)
  have hbA : ¬ (fun q : Nat => s.heap.size ≤ q) b := Nat.not_le.mpr hbl
  obtain ⟨r1, vx1, r2, vm1, hoX, hoM, hJ1, hC⟩ := hop vx vm (xs (Int32.toNatClampNeg (nI (q + 1)))) hJ
  refine lv_aload_n hx hb dL_law_425 rfl (lv_at hl 2 rfl) ?_
  refine lv_aload_n hx hb dL_law_426 rfl (lv_at hl 3 rfl) ?_
  refine lv_iload_n hx hb dL_law_427 rfl (lv_at hl 0 rfl) ?_
  refine lv_iconst (v := 1) hx hb dL_law_428 (by decide) ?_
  refine lv_iadd hx hb dL_law_429 ?_
  refine lv_topi (fun z0 ez0 => ?_)
  have ez0 : z0 = nI (q + 1) := ez0.trans (nI_add q 1)
  subst ez0
  refine va_sld hx hb hX hbl hbA hw.S (vp_in_nI (show q + 1 < L by omega) (by omega)) dL_law_430 ?_
  have hsX : g_X7_nights vx (xs (Int32.toNatClampNeg (nI (q + 1)))) ≠ none := fun h9 => by rw [show oX_nights vx (xs (Int32.toNatClampNeg (nI (q + 1)))) = g_X7_nights vx (xs (Int32.toNatClampNeg (nI (q + 1)))) from rfl, h9] at hoX; cases hoX
  refine tw_cX (As := [.int (xs (Int32.toNatClampNeg (nI (q + 1))))]) (rest := []) (n := 1) ⟨hx, hb, hml, hown, hts⟩ (d_X7_nights l E Zx vx (xs (Int32.toNatClampNeg (nI (q + 1)))) hsX) gL_law_X7_nights rfl (by decide +kernel) ⟨Nat.le_of_ble_eq_true rfl, Nat.le_of_ble_eq_true rfl⟩ hK hw rfl hl.1 rfl (Nat.le_of_ble_eq_true rfl) dL_law_431 rfl rfl ⟨Nat.le_of_ble_eq_true rfl, Nat.le_of_ble_eq_true rfl⟩ (fun rX vX H locs hp hw => ?_)
  have hzX : (some (rX, vX) : Option (Int32 × Mm)) = some (r1, vx1) := by rw [← hoX, show oX_nights vx (xs (Int32.toNatClampNeg (nI (q + 1)))) = g_X7_nights vx (xs (Int32.toNatClampNeg (nI (q + 1)))) from rfl, hp]
  obtain ⟨e1X, e2X⟩ := Prod.mk.inj (Option.some.inj hzX)
  subst e1X
  rw [e2X] at hw
  refine lv_pop hx hb dL_law_434 rfl ?_
  refine lv_aload_n hx hb dL_law_435 rfl (lv_at hl 1 rfl) ?_
  refine lv_aload_n hx hb dL_law_436 rfl (lv_at hl 3 rfl) ?_
  refine lv_iload_n hx hb dL_law_437 rfl (lv_at hl 0 rfl) ?_
  refine lv_iconst (v := 1) hx hb dL_law_438 (by decide) ?_
  refine lv_iadd hx hb dL_law_439 ?_
  refine lv_topi (fun z1 ez1 => ?_)
  have ez1 : z1 = nI (q + 1) := ez1.trans (nI_add q 1)
  subst ez1
  refine va_sld hx hb hX hbl hbA hw.S (vp_in_nI (show q + 1 < L by omega) (by omega)) dL_law_440 ?_
  have hsM : g_X8_nights vm (xs (Int32.toNatClampNeg (nI (q + 1)))) ≠ none := fun h9 => by rw [show oM_nights vm (xs (Int32.toNatClampNeg (nI (q + 1)))) = g_X8_nights vm (xs (Int32.toNatClampNeg (nI (q + 1)))) from rfl, h9] at hoM; cases hoM
  refine tw_cM (As := [.int (xs (Int32.toNatClampNeg (nI (q + 1))))]) (rest := []) (n := 1) ⟨hx, hb, hml, hown, hts⟩ (d_X8_nights l E Zm vm (xs (Int32.toNatClampNeg (nI (q + 1)))) hsM) gL_law_X8_nights rfl (by decide +kernel) ⟨Nat.le_of_ble_eq_true rfl, Nat.le_of_ble_eq_true rfl⟩ hK hw rfl hl.1 rfl (Nat.le_of_ble_eq_true rfl) dL_law_441 rfl rfl ⟨Nat.le_of_ble_eq_true rfl, Nat.le_of_ble_eq_true rfl⟩ (fun rM vM H locs hp hw => ?_)
  have hzM : (some (rM, vM) : Option (Int32 × Mm)) = some (r2, vm1) := by rw [← hoM, show oM_nights vm (xs (Int32.toNatClampNeg (nI (q + 1)))) = g_X8_nights vm (xs (Int32.toNatClampNeg (nI (q + 1)))) from rfl, hp]
  obtain ⟨e1M, e2M⟩ := Prod.mk.inj (Option.some.inj hzM)
  subst e1M
  rw [e2M] at hw
  refine lv_pop hx hb dL_law_444 rfl ?_
  refine lv_goto (tgt := 1421) hx hb dL_law_445 (by decide) ?_
  exact kk _ _ _ _ _ hJ1 hw hl
set_option maxHeartbeats 4000000 in
set_option maxRecDepth 100000 in
theorem lk_8 {p : Program} {l : Launch} {e : Env} {s : State} {m : MethodId} {below : List Frame} {meth : Method} {c : Code} {b L : Nat} {xs : Nat → Int32} {E : kq_T} {H : Heap} {locs : List Loc} {ls : Array Slot} {Zx Zm : km_Z} {vx vm : Mm} {q : Nat} {J : Mm → Mm → Prop} {C : Prop} (hop : jop_say J C) (C0 : lw_At p s m meth c b L xs) (hK : kq_K E (fun q : Nat => s.heap.size ≤ q) s) (hq : q + 6 ≤ L) (hL : L ≤ 384) (hJ : J vx vm) (hw : tw E (fun q : Nat => s.heap.size ≤ q) s.heap Zx Zm vx vm H locs) (hl : lv_has ls 4 [(3, .int (nI q)), (2, .ref (Zm.1 30 0)), (1, .ref (Zx.1 0 0)), (0, .ref b)]) (kk : ∀ (vx1 vm1 : Mm) (H1 : Heap) (locs1 : List Loc) (ls1 : Array Slot), J vx1 vm1 → tw E (fun q : Nat => s.heap.size ≤ q) s.heap Zx Zm vx1 vm1 H1 locs1 → lv_has ls1 4 [(3, .int (nI q)), (2, .ref (Zm.1 30 0)), (1, .ref (Zx.1 0 0)), (0, .ref b)] → W p l e room_1 s m #[Value.ref b] below meth c H1 locs1 1000 10000 (lw_Z below #[Value.ref b] s) (F0 m 1421 ls1 [])) : W p l e room_1 s m #[Value.ref b] below meth c H locs 1000 10000 (lw_Z below #[Value.ref b] s) (F0 m 448 ls []) := by
  obtain ⟨hx, hb, hr, hml, hown, hts, hX, hbl, hlocks, hgv⟩ := id C0
  have hown : s.vm.findClass RL = some m.cls := hown
  have hb : c.code = cL_law := hb
  have hts := fun w h => hts w (wsL_law_in w h)
  have hbA : ¬ (fun q : Nat => s.heap.size ≤ q) b := Nat.not_le.mpr hbl
  obtain ⟨r1, vx1, r2, vm1, hoX, hoM, hJ1, hC⟩ := hop vx vm (xs (Int32.toNatClampNeg (nI (q + 1)))) (xs (Int32.toNatClampNeg (nI (q + 2)))) hJ
  refine lv_aload_n hx hb dL_law_448 rfl (lv_at hl 2 rfl) ?_
  refine lv_aload_n hx hb dL_law_449 rfl (lv_at hl 3 rfl) ?_
  refine lv_iload_n hx hb dL_law_450 rfl (lv_at hl 0 rfl) ?_
  refine lv_iconst (v := 1) hx hb dL_law_451 (by decide) ?_
  refine lv_iadd hx hb dL_law_452 ?_
  refine lv_topi (fun z0 ez0 => ?_)
  have ez0 : z0 = nI (q + 1) := ez0.trans (nI_add q 1)
  subst ez0
  refine va_sld hx hb hX hbl hbA hw.S (vp_in_nI (show q + 1 < L by omega) (by omega)) dL_law_453 ?_
  refine lv_aload_n hx hb dL_law_454 rfl (lv_at hl 3 rfl) ?_
  refine lv_iload_n hx hb dL_law_455 rfl (lv_at hl 0 rfl) ?_
  refine lv_iconst (v := 2) hx hb dL_law_456 (by decide) ?_
  refine lv_iadd hx hb dL_law_457 ?_
  refine lv_topi (fun z1 ez1 => ?_)
  have ez1 : z1 = nI (q + 2) := ez1.trans (nI_add q 2)
  subst ez1
  refine va_sld hx hb hX hbl hbA hw.S (vp_in_nI (show q + 2 < L by omega) (by omega)) dL_law_458 ?_
  have hsX : g_X7_say vx (xs (Int32.toNatClampNeg (nI (q + 1)))) (xs (Int32.toNatClampNeg (nI (q + 2)))) ≠ none := fun h9 => by rw [show oX_say vx (xs (Int32.toNatClampNeg (nI (q + 1)))) (xs (Int32.toNatClampNeg (nI (q + 2)))) = g_X7_say vx (xs (Int32.toNatClampNeg (nI (q + 1)))) (xs (Int32.toNatClampNeg (nI (q + 2)))) from rfl, h9] at hoX; cases hoX
  refine tw_cX (As := [.int (xs (Int32.toNatClampNeg (nI (q + 1)))), .int (xs (Int32.toNatClampNeg (nI (q + 2))))]) (rest := []) (n := 2) ⟨hx, hb, hml, hown, hts⟩ (d_X7_say l E Zx vx (xs (Int32.toNatClampNeg (nI (q + 1)))) (xs (Int32.toNatClampNeg (nI (q + 2)))) hsX) gL_law_X7_say rfl (by decide +kernel) ⟨Nat.le_of_ble_eq_true rfl, Nat.le_of_ble_eq_true rfl⟩ hK hw rfl hl.1 rfl (Nat.le_of_ble_eq_true rfl) dL_law_459 rfl rfl ⟨Nat.le_of_ble_eq_true rfl, Nat.le_of_ble_eq_true rfl⟩ (fun rX vX H locs hp hw => ?_)
  have hzX : (some (rX, vX) : Option (Int32 × Mm)) = some (r1, vx1) := by rw [← hoX, show oX_say vx (xs (Int32.toNatClampNeg (nI (q + 1)))) (xs (Int32.toNatClampNeg (nI (q + 2)))) = g_X7_say vx (xs (Int32.toNatClampNeg (nI (q + 1)))) (xs (Int32.toNatClampNeg (nI (q + 2)))) from rfl, hp]
  obtain ⟨e1X, e2X⟩ := Prod.mk.inj (Option.some.inj hzX)
  subst e1X
  rw [e2X] at hw
  refine lv_pop hx hb dL_law_462 rfl ?_
  refine lv_aload_n hx hb dL_law_463 rfl (lv_at hl 1 rfl) ?_
  refine lv_aload_n hx hb dL_law_464 rfl (lv_at hl 3 rfl) ?_
  refine lv_iload_n hx hb dL_law_465 rfl (lv_at hl 0 rfl) ?_
  refine lv_iconst (v := 1) hx hb dL_law_466 (by decide) ?_
  refine lv_iadd hx hb dL_law_467 ?_
  refine lv_topi (fun z2 ez2 => ?_)
  have ez2 : z2 = nI (q + 1) := ez2.trans (nI_add q 1)
  subst ez2
  refine va_sld hx hb hX hbl hbA hw.S (vp_in_nI (show q + 1 < L by omega) (by omega)) dL_law_468 ?_
  refine lv_aload_n hx hb dL_law_469 rfl (lv_at hl 3 rfl) ?_
  refine lv_iload_n hx hb dL_law_470 rfl (lv_at hl 0 rfl) ?_
  refine lv_iconst (v := 2) hx hb dL_law_471 (by decide) ?_
  refine lv_iadd hx hb dL_law_472 ?_
  refine lv_topi (fun z3 ez3 => ?_)
  have ez3 : z3 = nI (q + 2) := ez3.trans (nI_add q 2)
  subst ez3
  refine va_sld hx hb hX hbl hbA hw.S (vp_in_nI (show q + 2 < L by omega) (by omega)) dL_law_473 ?_
  have hsM : g_X8_say vm (xs (Int32.toNatClampNeg (nI (q + 1)))) (xs (Int32.toNatClampNeg (nI (q + 2)))) ≠ none := fun h9 => by rw [show oM_say vm (xs (Int32.toNatClampNeg (nI (q + 1)))) (xs (Int32.toNatClampNeg (nI (q + 2)))) = g_X8_say vm (xs (Int32.toNatClampNeg (nI (q + 1)))) (xs (Int32.toNatClampNeg (nI (q + 2)))) from rfl, h9] at hoM; cases hoM
  refine tw_cM (As := [.int (xs (Int32.toNatClampNeg (nI (q + 1)))), .int (xs (Int32.toNatClampNeg (nI (q + 2))))]) (rest := []) (n := 2) ⟨hx, hb, hml, hown, hts⟩ (d_X8_say l E Zm vm (xs (Int32.toNatClampNeg (nI (q + 1)))) (xs (Int32.toNatClampNeg (nI (q + 2)))) hsM) gL_law_X8_say rfl (by decide +kernel) ⟨Nat.le_of_ble_eq_true rfl, Nat.le_of_ble_eq_true rfl⟩ hK hw rfl hl.1 rfl (Nat.le_of_ble_eq_true rfl) dL_law_474 rfl rfl ⟨Nat.le_of_ble_eq_true rfl, Nat.le_of_ble_eq_true rfl⟩ (fun rM vM H locs hp hw => ?_)
  have hzM : (some (rM, vM) : Option (Int32 × Mm)) = some (r2, vm1) := by rw [← hoM, show oM_say vm (xs (Int32.toNatClampNeg (nI (q + 1)))) (xs (Int32.toNatClampNeg (nI (q + 2)))) = g_X8_say vm (xs (Int32.toNatClampNeg (nI (q + 1)))) (xs (Int32.toNatClampNeg (nI (q + 2)))) from rfl, hp]
  obtain ⟨e1M, e2M⟩ := Prod.mk.inj (Option.some.inj hzM)
  subst e1M
  rw [e2M] at hw
  refine lv_pop hx hb dL_law_477 rfl ?_
  refine lv_goto (tgt := 1421) hx hb dL_law_478 (by decide) ?_
  exact kk _ _ _ _ _ hJ1 hw hl
set_option maxHeartbeats 4000000 in
set_option maxRecDepth 100000 in
theorem lk_9 {p : Program} {l : Launch} {e : Env} {s : State} {m : MethodId} {below : List Frame} {meth : Method} {c : Code} {b L : Nat} {xs : Nat → Int32} {E : kq_T} {H : Heap} {locs : List Loc} {ls : Array Slot} {Zx Zm : km_Z} {vx vm : Mm} {q : Nat} {J : Mm → Mm → Prop} {C : Prop} (hop : jop_start J C) (C0 : lw_At p s m meth c b L xs) (hK : kq_K E (fun q : Nat => s.heap.size ≤ q) s) (hq : q + 6 ≤ L) (hL : L ≤ 384) (hJ : J vx vm) (hw : tw E (fun q : Nat => s.heap.size ≤ q) s.heap Zx Zm vx vm H locs) (hl : lv_has ls 4 [(3, .int (nI q)), (2, .ref (Zm.1 30 0)), (1, .ref (Zx.1 0 0)), (0, .ref b)]) (kk : ∀ (vx1 vm1 : Mm) (H1 : Heap) (locs1 : List Loc) (ls1 : Array Slot), J vx1 vm1 → tw E (fun q : Nat => s.heap.size ≤ q) s.heap Zx Zm vx1 vm1 H1 locs1 → lv_has ls1 4 [(3, .int (nI q)), (2, .ref (Zm.1 30 0)), (1, .ref (Zx.1 0 0)), (0, .ref b)] → W p l e room_1 s m #[Value.ref b] below meth c H1 locs1 1000 10000 (lw_Z below #[Value.ref b] s) (F0 m 1421 ls1 [])) : W p l e room_1 s m #[Value.ref b] below meth c H locs 1000 10000 (lw_Z below #[Value.ref b] s) (F0 m 481 ls []) := by
  obtain ⟨hx, hb, hr, hml, hown, hts, hX, hbl, hlocks, hgv⟩ := id C0
  have hown : s.vm.findClass RL = some m.cls := hown
  have hb : c.code = cL_law := hb
  have hts := fun w h => hts w (wsL_law_in w h)
  have hbA : ¬ (fun q : Nat => s.heap.size ≤ q) b := Nat.not_le.mpr hbl
  obtain ⟨r1, vx1, r2, vm1, hoX, hoM, hJ1, hC⟩ := hop vx vm (xs (Int32.toNatClampNeg (nI (q + 1)))) hJ
  refine lv_aload_n hx hb dL_law_481 rfl (lv_at hl 2 rfl) ?_
  refine lv_aload_n hx hb dL_law_482 rfl (lv_at hl 3 rfl) ?_
  refine lv_iload_n hx hb dL_law_483 rfl (lv_at hl 0 rfl) ?_
  refine lv_iconst (v := 1) hx hb dL_law_484 (by decide) ?_
  refine lv_iadd hx hb dL_law_485 ?_
  refine lv_topi (fun z0 ez0 => ?_)
  have ez0 : z0 = nI (q + 1) := ez0.trans (nI_add q 1)
  subst ez0
  refine va_sld hx hb hX hbl hbA hw.S (vp_in_nI (show q + 1 < L by omega) (by omega)) dL_law_486 ?_
  have hsX : g_X7_start vx (xs (Int32.toNatClampNeg (nI (q + 1)))) ≠ none := fun h9 => by rw [show oX_start vx (xs (Int32.toNatClampNeg (nI (q + 1)))) = g_X7_start vx (xs (Int32.toNatClampNeg (nI (q + 1)))) from rfl, h9] at hoX; cases hoX
  refine tw_cX (As := [.int (xs (Int32.toNatClampNeg (nI (q + 1))))]) (rest := []) (n := 1) ⟨hx, hb, hml, hown, hts⟩ (d_X7_start l E Zx vx (xs (Int32.toNatClampNeg (nI (q + 1)))) hsX) gL_law_X7_start rfl (by decide +kernel) ⟨Nat.le_of_ble_eq_true rfl, Nat.le_of_ble_eq_true rfl⟩ hK hw rfl hl.1 rfl (Nat.le_of_ble_eq_true rfl) dL_law_487 rfl rfl ⟨Nat.le_of_ble_eq_true rfl, Nat.le_of_ble_eq_true rfl⟩ (fun rX vX H locs hp hw => ?_)
  have hzX : (some (rX, vX) : Option (Int32 × Mm)) = some (r1, vx1) := by rw [← hoX, show oX_start vx (xs (Int32.toNatClampNeg (nI (q + 1)))) = g_X7_start vx (xs (Int32.toNatClampNeg (nI (q + 1)))) from rfl, hp]
  obtain ⟨e1X, e2X⟩ := Prod.mk.inj (Option.some.inj hzX)
  subst e1X
  rw [e2X] at hw
  refine lv_pop hx hb dL_law_490 rfl ?_
  refine lv_aload_n hx hb dL_law_491 rfl (lv_at hl 1 rfl) ?_
  refine lv_aload_n hx hb dL_law_492 rfl (lv_at hl 3 rfl) ?_
  refine lv_iload_n hx hb dL_law_493 rfl (lv_at hl 0 rfl) ?_
  refine lv_iconst (v := 1) hx hb dL_law_494 (by decide) ?_
  refine lv_iadd hx hb dL_law_495 ?_
  refine lv_topi (fun z1 ez1 => ?_)
  have ez1 : z1 = nI (q + 1) := ez1.trans (nI_add q 1)
  subst ez1
  refine va_sld hx hb hX hbl hbA hw.S (vp_in_nI (show q + 1 < L by omega) (by omega)) dL_law_496 ?_
  have hsM : g_X8_start vm (xs (Int32.toNatClampNeg (nI (q + 1)))) ≠ none := fun h9 => by rw [show oM_start vm (xs (Int32.toNatClampNeg (nI (q + 1)))) = g_X8_start vm (xs (Int32.toNatClampNeg (nI (q + 1)))) from rfl, h9] at hoM; cases hoM
  refine tw_cM (As := [.int (xs (Int32.toNatClampNeg (nI (q + 1))))]) (rest := []) (n := 1) ⟨hx, hb, hml, hown, hts⟩ (d_X8_start l E Zm vm (xs (Int32.toNatClampNeg (nI (q + 1)))) hsM) gL_law_X8_start rfl (by decide +kernel) ⟨Nat.le_of_ble_eq_true rfl, Nat.le_of_ble_eq_true rfl⟩ hK hw rfl hl.1 rfl (Nat.le_of_ble_eq_true rfl) dL_law_497 rfl rfl ⟨Nat.le_of_ble_eq_true rfl, Nat.le_of_ble_eq_true rfl⟩ (fun rM vM H locs hp hw => ?_)
  have hzM : (some (rM, vM) : Option (Int32 × Mm)) = some (r2, vm1) := by rw [← hoM, show oM_start vm (xs (Int32.toNatClampNeg (nI (q + 1)))) = g_X8_start vm (xs (Int32.toNatClampNeg (nI (q + 1)))) from rfl, hp]
  obtain ⟨e1M, e2M⟩ := Prod.mk.inj (Option.some.inj hzM)
  subst e1M
  rw [e2M] at hw
  refine lv_pop hx hb dL_law_500 rfl ?_
  refine lv_goto (tgt := 1421) hx hb dL_law_501 (by decide) ?_
  exact kk _ _ _ _ _ hJ1 hw hl
set_option maxHeartbeats 4000000 in
set_option maxRecDepth 100000 in
theorem lk_10 {p : Program} {l : Launch} {e : Env} {s : State} {m : MethodId} {below : List Frame} {meth : Method} {c : Code} {b L : Nat} {xs : Nat → Int32} {E : kq_T} {H : Heap} {locs : List Loc} {ls : Array Slot} {Zx Zm : km_Z} {vx vm : Mm} {q : Nat} {J : Mm → Mm → Prop} {C : Prop} (hop : jop_dismiss J C) (C0 : lw_At p s m meth c b L xs) (hK : kq_K E (fun q : Nat => s.heap.size ≤ q) s) (hq : q + 6 ≤ L) (hL : L ≤ 384) (hJ : J vx vm) (hw : tw E (fun q : Nat => s.heap.size ≤ q) s.heap Zx Zm vx vm H locs) (hl : lv_has ls 4 [(3, .int (nI q)), (2, .ref (Zm.1 30 0)), (1, .ref (Zx.1 0 0)), (0, .ref b)]) (kk : ∀ (vx1 vm1 : Mm) (H1 : Heap) (locs1 : List Loc) (ls1 : Array Slot), J vx1 vm1 → tw E (fun q : Nat => s.heap.size ≤ q) s.heap Zx Zm vx1 vm1 H1 locs1 → lv_has ls1 4 [(3, .int (nI q)), (2, .ref (Zm.1 30 0)), (1, .ref (Zx.1 0 0)), (0, .ref b)] → W p l e room_1 s m #[Value.ref b] below meth c H1 locs1 1000 10000 (lw_Z below #[Value.ref b] s) (F0 m 1421 ls1 [])) : W p l e room_1 s m #[Value.ref b] below meth c H locs 1000 10000 (lw_Z below #[Value.ref b] s) (F0 m 504 ls []) := by
  obtain ⟨hx, hb, hr, hml, hown, hts, hX, hbl, hlocks, hgv⟩ := id C0
  have hown : s.vm.findClass RL = some m.cls := hown
  have hb : c.code = cL_law := hb
  have hts := fun w h => hts w (wsL_law_in w h)
  have hbA : ¬ (fun q : Nat => s.heap.size ≤ q) b := Nat.not_le.mpr hbl
  obtain ⟨r1, vx1, r2, vm1, hoX, hoM, hJ1, hC⟩ := hop vx vm (xs (Int32.toNatClampNeg (nI (q + 1)))) (xs (Int32.toNatClampNeg (nI (q + 2)))) hJ
  refine lv_aload_n hx hb dL_law_504 rfl (lv_at hl 2 rfl) ?_
  refine lv_aload_n hx hb dL_law_505 rfl (lv_at hl 3 rfl) ?_
  refine lv_iload_n hx hb dL_law_506 rfl (lv_at hl 0 rfl) ?_
  refine lv_iconst (v := 1) hx hb dL_law_507 (by decide) ?_
  refine lv_iadd hx hb dL_law_508 ?_
  refine lv_topi (fun z0 ez0 => ?_)
  have ez0 : z0 = nI (q + 1) := ez0.trans (nI_add q 1)
  subst ez0
  refine va_sld hx hb hX hbl hbA hw.S (vp_in_nI (show q + 1 < L by omega) (by omega)) dL_law_509 ?_
  refine lv_aload_n hx hb dL_law_510 rfl (lv_at hl 3 rfl) ?_
  refine lv_iload_n hx hb dL_law_511 rfl (lv_at hl 0 rfl) ?_
  refine lv_iconst (v := 2) hx hb dL_law_512 (by decide) ?_
  refine lv_iadd hx hb dL_law_513 ?_
  refine lv_topi (fun z1 ez1 => ?_)
  have ez1 : z1 = nI (q + 2) := ez1.trans (nI_add q 2)
  subst ez1
  refine va_sld hx hb hX hbl hbA hw.S (vp_in_nI (show q + 2 < L by omega) (by omega)) dL_law_514 ?_
  have hsX : g_X7_dismiss vx (xs (Int32.toNatClampNeg (nI (q + 1)))) (xs (Int32.toNatClampNeg (nI (q + 2)))) ≠ none := fun h9 => by rw [show oX_dismiss vx (xs (Int32.toNatClampNeg (nI (q + 1)))) (xs (Int32.toNatClampNeg (nI (q + 2)))) = g_X7_dismiss vx (xs (Int32.toNatClampNeg (nI (q + 1)))) (xs (Int32.toNatClampNeg (nI (q + 2)))) from rfl, h9] at hoX; cases hoX
  refine tw_cX (As := [.int (xs (Int32.toNatClampNeg (nI (q + 1)))), .int (xs (Int32.toNatClampNeg (nI (q + 2))))]) (rest := []) (n := 2) ⟨hx, hb, hml, hown, hts⟩ (d_X7_dismiss l E Zx vx (xs (Int32.toNatClampNeg (nI (q + 1)))) (xs (Int32.toNatClampNeg (nI (q + 2)))) hsX) gL_law_X7_dismiss rfl (by decide +kernel) ⟨Nat.le_of_ble_eq_true rfl, Nat.le_of_ble_eq_true rfl⟩ hK hw rfl hl.1 rfl (Nat.le_of_ble_eq_true rfl) dL_law_515 rfl rfl ⟨Nat.le_of_ble_eq_true rfl, Nat.le_of_ble_eq_true rfl⟩ (fun rX vX H locs hp hw => ?_)
  have hzX : (some (rX, vX) : Option (Int32 × Mm)) = some (r1, vx1) := by rw [← hoX, show oX_dismiss vx (xs (Int32.toNatClampNeg (nI (q + 1)))) (xs (Int32.toNatClampNeg (nI (q + 2)))) = g_X7_dismiss vx (xs (Int32.toNatClampNeg (nI (q + 1)))) (xs (Int32.toNatClampNeg (nI (q + 2)))) from rfl, hp]
  obtain ⟨e1X, e2X⟩ := Prod.mk.inj (Option.some.inj hzX)
  subst e1X
  rw [e2X] at hw
  refine lv_pop hx hb dL_law_518 rfl ?_
  refine lv_aload_n hx hb dL_law_519 rfl (lv_at hl 1 rfl) ?_
  refine lv_aload_n hx hb dL_law_520 rfl (lv_at hl 3 rfl) ?_
  refine lv_iload_n hx hb dL_law_521 rfl (lv_at hl 0 rfl) ?_
  refine lv_iconst (v := 1) hx hb dL_law_522 (by decide) ?_
  refine lv_iadd hx hb dL_law_523 ?_
  refine lv_topi (fun z2 ez2 => ?_)
  have ez2 : z2 = nI (q + 1) := ez2.trans (nI_add q 1)
  subst ez2
  refine va_sld hx hb hX hbl hbA hw.S (vp_in_nI (show q + 1 < L by omega) (by omega)) dL_law_524 ?_
  refine lv_aload_n hx hb dL_law_525 rfl (lv_at hl 3 rfl) ?_
  refine lv_iload_n hx hb dL_law_526 rfl (lv_at hl 0 rfl) ?_
  refine lv_iconst (v := 2) hx hb dL_law_527 (by decide) ?_
  refine lv_iadd hx hb dL_law_528 ?_
  refine lv_topi (fun z3 ez3 => ?_)
  have ez3 : z3 = nI (q + 2) := ez3.trans (nI_add q 2)
  subst ez3
  refine va_sld hx hb hX hbl hbA hw.S (vp_in_nI (show q + 2 < L by omega) (by omega)) dL_law_529 ?_
  have hsM : g_X8_dismiss vm (xs (Int32.toNatClampNeg (nI (q + 1)))) (xs (Int32.toNatClampNeg (nI (q + 2)))) ≠ none := fun h9 => by rw [show oM_dismiss vm (xs (Int32.toNatClampNeg (nI (q + 1)))) (xs (Int32.toNatClampNeg (nI (q + 2)))) = g_X8_dismiss vm (xs (Int32.toNatClampNeg (nI (q + 1)))) (xs (Int32.toNatClampNeg (nI (q + 2)))) from rfl, h9] at hoM; cases hoM
  refine tw_cM (As := [.int (xs (Int32.toNatClampNeg (nI (q + 1)))), .int (xs (Int32.toNatClampNeg (nI (q + 2))))]) (rest := []) (n := 2) ⟨hx, hb, hml, hown, hts⟩ (d_X8_dismiss l E Zm vm (xs (Int32.toNatClampNeg (nI (q + 1)))) (xs (Int32.toNatClampNeg (nI (q + 2)))) hsM) gL_law_X8_dismiss rfl (by decide +kernel) ⟨Nat.le_of_ble_eq_true rfl, Nat.le_of_ble_eq_true rfl⟩ hK hw rfl hl.1 rfl (Nat.le_of_ble_eq_true rfl) dL_law_530 rfl rfl ⟨Nat.le_of_ble_eq_true rfl, Nat.le_of_ble_eq_true rfl⟩ (fun rM vM H locs hp hw => ?_)
  have hzM : (some (rM, vM) : Option (Int32 × Mm)) = some (r2, vm1) := by rw [← hoM, show oM_dismiss vm (xs (Int32.toNatClampNeg (nI (q + 1)))) (xs (Int32.toNatClampNeg (nI (q + 2)))) = g_X8_dismiss vm (xs (Int32.toNatClampNeg (nI (q + 1)))) (xs (Int32.toNatClampNeg (nI (q + 2)))) from rfl, hp]
  obtain ⟨e1M, e2M⟩ := Prod.mk.inj (Option.some.inj hzM)
  subst e1M
  rw [e2M] at hw
  refine lv_pop hx hb dL_law_533 rfl ?_
  refine lv_goto (tgt := 1421) hx hb dL_law_534 (by decide) ?_
  exact kk _ _ _ _ _ hJ1 hw hl
set_option maxHeartbeats 4000000 in
set_option maxRecDepth 100000 in
theorem lk_11 {p : Program} {l : Launch} {e : Env} {s : State} {m : MethodId} {below : List Frame} {meth : Method} {c : Code} {b L : Nat} {xs : Nat → Int32} {E : kq_T} {H : Heap} {locs : List Loc} {ls : Array Slot} {Zx Zm : km_Z} {vx vm : Mm} {q : Nat} {J : Mm → Mm → Prop} {C : Prop} (hop : jop_undo J C) (C0 : lw_At p s m meth c b L xs) (hK : kq_K E (fun q : Nat => s.heap.size ≤ q) s) (hq : q + 6 ≤ L) (hL : L ≤ 384) (hJ : J vx vm) (hw : tw E (fun q : Nat => s.heap.size ≤ q) s.heap Zx Zm vx vm H locs) (hl : lv_has ls 4 [(3, .int (nI q)), (2, .ref (Zm.1 30 0)), (1, .ref (Zx.1 0 0)), (0, .ref b)]) (kk : ∀ (vx1 vm1 : Mm) (H1 : Heap) (locs1 : List Loc) (ls1 : Array Slot), J vx1 vm1 → tw E (fun q : Nat => s.heap.size ≤ q) s.heap Zx Zm vx1 vm1 H1 locs1 → lv_has ls1 4 [(3, .int (nI q)), (2, .ref (Zm.1 30 0)), (1, .ref (Zx.1 0 0)), (0, .ref b)] → W p l e room_1 s m #[Value.ref b] below meth c H1 locs1 1000 10000 (lw_Z below #[Value.ref b] s) (F0 m 1421 ls1 [])) : W p l e room_1 s m #[Value.ref b] below meth c H locs 1000 10000 (lw_Z below #[Value.ref b] s) (F0 m 537 ls []) := by
  obtain ⟨hx, hb, hr, hml, hown, hts, hX, hbl, hlocks, hgv⟩ := id C0
  have hown : s.vm.findClass RL = some m.cls := hown
  have hb : c.code = cL_law := hb
  have hts := fun w h => hts w (wsL_law_in w h)
  have hbA : ¬ (fun q : Nat => s.heap.size ≤ q) b := Nat.not_le.mpr hbl
  obtain ⟨r1, vx1, r2, vm1, hoX, hoM, hJ1, hC⟩ := hop vx vm  hJ
  refine lv_aload_n hx hb dL_law_537 rfl (lv_at hl 2 rfl) ?_
  have hsX : g_X7_undo vx  ≠ none := fun h9 => by rw [show oX_undo vx  = g_X7_undo vx  from rfl, h9] at hoX; cases hoX
  refine tw_cX (As := []) (rest := []) (n := 0) ⟨hx, hb, hml, hown, hts⟩ (d_X7_undo l E Zx vx  hsX) gL_law_X7_undo rfl (by decide +kernel) ⟨Nat.le_of_ble_eq_true rfl, Nat.le_of_ble_eq_true rfl⟩ hK hw rfl hl.1 rfl (Nat.le_of_ble_eq_true rfl) dL_law_538 rfl rfl ⟨Nat.le_of_ble_eq_true rfl, Nat.le_of_ble_eq_true rfl⟩ (fun rX vX H locs hp hw => ?_)
  have hzX : (some (rX, vX) : Option (Int32 × Mm)) = some (r1, vx1) := by rw [← hoX, show oX_undo vx  = g_X7_undo vx  from rfl, hp]
  obtain ⟨e1X, e2X⟩ := Prod.mk.inj (Option.some.inj hzX)
  subst e1X
  rw [e2X] at hw
  refine lv_pop hx hb dL_law_541 rfl ?_
  refine lv_aload_n hx hb dL_law_542 rfl (lv_at hl 1 rfl) ?_
  have hsM : g_X8_undo vm  ≠ none := fun h9 => by rw [show oM_undo vm  = g_X8_undo vm  from rfl, h9] at hoM; cases hoM
  refine tw_cM (As := []) (rest := []) (n := 0) ⟨hx, hb, hml, hown, hts⟩ (d_X8_undo l E Zm vm  hsM) gL_law_X8_undo rfl (by decide +kernel) ⟨Nat.le_of_ble_eq_true rfl, Nat.le_of_ble_eq_true rfl⟩ hK hw rfl hl.1 rfl (Nat.le_of_ble_eq_true rfl) dL_law_543 rfl rfl ⟨Nat.le_of_ble_eq_true rfl, Nat.le_of_ble_eq_true rfl⟩ (fun rM vM H locs hp hw => ?_)
  have hzM : (some (rM, vM) : Option (Int32 × Mm)) = some (r2, vm1) := by rw [← hoM, show oM_undo vm  = g_X8_undo vm  from rfl, hp]
  obtain ⟨e1M, e2M⟩ := Prod.mk.inj (Option.some.inj hzM)
  subst e1M
  rw [e2M] at hw
  refine lv_pop hx hb dL_law_546 rfl ?_
  refine lv_goto (tgt := 1421) hx hb dL_law_547 (by decide) ?_
  exact kk _ _ _ _ _ hJ1 hw hl
set_option maxHeartbeats 4000000 in
set_option maxRecDepth 100000 in
theorem lk_12 {p : Program} {l : Launch} {e : Env} {s : State} {m : MethodId} {below : List Frame} {meth : Method} {c : Code} {b L : Nat} {xs : Nat → Int32} {E : kq_T} {H : Heap} {locs : List Loc} {ls : Array Slot} {Zx Zm : km_Z} {vx vm : Mm} {q : Nat} {J : Mm → Mm → Prop} {C : Prop} (hop : jop_letter J C) (C0 : lw_At p s m meth c b L xs) (hK : kq_K E (fun q : Nat => s.heap.size ≤ q) s) (hq : q + 6 ≤ L) (hL : L ≤ 384) (hJ : J vx vm) (hw : tw E (fun q : Nat => s.heap.size ≤ q) s.heap Zx Zm vx vm H locs) (hl : lv_has ls 4 [(3, .int (nI q)), (2, .ref (Zm.1 30 0)), (1, .ref (Zx.1 0 0)), (0, .ref b)]) (kk : ∀ (vx1 vm1 : Mm) (H1 : Heap) (locs1 : List Loc) (ls1 : Array Slot), J vx1 vm1 → tw E (fun q : Nat => s.heap.size ≤ q) s.heap Zx Zm vx1 vm1 H1 locs1 → lv_has ls1 4 [(3, .int (nI q)), (2, .ref (Zm.1 30 0)), (1, .ref (Zx.1 0 0)), (0, .ref b)] → W p l e room_1 s m #[Value.ref b] below meth c H1 locs1 1000 10000 (lw_Z below #[Value.ref b] s) (F0 m 1421 ls1 [])) : W p l e room_1 s m #[Value.ref b] below meth c H locs 1000 10000 (lw_Z below #[Value.ref b] s) (F0 m 550 ls []) := by
  obtain ⟨hx, hb, hr, hml, hown, hts, hX, hbl, hlocks, hgv⟩ := id C0
  have hown : s.vm.findClass RL = some m.cls := hown
  have hb : c.code = cL_law := hb
  have hts := fun w h => hts w (wsL_law_in w h)
  have hbA : ¬ (fun q : Nat => s.heap.size ≤ q) b := Nat.not_le.mpr hbl
  obtain ⟨r1, vx1, r2, vm1, hoX, hoM, hJ1, hC⟩ := hop vx vm (xs (Int32.toNatClampNeg (nI (q + 1)))) (xs (Int32.toNatClampNeg (nI (q + 2)))) hJ
  refine lv_aload_n hx hb dL_law_550 rfl (lv_at hl 2 rfl) ?_
  refine lv_aload_n hx hb dL_law_551 rfl (lv_at hl 3 rfl) ?_
  refine lv_iload_n hx hb dL_law_552 rfl (lv_at hl 0 rfl) ?_
  refine lv_iconst (v := 1) hx hb dL_law_553 (by decide) ?_
  refine lv_iadd hx hb dL_law_554 ?_
  refine lv_topi (fun z0 ez0 => ?_)
  have ez0 : z0 = nI (q + 1) := ez0.trans (nI_add q 1)
  subst ez0
  refine va_sld hx hb hX hbl hbA hw.S (vp_in_nI (show q + 1 < L by omega) (by omega)) dL_law_555 ?_
  refine lv_aload_n hx hb dL_law_556 rfl (lv_at hl 3 rfl) ?_
  refine lv_iload_n hx hb dL_law_557 rfl (lv_at hl 0 rfl) ?_
  refine lv_iconst (v := 2) hx hb dL_law_558 (by decide) ?_
  refine lv_iadd hx hb dL_law_559 ?_
  refine lv_topi (fun z1 ez1 => ?_)
  have ez1 : z1 = nI (q + 2) := ez1.trans (nI_add q 2)
  subst ez1
  refine va_sld hx hb hX hbl hbA hw.S (vp_in_nI (show q + 2 < L by omega) (by omega)) dL_law_560 ?_
  have hsX : g_X7_letter vx (xs (Int32.toNatClampNeg (nI (q + 1)))) (xs (Int32.toNatClampNeg (nI (q + 2)))) ≠ none := fun h9 => by rw [show oX_letter vx (xs (Int32.toNatClampNeg (nI (q + 1)))) (xs (Int32.toNatClampNeg (nI (q + 2)))) = (g_X7_letter vx (xs (Int32.toNatClampNeg (nI (q + 1)))) (xs (Int32.toNatClampNeg (nI (q + 2))))).map (fun r => (r, vx)) from rfl, h9] at hoX; cases hoX
  refine tw_cX (As := [.int (xs (Int32.toNatClampNeg (nI (q + 1)))), .int (xs (Int32.toNatClampNeg (nI (q + 2))))]) (rest := []) (n := 2) ⟨hx, hb, hml, hown, hts⟩ (d_X7_letter l E Zx vx (xs (Int32.toNatClampNeg (nI (q + 1)))) (xs (Int32.toNatClampNeg (nI (q + 2)))) hsX) gL_law_X7_letter rfl (by decide +kernel) ⟨Nat.le_of_ble_eq_true rfl, Nat.le_of_ble_eq_true rfl⟩ hK hw rfl hl.1 rfl (Nat.le_of_ble_eq_true rfl) dL_law_561 rfl rfl ⟨Nat.le_of_ble_eq_true rfl, Nat.le_of_ble_eq_true rfl⟩ (fun rX vX H locs hp hw => ?_)
  obtain ⟨hp, rfl⟩ := hp
  have hzX : (some (rX, vx) : Option (Int32 × Mm)) = some (r1, vx1) := by rw [← hoX, show oX_letter vx (xs (Int32.toNatClampNeg (nI (q + 1)))) (xs (Int32.toNatClampNeg (nI (q + 2)))) = (g_X7_letter vx (xs (Int32.toNatClampNeg (nI (q + 1)))) (xs (Int32.toNatClampNeg (nI (q + 2))))).map (fun r => (r, vx)) from rfl, hp]; rfl
  obtain ⟨e1X, e2X⟩ := Prod.mk.inj (Option.some.inj hzX)
  subst e1X
  rw [← e2X] at hJ1
  refine lv_pop hx hb dL_law_564 rfl ?_
  refine lv_aload_n hx hb dL_law_565 rfl (lv_at hl 1 rfl) ?_
  refine lv_aload_n hx hb dL_law_566 rfl (lv_at hl 3 rfl) ?_
  refine lv_iload_n hx hb dL_law_567 rfl (lv_at hl 0 rfl) ?_
  refine lv_iconst (v := 1) hx hb dL_law_568 (by decide) ?_
  refine lv_iadd hx hb dL_law_569 ?_
  refine lv_topi (fun z2 ez2 => ?_)
  have ez2 : z2 = nI (q + 1) := ez2.trans (nI_add q 1)
  subst ez2
  refine va_sld hx hb hX hbl hbA hw.S (vp_in_nI (show q + 1 < L by omega) (by omega)) dL_law_570 ?_
  refine lv_aload_n hx hb dL_law_571 rfl (lv_at hl 3 rfl) ?_
  refine lv_iload_n hx hb dL_law_572 rfl (lv_at hl 0 rfl) ?_
  refine lv_iconst (v := 2) hx hb dL_law_573 (by decide) ?_
  refine lv_iadd hx hb dL_law_574 ?_
  refine lv_topi (fun z3 ez3 => ?_)
  have ez3 : z3 = nI (q + 2) := ez3.trans (nI_add q 2)
  subst ez3
  refine va_sld hx hb hX hbl hbA hw.S (vp_in_nI (show q + 2 < L by omega) (by omega)) dL_law_575 ?_
  have hsM : g_X8_letter vm (xs (Int32.toNatClampNeg (nI (q + 1)))) (xs (Int32.toNatClampNeg (nI (q + 2)))) ≠ none := fun h9 => by rw [show oM_letter vm (xs (Int32.toNatClampNeg (nI (q + 1)))) (xs (Int32.toNatClampNeg (nI (q + 2)))) = (g_X8_letter vm (xs (Int32.toNatClampNeg (nI (q + 1)))) (xs (Int32.toNatClampNeg (nI (q + 2))))).map (fun r => (r, vm)) from rfl, h9] at hoM; cases hoM
  refine tw_cM (As := [.int (xs (Int32.toNatClampNeg (nI (q + 1)))), .int (xs (Int32.toNatClampNeg (nI (q + 2))))]) (rest := []) (n := 2) ⟨hx, hb, hml, hown, hts⟩ (d_X8_letter l E Zm vm (xs (Int32.toNatClampNeg (nI (q + 1)))) (xs (Int32.toNatClampNeg (nI (q + 2)))) hsM) gL_law_X8_letter rfl (by decide +kernel) ⟨Nat.le_of_ble_eq_true rfl, Nat.le_of_ble_eq_true rfl⟩ hK hw rfl hl.1 rfl (Nat.le_of_ble_eq_true rfl) dL_law_576 rfl rfl ⟨Nat.le_of_ble_eq_true rfl, Nat.le_of_ble_eq_true rfl⟩ (fun rM vM H locs hp hw => ?_)
  obtain ⟨hp, rfl⟩ := hp
  have hzM : (some (rM, vm) : Option (Int32 × Mm)) = some (r2, vm1) := by rw [← hoM, show oM_letter vm (xs (Int32.toNatClampNeg (nI (q + 1)))) (xs (Int32.toNatClampNeg (nI (q + 2)))) = (g_X8_letter vm (xs (Int32.toNatClampNeg (nI (q + 1)))) (xs (Int32.toNatClampNeg (nI (q + 2))))).map (fun r => (r, vm)) from rfl, hp]; rfl
  obtain ⟨e1M, e2M⟩ := Prod.mk.inj (Option.some.inj hzM)
  subst e1M
  rw [← e2M] at hJ1
  refine lv_pop hx hb dL_law_579 rfl ?_
  refine lv_goto (tgt := 1421) hx hb dL_law_580 (by decide) ?_
  exact kk _ _ _ _ _ hJ1 hw hl
set_option maxHeartbeats 4000000 in
set_option maxRecDepth 100000 in
theorem lk_13 {p : Program} {l : Launch} {e : Env} {s : State} {m : MethodId} {below : List Frame} {meth : Method} {c : Code} {b L : Nat} {xs : Nat → Int32} {E : kq_T} {H : Heap} {locs : List Loc} {ls : Array Slot} {Zx Zm : km_Z} {vx vm : Mm} {q : Nat} {J : Mm → Mm → Prop} {C : Prop} (hop : jop_like J C) (C0 : lw_At p s m meth c b L xs) (hK : kq_K E (fun q : Nat => s.heap.size ≤ q) s) (hq : q + 6 ≤ L) (hL : L ≤ 384) (hJ : J vx vm) (hw : tw E (fun q : Nat => s.heap.size ≤ q) s.heap Zx Zm vx vm H locs) (hl : lv_has ls 4 [(3, .int (nI q)), (2, .ref (Zm.1 30 0)), (1, .ref (Zx.1 0 0)), (0, .ref b)]) (kk : ∀ (vx1 vm1 : Mm) (H1 : Heap) (locs1 : List Loc) (ls1 : Array Slot), J vx1 vm1 → tw E (fun q : Nat => s.heap.size ≤ q) s.heap Zx Zm vx1 vm1 H1 locs1 → lv_has ls1 4 [(3, .int (nI q)), (2, .ref (Zm.1 30 0)), (1, .ref (Zx.1 0 0)), (0, .ref b)] → W p l e room_1 s m #[Value.ref b] below meth c H1 locs1 1000 10000 (lw_Z below #[Value.ref b] s) (F0 m 1421 ls1 [])) : W p l e room_1 s m #[Value.ref b] below meth c H locs 1000 10000 (lw_Z below #[Value.ref b] s) (F0 m 583 ls []) := by
  obtain ⟨hx, hb, hr, hml, hown, hts, hX, hbl, hlocks, hgv⟩ := id C0
  have hown : s.vm.findClass RL = some m.cls := hown
  have hb : c.code = cL_law := hb
  have hts := fun w h => hts w (wsL_law_in w h)
  have hbA : ¬ (fun q : Nat => s.heap.size ≤ q) b := Nat.not_le.mpr hbl
  obtain ⟨r1, vx1, r2, vm1, hoX, hoM, hJ1, hC⟩ := hop vx vm (xs (Int32.toNatClampNeg (nI (q + 1)))) (xs (Int32.toNatClampNeg (nI (q + 2)))) (xs (Int32.toNatClampNeg (nI (q + 3)))) hJ
  refine lv_aload_n hx hb dL_law_583 rfl (lv_at hl 2 rfl) ?_
  refine lv_aload_n hx hb dL_law_584 rfl (lv_at hl 3 rfl) ?_
  refine lv_iload_n hx hb dL_law_585 rfl (lv_at hl 0 rfl) ?_
  refine lv_iconst (v := 1) hx hb dL_law_586 (by decide) ?_
  refine lv_iadd hx hb dL_law_587 ?_
  refine lv_topi (fun z0 ez0 => ?_)
  have ez0 : z0 = nI (q + 1) := ez0.trans (nI_add q 1)
  subst ez0
  refine va_sld hx hb hX hbl hbA hw.S (vp_in_nI (show q + 1 < L by omega) (by omega)) dL_law_588 ?_
  refine lv_aload_n hx hb dL_law_589 rfl (lv_at hl 3 rfl) ?_
  refine lv_iload_n hx hb dL_law_590 rfl (lv_at hl 0 rfl) ?_
  refine lv_iconst (v := 2) hx hb dL_law_591 (by decide) ?_
  refine lv_iadd hx hb dL_law_592 ?_
  refine lv_topi (fun z1 ez1 => ?_)
  have ez1 : z1 = nI (q + 2) := ez1.trans (nI_add q 2)
  subst ez1
  refine va_sld hx hb hX hbl hbA hw.S (vp_in_nI (show q + 2 < L by omega) (by omega)) dL_law_593 ?_
  refine lv_aload_n hx hb dL_law_594 rfl (lv_at hl 3 rfl) ?_
  refine lv_iload_n hx hb dL_law_595 rfl (lv_at hl 0 rfl) ?_
  refine lv_iconst (v := 3) hx hb dL_law_596 (by decide) ?_
  refine lv_iadd hx hb dL_law_597 ?_
  refine lv_topi (fun z2 ez2 => ?_)
  have ez2 : z2 = nI (q + 3) := ez2.trans (nI_add q 3)
  subst ez2
  refine va_sld hx hb hX hbl hbA hw.S (vp_in_nI (show q + 3 < L by omega) (by omega)) dL_law_598 ?_
  have hsX : g_X7_like vx (xs (Int32.toNatClampNeg (nI (q + 1)))) (xs (Int32.toNatClampNeg (nI (q + 2)))) (xs (Int32.toNatClampNeg (nI (q + 3)))) ≠ none := fun h9 => by rw [show oX_like vx (xs (Int32.toNatClampNeg (nI (q + 1)))) (xs (Int32.toNatClampNeg (nI (q + 2)))) (xs (Int32.toNatClampNeg (nI (q + 3)))) = (g_X7_like vx (xs (Int32.toNatClampNeg (nI (q + 1)))) (xs (Int32.toNatClampNeg (nI (q + 2)))) (xs (Int32.toNatClampNeg (nI (q + 3))))).map (fun r => (r, vx)) from rfl, h9] at hoX; cases hoX
  refine tw_cX (As := [.int (xs (Int32.toNatClampNeg (nI (q + 1)))), .int (xs (Int32.toNatClampNeg (nI (q + 2)))), .int (xs (Int32.toNatClampNeg (nI (q + 3))))]) (rest := []) (n := 3) ⟨hx, hb, hml, hown, hts⟩ (d_X7_like l E Zx vx (xs (Int32.toNatClampNeg (nI (q + 1)))) (xs (Int32.toNatClampNeg (nI (q + 2)))) (xs (Int32.toNatClampNeg (nI (q + 3)))) hsX) gL_law_X7_like rfl (by decide +kernel) ⟨Nat.le_of_ble_eq_true rfl, Nat.le_of_ble_eq_true rfl⟩ hK hw rfl hl.1 rfl (Nat.le_of_ble_eq_true rfl) dL_law_599 rfl rfl ⟨Nat.le_of_ble_eq_true rfl, Nat.le_of_ble_eq_true rfl⟩ (fun rX vX H locs hp hw => ?_)
  obtain ⟨hp, rfl⟩ := hp
  have hzX : (some (rX, vx) : Option (Int32 × Mm)) = some (r1, vx1) := by rw [← hoX, show oX_like vx (xs (Int32.toNatClampNeg (nI (q + 1)))) (xs (Int32.toNatClampNeg (nI (q + 2)))) (xs (Int32.toNatClampNeg (nI (q + 3)))) = (g_X7_like vx (xs (Int32.toNatClampNeg (nI (q + 1)))) (xs (Int32.toNatClampNeg (nI (q + 2)))) (xs (Int32.toNatClampNeg (nI (q + 3))))).map (fun r => (r, vx)) from rfl, hp]; rfl
  obtain ⟨e1X, e2X⟩ := Prod.mk.inj (Option.some.inj hzX)
  subst e1X
  rw [← e2X] at hJ1
  refine lv_pop hx hb dL_law_602 rfl ?_
  refine lv_aload_n hx hb dL_law_603 rfl (lv_at hl 1 rfl) ?_
  refine lv_aload_n hx hb dL_law_604 rfl (lv_at hl 3 rfl) ?_
  refine lv_iload_n hx hb dL_law_605 rfl (lv_at hl 0 rfl) ?_
  refine lv_iconst (v := 1) hx hb dL_law_606 (by decide) ?_
  refine lv_iadd hx hb dL_law_607 ?_
  refine lv_topi (fun z3 ez3 => ?_)
  have ez3 : z3 = nI (q + 1) := ez3.trans (nI_add q 1)
  subst ez3
  refine va_sld hx hb hX hbl hbA hw.S (vp_in_nI (show q + 1 < L by omega) (by omega)) dL_law_608 ?_
  refine lv_aload_n hx hb dL_law_609 rfl (lv_at hl 3 rfl) ?_
  refine lv_iload_n hx hb dL_law_610 rfl (lv_at hl 0 rfl) ?_
  refine lv_iconst (v := 2) hx hb dL_law_611 (by decide) ?_
  refine lv_iadd hx hb dL_law_612 ?_
  refine lv_topi (fun z4 ez4 => ?_)
  have ez4 : z4 = nI (q + 2) := ez4.trans (nI_add q 2)
  subst ez4
  refine va_sld hx hb hX hbl hbA hw.S (vp_in_nI (show q + 2 < L by omega) (by omega)) dL_law_613 ?_
  refine lv_aload_n hx hb dL_law_614 rfl (lv_at hl 3 rfl) ?_
  refine lv_iload_n hx hb dL_law_615 rfl (lv_at hl 0 rfl) ?_
  refine lv_iconst (v := 3) hx hb dL_law_616 (by decide) ?_
  refine lv_iadd hx hb dL_law_617 ?_
  refine lv_topi (fun z5 ez5 => ?_)
  have ez5 : z5 = nI (q + 3) := ez5.trans (nI_add q 3)
  subst ez5
  refine va_sld hx hb hX hbl hbA hw.S (vp_in_nI (show q + 3 < L by omega) (by omega)) dL_law_618 ?_
  have hsM : g_X8_like vm (xs (Int32.toNatClampNeg (nI (q + 1)))) (xs (Int32.toNatClampNeg (nI (q + 2)))) (xs (Int32.toNatClampNeg (nI (q + 3)))) ≠ none := fun h9 => by rw [show oM_like vm (xs (Int32.toNatClampNeg (nI (q + 1)))) (xs (Int32.toNatClampNeg (nI (q + 2)))) (xs (Int32.toNatClampNeg (nI (q + 3)))) = (g_X8_like vm (xs (Int32.toNatClampNeg (nI (q + 1)))) (xs (Int32.toNatClampNeg (nI (q + 2)))) (xs (Int32.toNatClampNeg (nI (q + 3))))).map (fun r => (r, vm)) from rfl, h9] at hoM; cases hoM
  refine tw_cM (As := [.int (xs (Int32.toNatClampNeg (nI (q + 1)))), .int (xs (Int32.toNatClampNeg (nI (q + 2)))), .int (xs (Int32.toNatClampNeg (nI (q + 3))))]) (rest := []) (n := 3) ⟨hx, hb, hml, hown, hts⟩ (d_X8_like l E Zm vm (xs (Int32.toNatClampNeg (nI (q + 1)))) (xs (Int32.toNatClampNeg (nI (q + 2)))) (xs (Int32.toNatClampNeg (nI (q + 3)))) hsM) gL_law_X8_like rfl (by decide +kernel) ⟨Nat.le_of_ble_eq_true rfl, Nat.le_of_ble_eq_true rfl⟩ hK hw rfl hl.1 rfl (Nat.le_of_ble_eq_true rfl) dL_law_619 rfl rfl ⟨Nat.le_of_ble_eq_true rfl, Nat.le_of_ble_eq_true rfl⟩ (fun rM vM H locs hp hw => ?_)
  obtain ⟨hp, rfl⟩ := hp
  have hzM : (some (rM, vm) : Option (Int32 × Mm)) = some (r2, vm1) := by rw [← hoM, show oM_like vm (xs (Int32.toNatClampNeg (nI (q + 1)))) (xs (Int32.toNatClampNeg (nI (q + 2)))) (xs (Int32.toNatClampNeg (nI (q + 3)))) = (g_X8_like vm (xs (Int32.toNatClampNeg (nI (q + 1)))) (xs (Int32.toNatClampNeg (nI (q + 2)))) (xs (Int32.toNatClampNeg (nI (q + 3))))).map (fun r => (r, vm)) from rfl, hp]; rfl
  obtain ⟨e1M, e2M⟩ := Prod.mk.inj (Option.some.inj hzM)
  subst e1M
  rw [← e2M] at hJ1
  refine lv_pop hx hb dL_law_622 rfl ?_
  refine lv_goto (tgt := 1421) hx hb dL_law_623 (by decide) ?_
  exact kk _ _ _ _ _ hJ1 hw hl
set_option maxHeartbeats 4000000 in
set_option maxRecDepth 100000 in
theorem lk_14 {p : Program} {l : Launch} {e : Env} {s : State} {m : MethodId} {below : List Frame} {meth : Method} {c : Code} {b L : Nat} {xs : Nat → Int32} {E : kq_T} {H : Heap} {locs : List Loc} {ls : Array Slot} {Zx Zm : km_Z} {vx vm : Mm} {q : Nat} {J : Mm → Mm → Prop} {C : Prop} (hop : jop_guard J C) (C0 : lw_At p s m meth c b L xs) (hK : kq_K E (fun q : Nat => s.heap.size ≤ q) s) (hq : q + 6 ≤ L) (hL : L ≤ 384) (hJ : J vx vm) (hw : tw E (fun q : Nat => s.heap.size ≤ q) s.heap Zx Zm vx vm H locs) (hl : lv_has ls 4 [(3, .int (nI q)), (2, .ref (Zm.1 30 0)), (1, .ref (Zx.1 0 0)), (0, .ref b)]) (kk : ∀ (vx1 vm1 : Mm) (H1 : Heap) (locs1 : List Loc) (ls1 : Array Slot), J vx1 vm1 → tw E (fun q : Nat => s.heap.size ≤ q) s.heap Zx Zm vx1 vm1 H1 locs1 → lv_has ls1 4 [(3, .int (nI q)), (2, .ref (Zm.1 30 0)), (1, .ref (Zx.1 0 0)), (0, .ref b)] → W p l e room_1 s m #[Value.ref b] below meth c H1 locs1 1000 10000 (lw_Z below #[Value.ref b] s) (F0 m 1421 ls1 [])) : W p l e room_1 s m #[Value.ref b] below meth c H locs 1000 10000 (lw_Z below #[Value.ref b] s) (F0 m 626 ls []) := by
  obtain ⟨hx, hb, hr, hml, hown, hts, hX, hbl, hlocks, hgv⟩ := id C0
  have hown : s.vm.findClass RL = some m.cls := hown
  have hb : c.code = cL_law := hb
  have hts := fun w h => hts w (wsL_law_in w h)
  have hbA : ¬ (fun q : Nat => s.heap.size ≤ q) b := Nat.not_le.mpr hbl
  obtain ⟨r1, vx1, r2, vm1, hoX, hoM, hJ1, hC⟩ := hop vx vm (xs (Int32.toNatClampNeg (nI (q + 1)))) (xs (Int32.toNatClampNeg (nI (q + 2)))) hJ
  refine lv_aload_n hx hb dL_law_626 rfl (lv_at hl 2 rfl) ?_
  refine lv_aload_n hx hb dL_law_627 rfl (lv_at hl 3 rfl) ?_
  refine lv_iload_n hx hb dL_law_628 rfl (lv_at hl 0 rfl) ?_
  refine lv_iconst (v := 1) hx hb dL_law_629 (by decide) ?_
  refine lv_iadd hx hb dL_law_630 ?_
  refine lv_topi (fun z0 ez0 => ?_)
  have ez0 : z0 = nI (q + 1) := ez0.trans (nI_add q 1)
  subst ez0
  refine va_sld hx hb hX hbl hbA hw.S (vp_in_nI (show q + 1 < L by omega) (by omega)) dL_law_631 ?_
  refine lv_aload_n hx hb dL_law_632 rfl (lv_at hl 3 rfl) ?_
  refine lv_iload_n hx hb dL_law_633 rfl (lv_at hl 0 rfl) ?_
  refine lv_iconst (v := 2) hx hb dL_law_634 (by decide) ?_
  refine lv_iadd hx hb dL_law_635 ?_
  refine lv_topi (fun z1 ez1 => ?_)
  have ez1 : z1 = nI (q + 2) := ez1.trans (nI_add q 2)
  subst ez1
  refine va_sld hx hb hX hbl hbA hw.S (vp_in_nI (show q + 2 < L by omega) (by omega)) dL_law_636 ?_
  have hsX : g_X7_guard vx (xs (Int32.toNatClampNeg (nI (q + 1)))) (xs (Int32.toNatClampNeg (nI (q + 2)))) ≠ none := fun h9 => by rw [show oX_guard vx (xs (Int32.toNatClampNeg (nI (q + 1)))) (xs (Int32.toNatClampNeg (nI (q + 2)))) = (g_X7_guard vx (xs (Int32.toNatClampNeg (nI (q + 1)))) (xs (Int32.toNatClampNeg (nI (q + 2))))).map (fun r => (r, vx)) from rfl, h9] at hoX; cases hoX
  refine tw_cX (As := [.int (xs (Int32.toNatClampNeg (nI (q + 1)))), .int (xs (Int32.toNatClampNeg (nI (q + 2))))]) (rest := []) (n := 2) ⟨hx, hb, hml, hown, hts⟩ (d_X7_guard l E Zx vx (xs (Int32.toNatClampNeg (nI (q + 1)))) (xs (Int32.toNatClampNeg (nI (q + 2)))) hsX) gL_law_X7_guard rfl (by decide +kernel) ⟨Nat.le_of_ble_eq_true rfl, Nat.le_of_ble_eq_true rfl⟩ hK hw rfl hl.1 rfl (Nat.le_of_ble_eq_true rfl) dL_law_637 rfl rfl ⟨Nat.le_of_ble_eq_true rfl, Nat.le_of_ble_eq_true rfl⟩ (fun rX vX H locs hp hw => ?_)
  obtain ⟨hp, rfl⟩ := hp
  have hzX : (some (rX, vx) : Option (Int32 × Mm)) = some (r1, vx1) := by rw [← hoX, show oX_guard vx (xs (Int32.toNatClampNeg (nI (q + 1)))) (xs (Int32.toNatClampNeg (nI (q + 2)))) = (g_X7_guard vx (xs (Int32.toNatClampNeg (nI (q + 1)))) (xs (Int32.toNatClampNeg (nI (q + 2))))).map (fun r => (r, vx)) from rfl, hp]; rfl
  obtain ⟨e1X, e2X⟩ := Prod.mk.inj (Option.some.inj hzX)
  subst e1X
  rw [← e2X] at hJ1
  refine lv_pop hx hb dL_law_640 rfl ?_
  refine lv_aload_n hx hb dL_law_641 rfl (lv_at hl 1 rfl) ?_
  refine lv_aload_n hx hb dL_law_642 rfl (lv_at hl 3 rfl) ?_
  refine lv_iload_n hx hb dL_law_643 rfl (lv_at hl 0 rfl) ?_
  refine lv_iconst (v := 1) hx hb dL_law_644 (by decide) ?_
  refine lv_iadd hx hb dL_law_645 ?_
  refine lv_topi (fun z2 ez2 => ?_)
  have ez2 : z2 = nI (q + 1) := ez2.trans (nI_add q 1)
  subst ez2
  refine va_sld hx hb hX hbl hbA hw.S (vp_in_nI (show q + 1 < L by omega) (by omega)) dL_law_646 ?_
  refine lv_aload_n hx hb dL_law_647 rfl (lv_at hl 3 rfl) ?_
  refine lv_iload_n hx hb dL_law_648 rfl (lv_at hl 0 rfl) ?_
  refine lv_iconst (v := 2) hx hb dL_law_649 (by decide) ?_
  refine lv_iadd hx hb dL_law_650 ?_
  refine lv_topi (fun z3 ez3 => ?_)
  have ez3 : z3 = nI (q + 2) := ez3.trans (nI_add q 2)
  subst ez3
  refine va_sld hx hb hX hbl hbA hw.S (vp_in_nI (show q + 2 < L by omega) (by omega)) dL_law_651 ?_
  have hsM : g_X8_guard vm (xs (Int32.toNatClampNeg (nI (q + 1)))) (xs (Int32.toNatClampNeg (nI (q + 2)))) ≠ none := fun h9 => by rw [show oM_guard vm (xs (Int32.toNatClampNeg (nI (q + 1)))) (xs (Int32.toNatClampNeg (nI (q + 2)))) = (g_X8_guard vm (xs (Int32.toNatClampNeg (nI (q + 1)))) (xs (Int32.toNatClampNeg (nI (q + 2))))).map (fun r => (r, vm)) from rfl, h9] at hoM; cases hoM
  refine tw_cM (As := [.int (xs (Int32.toNatClampNeg (nI (q + 1)))), .int (xs (Int32.toNatClampNeg (nI (q + 2))))]) (rest := []) (n := 2) ⟨hx, hb, hml, hown, hts⟩ (d_X8_guard l E Zm vm (xs (Int32.toNatClampNeg (nI (q + 1)))) (xs (Int32.toNatClampNeg (nI (q + 2)))) hsM) gL_law_X8_guard rfl (by decide +kernel) ⟨Nat.le_of_ble_eq_true rfl, Nat.le_of_ble_eq_true rfl⟩ hK hw rfl hl.1 rfl (Nat.le_of_ble_eq_true rfl) dL_law_652 rfl rfl ⟨Nat.le_of_ble_eq_true rfl, Nat.le_of_ble_eq_true rfl⟩ (fun rM vM H locs hp hw => ?_)
  obtain ⟨hp, rfl⟩ := hp
  have hzM : (some (rM, vm) : Option (Int32 × Mm)) = some (r2, vm1) := by rw [← hoM, show oM_guard vm (xs (Int32.toNatClampNeg (nI (q + 1)))) (xs (Int32.toNatClampNeg (nI (q + 2)))) = (g_X8_guard vm (xs (Int32.toNatClampNeg (nI (q + 1)))) (xs (Int32.toNatClampNeg (nI (q + 2))))).map (fun r => (r, vm)) from rfl, hp]; rfl
  obtain ⟨e1M, e2M⟩ := Prod.mk.inj (Option.some.inj hzM)
  subst e1M
  rw [← e2M] at hJ1
  refine lv_pop hx hb dL_law_655 rfl ?_
  refine lv_goto (tgt := 1421) hx hb dL_law_656 (by decide) ?_
  exact kk _ _ _ _ _ hJ1 hw hl
set_option maxHeartbeats 4000000 in
set_option maxRecDepth 100000 in
theorem lk_15 {p : Program} {l : Launch} {e : Env} {s : State} {m : MethodId} {below : List Frame} {meth : Method} {c : Code} {b L : Nat} {xs : Nat → Int32} {E : kq_T} {H : Heap} {locs : List Loc} {ls : Array Slot} {Zx Zm : km_Z} {vx vm : Mm} {q : Nat} {J : Mm → Mm → Prop} {C : Prop} (hop : jop_tried J C) (C0 : lw_At p s m meth c b L xs) (hK : kq_K E (fun q : Nat => s.heap.size ≤ q) s) (hq : q + 6 ≤ L) (hL : L ≤ 384) (hJ : J vx vm) (hw : tw E (fun q : Nat => s.heap.size ≤ q) s.heap Zx Zm vx vm H locs) (hl : lv_has ls 4 [(3, .int (nI q)), (2, .ref (Zm.1 30 0)), (1, .ref (Zx.1 0 0)), (0, .ref b)]) (kk : ∀ (vx1 vm1 : Mm) (H1 : Heap) (locs1 : List Loc) (ls1 : Array Slot), J vx1 vm1 → tw E (fun q : Nat => s.heap.size ≤ q) s.heap Zx Zm vx1 vm1 H1 locs1 → lv_has ls1 4 [(3, .int (nI q)), (2, .ref (Zm.1 30 0)), (1, .ref (Zx.1 0 0)), (0, .ref b)] → W p l e room_1 s m #[Value.ref b] below meth c H1 locs1 1000 10000 (lw_Z below #[Value.ref b] s) (F0 m 1421 ls1 [])) : W p l e room_1 s m #[Value.ref b] below meth c H locs 1000 10000 (lw_Z below #[Value.ref b] s) (F0 m 659 ls []) := by
  obtain ⟨hx, hb, hr, hml, hown, hts, hX, hbl, hlocks, hgv⟩ := id C0
  have hown : s.vm.findClass RL = some m.cls := hown
  have hb : c.code = cL_law := hb
  have hts := fun w h => hts w (wsL_law_in w h)
  have hbA : ¬ (fun q : Nat => s.heap.size ≤ q) b := Nat.not_le.mpr hbl
  obtain ⟨r1, vx1, r2, vm1, hoX, hoM, hJ1, hC⟩ := hop vx vm (xs (Int32.toNatClampNeg (nI (q + 1)))) (xs (Int32.toNatClampNeg (nI (q + 2)))) hJ
  refine lv_aload_n hx hb dL_law_659 rfl (lv_at hl 2 rfl) ?_
  refine lv_aload_n hx hb dL_law_660 rfl (lv_at hl 3 rfl) ?_
  refine lv_iload_n hx hb dL_law_661 rfl (lv_at hl 0 rfl) ?_
  refine lv_iconst (v := 1) hx hb dL_law_662 (by decide) ?_
  refine lv_iadd hx hb dL_law_663 ?_
  refine lv_topi (fun z0 ez0 => ?_)
  have ez0 : z0 = nI (q + 1) := ez0.trans (nI_add q 1)
  subst ez0
  refine va_sld hx hb hX hbl hbA hw.S (vp_in_nI (show q + 1 < L by omega) (by omega)) dL_law_664 ?_
  refine lv_aload_n hx hb dL_law_665 rfl (lv_at hl 3 rfl) ?_
  refine lv_iload_n hx hb dL_law_666 rfl (lv_at hl 0 rfl) ?_
  refine lv_iconst (v := 2) hx hb dL_law_667 (by decide) ?_
  refine lv_iadd hx hb dL_law_668 ?_
  refine lv_topi (fun z1 ez1 => ?_)
  have ez1 : z1 = nI (q + 2) := ez1.trans (nI_add q 2)
  subst ez1
  refine va_sld hx hb hX hbl hbA hw.S (vp_in_nI (show q + 2 < L by omega) (by omega)) dL_law_669 ?_
  have hsX : g_X7_tried vx (xs (Int32.toNatClampNeg (nI (q + 1)))) (xs (Int32.toNatClampNeg (nI (q + 2)))) ≠ none := fun h9 => by rw [show oX_tried vx (xs (Int32.toNatClampNeg (nI (q + 1)))) (xs (Int32.toNatClampNeg (nI (q + 2)))) = (g_X7_tried vx (xs (Int32.toNatClampNeg (nI (q + 1)))) (xs (Int32.toNatClampNeg (nI (q + 2))))).map (fun r => (r, vx)) from rfl, h9] at hoX; cases hoX
  refine tw_cX (As := [.int (xs (Int32.toNatClampNeg (nI (q + 1)))), .int (xs (Int32.toNatClampNeg (nI (q + 2))))]) (rest := []) (n := 2) ⟨hx, hb, hml, hown, hts⟩ (d_X7_tried l E Zx vx (xs (Int32.toNatClampNeg (nI (q + 1)))) (xs (Int32.toNatClampNeg (nI (q + 2)))) hsX) gL_law_X7_tried rfl (by decide +kernel) ⟨Nat.le_of_ble_eq_true rfl, Nat.le_of_ble_eq_true rfl⟩ hK hw rfl hl.1 rfl (Nat.le_of_ble_eq_true rfl) dL_law_670 rfl rfl ⟨Nat.le_of_ble_eq_true rfl, Nat.le_of_ble_eq_true rfl⟩ (fun rX vX H locs hp hw => ?_)
  obtain ⟨hp, rfl⟩ := hp
  have hzX : (some (rX, vx) : Option (Int32 × Mm)) = some (r1, vx1) := by rw [← hoX, show oX_tried vx (xs (Int32.toNatClampNeg (nI (q + 1)))) (xs (Int32.toNatClampNeg (nI (q + 2)))) = (g_X7_tried vx (xs (Int32.toNatClampNeg (nI (q + 1)))) (xs (Int32.toNatClampNeg (nI (q + 2))))).map (fun r => (r, vx)) from rfl, hp]; rfl
  obtain ⟨e1X, e2X⟩ := Prod.mk.inj (Option.some.inj hzX)
  subst e1X
  rw [← e2X] at hJ1
  refine lv_pop hx hb dL_law_673 rfl ?_
  refine lv_aload_n hx hb dL_law_674 rfl (lv_at hl 1 rfl) ?_
  refine lv_aload_n hx hb dL_law_675 rfl (lv_at hl 3 rfl) ?_
  refine lv_iload_n hx hb dL_law_676 rfl (lv_at hl 0 rfl) ?_
  refine lv_iconst (v := 1) hx hb dL_law_677 (by decide) ?_
  refine lv_iadd hx hb dL_law_678 ?_
  refine lv_topi (fun z2 ez2 => ?_)
  have ez2 : z2 = nI (q + 1) := ez2.trans (nI_add q 1)
  subst ez2
  refine va_sld hx hb hX hbl hbA hw.S (vp_in_nI (show q + 1 < L by omega) (by omega)) dL_law_679 ?_
  refine lv_aload_n hx hb dL_law_680 rfl (lv_at hl 3 rfl) ?_
  refine lv_iload_n hx hb dL_law_681 rfl (lv_at hl 0 rfl) ?_
  refine lv_iconst (v := 2) hx hb dL_law_682 (by decide) ?_
  refine lv_iadd hx hb dL_law_683 ?_
  refine lv_topi (fun z3 ez3 => ?_)
  have ez3 : z3 = nI (q + 2) := ez3.trans (nI_add q 2)
  subst ez3
  refine va_sld hx hb hX hbl hbA hw.S (vp_in_nI (show q + 2 < L by omega) (by omega)) dL_law_684 ?_
  have hsM : g_X8_tried vm (xs (Int32.toNatClampNeg (nI (q + 1)))) (xs (Int32.toNatClampNeg (nI (q + 2)))) ≠ none := fun h9 => by rw [show oM_tried vm (xs (Int32.toNatClampNeg (nI (q + 1)))) (xs (Int32.toNatClampNeg (nI (q + 2)))) = (g_X8_tried vm (xs (Int32.toNatClampNeg (nI (q + 1)))) (xs (Int32.toNatClampNeg (nI (q + 2))))).map (fun r => (r, vm)) from rfl, h9] at hoM; cases hoM
  refine tw_cM (As := [.int (xs (Int32.toNatClampNeg (nI (q + 1)))), .int (xs (Int32.toNatClampNeg (nI (q + 2))))]) (rest := []) (n := 2) ⟨hx, hb, hml, hown, hts⟩ (d_X8_tried l E Zm vm (xs (Int32.toNatClampNeg (nI (q + 1)))) (xs (Int32.toNatClampNeg (nI (q + 2)))) hsM) gL_law_X8_tried rfl (by decide +kernel) ⟨Nat.le_of_ble_eq_true rfl, Nat.le_of_ble_eq_true rfl⟩ hK hw rfl hl.1 rfl (Nat.le_of_ble_eq_true rfl) dL_law_685 rfl rfl ⟨Nat.le_of_ble_eq_true rfl, Nat.le_of_ble_eq_true rfl⟩ (fun rM vM H locs hp hw => ?_)
  obtain ⟨hp, rfl⟩ := hp
  have hzM : (some (rM, vm) : Option (Int32 × Mm)) = some (r2, vm1) := by rw [← hoM, show oM_tried vm (xs (Int32.toNatClampNeg (nI (q + 1)))) (xs (Int32.toNatClampNeg (nI (q + 2)))) = (g_X8_tried vm (xs (Int32.toNatClampNeg (nI (q + 1)))) (xs (Int32.toNatClampNeg (nI (q + 2))))).map (fun r => (r, vm)) from rfl, hp]; rfl
  obtain ⟨e1M, e2M⟩ := Prod.mk.inj (Option.some.inj hzM)
  subst e1M
  rw [← e2M] at hJ1
  refine lv_pop hx hb dL_law_688 rfl ?_
  refine lv_goto (tgt := 1421) hx hb dL_law_689 (by decide) ?_
  exact kk _ _ _ _ _ hJ1 hw hl
set_option maxHeartbeats 4000000 in
set_option maxRecDepth 100000 in
theorem lk_16 {p : Program} {l : Launch} {e : Env} {s : State} {m : MethodId} {below : List Frame} {meth : Method} {c : Code} {b L : Nat} {xs : Nat → Int32} {E : kq_T} {H : Heap} {locs : List Loc} {ls : Array Slot} {Zx Zm : km_Z} {vx vm : Mm} {q : Nat} {J : Mm → Mm → Prop} {C : Prop} (hop : jop_secret J C) (C0 : lw_At p s m meth c b L xs) (hK : kq_K E (fun q : Nat => s.heap.size ≤ q) s) (hq : q + 6 ≤ L) (hL : L ≤ 384) (hJ : J vx vm) (hw : tw E (fun q : Nat => s.heap.size ≤ q) s.heap Zx Zm vx vm H locs) (hl : lv_has ls 4 [(3, .int (nI q)), (2, .ref (Zm.1 30 0)), (1, .ref (Zx.1 0 0)), (0, .ref b)]) (kk : ∀ (vx1 vm1 : Mm) (H1 : Heap) (locs1 : List Loc) (ls1 : Array Slot), J vx1 vm1 → tw E (fun q : Nat => s.heap.size ≤ q) s.heap Zx Zm vx1 vm1 H1 locs1 → lv_has ls1 4 [(3, .int (nI q)), (2, .ref (Zm.1 30 0)), (1, .ref (Zx.1 0 0)), (0, .ref b)] → W p l e room_1 s m #[Value.ref b] below meth c H1 locs1 1000 10000 (lw_Z below #[Value.ref b] s) (F0 m 1421 ls1 [])) : W p l e room_1 s m #[Value.ref b] below meth c H locs 1000 10000 (lw_Z below #[Value.ref b] s) (F0 m 692 ls []) := by
  obtain ⟨hx, hb, hr, hml, hown, hts, hX, hbl, hlocks, hgv⟩ := id C0
  have hown : s.vm.findClass RL = some m.cls := hown
  have hb : c.code = cL_law := hb
  have hts := fun w h => hts w (wsL_law_in w h)
  have hbA : ¬ (fun q : Nat => s.heap.size ≤ q) b := Nat.not_le.mpr hbl
  obtain ⟨r1, vx1, r2, vm1, hoX, hoM, hJ1, hC⟩ := hop vx vm (xs (Int32.toNatClampNeg (nI (q + 1)))) hJ
  refine lv_aload_n hx hb dL_law_692 rfl (lv_at hl 2 rfl) ?_
  refine lv_aload_n hx hb dL_law_693 rfl (lv_at hl 3 rfl) ?_
  refine lv_iload_n hx hb dL_law_694 rfl (lv_at hl 0 rfl) ?_
  refine lv_iconst (v := 1) hx hb dL_law_695 (by decide) ?_
  refine lv_iadd hx hb dL_law_696 ?_
  refine lv_topi (fun z0 ez0 => ?_)
  have ez0 : z0 = nI (q + 1) := ez0.trans (nI_add q 1)
  subst ez0
  refine va_sld hx hb hX hbl hbA hw.S (vp_in_nI (show q + 1 < L by omega) (by omega)) dL_law_697 ?_
  have hsX : g_X7_secret vx (xs (Int32.toNatClampNeg (nI (q + 1)))) ≠ none := fun h9 => by rw [show oX_secret vx (xs (Int32.toNatClampNeg (nI (q + 1)))) = (g_X7_secret vx (xs (Int32.toNatClampNeg (nI (q + 1))))).map (fun r => (r, vx)) from rfl, h9] at hoX; cases hoX
  refine tw_cX (As := [.int (xs (Int32.toNatClampNeg (nI (q + 1))))]) (rest := []) (n := 1) ⟨hx, hb, hml, hown, hts⟩ (d_X7_secret l E Zx vx (xs (Int32.toNatClampNeg (nI (q + 1)))) hsX) gL_law_X7_secret rfl (by decide +kernel) ⟨Nat.le_of_ble_eq_true rfl, Nat.le_of_ble_eq_true rfl⟩ hK hw rfl hl.1 rfl (Nat.le_of_ble_eq_true rfl) dL_law_698 rfl rfl ⟨Nat.le_of_ble_eq_true rfl, Nat.le_of_ble_eq_true rfl⟩ (fun rX vX H locs hp hw => ?_)
  obtain ⟨hp, rfl⟩ := hp
  have hzX : (some (rX, vx) : Option (Int32 × Mm)) = some (r1, vx1) := by rw [← hoX, show oX_secret vx (xs (Int32.toNatClampNeg (nI (q + 1)))) = (g_X7_secret vx (xs (Int32.toNatClampNeg (nI (q + 1))))).map (fun r => (r, vx)) from rfl, hp]; rfl
  obtain ⟨e1X, e2X⟩ := Prod.mk.inj (Option.some.inj hzX)
  subst e1X
  rw [← e2X] at hJ1
  refine lv_pop hx hb dL_law_701 rfl ?_
  refine lv_aload_n hx hb dL_law_702 rfl (lv_at hl 1 rfl) ?_
  refine lv_aload_n hx hb dL_law_703 rfl (lv_at hl 3 rfl) ?_
  refine lv_iload_n hx hb dL_law_704 rfl (lv_at hl 0 rfl) ?_
  refine lv_iconst (v := 1) hx hb dL_law_705 (by decide) ?_
  refine lv_iadd hx hb dL_law_706 ?_
  refine lv_topi (fun z1 ez1 => ?_)
  have ez1 : z1 = nI (q + 1) := ez1.trans (nI_add q 1)
  subst ez1
  refine va_sld hx hb hX hbl hbA hw.S (vp_in_nI (show q + 1 < L by omega) (by omega)) dL_law_707 ?_
  have hsM : g_X8_secret vm (xs (Int32.toNatClampNeg (nI (q + 1)))) ≠ none := fun h9 => by rw [show oM_secret vm (xs (Int32.toNatClampNeg (nI (q + 1)))) = (g_X8_secret vm (xs (Int32.toNatClampNeg (nI (q + 1))))).map (fun r => (r, vm)) from rfl, h9] at hoM; cases hoM
  refine tw_cM (As := [.int (xs (Int32.toNatClampNeg (nI (q + 1))))]) (rest := []) (n := 1) ⟨hx, hb, hml, hown, hts⟩ (d_X8_secret l E Zm vm (xs (Int32.toNatClampNeg (nI (q + 1)))) hsM) gL_law_X8_secret rfl (by decide +kernel) ⟨Nat.le_of_ble_eq_true rfl, Nat.le_of_ble_eq_true rfl⟩ hK hw rfl hl.1 rfl (Nat.le_of_ble_eq_true rfl) dL_law_708 rfl rfl ⟨Nat.le_of_ble_eq_true rfl, Nat.le_of_ble_eq_true rfl⟩ (fun rM vM H locs hp hw => ?_)
  obtain ⟨hp, rfl⟩ := hp
  have hzM : (some (rM, vm) : Option (Int32 × Mm)) = some (r2, vm1) := by rw [← hoM, show oM_secret vm (xs (Int32.toNatClampNeg (nI (q + 1)))) = (g_X8_secret vm (xs (Int32.toNatClampNeg (nI (q + 1))))).map (fun r => (r, vm)) from rfl, hp]; rfl
  obtain ⟨e1M, e2M⟩ := Prod.mk.inj (Option.some.inj hzM)
  subst e1M
  rw [← e2M] at hJ1
  refine lv_pop hx hb dL_law_711 rfl ?_
  refine lv_goto (tgt := 1421) hx hb dL_law_712 (by decide) ?_
  exact kk _ _ _ _ _ hJ1 hw hl
set_option maxHeartbeats 4000000 in
set_option maxRecDepth 100000 in
theorem lk_17 {p : Program} {l : Launch} {e : Env} {s : State} {m : MethodId} {below : List Frame} {meth : Method} {c : Code} {b L : Nat} {xs : Nat → Int32} {E : kq_T} {H : Heap} {locs : List Loc} {ls : Array Slot} {Zx Zm : km_Z} {vx vm : Mm} {q : Nat} {J : Mm → Mm → Prop} {C : Prop} (hop : jop_taken J C) (C0 : lw_At p s m meth c b L xs) (hK : kq_K E (fun q : Nat => s.heap.size ≤ q) s) (hq : q + 6 ≤ L) (hL : L ≤ 384) (hJ : J vx vm) (hw : tw E (fun q : Nat => s.heap.size ≤ q) s.heap Zx Zm vx vm H locs) (hl : lv_has ls 4 [(3, .int (nI q)), (2, .ref (Zm.1 30 0)), (1, .ref (Zx.1 0 0)), (0, .ref b)]) (kk : ∀ (vx1 vm1 : Mm) (H1 : Heap) (locs1 : List Loc) (ls1 : Array Slot), J vx1 vm1 → tw E (fun q : Nat => s.heap.size ≤ q) s.heap Zx Zm vx1 vm1 H1 locs1 → lv_has ls1 4 [(3, .int (nI q)), (2, .ref (Zm.1 30 0)), (1, .ref (Zx.1 0 0)), (0, .ref b)] → W p l e room_1 s m #[Value.ref b] below meth c H1 locs1 1000 10000 (lw_Z below #[Value.ref b] s) (F0 m 1421 ls1 [])) : W p l e room_1 s m #[Value.ref b] below meth c H locs 1000 10000 (lw_Z below #[Value.ref b] s) (F0 m 715 ls []) := by
  obtain ⟨hx, hb, hr, hml, hown, hts, hX, hbl, hlocks, hgv⟩ := id C0
  have hown : s.vm.findClass RL = some m.cls := hown
  have hb : c.code = cL_law := hb
  have hts := fun w h => hts w (wsL_law_in w h)
  have hbA : ¬ (fun q : Nat => s.heap.size ≤ q) b := Nat.not_le.mpr hbl
  obtain ⟨r1, vx1, r2, vm1, hoX, hoM, hJ1, hC⟩ := hop vx vm (xs (Int32.toNatClampNeg (nI (q + 1)))) (xs (Int32.toNatClampNeg (nI (q + 2)))) (xs (Int32.toNatClampNeg (nI (q + 3)))) hJ
  refine lv_aload_n hx hb dL_law_715 rfl (lv_at hl 2 rfl) ?_
  refine lv_aload_n hx hb dL_law_716 rfl (lv_at hl 3 rfl) ?_
  refine lv_iload_n hx hb dL_law_717 rfl (lv_at hl 0 rfl) ?_
  refine lv_iconst (v := 1) hx hb dL_law_718 (by decide) ?_
  refine lv_iadd hx hb dL_law_719 ?_
  refine lv_topi (fun z0 ez0 => ?_)
  have ez0 : z0 = nI (q + 1) := ez0.trans (nI_add q 1)
  subst ez0
  refine va_sld hx hb hX hbl hbA hw.S (vp_in_nI (show q + 1 < L by omega) (by omega)) dL_law_720 ?_
  refine lv_aload_n hx hb dL_law_721 rfl (lv_at hl 3 rfl) ?_
  refine lv_iload_n hx hb dL_law_722 rfl (lv_at hl 0 rfl) ?_
  refine lv_iconst (v := 2) hx hb dL_law_723 (by decide) ?_
  refine lv_iadd hx hb dL_law_724 ?_
  refine lv_topi (fun z1 ez1 => ?_)
  have ez1 : z1 = nI (q + 2) := ez1.trans (nI_add q 2)
  subst ez1
  refine va_sld hx hb hX hbl hbA hw.S (vp_in_nI (show q + 2 < L by omega) (by omega)) dL_law_725 ?_
  refine lv_aload_n hx hb dL_law_726 rfl (lv_at hl 3 rfl) ?_
  refine lv_iload_n hx hb dL_law_727 rfl (lv_at hl 0 rfl) ?_
  refine lv_iconst (v := 3) hx hb dL_law_728 (by decide) ?_
  refine lv_iadd hx hb dL_law_729 ?_
  refine lv_topi (fun z2 ez2 => ?_)
  have ez2 : z2 = nI (q + 3) := ez2.trans (nI_add q 3)
  subst ez2
  refine va_sld hx hb hX hbl hbA hw.S (vp_in_nI (show q + 3 < L by omega) (by omega)) dL_law_730 ?_
  have hsX : g_X7_taken vx (xs (Int32.toNatClampNeg (nI (q + 1)))) (xs (Int32.toNatClampNeg (nI (q + 2)))) (xs (Int32.toNatClampNeg (nI (q + 3)))) ≠ none := fun h9 => by rw [show oX_taken vx (xs (Int32.toNatClampNeg (nI (q + 1)))) (xs (Int32.toNatClampNeg (nI (q + 2)))) (xs (Int32.toNatClampNeg (nI (q + 3)))) = (g_X7_taken vx (xs (Int32.toNatClampNeg (nI (q + 1)))) (xs (Int32.toNatClampNeg (nI (q + 2)))) (xs (Int32.toNatClampNeg (nI (q + 3))))).map (fun r => (r, vx)) from rfl, h9] at hoX; cases hoX
  refine tw_cX (As := [.int (xs (Int32.toNatClampNeg (nI (q + 1)))), .int (xs (Int32.toNatClampNeg (nI (q + 2)))), .int (xs (Int32.toNatClampNeg (nI (q + 3))))]) (rest := []) (n := 3) ⟨hx, hb, hml, hown, hts⟩ (d_X7_taken l E Zx vx (xs (Int32.toNatClampNeg (nI (q + 1)))) (xs (Int32.toNatClampNeg (nI (q + 2)))) (xs (Int32.toNatClampNeg (nI (q + 3)))) hsX) gL_law_X7_taken rfl (by decide +kernel) ⟨Nat.le_of_ble_eq_true rfl, Nat.le_of_ble_eq_true rfl⟩ hK hw rfl hl.1 rfl (Nat.le_of_ble_eq_true rfl) dL_law_731 rfl rfl ⟨Nat.le_of_ble_eq_true rfl, Nat.le_of_ble_eq_true rfl⟩ (fun rX vX H locs hp hw => ?_)
  obtain ⟨hp, rfl⟩ := hp
  have hzX : (some (rX, vx) : Option (Int32 × Mm)) = some (r1, vx1) := by rw [← hoX, show oX_taken vx (xs (Int32.toNatClampNeg (nI (q + 1)))) (xs (Int32.toNatClampNeg (nI (q + 2)))) (xs (Int32.toNatClampNeg (nI (q + 3)))) = (g_X7_taken vx (xs (Int32.toNatClampNeg (nI (q + 1)))) (xs (Int32.toNatClampNeg (nI (q + 2)))) (xs (Int32.toNatClampNeg (nI (q + 3))))).map (fun r => (r, vx)) from rfl, hp]; rfl
  obtain ⟨e1X, e2X⟩ := Prod.mk.inj (Option.some.inj hzX)
  subst e1X
  rw [← e2X] at hJ1
  refine lv_pop hx hb dL_law_734 rfl ?_
  refine lv_aload_n hx hb dL_law_735 rfl (lv_at hl 1 rfl) ?_
  refine lv_aload_n hx hb dL_law_736 rfl (lv_at hl 3 rfl) ?_
  refine lv_iload_n hx hb dL_law_737 rfl (lv_at hl 0 rfl) ?_
  refine lv_iconst (v := 1) hx hb dL_law_738 (by decide) ?_
  refine lv_iadd hx hb dL_law_739 ?_
  refine lv_topi (fun z3 ez3 => ?_)
  have ez3 : z3 = nI (q + 1) := ez3.trans (nI_add q 1)
  subst ez3
  refine va_sld hx hb hX hbl hbA hw.S (vp_in_nI (show q + 1 < L by omega) (by omega)) dL_law_740 ?_
  refine lv_aload_n hx hb dL_law_741 rfl (lv_at hl 3 rfl) ?_
  refine lv_iload_n hx hb dL_law_742 rfl (lv_at hl 0 rfl) ?_
  refine lv_iconst (v := 2) hx hb dL_law_743 (by decide) ?_
  refine lv_iadd hx hb dL_law_744 ?_
  refine lv_topi (fun z4 ez4 => ?_)
  have ez4 : z4 = nI (q + 2) := ez4.trans (nI_add q 2)
  subst ez4
  refine va_sld hx hb hX hbl hbA hw.S (vp_in_nI (show q + 2 < L by omega) (by omega)) dL_law_745 ?_
  refine lv_aload_n hx hb dL_law_746 rfl (lv_at hl 3 rfl) ?_
  refine lv_iload_n hx hb dL_law_747 rfl (lv_at hl 0 rfl) ?_
  refine lv_iconst (v := 3) hx hb dL_law_748 (by decide) ?_
  refine lv_iadd hx hb dL_law_749 ?_
  refine lv_topi (fun z5 ez5 => ?_)
  have ez5 : z5 = nI (q + 3) := ez5.trans (nI_add q 3)
  subst ez5
  refine va_sld hx hb hX hbl hbA hw.S (vp_in_nI (show q + 3 < L by omega) (by omega)) dL_law_750 ?_
  have hsM : g_X8_taken vm (xs (Int32.toNatClampNeg (nI (q + 1)))) (xs (Int32.toNatClampNeg (nI (q + 2)))) (xs (Int32.toNatClampNeg (nI (q + 3)))) ≠ none := fun h9 => by rw [show oM_taken vm (xs (Int32.toNatClampNeg (nI (q + 1)))) (xs (Int32.toNatClampNeg (nI (q + 2)))) (xs (Int32.toNatClampNeg (nI (q + 3)))) = (g_X8_taken vm (xs (Int32.toNatClampNeg (nI (q + 1)))) (xs (Int32.toNatClampNeg (nI (q + 2)))) (xs (Int32.toNatClampNeg (nI (q + 3))))).map (fun r => (r, vm)) from rfl, h9] at hoM; cases hoM
  refine tw_cM (As := [.int (xs (Int32.toNatClampNeg (nI (q + 1)))), .int (xs (Int32.toNatClampNeg (nI (q + 2)))), .int (xs (Int32.toNatClampNeg (nI (q + 3))))]) (rest := []) (n := 3) ⟨hx, hb, hml, hown, hts⟩ (d_X8_taken l E Zm vm (xs (Int32.toNatClampNeg (nI (q + 1)))) (xs (Int32.toNatClampNeg (nI (q + 2)))) (xs (Int32.toNatClampNeg (nI (q + 3)))) hsM) gL_law_X8_taken rfl (by decide +kernel) ⟨Nat.le_of_ble_eq_true rfl, Nat.le_of_ble_eq_true rfl⟩ hK hw rfl hl.1 rfl (Nat.le_of_ble_eq_true rfl) dL_law_751 rfl rfl ⟨Nat.le_of_ble_eq_true rfl, Nat.le_of_ble_eq_true rfl⟩ (fun rM vM H locs hp hw => ?_)
  obtain ⟨hp, rfl⟩ := hp
  have hzM : (some (rM, vm) : Option (Int32 × Mm)) = some (r2, vm1) := by rw [← hoM, show oM_taken vm (xs (Int32.toNatClampNeg (nI (q + 1)))) (xs (Int32.toNatClampNeg (nI (q + 2)))) (xs (Int32.toNatClampNeg (nI (q + 3)))) = (g_X8_taken vm (xs (Int32.toNatClampNeg (nI (q + 1)))) (xs (Int32.toNatClampNeg (nI (q + 2)))) (xs (Int32.toNatClampNeg (nI (q + 3))))).map (fun r => (r, vm)) from rfl, hp]; rfl
  obtain ⟨e1M, e2M⟩ := Prod.mk.inj (Option.some.inj hzM)
  subst e1M
  rw [← e2M] at hJ1
  refine lv_pop hx hb dL_law_754 rfl ?_
  refine lv_goto (tgt := 1421) hx hb dL_law_755 (by decide) ?_
  exact kk _ _ _ _ _ hJ1 hw hl
set_option maxHeartbeats 4000000 in
set_option maxRecDepth 100000 in
theorem lk_18 {p : Program} {l : Launch} {e : Env} {s : State} {m : MethodId} {below : List Frame} {meth : Method} {c : Code} {b L : Nat} {xs : Nat → Int32} {E : kq_T} {H : Heap} {locs : List Loc} {ls : Array Slot} {Zx Zm : km_Z} {vx vm : Mm} {q : Nat} {J : Mm → Mm → Prop} {C : Prop} (hop : jop_safe J C) (C0 : lw_At p s m meth c b L xs) (hK : kq_K E (fun q : Nat => s.heap.size ≤ q) s) (hq : q + 6 ≤ L) (hL : L ≤ 384) (hJ : J vx vm) (hw : tw E (fun q : Nat => s.heap.size ≤ q) s.heap Zx Zm vx vm H locs) (hl : lv_has ls 4 [(3, .int (nI q)), (2, .ref (Zm.1 30 0)), (1, .ref (Zx.1 0 0)), (0, .ref b)]) (kk : ∀ (vx1 vm1 : Mm) (H1 : Heap) (locs1 : List Loc) (ls1 : Array Slot), J vx1 vm1 → tw E (fun q : Nat => s.heap.size ≤ q) s.heap Zx Zm vx1 vm1 H1 locs1 → lv_has ls1 4 [(3, .int (nI q)), (2, .ref (Zm.1 30 0)), (1, .ref (Zx.1 0 0)), (0, .ref b)] → W p l e room_1 s m #[Value.ref b] below meth c H1 locs1 1000 10000 (lw_Z below #[Value.ref b] s) (F0 m 1421 ls1 [])) : W p l e room_1 s m #[Value.ref b] below meth c H locs 1000 10000 (lw_Z below #[Value.ref b] s) (F0 m 758 ls []) := by
  obtain ⟨hx, hb, hr, hml, hown, hts, hX, hbl, hlocks, hgv⟩ := id C0
  have hown : s.vm.findClass RL = some m.cls := hown
  have hb : c.code = cL_law := hb
  have hts := fun w h => hts w (wsL_law_in w h)
  have hbA : ¬ (fun q : Nat => s.heap.size ≤ q) b := Nat.not_le.mpr hbl
  obtain ⟨r1, vx1, r2, vm1, hoX, hoM, hJ1, hC⟩ := hop vx vm (xs (Int32.toNatClampNeg (nI (q + 1)))) (xs (Int32.toNatClampNeg (nI (q + 2)))) hJ
  refine lv_aload_n hx hb dL_law_758 rfl (lv_at hl 2 rfl) ?_
  refine lv_aload_n hx hb dL_law_759 rfl (lv_at hl 3 rfl) ?_
  refine lv_iload_n hx hb dL_law_760 rfl (lv_at hl 0 rfl) ?_
  refine lv_iconst (v := 1) hx hb dL_law_761 (by decide) ?_
  refine lv_iadd hx hb dL_law_762 ?_
  refine lv_topi (fun z0 ez0 => ?_)
  have ez0 : z0 = nI (q + 1) := ez0.trans (nI_add q 1)
  subst ez0
  refine va_sld hx hb hX hbl hbA hw.S (vp_in_nI (show q + 1 < L by omega) (by omega)) dL_law_763 ?_
  refine lv_aload_n hx hb dL_law_764 rfl (lv_at hl 3 rfl) ?_
  refine lv_iload_n hx hb dL_law_765 rfl (lv_at hl 0 rfl) ?_
  refine lv_iconst (v := 2) hx hb dL_law_766 (by decide) ?_
  refine lv_iadd hx hb dL_law_767 ?_
  refine lv_topi (fun z1 ez1 => ?_)
  have ez1 : z1 = nI (q + 2) := ez1.trans (nI_add q 2)
  subst ez1
  refine va_sld hx hb hX hbl hbA hw.S (vp_in_nI (show q + 2 < L by omega) (by omega)) dL_law_768 ?_
  have hsX : g_X7_safe vx (xs (Int32.toNatClampNeg (nI (q + 1)))) (xs (Int32.toNatClampNeg (nI (q + 2)))) ≠ none := fun h9 => by rw [show oX_safe vx (xs (Int32.toNatClampNeg (nI (q + 1)))) (xs (Int32.toNatClampNeg (nI (q + 2)))) = (g_X7_safe vx (xs (Int32.toNatClampNeg (nI (q + 1)))) (xs (Int32.toNatClampNeg (nI (q + 2))))).map (fun r => (r, vx)) from rfl, h9] at hoX; cases hoX
  refine tw_cX (As := [.int (xs (Int32.toNatClampNeg (nI (q + 1)))), .int (xs (Int32.toNatClampNeg (nI (q + 2))))]) (rest := []) (n := 2) ⟨hx, hb, hml, hown, hts⟩ (d_X7_safe l E Zx vx (xs (Int32.toNatClampNeg (nI (q + 1)))) (xs (Int32.toNatClampNeg (nI (q + 2)))) hsX) gL_law_X7_safe rfl (by decide +kernel) ⟨Nat.le_of_ble_eq_true rfl, Nat.le_of_ble_eq_true rfl⟩ hK hw rfl hl.1 rfl (Nat.le_of_ble_eq_true rfl) dL_law_769 rfl rfl ⟨Nat.le_of_ble_eq_true rfl, Nat.le_of_ble_eq_true rfl⟩ (fun rX vX H locs hp hw => ?_)
  obtain ⟨hp, rfl⟩ := hp
  have hzX : (some (rX, vx) : Option (Int32 × Mm)) = some (r1, vx1) := by rw [← hoX, show oX_safe vx (xs (Int32.toNatClampNeg (nI (q + 1)))) (xs (Int32.toNatClampNeg (nI (q + 2)))) = (g_X7_safe vx (xs (Int32.toNatClampNeg (nI (q + 1)))) (xs (Int32.toNatClampNeg (nI (q + 2))))).map (fun r => (r, vx)) from rfl, hp]; rfl
  obtain ⟨e1X, e2X⟩ := Prod.mk.inj (Option.some.inj hzX)
  subst e1X
  rw [← e2X] at hJ1
  refine lv_pop hx hb dL_law_772 rfl ?_
  refine lv_aload_n hx hb dL_law_773 rfl (lv_at hl 1 rfl) ?_
  refine lv_aload_n hx hb dL_law_774 rfl (lv_at hl 3 rfl) ?_
  refine lv_iload_n hx hb dL_law_775 rfl (lv_at hl 0 rfl) ?_
  refine lv_iconst (v := 1) hx hb dL_law_776 (by decide) ?_
  refine lv_iadd hx hb dL_law_777 ?_
  refine lv_topi (fun z2 ez2 => ?_)
  have ez2 : z2 = nI (q + 1) := ez2.trans (nI_add q 1)
  subst ez2
  refine va_sld hx hb hX hbl hbA hw.S (vp_in_nI (show q + 1 < L by omega) (by omega)) dL_law_778 ?_
  refine lv_aload_n hx hb dL_law_779 rfl (lv_at hl 3 rfl) ?_
  refine lv_iload_n hx hb dL_law_780 rfl (lv_at hl 0 rfl) ?_
  refine lv_iconst (v := 2) hx hb dL_law_781 (by decide) ?_
  refine lv_iadd hx hb dL_law_782 ?_
  refine lv_topi (fun z3 ez3 => ?_)
  have ez3 : z3 = nI (q + 2) := ez3.trans (nI_add q 2)
  subst ez3
  refine va_sld hx hb hX hbl hbA hw.S (vp_in_nI (show q + 2 < L by omega) (by omega)) dL_law_783 ?_
  have hsM : g_X8_safe vm (xs (Int32.toNatClampNeg (nI (q + 1)))) (xs (Int32.toNatClampNeg (nI (q + 2)))) ≠ none := fun h9 => by rw [show oM_safe vm (xs (Int32.toNatClampNeg (nI (q + 1)))) (xs (Int32.toNatClampNeg (nI (q + 2)))) = (g_X8_safe vm (xs (Int32.toNatClampNeg (nI (q + 1)))) (xs (Int32.toNatClampNeg (nI (q + 2))))).map (fun r => (r, vm)) from rfl, h9] at hoM; cases hoM
  refine tw_cM (As := [.int (xs (Int32.toNatClampNeg (nI (q + 1)))), .int (xs (Int32.toNatClampNeg (nI (q + 2))))]) (rest := []) (n := 2) ⟨hx, hb, hml, hown, hts⟩ (d_X8_safe l E Zm vm (xs (Int32.toNatClampNeg (nI (q + 1)))) (xs (Int32.toNatClampNeg (nI (q + 2)))) hsM) gL_law_X8_safe rfl (by decide +kernel) ⟨Nat.le_of_ble_eq_true rfl, Nat.le_of_ble_eq_true rfl⟩ hK hw rfl hl.1 rfl (Nat.le_of_ble_eq_true rfl) dL_law_784 rfl rfl ⟨Nat.le_of_ble_eq_true rfl, Nat.le_of_ble_eq_true rfl⟩ (fun rM vM H locs hp hw => ?_)
  obtain ⟨hp, rfl⟩ := hp
  have hzM : (some (rM, vm) : Option (Int32 × Mm)) = some (r2, vm1) := by rw [← hoM, show oM_safe vm (xs (Int32.toNatClampNeg (nI (q + 1)))) (xs (Int32.toNatClampNeg (nI (q + 2)))) = (g_X8_safe vm (xs (Int32.toNatClampNeg (nI (q + 1)))) (xs (Int32.toNatClampNeg (nI (q + 2))))).map (fun r => (r, vm)) from rfl, hp]; rfl
  obtain ⟨e1M, e2M⟩ := Prod.mk.inj (Option.some.inj hzM)
  subst e1M
  rw [← e2M] at hJ1
  refine lv_pop hx hb dL_law_787 rfl ?_
  refine lv_goto (tgt := 1421) hx hb dL_law_788 (by decide) ?_
  exact kk _ _ _ _ _ hJ1 hw hl
set_option maxHeartbeats 4000000 in
set_option maxRecDepth 100000 in
theorem lk_19 {p : Program} {l : Launch} {e : Env} {s : State} {m : MethodId} {below : List Frame} {meth : Method} {c : Code} {b L : Nat} {xs : Nat → Int32} {E : kq_T} {H : Heap} {locs : List Loc} {ls : Array Slot} {Zx Zm : km_Z} {vx vm : Mm} {q : Nat} {J : Mm → Mm → Prop} {C : Prop} (hop : jop_open J C) (C0 : lw_At p s m meth c b L xs) (hK : kq_K E (fun q : Nat => s.heap.size ≤ q) s) (hq : q + 6 ≤ L) (hL : L ≤ 384) (hJ : J vx vm) (hw : tw E (fun q : Nat => s.heap.size ≤ q) s.heap Zx Zm vx vm H locs) (hl : lv_has ls 4 [(3, .int (nI q)), (2, .ref (Zm.1 30 0)), (1, .ref (Zx.1 0 0)), (0, .ref b)]) (kk : ∀ (vx1 vm1 : Mm) (H1 : Heap) (locs1 : List Loc) (ls1 : Array Slot), J vx1 vm1 → tw E (fun q : Nat => s.heap.size ≤ q) s.heap Zx Zm vx1 vm1 H1 locs1 → lv_has ls1 4 [(3, .int (nI q)), (2, .ref (Zm.1 30 0)), (1, .ref (Zx.1 0 0)), (0, .ref b)] → W p l e room_1 s m #[Value.ref b] below meth c H1 locs1 1000 10000 (lw_Z below #[Value.ref b] s) (F0 m 1421 ls1 [])) : W p l e room_1 s m #[Value.ref b] below meth c H locs 1000 10000 (lw_Z below #[Value.ref b] s) (F0 m 791 ls []) := by
  obtain ⟨hx, hb, hr, hml, hown, hts, hX, hbl, hlocks, hgv⟩ := id C0
  have hown : s.vm.findClass RL = some m.cls := hown
  have hb : c.code = cL_law := hb
  have hts := fun w h => hts w (wsL_law_in w h)
  have hbA : ¬ (fun q : Nat => s.heap.size ≤ q) b := Nat.not_le.mpr hbl
  obtain ⟨r1, vx1, r2, vm1, hoX, hoM, hJ1, hC⟩ := hop vx vm (xs (Int32.toNatClampNeg (nI (q + 1)))) (xs (Int32.toNatClampNeg (nI (q + 2)))) hJ
  refine lv_aload_n hx hb dL_law_791 rfl (lv_at hl 2 rfl) ?_
  refine lv_aload_n hx hb dL_law_792 rfl (lv_at hl 3 rfl) ?_
  refine lv_iload_n hx hb dL_law_793 rfl (lv_at hl 0 rfl) ?_
  refine lv_iconst (v := 1) hx hb dL_law_794 (by decide) ?_
  refine lv_iadd hx hb dL_law_795 ?_
  refine lv_topi (fun z0 ez0 => ?_)
  have ez0 : z0 = nI (q + 1) := ez0.trans (nI_add q 1)
  subst ez0
  refine va_sld hx hb hX hbl hbA hw.S (vp_in_nI (show q + 1 < L by omega) (by omega)) dL_law_796 ?_
  refine lv_aload_n hx hb dL_law_797 rfl (lv_at hl 3 rfl) ?_
  refine lv_iload_n hx hb dL_law_798 rfl (lv_at hl 0 rfl) ?_
  refine lv_iconst (v := 2) hx hb dL_law_799 (by decide) ?_
  refine lv_iadd hx hb dL_law_800 ?_
  refine lv_topi (fun z1 ez1 => ?_)
  have ez1 : z1 = nI (q + 2) := ez1.trans (nI_add q 2)
  subst ez1
  refine va_sld hx hb hX hbl hbA hw.S (vp_in_nI (show q + 2 < L by omega) (by omega)) dL_law_801 ?_
  have hsX : g_X7_open vx (xs (Int32.toNatClampNeg (nI (q + 1)))) (xs (Int32.toNatClampNeg (nI (q + 2)))) ≠ none := fun h9 => by rw [show oX_open vx (xs (Int32.toNatClampNeg (nI (q + 1)))) (xs (Int32.toNatClampNeg (nI (q + 2)))) = (g_X7_open vx (xs (Int32.toNatClampNeg (nI (q + 1)))) (xs (Int32.toNatClampNeg (nI (q + 2))))).map (fun r => (r, vx)) from rfl, h9] at hoX; cases hoX
  refine tw_cX (As := [.int (xs (Int32.toNatClampNeg (nI (q + 1)))), .int (xs (Int32.toNatClampNeg (nI (q + 2))))]) (rest := []) (n := 2) ⟨hx, hb, hml, hown, hts⟩ (d_X7_open l E Zx vx (xs (Int32.toNatClampNeg (nI (q + 1)))) (xs (Int32.toNatClampNeg (nI (q + 2)))) hsX) gL_law_X7_open rfl (by decide +kernel) ⟨Nat.le_of_ble_eq_true rfl, Nat.le_of_ble_eq_true rfl⟩ hK hw rfl hl.1 rfl (Nat.le_of_ble_eq_true rfl) dL_law_802 rfl rfl ⟨Nat.le_of_ble_eq_true rfl, Nat.le_of_ble_eq_true rfl⟩ (fun rX vX H locs hp hw => ?_)
  obtain ⟨hp, rfl⟩ := hp
  have hzX : (some (rX, vx) : Option (Int32 × Mm)) = some (r1, vx1) := by rw [← hoX, show oX_open vx (xs (Int32.toNatClampNeg (nI (q + 1)))) (xs (Int32.toNatClampNeg (nI (q + 2)))) = (g_X7_open vx (xs (Int32.toNatClampNeg (nI (q + 1)))) (xs (Int32.toNatClampNeg (nI (q + 2))))).map (fun r => (r, vx)) from rfl, hp]; rfl
  obtain ⟨e1X, e2X⟩ := Prod.mk.inj (Option.some.inj hzX)
  subst e1X
  rw [← e2X] at hJ1
  refine lv_pop hx hb dL_law_805 rfl ?_
  refine lv_aload_n hx hb dL_law_806 rfl (lv_at hl 1 rfl) ?_
  refine lv_aload_n hx hb dL_law_807 rfl (lv_at hl 3 rfl) ?_
  refine lv_iload_n hx hb dL_law_808 rfl (lv_at hl 0 rfl) ?_
  refine lv_iconst (v := 1) hx hb dL_law_809 (by decide) ?_
  refine lv_iadd hx hb dL_law_810 ?_
  refine lv_topi (fun z2 ez2 => ?_)
  have ez2 : z2 = nI (q + 1) := ez2.trans (nI_add q 1)
  subst ez2
  refine va_sld hx hb hX hbl hbA hw.S (vp_in_nI (show q + 1 < L by omega) (by omega)) dL_law_811 ?_
  refine lv_aload_n hx hb dL_law_812 rfl (lv_at hl 3 rfl) ?_
  refine lv_iload_n hx hb dL_law_813 rfl (lv_at hl 0 rfl) ?_
  refine lv_iconst (v := 2) hx hb dL_law_814 (by decide) ?_
  refine lv_iadd hx hb dL_law_815 ?_
  refine lv_topi (fun z3 ez3 => ?_)
  have ez3 : z3 = nI (q + 2) := ez3.trans (nI_add q 2)
  subst ez3
  refine va_sld hx hb hX hbl hbA hw.S (vp_in_nI (show q + 2 < L by omega) (by omega)) dL_law_816 ?_
  have hsM : g_X8_open vm (xs (Int32.toNatClampNeg (nI (q + 1)))) (xs (Int32.toNatClampNeg (nI (q + 2)))) ≠ none := fun h9 => by rw [show oM_open vm (xs (Int32.toNatClampNeg (nI (q + 1)))) (xs (Int32.toNatClampNeg (nI (q + 2)))) = (g_X8_open vm (xs (Int32.toNatClampNeg (nI (q + 1)))) (xs (Int32.toNatClampNeg (nI (q + 2))))).map (fun r => (r, vm)) from rfl, h9] at hoM; cases hoM
  refine tw_cM (As := [.int (xs (Int32.toNatClampNeg (nI (q + 1)))), .int (xs (Int32.toNatClampNeg (nI (q + 2))))]) (rest := []) (n := 2) ⟨hx, hb, hml, hown, hts⟩ (d_X8_open l E Zm vm (xs (Int32.toNatClampNeg (nI (q + 1)))) (xs (Int32.toNatClampNeg (nI (q + 2)))) hsM) gL_law_X8_open rfl (by decide +kernel) ⟨Nat.le_of_ble_eq_true rfl, Nat.le_of_ble_eq_true rfl⟩ hK hw rfl hl.1 rfl (Nat.le_of_ble_eq_true rfl) dL_law_817 rfl rfl ⟨Nat.le_of_ble_eq_true rfl, Nat.le_of_ble_eq_true rfl⟩ (fun rM vM H locs hp hw => ?_)
  obtain ⟨hp, rfl⟩ := hp
  have hzM : (some (rM, vm) : Option (Int32 × Mm)) = some (r2, vm1) := by rw [← hoM, show oM_open vm (xs (Int32.toNatClampNeg (nI (q + 1)))) (xs (Int32.toNatClampNeg (nI (q + 2)))) = (g_X8_open vm (xs (Int32.toNatClampNeg (nI (q + 1)))) (xs (Int32.toNatClampNeg (nI (q + 2))))).map (fun r => (r, vm)) from rfl, hp]; rfl
  obtain ⟨e1M, e2M⟩ := Prod.mk.inj (Option.some.inj hzM)
  subst e1M
  rw [← e2M] at hJ1
  refine lv_pop hx hb dL_law_820 rfl ?_
  refine lv_goto (tgt := 1421) hx hb dL_law_821 (by decide) ?_
  exact kk _ _ _ _ _ hJ1 hw hl
set_option maxHeartbeats 4000000 in
set_option maxRecDepth 100000 in
theorem lk_20 {p : Program} {l : Launch} {e : Env} {s : State} {m : MethodId} {below : List Frame} {meth : Method} {c : Code} {b L : Nat} {xs : Nat → Int32} {E : kq_T} {H : Heap} {locs : List Loc} {ls : Array Slot} {Zx Zm : km_Z} {vx vm : Mm} {q : Nat} {J : Mm → Mm → Prop} {C : Prop} (hop : jop_next J C) (C0 : lw_At p s m meth c b L xs) (hK : kq_K E (fun q : Nat => s.heap.size ≤ q) s) (hq : q + 6 ≤ L) (hL : L ≤ 384) (hJ : J vx vm) (hw : tw E (fun q : Nat => s.heap.size ≤ q) s.heap Zx Zm vx vm H locs) (hl : lv_has ls 4 [(3, .int (nI q)), (2, .ref (Zm.1 30 0)), (1, .ref (Zx.1 0 0)), (0, .ref b)]) (kk : ∀ (vx1 vm1 : Mm) (H1 : Heap) (locs1 : List Loc) (ls1 : Array Slot), J vx1 vm1 → tw E (fun q : Nat => s.heap.size ≤ q) s.heap Zx Zm vx1 vm1 H1 locs1 → lv_has ls1 4 [(3, .int (nI q)), (2, .ref (Zm.1 30 0)), (1, .ref (Zx.1 0 0)), (0, .ref b)] → W p l e room_1 s m #[Value.ref b] below meth c H1 locs1 1000 10000 (lw_Z below #[Value.ref b] s) (F0 m 1421 ls1 [])) : W p l e room_1 s m #[Value.ref b] below meth c H locs 1000 10000 (lw_Z below #[Value.ref b] s) (F0 m 824 ls []) := by
  obtain ⟨hx, hb, hr, hml, hown, hts, hX, hbl, hlocks, hgv⟩ := id C0
  have hown : s.vm.findClass RL = some m.cls := hown
  have hb : c.code = cL_law := hb
  have hts := fun w h => hts w (wsL_law_in w h)
  have hbA : ¬ (fun q : Nat => s.heap.size ≤ q) b := Nat.not_le.mpr hbl
  obtain ⟨r1, vx1, r2, vm1, hoX, hoM, hJ1, hC⟩ := hop vx vm (xs (Int32.toNatClampNeg (nI (q + 1)))) hJ
  refine lv_aload_n hx hb dL_law_824 rfl (lv_at hl 2 rfl) ?_
  refine lv_aload_n hx hb dL_law_825 rfl (lv_at hl 3 rfl) ?_
  refine lv_iload_n hx hb dL_law_826 rfl (lv_at hl 0 rfl) ?_
  refine lv_iconst (v := 1) hx hb dL_law_827 (by decide) ?_
  refine lv_iadd hx hb dL_law_828 ?_
  refine lv_topi (fun z0 ez0 => ?_)
  have ez0 : z0 = nI (q + 1) := ez0.trans (nI_add q 1)
  subst ez0
  refine va_sld hx hb hX hbl hbA hw.S (vp_in_nI (show q + 1 < L by omega) (by omega)) dL_law_829 ?_
  have hsX : g_X7_next vx (xs (Int32.toNatClampNeg (nI (q + 1)))) ≠ none := fun h9 => by rw [show oX_next vx (xs (Int32.toNatClampNeg (nI (q + 1)))) = (g_X7_next vx (xs (Int32.toNatClampNeg (nI (q + 1))))).map (fun r => (r, vx)) from rfl, h9] at hoX; cases hoX
  refine tw_cX (As := [.int (xs (Int32.toNatClampNeg (nI (q + 1))))]) (rest := []) (n := 1) ⟨hx, hb, hml, hown, hts⟩ (d_X7_next l E Zx vx (xs (Int32.toNatClampNeg (nI (q + 1)))) hsX) gL_law_X7_next rfl (by decide +kernel) ⟨Nat.le_of_ble_eq_true rfl, Nat.le_of_ble_eq_true rfl⟩ hK hw rfl hl.1 rfl (Nat.le_of_ble_eq_true rfl) dL_law_830 rfl rfl ⟨Nat.le_of_ble_eq_true rfl, Nat.le_of_ble_eq_true rfl⟩ (fun rX vX H locs hp hw => ?_)
  obtain ⟨hp, rfl⟩ := hp
  have hzX : (some (rX, vx) : Option (Int32 × Mm)) = some (r1, vx1) := by rw [← hoX, show oX_next vx (xs (Int32.toNatClampNeg (nI (q + 1)))) = (g_X7_next vx (xs (Int32.toNatClampNeg (nI (q + 1))))).map (fun r => (r, vx)) from rfl, hp]; rfl
  obtain ⟨e1X, e2X⟩ := Prod.mk.inj (Option.some.inj hzX)
  subst e1X
  rw [← e2X] at hJ1
  refine lv_pop hx hb dL_law_833 rfl ?_
  refine lv_aload_n hx hb dL_law_834 rfl (lv_at hl 1 rfl) ?_
  refine lv_aload_n hx hb dL_law_835 rfl (lv_at hl 3 rfl) ?_
  refine lv_iload_n hx hb dL_law_836 rfl (lv_at hl 0 rfl) ?_
  refine lv_iconst (v := 1) hx hb dL_law_837 (by decide) ?_
  refine lv_iadd hx hb dL_law_838 ?_
  refine lv_topi (fun z1 ez1 => ?_)
  have ez1 : z1 = nI (q + 1) := ez1.trans (nI_add q 1)
  subst ez1
  refine va_sld hx hb hX hbl hbA hw.S (vp_in_nI (show q + 1 < L by omega) (by omega)) dL_law_839 ?_
  have hsM : g_X8_next vm (xs (Int32.toNatClampNeg (nI (q + 1)))) ≠ none := fun h9 => by rw [show oM_next vm (xs (Int32.toNatClampNeg (nI (q + 1)))) = (g_X8_next vm (xs (Int32.toNatClampNeg (nI (q + 1))))).map (fun r => (r, vm)) from rfl, h9] at hoM; cases hoM
  refine tw_cM (As := [.int (xs (Int32.toNatClampNeg (nI (q + 1))))]) (rest := []) (n := 1) ⟨hx, hb, hml, hown, hts⟩ (d_X8_next l E Zm vm (xs (Int32.toNatClampNeg (nI (q + 1)))) hsM) gL_law_X8_next rfl (by decide +kernel) ⟨Nat.le_of_ble_eq_true rfl, Nat.le_of_ble_eq_true rfl⟩ hK hw rfl hl.1 rfl (Nat.le_of_ble_eq_true rfl) dL_law_840 rfl rfl ⟨Nat.le_of_ble_eq_true rfl, Nat.le_of_ble_eq_true rfl⟩ (fun rM vM H locs hp hw => ?_)
  obtain ⟨hp, rfl⟩ := hp
  have hzM : (some (rM, vm) : Option (Int32 × Mm)) = some (r2, vm1) := by rw [← hoM, show oM_next vm (xs (Int32.toNatClampNeg (nI (q + 1)))) = (g_X8_next vm (xs (Int32.toNatClampNeg (nI (q + 1))))).map (fun r => (r, vm)) from rfl, hp]; rfl
  obtain ⟨e1M, e2M⟩ := Prod.mk.inj (Option.some.inj hzM)
  subst e1M
  rw [← e2M] at hJ1
  refine lv_pop hx hb dL_law_843 rfl ?_
  refine lv_goto (tgt := 1421) hx hb dL_law_844 (by decide) ?_
  exact kk _ _ _ _ _ hJ1 hw hl
set_option maxHeartbeats 4000000 in
set_option maxRecDepth 100000 in
theorem lk_21 {p : Program} {l : Launch} {e : Env} {s : State} {m : MethodId} {below : List Frame} {meth : Method} {c : Code} {b L : Nat} {xs : Nat → Int32} {E : kq_T} {H : Heap} {locs : List Loc} {ls : Array Slot} {Zx Zm : km_Z} {vx vm : Mm} {q : Nat} {J : Mm → Mm → Prop} {C : Prop} (hop : jop_agree J C) (C0 : lw_At p s m meth c b L xs) (hK : kq_K E (fun q : Nat => s.heap.size ≤ q) s) (hq : q + 6 ≤ L) (hL : L ≤ 384) (hJ : J vx vm) (hw : tw E (fun q : Nat => s.heap.size ≤ q) s.heap Zx Zm vx vm H locs) (hl : lv_has ls 4 [(3, .int (nI q)), (2, .ref (Zm.1 30 0)), (1, .ref (Zx.1 0 0)), (0, .ref b)]) (kk : ∀ (vx1 vm1 : Mm) (H1 : Heap) (locs1 : List Loc) (ls1 : Array Slot), J vx1 vm1 → tw E (fun q : Nat => s.heap.size ≤ q) s.heap Zx Zm vx1 vm1 H1 locs1 → lv_has ls1 4 [(3, .int (nI q)), (2, .ref (Zm.1 30 0)), (1, .ref (Zx.1 0 0)), (0, .ref b)] → W p l e room_1 s m #[Value.ref b] below meth c H1 locs1 1000 10000 (lw_Z below #[Value.ref b] s) (F0 m 1421 ls1 [])) : W p l e room_1 s m #[Value.ref b] below meth c H locs 1000 10000 (lw_Z below #[Value.ref b] s) (F0 m 847 ls []) := by
  obtain ⟨hx, hb, hr, hml, hown, hts, hX, hbl, hlocks, hgv⟩ := id C0
  have hown : s.vm.findClass RL = some m.cls := hown
  have hb : c.code = cL_law := hb
  have hts := fun w h => hts w (wsL_law_in w h)
  have hbA : ¬ (fun q : Nat => s.heap.size ≤ q) b := Nat.not_le.mpr hbl
  obtain ⟨r1, vx1, r2, vm1, hoX, hoM, hJ1, hC⟩ := hop vx vm  hJ
  refine lv_aload_n hx hb dL_law_847 rfl (lv_at hl 2 rfl) ?_
  have hsX : g_X7_agree vx  ≠ none := fun h9 => by rw [show oX_agree vx  = (g_X7_agree vx ).map (fun r => (r, vx)) from rfl, h9] at hoX; cases hoX
  refine tw_cX (As := []) (rest := []) (n := 0) ⟨hx, hb, hml, hown, hts⟩ (d_X7_agree l E Zx vx  hsX) gL_law_X7_agree rfl (by decide +kernel) ⟨Nat.le_of_ble_eq_true rfl, Nat.le_of_ble_eq_true rfl⟩ hK hw rfl hl.1 rfl (Nat.le_of_ble_eq_true rfl) dL_law_848 rfl rfl ⟨Nat.le_of_ble_eq_true rfl, Nat.le_of_ble_eq_true rfl⟩ (fun rX vX H locs hp hw => ?_)
  obtain ⟨hp, rfl⟩ := hp
  have hzX : (some (rX, vx) : Option (Int32 × Mm)) = some (r1, vx1) := by rw [← hoX, show oX_agree vx  = (g_X7_agree vx ).map (fun r => (r, vx)) from rfl, hp]; rfl
  obtain ⟨e1X, e2X⟩ := Prod.mk.inj (Option.some.inj hzX)
  subst e1X
  rw [← e2X] at hJ1
  refine lv_pop hx hb dL_law_851 rfl ?_
  refine lv_aload_n hx hb dL_law_852 rfl (lv_at hl 1 rfl) ?_
  have hsM : g_X8_agree vm  ≠ none := fun h9 => by rw [show oM_agree vm  = (g_X8_agree vm ).map (fun r => (r, vm)) from rfl, h9] at hoM; cases hoM
  refine tw_cM (As := []) (rest := []) (n := 0) ⟨hx, hb, hml, hown, hts⟩ (d_X8_agree l E Zm vm  hsM) gL_law_X8_agree rfl (by decide +kernel) ⟨Nat.le_of_ble_eq_true rfl, Nat.le_of_ble_eq_true rfl⟩ hK hw rfl hl.1 rfl (Nat.le_of_ble_eq_true rfl) dL_law_853 rfl rfl ⟨Nat.le_of_ble_eq_true rfl, Nat.le_of_ble_eq_true rfl⟩ (fun rM vM H locs hp hw => ?_)
  obtain ⟨hp, rfl⟩ := hp
  have hzM : (some (rM, vm) : Option (Int32 × Mm)) = some (r2, vm1) := by rw [← hoM, show oM_agree vm  = (g_X8_agree vm ).map (fun r => (r, vm)) from rfl, hp]; rfl
  obtain ⟨e1M, e2M⟩ := Prod.mk.inj (Option.some.inj hzM)
  subst e1M
  rw [← e2M] at hJ1
  refine lv_pop hx hb dL_law_856 rfl ?_
  refine lv_goto (tgt := 1421) hx hb dL_law_857 (by decide) ?_
  exact kk _ _ _ _ _ hJ1 hw hl
set_option maxHeartbeats 4000000 in
set_option maxRecDepth 100000 in
theorem lk_22 {p : Program} {l : Launch} {e : Env} {s : State} {m : MethodId} {below : List Frame} {meth : Method} {c : Code} {b L : Nat} {xs : Nat → Int32} {E : kq_T} {H : Heap} {locs : List Loc} {ls : Array Slot} {Zx Zm : km_Z} {vx vm : Mm} {q : Nat} {J : Mm → Mm → Prop} {C : Prop} (hop : jop_man J C) (C0 : lw_At p s m meth c b L xs) (hK : kq_K E (fun q : Nat => s.heap.size ≤ q) s) (hq : q + 6 ≤ L) (hL : L ≤ 384) (hJ : J vx vm) (hw : tw E (fun q : Nat => s.heap.size ≤ q) s.heap Zx Zm vx vm H locs) (hl : lv_has ls 4 [(3, .int (nI q)), (2, .ref (Zm.1 30 0)), (1, .ref (Zx.1 0 0)), (0, .ref b)]) (kk : ∀ (vx1 vm1 : Mm) (H1 : Heap) (locs1 : List Loc) (ls1 : Array Slot), J vx1 vm1 → tw E (fun q : Nat => s.heap.size ≤ q) s.heap Zx Zm vx1 vm1 H1 locs1 → lv_has ls1 4 [(3, .int (nI q)), (2, .ref (Zm.1 30 0)), (1, .ref (Zx.1 0 0)), (0, .ref b)] → W p l e room_1 s m #[Value.ref b] below meth c H1 locs1 1000 10000 (lw_Z below #[Value.ref b] s) (F0 m 1421 ls1 [])) : W p l e room_1 s m #[Value.ref b] below meth c H locs 1000 10000 (lw_Z below #[Value.ref b] s) (F0 m 860 ls []) := by
  obtain ⟨hx, hb, hr, hml, hown, hts, hX, hbl, hlocks, hgv⟩ := id C0
  have hown : s.vm.findClass RL = some m.cls := hown
  have hb : c.code = cL_law := hb
  have hts := fun w h => hts w (wsL_law_in w h)
  have hbA : ¬ (fun q : Nat => s.heap.size ≤ q) b := Nat.not_le.mpr hbl
  obtain ⟨r1, vx1, r2, vm1, hoX, hoM, hJ1, hC⟩ := hop vx vm (xs (Int32.toNatClampNeg (nI (q + 1)))) hJ
  refine lv_aload_n hx hb dL_law_860 rfl (lv_at hl 2 rfl) ?_
  refine lv_aload_n hx hb dL_law_861 rfl (lv_at hl 3 rfl) ?_
  refine lv_iload_n hx hb dL_law_862 rfl (lv_at hl 0 rfl) ?_
  refine lv_iconst (v := 1) hx hb dL_law_863 (by decide) ?_
  refine lv_iadd hx hb dL_law_864 ?_
  refine lv_topi (fun z0 ez0 => ?_)
  have ez0 : z0 = nI (q + 1) := ez0.trans (nI_add q 1)
  subst ez0
  refine va_sld hx hb hX hbl hbA hw.S (vp_in_nI (show q + 1 < L by omega) (by omega)) dL_law_865 ?_
  have hsX : g_X7_man vx (xs (Int32.toNatClampNeg (nI (q + 1)))) ≠ none := fun h9 => by rw [show oX_man vx (xs (Int32.toNatClampNeg (nI (q + 1)))) = (g_X7_man vx (xs (Int32.toNatClampNeg (nI (q + 1))))).map (fun r => (r, vx)) from rfl, h9] at hoX; cases hoX
  refine tw_cX (As := [.int (xs (Int32.toNatClampNeg (nI (q + 1))))]) (rest := []) (n := 1) ⟨hx, hb, hml, hown, hts⟩ (d_X7_man l E Zx vx (xs (Int32.toNatClampNeg (nI (q + 1)))) hsX) gL_law_X7_man rfl (by decide +kernel) ⟨Nat.le_of_ble_eq_true rfl, Nat.le_of_ble_eq_true rfl⟩ hK hw rfl hl.1 rfl (Nat.le_of_ble_eq_true rfl) dL_law_866 rfl rfl ⟨Nat.le_of_ble_eq_true rfl, Nat.le_of_ble_eq_true rfl⟩ (fun rX vX H locs hp hw => ?_)
  obtain ⟨hp, rfl⟩ := hp
  have hzX : (some (rX, vx) : Option (Int32 × Mm)) = some (r1, vx1) := by rw [← hoX, show oX_man vx (xs (Int32.toNatClampNeg (nI (q + 1)))) = (g_X7_man vx (xs (Int32.toNatClampNeg (nI (q + 1))))).map (fun r => (r, vx)) from rfl, hp]; rfl
  obtain ⟨e1X, e2X⟩ := Prod.mk.inj (Option.some.inj hzX)
  subst e1X
  rw [← e2X] at hJ1
  refine lv_pop hx hb dL_law_869 rfl ?_
  refine lv_aload_n hx hb dL_law_870 rfl (lv_at hl 1 rfl) ?_
  refine lv_aload_n hx hb dL_law_871 rfl (lv_at hl 3 rfl) ?_
  refine lv_iload_n hx hb dL_law_872 rfl (lv_at hl 0 rfl) ?_
  refine lv_iconst (v := 1) hx hb dL_law_873 (by decide) ?_
  refine lv_iadd hx hb dL_law_874 ?_
  refine lv_topi (fun z1 ez1 => ?_)
  have ez1 : z1 = nI (q + 1) := ez1.trans (nI_add q 1)
  subst ez1
  refine va_sld hx hb hX hbl hbA hw.S (vp_in_nI (show q + 1 < L by omega) (by omega)) dL_law_875 ?_
  have hsM : g_X8_man vm (xs (Int32.toNatClampNeg (nI (q + 1)))) ≠ none := fun h9 => by rw [show oM_man vm (xs (Int32.toNatClampNeg (nI (q + 1)))) = (g_X8_man vm (xs (Int32.toNatClampNeg (nI (q + 1))))).map (fun r => (r, vm)) from rfl, h9] at hoM; cases hoM
  refine tw_cM (As := [.int (xs (Int32.toNatClampNeg (nI (q + 1))))]) (rest := []) (n := 1) ⟨hx, hb, hml, hown, hts⟩ (d_X8_man l E Zm vm (xs (Int32.toNatClampNeg (nI (q + 1)))) hsM) gL_law_X8_man rfl (by decide +kernel) ⟨Nat.le_of_ble_eq_true rfl, Nat.le_of_ble_eq_true rfl⟩ hK hw rfl hl.1 rfl (Nat.le_of_ble_eq_true rfl) dL_law_876 rfl rfl ⟨Nat.le_of_ble_eq_true rfl, Nat.le_of_ble_eq_true rfl⟩ (fun rM vM H locs hp hw => ?_)
  obtain ⟨hp, rfl⟩ := hp
  have hzM : (some (rM, vm) : Option (Int32 × Mm)) = some (r2, vm1) := by rw [← hoM, show oM_man vm (xs (Int32.toNatClampNeg (nI (q + 1)))) = (g_X8_man vm (xs (Int32.toNatClampNeg (nI (q + 1))))).map (fun r => (r, vm)) from rfl, hp]; rfl
  obtain ⟨e1M, e2M⟩ := Prod.mk.inj (Option.some.inj hzM)
  subst e1M
  rw [← e2M] at hJ1
  refine lv_pop hx hb dL_law_879 rfl ?_
  refine lv_goto (tgt := 1421) hx hb dL_law_880 (by decide) ?_
  exact kk _ _ _ _ _ hJ1 hw hl
set_option maxHeartbeats 4000000 in
set_option maxRecDepth 100000 in
theorem lk_23 {p : Program} {l : Launch} {e : Env} {s : State} {m : MethodId} {below : List Frame} {meth : Method} {c : Code} {b L : Nat} {xs : Nat → Int32} {E : kq_T} {H : Heap} {locs : List Loc} {ls : Array Slot} {Zx Zm : km_Z} {vx vm : Mm} {q : Nat} {J : Mm → Mm → Prop} {C : Prop} (hop : jop_fewest J C) (C0 : lw_At p s m meth c b L xs) (hK : kq_K E (fun q : Nat => s.heap.size ≤ q) s) (hq : q + 6 ≤ L) (hL : L ≤ 384) (hJ : J vx vm) (hw : tw E (fun q : Nat => s.heap.size ≤ q) s.heap Zx Zm vx vm H locs) (hl : lv_has ls 4 [(3, .int (nI q)), (2, .ref (Zm.1 30 0)), (1, .ref (Zx.1 0 0)), (0, .ref b)]) (kk : ∀ (vx1 vm1 : Mm) (H1 : Heap) (locs1 : List Loc) (ls1 : Array Slot), J vx1 vm1 → tw E (fun q : Nat => s.heap.size ≤ q) s.heap Zx Zm vx1 vm1 H1 locs1 → lv_has ls1 4 [(3, .int (nI q)), (2, .ref (Zm.1 30 0)), (1, .ref (Zx.1 0 0)), (0, .ref b)] → W p l e room_1 s m #[Value.ref b] below meth c H1 locs1 1000 10000 (lw_Z below #[Value.ref b] s) (F0 m 1421 ls1 [])) : W p l e room_1 s m #[Value.ref b] below meth c H locs 1000 10000 (lw_Z below #[Value.ref b] s) (F0 m 883 ls []) := by
  obtain ⟨hx, hb, hr, hml, hown, hts, hX, hbl, hlocks, hgv⟩ := id C0
  have hown : s.vm.findClass RL = some m.cls := hown
  have hb : c.code = cL_law := hb
  have hts := fun w h => hts w (wsL_law_in w h)
  have hbA : ¬ (fun q : Nat => s.heap.size ≤ q) b := Nat.not_le.mpr hbl
  obtain ⟨r1, vx1, r2, vm1, hoX, hoM, hJ1, hC⟩ := hop vx vm  hJ
  refine lv_aload_n hx hb dL_law_883 rfl (lv_at hl 2 rfl) ?_
  have hsX : g_X7_fewest vx  ≠ none := fun h9 => by rw [show oX_fewest vx  = g_X7_fewest vx  from rfl, h9] at hoX; cases hoX
  refine tw_cX (As := []) (rest := []) (n := 0) ⟨hx, hb, hml, hown, hts⟩ (d_X7_fewest l E Zx vx  hsX) gL_law_X7_fewest rfl (by decide +kernel) ⟨Nat.le_of_ble_eq_true rfl, Nat.le_of_ble_eq_true rfl⟩ hK hw rfl hl.1 rfl (Nat.le_of_ble_eq_true rfl) dL_law_884 rfl rfl ⟨Nat.le_of_ble_eq_true rfl, Nat.le_of_ble_eq_true rfl⟩ (fun rX vX H locs hp hw => ?_)
  have hzX : (some (rX, vX) : Option (Int32 × Mm)) = some (r1, vx1) := by rw [← hoX, show oX_fewest vx  = g_X7_fewest vx  from rfl, hp]
  obtain ⟨e1X, e2X⟩ := Prod.mk.inj (Option.some.inj hzX)
  subst e1X
  rw [e2X] at hw
  refine lv_pop hx hb dL_law_887 rfl ?_
  refine lv_aload_n hx hb dL_law_888 rfl (lv_at hl 1 rfl) ?_
  have hsM : g_X8_fewest vm  ≠ none := fun h9 => by rw [show oM_fewest vm  = g_X8_fewest vm  from rfl, h9] at hoM; cases hoM
  refine tw_cM (As := []) (rest := []) (n := 0) ⟨hx, hb, hml, hown, hts⟩ (d_X8_fewest l E Zm vm  hsM) gL_law_X8_fewest rfl (by decide +kernel) ⟨Nat.le_of_ble_eq_true rfl, Nat.le_of_ble_eq_true rfl⟩ hK hw rfl hl.1 rfl (Nat.le_of_ble_eq_true rfl) dL_law_889 rfl rfl ⟨Nat.le_of_ble_eq_true rfl, Nat.le_of_ble_eq_true rfl⟩ (fun rM vM H locs hp hw => ?_)
  have hzM : (some (rM, vM) : Option (Int32 × Mm)) = some (r2, vm1) := by rw [← hoM, show oM_fewest vm  = g_X8_fewest vm  from rfl, hp]
  obtain ⟨e1M, e2M⟩ := Prod.mk.inj (Option.some.inj hzM)
  subst e1M
  rw [e2M] at hw
  refine lv_pop hx hb dL_law_892 rfl ?_
  refine lv_goto (tgt := 1421) hx hb dL_law_893 (by decide) ?_
  exact kk _ _ _ _ _ hJ1 hw hl
set_option maxHeartbeats 4000000 in
set_option maxRecDepth 100000 in
theorem lk_24 {p : Program} {l : Launch} {e : Env} {s : State} {m : MethodId} {below : List Frame} {meth : Method} {c : Code} {b L : Nat} {xs : Nat → Int32} {E : kq_T} {H : Heap} {locs : List Loc} {ls : Array Slot} {Zx Zm : km_Z} {vx vm : Mm} {q : Nat} {J : Mm → Mm → Prop} {C : Prop} (hop : jop_march J C) (C0 : lw_At p s m meth c b L xs) (hK : kq_K E (fun q : Nat => s.heap.size ≤ q) s) (hq : q + 6 ≤ L) (hL : L ≤ 384) (hJ : J vx vm) (hw : tw E (fun q : Nat => s.heap.size ≤ q) s.heap Zx Zm vx vm H locs) (hl : lv_has ls 4 [(3, .int (nI q)), (2, .ref (Zm.1 30 0)), (1, .ref (Zx.1 0 0)), (0, .ref b)]) (kk : ∀ (vx1 vm1 : Mm) (H1 : Heap) (locs1 : List Loc) (ls1 : Array Slot), J vx1 vm1 → tw E (fun q : Nat => s.heap.size ≤ q) s.heap Zx Zm vx1 vm1 H1 locs1 → lv_has ls1 4 [(3, .int (nI q)), (2, .ref (Zm.1 30 0)), (1, .ref (Zx.1 0 0)), (0, .ref b)] → W p l e room_1 s m #[Value.ref b] below meth c H1 locs1 1000 10000 (lw_Z below #[Value.ref b] s) (F0 m 1421 ls1 [])) : W p l e room_1 s m #[Value.ref b] below meth c H locs 1000 10000 (lw_Z below #[Value.ref b] s) (F0 m 896 ls []) := by
  obtain ⟨hx, hb, hr, hml, hown, hts, hX, hbl, hlocks, hgv⟩ := id C0
  have hown : s.vm.findClass RL = some m.cls := hown
  have hb : c.code = cL_law := hb
  have hts := fun w h => hts w (wsL_law_in w h)
  have hbA : ¬ (fun q : Nat => s.heap.size ≤ q) b := Nat.not_le.mpr hbl
  obtain ⟨r1, vx1, r2, vm1, hoX, hoM, hJ1, hC⟩ := hop vx vm (xs (Int32.toNatClampNeg (nI (q + 1)))) (xs (Int32.toNatClampNeg (nI (q + 2)))) (xs (Int32.toNatClampNeg (nI (q + 3)))) (xs (Int32.toNatClampNeg (nI (q + 4)))) hJ
  refine lv_aload_n hx hb dL_law_896 rfl (lv_at hl 2 rfl) ?_
  refine lv_aload_n hx hb dL_law_897 rfl (lv_at hl 3 rfl) ?_
  refine lv_iload_n hx hb dL_law_898 rfl (lv_at hl 0 rfl) ?_
  refine lv_iconst (v := 1) hx hb dL_law_899 (by decide) ?_
  refine lv_iadd hx hb dL_law_900 ?_
  refine lv_topi (fun z0 ez0 => ?_)
  have ez0 : z0 = nI (q + 1) := ez0.trans (nI_add q 1)
  subst ez0
  refine va_sld hx hb hX hbl hbA hw.S (vp_in_nI (show q + 1 < L by omega) (by omega)) dL_law_901 ?_
  refine lv_aload_n hx hb dL_law_902 rfl (lv_at hl 3 rfl) ?_
  refine lv_iload_n hx hb dL_law_903 rfl (lv_at hl 0 rfl) ?_
  refine lv_iconst (v := 2) hx hb dL_law_904 (by decide) ?_
  refine lv_iadd hx hb dL_law_905 ?_
  refine lv_topi (fun z1 ez1 => ?_)
  have ez1 : z1 = nI (q + 2) := ez1.trans (nI_add q 2)
  subst ez1
  refine va_sld hx hb hX hbl hbA hw.S (vp_in_nI (show q + 2 < L by omega) (by omega)) dL_law_906 ?_
  refine lv_aload_n hx hb dL_law_907 rfl (lv_at hl 3 rfl) ?_
  refine lv_iload_n hx hb dL_law_908 rfl (lv_at hl 0 rfl) ?_
  refine lv_iconst (v := 3) hx hb dL_law_909 (by decide) ?_
  refine lv_iadd hx hb dL_law_910 ?_
  refine lv_topi (fun z2 ez2 => ?_)
  have ez2 : z2 = nI (q + 3) := ez2.trans (nI_add q 3)
  subst ez2
  refine va_sld hx hb hX hbl hbA hw.S (vp_in_nI (show q + 3 < L by omega) (by omega)) dL_law_911 ?_
  refine lv_aload_n hx hb dL_law_912 rfl (lv_at hl 3 rfl) ?_
  refine lv_iload_n hx hb dL_law_913 rfl (lv_at hl 0 rfl) ?_
  refine lv_iconst (v := 4) hx hb dL_law_914 (by decide) ?_
  refine lv_iadd hx hb dL_law_915 ?_
  refine lv_topi (fun z3 ez3 => ?_)
  have ez3 : z3 = nI (q + 4) := ez3.trans (nI_add q 4)
  subst ez3
  refine va_sld hx hb hX hbl hbA hw.S (vp_in_nI (show q + 4 < L by omega) (by omega)) dL_law_916 ?_
  have hsX : g_X7_march vx (xs (Int32.toNatClampNeg (nI (q + 1)))) (xs (Int32.toNatClampNeg (nI (q + 2)))) (xs (Int32.toNatClampNeg (nI (q + 3)))) (xs (Int32.toNatClampNeg (nI (q + 4)))) ≠ none := fun h9 => by rw [show oX_march vx (xs (Int32.toNatClampNeg (nI (q + 1)))) (xs (Int32.toNatClampNeg (nI (q + 2)))) (xs (Int32.toNatClampNeg (nI (q + 3)))) (xs (Int32.toNatClampNeg (nI (q + 4)))) = g_X7_march vx (xs (Int32.toNatClampNeg (nI (q + 1)))) (xs (Int32.toNatClampNeg (nI (q + 2)))) (xs (Int32.toNatClampNeg (nI (q + 3)))) (xs (Int32.toNatClampNeg (nI (q + 4)))) from rfl, h9] at hoX; cases hoX
  refine tw_cX (As := [.int (xs (Int32.toNatClampNeg (nI (q + 1)))), .int (xs (Int32.toNatClampNeg (nI (q + 2)))), .int (xs (Int32.toNatClampNeg (nI (q + 3)))), .int (xs (Int32.toNatClampNeg (nI (q + 4))))]) (rest := []) (n := 4) ⟨hx, hb, hml, hown, hts⟩ (d_X7_march l E Zx vx (xs (Int32.toNatClampNeg (nI (q + 1)))) (xs (Int32.toNatClampNeg (nI (q + 2)))) (xs (Int32.toNatClampNeg (nI (q + 3)))) (xs (Int32.toNatClampNeg (nI (q + 4)))) hsX) gL_law_X7_march rfl (by decide +kernel) ⟨Nat.le_of_ble_eq_true rfl, Nat.le_of_ble_eq_true rfl⟩ hK hw rfl hl.1 rfl (Nat.le_of_ble_eq_true rfl) dL_law_917 rfl rfl ⟨Nat.le_of_ble_eq_true rfl, Nat.le_of_ble_eq_true rfl⟩ (fun rX vX H locs hp hw => ?_)
  have hzX : (some (rX, vX) : Option (Int32 × Mm)) = some (r1, vx1) := by rw [← hoX, show oX_march vx (xs (Int32.toNatClampNeg (nI (q + 1)))) (xs (Int32.toNatClampNeg (nI (q + 2)))) (xs (Int32.toNatClampNeg (nI (q + 3)))) (xs (Int32.toNatClampNeg (nI (q + 4)))) = g_X7_march vx (xs (Int32.toNatClampNeg (nI (q + 1)))) (xs (Int32.toNatClampNeg (nI (q + 2)))) (xs (Int32.toNatClampNeg (nI (q + 3)))) (xs (Int32.toNatClampNeg (nI (q + 4)))) from rfl, hp]
  obtain ⟨e1X, e2X⟩ := Prod.mk.inj (Option.some.inj hzX)
  subst e1X
  rw [e2X] at hw
  refine lv_pop hx hb dL_law_920 rfl ?_
  refine lv_aload_n hx hb dL_law_921 rfl (lv_at hl 1 rfl) ?_
  refine lv_aload_n hx hb dL_law_922 rfl (lv_at hl 3 rfl) ?_
  refine lv_iload_n hx hb dL_law_923 rfl (lv_at hl 0 rfl) ?_
  refine lv_iconst (v := 1) hx hb dL_law_924 (by decide) ?_
  refine lv_iadd hx hb dL_law_925 ?_
  refine lv_topi (fun z4 ez4 => ?_)
  have ez4 : z4 = nI (q + 1) := ez4.trans (nI_add q 1)
  subst ez4
  refine va_sld hx hb hX hbl hbA hw.S (vp_in_nI (show q + 1 < L by omega) (by omega)) dL_law_926 ?_
  refine lv_aload_n hx hb dL_law_927 rfl (lv_at hl 3 rfl) ?_
  refine lv_iload_n hx hb dL_law_928 rfl (lv_at hl 0 rfl) ?_
  refine lv_iconst (v := 2) hx hb dL_law_929 (by decide) ?_
  refine lv_iadd hx hb dL_law_930 ?_
  refine lv_topi (fun z5 ez5 => ?_)
  have ez5 : z5 = nI (q + 2) := ez5.trans (nI_add q 2)
  subst ez5
  refine va_sld hx hb hX hbl hbA hw.S (vp_in_nI (show q + 2 < L by omega) (by omega)) dL_law_931 ?_
  refine lv_aload_n hx hb dL_law_932 rfl (lv_at hl 3 rfl) ?_
  refine lv_iload_n hx hb dL_law_933 rfl (lv_at hl 0 rfl) ?_
  refine lv_iconst (v := 3) hx hb dL_law_934 (by decide) ?_
  refine lv_iadd hx hb dL_law_935 ?_
  refine lv_topi (fun z6 ez6 => ?_)
  have ez6 : z6 = nI (q + 3) := ez6.trans (nI_add q 3)
  subst ez6
  refine va_sld hx hb hX hbl hbA hw.S (vp_in_nI (show q + 3 < L by omega) (by omega)) dL_law_936 ?_
  refine lv_aload_n hx hb dL_law_937 rfl (lv_at hl 3 rfl) ?_
  refine lv_iload_n hx hb dL_law_938 rfl (lv_at hl 0 rfl) ?_
  refine lv_iconst (v := 4) hx hb dL_law_939 (by decide) ?_
  refine lv_iadd hx hb dL_law_940 ?_
  refine lv_topi (fun z7 ez7 => ?_)
  have ez7 : z7 = nI (q + 4) := ez7.trans (nI_add q 4)
  subst ez7
  refine va_sld hx hb hX hbl hbA hw.S (vp_in_nI (show q + 4 < L by omega) (by omega)) dL_law_941 ?_
  have hsM : g_X8_march vm (xs (Int32.toNatClampNeg (nI (q + 1)))) (xs (Int32.toNatClampNeg (nI (q + 2)))) (xs (Int32.toNatClampNeg (nI (q + 3)))) (xs (Int32.toNatClampNeg (nI (q + 4)))) ≠ none := fun h9 => by rw [show oM_march vm (xs (Int32.toNatClampNeg (nI (q + 1)))) (xs (Int32.toNatClampNeg (nI (q + 2)))) (xs (Int32.toNatClampNeg (nI (q + 3)))) (xs (Int32.toNatClampNeg (nI (q + 4)))) = g_X8_march vm (xs (Int32.toNatClampNeg (nI (q + 1)))) (xs (Int32.toNatClampNeg (nI (q + 2)))) (xs (Int32.toNatClampNeg (nI (q + 3)))) (xs (Int32.toNatClampNeg (nI (q + 4)))) from rfl, h9] at hoM; cases hoM
  refine tw_cM (As := [.int (xs (Int32.toNatClampNeg (nI (q + 1)))), .int (xs (Int32.toNatClampNeg (nI (q + 2)))), .int (xs (Int32.toNatClampNeg (nI (q + 3)))), .int (xs (Int32.toNatClampNeg (nI (q + 4))))]) (rest := []) (n := 4) ⟨hx, hb, hml, hown, hts⟩ (d_X8_march l E Zm vm (xs (Int32.toNatClampNeg (nI (q + 1)))) (xs (Int32.toNatClampNeg (nI (q + 2)))) (xs (Int32.toNatClampNeg (nI (q + 3)))) (xs (Int32.toNatClampNeg (nI (q + 4)))) hsM) gL_law_X8_march rfl (by decide +kernel) ⟨Nat.le_of_ble_eq_true rfl, Nat.le_of_ble_eq_true rfl⟩ hK hw rfl hl.1 rfl (Nat.le_of_ble_eq_true rfl) dL_law_942 rfl rfl ⟨Nat.le_of_ble_eq_true rfl, Nat.le_of_ble_eq_true rfl⟩ (fun rM vM H locs hp hw => ?_)
  have hzM : (some (rM, vM) : Option (Int32 × Mm)) = some (r2, vm1) := by rw [← hoM, show oM_march vm (xs (Int32.toNatClampNeg (nI (q + 1)))) (xs (Int32.toNatClampNeg (nI (q + 2)))) (xs (Int32.toNatClampNeg (nI (q + 3)))) (xs (Int32.toNatClampNeg (nI (q + 4)))) = g_X8_march vm (xs (Int32.toNatClampNeg (nI (q + 1)))) (xs (Int32.toNatClampNeg (nI (q + 2)))) (xs (Int32.toNatClampNeg (nI (q + 3)))) (xs (Int32.toNatClampNeg (nI (q + 4)))) from rfl, hp]
  obtain ⟨e1M, e2M⟩ := Prod.mk.inj (Option.some.inj hzM)
  subst e1M
  rw [e2M] at hw
  refine lv_pop hx hb dL_law_945 rfl ?_
  refine lv_goto (tgt := 1421) hx hb dL_law_946 (by decide) ?_
  exact kk _ _ _ _ _ hJ1 hw hl
set_option maxHeartbeats 4000000 in
set_option maxRecDepth 100000 in
theorem lk_25 {p : Program} {l : Launch} {e : Env} {s : State} {m : MethodId} {below : List Frame} {meth : Method} {c : Code} {b L : Nat} {xs : Nat → Int32} {E : kq_T} {H : Heap} {locs : List Loc} {ls : Array Slot} {Zx Zm : km_Z} {vx vm : Mm} {q : Nat} {J : Mm → Mm → Prop} {C : Prop} (hop : jop_cheap J C) (C0 : lw_At p s m meth c b L xs) (hK : kq_K E (fun q : Nat => s.heap.size ≤ q) s) (hq : q + 6 ≤ L) (hL : L ≤ 384) (hJ : J vx vm) (hw : tw E (fun q : Nat => s.heap.size ≤ q) s.heap Zx Zm vx vm H locs) (hl : lv_has ls 4 [(3, .int (nI q)), (2, .ref (Zm.1 30 0)), (1, .ref (Zx.1 0 0)), (0, .ref b)]) (kk : ∀ (vx1 vm1 : Mm) (H1 : Heap) (locs1 : List Loc) (ls1 : Array Slot), J vx1 vm1 → tw E (fun q : Nat => s.heap.size ≤ q) s.heap Zx Zm vx1 vm1 H1 locs1 → lv_has ls1 4 [(3, .int (nI q)), (2, .ref (Zm.1 30 0)), (1, .ref (Zx.1 0 0)), (0, .ref b)] → W p l e room_1 s m #[Value.ref b] below meth c H1 locs1 1000 10000 (lw_Z below #[Value.ref b] s) (F0 m 1421 ls1 [])) : W p l e room_1 s m #[Value.ref b] below meth c H locs 1000 10000 (lw_Z below #[Value.ref b] s) (F0 m 949 ls []) := by
  obtain ⟨hx, hb, hr, hml, hown, hts, hX, hbl, hlocks, hgv⟩ := id C0
  have hown : s.vm.findClass RL = some m.cls := hown
  have hb : c.code = cL_law := hb
  have hts := fun w h => hts w (wsL_law_in w h)
  have hbA : ¬ (fun q : Nat => s.heap.size ≤ q) b := Nat.not_le.mpr hbl
  obtain ⟨r1, vx1, r2, vm1, hoX, hoM, hJ1, hC⟩ := hop vx vm (xs (Int32.toNatClampNeg (nI (q + 1)))) (xs (Int32.toNatClampNeg (nI (q + 2)))) (xs (Int32.toNatClampNeg (nI (q + 3)))) hJ
  refine lv_aload_n hx hb dL_law_949 rfl (lv_at hl 2 rfl) ?_
  refine lv_aload_n hx hb dL_law_950 rfl (lv_at hl 3 rfl) ?_
  refine lv_iload_n hx hb dL_law_951 rfl (lv_at hl 0 rfl) ?_
  refine lv_iconst (v := 1) hx hb dL_law_952 (by decide) ?_
  refine lv_iadd hx hb dL_law_953 ?_
  refine lv_topi (fun z0 ez0 => ?_)
  have ez0 : z0 = nI (q + 1) := ez0.trans (nI_add q 1)
  subst ez0
  refine va_sld hx hb hX hbl hbA hw.S (vp_in_nI (show q + 1 < L by omega) (by omega)) dL_law_954 ?_
  refine lv_aload_n hx hb dL_law_955 rfl (lv_at hl 3 rfl) ?_
  refine lv_iload_n hx hb dL_law_956 rfl (lv_at hl 0 rfl) ?_
  refine lv_iconst (v := 2) hx hb dL_law_957 (by decide) ?_
  refine lv_iadd hx hb dL_law_958 ?_
  refine lv_topi (fun z1 ez1 => ?_)
  have ez1 : z1 = nI (q + 2) := ez1.trans (nI_add q 2)
  subst ez1
  refine va_sld hx hb hX hbl hbA hw.S (vp_in_nI (show q + 2 < L by omega) (by omega)) dL_law_959 ?_
  refine lv_aload_n hx hb dL_law_960 rfl (lv_at hl 3 rfl) ?_
  refine lv_iload_n hx hb dL_law_961 rfl (lv_at hl 0 rfl) ?_
  refine lv_iconst (v := 3) hx hb dL_law_962 (by decide) ?_
  refine lv_iadd hx hb dL_law_963 ?_
  refine lv_topi (fun z2 ez2 => ?_)
  have ez2 : z2 = nI (q + 3) := ez2.trans (nI_add q 3)
  subst ez2
  refine va_sld hx hb hX hbl hbA hw.S (vp_in_nI (show q + 3 < L by omega) (by omega)) dL_law_964 ?_
  have hsX : g_X7_cheap vx (xs (Int32.toNatClampNeg (nI (q + 1)))) (xs (Int32.toNatClampNeg (nI (q + 2)))) (xs (Int32.toNatClampNeg (nI (q + 3)))) ≠ none := fun h9 => by rw [show oX_cheap vx (xs (Int32.toNatClampNeg (nI (q + 1)))) (xs (Int32.toNatClampNeg (nI (q + 2)))) (xs (Int32.toNatClampNeg (nI (q + 3)))) = (g_X7_cheap vx (xs (Int32.toNatClampNeg (nI (q + 1)))) (xs (Int32.toNatClampNeg (nI (q + 2)))) (xs (Int32.toNatClampNeg (nI (q + 3))))).map (fun r => (r, vx)) from rfl, h9] at hoX; cases hoX
  refine tw_cX (As := [.int (xs (Int32.toNatClampNeg (nI (q + 1)))), .int (xs (Int32.toNatClampNeg (nI (q + 2)))), .int (xs (Int32.toNatClampNeg (nI (q + 3))))]) (rest := []) (n := 3) ⟨hx, hb, hml, hown, hts⟩ (d_X7_cheap l E Zx vx (xs (Int32.toNatClampNeg (nI (q + 1)))) (xs (Int32.toNatClampNeg (nI (q + 2)))) (xs (Int32.toNatClampNeg (nI (q + 3)))) hsX) gL_law_X7_cheap rfl (by decide +kernel) ⟨Nat.le_of_ble_eq_true rfl, Nat.le_of_ble_eq_true rfl⟩ hK hw rfl hl.1 rfl (Nat.le_of_ble_eq_true rfl) dL_law_965 rfl rfl ⟨Nat.le_of_ble_eq_true rfl, Nat.le_of_ble_eq_true rfl⟩ (fun rX vX H locs hp hw => ?_)
  obtain ⟨hp, rfl⟩ := hp
  have hzX : (some (rX, vx) : Option (Int32 × Mm)) = some (r1, vx1) := by rw [← hoX, show oX_cheap vx (xs (Int32.toNatClampNeg (nI (q + 1)))) (xs (Int32.toNatClampNeg (nI (q + 2)))) (xs (Int32.toNatClampNeg (nI (q + 3)))) = (g_X7_cheap vx (xs (Int32.toNatClampNeg (nI (q + 1)))) (xs (Int32.toNatClampNeg (nI (q + 2)))) (xs (Int32.toNatClampNeg (nI (q + 3))))).map (fun r => (r, vx)) from rfl, hp]; rfl
  obtain ⟨e1X, e2X⟩ := Prod.mk.inj (Option.some.inj hzX)
  subst e1X
  rw [← e2X] at hJ1
  refine lv_pop hx hb dL_law_968 rfl ?_
  refine lv_aload_n hx hb dL_law_969 rfl (lv_at hl 1 rfl) ?_
  refine lv_aload_n hx hb dL_law_970 rfl (lv_at hl 3 rfl) ?_
  refine lv_iload_n hx hb dL_law_971 rfl (lv_at hl 0 rfl) ?_
  refine lv_iconst (v := 1) hx hb dL_law_972 (by decide) ?_
  refine lv_iadd hx hb dL_law_973 ?_
  refine lv_topi (fun z3 ez3 => ?_)
  have ez3 : z3 = nI (q + 1) := ez3.trans (nI_add q 1)
  subst ez3
  refine va_sld hx hb hX hbl hbA hw.S (vp_in_nI (show q + 1 < L by omega) (by omega)) dL_law_974 ?_
  refine lv_aload_n hx hb dL_law_975 rfl (lv_at hl 3 rfl) ?_
  refine lv_iload_n hx hb dL_law_976 rfl (lv_at hl 0 rfl) ?_
  refine lv_iconst (v := 2) hx hb dL_law_977 (by decide) ?_
  refine lv_iadd hx hb dL_law_978 ?_
  refine lv_topi (fun z4 ez4 => ?_)
  have ez4 : z4 = nI (q + 2) := ez4.trans (nI_add q 2)
  subst ez4
  refine va_sld hx hb hX hbl hbA hw.S (vp_in_nI (show q + 2 < L by omega) (by omega)) dL_law_979 ?_
  refine lv_aload_n hx hb dL_law_980 rfl (lv_at hl 3 rfl) ?_
  refine lv_iload_n hx hb dL_law_981 rfl (lv_at hl 0 rfl) ?_
  refine lv_iconst (v := 3) hx hb dL_law_982 (by decide) ?_
  refine lv_iadd hx hb dL_law_983 ?_
  refine lv_topi (fun z5 ez5 => ?_)
  have ez5 : z5 = nI (q + 3) := ez5.trans (nI_add q 3)
  subst ez5
  refine va_sld hx hb hX hbl hbA hw.S (vp_in_nI (show q + 3 < L by omega) (by omega)) dL_law_984 ?_
  have hsM : g_X8_cheap vm (xs (Int32.toNatClampNeg (nI (q + 1)))) (xs (Int32.toNatClampNeg (nI (q + 2)))) (xs (Int32.toNatClampNeg (nI (q + 3)))) ≠ none := fun h9 => by rw [show oM_cheap vm (xs (Int32.toNatClampNeg (nI (q + 1)))) (xs (Int32.toNatClampNeg (nI (q + 2)))) (xs (Int32.toNatClampNeg (nI (q + 3)))) = (g_X8_cheap vm (xs (Int32.toNatClampNeg (nI (q + 1)))) (xs (Int32.toNatClampNeg (nI (q + 2)))) (xs (Int32.toNatClampNeg (nI (q + 3))))).map (fun r => (r, vm)) from rfl, h9] at hoM; cases hoM
  refine tw_cM (As := [.int (xs (Int32.toNatClampNeg (nI (q + 1)))), .int (xs (Int32.toNatClampNeg (nI (q + 2)))), .int (xs (Int32.toNatClampNeg (nI (q + 3))))]) (rest := []) (n := 3) ⟨hx, hb, hml, hown, hts⟩ (d_X8_cheap l E Zm vm (xs (Int32.toNatClampNeg (nI (q + 1)))) (xs (Int32.toNatClampNeg (nI (q + 2)))) (xs (Int32.toNatClampNeg (nI (q + 3)))) hsM) gL_law_X8_cheap rfl (by decide +kernel) ⟨Nat.le_of_ble_eq_true rfl, Nat.le_of_ble_eq_true rfl⟩ hK hw rfl hl.1 rfl (Nat.le_of_ble_eq_true rfl) dL_law_985 rfl rfl ⟨Nat.le_of_ble_eq_true rfl, Nat.le_of_ble_eq_true rfl⟩ (fun rM vM H locs hp hw => ?_)
  obtain ⟨hp, rfl⟩ := hp
  have hzM : (some (rM, vm) : Option (Int32 × Mm)) = some (r2, vm1) := by rw [← hoM, show oM_cheap vm (xs (Int32.toNatClampNeg (nI (q + 1)))) (xs (Int32.toNatClampNeg (nI (q + 2)))) (xs (Int32.toNatClampNeg (nI (q + 3)))) = (g_X8_cheap vm (xs (Int32.toNatClampNeg (nI (q + 1)))) (xs (Int32.toNatClampNeg (nI (q + 2)))) (xs (Int32.toNatClampNeg (nI (q + 3))))).map (fun r => (r, vm)) from rfl, hp]; rfl
  obtain ⟨e1M, e2M⟩ := Prod.mk.inj (Option.some.inj hzM)
  subst e1M
  rw [← e2M] at hJ1
  refine lv_pop hx hb dL_law_988 rfl ?_
  refine lv_goto (tgt := 1421) hx hb dL_law_989 (by decide) ?_
  exact kk _ _ _ _ _ hJ1 hw hl
set_option maxHeartbeats 4000000 in
set_option maxRecDepth 100000 in
theorem lk_26 {p : Program} {l : Launch} {e : Env} {s : State} {m : MethodId} {below : List Frame} {meth : Method} {c : Code} {b L : Nat} {xs : Nat → Int32} {E : kq_T} {H : Heap} {locs : List Loc} {ls : Array Slot} {Zx Zm : km_Z} {vx vm : Mm} {q : Nat} {J : Mm → Mm → Prop} {C : Prop} (hop : jop_near J C) (C0 : lw_At p s m meth c b L xs) (hK : kq_K E (fun q : Nat => s.heap.size ≤ q) s) (hq : q + 6 ≤ L) (hL : L ≤ 384) (hJ : J vx vm) (hw : tw E (fun q : Nat => s.heap.size ≤ q) s.heap Zx Zm vx vm H locs) (hl : lv_has ls 4 [(3, .int (nI q)), (2, .ref (Zm.1 30 0)), (1, .ref (Zx.1 0 0)), (0, .ref b)]) (kk : ∀ (vx1 vm1 : Mm) (H1 : Heap) (locs1 : List Loc) (ls1 : Array Slot), J vx1 vm1 → tw E (fun q : Nat => s.heap.size ≤ q) s.heap Zx Zm vx1 vm1 H1 locs1 → lv_has ls1 4 [(3, .int (nI q)), (2, .ref (Zm.1 30 0)), (1, .ref (Zx.1 0 0)), (0, .ref b)] → W p l e room_1 s m #[Value.ref b] below meth c H1 locs1 1000 10000 (lw_Z below #[Value.ref b] s) (F0 m 1421 ls1 [])) : W p l e room_1 s m #[Value.ref b] below meth c H locs 1000 10000 (lw_Z below #[Value.ref b] s) (F0 m 992 ls []) := by
  obtain ⟨hx, hb, hr, hml, hown, hts, hX, hbl, hlocks, hgv⟩ := id C0
  have hown : s.vm.findClass RL = some m.cls := hown
  have hb : c.code = cL_law := hb
  have hts := fun w h => hts w (wsL_law_in w h)
  have hbA : ¬ (fun q : Nat => s.heap.size ≤ q) b := Nat.not_le.mpr hbl
  obtain ⟨r1, vx1, r2, vm1, hoX, hoM, hJ1, hC⟩ := hop vx vm (xs (Int32.toNatClampNeg (nI (q + 1)))) (xs (Int32.toNatClampNeg (nI (q + 2)))) hJ
  refine lv_aload_n hx hb dL_law_992 rfl (lv_at hl 2 rfl) ?_
  refine lv_aload_n hx hb dL_law_993 rfl (lv_at hl 3 rfl) ?_
  refine lv_iload_n hx hb dL_law_994 rfl (lv_at hl 0 rfl) ?_
  refine lv_iconst (v := 1) hx hb dL_law_995 (by decide) ?_
  refine lv_iadd hx hb dL_law_996 ?_
  refine lv_topi (fun z0 ez0 => ?_)
  have ez0 : z0 = nI (q + 1) := ez0.trans (nI_add q 1)
  subst ez0
  refine va_sld hx hb hX hbl hbA hw.S (vp_in_nI (show q + 1 < L by omega) (by omega)) dL_law_997 ?_
  refine lv_aload_n hx hb dL_law_998 rfl (lv_at hl 3 rfl) ?_
  refine lv_iload_n hx hb dL_law_999 rfl (lv_at hl 0 rfl) ?_
  refine lv_iconst (v := 2) hx hb dL_law_1000 (by decide) ?_
  refine lv_iadd hx hb dL_law_1001 ?_
  refine lv_topi (fun z1 ez1 => ?_)
  have ez1 : z1 = nI (q + 2) := ez1.trans (nI_add q 2)
  subst ez1
  refine va_sld hx hb hX hbl hbA hw.S (vp_in_nI (show q + 2 < L by omega) (by omega)) dL_law_1002 ?_
  have hsX : g_X7_near vx (xs (Int32.toNatClampNeg (nI (q + 1)))) (xs (Int32.toNatClampNeg (nI (q + 2)))) ≠ none := fun h9 => by rw [show oX_near vx (xs (Int32.toNatClampNeg (nI (q + 1)))) (xs (Int32.toNatClampNeg (nI (q + 2)))) = (g_X7_near vx (xs (Int32.toNatClampNeg (nI (q + 1)))) (xs (Int32.toNatClampNeg (nI (q + 2))))).map (fun r => (r, vx)) from rfl, h9] at hoX; cases hoX
  refine tw_cX (As := [.int (xs (Int32.toNatClampNeg (nI (q + 1)))), .int (xs (Int32.toNatClampNeg (nI (q + 2))))]) (rest := []) (n := 2) ⟨hx, hb, hml, hown, hts⟩ (d_X7_near l E Zx vx (xs (Int32.toNatClampNeg (nI (q + 1)))) (xs (Int32.toNatClampNeg (nI (q + 2)))) hsX) gL_law_X7_near rfl (by decide +kernel) ⟨Nat.le_of_ble_eq_true rfl, Nat.le_of_ble_eq_true rfl⟩ hK hw rfl hl.1 rfl (Nat.le_of_ble_eq_true rfl) dL_law_1003 rfl rfl ⟨Nat.le_of_ble_eq_true rfl, Nat.le_of_ble_eq_true rfl⟩ (fun rX vX H locs hp hw => ?_)
  obtain ⟨hp, rfl⟩ := hp
  have hzX : (some (rX, vx) : Option (Int32 × Mm)) = some (r1, vx1) := by rw [← hoX, show oX_near vx (xs (Int32.toNatClampNeg (nI (q + 1)))) (xs (Int32.toNatClampNeg (nI (q + 2)))) = (g_X7_near vx (xs (Int32.toNatClampNeg (nI (q + 1)))) (xs (Int32.toNatClampNeg (nI (q + 2))))).map (fun r => (r, vx)) from rfl, hp]; rfl
  obtain ⟨e1X, e2X⟩ := Prod.mk.inj (Option.some.inj hzX)
  subst e1X
  rw [← e2X] at hJ1
  refine lv_pop hx hb dL_law_1006 rfl ?_
  refine lv_aload_n hx hb dL_law_1007 rfl (lv_at hl 1 rfl) ?_
  refine lv_aload_n hx hb dL_law_1008 rfl (lv_at hl 3 rfl) ?_
  refine lv_iload_n hx hb dL_law_1009 rfl (lv_at hl 0 rfl) ?_
  refine lv_iconst (v := 1) hx hb dL_law_1010 (by decide) ?_
  refine lv_iadd hx hb dL_law_1011 ?_
  refine lv_topi (fun z2 ez2 => ?_)
  have ez2 : z2 = nI (q + 1) := ez2.trans (nI_add q 1)
  subst ez2
  refine va_sld hx hb hX hbl hbA hw.S (vp_in_nI (show q + 1 < L by omega) (by omega)) dL_law_1012 ?_
  refine lv_aload_n hx hb dL_law_1013 rfl (lv_at hl 3 rfl) ?_
  refine lv_iload_n hx hb dL_law_1014 rfl (lv_at hl 0 rfl) ?_
  refine lv_iconst (v := 2) hx hb dL_law_1015 (by decide) ?_
  refine lv_iadd hx hb dL_law_1016 ?_
  refine lv_topi (fun z3 ez3 => ?_)
  have ez3 : z3 = nI (q + 2) := ez3.trans (nI_add q 2)
  subst ez3
  refine va_sld hx hb hX hbl hbA hw.S (vp_in_nI (show q + 2 < L by omega) (by omega)) dL_law_1017 ?_
  have hsM : g_X8_near vm (xs (Int32.toNatClampNeg (nI (q + 1)))) (xs (Int32.toNatClampNeg (nI (q + 2)))) ≠ none := fun h9 => by rw [show oM_near vm (xs (Int32.toNatClampNeg (nI (q + 1)))) (xs (Int32.toNatClampNeg (nI (q + 2)))) = (g_X8_near vm (xs (Int32.toNatClampNeg (nI (q + 1)))) (xs (Int32.toNatClampNeg (nI (q + 2))))).map (fun r => (r, vm)) from rfl, h9] at hoM; cases hoM
  refine tw_cM (As := [.int (xs (Int32.toNatClampNeg (nI (q + 1)))), .int (xs (Int32.toNatClampNeg (nI (q + 2))))]) (rest := []) (n := 2) ⟨hx, hb, hml, hown, hts⟩ (d_X8_near l E Zm vm (xs (Int32.toNatClampNeg (nI (q + 1)))) (xs (Int32.toNatClampNeg (nI (q + 2)))) hsM) gL_law_X8_near rfl (by decide +kernel) ⟨Nat.le_of_ble_eq_true rfl, Nat.le_of_ble_eq_true rfl⟩ hK hw rfl hl.1 rfl (Nat.le_of_ble_eq_true rfl) dL_law_1018 rfl rfl ⟨Nat.le_of_ble_eq_true rfl, Nat.le_of_ble_eq_true rfl⟩ (fun rM vM H locs hp hw => ?_)
  obtain ⟨hp, rfl⟩ := hp
  have hzM : (some (rM, vm) : Option (Int32 × Mm)) = some (r2, vm1) := by rw [← hoM, show oM_near vm (xs (Int32.toNatClampNeg (nI (q + 1)))) (xs (Int32.toNatClampNeg (nI (q + 2)))) = (g_X8_near vm (xs (Int32.toNatClampNeg (nI (q + 1)))) (xs (Int32.toNatClampNeg (nI (q + 2))))).map (fun r => (r, vm)) from rfl, hp]; rfl
  obtain ⟨e1M, e2M⟩ := Prod.mk.inj (Option.some.inj hzM)
  subst e1M
  rw [← e2M] at hJ1
  refine lv_pop hx hb dL_law_1021 rfl ?_
  refine lv_goto (tgt := 1421) hx hb dL_law_1022 (by decide) ?_
  exact kk _ _ _ _ _ hJ1 hw hl
set_option maxHeartbeats 4000000 in
set_option maxRecDepth 100000 in
theorem lk_27 {p : Program} {l : Launch} {e : Env} {s : State} {m : MethodId} {below : List Frame} {meth : Method} {c : Code} {b L : Nat} {xs : Nat → Int32} {E : kq_T} {H : Heap} {locs : List Loc} {ls : Array Slot} {Zx Zm : km_Z} {vx vm : Mm} {q : Nat} {J : Mm → Mm → Prop} {C : Prop} (hop : jop_rules J C) (C0 : lw_At p s m meth c b L xs) (hK : kq_K E (fun q : Nat => s.heap.size ≤ q) s) (hq : q + 6 ≤ L) (hL : L ≤ 384) (hJ : J vx vm) (hw : tw E (fun q : Nat => s.heap.size ≤ q) s.heap Zx Zm vx vm H locs) (hl : lv_has ls 4 [(3, .int (nI q)), (2, .ref (Zm.1 30 0)), (1, .ref (Zx.1 0 0)), (0, .ref b)]) (kk : ∀ (vx1 vm1 : Mm) (H1 : Heap) (locs1 : List Loc) (ls1 : Array Slot), J vx1 vm1 → tw E (fun q : Nat => s.heap.size ≤ q) s.heap Zx Zm vx1 vm1 H1 locs1 → lv_has ls1 4 [(3, .int (nI q)), (2, .ref (Zm.1 30 0)), (1, .ref (Zx.1 0 0)), (0, .ref b)] → W p l e room_1 s m #[Value.ref b] below meth c H1 locs1 1000 10000 (lw_Z below #[Value.ref b] s) (F0 m 1421 ls1 [])) : W p l e room_1 s m #[Value.ref b] below meth c H locs 1000 10000 (lw_Z below #[Value.ref b] s) (F0 m 1025 ls []) := by
  obtain ⟨hx, hb, hr, hml, hown, hts, hX, hbl, hlocks, hgv⟩ := id C0
  have hown : s.vm.findClass RL = some m.cls := hown
  have hb : c.code = cL_law := hb
  have hts := fun w h => hts w (wsL_law_in w h)
  have hbA : ¬ (fun q : Nat => s.heap.size ≤ q) b := Nat.not_le.mpr hbl
  obtain ⟨r1, vx1, r2, vm1, hoX, hoM, hJ1, hC⟩ := hop vx vm (xs (Int32.toNatClampNeg (nI (q + 1)))) (xs (Int32.toNatClampNeg (nI (q + 2)))) (xs (Int32.toNatClampNeg (nI (q + 3)))) (xs (Int32.toNatClampNeg (nI (q + 4)))) hJ
  refine lv_aload_n hx hb dL_law_1025 rfl (lv_at hl 2 rfl) ?_
  refine lv_aload_n hx hb dL_law_1026 rfl (lv_at hl 3 rfl) ?_
  refine lv_iload_n hx hb dL_law_1027 rfl (lv_at hl 0 rfl) ?_
  refine lv_iconst (v := 1) hx hb dL_law_1028 (by decide) ?_
  refine lv_iadd hx hb dL_law_1029 ?_
  refine lv_topi (fun z0 ez0 => ?_)
  have ez0 : z0 = nI (q + 1) := ez0.trans (nI_add q 1)
  subst ez0
  refine va_sld hx hb hX hbl hbA hw.S (vp_in_nI (show q + 1 < L by omega) (by omega)) dL_law_1030 ?_
  refine lv_aload_n hx hb dL_law_1031 rfl (lv_at hl 3 rfl) ?_
  refine lv_iload_n hx hb dL_law_1032 rfl (lv_at hl 0 rfl) ?_
  refine lv_iconst (v := 2) hx hb dL_law_1033 (by decide) ?_
  refine lv_iadd hx hb dL_law_1034 ?_
  refine lv_topi (fun z1 ez1 => ?_)
  have ez1 : z1 = nI (q + 2) := ez1.trans (nI_add q 2)
  subst ez1
  refine va_sld hx hb hX hbl hbA hw.S (vp_in_nI (show q + 2 < L by omega) (by omega)) dL_law_1035 ?_
  refine lv_aload_n hx hb dL_law_1036 rfl (lv_at hl 3 rfl) ?_
  refine lv_iload_n hx hb dL_law_1037 rfl (lv_at hl 0 rfl) ?_
  refine lv_iconst (v := 3) hx hb dL_law_1038 (by decide) ?_
  refine lv_iadd hx hb dL_law_1039 ?_
  refine lv_topi (fun z2 ez2 => ?_)
  have ez2 : z2 = nI (q + 3) := ez2.trans (nI_add q 3)
  subst ez2
  refine va_sld hx hb hX hbl hbA hw.S (vp_in_nI (show q + 3 < L by omega) (by omega)) dL_law_1040 ?_
  refine lv_aload_n hx hb dL_law_1041 rfl (lv_at hl 3 rfl) ?_
  refine lv_iload_n hx hb dL_law_1042 rfl (lv_at hl 0 rfl) ?_
  refine lv_iconst (v := 4) hx hb dL_law_1043 (by decide) ?_
  refine lv_iadd hx hb dL_law_1044 ?_
  refine lv_topi (fun z3 ez3 => ?_)
  have ez3 : z3 = nI (q + 4) := ez3.trans (nI_add q 4)
  subst ez3
  refine va_sld hx hb hX hbl hbA hw.S (vp_in_nI (show q + 4 < L by omega) (by omega)) dL_law_1045 ?_
  have hsX : g_X7_rules vx (xs (Int32.toNatClampNeg (nI (q + 1)))) (xs (Int32.toNatClampNeg (nI (q + 2)))) (xs (Int32.toNatClampNeg (nI (q + 3)))) (xs (Int32.toNatClampNeg (nI (q + 4)))) ≠ none := fun h9 => by rw [show oX_rules vx (xs (Int32.toNatClampNeg (nI (q + 1)))) (xs (Int32.toNatClampNeg (nI (q + 2)))) (xs (Int32.toNatClampNeg (nI (q + 3)))) (xs (Int32.toNatClampNeg (nI (q + 4)))) = g_X7_rules vx (xs (Int32.toNatClampNeg (nI (q + 1)))) (xs (Int32.toNatClampNeg (nI (q + 2)))) (xs (Int32.toNatClampNeg (nI (q + 3)))) (xs (Int32.toNatClampNeg (nI (q + 4)))) from rfl, h9] at hoX; cases hoX
  refine tw_cX (As := [.int (xs (Int32.toNatClampNeg (nI (q + 1)))), .int (xs (Int32.toNatClampNeg (nI (q + 2)))), .int (xs (Int32.toNatClampNeg (nI (q + 3)))), .int (xs (Int32.toNatClampNeg (nI (q + 4))))]) (rest := []) (n := 4) ⟨hx, hb, hml, hown, hts⟩ (d_X7_rules l E Zx vx (xs (Int32.toNatClampNeg (nI (q + 1)))) (xs (Int32.toNatClampNeg (nI (q + 2)))) (xs (Int32.toNatClampNeg (nI (q + 3)))) (xs (Int32.toNatClampNeg (nI (q + 4)))) hsX) gL_law_X7_rules rfl (by decide +kernel) ⟨Nat.le_of_ble_eq_true rfl, Nat.le_of_ble_eq_true rfl⟩ hK hw rfl hl.1 rfl (Nat.le_of_ble_eq_true rfl) dL_law_1046 rfl rfl ⟨Nat.le_of_ble_eq_true rfl, Nat.le_of_ble_eq_true rfl⟩ (fun rX vX H locs hp hw => ?_)
  have hzX : (some (rX, vX) : Option (Int32 × Mm)) = some (r1, vx1) := by rw [← hoX, show oX_rules vx (xs (Int32.toNatClampNeg (nI (q + 1)))) (xs (Int32.toNatClampNeg (nI (q + 2)))) (xs (Int32.toNatClampNeg (nI (q + 3)))) (xs (Int32.toNatClampNeg (nI (q + 4)))) = g_X7_rules vx (xs (Int32.toNatClampNeg (nI (q + 1)))) (xs (Int32.toNatClampNeg (nI (q + 2)))) (xs (Int32.toNatClampNeg (nI (q + 3)))) (xs (Int32.toNatClampNeg (nI (q + 4)))) from rfl, hp]
  obtain ⟨e1X, e2X⟩ := Prod.mk.inj (Option.some.inj hzX)
  subst e1X
  rw [e2X] at hw
  refine lv_pop hx hb dL_law_1049 rfl ?_
  refine lv_aload_n hx hb dL_law_1050 rfl (lv_at hl 1 rfl) ?_
  refine lv_aload_n hx hb dL_law_1051 rfl (lv_at hl 3 rfl) ?_
  refine lv_iload_n hx hb dL_law_1052 rfl (lv_at hl 0 rfl) ?_
  refine lv_iconst (v := 1) hx hb dL_law_1053 (by decide) ?_
  refine lv_iadd hx hb dL_law_1054 ?_
  refine lv_topi (fun z4 ez4 => ?_)
  have ez4 : z4 = nI (q + 1) := ez4.trans (nI_add q 1)
  subst ez4
  refine va_sld hx hb hX hbl hbA hw.S (vp_in_nI (show q + 1 < L by omega) (by omega)) dL_law_1055 ?_
  refine lv_aload_n hx hb dL_law_1056 rfl (lv_at hl 3 rfl) ?_
  refine lv_iload_n hx hb dL_law_1057 rfl (lv_at hl 0 rfl) ?_
  refine lv_iconst (v := 2) hx hb dL_law_1058 (by decide) ?_
  refine lv_iadd hx hb dL_law_1059 ?_
  refine lv_topi (fun z5 ez5 => ?_)
  have ez5 : z5 = nI (q + 2) := ez5.trans (nI_add q 2)
  subst ez5
  refine va_sld hx hb hX hbl hbA hw.S (vp_in_nI (show q + 2 < L by omega) (by omega)) dL_law_1060 ?_
  refine lv_aload_n hx hb dL_law_1061 rfl (lv_at hl 3 rfl) ?_
  refine lv_iload_n hx hb dL_law_1062 rfl (lv_at hl 0 rfl) ?_
  refine lv_iconst (v := 3) hx hb dL_law_1063 (by decide) ?_
  refine lv_iadd hx hb dL_law_1064 ?_
  refine lv_topi (fun z6 ez6 => ?_)
  have ez6 : z6 = nI (q + 3) := ez6.trans (nI_add q 3)
  subst ez6
  refine va_sld hx hb hX hbl hbA hw.S (vp_in_nI (show q + 3 < L by omega) (by omega)) dL_law_1065 ?_
  refine lv_aload_n hx hb dL_law_1066 rfl (lv_at hl 3 rfl) ?_
  refine lv_iload_n hx hb dL_law_1067 rfl (lv_at hl 0 rfl) ?_
  refine lv_iconst (v := 4) hx hb dL_law_1068 (by decide) ?_
  refine lv_iadd hx hb dL_law_1069 ?_
  refine lv_topi (fun z7 ez7 => ?_)
  have ez7 : z7 = nI (q + 4) := ez7.trans (nI_add q 4)
  subst ez7
  refine va_sld hx hb hX hbl hbA hw.S (vp_in_nI (show q + 4 < L by omega) (by omega)) dL_law_1070 ?_
  have hsM : g_X8_rules vm (xs (Int32.toNatClampNeg (nI (q + 1)))) (xs (Int32.toNatClampNeg (nI (q + 2)))) (xs (Int32.toNatClampNeg (nI (q + 3)))) (xs (Int32.toNatClampNeg (nI (q + 4)))) ≠ none := fun h9 => by rw [show oM_rules vm (xs (Int32.toNatClampNeg (nI (q + 1)))) (xs (Int32.toNatClampNeg (nI (q + 2)))) (xs (Int32.toNatClampNeg (nI (q + 3)))) (xs (Int32.toNatClampNeg (nI (q + 4)))) = g_X8_rules vm (xs (Int32.toNatClampNeg (nI (q + 1)))) (xs (Int32.toNatClampNeg (nI (q + 2)))) (xs (Int32.toNatClampNeg (nI (q + 3)))) (xs (Int32.toNatClampNeg (nI (q + 4)))) from rfl, h9] at hoM; cases hoM
  refine tw_cM (As := [.int (xs (Int32.toNatClampNeg (nI (q + 1)))), .int (xs (Int32.toNatClampNeg (nI (q + 2)))), .int (xs (Int32.toNatClampNeg (nI (q + 3)))), .int (xs (Int32.toNatClampNeg (nI (q + 4))))]) (rest := []) (n := 4) ⟨hx, hb, hml, hown, hts⟩ (d_X8_rules l E Zm vm (xs (Int32.toNatClampNeg (nI (q + 1)))) (xs (Int32.toNatClampNeg (nI (q + 2)))) (xs (Int32.toNatClampNeg (nI (q + 3)))) (xs (Int32.toNatClampNeg (nI (q + 4)))) hsM) gL_law_X8_rules rfl (by decide +kernel) ⟨Nat.le_of_ble_eq_true rfl, Nat.le_of_ble_eq_true rfl⟩ hK hw rfl hl.1 rfl (Nat.le_of_ble_eq_true rfl) dL_law_1071 rfl rfl ⟨Nat.le_of_ble_eq_true rfl, Nat.le_of_ble_eq_true rfl⟩ (fun rM vM H locs hp hw => ?_)
  have hzM : (some (rM, vM) : Option (Int32 × Mm)) = some (r2, vm1) := by rw [← hoM, show oM_rules vm (xs (Int32.toNatClampNeg (nI (q + 1)))) (xs (Int32.toNatClampNeg (nI (q + 2)))) (xs (Int32.toNatClampNeg (nI (q + 3)))) (xs (Int32.toNatClampNeg (nI (q + 4)))) = g_X8_rules vm (xs (Int32.toNatClampNeg (nI (q + 1)))) (xs (Int32.toNatClampNeg (nI (q + 2)))) (xs (Int32.toNatClampNeg (nI (q + 3)))) (xs (Int32.toNatClampNeg (nI (q + 4)))) from rfl, hp]
  obtain ⟨e1M, e2M⟩ := Prod.mk.inj (Option.some.inj hzM)
  subst e1M
  rw [e2M] at hw
  refine lv_pop hx hb dL_law_1074 rfl ?_
  refine lv_goto (tgt := 1421) hx hb dL_law_1075 (by decide) ?_
  exact kk _ _ _ _ _ hJ1 hw hl
set_option maxHeartbeats 4000000 in
set_option maxRecDepth 100000 in
theorem lk_28 {p : Program} {l : Launch} {e : Env} {s : State} {m : MethodId} {below : List Frame} {meth : Method} {c : Code} {b L : Nat} {xs : Nat → Int32} {E : kq_T} {H : Heap} {locs : List Loc} {ls : Array Slot} {Zx Zm : km_Z} {vx vm : Mm} {q : Nat} {J : Mm → Mm → Prop} {C : Prop} (hop : jop_fits J C) (C0 : lw_At p s m meth c b L xs) (hK : kq_K E (fun q : Nat => s.heap.size ≤ q) s) (hq : q + 6 ≤ L) (hL : L ≤ 384) (hJ : J vx vm) (hw : tw E (fun q : Nat => s.heap.size ≤ q) s.heap Zx Zm vx vm H locs) (hl : lv_has ls 4 [(3, .int (nI q)), (2, .ref (Zm.1 30 0)), (1, .ref (Zx.1 0 0)), (0, .ref b)]) (kk : ∀ (vx1 vm1 : Mm) (H1 : Heap) (locs1 : List Loc) (ls1 : Array Slot), J vx1 vm1 → tw E (fun q : Nat => s.heap.size ≤ q) s.heap Zx Zm vx1 vm1 H1 locs1 → lv_has ls1 4 [(3, .int (nI q)), (2, .ref (Zm.1 30 0)), (1, .ref (Zx.1 0 0)), (0, .ref b)] → W p l e room_1 s m #[Value.ref b] below meth c H1 locs1 1000 10000 (lw_Z below #[Value.ref b] s) (F0 m 1421 ls1 [])) : W p l e room_1 s m #[Value.ref b] below meth c H locs 1000 10000 (lw_Z below #[Value.ref b] s) (F0 m 1078 ls []) := by
  obtain ⟨hx, hb, hr, hml, hown, hts, hX, hbl, hlocks, hgv⟩ := id C0
  have hown : s.vm.findClass RL = some m.cls := hown
  have hb : c.code = cL_law := hb
  have hts := fun w h => hts w (wsL_law_in w h)
  have hbA : ¬ (fun q : Nat => s.heap.size ≤ q) b := Nat.not_le.mpr hbl
  obtain ⟨r1, vx1, r2, vm1, hoX, hoM, hJ1, hC⟩ := hop vx vm (xs (Int32.toNatClampNeg (nI (q + 1)))) (xs (Int32.toNatClampNeg (nI (q + 2)))) (xs (Int32.toNatClampNeg (nI (q + 3)))) (xs (Int32.toNatClampNeg (nI (q + 4)))) hJ
  refine lv_aload_n hx hb dL_law_1078 rfl (lv_at hl 2 rfl) ?_
  refine lv_aload_n hx hb dL_law_1079 rfl (lv_at hl 3 rfl) ?_
  refine lv_iload_n hx hb dL_law_1080 rfl (lv_at hl 0 rfl) ?_
  refine lv_iconst (v := 1) hx hb dL_law_1081 (by decide) ?_
  refine lv_iadd hx hb dL_law_1082 ?_
  refine lv_topi (fun z0 ez0 => ?_)
  have ez0 : z0 = nI (q + 1) := ez0.trans (nI_add q 1)
  subst ez0
  refine va_sld hx hb hX hbl hbA hw.S (vp_in_nI (show q + 1 < L by omega) (by omega)) dL_law_1083 ?_
  refine lv_aload_n hx hb dL_law_1084 rfl (lv_at hl 3 rfl) ?_
  refine lv_iload_n hx hb dL_law_1085 rfl (lv_at hl 0 rfl) ?_
  refine lv_iconst (v := 2) hx hb dL_law_1086 (by decide) ?_
  refine lv_iadd hx hb dL_law_1087 ?_
  refine lv_topi (fun z1 ez1 => ?_)
  have ez1 : z1 = nI (q + 2) := ez1.trans (nI_add q 2)
  subst ez1
  refine va_sld hx hb hX hbl hbA hw.S (vp_in_nI (show q + 2 < L by omega) (by omega)) dL_law_1088 ?_
  refine lv_aload_n hx hb dL_law_1089 rfl (lv_at hl 3 rfl) ?_
  refine lv_iload_n hx hb dL_law_1090 rfl (lv_at hl 0 rfl) ?_
  refine lv_iconst (v := 3) hx hb dL_law_1091 (by decide) ?_
  refine lv_iadd hx hb dL_law_1092 ?_
  refine lv_topi (fun z2 ez2 => ?_)
  have ez2 : z2 = nI (q + 3) := ez2.trans (nI_add q 3)
  subst ez2
  refine va_sld hx hb hX hbl hbA hw.S (vp_in_nI (show q + 3 < L by omega) (by omega)) dL_law_1093 ?_
  refine lv_aload_n hx hb dL_law_1094 rfl (lv_at hl 3 rfl) ?_
  refine lv_iload_n hx hb dL_law_1095 rfl (lv_at hl 0 rfl) ?_
  refine lv_iconst (v := 4) hx hb dL_law_1096 (by decide) ?_
  refine lv_iadd hx hb dL_law_1097 ?_
  refine lv_topi (fun z3 ez3 => ?_)
  have ez3 : z3 = nI (q + 4) := ez3.trans (nI_add q 4)
  subst ez3
  refine va_sld hx hb hX hbl hbA hw.S (vp_in_nI (show q + 4 < L by omega) (by omega)) dL_law_1098 ?_
  have hsX : g_X7_fits vx (xs (Int32.toNatClampNeg (nI (q + 1)))) (xs (Int32.toNatClampNeg (nI (q + 2)))) (xs (Int32.toNatClampNeg (nI (q + 3)))) (xs (Int32.toNatClampNeg (nI (q + 4)))) ≠ none := fun h9 => by rw [show oX_fits vx (xs (Int32.toNatClampNeg (nI (q + 1)))) (xs (Int32.toNatClampNeg (nI (q + 2)))) (xs (Int32.toNatClampNeg (nI (q + 3)))) (xs (Int32.toNatClampNeg (nI (q + 4)))) = g_X7_fits vx (xs (Int32.toNatClampNeg (nI (q + 1)))) (xs (Int32.toNatClampNeg (nI (q + 2)))) (xs (Int32.toNatClampNeg (nI (q + 3)))) (xs (Int32.toNatClampNeg (nI (q + 4)))) from rfl, h9] at hoX; cases hoX
  refine tw_cX (As := [.int (xs (Int32.toNatClampNeg (nI (q + 1)))), .int (xs (Int32.toNatClampNeg (nI (q + 2)))), .int (xs (Int32.toNatClampNeg (nI (q + 3)))), .int (xs (Int32.toNatClampNeg (nI (q + 4))))]) (rest := []) (n := 4) ⟨hx, hb, hml, hown, hts⟩ (d_X7_fits l E Zx vx (xs (Int32.toNatClampNeg (nI (q + 1)))) (xs (Int32.toNatClampNeg (nI (q + 2)))) (xs (Int32.toNatClampNeg (nI (q + 3)))) (xs (Int32.toNatClampNeg (nI (q + 4)))) hsX) gL_law_X7_fits rfl (by decide +kernel) ⟨Nat.le_of_ble_eq_true rfl, Nat.le_of_ble_eq_true rfl⟩ hK hw rfl hl.1 rfl (Nat.le_of_ble_eq_true rfl) dL_law_1099 rfl rfl ⟨Nat.le_of_ble_eq_true rfl, Nat.le_of_ble_eq_true rfl⟩ (fun rX vX H locs hp hw => ?_)
  have hzX : (some (rX, vX) : Option (Int32 × Mm)) = some (r1, vx1) := by rw [← hoX, show oX_fits vx (xs (Int32.toNatClampNeg (nI (q + 1)))) (xs (Int32.toNatClampNeg (nI (q + 2)))) (xs (Int32.toNatClampNeg (nI (q + 3)))) (xs (Int32.toNatClampNeg (nI (q + 4)))) = g_X7_fits vx (xs (Int32.toNatClampNeg (nI (q + 1)))) (xs (Int32.toNatClampNeg (nI (q + 2)))) (xs (Int32.toNatClampNeg (nI (q + 3)))) (xs (Int32.toNatClampNeg (nI (q + 4)))) from rfl, hp]
  obtain ⟨e1X, e2X⟩ := Prod.mk.inj (Option.some.inj hzX)
  subst e1X
  rw [e2X] at hw
  refine lv_pop hx hb dL_law_1102 rfl ?_
  refine lv_aload_n hx hb dL_law_1103 rfl (lv_at hl 1 rfl) ?_
  refine lv_aload_n hx hb dL_law_1104 rfl (lv_at hl 3 rfl) ?_
  refine lv_iload_n hx hb dL_law_1105 rfl (lv_at hl 0 rfl) ?_
  refine lv_iconst (v := 1) hx hb dL_law_1106 (by decide) ?_
  refine lv_iadd hx hb dL_law_1107 ?_
  refine lv_topi (fun z4 ez4 => ?_)
  have ez4 : z4 = nI (q + 1) := ez4.trans (nI_add q 1)
  subst ez4
  refine va_sld hx hb hX hbl hbA hw.S (vp_in_nI (show q + 1 < L by omega) (by omega)) dL_law_1108 ?_
  refine lv_aload_n hx hb dL_law_1109 rfl (lv_at hl 3 rfl) ?_
  refine lv_iload_n hx hb dL_law_1110 rfl (lv_at hl 0 rfl) ?_
  refine lv_iconst (v := 2) hx hb dL_law_1111 (by decide) ?_
  refine lv_iadd hx hb dL_law_1112 ?_
  refine lv_topi (fun z5 ez5 => ?_)
  have ez5 : z5 = nI (q + 2) := ez5.trans (nI_add q 2)
  subst ez5
  refine va_sld hx hb hX hbl hbA hw.S (vp_in_nI (show q + 2 < L by omega) (by omega)) dL_law_1113 ?_
  refine lv_aload_n hx hb dL_law_1114 rfl (lv_at hl 3 rfl) ?_
  refine lv_iload_n hx hb dL_law_1115 rfl (lv_at hl 0 rfl) ?_
  refine lv_iconst (v := 3) hx hb dL_law_1116 (by decide) ?_
  refine lv_iadd hx hb dL_law_1117 ?_
  refine lv_topi (fun z6 ez6 => ?_)
  have ez6 : z6 = nI (q + 3) := ez6.trans (nI_add q 3)
  subst ez6
  refine va_sld hx hb hX hbl hbA hw.S (vp_in_nI (show q + 3 < L by omega) (by omega)) dL_law_1118 ?_
  refine lv_aload_n hx hb dL_law_1119 rfl (lv_at hl 3 rfl) ?_
  refine lv_iload_n hx hb dL_law_1120 rfl (lv_at hl 0 rfl) ?_
  refine lv_iconst (v := 4) hx hb dL_law_1121 (by decide) ?_
  refine lv_iadd hx hb dL_law_1122 ?_
  refine lv_topi (fun z7 ez7 => ?_)
  have ez7 : z7 = nI (q + 4) := ez7.trans (nI_add q 4)
  subst ez7
  refine va_sld hx hb hX hbl hbA hw.S (vp_in_nI (show q + 4 < L by omega) (by omega)) dL_law_1123 ?_
  have hsM : g_X8_fits vm (xs (Int32.toNatClampNeg (nI (q + 1)))) (xs (Int32.toNatClampNeg (nI (q + 2)))) (xs (Int32.toNatClampNeg (nI (q + 3)))) (xs (Int32.toNatClampNeg (nI (q + 4)))) ≠ none := fun h9 => by rw [show oM_fits vm (xs (Int32.toNatClampNeg (nI (q + 1)))) (xs (Int32.toNatClampNeg (nI (q + 2)))) (xs (Int32.toNatClampNeg (nI (q + 3)))) (xs (Int32.toNatClampNeg (nI (q + 4)))) = g_X8_fits vm (xs (Int32.toNatClampNeg (nI (q + 1)))) (xs (Int32.toNatClampNeg (nI (q + 2)))) (xs (Int32.toNatClampNeg (nI (q + 3)))) (xs (Int32.toNatClampNeg (nI (q + 4)))) from rfl, h9] at hoM; cases hoM
  refine tw_cM (As := [.int (xs (Int32.toNatClampNeg (nI (q + 1)))), .int (xs (Int32.toNatClampNeg (nI (q + 2)))), .int (xs (Int32.toNatClampNeg (nI (q + 3)))), .int (xs (Int32.toNatClampNeg (nI (q + 4))))]) (rest := []) (n := 4) ⟨hx, hb, hml, hown, hts⟩ (d_X8_fits l E Zm vm (xs (Int32.toNatClampNeg (nI (q + 1)))) (xs (Int32.toNatClampNeg (nI (q + 2)))) (xs (Int32.toNatClampNeg (nI (q + 3)))) (xs (Int32.toNatClampNeg (nI (q + 4)))) hsM) gL_law_X8_fits rfl (by decide +kernel) ⟨Nat.le_of_ble_eq_true rfl, Nat.le_of_ble_eq_true rfl⟩ hK hw rfl hl.1 rfl (Nat.le_of_ble_eq_true rfl) dL_law_1124 rfl rfl ⟨Nat.le_of_ble_eq_true rfl, Nat.le_of_ble_eq_true rfl⟩ (fun rM vM H locs hp hw => ?_)
  have hzM : (some (rM, vM) : Option (Int32 × Mm)) = some (r2, vm1) := by rw [← hoM, show oM_fits vm (xs (Int32.toNatClampNeg (nI (q + 1)))) (xs (Int32.toNatClampNeg (nI (q + 2)))) (xs (Int32.toNatClampNeg (nI (q + 3)))) (xs (Int32.toNatClampNeg (nI (q + 4)))) = g_X8_fits vm (xs (Int32.toNatClampNeg (nI (q + 1)))) (xs (Int32.toNatClampNeg (nI (q + 2)))) (xs (Int32.toNatClampNeg (nI (q + 3)))) (xs (Int32.toNatClampNeg (nI (q + 4)))) from rfl, hp]
  obtain ⟨e1M, e2M⟩ := Prod.mk.inj (Option.some.inj hzM)
  subst e1M
  rw [e2M] at hw
  refine lv_pop hx hb dL_law_1127 rfl ?_
  refine lv_goto (tgt := 1421) hx hb dL_law_1128 (by decide) ?_
  exact kk _ _ _ _ _ hJ1 hw hl
set_option maxHeartbeats 4000000 in
set_option maxRecDepth 100000 in
theorem lk_29 {p : Program} {l : Launch} {e : Env} {s : State} {m : MethodId} {below : List Frame} {meth : Method} {c : Code} {b L : Nat} {xs : Nat → Int32} {E : kq_T} {H : Heap} {locs : List Loc} {ls : Array Slot} {Zx Zm : km_Z} {vx vm : Mm} {q : Nat} {J : Mm → Mm → Prop} {C : Prop} (hop : jop_sure J C) (C0 : lw_At p s m meth c b L xs) (hK : kq_K E (fun q : Nat => s.heap.size ≤ q) s) (hq : q + 6 ≤ L) (hL : L ≤ 384) (hJ : J vx vm) (hw : tw E (fun q : Nat => s.heap.size ≤ q) s.heap Zx Zm vx vm H locs) (hl : lv_has ls 4 [(3, .int (nI q)), (2, .ref (Zm.1 30 0)), (1, .ref (Zx.1 0 0)), (0, .ref b)]) (kk : ∀ (vx1 vm1 : Mm) (H1 : Heap) (locs1 : List Loc) (ls1 : Array Slot), J vx1 vm1 → tw E (fun q : Nat => s.heap.size ≤ q) s.heap Zx Zm vx1 vm1 H1 locs1 → lv_has ls1 4 [(3, .int (nI q)), (2, .ref (Zm.1 30 0)), (1, .ref (Zx.1 0 0)), (0, .ref b)] → W p l e room_1 s m #[Value.ref b] below meth c H1 locs1 1000 10000 (lw_Z below #[Value.ref b] s) (F0 m 1421 ls1 [])) : W p l e room_1 s m #[Value.ref b] below meth c H locs 1000 10000 (lw_Z below #[Value.ref b] s) (F0 m 1131 ls []) := by
  obtain ⟨hx, hb, hr, hml, hown, hts, hX, hbl, hlocks, hgv⟩ := id C0
  have hown : s.vm.findClass RL = some m.cls := hown
  have hb : c.code = cL_law := hb
  have hts := fun w h => hts w (wsL_law_in w h)
  have hbA : ¬ (fun q : Nat => s.heap.size ≤ q) b := Nat.not_le.mpr hbl
  obtain ⟨r1, vx1, r2, vm1, hoX, hoM, hJ1, hC⟩ := hop vx vm (xs (Int32.toNatClampNeg (nI (q + 1)))) (xs (Int32.toNatClampNeg (nI (q + 2)))) (xs (Int32.toNatClampNeg (nI (q + 3)))) (xs (Int32.toNatClampNeg (nI (q + 4)))) hJ
  refine lv_aload_n hx hb dL_law_1131 rfl (lv_at hl 2 rfl) ?_
  refine lv_aload_n hx hb dL_law_1132 rfl (lv_at hl 3 rfl) ?_
  refine lv_iload_n hx hb dL_law_1133 rfl (lv_at hl 0 rfl) ?_
  refine lv_iconst (v := 1) hx hb dL_law_1134 (by decide) ?_
  refine lv_iadd hx hb dL_law_1135 ?_
  refine lv_topi (fun z0 ez0 => ?_)
  have ez0 : z0 = nI (q + 1) := ez0.trans (nI_add q 1)
  subst ez0
  refine va_sld hx hb hX hbl hbA hw.S (vp_in_nI (show q + 1 < L by omega) (by omega)) dL_law_1136 ?_
  refine lv_aload_n hx hb dL_law_1137 rfl (lv_at hl 3 rfl) ?_
  refine lv_iload_n hx hb dL_law_1138 rfl (lv_at hl 0 rfl) ?_
  refine lv_iconst (v := 2) hx hb dL_law_1139 (by decide) ?_
  refine lv_iadd hx hb dL_law_1140 ?_
  refine lv_topi (fun z1 ez1 => ?_)
  have ez1 : z1 = nI (q + 2) := ez1.trans (nI_add q 2)
  subst ez1
  refine va_sld hx hb hX hbl hbA hw.S (vp_in_nI (show q + 2 < L by omega) (by omega)) dL_law_1141 ?_
  refine lv_aload_n hx hb dL_law_1142 rfl (lv_at hl 3 rfl) ?_
  refine lv_iload_n hx hb dL_law_1143 rfl (lv_at hl 0 rfl) ?_
  refine lv_iconst (v := 3) hx hb dL_law_1144 (by decide) ?_
  refine lv_iadd hx hb dL_law_1145 ?_
  refine lv_topi (fun z2 ez2 => ?_)
  have ez2 : z2 = nI (q + 3) := ez2.trans (nI_add q 3)
  subst ez2
  refine va_sld hx hb hX hbl hbA hw.S (vp_in_nI (show q + 3 < L by omega) (by omega)) dL_law_1146 ?_
  refine lv_aload_n hx hb dL_law_1147 rfl (lv_at hl 3 rfl) ?_
  refine lv_iload_n hx hb dL_law_1148 rfl (lv_at hl 0 rfl) ?_
  refine lv_iconst (v := 4) hx hb dL_law_1149 (by decide) ?_
  refine lv_iadd hx hb dL_law_1150 ?_
  refine lv_topi (fun z3 ez3 => ?_)
  have ez3 : z3 = nI (q + 4) := ez3.trans (nI_add q 4)
  subst ez3
  refine va_sld hx hb hX hbl hbA hw.S (vp_in_nI (show q + 4 < L by omega) (by omega)) dL_law_1151 ?_
  have hsX : g_X7_sure vx (xs (Int32.toNatClampNeg (nI (q + 1)))) (xs (Int32.toNatClampNeg (nI (q + 2)))) (xs (Int32.toNatClampNeg (nI (q + 3)))) (xs (Int32.toNatClampNeg (nI (q + 4)))) ≠ none := fun h9 => by rw [show oX_sure vx (xs (Int32.toNatClampNeg (nI (q + 1)))) (xs (Int32.toNatClampNeg (nI (q + 2)))) (xs (Int32.toNatClampNeg (nI (q + 3)))) (xs (Int32.toNatClampNeg (nI (q + 4)))) = (g_X7_sure vx (xs (Int32.toNatClampNeg (nI (q + 1)))) (xs (Int32.toNatClampNeg (nI (q + 2)))) (xs (Int32.toNatClampNeg (nI (q + 3)))) (xs (Int32.toNatClampNeg (nI (q + 4))))).map (fun r => (r, vx)) from rfl, h9] at hoX; cases hoX
  refine tw_cX (As := [.int (xs (Int32.toNatClampNeg (nI (q + 1)))), .int (xs (Int32.toNatClampNeg (nI (q + 2)))), .int (xs (Int32.toNatClampNeg (nI (q + 3)))), .int (xs (Int32.toNatClampNeg (nI (q + 4))))]) (rest := []) (n := 4) ⟨hx, hb, hml, hown, hts⟩ (d_X7_sure l E Zx vx (xs (Int32.toNatClampNeg (nI (q + 1)))) (xs (Int32.toNatClampNeg (nI (q + 2)))) (xs (Int32.toNatClampNeg (nI (q + 3)))) (xs (Int32.toNatClampNeg (nI (q + 4)))) hsX) gL_law_X7_sure rfl (by decide +kernel) ⟨Nat.le_of_ble_eq_true rfl, Nat.le_of_ble_eq_true rfl⟩ hK hw rfl hl.1 rfl (Nat.le_of_ble_eq_true rfl) dL_law_1152 rfl rfl ⟨Nat.le_of_ble_eq_true rfl, Nat.le_of_ble_eq_true rfl⟩ (fun rX vX H locs hp hw => ?_)
  obtain ⟨hp, rfl⟩ := hp
  have hzX : (some (rX, vx) : Option (Int32 × Mm)) = some (r1, vx1) := by rw [← hoX, show oX_sure vx (xs (Int32.toNatClampNeg (nI (q + 1)))) (xs (Int32.toNatClampNeg (nI (q + 2)))) (xs (Int32.toNatClampNeg (nI (q + 3)))) (xs (Int32.toNatClampNeg (nI (q + 4)))) = (g_X7_sure vx (xs (Int32.toNatClampNeg (nI (q + 1)))) (xs (Int32.toNatClampNeg (nI (q + 2)))) (xs (Int32.toNatClampNeg (nI (q + 3)))) (xs (Int32.toNatClampNeg (nI (q + 4))))).map (fun r => (r, vx)) from rfl, hp]; rfl
  obtain ⟨e1X, e2X⟩ := Prod.mk.inj (Option.some.inj hzX)
  subst e1X
  rw [← e2X] at hJ1
  refine lv_pop hx hb dL_law_1155 rfl ?_
  refine lv_aload_n hx hb dL_law_1156 rfl (lv_at hl 1 rfl) ?_
  refine lv_aload_n hx hb dL_law_1157 rfl (lv_at hl 3 rfl) ?_
  refine lv_iload_n hx hb dL_law_1158 rfl (lv_at hl 0 rfl) ?_
  refine lv_iconst (v := 1) hx hb dL_law_1159 (by decide) ?_
  refine lv_iadd hx hb dL_law_1160 ?_
  refine lv_topi (fun z4 ez4 => ?_)
  have ez4 : z4 = nI (q + 1) := ez4.trans (nI_add q 1)
  subst ez4
  refine va_sld hx hb hX hbl hbA hw.S (vp_in_nI (show q + 1 < L by omega) (by omega)) dL_law_1161 ?_
  refine lv_aload_n hx hb dL_law_1162 rfl (lv_at hl 3 rfl) ?_
  refine lv_iload_n hx hb dL_law_1163 rfl (lv_at hl 0 rfl) ?_
  refine lv_iconst (v := 2) hx hb dL_law_1164 (by decide) ?_
  refine lv_iadd hx hb dL_law_1165 ?_
  refine lv_topi (fun z5 ez5 => ?_)
  have ez5 : z5 = nI (q + 2) := ez5.trans (nI_add q 2)
  subst ez5
  refine va_sld hx hb hX hbl hbA hw.S (vp_in_nI (show q + 2 < L by omega) (by omega)) dL_law_1166 ?_
  refine lv_aload_n hx hb dL_law_1167 rfl (lv_at hl 3 rfl) ?_
  refine lv_iload_n hx hb dL_law_1168 rfl (lv_at hl 0 rfl) ?_
  refine lv_iconst (v := 3) hx hb dL_law_1169 (by decide) ?_
  refine lv_iadd hx hb dL_law_1170 ?_
  refine lv_topi (fun z6 ez6 => ?_)
  have ez6 : z6 = nI (q + 3) := ez6.trans (nI_add q 3)
  subst ez6
  refine va_sld hx hb hX hbl hbA hw.S (vp_in_nI (show q + 3 < L by omega) (by omega)) dL_law_1171 ?_
  refine lv_aload_n hx hb dL_law_1172 rfl (lv_at hl 3 rfl) ?_
  refine lv_iload_n hx hb dL_law_1173 rfl (lv_at hl 0 rfl) ?_
  refine lv_iconst (v := 4) hx hb dL_law_1174 (by decide) ?_
  refine lv_iadd hx hb dL_law_1175 ?_
  refine lv_topi (fun z7 ez7 => ?_)
  have ez7 : z7 = nI (q + 4) := ez7.trans (nI_add q 4)
  subst ez7
  refine va_sld hx hb hX hbl hbA hw.S (vp_in_nI (show q + 4 < L by omega) (by omega)) dL_law_1176 ?_
  have hsM : g_X8_sure vm (xs (Int32.toNatClampNeg (nI (q + 1)))) (xs (Int32.toNatClampNeg (nI (q + 2)))) (xs (Int32.toNatClampNeg (nI (q + 3)))) (xs (Int32.toNatClampNeg (nI (q + 4)))) ≠ none := fun h9 => by rw [show oM_sure vm (xs (Int32.toNatClampNeg (nI (q + 1)))) (xs (Int32.toNatClampNeg (nI (q + 2)))) (xs (Int32.toNatClampNeg (nI (q + 3)))) (xs (Int32.toNatClampNeg (nI (q + 4)))) = (g_X8_sure vm (xs (Int32.toNatClampNeg (nI (q + 1)))) (xs (Int32.toNatClampNeg (nI (q + 2)))) (xs (Int32.toNatClampNeg (nI (q + 3)))) (xs (Int32.toNatClampNeg (nI (q + 4))))).map (fun r => (r, vm)) from rfl, h9] at hoM; cases hoM
  refine tw_cM (As := [.int (xs (Int32.toNatClampNeg (nI (q + 1)))), .int (xs (Int32.toNatClampNeg (nI (q + 2)))), .int (xs (Int32.toNatClampNeg (nI (q + 3)))), .int (xs (Int32.toNatClampNeg (nI (q + 4))))]) (rest := []) (n := 4) ⟨hx, hb, hml, hown, hts⟩ (d_X8_sure l E Zm vm (xs (Int32.toNatClampNeg (nI (q + 1)))) (xs (Int32.toNatClampNeg (nI (q + 2)))) (xs (Int32.toNatClampNeg (nI (q + 3)))) (xs (Int32.toNatClampNeg (nI (q + 4)))) hsM) gL_law_X8_sure rfl (by decide +kernel) ⟨Nat.le_of_ble_eq_true rfl, Nat.le_of_ble_eq_true rfl⟩ hK hw rfl hl.1 rfl (Nat.le_of_ble_eq_true rfl) dL_law_1177 rfl rfl ⟨Nat.le_of_ble_eq_true rfl, Nat.le_of_ble_eq_true rfl⟩ (fun rM vM H locs hp hw => ?_)
  obtain ⟨hp, rfl⟩ := hp
  have hzM : (some (rM, vm) : Option (Int32 × Mm)) = some (r2, vm1) := by rw [← hoM, show oM_sure vm (xs (Int32.toNatClampNeg (nI (q + 1)))) (xs (Int32.toNatClampNeg (nI (q + 2)))) (xs (Int32.toNatClampNeg (nI (q + 3)))) (xs (Int32.toNatClampNeg (nI (q + 4)))) = (g_X8_sure vm (xs (Int32.toNatClampNeg (nI (q + 1)))) (xs (Int32.toNatClampNeg (nI (q + 2)))) (xs (Int32.toNatClampNeg (nI (q + 3)))) (xs (Int32.toNatClampNeg (nI (q + 4))))).map (fun r => (r, vm)) from rfl, hp]; rfl
  obtain ⟨e1M, e2M⟩ := Prod.mk.inj (Option.some.inj hzM)
  subst e1M
  rw [← e2M] at hJ1
  refine lv_pop hx hb dL_law_1180 rfl ?_
  refine lv_goto (tgt := 1421) hx hb dL_law_1181 (by decide) ?_
  exact kk _ _ _ _ _ hJ1 hw hl
set_option maxHeartbeats 4000000 in
set_option maxRecDepth 100000 in
theorem lk_30 {p : Program} {l : Launch} {e : Env} {s : State} {m : MethodId} {below : List Frame} {meth : Method} {c : Code} {b L : Nat} {xs : Nat → Int32} {E : kq_T} {H : Heap} {locs : List Loc} {ls : Array Slot} {Zx Zm : km_Z} {vx vm : Mm} {q : Nat} {J : Mm → Mm → Prop} {C : Prop} (hop : jop_drawn J C) (C0 : lw_At p s m meth c b L xs) (hK : kq_K E (fun q : Nat => s.heap.size ≤ q) s) (hq : q + 6 ≤ L) (hL : L ≤ 384) (hJ : J vx vm) (hw : tw E (fun q : Nat => s.heap.size ≤ q) s.heap Zx Zm vx vm H locs) (hl : lv_has ls 4 [(3, .int (nI q)), (2, .ref (Zm.1 30 0)), (1, .ref (Zx.1 0 0)), (0, .ref b)]) (kk : ∀ (vx1 vm1 : Mm) (H1 : Heap) (locs1 : List Loc) (ls1 : Array Slot), J vx1 vm1 → tw E (fun q : Nat => s.heap.size ≤ q) s.heap Zx Zm vx1 vm1 H1 locs1 → lv_has ls1 4 [(3, .int (nI q)), (2, .ref (Zm.1 30 0)), (1, .ref (Zx.1 0 0)), (0, .ref b)] → W p l e room_1 s m #[Value.ref b] below meth c H1 locs1 1000 10000 (lw_Z below #[Value.ref b] s) (F0 m 1421 ls1 [])) : W p l e room_1 s m #[Value.ref b] below meth c H locs 1000 10000 (lw_Z below #[Value.ref b] s) (F0 m 1184 ls []) := by
  obtain ⟨hx, hb, hr, hml, hown, hts, hX, hbl, hlocks, hgv⟩ := id C0
  have hown : s.vm.findClass RL = some m.cls := hown
  have hb : c.code = cL_law := hb
  have hts := fun w h => hts w (wsL_law_in w h)
  have hbA : ¬ (fun q : Nat => s.heap.size ≤ q) b := Nat.not_le.mpr hbl
  obtain ⟨r1, vx1, r2, vm1, hoX, hoM, hJ1, hC⟩ := hop vx vm (xs (Int32.toNatClampNeg (nI (q + 1)))) (xs (Int32.toNatClampNeg (nI (q + 2)))) (xs (Int32.toNatClampNeg (nI (q + 3)))) hJ
  refine lv_aload_n hx hb dL_law_1184 rfl (lv_at hl 2 rfl) ?_
  refine lv_aload_n hx hb dL_law_1185 rfl (lv_at hl 3 rfl) ?_
  refine lv_iload_n hx hb dL_law_1186 rfl (lv_at hl 0 rfl) ?_
  refine lv_iconst (v := 1) hx hb dL_law_1187 (by decide) ?_
  refine lv_iadd hx hb dL_law_1188 ?_
  refine lv_topi (fun z0 ez0 => ?_)
  have ez0 : z0 = nI (q + 1) := ez0.trans (nI_add q 1)
  subst ez0
  refine va_sld hx hb hX hbl hbA hw.S (vp_in_nI (show q + 1 < L by omega) (by omega)) dL_law_1189 ?_
  refine lv_aload_n hx hb dL_law_1190 rfl (lv_at hl 3 rfl) ?_
  refine lv_iload_n hx hb dL_law_1191 rfl (lv_at hl 0 rfl) ?_
  refine lv_iconst (v := 2) hx hb dL_law_1192 (by decide) ?_
  refine lv_iadd hx hb dL_law_1193 ?_
  refine lv_topi (fun z1 ez1 => ?_)
  have ez1 : z1 = nI (q + 2) := ez1.trans (nI_add q 2)
  subst ez1
  refine va_sld hx hb hX hbl hbA hw.S (vp_in_nI (show q + 2 < L by omega) (by omega)) dL_law_1194 ?_
  refine lv_aload_n hx hb dL_law_1195 rfl (lv_at hl 3 rfl) ?_
  refine lv_iload_n hx hb dL_law_1196 rfl (lv_at hl 0 rfl) ?_
  refine lv_iconst (v := 3) hx hb dL_law_1197 (by decide) ?_
  refine lv_iadd hx hb dL_law_1198 ?_
  refine lv_topi (fun z2 ez2 => ?_)
  have ez2 : z2 = nI (q + 3) := ez2.trans (nI_add q 3)
  subst ez2
  refine va_sld hx hb hX hbl hbA hw.S (vp_in_nI (show q + 3 < L by omega) (by omega)) dL_law_1199 ?_
  have hsX : g_X7_drawn vx (xs (Int32.toNatClampNeg (nI (q + 1)))) (xs (Int32.toNatClampNeg (nI (q + 2)))) (xs (Int32.toNatClampNeg (nI (q + 3)))) ≠ none := fun h9 => by rw [show oX_drawn vx (xs (Int32.toNatClampNeg (nI (q + 1)))) (xs (Int32.toNatClampNeg (nI (q + 2)))) (xs (Int32.toNatClampNeg (nI (q + 3)))) = (g_X7_drawn vx (xs (Int32.toNatClampNeg (nI (q + 1)))) (xs (Int32.toNatClampNeg (nI (q + 2)))) (xs (Int32.toNatClampNeg (nI (q + 3))))).map (fun r => (r, vx)) from rfl, h9] at hoX; cases hoX
  refine tw_cX (As := [.int (xs (Int32.toNatClampNeg (nI (q + 1)))), .int (xs (Int32.toNatClampNeg (nI (q + 2)))), .int (xs (Int32.toNatClampNeg (nI (q + 3))))]) (rest := []) (n := 3) ⟨hx, hb, hml, hown, hts⟩ (d_X7_drawn l E Zx vx (xs (Int32.toNatClampNeg (nI (q + 1)))) (xs (Int32.toNatClampNeg (nI (q + 2)))) (xs (Int32.toNatClampNeg (nI (q + 3)))) hsX) gL_law_X7_drawn rfl (by decide +kernel) ⟨Nat.le_of_ble_eq_true rfl, Nat.le_of_ble_eq_true rfl⟩ hK hw rfl hl.1 rfl (Nat.le_of_ble_eq_true rfl) dL_law_1200 rfl rfl ⟨Nat.le_of_ble_eq_true rfl, Nat.le_of_ble_eq_true rfl⟩ (fun rX vX H locs hp hw => ?_)
  obtain ⟨hp, rfl⟩ := hp
  have hzX : (some (rX, vx) : Option (Int32 × Mm)) = some (r1, vx1) := by rw [← hoX, show oX_drawn vx (xs (Int32.toNatClampNeg (nI (q + 1)))) (xs (Int32.toNatClampNeg (nI (q + 2)))) (xs (Int32.toNatClampNeg (nI (q + 3)))) = (g_X7_drawn vx (xs (Int32.toNatClampNeg (nI (q + 1)))) (xs (Int32.toNatClampNeg (nI (q + 2)))) (xs (Int32.toNatClampNeg (nI (q + 3))))).map (fun r => (r, vx)) from rfl, hp]; rfl
  obtain ⟨e1X, e2X⟩ := Prod.mk.inj (Option.some.inj hzX)
  subst e1X
  rw [← e2X] at hJ1
  refine lv_pop hx hb dL_law_1203 rfl ?_
  refine lv_aload_n hx hb dL_law_1204 rfl (lv_at hl 1 rfl) ?_
  refine lv_aload_n hx hb dL_law_1205 rfl (lv_at hl 3 rfl) ?_
  refine lv_iload_n hx hb dL_law_1206 rfl (lv_at hl 0 rfl) ?_
  refine lv_iconst (v := 1) hx hb dL_law_1207 (by decide) ?_
  refine lv_iadd hx hb dL_law_1208 ?_
  refine lv_topi (fun z3 ez3 => ?_)
  have ez3 : z3 = nI (q + 1) := ez3.trans (nI_add q 1)
  subst ez3
  refine va_sld hx hb hX hbl hbA hw.S (vp_in_nI (show q + 1 < L by omega) (by omega)) dL_law_1209 ?_
  refine lv_aload_n hx hb dL_law_1210 rfl (lv_at hl 3 rfl) ?_
  refine lv_iload_n hx hb dL_law_1211 rfl (lv_at hl 0 rfl) ?_
  refine lv_iconst (v := 2) hx hb dL_law_1212 (by decide) ?_
  refine lv_iadd hx hb dL_law_1213 ?_
  refine lv_topi (fun z4 ez4 => ?_)
  have ez4 : z4 = nI (q + 2) := ez4.trans (nI_add q 2)
  subst ez4
  refine va_sld hx hb hX hbl hbA hw.S (vp_in_nI (show q + 2 < L by omega) (by omega)) dL_law_1214 ?_
  refine lv_aload_n hx hb dL_law_1215 rfl (lv_at hl 3 rfl) ?_
  refine lv_iload_n hx hb dL_law_1216 rfl (lv_at hl 0 rfl) ?_
  refine lv_iconst (v := 3) hx hb dL_law_1217 (by decide) ?_
  refine lv_iadd hx hb dL_law_1218 ?_
  refine lv_topi (fun z5 ez5 => ?_)
  have ez5 : z5 = nI (q + 3) := ez5.trans (nI_add q 3)
  subst ez5
  refine va_sld hx hb hX hbl hbA hw.S (vp_in_nI (show q + 3 < L by omega) (by omega)) dL_law_1219 ?_
  have hsM : g_X8_drawn vm (xs (Int32.toNatClampNeg (nI (q + 1)))) (xs (Int32.toNatClampNeg (nI (q + 2)))) (xs (Int32.toNatClampNeg (nI (q + 3)))) ≠ none := fun h9 => by rw [show oM_drawn vm (xs (Int32.toNatClampNeg (nI (q + 1)))) (xs (Int32.toNatClampNeg (nI (q + 2)))) (xs (Int32.toNatClampNeg (nI (q + 3)))) = (g_X8_drawn vm (xs (Int32.toNatClampNeg (nI (q + 1)))) (xs (Int32.toNatClampNeg (nI (q + 2)))) (xs (Int32.toNatClampNeg (nI (q + 3))))).map (fun r => (r, vm)) from rfl, h9] at hoM; cases hoM
  refine tw_cM (As := [.int (xs (Int32.toNatClampNeg (nI (q + 1)))), .int (xs (Int32.toNatClampNeg (nI (q + 2)))), .int (xs (Int32.toNatClampNeg (nI (q + 3))))]) (rest := []) (n := 3) ⟨hx, hb, hml, hown, hts⟩ (d_X8_drawn l E Zm vm (xs (Int32.toNatClampNeg (nI (q + 1)))) (xs (Int32.toNatClampNeg (nI (q + 2)))) (xs (Int32.toNatClampNeg (nI (q + 3)))) hsM) gL_law_X8_drawn rfl (by decide +kernel) ⟨Nat.le_of_ble_eq_true rfl, Nat.le_of_ble_eq_true rfl⟩ hK hw rfl hl.1 rfl (Nat.le_of_ble_eq_true rfl) dL_law_1220 rfl rfl ⟨Nat.le_of_ble_eq_true rfl, Nat.le_of_ble_eq_true rfl⟩ (fun rM vM H locs hp hw => ?_)
  obtain ⟨hp, rfl⟩ := hp
  have hzM : (some (rM, vm) : Option (Int32 × Mm)) = some (r2, vm1) := by rw [← hoM, show oM_drawn vm (xs (Int32.toNatClampNeg (nI (q + 1)))) (xs (Int32.toNatClampNeg (nI (q + 2)))) (xs (Int32.toNatClampNeg (nI (q + 3)))) = (g_X8_drawn vm (xs (Int32.toNatClampNeg (nI (q + 1)))) (xs (Int32.toNatClampNeg (nI (q + 2)))) (xs (Int32.toNatClampNeg (nI (q + 3))))).map (fun r => (r, vm)) from rfl, hp]; rfl
  obtain ⟨e1M, e2M⟩ := Prod.mk.inj (Option.some.inj hzM)
  subst e1M
  rw [← e2M] at hJ1
  refine lv_pop hx hb dL_law_1223 rfl ?_
  refine lv_goto (tgt := 1421) hx hb dL_law_1224 (by decide) ?_
  exact kk _ _ _ _ _ hJ1 hw hl
set_option maxHeartbeats 4000000 in
set_option maxRecDepth 100000 in
theorem lk_31 {p : Program} {l : Launch} {e : Env} {s : State} {m : MethodId} {below : List Frame} {meth : Method} {c : Code} {b L : Nat} {xs : Nat → Int32} {E : kq_T} {H : Heap} {locs : List Loc} {ls : Array Slot} {Zx Zm : km_Z} {vx vm : Mm} {q : Nat} {J : Mm → Mm → Prop} {C : Prop} (hop : jop_image J C) (C0 : lw_At p s m meth c b L xs) (hK : kq_K E (fun q : Nat => s.heap.size ≤ q) s) (hq : q + 6 ≤ L) (hL : L ≤ 384) (hJ : J vx vm) (hw : tw E (fun q : Nat => s.heap.size ≤ q) s.heap Zx Zm vx vm H locs) (hl : lv_has ls 4 [(3, .int (nI q)), (2, .ref (Zm.1 30 0)), (1, .ref (Zx.1 0 0)), (0, .ref b)]) (kk : ∀ (vx1 vm1 : Mm) (H1 : Heap) (locs1 : List Loc) (ls1 : Array Slot), J vx1 vm1 → tw E (fun q : Nat => s.heap.size ≤ q) s.heap Zx Zm vx1 vm1 H1 locs1 → lv_has ls1 4 [(3, .int (nI q)), (2, .ref (Zm.1 30 0)), (1, .ref (Zx.1 0 0)), (0, .ref b)] → W p l e room_1 s m #[Value.ref b] below meth c H1 locs1 1000 10000 (lw_Z below #[Value.ref b] s) (F0 m 1421 ls1 [])) : W p l e room_1 s m #[Value.ref b] below meth c H locs 1000 10000 (lw_Z below #[Value.ref b] s) (F0 m 1227 ls []) := by
  obtain ⟨hx, hb, hr, hml, hown, hts, hX, hbl, hlocks, hgv⟩ := id C0
  have hown : s.vm.findClass RL = some m.cls := hown
  have hb : c.code = cL_law := hb
  have hts := fun w h => hts w (wsL_law_in w h)
  have hbA : ¬ (fun q : Nat => s.heap.size ≤ q) b := Nat.not_le.mpr hbl
  obtain ⟨r1, vx1, r2, vm1, hoX, hoM, hJ1, hC⟩ := hop vx vm (xs (Int32.toNatClampNeg (nI (q + 1)))) hJ
  refine lv_aload_n hx hb dL_law_1227 rfl (lv_at hl 2 rfl) ?_
  refine lv_aload_n hx hb dL_law_1228 rfl (lv_at hl 3 rfl) ?_
  refine lv_iload_n hx hb dL_law_1229 rfl (lv_at hl 0 rfl) ?_
  refine lv_iconst (v := 1) hx hb dL_law_1230 (by decide) ?_
  refine lv_iadd hx hb dL_law_1231 ?_
  refine lv_topi (fun z0 ez0 => ?_)
  have ez0 : z0 = nI (q + 1) := ez0.trans (nI_add q 1)
  subst ez0
  refine va_sld hx hb hX hbl hbA hw.S (vp_in_nI (show q + 1 < L by omega) (by omega)) dL_law_1232 ?_
  have hsX : g_X7_image vx (xs (Int32.toNatClampNeg (nI (q + 1)))) ≠ none := fun h9 => by rw [show oX_image vx (xs (Int32.toNatClampNeg (nI (q + 1)))) = g_X7_image vx (xs (Int32.toNatClampNeg (nI (q + 1)))) from rfl, h9] at hoX; cases hoX
  refine tw_cX (As := [.int (xs (Int32.toNatClampNeg (nI (q + 1))))]) (rest := []) (n := 1) ⟨hx, hb, hml, hown, hts⟩ (d_X7_image l E Zx vx (xs (Int32.toNatClampNeg (nI (q + 1)))) hsX) gL_law_X7_image rfl (by decide +kernel) ⟨Nat.le_of_ble_eq_true rfl, Nat.le_of_ble_eq_true rfl⟩ hK hw rfl hl.1 rfl (Nat.le_of_ble_eq_true rfl) dL_law_1233 rfl rfl ⟨Nat.le_of_ble_eq_true rfl, Nat.le_of_ble_eq_true rfl⟩ (fun rX vX H locs hp hw => ?_)
  have hzX : (some (rX, vX) : Option (Int32 × Mm)) = some (r1, vx1) := by rw [← hoX, show oX_image vx (xs (Int32.toNatClampNeg (nI (q + 1)))) = g_X7_image vx (xs (Int32.toNatClampNeg (nI (q + 1)))) from rfl, hp]
  obtain ⟨e1X, e2X⟩ := Prod.mk.inj (Option.some.inj hzX)
  subst e1X
  rw [e2X] at hw
  refine lv_pop hx hb dL_law_1236 rfl ?_
  refine lv_aload_n hx hb dL_law_1237 rfl (lv_at hl 1 rfl) ?_
  refine lv_aload_n hx hb dL_law_1238 rfl (lv_at hl 3 rfl) ?_
  refine lv_iload_n hx hb dL_law_1239 rfl (lv_at hl 0 rfl) ?_
  refine lv_iconst (v := 1) hx hb dL_law_1240 (by decide) ?_
  refine lv_iadd hx hb dL_law_1241 ?_
  refine lv_topi (fun z1 ez1 => ?_)
  have ez1 : z1 = nI (q + 1) := ez1.trans (nI_add q 1)
  subst ez1
  refine va_sld hx hb hX hbl hbA hw.S (vp_in_nI (show q + 1 < L by omega) (by omega)) dL_law_1242 ?_
  have hsM : g_X8_image vm (xs (Int32.toNatClampNeg (nI (q + 1)))) ≠ none := fun h9 => by rw [show oM_image vm (xs (Int32.toNatClampNeg (nI (q + 1)))) = g_X8_image vm (xs (Int32.toNatClampNeg (nI (q + 1)))) from rfl, h9] at hoM; cases hoM
  refine tw_cM (As := [.int (xs (Int32.toNatClampNeg (nI (q + 1))))]) (rest := []) (n := 1) ⟨hx, hb, hml, hown, hts⟩ (d_X8_image l E Zm vm (xs (Int32.toNatClampNeg (nI (q + 1)))) hsM) gL_law_X8_image rfl (by decide +kernel) ⟨Nat.le_of_ble_eq_true rfl, Nat.le_of_ble_eq_true rfl⟩ hK hw rfl hl.1 rfl (Nat.le_of_ble_eq_true rfl) dL_law_1243 rfl rfl ⟨Nat.le_of_ble_eq_true rfl, Nat.le_of_ble_eq_true rfl⟩ (fun rM vM H locs hp hw => ?_)
  have hzM : (some (rM, vM) : Option (Int32 × Mm)) = some (r2, vm1) := by rw [← hoM, show oM_image vm (xs (Int32.toNatClampNeg (nI (q + 1)))) = g_X8_image vm (xs (Int32.toNatClampNeg (nI (q + 1)))) from rfl, hp]
  obtain ⟨e1M, e2M⟩ := Prod.mk.inj (Option.some.inj hzM)
  subst e1M
  rw [e2M] at hw
  refine lv_pop hx hb dL_law_1246 rfl ?_
  refine lv_goto (tgt := 1421) hx hb dL_law_1247 (by decide) ?_
  exact kk _ _ _ _ _ hJ1 hw hl
set_option maxHeartbeats 4000000 in
set_option maxRecDepth 100000 in
theorem lk_32 {p : Program} {l : Launch} {e : Env} {s : State} {m : MethodId} {below : List Frame} {meth : Method} {c : Code} {b L : Nat} {xs : Nat → Int32} {E : kq_T} {H : Heap} {locs : List Loc} {ls : Array Slot} {Zx Zm : km_Z} {vx vm : Mm} {q : Nat} {J : Mm → Mm → Prop} {C : Prop} (hop : jop_restore J C) (C0 : lw_At p s m meth c b L xs) (hK : kq_K E (fun q : Nat => s.heap.size ≤ q) s) (hq : q + 6 ≤ L) (hL : L ≤ 384) (hJ : J vx vm) (hw : tw E (fun q : Nat => s.heap.size ≤ q) s.heap Zx Zm vx vm H locs) (hl : lv_has ls 4 [(3, .int (nI q)), (2, .ref (Zm.1 30 0)), (1, .ref (Zx.1 0 0)), (0, .ref b)]) (kk : ∀ (vx1 vm1 : Mm) (H1 : Heap) (locs1 : List Loc) (ls1 : Array Slot), J vx1 vm1 → tw E (fun q : Nat => s.heap.size ≤ q) s.heap Zx Zm vx1 vm1 H1 locs1 → lv_has ls1 4 [(3, .int (nI q)), (2, .ref (Zm.1 30 0)), (1, .ref (Zx.1 0 0)), (0, .ref b)] → W p l e room_1 s m #[Value.ref b] below meth c H1 locs1 1000 10000 (lw_Z below #[Value.ref b] s) (F0 m 1421 ls1 [])) : W p l e room_1 s m #[Value.ref b] below meth c H locs 1000 10000 (lw_Z below #[Value.ref b] s) (F0 m 1250 ls []) := by
  obtain ⟨hx, hb, hr, hml, hown, hts, hX, hbl, hlocks, hgv⟩ := id C0
  have hown : s.vm.findClass RL = some m.cls := hown
  have hb : c.code = cL_law := hb
  have hts := fun w h => hts w (wsL_law_in w h)
  have hbA : ¬ (fun q : Nat => s.heap.size ≤ q) b := Nat.not_le.mpr hbl
  obtain ⟨r1, vx1, r2, vm1, hoX, hoM, hJ1, hC⟩ := hop vx vm (xs (Int32.toNatClampNeg (nI (q + 1)))) hJ
  refine lv_aload_n hx hb dL_law_1250 rfl (lv_at hl 2 rfl) ?_
  refine lv_aload_n hx hb dL_law_1251 rfl (lv_at hl 3 rfl) ?_
  refine lv_iload_n hx hb dL_law_1252 rfl (lv_at hl 0 rfl) ?_
  refine lv_iconst (v := 1) hx hb dL_law_1253 (by decide) ?_
  refine lv_iadd hx hb dL_law_1254 ?_
  refine lv_topi (fun z0 ez0 => ?_)
  have ez0 : z0 = nI (q + 1) := ez0.trans (nI_add q 1)
  subst ez0
  refine va_sld hx hb hX hbl hbA hw.S (vp_in_nI (show q + 1 < L by omega) (by omega)) dL_law_1255 ?_
  have hsX : g_X7_restore vx (xs (Int32.toNatClampNeg (nI (q + 1)))) ≠ none := fun h9 => by rw [show oX_restore vx (xs (Int32.toNatClampNeg (nI (q + 1)))) = g_X7_restore vx (xs (Int32.toNatClampNeg (nI (q + 1)))) from rfl, h9] at hoX; cases hoX
  refine tw_cX (As := [.int (xs (Int32.toNatClampNeg (nI (q + 1))))]) (rest := []) (n := 1) ⟨hx, hb, hml, hown, hts⟩ (d_X7_restore l E Zx vx (xs (Int32.toNatClampNeg (nI (q + 1)))) hsX) gL_law_X7_restore rfl (by decide +kernel) ⟨Nat.le_of_ble_eq_true rfl, Nat.le_of_ble_eq_true rfl⟩ hK hw rfl hl.1 rfl (Nat.le_of_ble_eq_true rfl) dL_law_1256 rfl rfl ⟨Nat.le_of_ble_eq_true rfl, Nat.le_of_ble_eq_true rfl⟩ (fun rX vX H locs hp hw => ?_)
  have hzX : (some (rX, vX) : Option (Int32 × Mm)) = some (r1, vx1) := by rw [← hoX, show oX_restore vx (xs (Int32.toNatClampNeg (nI (q + 1)))) = g_X7_restore vx (xs (Int32.toNatClampNeg (nI (q + 1)))) from rfl, hp]
  obtain ⟨e1X, e2X⟩ := Prod.mk.inj (Option.some.inj hzX)
  subst e1X
  rw [e2X] at hw
  refine lv_pop hx hb dL_law_1259 rfl ?_
  refine lv_aload_n hx hb dL_law_1260 rfl (lv_at hl 1 rfl) ?_
  refine lv_aload_n hx hb dL_law_1261 rfl (lv_at hl 3 rfl) ?_
  refine lv_iload_n hx hb dL_law_1262 rfl (lv_at hl 0 rfl) ?_
  refine lv_iconst (v := 1) hx hb dL_law_1263 (by decide) ?_
  refine lv_iadd hx hb dL_law_1264 ?_
  refine lv_topi (fun z1 ez1 => ?_)
  have ez1 : z1 = nI (q + 1) := ez1.trans (nI_add q 1)
  subst ez1
  refine va_sld hx hb hX hbl hbA hw.S (vp_in_nI (show q + 1 < L by omega) (by omega)) dL_law_1265 ?_
  have hsM : g_X8_restore vm (xs (Int32.toNatClampNeg (nI (q + 1)))) ≠ none := fun h9 => by rw [show oM_restore vm (xs (Int32.toNatClampNeg (nI (q + 1)))) = g_X8_restore vm (xs (Int32.toNatClampNeg (nI (q + 1)))) from rfl, h9] at hoM; cases hoM
  refine tw_cM (As := [.int (xs (Int32.toNatClampNeg (nI (q + 1))))]) (rest := []) (n := 1) ⟨hx, hb, hml, hown, hts⟩ (d_X8_restore l E Zm vm (xs (Int32.toNatClampNeg (nI (q + 1)))) hsM) gL_law_X8_restore rfl (by decide +kernel) ⟨Nat.le_of_ble_eq_true rfl, Nat.le_of_ble_eq_true rfl⟩ hK hw rfl hl.1 rfl (Nat.le_of_ble_eq_true rfl) dL_law_1266 rfl rfl ⟨Nat.le_of_ble_eq_true rfl, Nat.le_of_ble_eq_true rfl⟩ (fun rM vM H locs hp hw => ?_)
  have hzM : (some (rM, vM) : Option (Int32 × Mm)) = some (r2, vm1) := by rw [← hoM, show oM_restore vm (xs (Int32.toNatClampNeg (nI (q + 1)))) = g_X8_restore vm (xs (Int32.toNatClampNeg (nI (q + 1)))) from rfl, hp]
  obtain ⟨e1M, e2M⟩ := Prod.mk.inj (Option.some.inj hzM)
  subst e1M
  rw [e2M] at hw
  refine lv_pop hx hb dL_law_1269 rfl ?_
  refine lv_goto (tgt := 1421) hx hb dL_law_1270 (by decide) ?_
  exact kk _ _ _ _ _ hJ1 hw hl
set_option maxHeartbeats 4000000 in
set_option maxRecDepth 100000 in
theorem lk_33 {p : Program} {l : Launch} {e : Env} {s : State} {m : MethodId} {below : List Frame} {meth : Method} {c : Code} {b L : Nat} {xs : Nat → Int32} {E : kq_T} {H : Heap} {locs : List Loc} {ls : Array Slot} {Zx Zm : km_Z} {vx vm : Mm} {q : Nat} {J : Mm → Mm → Prop} {C : Prop} (hop : jop_kind J C) (C0 : lw_At p s m meth c b L xs) (hK : kq_K E (fun q : Nat => s.heap.size ≤ q) s) (hq : q + 6 ≤ L) (hL : L ≤ 384) (hJ : J vx vm) (hw : tw E (fun q : Nat => s.heap.size ≤ q) s.heap Zx Zm vx vm H locs) (hl : lv_has ls 4 [(3, .int (nI q)), (2, .ref (Zm.1 30 0)), (1, .ref (Zx.1 0 0)), (0, .ref b)]) (kk : ∀ (vx1 vm1 : Mm) (H1 : Heap) (locs1 : List Loc) (ls1 : Array Slot), J vx1 vm1 → tw E (fun q : Nat => s.heap.size ≤ q) s.heap Zx Zm vx1 vm1 H1 locs1 → lv_has ls1 4 [(3, .int (nI q)), (2, .ref (Zm.1 30 0)), (1, .ref (Zx.1 0 0)), (0, .ref b)] → W p l e room_1 s m #[Value.ref b] below meth c H1 locs1 1000 10000 (lw_Z below #[Value.ref b] s) (F0 m 1421 ls1 [])) : W p l e room_1 s m #[Value.ref b] below meth c H locs 1000 10000 (lw_Z below #[Value.ref b] s) (F0 m 1273 ls []) := by
  obtain ⟨hx, hb, hr, hml, hown, hts, hX, hbl, hlocks, hgv⟩ := id C0
  have hown : s.vm.findClass RL = some m.cls := hown
  have hb : c.code = cL_law := hb
  have hts := fun w h => hts w (wsL_law_in w h)
  have hbA : ¬ (fun q : Nat => s.heap.size ≤ q) b := Nat.not_le.mpr hbl
  obtain ⟨r1, vx1, r2, vm1, hoX, hoM, hJ1, hC⟩ := hop vx vm (xs (Int32.toNatClampNeg (nI (q + 1)))) hJ
  refine lv_aload_n hx hb dL_law_1273 rfl (lv_at hl 2 rfl) ?_
  refine lv_aload_n hx hb dL_law_1274 rfl (lv_at hl 3 rfl) ?_
  refine lv_iload_n hx hb dL_law_1275 rfl (lv_at hl 0 rfl) ?_
  refine lv_iconst (v := 1) hx hb dL_law_1276 (by decide) ?_
  refine lv_iadd hx hb dL_law_1277 ?_
  refine lv_topi (fun z0 ez0 => ?_)
  have ez0 : z0 = nI (q + 1) := ez0.trans (nI_add q 1)
  subst ez0
  refine va_sld hx hb hX hbl hbA hw.S (vp_in_nI (show q + 1 < L by omega) (by omega)) dL_law_1278 ?_
  have hsX : g_X7_kind vx (xs (Int32.toNatClampNeg (nI (q + 1)))) ≠ none := fun h9 => by rw [show oX_kind vx (xs (Int32.toNatClampNeg (nI (q + 1)))) = (g_X7_kind vx (xs (Int32.toNatClampNeg (nI (q + 1))))).map (fun r => (r, vx)) from rfl, h9] at hoX; cases hoX
  refine tw_cX (As := [.int (xs (Int32.toNatClampNeg (nI (q + 1))))]) (rest := []) (n := 1) ⟨hx, hb, hml, hown, hts⟩ (d_X7_kind l E Zx vx (xs (Int32.toNatClampNeg (nI (q + 1)))) hsX) gL_law_X7_kind rfl (by decide +kernel) ⟨Nat.le_of_ble_eq_true rfl, Nat.le_of_ble_eq_true rfl⟩ hK hw rfl hl.1 rfl (Nat.le_of_ble_eq_true rfl) dL_law_1279 rfl rfl ⟨Nat.le_of_ble_eq_true rfl, Nat.le_of_ble_eq_true rfl⟩ (fun rX vX H locs hp hw => ?_)
  obtain ⟨hp, rfl⟩ := hp
  have hzX : (some (rX, vx) : Option (Int32 × Mm)) = some (r1, vx1) := by rw [← hoX, show oX_kind vx (xs (Int32.toNatClampNeg (nI (q + 1)))) = (g_X7_kind vx (xs (Int32.toNatClampNeg (nI (q + 1))))).map (fun r => (r, vx)) from rfl, hp]; rfl
  obtain ⟨e1X, e2X⟩ := Prod.mk.inj (Option.some.inj hzX)
  subst e1X
  rw [← e2X] at hJ1
  refine lv_pop hx hb dL_law_1282 rfl ?_
  refine lv_aload_n hx hb dL_law_1283 rfl (lv_at hl 1 rfl) ?_
  refine lv_aload_n hx hb dL_law_1284 rfl (lv_at hl 3 rfl) ?_
  refine lv_iload_n hx hb dL_law_1285 rfl (lv_at hl 0 rfl) ?_
  refine lv_iconst (v := 1) hx hb dL_law_1286 (by decide) ?_
  refine lv_iadd hx hb dL_law_1287 ?_
  refine lv_topi (fun z1 ez1 => ?_)
  have ez1 : z1 = nI (q + 1) := ez1.trans (nI_add q 1)
  subst ez1
  refine va_sld hx hb hX hbl hbA hw.S (vp_in_nI (show q + 1 < L by omega) (by omega)) dL_law_1288 ?_
  have hsM : g_X8_kind vm (xs (Int32.toNatClampNeg (nI (q + 1)))) ≠ none := fun h9 => by rw [show oM_kind vm (xs (Int32.toNatClampNeg (nI (q + 1)))) = (g_X8_kind vm (xs (Int32.toNatClampNeg (nI (q + 1))))).map (fun r => (r, vm)) from rfl, h9] at hoM; cases hoM
  refine tw_cM (As := [.int (xs (Int32.toNatClampNeg (nI (q + 1))))]) (rest := []) (n := 1) ⟨hx, hb, hml, hown, hts⟩ (d_X8_kind l E Zm vm (xs (Int32.toNatClampNeg (nI (q + 1)))) hsM) gL_law_X8_kind rfl (by decide +kernel) ⟨Nat.le_of_ble_eq_true rfl, Nat.le_of_ble_eq_true rfl⟩ hK hw rfl hl.1 rfl (Nat.le_of_ble_eq_true rfl) dL_law_1289 rfl rfl ⟨Nat.le_of_ble_eq_true rfl, Nat.le_of_ble_eq_true rfl⟩ (fun rM vM H locs hp hw => ?_)
  obtain ⟨hp, rfl⟩ := hp
  have hzM : (some (rM, vm) : Option (Int32 × Mm)) = some (r2, vm1) := by rw [← hoM, show oM_kind vm (xs (Int32.toNatClampNeg (nI (q + 1)))) = (g_X8_kind vm (xs (Int32.toNatClampNeg (nI (q + 1))))).map (fun r => (r, vm)) from rfl, hp]; rfl
  obtain ⟨e1M, e2M⟩ := Prod.mk.inj (Option.some.inj hzM)
  subst e1M
  rw [← e2M] at hJ1
  refine lv_pop hx hb dL_law_1292 rfl ?_
  refine lv_goto (tgt := 1421) hx hb dL_law_1293 (by decide) ?_
  exact kk _ _ _ _ _ hJ1 hw hl
set_option maxHeartbeats 4000000 in
set_option maxRecDepth 100000 in
theorem lk_34 {p : Program} {l : Launch} {e : Env} {s : State} {m : MethodId} {below : List Frame} {meth : Method} {c : Code} {b L : Nat} {xs : Nat → Int32} {E : kq_T} {H : Heap} {locs : List Loc} {ls : Array Slot} {Zx Zm : km_Z} {vx vm : Mm} {q : Nat} {J : Mm → Mm → Prop} {C : Prop} (hop : jop_as J C) (C0 : lw_At p s m meth c b L xs) (hK : kq_K E (fun q : Nat => s.heap.size ≤ q) s) (hq : q + 6 ≤ L) (hL : L ≤ 384) (hJ : J vx vm) (hw : tw E (fun q : Nat => s.heap.size ≤ q) s.heap Zx Zm vx vm H locs) (hl : lv_has ls 4 [(3, .int (nI q)), (2, .ref (Zm.1 30 0)), (1, .ref (Zx.1 0 0)), (0, .ref b)]) (kk : ∀ (vx1 vm1 : Mm) (H1 : Heap) (locs1 : List Loc) (ls1 : Array Slot), J vx1 vm1 → tw E (fun q : Nat => s.heap.size ≤ q) s.heap Zx Zm vx1 vm1 H1 locs1 → lv_has ls1 4 [(3, .int (nI q)), (2, .ref (Zm.1 30 0)), (1, .ref (Zx.1 0 0)), (0, .ref b)] → W p l e room_1 s m #[Value.ref b] below meth c H1 locs1 1000 10000 (lw_Z below #[Value.ref b] s) (F0 m 1421 ls1 [])) : W p l e room_1 s m #[Value.ref b] below meth c H locs 1000 10000 (lw_Z below #[Value.ref b] s) (F0 m 1296 ls []) := by
  obtain ⟨hx, hb, hr, hml, hown, hts, hX, hbl, hlocks, hgv⟩ := id C0
  have hown : s.vm.findClass RL = some m.cls := hown
  have hb : c.code = cL_law := hb
  have hts := fun w h => hts w (wsL_law_in w h)
  have hbA : ¬ (fun q : Nat => s.heap.size ≤ q) b := Nat.not_le.mpr hbl
  obtain ⟨r1, vx1, r2, vm1, hoX, hoM, hJ1, hC⟩ := hop vx vm (xs (Int32.toNatClampNeg (nI (q + 1)))) (xs (Int32.toNatClampNeg (nI (q + 2)))) hJ
  refine lv_aload_n hx hb dL_law_1296 rfl (lv_at hl 2 rfl) ?_
  refine lv_aload_n hx hb dL_law_1297 rfl (lv_at hl 3 rfl) ?_
  refine lv_iload_n hx hb dL_law_1298 rfl (lv_at hl 0 rfl) ?_
  refine lv_iconst (v := 1) hx hb dL_law_1299 (by decide) ?_
  refine lv_iadd hx hb dL_law_1300 ?_
  refine lv_topi (fun z0 ez0 => ?_)
  have ez0 : z0 = nI (q + 1) := ez0.trans (nI_add q 1)
  subst ez0
  refine va_sld hx hb hX hbl hbA hw.S (vp_in_nI (show q + 1 < L by omega) (by omega)) dL_law_1301 ?_
  refine lv_aload_n hx hb dL_law_1302 rfl (lv_at hl 3 rfl) ?_
  refine lv_iload_n hx hb dL_law_1303 rfl (lv_at hl 0 rfl) ?_
  refine lv_iconst (v := 2) hx hb dL_law_1304 (by decide) ?_
  refine lv_iadd hx hb dL_law_1305 ?_
  refine lv_topi (fun z1 ez1 => ?_)
  have ez1 : z1 = nI (q + 2) := ez1.trans (nI_add q 2)
  subst ez1
  refine va_sld hx hb hX hbl hbA hw.S (vp_in_nI (show q + 2 < L by omega) (by omega)) dL_law_1306 ?_
  have hsX : g_X7_as vx (xs (Int32.toNatClampNeg (nI (q + 1)))) (xs (Int32.toNatClampNeg (nI (q + 2)))) ≠ none := fun h9 => by rw [show oX_as vx (xs (Int32.toNatClampNeg (nI (q + 1)))) (xs (Int32.toNatClampNeg (nI (q + 2)))) = g_X7_as vx (xs (Int32.toNatClampNeg (nI (q + 1)))) (xs (Int32.toNatClampNeg (nI (q + 2)))) from rfl, h9] at hoX; cases hoX
  refine tw_cX (As := [.int (xs (Int32.toNatClampNeg (nI (q + 1)))), .int (xs (Int32.toNatClampNeg (nI (q + 2))))]) (rest := []) (n := 2) ⟨hx, hb, hml, hown, hts⟩ (d_X7_as l E Zx vx (xs (Int32.toNatClampNeg (nI (q + 1)))) (xs (Int32.toNatClampNeg (nI (q + 2)))) hsX) gL_law_X7_as rfl (by decide +kernel) ⟨Nat.le_of_ble_eq_true rfl, Nat.le_of_ble_eq_true rfl⟩ hK hw rfl hl.1 rfl (Nat.le_of_ble_eq_true rfl) dL_law_1307 rfl rfl ⟨Nat.le_of_ble_eq_true rfl, Nat.le_of_ble_eq_true rfl⟩ (fun rX vX H locs hp hw => ?_)
  have hzX : (some (rX, vX) : Option (Int32 × Mm)) = some (r1, vx1) := by rw [← hoX, show oX_as vx (xs (Int32.toNatClampNeg (nI (q + 1)))) (xs (Int32.toNatClampNeg (nI (q + 2)))) = g_X7_as vx (xs (Int32.toNatClampNeg (nI (q + 1)))) (xs (Int32.toNatClampNeg (nI (q + 2)))) from rfl, hp]
  obtain ⟨e1X, e2X⟩ := Prod.mk.inj (Option.some.inj hzX)
  subst e1X
  rw [e2X] at hw
  refine lv_pop hx hb dL_law_1310 rfl ?_
  refine lv_aload_n hx hb dL_law_1311 rfl (lv_at hl 1 rfl) ?_
  refine lv_aload_n hx hb dL_law_1312 rfl (lv_at hl 3 rfl) ?_
  refine lv_iload_n hx hb dL_law_1313 rfl (lv_at hl 0 rfl) ?_
  refine lv_iconst (v := 1) hx hb dL_law_1314 (by decide) ?_
  refine lv_iadd hx hb dL_law_1315 ?_
  refine lv_topi (fun z2 ez2 => ?_)
  have ez2 : z2 = nI (q + 1) := ez2.trans (nI_add q 1)
  subst ez2
  refine va_sld hx hb hX hbl hbA hw.S (vp_in_nI (show q + 1 < L by omega) (by omega)) dL_law_1316 ?_
  refine lv_aload_n hx hb dL_law_1317 rfl (lv_at hl 3 rfl) ?_
  refine lv_iload_n hx hb dL_law_1318 rfl (lv_at hl 0 rfl) ?_
  refine lv_iconst (v := 2) hx hb dL_law_1319 (by decide) ?_
  refine lv_iadd hx hb dL_law_1320 ?_
  refine lv_topi (fun z3 ez3 => ?_)
  have ez3 : z3 = nI (q + 2) := ez3.trans (nI_add q 2)
  subst ez3
  refine va_sld hx hb hX hbl hbA hw.S (vp_in_nI (show q + 2 < L by omega) (by omega)) dL_law_1321 ?_
  have hsM : g_X8_as vm (xs (Int32.toNatClampNeg (nI (q + 1)))) (xs (Int32.toNatClampNeg (nI (q + 2)))) ≠ none := fun h9 => by rw [show oM_as vm (xs (Int32.toNatClampNeg (nI (q + 1)))) (xs (Int32.toNatClampNeg (nI (q + 2)))) = g_X8_as vm (xs (Int32.toNatClampNeg (nI (q + 1)))) (xs (Int32.toNatClampNeg (nI (q + 2)))) from rfl, h9] at hoM; cases hoM
  refine tw_cM (As := [.int (xs (Int32.toNatClampNeg (nI (q + 1)))), .int (xs (Int32.toNatClampNeg (nI (q + 2))))]) (rest := []) (n := 2) ⟨hx, hb, hml, hown, hts⟩ (d_X8_as l E Zm vm (xs (Int32.toNatClampNeg (nI (q + 1)))) (xs (Int32.toNatClampNeg (nI (q + 2)))) hsM) gL_law_X8_as rfl (by decide +kernel) ⟨Nat.le_of_ble_eq_true rfl, Nat.le_of_ble_eq_true rfl⟩ hK hw rfl hl.1 rfl (Nat.le_of_ble_eq_true rfl) dL_law_1322 rfl rfl ⟨Nat.le_of_ble_eq_true rfl, Nat.le_of_ble_eq_true rfl⟩ (fun rM vM H locs hp hw => ?_)
  have hzM : (some (rM, vM) : Option (Int32 × Mm)) = some (r2, vm1) := by rw [← hoM, show oM_as vm (xs (Int32.toNatClampNeg (nI (q + 1)))) (xs (Int32.toNatClampNeg (nI (q + 2)))) = g_X8_as vm (xs (Int32.toNatClampNeg (nI (q + 1)))) (xs (Int32.toNatClampNeg (nI (q + 2)))) from rfl, hp]
  obtain ⟨e1M, e2M⟩ := Prod.mk.inj (Option.some.inj hzM)
  subst e1M
  rw [e2M] at hw
  refine lv_pop hx hb dL_law_1325 rfl ?_
  refine lv_goto (tgt := 1421) hx hb dL_law_1326 (by decide) ?_
  exact kk _ _ _ _ _ hJ1 hw hl
set_option maxHeartbeats 4000000 in
set_option maxRecDepth 100000 in
theorem lk_35 {p : Program} {l : Launch} {e : Env} {s : State} {m : MethodId} {below : List Frame} {meth : Method} {c : Code} {b L : Nat} {xs : Nat → Int32} {E : kq_T} {H : Heap} {locs : List Loc} {ls : Array Slot} {Zx Zm : km_Z} {vx vm : Mm} {q : Nat} {J : Mm → Mm → Prop} {C : Prop} (hop : jop_ask J C) (C0 : lw_At p s m meth c b L xs) (hK : kq_K E (fun q : Nat => s.heap.size ≤ q) s) (hq : q + 6 ≤ L) (hL : L ≤ 384) (hJ : J vx vm) (hw : tw E (fun q : Nat => s.heap.size ≤ q) s.heap Zx Zm vx vm H locs) (hl : lv_has ls 4 [(3, .int (nI q)), (2, .ref (Zm.1 30 0)), (1, .ref (Zx.1 0 0)), (0, .ref b)]) (kk : ∀ (vx1 vm1 : Mm) (H1 : Heap) (locs1 : List Loc) (ls1 : Array Slot), J vx1 vm1 → tw E (fun q : Nat => s.heap.size ≤ q) s.heap Zx Zm vx1 vm1 H1 locs1 → lv_has ls1 4 [(3, .int (nI q)), (2, .ref (Zm.1 30 0)), (1, .ref (Zx.1 0 0)), (0, .ref b)] → W p l e room_1 s m #[Value.ref b] below meth c H1 locs1 1000 10000 (lw_Z below #[Value.ref b] s) (F0 m 1421 ls1 [])) : W p l e room_1 s m #[Value.ref b] below meth c H locs 1000 10000 (lw_Z below #[Value.ref b] s) (F0 m 1329 ls []) := by
  obtain ⟨hx, hb, hr, hml, hown, hts, hX, hbl, hlocks, hgv⟩ := id C0
  have hown : s.vm.findClass RL = some m.cls := hown
  have hb : c.code = cL_law := hb
  have hts := fun w h => hts w (wsL_law_in w h)
  have hbA : ¬ (fun q : Nat => s.heap.size ≤ q) b := Nat.not_le.mpr hbl
  obtain ⟨r1, vx1, r2, vm1, hoX, hoM, hJ1, hC⟩ := hop vx vm (xs (Int32.toNatClampNeg (nI (q + 1)))) (xs (Int32.toNatClampNeg (nI (q + 2)))) hJ
  refine lv_aload_n hx hb dL_law_1329 rfl (lv_at hl 2 rfl) ?_
  refine lv_aload_n hx hb dL_law_1330 rfl (lv_at hl 3 rfl) ?_
  refine lv_iload_n hx hb dL_law_1331 rfl (lv_at hl 0 rfl) ?_
  refine lv_iconst (v := 1) hx hb dL_law_1332 (by decide) ?_
  refine lv_iadd hx hb dL_law_1333 ?_
  refine lv_topi (fun z0 ez0 => ?_)
  have ez0 : z0 = nI (q + 1) := ez0.trans (nI_add q 1)
  subst ez0
  refine va_sld hx hb hX hbl hbA hw.S (vp_in_nI (show q + 1 < L by omega) (by omega)) dL_law_1334 ?_
  refine lv_aload_n hx hb dL_law_1335 rfl (lv_at hl 3 rfl) ?_
  refine lv_iload_n hx hb dL_law_1336 rfl (lv_at hl 0 rfl) ?_
  refine lv_iconst (v := 2) hx hb dL_law_1337 (by decide) ?_
  refine lv_iadd hx hb dL_law_1338 ?_
  refine lv_topi (fun z1 ez1 => ?_)
  have ez1 : z1 = nI (q + 2) := ez1.trans (nI_add q 2)
  subst ez1
  refine va_sld hx hb hX hbl hbA hw.S (vp_in_nI (show q + 2 < L by omega) (by omega)) dL_law_1339 ?_
  have hsX : g_X7_ask vx (xs (Int32.toNatClampNeg (nI (q + 1)))) (xs (Int32.toNatClampNeg (nI (q + 2)))) ≠ none := fun h9 => by rw [show oX_ask vx (xs (Int32.toNatClampNeg (nI (q + 1)))) (xs (Int32.toNatClampNeg (nI (q + 2)))) = g_X7_ask vx (xs (Int32.toNatClampNeg (nI (q + 1)))) (xs (Int32.toNatClampNeg (nI (q + 2)))) from rfl, h9] at hoX; cases hoX
  refine tw_cX (As := [.int (xs (Int32.toNatClampNeg (nI (q + 1)))), .int (xs (Int32.toNatClampNeg (nI (q + 2))))]) (rest := []) (n := 2) ⟨hx, hb, hml, hown, hts⟩ (d_X7_ask l E Zx vx (xs (Int32.toNatClampNeg (nI (q + 1)))) (xs (Int32.toNatClampNeg (nI (q + 2)))) hsX) gL_law_X7_ask rfl (by decide +kernel) ⟨Nat.le_of_ble_eq_true rfl, Nat.le_of_ble_eq_true rfl⟩ hK hw rfl hl.1 rfl (Nat.le_of_ble_eq_true rfl) dL_law_1340 rfl rfl ⟨Nat.le_of_ble_eq_true rfl, Nat.le_of_ble_eq_true rfl⟩ (fun rX vX H locs hp hw => ?_)
  have hzX : (some (rX, vX) : Option (Int32 × Mm)) = some (r1, vx1) := by rw [← hoX, show oX_ask vx (xs (Int32.toNatClampNeg (nI (q + 1)))) (xs (Int32.toNatClampNeg (nI (q + 2)))) = g_X7_ask vx (xs (Int32.toNatClampNeg (nI (q + 1)))) (xs (Int32.toNatClampNeg (nI (q + 2)))) from rfl, hp]
  obtain ⟨e1X, e2X⟩ := Prod.mk.inj (Option.some.inj hzX)
  subst e1X
  rw [e2X] at hw
  refine lv_pop hx hb dL_law_1343 rfl ?_
  refine lv_aload_n hx hb dL_law_1344 rfl (lv_at hl 1 rfl) ?_
  refine lv_aload_n hx hb dL_law_1345 rfl (lv_at hl 3 rfl) ?_
  refine lv_iload_n hx hb dL_law_1346 rfl (lv_at hl 0 rfl) ?_
  refine lv_iconst (v := 1) hx hb dL_law_1347 (by decide) ?_
  refine lv_iadd hx hb dL_law_1348 ?_
  refine lv_topi (fun z2 ez2 => ?_)
  have ez2 : z2 = nI (q + 1) := ez2.trans (nI_add q 1)
  subst ez2
  refine va_sld hx hb hX hbl hbA hw.S (vp_in_nI (show q + 1 < L by omega) (by omega)) dL_law_1349 ?_
  refine lv_aload_n hx hb dL_law_1350 rfl (lv_at hl 3 rfl) ?_
  refine lv_iload_n hx hb dL_law_1351 rfl (lv_at hl 0 rfl) ?_
  refine lv_iconst (v := 2) hx hb dL_law_1352 (by decide) ?_
  refine lv_iadd hx hb dL_law_1353 ?_
  refine lv_topi (fun z3 ez3 => ?_)
  have ez3 : z3 = nI (q + 2) := ez3.trans (nI_add q 2)
  subst ez3
  refine va_sld hx hb hX hbl hbA hw.S (vp_in_nI (show q + 2 < L by omega) (by omega)) dL_law_1354 ?_
  have hsM : g_X8_ask vm (xs (Int32.toNatClampNeg (nI (q + 1)))) (xs (Int32.toNatClampNeg (nI (q + 2)))) ≠ none := fun h9 => by rw [show oM_ask vm (xs (Int32.toNatClampNeg (nI (q + 1)))) (xs (Int32.toNatClampNeg (nI (q + 2)))) = g_X8_ask vm (xs (Int32.toNatClampNeg (nI (q + 1)))) (xs (Int32.toNatClampNeg (nI (q + 2)))) from rfl, h9] at hoM; cases hoM
  refine tw_cM (As := [.int (xs (Int32.toNatClampNeg (nI (q + 1)))), .int (xs (Int32.toNatClampNeg (nI (q + 2))))]) (rest := []) (n := 2) ⟨hx, hb, hml, hown, hts⟩ (d_X8_ask l E Zm vm (xs (Int32.toNatClampNeg (nI (q + 1)))) (xs (Int32.toNatClampNeg (nI (q + 2)))) hsM) gL_law_X8_ask rfl (by decide +kernel) ⟨Nat.le_of_ble_eq_true rfl, Nat.le_of_ble_eq_true rfl⟩ hK hw rfl hl.1 rfl (Nat.le_of_ble_eq_true rfl) dL_law_1355 rfl rfl ⟨Nat.le_of_ble_eq_true rfl, Nat.le_of_ble_eq_true rfl⟩ (fun rM vM H locs hp hw => ?_)
  have hzM : (some (rM, vM) : Option (Int32 × Mm)) = some (r2, vm1) := by rw [← hoM, show oM_ask vm (xs (Int32.toNatClampNeg (nI (q + 1)))) (xs (Int32.toNatClampNeg (nI (q + 2)))) = g_X8_ask vm (xs (Int32.toNatClampNeg (nI (q + 1)))) (xs (Int32.toNatClampNeg (nI (q + 2)))) from rfl, hp]
  obtain ⟨e1M, e2M⟩ := Prod.mk.inj (Option.some.inj hzM)
  subst e1M
  rw [e2M] at hw
  refine lv_pop hx hb dL_law_1358 rfl ?_
  refine lv_goto (tgt := 1421) hx hb dL_law_1359 (by decide) ?_
  exact kk _ _ _ _ _ hJ1 hw hl
set_option maxHeartbeats 4000000 in
set_option maxRecDepth 100000 in
theorem lk_36 {p : Program} {l : Launch} {e : Env} {s : State} {m : MethodId} {below : List Frame} {meth : Method} {c : Code} {b L : Nat} {xs : Nat → Int32} {E : kq_T} {H : Heap} {locs : List Loc} {ls : Array Slot} {Zx Zm : km_Z} {vx vm : Mm} {q : Nat} {J : Mm → Mm → Prop} {C : Prop} (hop : jop_trace J C) (C0 : lw_At p s m meth c b L xs) (hK : kq_K E (fun q : Nat => s.heap.size ≤ q) s) (hq : q + 6 ≤ L) (hL : L ≤ 384) (hJ : J vx vm) (hw : tw E (fun q : Nat => s.heap.size ≤ q) s.heap Zx Zm vx vm H locs) (hl : lv_has ls 4 [(3, .int (nI q)), (2, .ref (Zm.1 30 0)), (1, .ref (Zx.1 0 0)), (0, .ref b)]) (kk : ∀ (vx1 vm1 : Mm) (H1 : Heap) (locs1 : List Loc) (ls1 : Array Slot), J vx1 vm1 → tw E (fun q : Nat => s.heap.size ≤ q) s.heap Zx Zm vx1 vm1 H1 locs1 → lv_has ls1 4 [(3, .int (nI q)), (2, .ref (Zm.1 30 0)), (1, .ref (Zx.1 0 0)), (0, .ref b)] → W p l e room_1 s m #[Value.ref b] below meth c H1 locs1 1000 10000 (lw_Z below #[Value.ref b] s) (F0 m 1421 ls1 [])) : W p l e room_1 s m #[Value.ref b] below meth c H locs 1000 10000 (lw_Z below #[Value.ref b] s) (F0 m 1362 ls []) := by
  obtain ⟨hx, hb, hr, hml, hown, hts, hX, hbl, hlocks, hgv⟩ := id C0
  have hown : s.vm.findClass RL = some m.cls := hown
  have hb : c.code = cL_law := hb
  have hts := fun w h => hts w (wsL_law_in w h)
  have hbA : ¬ (fun q : Nat => s.heap.size ≤ q) b := Nat.not_le.mpr hbl
  obtain ⟨r1, vx1, r2, vm1, hoX, hoM, hJ1, hC⟩ := hop vx vm (xs (Int32.toNatClampNeg (nI (q + 1)))) hJ
  refine lv_aload_n hx hb dL_law_1362 rfl (lv_at hl 2 rfl) ?_
  refine lv_aload_n hx hb dL_law_1363 rfl (lv_at hl 3 rfl) ?_
  refine lv_iload_n hx hb dL_law_1364 rfl (lv_at hl 0 rfl) ?_
  refine lv_iconst (v := 1) hx hb dL_law_1365 (by decide) ?_
  refine lv_iadd hx hb dL_law_1366 ?_
  refine lv_topi (fun z0 ez0 => ?_)
  have ez0 : z0 = nI (q + 1) := ez0.trans (nI_add q 1)
  subst ez0
  refine va_sld hx hb hX hbl hbA hw.S (vp_in_nI (show q + 1 < L by omega) (by omega)) dL_law_1367 ?_
  have hsX : g_X7_trace vx (xs (Int32.toNatClampNeg (nI (q + 1)))) ≠ none := fun h9 => by rw [show oX_trace vx (xs (Int32.toNatClampNeg (nI (q + 1)))) = (g_X7_trace vx (xs (Int32.toNatClampNeg (nI (q + 1))))).map (fun r => (r, vx)) from rfl, h9] at hoX; cases hoX
  refine tw_cX (As := [.int (xs (Int32.toNatClampNeg (nI (q + 1))))]) (rest := []) (n := 1) ⟨hx, hb, hml, hown, hts⟩ (d_X7_trace l E Zx vx (xs (Int32.toNatClampNeg (nI (q + 1)))) hsX) gL_law_X7_trace rfl (by decide +kernel) ⟨Nat.le_of_ble_eq_true rfl, Nat.le_of_ble_eq_true rfl⟩ hK hw rfl hl.1 rfl (Nat.le_of_ble_eq_true rfl) dL_law_1368 rfl rfl ⟨Nat.le_of_ble_eq_true rfl, Nat.le_of_ble_eq_true rfl⟩ (fun rX vX H locs hp hw => ?_)
  obtain ⟨hp, rfl⟩ := hp
  have hzX : (some (rX, vx) : Option (Int32 × Mm)) = some (r1, vx1) := by rw [← hoX, show oX_trace vx (xs (Int32.toNatClampNeg (nI (q + 1)))) = (g_X7_trace vx (xs (Int32.toNatClampNeg (nI (q + 1))))).map (fun r => (r, vx)) from rfl, hp]; rfl
  obtain ⟨e1X, e2X⟩ := Prod.mk.inj (Option.some.inj hzX)
  subst e1X
  rw [← e2X] at hJ1
  refine lv_pop hx hb dL_law_1371 rfl ?_
  refine lv_aload_n hx hb dL_law_1372 rfl (lv_at hl 1 rfl) ?_
  refine lv_aload_n hx hb dL_law_1373 rfl (lv_at hl 3 rfl) ?_
  refine lv_iload_n hx hb dL_law_1374 rfl (lv_at hl 0 rfl) ?_
  refine lv_iconst (v := 1) hx hb dL_law_1375 (by decide) ?_
  refine lv_iadd hx hb dL_law_1376 ?_
  refine lv_topi (fun z1 ez1 => ?_)
  have ez1 : z1 = nI (q + 1) := ez1.trans (nI_add q 1)
  subst ez1
  refine va_sld hx hb hX hbl hbA hw.S (vp_in_nI (show q + 1 < L by omega) (by omega)) dL_law_1377 ?_
  have hsM : g_X8_trace vm (xs (Int32.toNatClampNeg (nI (q + 1)))) ≠ none := fun h9 => by rw [show oM_trace vm (xs (Int32.toNatClampNeg (nI (q + 1)))) = (g_X8_trace vm (xs (Int32.toNatClampNeg (nI (q + 1))))).map (fun r => (r, vm)) from rfl, h9] at hoM; cases hoM
  refine tw_cM (As := [.int (xs (Int32.toNatClampNeg (nI (q + 1))))]) (rest := []) (n := 1) ⟨hx, hb, hml, hown, hts⟩ (d_X8_trace l E Zm vm (xs (Int32.toNatClampNeg (nI (q + 1)))) hsM) gL_law_X8_trace rfl (by decide +kernel) ⟨Nat.le_of_ble_eq_true rfl, Nat.le_of_ble_eq_true rfl⟩ hK hw rfl hl.1 rfl (Nat.le_of_ble_eq_true rfl) dL_law_1378 rfl rfl ⟨Nat.le_of_ble_eq_true rfl, Nat.le_of_ble_eq_true rfl⟩ (fun rM vM H locs hp hw => ?_)
  obtain ⟨hp, rfl⟩ := hp
  have hzM : (some (rM, vm) : Option (Int32 × Mm)) = some (r2, vm1) := by rw [← hoM, show oM_trace vm (xs (Int32.toNatClampNeg (nI (q + 1)))) = (g_X8_trace vm (xs (Int32.toNatClampNeg (nI (q + 1))))).map (fun r => (r, vm)) from rfl, hp]; rfl
  obtain ⟨e1M, e2M⟩ := Prod.mk.inj (Option.some.inj hzM)
  subst e1M
  rw [← e2M] at hJ1
  refine lv_pop hx hb dL_law_1381 rfl ?_
  refine lv_goto (tgt := 1421) hx hb dL_law_1382 (by decide) ?_
  exact kk _ _ _ _ _ hJ1 hw hl
set_option maxHeartbeats 4000000 in
set_option maxRecDepth 100000 in
theorem lk_37 {p : Program} {l : Launch} {e : Env} {s : State} {m : MethodId} {below : List Frame} {meth : Method} {c : Code} {b L : Nat} {xs : Nat → Int32} {E : kq_T} {H : Heap} {locs : List Loc} {ls : Array Slot} {Zx Zm : km_Z} {vx vm : Mm} {q : Nat} {J : Mm → Mm → Prop} {C : Prop} (hop : jop_count J C) (C0 : lw_At p s m meth c b L xs) (hK : kq_K E (fun q : Nat => s.heap.size ≤ q) s) (hq : q + 6 ≤ L) (hL : L ≤ 384) (hJ : J vx vm) (hw : tw E (fun q : Nat => s.heap.size ≤ q) s.heap Zx Zm vx vm H locs) (hl : lv_has ls 4 [(3, .int (nI q)), (2, .ref (Zm.1 30 0)), (1, .ref (Zx.1 0 0)), (0, .ref b)]) (kk : ∀ (vx1 vm1 : Mm) (H1 : Heap) (locs1 : List Loc) (ls1 : Array Slot), J vx1 vm1 → tw E (fun q : Nat => s.heap.size ≤ q) s.heap Zx Zm vx1 vm1 H1 locs1 → lv_has ls1 4 [(3, .int (nI q)), (2, .ref (Zm.1 30 0)), (1, .ref (Zx.1 0 0)), (0, .ref b)] → W p l e room_1 s m #[Value.ref b] below meth c H1 locs1 1000 10000 (lw_Z below #[Value.ref b] s) (F0 m 1421 ls1 [])) : W p l e room_1 s m #[Value.ref b] below meth c H locs 1000 10000 (lw_Z below #[Value.ref b] s) (F0 m 1385 ls []) := by
  obtain ⟨hx, hb, hr, hml, hown, hts, hX, hbl, hlocks, hgv⟩ := id C0
  have hown : s.vm.findClass RL = some m.cls := hown
  have hb : c.code = cL_law := hb
  have hts := fun w h => hts w (wsL_law_in w h)
  have hbA : ¬ (fun q : Nat => s.heap.size ≤ q) b := Nat.not_le.mpr hbl
  obtain ⟨r1, vx1, r2, vm1, hoX, hoM, hJ1, hC⟩ := hop vx vm (xs (Int32.toNatClampNeg (nI (q + 1)))) hJ
  refine lv_aload_n hx hb dL_law_1385 rfl (lv_at hl 2 rfl) ?_
  refine lv_aload_n hx hb dL_law_1386 rfl (lv_at hl 3 rfl) ?_
  refine lv_iload_n hx hb dL_law_1387 rfl (lv_at hl 0 rfl) ?_
  refine lv_iconst (v := 1) hx hb dL_law_1388 (by decide) ?_
  refine lv_iadd hx hb dL_law_1389 ?_
  refine lv_topi (fun z0 ez0 => ?_)
  have ez0 : z0 = nI (q + 1) := ez0.trans (nI_add q 1)
  subst ez0
  refine va_sld hx hb hX hbl hbA hw.S (vp_in_nI (show q + 1 < L by omega) (by omega)) dL_law_1390 ?_
  have hsX : g_X7_count vx (xs (Int32.toNatClampNeg (nI (q + 1)))) ≠ none := fun h9 => by rw [show oX_count vx (xs (Int32.toNatClampNeg (nI (q + 1)))) = (g_X7_count vx (xs (Int32.toNatClampNeg (nI (q + 1))))).map (fun r => (r, vx)) from rfl, h9] at hoX; cases hoX
  refine tw_cX (As := [.int (xs (Int32.toNatClampNeg (nI (q + 1))))]) (rest := []) (n := 1) ⟨hx, hb, hml, hown, hts⟩ (d_X7_count l E Zx vx (xs (Int32.toNatClampNeg (nI (q + 1)))) hsX) gL_law_X7_count rfl (by decide +kernel) ⟨Nat.le_of_ble_eq_true rfl, Nat.le_of_ble_eq_true rfl⟩ hK hw rfl hl.1 rfl (Nat.le_of_ble_eq_true rfl) dL_law_1391 rfl rfl ⟨Nat.le_of_ble_eq_true rfl, Nat.le_of_ble_eq_true rfl⟩ (fun rX vX H locs hp hw => ?_)
  obtain ⟨hp, rfl⟩ := hp
  have hzX : (some (rX, vx) : Option (Int32 × Mm)) = some (r1, vx1) := by rw [← hoX, show oX_count vx (xs (Int32.toNatClampNeg (nI (q + 1)))) = (g_X7_count vx (xs (Int32.toNatClampNeg (nI (q + 1))))).map (fun r => (r, vx)) from rfl, hp]; rfl
  obtain ⟨e1X, e2X⟩ := Prod.mk.inj (Option.some.inj hzX)
  subst e1X
  rw [← e2X] at hJ1
  refine lv_pop hx hb dL_law_1394 rfl ?_
  refine lv_aload_n hx hb dL_law_1395 rfl (lv_at hl 1 rfl) ?_
  refine lv_aload_n hx hb dL_law_1396 rfl (lv_at hl 3 rfl) ?_
  refine lv_iload_n hx hb dL_law_1397 rfl (lv_at hl 0 rfl) ?_
  refine lv_iconst (v := 1) hx hb dL_law_1398 (by decide) ?_
  refine lv_iadd hx hb dL_law_1399 ?_
  refine lv_topi (fun z1 ez1 => ?_)
  have ez1 : z1 = nI (q + 1) := ez1.trans (nI_add q 1)
  subst ez1
  refine va_sld hx hb hX hbl hbA hw.S (vp_in_nI (show q + 1 < L by omega) (by omega)) dL_law_1400 ?_
  have hsM : g_X8_count vm (xs (Int32.toNatClampNeg (nI (q + 1)))) ≠ none := fun h9 => by rw [show oM_count vm (xs (Int32.toNatClampNeg (nI (q + 1)))) = (g_X8_count vm (xs (Int32.toNatClampNeg (nI (q + 1))))).map (fun r => (r, vm)) from rfl, h9] at hoM; cases hoM
  refine tw_cM (As := [.int (xs (Int32.toNatClampNeg (nI (q + 1))))]) (rest := []) (n := 1) ⟨hx, hb, hml, hown, hts⟩ (d_X8_count l E Zm vm (xs (Int32.toNatClampNeg (nI (q + 1)))) hsM) gL_law_X8_count rfl (by decide +kernel) ⟨Nat.le_of_ble_eq_true rfl, Nat.le_of_ble_eq_true rfl⟩ hK hw rfl hl.1 rfl (Nat.le_of_ble_eq_true rfl) dL_law_1401 rfl rfl ⟨Nat.le_of_ble_eq_true rfl, Nat.le_of_ble_eq_true rfl⟩ (fun rM vM H locs hp hw => ?_)
  obtain ⟨hp, rfl⟩ := hp
  have hzM : (some (rM, vm) : Option (Int32 × Mm)) = some (r2, vm1) := by rw [← hoM, show oM_count vm (xs (Int32.toNatClampNeg (nI (q + 1)))) = (g_X8_count vm (xs (Int32.toNatClampNeg (nI (q + 1))))).map (fun r => (r, vm)) from rfl, hp]; rfl
  obtain ⟨e1M, e2M⟩ := Prod.mk.inj (Option.some.inj hzM)
  subst e1M
  rw [← e2M] at hJ1
  refine lv_pop hx hb dL_law_1404 rfl ?_
  refine lv_goto (tgt := 1421) hx hb dL_law_1405 (by decide) ?_
  exact kk _ _ _ _ _ hJ1 hw hl
set_option maxHeartbeats 4000000 in
set_option maxRecDepth 100000 in
theorem lk_38 {p : Program} {l : Launch} {e : Env} {s : State} {m : MethodId} {below : List Frame} {meth : Method} {c : Code} {b L : Nat} {xs : Nat → Int32} {E : kq_T} {H : Heap} {locs : List Loc} {ls : Array Slot} {Zx Zm : km_Z} {vx vm : Mm} {q : Nat} {J : Mm → Mm → Prop} {C : Prop} (hc : C) (hop : jop_status J C) (C0 : lw_At p s m meth c b L xs) (hK : kq_K E (fun q : Nat => s.heap.size ≤ q) s) (hq : q + 6 ≤ L) (hL : L ≤ 384) (hJ : J vx vm) (hw : tw E (fun q : Nat => s.heap.size ≤ q) s.heap Zx Zm vx vm H locs) (hl : lv_has ls 4 [(3, .int (nI q)), (2, .ref (Zm.1 30 0)), (1, .ref (Zx.1 0 0)), (0, .ref b)]) (kk : ∀ (vx1 vm1 : Mm) (H1 : Heap) (locs1 : List Loc) (ls1 : Array Slot), J vx1 vm1 → tw E (fun q : Nat => s.heap.size ≤ q) s.heap Zx Zm vx1 vm1 H1 locs1 → lv_has ls1 4 [(3, .int (nI q)), (2, .ref (Zm.1 30 0)), (1, .ref (Zx.1 0 0)), (0, .ref b)] → W p l e room_1 s m #[Value.ref b] below meth c H1 locs1 1000 10000 (lw_Z below #[Value.ref b] s) (F0 m 1421 ls1 [])) : W p l e room_1 s m #[Value.ref b] below meth c H locs 1000 10000 (lw_Z below #[Value.ref b] s) (F0 m 1408 ls []) := by
  obtain ⟨hx, hb, hr, hml, hown, hts, hX, hbl, hlocks, hgv⟩ := id C0
  have hown : s.vm.findClass RL = some m.cls := hown
  have hb : c.code = cL_law := hb
  have hts := fun w h => hts w (wsL_law_in w h)
  have hbA : ¬ (fun q : Nat => s.heap.size ≤ q) b := Nat.not_le.mpr hbl
  obtain ⟨r1, vx1, r2, vm1, hoX, hoM, hJ1, hC⟩ := hop vx vm  hJ
  refine lv_aload_n hx hb dL_law_1408 rfl (lv_at hl 2 rfl) ?_
  have hsX : g_X7_status vx  ≠ none := fun h9 => by rw [show oX_status vx  = (g_X7_status vx ).map (fun r => (r, vx)) from rfl, h9] at hoX; cases hoX
  refine tw_cX (As := []) (rest := []) (n := 0) ⟨hx, hb, hml, hown, hts⟩ (d_X7_status l E Zx vx  hsX) gL_law_X7_status rfl (by decide +kernel) ⟨Nat.le_of_ble_eq_true rfl, Nat.le_of_ble_eq_true rfl⟩ hK hw rfl hl.1 rfl (Nat.le_of_ble_eq_true rfl) dL_law_1409 rfl rfl ⟨Nat.le_of_ble_eq_true rfl, Nat.le_of_ble_eq_true rfl⟩ (fun rX vX H locs hp hw => ?_)
  obtain ⟨hp, rfl⟩ := hp
  have hzX : (some (rX, vx) : Option (Int32 × Mm)) = some (r1, vx1) := by rw [← hoX, show oX_status vx  = (g_X7_status vx ).map (fun r => (r, vx)) from rfl, hp]; rfl
  obtain ⟨e1X, e2X⟩ := Prod.mk.inj (Option.some.inj hzX)
  subst e1X
  rw [← e2X] at hJ1
  refine lv_aload_n hx hb dL_law_1412 rfl (lv_at hl 1 rfl) ?_
  have hsM : g_X8_status vm  ≠ none := fun h9 => by rw [show oM_status vm  = (g_X8_status vm ).map (fun r => (r, vm)) from rfl, h9] at hoM; cases hoM
  refine tw_cM (As := []) (rest := [.int rX]) (n := 0) ⟨hx, hb, hml, hown, hts⟩ (d_X8_status l E Zm vm  hsM) gL_law_X8_status rfl (by decide +kernel) ⟨Nat.le_of_ble_eq_true rfl, Nat.le_of_ble_eq_true rfl⟩ hK hw rfl hl.1 rfl (Nat.le_of_ble_eq_true rfl) dL_law_1413 rfl rfl ⟨Nat.le_of_ble_eq_true rfl, Nat.le_of_ble_eq_true rfl⟩ (fun rM vM H locs hp hw => ?_)
  obtain ⟨hp, rfl⟩ := hp
  have hzM : (some (rM, vm) : Option (Int32 × Mm)) = some (r2, vm1) := by rw [← hoM, show oM_status vm  = (g_X8_status vm ).map (fun r => (r, vm)) from rfl, hp]; rfl
  obtain ⟨e1M, e2M⟩ := Prod.mk.inj (Option.some.inj hzM)
  subst e1M
  rw [← e2M] at hJ1
  refine lv_icmp_eq (tgt := 1421) hx hb dL_law_1416 (by decide) (fun ce => ?_) (fun ce => ?_)
  · exact kk _ _ _ _ _ hJ1 hw hl
  · exact absurd (hC hc) ce
