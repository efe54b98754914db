set_option maxHeartbeats 4000000 in
set_option maxRecDepth 100000 in
theorem whole_start {p : Program} {e : Env} {s : State} {m : MethodId} {below : List Frame} {meth : Method} {c : Code} (l : Launch) (hflags : l.flags = flags0) {b L : Nat} {xs : Nat → Int32} (hL : L ≤ 6) (C0 : lw_At p s m meth c b L xs) : W p l e room_1 s m #[Value.ref b] below meth c s.heap [] 0 0 (lw_Z below #[Value.ref b] s) (entryFrame m ([Value.ref b] : List Value).toArray 4) := by
  obtain ⟨hx, hb, hr, hml, hown, hts, hX, hbl, hlocks, hgv⟩ := id C0
  have hown : s.vm.findClass RL = some m.cls := hown
  have hb : c.code = cL_law := hb
  have hts := fun w h => hts w (wsL_law_in w h)
  have hbA : ¬ (fun q : Nat => s.heap.size ≤ q) b := Nat.not_le.mpr hbl
  have hA : ∀ q : Nat, s.heap.size ≤ q → (fun q : Nat => s.heap.size ≤ q) q := fun _ h => h
  obtain ⟨E, hK⟩ := kq_K0 (fun w h => C0.2.2.2.2.2.1 w h)
  have hw : kq_w E (fun q : Nat => s.heap.size ≤ q) s.heap [] [] (fun _ => .inr (0, [])) s.heap [] := ⟨fun k q h => by simp [va_pl] at h, ⟨fun i j p q h => by simp [va_pl] at h, fun k q h => by simp [va_pl] at h⟩, va_S.rf, hA⟩
  have hl := lv_entry ([.ref b]) (n := 4) (Nat.le_of_ble_eq_true rfl)
  rw [lg_entry_eq]
  generalize (lg_sl ([.ref b]) ++ List.replicate (4 - (lg_sl ([.ref b])).length) Slot.unset).toArray = ls at hl ⊢
  have hl : lv_has ls 4 [(0, .ref b)] := hl
  refine kq_new (ci := 7) (fs := [.null, .null, .null, .null, .null, .null, .null, .int 0, .int 0]) (C := RX7) (T := TX7) (N := 9) hx hb hts inlX7 tyX7 tyX7_ok hown (hts (.classLink RL 7 RX7) (by decide +kernel)) (hts (.instantiable RX7 9) (by decide +kernel)) (hts (.initialized RX7) (by decide +kernel)) hK hw rfl (fun j hj => by rcases (show j = 0 ∨ j = 1 ∨ j = 2 ∨ j = 3 ∨ j = 4 ∨ j = 5 ∨ j = 6 ∨ j = 7 ∨ j = 8 by omega) with rfl | rfl | rfl | rfl | rfl | rfl | rfl | rfl | rfl <;> rfl) (Nat.le_of_ble_eq_true rfl) (Nat.le_of_ble_eq_true rfl) dL_law_0 (fun x H L0 σ0 hq0 eL0 eσ0 hw => ?_)
  have hS_q : σ0 x = .inr (7, [.null, .null, .null, .null, .null, .null, .null, .int 0, .int 0]) := by rw [eσ0]; exact va_up_self _ _ _
  have hL_q : x ∈ L0 := by rw [eL0]; exact List.mem_append_right _ List.mem_cons_self
  refine lv_dup hx hb dL_law_3 rfl ?_
  refine kq_ctor (As := []) (rest := [.ref x]) (n := 0) (b := x) (mc := 183) (ms := 1840) ⟨hx, hb, hml, hown, hts⟩ (k_X7_init l E L0 σ0 hL_q hS_q) gL_law_X7_init rfl (hts (.initialized RX7) (by decide +kernel)) (hts (.methodLink RL 9 yX7_init) (by decide +kernel)) (hts (.instanceMethod yX7_init) (by decide +kernel)) rfl (by decide +kernel) ⟨Nat.le_of_ble_eq_true rfl, Nat.le_of_ble_eq_true rfl⟩ hK hw rfl hl.1 rfl (Nat.le_of_ble_eq_true rfl) dL_law_4 rfl rfl ⟨Nat.le_of_ble_eq_true rfl, Nat.le_of_ble_eq_true rfl⟩ (fun L1 σ1 H locs hp hw => ?_)
  obtain ⟨-, hFx⟩ := hp
  obtain ⟨Lx, eLx⟩ : ∃ z, z = L1 := ⟨_, rfl⟩
  obtain ⟨σx, eσx⟩ : ∃ z, z = σ1 := ⟨_, rfl⟩
  rw [← eLx, ← eσx] at hFx hw
  refine lv_astore_n (lv' := [(1, .ref x), (0, .ref b)]) hx hb dL_law_7 rfl hl (by decide) rfl (fun ls hl => ?_)
  have hw := kq_shift (σ2 := fun _ => .inr (0, [])) hw
  refine kq_new (ci := 8) (fs := [.null, .null, .null, .null, .int 0, .null, .int 0, .int 0, .int 0, .int 0, .int 0, .int 0, .int 0, .null, .null, .null, .null, .int 0, .null, .null, .null, .null, .int 0]) (C := RX8) (T := TX8) (N := 23) hx hb hts inlX8 tyX8 tyX8_ok hown (hts (.classLink RL 10 RX8) (by decide +kernel)) (hts (.instantiable RX8 23) (by decide +kernel)) (hts (.initialized RX8) (by decide +kernel)) hK hw rfl (fun j hj => by rcases (show j = 0 ∨ j = 1 ∨ j = 2 ∨ j = 3 ∨ j = 4 ∨ j = 5 ∨ j = 6 ∨ j = 7 ∨ j = 8 ∨ j = 9 ∨ j = 10 ∨ j = 11 ∨ j = 12 ∨ j = 13 ∨ j = 14 ∨ j = 15 ∨ j = 16 ∨ j = 17 ∨ j = 18 ∨ j = 19 ∨ j = 20 ∨ j = 21 ∨ j = 22 by omega) with rfl | rfl | rfl | rfl | rfl | rfl | rfl | rfl | rfl | rfl | rfl | rfl | rfl | rfl | rfl | rfl | rfl | rfl | rfl | rfl | rfl | rfl | rfl <;> rfl) (Nat.le_of_ble_eq_true rfl) (Nat.le_of_ble_eq_true rfl) dL_law_8 (fun m_ H L0 σ0 hq0 eL0 eσ0 hw => ?_)
  have hS_q : σ0 m_ = .inr (8, [.null, .null, .null, .null, .int 0, .null, .int 0, .int 0, .int 0, .int 0, .int 0, .int 0, .int 0, .null, .null, .null, .null, .int 0, .null, .null, .null, .null, .int 0]) := by rw [eσ0]; exact va_up_self _ _ _
  have hL_q : m_ ∈ L0 := by rw [eL0]; exact List.mem_append_right _ List.mem_cons_self
  refine lv_dup hx hb dL_law_11 rfl ?_
  refine kq_ctor (As := []) (rest := [.ref m_]) (n := 0) (b := m_) (mc := 13) (ms := 2443) ⟨hx, hb, hml, hown, hts⟩ (k_X8_init l E L0 σ0 hL_q hS_q) gL_law_X8_init rfl (hts (.initialized RX8) (by decide +kernel)) (hts (.methodLink RL 12 yX8_init) (by decide +kernel)) (hts (.instanceMethod yX8_init) (by decide +kernel)) rfl (by decide +kernel) ⟨Nat.le_of_ble_eq_true rfl, Nat.le_of_ble_eq_true rfl⟩ hK hw rfl hl.1 rfl (Nat.le_of_ble_eq_true rfl) dL_law_12 rfl rfl ⟨Nat.le_of_ble_eq_true rfl, Nat.le_of_ble_eq_true rfl⟩ (fun L1 σ1 H locs hp hw => ?_)
  obtain ⟨-, hFm⟩ := hp
  refine lv_astore_n (lv' := [(2, .ref m_), (1, .ref x), (0, .ref b)]) hx hb dL_law_15 rfl hl (by decide) rfl (fun ls hl => ?_)
  refine lv_iconst (v := 0) hx hb dL_law_16 (by decide) ?_
  refine lv_istore_n (lv' := [(3, .int 0), (2, .ref m_), (1, .ref x), (0, .ref b)]) hx hb dL_law_17 rfl hl (by decide) rfl (fun ls hl => ?_)
  have hw := kq_swap hw
  refine lv_iload_n hx hb dL_law_18 rfl (lv_at hl 0 rfl) ?_
  refine lv_aload_n hx hb dL_law_19 rfl (lv_at hl 3 rfl) ?_
  refine va_slen hx hb hX hbl hbA hw.2.2.1 dL_law_20 ?_
  refine lv_bipush (v := 6) hx hb dL_law_21 (by decide) ?_
  refine lv_isub hx hb dL_law_23 ?_
  refine lv_icmp_gt (tgt := 1427) hx hb dL_law_24 (by decide) (fun c1 => ?_) (fun c1 => ?_)
  · refine lv_iconst (v := 1) hx hb dL_law_1427 (by decide) ?_
    refine va_forget (fun q hq => hw.2.2.1.2.2 q hq) ?_
    refine W.widen (k := 600000) (n := 7302250) (Nat.le_of_ble_eq_true rfl) (Nat.le_of_ble_eq_true rfl) ?_
    exact lw_ret hx hb hr hlocks dL_law_1428
  · have h6 : L = 6 := by
      rcases Nat.lt_or_ge L 6 with q | q
      · exact absurd (show Int32.ofNat L - 6 < 0 by rcases (show L = 0 ∨ L = 1 ∨ L = 2 ∨ L = 3 ∨ L = 4 ∨ L = 5 by omega) with rfl | rfl | rfl | rfl | rfl | rfl <;> decide) c1
      · omega
    subst h6
    refine lv_aload_n hx hb dL_law_27 rfl (lv_at hl 3 rfl) ?_
    refine lv_iload_n hx hb dL_law_28 rfl (lv_at hl 0 rfl) ?_
    refine va_sld hx hb hX hbl hbA hw.2.2.1 (by unfold vp_in; decide) dL_law_29 ?_
    refine lv_bipush (v := 63) hx hb dL_law_30 (by decide) ?_
    refine lv_iand hx hb dL_law_32 ?_
    refine W.widen (k := 1000) (n := 10000) (Nat.le_of_ble_eq_true rfl) (Nat.le_of_ble_eq_true rfl) ?_
    refine lv_topi (fun op eop => ?_)
    by_cases h_out : Int32.toInt op < 0 ∨ 38 < Int32.toInt op
    · refine lv_tableOut (tgt := 1421) hx hb dL_law_33 h_out (by decide) ?_
      exact lk_end C0 hw.2.2.1 hl (Nat.le_of_ble_eq_true rfl) (Nat.le_of_ble_eq_true rfl)
    · have h_in := not_or.mp h_out
      rcases (show Int32.toInt op = 0 ∨ Int32.toInt op = 1 ∨ Int32.toInt op = 2 ∨ Int32.toInt op = 3 ∨ Int32.toInt op = 4 ∨ Int32.toInt op = 5 ∨ Int32.toInt op = 6 ∨ Int32.toInt op = 7 ∨ Int32.toInt op = 8 ∨ Int32.toInt op = 9 ∨ Int32.toInt op = 10 ∨ Int32.toInt op = 11 ∨ Int32.toInt op = 12 ∨ Int32.toInt op = 13 ∨ Int32.toInt op = 14 ∨ Int32.toInt op = 15 ∨ Int32.toInt op = 16 ∨ Int32.toInt op = 17 ∨ Int32.toInt op = 18 ∨ Int32.toInt op = 19 ∨ Int32.toInt op = 20 ∨ Int32.toInt op = 21 ∨ Int32.toInt op = 22 ∨ Int32.toInt op = 23 ∨ Int32.toInt op = 24 ∨ Int32.toInt op = 25 ∨ Int32.toInt op = 26 ∨ Int32.toInt op = 27 ∨ Int32.toInt op = 28 ∨ Int32.toInt op = 29 ∨ Int32.toInt op = 30 ∨ Int32.toInt op = 31 ∨ Int32.toInt op = 32 ∨ Int32.toInt op = 33 ∨ Int32.toInt op = 34 ∨ Int32.toInt op = 35 ∨ Int32.toInt op = 36 ∨ Int32.toInt op = 37 ∨ Int32.toInt op = 38 by omega) with h_v | h_v | h_v | h_v | h_v | h_v | h_v | h_v | h_v | h_v | h_v | h_v | h_v | h_v | h_v | h_v | h_v | h_v | h_v | h_v | h_v | h_v | h_v | h_v | h_v | h_v | h_v | h_v | h_v | h_v | h_v | h_v | h_v | h_v | h_v | h_v | h_v | h_v | h_v
      · refine lv_tableIn (tgt := 204) (off := 171) hx hb dL_law_33 h_in.1 h_in.2 (by rw [h_v]; rfl) (by decide) ?_
        exact lk_0 C0 hK hFx hFm hw hl
      · refine lv_tableIn (tgt := 247) (off := 214) hx hb dL_law_33 h_in.1 h_in.2 (by rw [h_v]; rfl) (by decide) ?_
        exact lk_1 C0 hK hFx hFm hw hl
      · refine lv_tableIn (tgt := 290) (off := 257) hx hb dL_law_33 h_in.1 h_in.2 (by rw [h_v]; rfl) (by decide) ?_
        exact lk_2 C0 hK hFx hFm hw hl
      · refine lv_tableIn (tgt := 353) (off := 320) hx hb dL_law_33 h_in.1 h_in.2 (by rw [h_v]; rfl) (by decide) ?_
        exact lk_3 C0 hK hFx hFm hw hl
      · refine lv_tableIn (tgt := 376) (off := 343) hx hb dL_law_33 h_in.1 h_in.2 (by rw [h_v]; rfl) (by decide) ?_
        exact lk_4 C0 hK hFx hFm hw hl
      · refine lv_tableIn (tgt := 399) (off := 366) hx hb dL_law_33 h_in.1 h_in.2 (by rw [h_v]; rfl) (by decide) ?_
        exact lk_5 C0 hK hFx hFm hw hl
      · refine lv_tableIn (tgt := 412) (off := 379) hx hb dL_law_33 h_in.1 h_in.2 (by rw [h_v]; rfl) (by decide) ?_
        exact lk_6 C0 hK hFx hFm hw hl
      · refine lv_tableIn (tgt := 425) (off := 392) hx hb dL_law_33 h_in.1 h_in.2 (by rw [h_v]; rfl) (by decide) ?_
        exact lk_7 C0 hK hFx hFm hw hl
      · refine lv_tableIn (tgt := 448) (off := 415) hx hb dL_law_33 h_in.1 h_in.2 (by rw [h_v]; rfl) (by decide) ?_
        exact lk_8 C0 hK hFx hFm hw hl
      · refine lv_tableIn (tgt := 481) (off := 448) hx hb dL_law_33 h_in.1 h_in.2 (by rw [h_v]; rfl) (by decide) ?_
        exact lk_9 C0 hK hFx hFm hw hl
      · refine lv_tableIn (tgt := 504) (off := 471) hx hb dL_law_33 h_in.1 h_in.2 (by rw [h_v]; rfl) (by decide) ?_
        exact lk_10 C0 hK hFx hFm hw hl
      · refine lv_tableIn (tgt := 537) (off := 504) hx hb dL_law_33 h_in.1 h_in.2 (by rw [h_v]; rfl) (by decide) ?_
        exact lk_11 C0 hK hFx hFm hw hl
      · refine lv_tableIn (tgt := 550) (off := 517) hx hb dL_law_33 h_in.1 h_in.2 (by rw [h_v]; rfl) (by decide) ?_
        exact lk_12 C0 hK hFx hFm hw hl
      · refine lv_tableIn (tgt := 583) (off := 550) hx hb dL_law_33 h_in.1 h_in.2 (by rw [h_v]; rfl) (by decide) ?_
        exact lk_13 C0 hK hFx hFm hw hl
      · refine lv_tableIn (tgt := 626) (off := 593) hx hb dL_law_33 h_in.1 h_in.2 (by rw [h_v]; rfl) (by decide) ?_
        exact lk_14 C0 hK hFx hFm hw hl
      · refine lv_tableIn (tgt := 659) (off := 626) hx hb dL_law_33 h_in.1 h_in.2 (by rw [h_v]; rfl) (by decide) ?_
        exact lk_15 C0 hK hFx hFm hw hl
      · refine lv_tableIn (tgt := 692) (off := 659) hx hb dL_law_33 h_in.1 h_in.2 (by rw [h_v]; rfl) (by decide) ?_
        exact lk_16 C0 hK hFx hFm hw hl
      · refine lv_tableIn (tgt := 715) (off := 682) hx hb dL_law_33 h_in.1 h_in.2 (by rw [h_v]; rfl) (by decide) ?_
        exact lk_17 C0 hK hFx hFm hw hl
      · refine lv_tableIn (tgt := 758) (off := 725) hx hb dL_law_33 h_in.1 h_in.2 (by rw [h_v]; rfl) (by decide) ?_
        exact lk_18 C0 hK hFx hFm hw hl
      · refine lv_tableIn (tgt := 791) (off := 758) hx hb dL_law_33 h_in.1 h_in.2 (by rw [h_v]; rfl) (by decide) ?_
        exact lk_19 C0 hK hFx hFm hw hl
      · refine lv_tableIn (tgt := 824) (off := 791) hx hb dL_law_33 h_in.1 h_in.2 (by rw [h_v]; rfl) (by decide) ?_
        exact lk_20 C0 hK hFx hFm hw hl
      · refine lv_tableIn (tgt := 847) (off := 814) hx hb dL_law_33 h_in.1 h_in.2 (by rw [h_v]; rfl) (by decide) ?_
        exact lk_21 C0 hK hFx hFm hw hl
      · refine lv_tableIn (tgt := 860) (off := 827) hx hb dL_law_33 h_in.1 h_in.2 (by rw [h_v]; rfl) (by decide) ?_
        exact lk_22 C0 hK hFx hFm hw hl
      · refine lv_tableIn (tgt := 883) (off := 850) hx hb dL_law_33 h_in.1 h_in.2 (by rw [h_v]; rfl) (by decide) ?_
        exact lk_23 C0 hK hFx hFm hw hl
      · refine lv_tableIn (tgt := 896) (off := 863) hx hb dL_law_33 h_in.1 h_in.2 (by rw [h_v]; rfl) (by decide) ?_
        exact lk_24 C0 hK hFx hFm hw hl
      · refine lv_tableIn (tgt := 949) (off := 916) hx hb dL_law_33 h_in.1 h_in.2 (by rw [h_v]; rfl) (by decide) ?_
        exact lk_25 C0 hK hFx hFm hw hl
      · refine lv_tableIn (tgt := 992) (off := 959) hx hb dL_law_33 h_in.1 h_in.2 (by rw [h_v]; rfl) (by decide) ?_
        exact lk_26 C0 hK hFx hFm hw hl
      · refine lv_tableIn (tgt := 1025) (off := 992) hx hb dL_law_33 h_in.1 h_in.2 (by rw [h_v]; rfl) (by decide) ?_
        exact lk_27 C0 hK hFx hFm hw hl
      · refine lv_tableIn (tgt := 1078) (off := 1045) hx hb dL_law_33 h_in.1 h_in.2 (by rw [h_v]; rfl) (by decide) ?_
        exact lk_28 C0 hK hFx hFm hw hl
      · refine lv_tableIn (tgt := 1131) (off := 1098) hx hb dL_law_33 h_in.1 h_in.2 (by rw [h_v]; rfl) (by decide) ?_
        exact lk_29 C0 hK hFx hFm hw hl
      · refine lv_tableIn (tgt := 1184) (off := 1151) hx hb dL_law_33 h_in.1 h_in.2 (by rw [h_v]; rfl) (by decide) ?_
        exact lk_30 C0 hK hFx hFm hw hl
      · refine lv_tableIn (tgt := 1227) (off := 1194) hx hb dL_law_33 h_in.1 h_in.2 (by rw [h_v]; rfl) (by decide) ?_
        exact lk_31 C0 hK hFx hFm hw hl
      · refine lv_tableIn (tgt := 1250) (off := 1217) hx hb dL_law_33 h_in.1 h_in.2 (by rw [h_v]; rfl) (by decide) ?_
        exact lk_32 C0 hK hFx hFm hw hl
      · refine lv_tableIn (tgt := 1273) (off := 1240) hx hb dL_law_33 h_in.1 h_in.2 (by rw [h_v]; rfl) (by decide) ?_
        exact lk_33 C0 hK hFx hFm hw hl
      · refine lv_tableIn (tgt := 1296) (off := 1263) hx hb dL_law_33 h_in.1 h_in.2 (by rw [h_v]; rfl) (by decide) ?_
        exact lk_34 C0 hK hFx hFm hw hl
      · refine lv_tableIn (tgt := 1329) (off := 1296) hx hb dL_law_33 h_in.1 h_in.2 (by rw [h_v]; rfl) (by decide) ?_
        exact lk_35 C0 hK hFx hFm hw hl
      · refine lv_tableIn (tgt := 1362) (off := 1329) hx hb dL_law_33 h_in.1 h_in.2 (by rw [h_v]; rfl) (by decide) ?_
        exact lk_36 C0 hK hFx hFm hw hl
      · refine lv_tableIn (tgt := 1385) (off := 1352) hx hb dL_law_33 h_in.1 h_in.2 (by rw [h_v]; rfl) (by decide) ?_
        exact lk_37 C0 hK hFx hFm hw hl
      · refine lv_tableIn (tgt := 1408) (off := 1375) hx hb dL_law_33 h_in.1 h_in.2 (by rw [h_v]; rfl) (by decide) ?_
        exact lk_38 C0 hK hFx hFm hw hl
set_option maxHeartbeats 4000000 in
theorem lw_walk (l : Launch) (hflags : l.flags = flags0) (b : Addr) (xs : List Int32) : MetFree l x (headSpec (Jvm.Cond.code x code maxLocals ret :: tables_1) room_1) (lw_P b xs) (fun _ _ _ _ _ => True) lw_Q := by
  refine MetFree.of_bodyS (code := code) (maxLocals := maxLocals) (ret := ret) (by decide) ?_ ?_
  · intro args s m h hn
    obtain ⟨meth, c, h1, h2, h3, h4, h5, h6, -, -⟩ := Cond.code_spec hn (atoms_spec (ws := Jvm.Cond.code x code maxLocals ret :: tables_1) h _ List.mem_cons_self)
    exact ⟨meth, c, h1, h2, h3, h4, h5, h6⟩
  · intro p e s m args below meth c s₁ B hml0 hP _
    obtain ⟨rfl, hx, hbd, hgv⟩ := hP
    obtain ⟨scr, harrAt, hlist, hof, hsmall⟩ := hx
    obtain ⟨hcb, hkn, -, -⟩ := State.arrayAt?_spec harrAt
    have hown : s.vm.findClass R_law = some m.cls := findClass_of_methodNamed B.named
    have hts0 : ∀ c ∈ (Jvm.Cond.code x code maxLocals ret :: tables_1), c.before #[Value.ref b] s = true := atoms_spec (ws := Jvm.Cond.code x code maxLocals ret :: tables_1) B.pre
    have hts : ∀ w ∈ lw_tbl, w.before #[Value.ref b] s = true := k2_hts_sels lw_privs (fun w hw => hts0 w (List.mem_cons_of_mem _ hw)) lw_privs_ok
    have hml : c.maxLocals = 4 := B.maxLocals_eq (hts0 _ List.mem_cons_self)
    have X₀ : Stand p l e room_1 s m #[Value.ref b] below meth c s₁ [] 0 0 := Stand.of_body B
    have hh0 : s₁.heap = s.heap := by rw [B.state]; rfl
    have hsz : scr.slots.size = xs.length := by rw [← Array.length_toList, hlist, List.length_map]
    have hval : ∀ j : Nat, j < xs.length → scr.slots[j]? = some (.int (xs.getD j 0)) := fun j hj => by
      rw [← Array.getElem?_toList, hlist]
      simp [hj]
    have hbl : b < s.heap.size := (Array.getElem?_eq_some_iff.mp hcb).1
    have hX : va_X b xs.length (fun j => xs.getD j 0) s s.heap := ⟨scr, hcb, hof, hkn, hsz, hval⟩
    have K : W p l e room_1 s m #[Value.ref b] below meth c s₁.heap [] 0 0 (lw_Z below #[Value.ref b] s) (entryFrame m ([Value.ref b] : List Value).toArray 4) := by
      rw [hh0]
      exact whole_start l hflags hbd ⟨B.exec, B.bytes, B.returns, hml, hown, hts, hX, hbl, B.notSynchronized, hgv⟩
    obtain ⟨t, a1, o, b1, b2, b3⟩ := K s₁ rfl X₀
    exact ⟨t, o, a1, b1, b2, b3⟩
theorem lw_pre_spec {args : Array Value} {s : State} (h : (Jvm.Cond.and given_1 narrow_1).before args s = true) (hr : rest_1_c.before args s = true) : ∃ (b : Addr) (xs : List Int32), lw_P b xs args s := by
  have hs := flat_of_before _ h
  have hq := flat_of_before _ hr
  have hc : (Cond.count 1).before args s = true := hs _ (by decide +kernel)
  have harr : (Cond.arrayOf (.arg 0) .int).before args s = true := hs _ (by decide +kernel)
  have hle : (Cond.le (.length (.arg 0)) (.int 6)).before args s = true := hs _ (by decide +kernel)
  have hlen : (Cond.isInt (.length (.arg 0))).before args s = true := hq _ (by decide +kernel)
  have hall : (Cond.all (.arg 0) (.isInt (.elem (.arg 0) (.index 0)))).before args s = true := hq _ (by decide +kernel)
  obtain ⟨b, xs, hb, hx⟩ := State.ints_of_pre rfl harr hlen hall
  have hsm : xs.length < 2 ^ 31 := hx.choose_spec.2.2.2
  have hev : (Term.length (.arg 0)).eval args s none [] s = some (.int xs.length.toInt32) := hx.length_eval hb
  have hv := Cond.le_ints hev (show (Term.int 6).eval args s none [] s = some (.int 6) from rfl)
  have hd : xs.length.toInt32 ≤ 6 := by
    simpa [Cond.before, Cond.holds, hv] using hle
  have hN : xs.length ≤ 6 := (Int32.ofNat_le_ofNat hsm (by decide)).mp (show Int32.ofNat xs.length ≤ Int32.ofNat 6 from hd)
  exact ⟨b, xs, Cond.one_arg hc (show args[0]? = some (.ref b) from hb), hx, hN, h⟩
theorem lw_comes (l : Launch) (hflags : l.flags = flags0) : Comes l x (Jvm.Cond.code x code maxLocals ret :: tables_1) room_1 (fun tb e args s => Calls_1 tb e args s ∧ rest_1 tb e args s ∧ Pre_1 tb e args s)
    (fun _ _ args s o t => lw_Q args s o t) := by
  intro p e ha hc hk s m args below hf hfit hheap happ hpre
  obtain ⟨b, xs, hP⟩ := lw_pre_spec hpre.2.2 hpre.2.1
  obtain ⟨k, o, h1, h2, h3, hQ⟩ := lw_walk l hflags b xs p e ha hc hk s m args below hf ((Spec.applies_iff_loose hf).mp happ).1 hP trivial
  exact ⟨k, o, h1, h2, h3, hQ⟩
theorem lw_frame {s t : State} {o : Outcome} {args : Array Value} (h : Framed s o t [] 600000 7302250) :
    Framed s o t (fieldLocs frame_1_writes args s ++ arrayLocs frame_1_arrays args s ++ staticLocs frame_1_statics s) 600000 7302250 := h
theorem lw_limb (L : Cond) (hL : ∀ (args : Array Value) (s t : State), L.after args s (.returned (some (.int 1))) t = true) :
    ArmFor flags0 classFile x code maxLocals ret World_1 tables_1 room_1 Calls_1 rest_1 Pre_1
      (fun tb e a s o t => postC L tb e a s o t ∧ Framed s o t (fieldLocs frame_1_writes a s ++ arrayLocs frame_1_arrays a s ++ staticLocs frame_1_statics s) 600000 7302250) := by
  intro l hflags _ _ p e ha hc hk s m args below hf hfit hheap happ hpre
  obtain ⟨k, o, h1, h2, h3, rfl, hF⟩ := lw_comes l hflags p e ha hc hk s m args below hf hfit hheap happ hpre
  exact ⟨k, _, h1, h2, h3, hL args s _, lw_frame hF⟩
theorem i_vc : Claimed_1_1 ∧ Claimed_1_2 := ⟨lw_limb limb_1_1 (fun args s t => by simp [limb_1_1, Cond.after, Cond.holds, Cond.value]), lw_limb limb_1_2 (fun args s t => Cond.after_iff.mpr (by
  first | (rw [show limb_1_2 = Cond.eq .result (.int 1) from rfl, Cond.eq_ints (x := 1) (y := 1) rfl rfl]; simp; done) | (simp [limb_1_2, Cond.value, Term.eval]; done)))⟩
