/-- a part of a pool, beside a rest -/
theorem kq_partW {E : kq_T} {A : Nat → Prop} {H0 H : Heap} {Wr : va_W} {L L' : List Nat} {σ : Nat → va_E} {locs : List Loc} (hnd : L'.Nodup) (hin : ∀ a ∈ L', a ∈ L) (h : kq_w E A H0 Wr L σ H locs) : kq_w E A H0 Wr L' σ H locs := by
  obtain ⟨h1, h2, h3, h4⟩ := h
  have hr : ∀ (k : Nat) (q : Nat × va_E), (va_pl L σ)[k]? = some q → (Wr ++ va_pl L σ)[Wr.length + k]? = some q := fun k q hq => by
    rw [List.getElem?_append_right (Nat.le_add_right _ _), Nat.add_sub_cancel_left]; exact hq
  have hl : ∀ (k : Nat) (q : Nat × va_E), Wr[k]? = some q → (Wr ++ va_pl L σ)[k]? = some q := fun k q hq => by
    rw [List.getElem?_append_left (List.getElem?_eq_some_iff.mp hq).1]; exact hq
  have hp : kq_w E A H0 [] L σ H locs := ⟨fun k q hq => h1 _ q (hr k q hq), ⟨fun i j x y hi hj hxy => by have := h2.1 _ _ x y (hr i x hi) (hr j y hj) hxy; omega, fun k q hq => h2.2 _ q (hr k q hq)⟩, h3, h4⟩
  obtain ⟨k1, k2, -, -⟩ := kq_part hnd hin hp
  have hPr : va_P E.1 vwCl Wr H := fun k q hq => h1 k q (hl k q hq)
  have hDr : va_D A Wr := ⟨fun i j x y hi hj hxy => h2.1 i j x y (hl i x hi) (hl j y hj) hxy, fun k q hq => h2.2 k q (hl k q hq)⟩
  refine ⟨hPr.app k1, hDr.app k2 (fun i j x y hi hj hxy => ?_), h3, h4⟩
  have hm := List.mem_of_getElem? hj
  obtain ⟨a, ha, rfl⟩ := List.mem_map.mp hm
  obtain ⟨j2, hj2⟩ := List.getElem?_of_mem (List.mem_map.mpr ⟨a, hin a ha, rfl⟩ : (a, σ a) ∈ va_pl L σ)
  have := h2.1 _ _ x (a, σ a) (hl i x hi) (hr j2 _ hj2) hxy
  have hi2 := (List.getElem?_eq_some_iff.mp hi).1
  omega
set_option maxHeartbeats 4000000 in
set_option maxRecDepth 100000 in
theorem law_loop {p : Program} {l : Launch} {e : Env} {s : State} {m : MethodId} {below : List Frame} {meth : Method} {c : Code} {b L : Nat} {xs : Nat → Int32} {E : kq_T} {Zx Zm : km_Z} {J : Mm → Mm → Prop} {cs : Nat → Prop} (hcs : cs 38) (hS : sims J cs) (C0 : lw_At p s m meth c b L xs) (hK : kq_K E (fun q : Nat => s.heap.size ≤ q) s) (hL : L ≤ 384) : ∀ (n q : Nat) (vx vm : Mm) (H : Heap) (locs : List Loc) (ls : Array Slot), q ≤ L → L + 1 ≤ q + n → J vx vm → tw E (fun q : Nat => s.heap.size ≤ q) s.heap Zx Zm vx vm H locs → lv_has ls 4 [(3, .int (nI q)), (2, .ref (Zm.1 30 0)), (1, .ref (Zx.1 0 0)), (0, .ref b)] → W p l e room_1 s m #[Value.ref b] below meth c H locs 1000 10000 (lw_Z below #[Value.ref b] s) (F0 m 18 ls []) := by
  obtain ⟨hx, hb, hr, hml, hown, hts, hX, hbl, hlocks, hgv⟩ := id C0
  have hown : s.vm.findClass RL = some m.cls := hown
  have hb : c.code = cL_law := hb
  have hts := fun w h => hts w (wsL_law_in w h)
  have hbA : ¬ (fun q : Nat => s.heap.size ≤ q) b := Nat.not_le.mpr hbl
  intro n
  induction n with
  | zero => intro q vx vm H locs ls h1 h2; exact absurd h2 (by omega)
  | succ n ih =>
    intro q vx vm H locs ls hq hn hJ hw hl
    refine lv_iload_n hx hb dL_law_18 rfl (lv_at hl 0 rfl) ?_
    refine lv_aload_n hx hb dL_law_19 rfl (lv_at hl 3 rfl) ?_
    refine va_slen hx hb hX hbl hbA hw.S dL_law_20 ?_
    refine lv_bipush (v := 6) hx hb dL_law_21 (by decide) ?_
    refine lv_isub hx hb dL_law_23 ?_
    refine lv_icmp_gt (tgt := 1427) hx hb dL_law_24 (by decide) (fun c1 => ?_) (fun c1 => ?_)
    · refine lv_iconst (v := 1) hx hb dL_law_1427 (by decide) ?_
      refine va_forget (fun q hq => hw.S.2.2 q hq) ?_
      refine W.widen (k := 600000) (n := 7302250) (Nat.le_of_ble_eq_true rfl) (Nat.le_of_ble_eq_true rfl) ?_
      exact lw_ret hx hb hr hlocks dL_law_1428
    have h6 : q + 6 ≤ L := Nat.not_lt.mp (fun h9 => c1 ((kq_cmp hL (by omega)).mpr h9))
    have fin : ∀ (vx1 vm1 : Mm) (H1 : Heap) (locs1 : List Loc) (ls1 : Array Slot), J vx1 vm1 → tw E (fun q : Nat => s.heap.size ≤ q) s.heap Zx Zm vx1 vm1 H1 locs1 → lv_has ls1 4 [(3, .int (nI q)), (2, .ref (Zm.1 30 0)), (1, .ref (Zx.1 0 0)), (0, .ref b)] → W p l e room_1 s m #[Value.ref b] below meth c H1 locs1 1000 10000 (lw_Z below #[Value.ref b] s) (F0 m 1421 ls1 []) := by
      intro vx1 vm1 H1 locs1 ls1 hJ1 hw1 hl1
      refine lv_iinc (v := nI q + 6) (lv' := [(3, .int (nI q + 6)), (2, .ref (Zm.1 30 0)), (1, .ref (Zx.1 0 0)), (0, .ref b)]) hx hb dL_law_1421 hl1 (k := 0) rfl rfl (by decide) rfl (fun ls hl => ?_)
      refine lv_goto (tgt := 18) hx hb dL_law_1424 (by decide) ?_
      have hl2 : lv_has ls 4 [(3, .int (nI (q + 6))), (2, .ref (Zm.1 30 0)), (1, .ref (Zx.1 0 0)), (0, .ref b)] := by rw [show nI (q + 6) = nI q + 6 from (nI_add q 6).symm]; exact hl
      exact ih (q + 6) vx1 vm1 H1 locs1 ls (by omega) (by omega) hJ1 hw1 hl2
    refine lv_aload_n hx hb dL_law_27 rfl (lv_at hl 3 rfl) ?_
    refine lv_iload_n hx hb dL_law_28 rfl (lv_at hl 0 rfl) ?_
    refine va_sld hx hb hX hbl hbA hw.S (vp_in_nI (show q < L by omega) (by omega)) dL_law_29 ?_
    refine lv_bipush (v := 63) hx hb dL_law_30 (by decide) ?_
    refine lv_iand hx hb dL_law_32 ?_
    refine lv_topi (fun op eop => ?_)
    by_cases h_out : Int32.toInt op < 0 ∨ 38 < Int32.toInt op
    · refine lv_tableOut (tgt := 1421) hx hb dL_law_33 h_out (by decide) ?_
      exact fin _ _ _ _ _ hJ hw hl
    have h_in := not_or.mp h_out
    rcases (show Int32.toInt op = 0 ∨ Int32.toInt op = 1 ∨ Int32.toInt op = 2 ∨ Int32.toInt op = 3 ∨ Int32.toInt op = 4 ∨ Int32.toInt op = 5 ∨ Int32.toInt op = 6 ∨ Int32.toInt op = 7 ∨ Int32.toInt op = 8 ∨ Int32.toInt op = 9 ∨ Int32.toInt op = 10 ∨ Int32.toInt op = 11 ∨ Int32.toInt op = 12 ∨ Int32.toInt op = 13 ∨ Int32.toInt op = 14 ∨ Int32.toInt op = 15 ∨ Int32.toInt op = 16 ∨ Int32.toInt op = 17 ∨ Int32.toInt op = 18 ∨ Int32.toInt op = 19 ∨ Int32.toInt op = 20 ∨ Int32.toInt op = 21 ∨ Int32.toInt op = 22 ∨ Int32.toInt op = 23 ∨ Int32.toInt op = 24 ∨ Int32.toInt op = 25 ∨ Int32.toInt op = 26 ∨ Int32.toInt op = 27 ∨ Int32.toInt op = 28 ∨ Int32.toInt op = 29 ∨ Int32.toInt op = 30 ∨ Int32.toInt op = 31 ∨ Int32.toInt op = 32 ∨ Int32.toInt op = 33 ∨ Int32.toInt op = 34 ∨ Int32.toInt op = 35 ∨ Int32.toInt op = 36 ∨ Int32.toInt op = 37 ∨ Int32.toInt op = 38 by omega) with h_v | h_v | h_v | h_v | h_v | h_v | h_v | h_v | h_v | h_v | h_v | h_v | h_v | h_v | h_v | h_v | h_v | h_v | h_v | h_v | h_v | h_v | h_v | h_v | h_v | h_v | h_v | h_v | h_v | h_v | h_v | h_v | h_v | h_v | h_v | h_v | h_v | h_v | h_v
    · refine lv_tableIn (tgt := 204) (off := 171) hx hb dL_law_33 h_in.1 h_in.2 (by rw [h_v]; rfl) (by decide) ?_
      exact lk_0 (hS.1) C0 hK h6 hL hJ hw hl fin
    · refine lv_tableIn (tgt := 247) (off := 214) hx hb dL_law_33 h_in.1 h_in.2 (by rw [h_v]; rfl) (by decide) ?_
      exact lk_1 (hS.2.1) C0 hK h6 hL hJ hw hl fin
    · refine lv_tableIn (tgt := 290) (off := 257) hx hb dL_law_33 h_in.1 h_in.2 (by rw [h_v]; rfl) (by decide) ?_
      exact lk_2 (hS.2.2.1) C0 hK h6 hL hJ hw hl fin
    · refine lv_tableIn (tgt := 353) (off := 320) hx hb dL_law_33 h_in.1 h_in.2 (by rw [h_v]; rfl) (by decide) ?_
      exact lk_3 (hS.2.2.2.1) C0 hK h6 hL hJ hw hl fin
    · refine lv_tableIn (tgt := 376) (off := 343) hx hb dL_law_33 h_in.1 h_in.2 (by rw [h_v]; rfl) (by decide) ?_
      exact lk_4 (hS.2.2.2.2.1) C0 hK h6 hL hJ hw hl fin
    · refine lv_tableIn (tgt := 399) (off := 366) hx hb dL_law_33 h_in.1 h_in.2 (by rw [h_v]; rfl) (by decide) ?_
      exact lk_5 (hS.2.2.2.2.2.1) C0 hK h6 hL hJ hw hl fin
    · refine lv_tableIn (tgt := 412) (off := 379) hx hb dL_law_33 h_in.1 h_in.2 (by rw [h_v]; rfl) (by decide) ?_
      exact lk_6 (hS.2.2.2.2.2.2.1) C0 hK h6 hL hJ hw hl fin
    · refine lv_tableIn (tgt := 425) (off := 392) hx hb dL_law_33 h_in.1 h_in.2 (by rw [h_v]; rfl) (by decide) ?_
      exact lk_7 (hS.2.2.2.2.2.2.2.1) C0 hK h6 hL hJ hw hl fin
    · refine lv_tableIn (tgt := 448) (off := 415) hx hb dL_law_33 h_in.1 h_in.2 (by rw [h_v]; rfl) (by decide) ?_
      exact lk_8 (hS.2.2.2.2.2.2.2.2.1) C0 hK h6 hL hJ hw hl fin
    · refine lv_tableIn (tgt := 481) (off := 448) hx hb dL_law_33 h_in.1 h_in.2 (by rw [h_v]; rfl) (by decide) ?_
      exact lk_9 (hS.2.2.2.2.2.2.2.2.2.1) C0 hK h6 hL hJ hw hl fin
    · refine lv_tableIn (tgt := 504) (off := 471) hx hb dL_law_33 h_in.1 h_in.2 (by rw [h_v]; rfl) (by decide) ?_
      exact lk_10 (hS.2.2.2.2.2.2.2.2.2.2.1) C0 hK h6 hL hJ hw hl fin
    · refine lv_tableIn (tgt := 537) (off := 504) hx hb dL_law_33 h_in.1 h_in.2 (by rw [h_v]; rfl) (by decide) ?_
      exact lk_11 (hS.2.2.2.2.2.2.2.2.2.2.2.1) C0 hK h6 hL hJ hw hl fin
    · refine lv_tableIn (tgt := 550) (off := 517) hx hb dL_law_33 h_in.1 h_in.2 (by rw [h_v]; rfl) (by decide) ?_
      exact lk_12 (hS.2.2.2.2.2.2.2.2.2.2.2.2.1) C0 hK h6 hL hJ hw hl fin
    · refine lv_tableIn (tgt := 583) (off := 550) hx hb dL_law_33 h_in.1 h_in.2 (by rw [h_v]; rfl) (by decide) ?_
      exact lk_13 (hS.2.2.2.2.2.2.2.2.2.2.2.2.2.1) C0 hK h6 hL hJ hw hl fin
    · refine lv_tableIn (tgt := 626) (off := 593) hx hb dL_law_33 h_in.1 h_in.2 (by rw [h_v]; rfl) (by decide) ?_
      exact lk_14 (hS.2.2.2.2.2.2.2.2.2.2.2.2.2.2.1) C0 hK h6 hL hJ hw hl fin
    · refine lv_tableIn (tgt := 659) (off := 626) hx hb dL_law_33 h_in.1 h_in.2 (by rw [h_v]; rfl) (by decide) ?_
      exact lk_15 (hS.2.2.2.2.2.2.2.2.2.2.2.2.2.2.2.1) C0 hK h6 hL hJ hw hl fin
    · refine lv_tableIn (tgt := 692) (off := 659) hx hb dL_law_33 h_in.1 h_in.2 (by rw [h_v]; rfl) (by decide) ?_
      exact lk_16 (hS.2.2.2.2.2.2.2.2.2.2.2.2.2.2.2.2.1) C0 hK h6 hL hJ hw hl fin
    · refine lv_tableIn (tgt := 715) (off := 682) hx hb dL_law_33 h_in.1 h_in.2 (by rw [h_v]; rfl) (by decide) ?_
      exact lk_17 (hS.2.2.2.2.2.2.2.2.2.2.2.2.2.2.2.2.2.1) C0 hK h6 hL hJ hw hl fin
    · refine lv_tableIn (tgt := 758) (off := 725) hx hb dL_law_33 h_in.1 h_in.2 (by rw [h_v]; rfl) (by decide) ?_
      exact lk_18 (hS.2.2.2.2.2.2.2.2.2.2.2.2.2.2.2.2.2.2.1) C0 hK h6 hL hJ hw hl fin
    · refine lv_tableIn (tgt := 791) (off := 758) hx hb dL_law_33 h_in.1 h_in.2 (by rw [h_v]; rfl) (by decide) ?_
      exact lk_19 (hS.2.2.2.2.2.2.2.2.2.2.2.2.2.2.2.2.2.2.2.1) C0 hK h6 hL hJ hw hl fin
    · refine lv_tableIn (tgt := 824) (off := 791) hx hb dL_law_33 h_in.1 h_in.2 (by rw [h_v]; rfl) (by decide) ?_
      exact lk_20 (hS.2.2.2.2.2.2.2.2.2.2.2.2.2.2.2.2.2.2.2.2.1) C0 hK h6 hL hJ hw hl fin
    · refine lv_tableIn (tgt := 847) (off := 814) hx hb dL_law_33 h_in.1 h_in.2 (by rw [h_v]; rfl) (by decide) ?_
      exact lk_21 (hS.2.2.2.2.2.2.2.2.2.2.2.2.2.2.2.2.2.2.2.2.2.1) C0 hK h6 hL hJ hw hl fin
    · refine lv_tableIn (tgt := 860) (off := 827) hx hb dL_law_33 h_in.1 h_in.2 (by rw [h_v]; rfl) (by decide) ?_
      exact lk_22 (hS.2.2.2.2.2.2.2.2.2.2.2.2.2.2.2.2.2.2.2.2.2.2.1) C0 hK h6 hL hJ hw hl fin
    · refine lv_tableIn (tgt := 883) (off := 850) hx hb dL_law_33 h_in.1 h_in.2 (by rw [h_v]; rfl) (by decide) ?_
      exact lk_23 (hS.2.2.2.2.2.2.2.2.2.2.2.2.2.2.2.2.2.2.2.2.2.2.2.1) C0 hK h6 hL hJ hw hl fin
    · refine lv_tableIn (tgt := 896) (off := 863) hx hb dL_law_33 h_in.1 h_in.2 (by rw [h_v]; rfl) (by decide) ?_
      exact lk_24 (hS.2.2.2.2.2.2.2.2.2.2.2.2.2.2.2.2.2.2.2.2.2.2.2.2.1) C0 hK h6 hL hJ hw hl fin
    · refine lv_tableIn (tgt := 949) (off := 916) hx hb dL_law_33 h_in.1 h_in.2 (by rw [h_v]; rfl) (by decide) ?_
      exact lk_25 (hS.2.2.2.2.2.2.2.2.2.2.2.2.2.2.2.2.2.2.2.2.2.2.2.2.2.1) C0 hK h6 hL hJ hw hl fin
    · refine lv_tableIn (tgt := 992) (off := 959) hx hb dL_law_33 h_in.1 h_in.2 (by rw [h_v]; rfl) (by decide) ?_
      exact lk_26 (hS.2.2.2.2.2.2.2.2.2.2.2.2.2.2.2.2.2.2.2.2.2.2.2.2.2.2.1) C0 hK h6 hL hJ hw hl fin
    · refine lv_tableIn (tgt := 1025) (off := 992) hx hb dL_law_33 h_in.1 h_in.2 (by rw [h_v]; rfl) (by decide) ?_
      exact lk_27 (hS.2.2.2.2.2.2.2.2.2.2.2.2.2.2.2.2.2.2.2.2.2.2.2.2.2.2.2.1) C0 hK h6 hL hJ hw hl fin
    · refine lv_tableIn (tgt := 1078) (off := 1045) hx hb dL_law_33 h_in.1 h_in.2 (by rw [h_v]; rfl) (by decide) ?_
      exact lk_28 (hS.2.2.2.2.2.2.2.2.2.2.2.2.2.2.2.2.2.2.2.2.2.2.2.2.2.2.2.2.1) C0 hK h6 hL hJ hw hl fin
    · refine lv_tableIn (tgt := 1131) (off := 1098) hx hb dL_law_33 h_in.1 h_in.2 (by rw [h_v]; rfl) (by decide) ?_
      exact lk_29 (hS.2.2.2.2.2.2.2.2.2.2.2.2.2.2.2.2.2.2.2.2.2.2.2.2.2.2.2.2.2.1) C0 hK h6 hL hJ hw hl fin
    · refine lv_tableIn (tgt := 1184) (off := 1151) hx hb dL_law_33 h_in.1 h_in.2 (by rw [h_v]; rfl) (by decide) ?_
      exact lk_30 (hS.2.2.2.2.2.2.2.2.2.2.2.2.2.2.2.2.2.2.2.2.2.2.2.2.2.2.2.2.2.2.1) C0 hK h6 hL hJ hw hl fin
    · refine lv_tableIn (tgt := 1227) (off := 1194) hx hb dL_law_33 h_in.1 h_in.2 (by rw [h_v]; rfl) (by decide) ?_
      exact lk_31 (hS.2.2.2.2.2.2.2.2.2.2.2.2.2.2.2.2.2.2.2.2.2.2.2.2.2.2.2.2.2.2.2.1) C0 hK h6 hL hJ hw hl fin
    · refine lv_tableIn (tgt := 1250) (off := 1217) hx hb dL_law_33 h_in.1 h_in.2 (by rw [h_v]; rfl) (by decide) ?_
      exact lk_32 (hS.2.2.2.2.2.2.2.2.2.2.2.2.2.2.2.2.2.2.2.2.2.2.2.2.2.2.2.2.2.2.2.2.1) C0 hK h6 hL hJ hw hl fin
    · refine lv_tableIn (tgt := 1273) (off := 1240) hx hb dL_law_33 h_in.1 h_in.2 (by rw [h_v]; rfl) (by decide) ?_
      exact lk_33 (hS.2.2.2.2.2.2.2.2.2.2.2.2.2.2.2.2.2.2.2.2.2.2.2.2.2.2.2.2.2.2.2.2.2.1) C0 hK h6 hL hJ hw hl fin
    · refine lv_tableIn (tgt := 1296) (off := 1263) hx hb dL_law_33 h_in.1 h_in.2 (by rw [h_v]; rfl) (by decide) ?_
      exact lk_34 (hS.2.2.2.2.2.2.2.2.2.2.2.2.2.2.2.2.2.2.2.2.2.2.2.2.2.2.2.2.2.2.2.2.2.2.1) C0 hK h6 hL hJ hw hl fin
    · refine lv_tableIn (tgt := 1329) (off := 1296) hx hb dL_law_33 h_in.1 h_in.2 (by rw [h_v]; rfl) (by decide) ?_
      exact lk_35 (hS.2.2.2.2.2.2.2.2.2.2.2.2.2.2.2.2.2.2.2.2.2.2.2.2.2.2.2.2.2.2.2.2.2.2.2.1) C0 hK h6 hL hJ hw hl fin
    · refine lv_tableIn (tgt := 1362) (off := 1329) hx hb dL_law_33 h_in.1 h_in.2 (by rw [h_v]; rfl) (by decide) ?_
      exact lk_36 (hS.2.2.2.2.2.2.2.2.2.2.2.2.2.2.2.2.2.2.2.2.2.2.2.2.2.2.2.2.2.2.2.2.2.2.2.2.1) C0 hK h6 hL hJ hw hl fin
    · refine lv_tableIn (tgt := 1385) (off := 1352) hx hb dL_law_33 h_in.1 h_in.2 (by rw [h_v]; rfl) (by decide) ?_
      exact lk_37 (hS.2.2.2.2.2.2.2.2.2.2.2.2.2.2.2.2.2.2.2.2.2.2.2.2.2.2.2.2.2.2.2.2.2.2.2.2.2.1) C0 hK h6 hL hJ hw hl fin
    · refine lv_tableIn (tgt := 1408) (off := 1375) hx hb dL_law_33 h_in.1 h_in.2 (by rw [h_v]; rfl) (by decide) ?_
      exact lk_38 hcs (hS.2.2.2.2.2.2.2.2.2.2.2.2.2.2.2.2.2.2.2.2.2.2.2.2.2.2.2.2.2.2.2.2.2.2.2.2.2.2) C0 hK h6 hL hJ hw hl fin
set_option maxHeartbeats 4000000 in
set_option maxRecDepth 100000 in
theorem law_all {p : Program} {e : Env} {s : State} {m : MethodId} {below : List Frame} {meth : Method} {c : Code} (l : Launch) {b L : Nat} {xs : Nat → Int32} {J : Mm → Mm → Prop} {cs : Nat → Prop} (hcs : cs 38) (hJ0 : ∀ fl : Nat → Int32, (∀ j, j < 8 → fl j = (-1000000)) → J vX0 (vM0 fl)) (hS : sims J cs) (hL : L ≤ 384) (C0 : lw_At p s m meth c b L xs) : W p l e room_1 s m #[Value.ref b] below meth c s.heap [] 0 0 (lw_Z below #[Value.ref b] s) (entryFrame m ([Value.ref b] : List Value).toArray 4) := by
  obtain ⟨hx, hb, hr, hml, hown, hts, hX, hbl, hlocks, hgv⟩ := id C0
  have hown : s.vm.findClass RL = some m.cls := hown
  have hb : c.code = cL_law := hb
  have hts := fun w h => hts w (wsL_law_in w h)
  have hbA : ¬ (fun q : Nat => s.heap.size ≤ q) b := Nat.not_le.mpr hbl
  have hA : ∀ q : Nat, s.heap.size ≤ q → (fun q : Nat => s.heap.size ≤ q) q := fun _ h => h
  obtain ⟨E, hK⟩ := kq_K0 (A := (fun q : Nat => s.heap.size ≤ q)) (fun w h => C0.2.2.2.2.2.1 w h) hgv (fun a h => Nat.not_le.mpr h)
  have hw : kq_w E (fun q : Nat => s.heap.size ≤ q) s.heap [] [] (fun _ => .inr (0, [])) s.heap [] := ⟨fun k q h => by simp [va_pl] at h, ⟨fun i j p q h => by simp [va_pl] at h, fun k q h => by simp [va_pl] at h⟩, va_S.rf, hA⟩
  have hl := lv_entry ([.ref b]) (n := 4) (Nat.le_of_ble_eq_true rfl)
  rw [lg_entry_eq]
  generalize (lg_sl ([.ref b]) ++ List.replicate (4 - (lg_sl ([.ref b])).length) Slot.unset).toArray = ls at hl ⊢
  have hl : lv_has ls 4 [(0, .ref b)] := hl
  refine kq_new (ci := 7) (fs := [.null, .null, .null, .null, .null, .null, .null, .int 0, .int 0]) (C := RX7) (T := TX7) (N := 9) hx hb hts inlX7 tyX7 tyX7_ok hown (hts (.classLink RL 7 RX7) (by decide +kernel)) (hts (.instantiable RX7 9) (by decide +kernel)) (hts (.initialized RX7) (by decide +kernel)) hK hw rfl (fun j hj => by rcases (show j = 0 ∨ j = 1 ∨ j = 2 ∨ j = 3 ∨ j = 4 ∨ j = 5 ∨ j = 6 ∨ j = 7 ∨ j = 8 by omega) with rfl | rfl | rfl | rfl | rfl | rfl | rfl | rfl | rfl <;> rfl) (Nat.le_of_ble_eq_true rfl) (Nat.le_of_ble_eq_true rfl) dL_law_0 (fun x H L0 σ0 hq0 eL0 eσ0 hw => ?_)
  have hS_q : σ0 x = .inr (7, [.null, .null, .null, .null, .null, .null, .null, .int 0, .int 0]) := by rw [eσ0]; exact va_up_self _ _ _
  have hL_q : x ∈ L0 := by rw [eL0]; exact List.mem_append_right _ List.mem_cons_self
  refine lv_dup hx hb dL_law_3 rfl ?_
  refine kq_ctor (As := []) (rest := [.ref x]) (n := 0) (b := x) (mc := 183) (ms := 1840) ⟨hx, hb, hml, hown, hts⟩ (k_X7_init l E L0 σ0 hL_q hS_q) gL_law_X7_init rfl (hts (.initialized RX7) (by decide +kernel)) (hts (.methodLink RL 9 yX7_init) (by decide +kernel)) (hts (.instanceMethod yX7_init) (by decide +kernel)) rfl (by decide +kernel) ⟨Nat.le_of_ble_eq_true rfl, Nat.le_of_ble_eq_true rfl⟩ hK hw rfl hl.1 rfl (Nat.le_of_ble_eq_true rfl) dL_law_4 rfl rfl ⟨Nat.le_of_ble_eq_true rfl, Nat.le_of_ble_eq_true rfl⟩ (fun L1 σ1 H locs hp hw => ?_)
  obtain ⟨-, hbX⟩ := hp
  have eX : L0 = [x] := eL0
  rw [eX] at hbX
  obtain ⟨Zx, zx1, zx2, zx3, zx4, zx5⟩ := hbX.mem (nd_of_D hw.2.1)
  have hw := kq_part (kL_nd zx2) zx4 hw
  obtain ⟨σx, eσx⟩ : ∃ z, z = σ1 := ⟨_, rfl⟩
  rw [← eσx] at zx3 hw
  subst zx5
  refine lv_astore_n (lv' := [(1, .ref (Zx.1 0 0)), (0, .ref b)]) hx hb dL_law_7 rfl hl (by decide) rfl (fun ls hl => ?_)
  have hw := kq_shift (σ2 := fun _ => .inr (0, [])) hw
  refine kq_new (ci := 8) (fs := [.null, .null, .null, .null, .int 0, .null, .int 0, .int 0, .int 0, .int 0, .int 0, .int 0, .int 0, .null, .null, .null, .null, .int 0, .null, .null, .null, .null, .int 0]) (C := RX8) (T := TX8) (N := 23) hx hb hts inlX8 tyX8 tyX8_ok hown (hts (.classLink RL 10 RX8) (by decide +kernel)) (hts (.instantiable RX8 23) (by decide +kernel)) (hts (.initialized RX8) (by decide +kernel)) hK hw rfl (fun j hj => by rcases (show j = 0 ∨ j = 1 ∨ j = 2 ∨ j = 3 ∨ j = 4 ∨ j = 5 ∨ j = 6 ∨ j = 7 ∨ j = 8 ∨ j = 9 ∨ j = 10 ∨ j = 11 ∨ j = 12 ∨ j = 13 ∨ j = 14 ∨ j = 15 ∨ j = 16 ∨ j = 17 ∨ j = 18 ∨ j = 19 ∨ j = 20 ∨ j = 21 ∨ j = 22 by omega) with rfl | rfl | rfl | rfl | rfl | rfl | rfl | rfl | rfl | rfl | rfl | rfl | rfl | rfl | rfl | rfl | rfl | rfl | rfl | rfl | rfl | rfl | rfl <;> rfl) (Nat.le_of_ble_eq_true rfl) (Nat.le_of_ble_eq_true rfl) dL_law_8 (fun y_ H L0 σ0 hq0 eL0 eσ0 hw => ?_)
  have hS_q : σ0 y_ = .inr (8, [.null, .null, .null, .null, .int 0, .null, .int 0, .int 0, .int 0, .int 0, .int 0, .int 0, .int 0, .null, .null, .null, .null, .int 0, .null, .null, .null, .null, .int 0]) := by rw [eσ0]; exact va_up_self _ _ _
  have hL_q : y_ ∈ L0 := by rw [eL0]; exact List.mem_append_right _ List.mem_cons_self
  refine lv_dup hx hb dL_law_11 rfl ?_
  refine kq_ctor (As := []) (rest := [.ref y_]) (n := 0) (b := y_) (mc := 13) (ms := 2443) ⟨hx, hb, hml, hown, hts⟩ (k_X8_init l E L0 σ0 hL_q hS_q) gL_law_X8_init rfl (hts (.initialized RX8) (by decide +kernel)) (hts (.methodLink RL 12 yX8_init) (by decide +kernel)) (hts (.instanceMethod yX8_init) (by decide +kernel)) rfl (by decide +kernel) ⟨Nat.le_of_ble_eq_true rfl, Nat.le_of_ble_eq_true rfl⟩ hK hw rfl hl.1 rfl (Nat.le_of_ble_eq_true rfl) dL_law_12 rfl rfl ⟨Nat.le_of_ble_eq_true rfl, Nat.le_of_ble_eq_true rfl⟩ (fun L1 σ1 H locs hp hw => ?_)
  obtain ⟨-, hbM⟩ := hp
  have eM : L0 = [y_] := eL0
  rw [eM] at hbM
  obtain ⟨Zm, fl, hfl, zm1, zm2, zm3, zm4, zm5⟩ := hbM.mem (nd_of_D hw.2.1)
  have hw := kq_swap (kq_partW (kL_nd zm2) zm4 hw)
  obtain ⟨σm, eσm⟩ : ∃ z, z = σ1 := ⟨_, rfl⟩
  rw [← eσm] at zm3 hw
  subst zm5
  have htw : tw E (fun q : Nat => s.heap.size ≤ q) s.heap Zx Zm vX0 (vM0 fl) H locs := ⟨⟨zx1, zx2⟩, ⟨zm1, zm2⟩, σx, σm, hw, zx3, zm3⟩
  refine lv_astore_n (lv' := [(2, .ref (Zm.1 30 0)), (1, .ref (Zx.1 0 0)), (0, .ref b)]) hx hb dL_law_15 rfl hl (by decide) rfl (fun ls hl => ?_)
  refine lv_iconst (v := 0) hx hb dL_law_16 (by decide) ?_
  refine lv_istore_n (lv' := [(3, .int 0), (2, .ref (Zm.1 30 0)), (1, .ref (Zx.1 0 0)), (0, .ref b)]) hx hb dL_law_17 rfl hl (by decide) rfl (fun ls hl => ?_)
  refine W.widen (k := 1000) (n := 10000) (Nat.le_of_ble_eq_true rfl) (Nat.le_of_ble_eq_true rfl) ?_
  exact law_loop hcs hS C0 hK hL (L + 7) 0 vX0 (vM0 fl) _ _ _ (by omega) (by omega) (hJ0 fl hfl) htw hl
