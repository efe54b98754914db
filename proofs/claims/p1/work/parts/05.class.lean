abbrev rmX7_isRow : Room := { frames := 0, cells := 0, slots := 0, locals := 0 }
def sp_isRow (a : Int32) : Int32 := if a < 0 ∨ 8 ≤ a then 0 else 1
theorem sp_isRow_0 {a : Int32} (h : sp_isRow a = 0) : a < 0 ∨ 8 ≤ a := by
  unfold sp_isRow at h
  by_cases q : a < 0 ∨ 8 ≤ a
  · exact q
  · rw [if_neg q] at h; exact absurd h (by decide)
theorem sp_isRow_1 {a : Int32} (h : ¬ sp_isRow a = 0) : ¬ a < 0 ∧ ¬ 8 ≤ a := by
  unfold sp_isRow at h
  by_cases q : a < 0 ∨ 8 ≤ a
  · rw [if_pos q] at h; exact absurd rfl h
  · exact not_or.mp q
set_option maxHeartbeats 4000000 in
set_option maxRecDepth 100000 in
theorem c_X7_isRow (l : Launch) (E : kq_T) (L : List Nat) (σ : Nat → va_E) (x : Nat) (a : Int32) : kq_I l E yX7_isRow wsX7_isRow rmX7_isRow [.ref x, .int a] L σ (fun r L1 σ1 => r = sp_isRow a ∧ L = L1 ∧ σ = σ1) := by
  refine kq_enterI (cc := cX7_isRow) (maxL := 2) (ret := (some .boolean)) (by decide) rfl (Nat.le_of_ble_eq_true rfl) rfl ?_
  intro p e s m below meth c A ls C hK hw hl
  obtain ⟨hx, hb, hml, hown, hts, hr, hlocks, hnm⟩ := C
  have hown : s.vm.findClass RX7 = some m.cls := hown
  have hl : lv_has ls 2 [(0, .ref x), (1, .int a)] := hl
  refine lv_iload_n hx hb dX7_isRow_0 rfl (lv_at hl 1 rfl) ?_
  refine lv_if_lt (tgt := 14) hx hb dX7_isRow_1 (by decide) (fun c1 => ?_) (fun c1 => ?_)
  · skip
    refine lv_iconst (v := 0) hx hb dX7_isRow_14 (by decide) ?_
    exact kq_zret hx hb hr hlocks hw (Nat.le_of_ble_eq_true rfl) (Nat.le_of_ble_eq_true rfl) (Or.inl rfl) dX7_isRow_15 ⟨by simp [sp_isRow, c1, kq_nle c1], rfl, rfl⟩
  · skip
    refine lv_iload_n hx hb dX7_isRow_4 rfl (lv_at hl 1 rfl) ?_
    refine lv_bipush (v := 8) hx hb dX7_isRow_5 (by decide) ?_
    refine lv_icmp_ge (tgt := 14) hx hb dX7_isRow_7 (by decide) (fun c2 => ?_) (fun c2 => ?_)
    · skip
      refine lv_iconst (v := 0) hx hb dX7_isRow_14 (by decide) ?_
      exact kq_zret hx hb hr hlocks hw (Nat.le_of_ble_eq_true rfl) (Nat.le_of_ble_eq_true rfl) (Or.inl rfl) dX7_isRow_15 ⟨by simp [sp_isRow, c1, Int32.not_lt.mp c1, c2, Int32.not_lt.mpr c2], rfl, rfl⟩
    · skip
      refine lv_iconst (v := 1) hx hb dX7_isRow_10 (by decide) ?_
      refine lv_goto (tgt := 15) hx hb dX7_isRow_11 (by decide) ?_
      exact kq_zret hx hb hr hlocks hw (Nat.le_of_ble_eq_true rfl) (Nat.le_of_ble_eq_true rfl) (Or.inr rfl) dX7_isRow_15 ⟨by simp [sp_isRow, c1, Int32.not_lt.mp c1, c2, Int32.not_le.mp c2], rfl, rfl⟩
abbrev rmX7_noGate : Room := { frames := 0, cells := 0, slots := 0, locals := 0 }
set_option maxHeartbeats 4000000 in
set_option maxRecDepth 100000 in
theorem c_X7_noGate (l : Launch) (E : kq_T) (L : List Nat) (σ : Nat → va_E) {x ro tp gt ac im gu ak : Nat} {uf un : Int32} {g1 g2 g3 nw : Nat} (hL_x : x ∈ L) (hS_x : σ x = .inr (7, [.ref ro, .ref tp, .ref gt, .ref ac, .ref im, .ref gu, .ref ak, .int uf, .int un])) (hL_gt : gt ∈ L) (hS_gt : σ gt = .inr (2, [.ref g1, .ref g2, .ref g3, .ref nw, .int 0, .int 0, .int 0, .int 0])) : kq_I l E yX7_noGate wsX7_noGate rmX7_noGate [.ref x] L σ (fun r L1 σ1 => r = 1 ∧ L = L1 ∧ σ = σ1) := by
  refine kq_enterI (cc := cX7_noGate) (maxL := 1) (ret := (some .boolean)) (by decide) rfl (Nat.le_of_ble_eq_true rfl) rfl ?_
  intro p e s m below meth c A ls C hK hw hl
  obtain ⟨hx, hb, hml, hown, hts, hr, hlocks, hnm⟩ := C
  have hown : s.vm.findClass RX7 = some m.cls := hown
  have hl : lv_has ls 1 [(0, .ref x)] := hl
  refine lv_aload_n hx hb dX7_noGate_0 rfl (lv_at hl 0 rfl) ?_
  refine kq_get (ci := 7) (v := .ref gt) (C := RX7) (T := TX7) (N := 9) hx hb hts (by decide +kernel) hown hK hw hL_x hS_x rfl 2 (by decide) (hts (.fieldLink RX7 25 "WrongWord" "gate" "LWrongWord$Gate;") (by decide +kernel)) rfl dX7_noGate_1 ?_
  refine kq_get (ci := 2) (v := .int 0) (C := RX2) (T := TX2) (N := 8) hx hb hts (by decide +kernel) hown hK hw hL_gt hS_gt rfl 6 (by decide) (hts (.fieldLink RX7 130 "WrongWord$Gate" "words" "I") (by decide +kernel)) rfl dX7_noGate_4 ?_
  refine lv_if_ne (tgt := 14) hx hb dX7_noGate_7 (by decide) (fun c1 => ?_) (fun c1 => ?_)
  · skip
    exact absurd c1 (by decide)
  · skip
    refine lv_iconst (v := 1) hx hb dX7_noGate_10 (by decide) ?_
    refine lv_goto (tgt := 15) hx hb dX7_noGate_11 (by decide) ?_
    exact kq_zret hx hb hr hlocks hw (Nat.le_of_ble_eq_true rfl) (Nat.le_of_ble_eq_true rfl) (Or.inr rfl) dX7_noGate_15 ⟨rfl, rfl, rfl⟩
abbrev rmX7_isWord : Room := { frames := 0, cells := 0, slots := 0, locals := 0 }
set_option maxHeartbeats 4000000 in
set_option maxRecDepth 100000 in
theorem c_X7_isWord (l : Launch) (E : kq_T) (L : List Nat) (σ : Nat → va_E) {x ro tp gt ac im gu ak : Nat} {uf un : Int32} {g1 g2 g3 nw : Nat} (a : Int32) (hL_x : x ∈ L) (hS_x : σ x = .inr (7, [.ref ro, .ref tp, .ref gt, .ref ac, .ref im, .ref gu, .ref ak, .int uf, .int un])) (hL_gt : gt ∈ L) (hS_gt : σ gt = .inr (2, [.ref g1, .ref g2, .ref g3, .ref nw, .int 0, .int 0, .int 0, .int 0])) : kq_I l E yX7_isWord wsX7_isWord rmX7_isWord [.ref x, .int a] L σ (fun r L1 σ1 => r = 0 ∧ L = L1 ∧ σ = σ1) := by
  refine kq_enterI (cc := cX7_isWord) (maxL := 2) (ret := (some .boolean)) (by decide) rfl (Nat.le_of_ble_eq_true rfl) rfl ?_
  intro p e s m below meth c A ls C hK hw hl
  obtain ⟨hx, hb, hml, hown, hts, hr, hlocks, hnm⟩ := C
  have hown : s.vm.findClass RX7 = some m.cls := hown
  have hl : lv_has ls 2 [(0, .ref x), (1, .int a)] := hl
  refine lv_iload_n hx hb dX7_isWord_0 rfl (lv_at hl 1 rfl) ?_
  refine lv_if_lt (tgt := 19) hx hb dX7_isWord_1 (by decide) (fun c1 => ?_) (fun c1 => ?_)
  · skip
    refine lv_iconst (v := 0) hx hb dX7_isWord_19 (by decide) ?_
    exact kq_zret hx hb hr hlocks hw (Nat.le_of_ble_eq_true rfl) (Nat.le_of_ble_eq_true rfl) (Or.inl rfl) dX7_isWord_20 ⟨rfl, rfl, rfl⟩
  · skip
    refine lv_iload_n hx hb dX7_isWord_4 rfl (lv_at hl 1 rfl) ?_
    refine lv_aload_n hx hb dX7_isWord_5 rfl (lv_at hl 0 rfl) ?_
    refine kq_get (ci := 7) (v := .ref gt) (C := RX7) (T := TX7) (N := 9) hx hb hts (by decide +kernel) hown hK hw hL_x hS_x rfl 2 (by decide) (hts (.fieldLink RX7 25 "WrongWord" "gate" "LWrongWord$Gate;") (by decide +kernel)) rfl dX7_isWord_6 ?_
    refine kq_get (ci := 2) (v := .int 0) (C := RX2) (T := TX2) (N := 8) hx hb hts (by decide +kernel) hown hK hw hL_gt hS_gt rfl 6 (by decide) (hts (.fieldLink RX7 130 "WrongWord$Gate" "words" "I") (by decide +kernel)) rfl dX7_isWord_9 ?_
    refine lv_icmp_ge (tgt := 19) hx hb dX7_isWord_12 (by decide) (fun c2 => ?_) (fun c2 => ?_)
    · skip
      refine lv_iconst (v := 0) hx hb dX7_isWord_19 (by decide) ?_
      exact kq_zret hx hb hr hlocks hw (Nat.le_of_ble_eq_true rfl) (Nat.le_of_ble_eq_true rfl) (Or.inl rfl) dX7_isWord_20 ⟨rfl, rfl, rfl⟩
    · skip
      refine lv_iconst (v := 1) hx hb dX7_isWord_15 (by decide) ?_
      refine lv_goto (tgt := 20) hx hb dX7_isWord_16 (by decide) ?_
      exact kq_zret hx hb hr hlocks hw (Nat.le_of_ble_eq_true rfl) (Nat.le_of_ble_eq_true rfl) (Or.inr rfl) dX7_isWord_20 (kq_nn c1 c2).elim
abbrev rmX7_isGuard : Room := { frames := 0, cells := 0, slots := 0, locals := 0 }
set_option maxHeartbeats 4000000 in
set_option maxRecDepth 100000 in
theorem c_X7_isGuard (l : Launch) (E : kq_T) (L : List Nat) (σ : Nat → va_E) {x ro tp gt ac im gu ak : Nat} {uf un : Int32} {g1 g2 g3 nw : Nat} (a : Int32) (hL_x : x ∈ L) (hS_x : σ x = .inr (7, [.ref ro, .ref tp, .ref gt, .ref ac, .ref im, .ref gu, .ref ak, .int uf, .int un])) (hL_gt : gt ∈ L) (hS_gt : σ gt = .inr (2, [.ref g1, .ref g2, .ref g3, .ref nw, .int 0, .int 0, .int 0, .int 0])) : kq_I l E yX7_isGuard wsX7_isGuard rmX7_isGuard [.ref x, .int a] L σ (fun r L1 σ1 => r = 0 ∧ L = L1 ∧ σ = σ1) := by
  refine kq_enterI (cc := cX7_isGuard) (maxL := 2) (ret := (some .boolean)) (by decide) rfl (Nat.le_of_ble_eq_true rfl) rfl ?_
  intro p e s m below meth c A ls C hK hw hl
  obtain ⟨hx, hb, hml, hown, hts, hr, hlocks, hnm⟩ := C
  have hown : s.vm.findClass RX7 = some m.cls := hown
  have hl : lv_has ls 2 [(0, .ref x), (1, .int a)] := hl
  refine lv_iload_n hx hb dX7_isGuard_0 rfl (lv_at hl 1 rfl) ?_
  refine lv_if_lt (tgt := 19) hx hb dX7_isGuard_1 (by decide) (fun c1 => ?_) (fun c1 => ?_)
  · skip
    refine lv_iconst (v := 0) hx hb dX7_isGuard_19 (by decide) ?_
    exact kq_zret hx hb hr hlocks hw (Nat.le_of_ble_eq_true rfl) (Nat.le_of_ble_eq_true rfl) (Or.inl rfl) dX7_isGuard_20 ⟨rfl, rfl, rfl⟩
  · skip
    refine lv_iload_n hx hb dX7_isGuard_4 rfl (lv_at hl 1 rfl) ?_
    refine lv_aload_n hx hb dX7_isGuard_5 rfl (lv_at hl 0 rfl) ?_
    refine kq_get (ci := 7) (v := .ref gt) (C := RX7) (T := TX7) (N := 9) hx hb hts (by decide +kernel) hown hK hw hL_x hS_x rfl 2 (by decide) (hts (.fieldLink RX7 25 "WrongWord" "gate" "LWrongWord$Gate;") (by decide +kernel)) rfl dX7_isGuard_6 ?_
    refine kq_get (ci := 2) (v := .int 0) (C := RX2) (T := TX2) (N := 8) hx hb hts (by decide +kernel) hown hK hw hL_gt hS_gt rfl 7 (by decide) (hts (.fieldLink RX7 327 "WrongWord$Gate" "guards" "I") (by decide +kernel)) rfl dX7_isGuard_9 ?_
    refine lv_icmp_ge (tgt := 19) hx hb dX7_isGuard_12 (by decide) (fun c2 => ?_) (fun c2 => ?_)
    · skip
      refine lv_iconst (v := 0) hx hb dX7_isGuard_19 (by decide) ?_
      exact kq_zret hx hb hr hlocks hw (Nat.le_of_ble_eq_true rfl) (Nat.le_of_ble_eq_true rfl) (Or.inl rfl) dX7_isGuard_20 ⟨rfl, rfl, rfl⟩
    · skip
      refine lv_iconst (v := 1) hx hb dX7_isGuard_15 (by decide) ?_
      refine lv_goto (tgt := 20) hx hb dX7_isGuard_16 (by decide) ?_
      exact kq_zret hx hb hr hlocks hw (Nat.le_of_ble_eq_true rfl) (Nat.le_of_ble_eq_true rfl) (Or.inr rfl) dX7_isGuard_20 (kq_nn c1 c2).elim
abbrev rmX7_found : Room := { frames := 0, cells := 0, slots := 0, locals := 0 }
set_option maxHeartbeats 4000000 in
set_option maxRecDepth 100000 in
theorem c_X7_found (l : Launch) (E : kq_T) (L : List Nat) (σ : Nat → va_E) {x ro tp gt ac im gu ak : Nat} {uf un : Int32} (a : Int32) (hL_x : x ∈ L) (hS_x : σ x = .inr (7, [.ref ro, .ref tp, .ref gt, .ref ac, .ref im, .ref gu, .ref ak, .int uf, .int un])) : kq_I l E yX7_found wsX7_found rmX7_found [.ref x, .int a] L σ (fun r L1 σ1 => r = (-1000010) - a ∧ L = L1 ∧ σ1 = va_up σ x (.inr (7, [.ref ro, .ref tp, .ref gt, .ref ac, .ref im, .ref gu, .ref ak, .int uf, .int a]))) := by
  refine kq_enterI (cc := cX7_found) (maxL := 2) (ret := (some .int)) (by decide) rfl (Nat.le_of_ble_eq_true rfl) rfl ?_
  intro p e s m below meth c A ls C hK hw hl
  obtain ⟨hx, hb, hml, hown, hts, hr, hlocks, hnm⟩ := C
  have hown : s.vm.findClass RX7 = some m.cls := hown
  have hl : lv_has ls 2 [(0, .ref x), (1, .int a)] := hl
  refine lv_aload_n hx hb dX7_found_0 rfl (lv_at hl 0 rfl) ?_
  refine lv_iload_n hx hb dX7_found_1 rfl (lv_at hl 1 rfl) ?_
  refine kq_put (ci := 7) (v := .int a) (ty := .int) (C := RX7) (T := TX7) (N := 9) (fs' := [.ref ro, .ref tp, .ref gt, .ref ac, .ref im, .ref gu, .ref ak, .int uf, .int a]) hx hb hts (by decide +kernel) tyX7 tyX7_ok nmX7 hown hK hw hL_x hS_x rfl 8 (by decide) (hts (.fieldLink RX7 333 "WrongWord" "latestFinding" "I") (by decide +kernel)) rfl (by decide +kernel) rfl rfl (Nat.le_of_ble_eq_true rfl) rfl dX7_found_2 (fun H locs σ1 eσ1 hw => ?_)
  have nhS_x : σ1 x = .inr (7, [.ref ro, .ref tp, .ref gt, .ref ac, .ref im, .ref gu, .ref ak, .int uf, .int a]) := by rw [eσ1]; exact va_up_self _ _ _
  have hS_x := nhS_x
  refine lv_ldcw (v := (-1000010)) hx hb hown (hts (.constant RX7 336 (-1000010)) (by decide +kernel)) dX7_found_5 ?_
  refine lv_iload_n hx hb dX7_found_8 rfl (lv_at hl 1 rfl) ?_
  refine lv_isub hx hb dX7_found_9 ?_
  exact kq_iret hx hb hr hlocks hw (Nat.le_of_ble_eq_true rfl) (Nat.le_of_ble_eq_true rfl) dX7_found_10 ⟨rfl, rfl, eσ1⟩
abbrev rmX7_unfound : Room := { frames := 0, cells := 0, slots := 0, locals := 0 }
set_option maxHeartbeats 4000000 in
set_option maxRecDepth 100000 in
theorem c_X7_unfound (l : Launch) (E : kq_T) (L : List Nat) (σ : Nat → va_E) {x ro tp gt ac im gu ak : Nat} {uf un : Int32} (a : Int32) (hL_x : x ∈ L) (hS_x : σ x = .inr (7, [.ref ro, .ref tp, .ref gt, .ref ac, .ref im, .ref gu, .ref ak, .int uf, .int un])) : kq_I l E yX7_unfound wsX7_unfound rmX7_unfound [.ref x, .int a] L σ (fun r L1 σ1 => r = a ∧ L = L1 ∧ σ1 = va_up σ x (.inr (7, [.ref ro, .ref tp, .ref gt, .ref ac, .ref im, .ref gu, .ref ak, .int uf, .int 0]))) := by
  refine kq_enterI (cc := cX7_unfound) (maxL := 2) (ret := (some .int)) (by decide) rfl (Nat.le_of_ble_eq_true rfl) rfl ?_
  intro p e s m below meth c A ls C hK hw hl
  obtain ⟨hx, hb, hml, hown, hts, hr, hlocks, hnm⟩ := C
  have hown : s.vm.findClass RX7 = some m.cls := hown
  have hl : lv_has ls 2 [(0, .ref x), (1, .int a)] := hl
  refine lv_aload_n hx hb dX7_unfound_0 rfl (lv_at hl 0 rfl) ?_
  refine lv_iconst (v := 0) hx hb dX7_unfound_1 (by decide) ?_
  refine kq_put (ci := 7) (v := .int 0) (ty := .int) (C := RX7) (T := TX7) (N := 9) (fs' := [.ref ro, .ref tp, .ref gt, .ref ac, .ref im, .ref gu, .ref ak, .int uf, .int 0]) hx hb hts (by decide +kernel) tyX7 tyX7_ok nmX7 hown hK hw hL_x hS_x rfl 8 (by decide) (hts (.fieldLink RX7 333 "WrongWord" "latestFinding" "I") (by decide +kernel)) rfl (by decide +kernel) rfl rfl (Nat.le_of_ble_eq_true rfl) rfl dX7_unfound_2 (fun H locs σ1 eσ1 hw => ?_)
  have nhS_x : σ1 x = .inr (7, [.ref ro, .ref tp, .ref gt, .ref ac, .ref im, .ref gu, .ref ak, .int uf, .int 0]) := by rw [eσ1]; exact va_up_self _ _ _
  have hS_x := nhS_x
  refine lv_iload_n hx hb dX7_unfound_5 rfl (lv_at hl 1 rfl) ?_
  exact kq_iret hx hb hr hlocks hw (Nat.le_of_ble_eq_true rfl) (Nat.le_of_ble_eq_true rfl) dX7_unfound_6 ⟨rfl, rfl, eσ1⟩
abbrev rmX7_nights : Room := { frames := 1, cells := 0, slots := 0, locals := 20 }
set_option maxHeartbeats 4000000 in
set_option maxRecDepth 100000 in
theorem f_X7_nights (l : Launch) (E : kq_T) (L : List Nat) (σ : Nat → va_E) {x : Nat} (hF : fr_X E L σ x) (a0 : Int32) : kq_I l E yX7_nights wsX7_nights rmX7_nights [.ref x, .int a0] L σ (fun r _ _ => r = (-1000002)) := by
  obtain ⟨ro, tp, gt, ac, im, gu, ak, bt, dr, d1, d2, d3, d4, g1, g2, g3, nw, tk, n2, n3, n4, ah, bd, fr, fi, hL_x, hS_x, hL_ro, hS_ro, hL_tp, hS_tp, hL_bt, hS_bt, hL_dr, hS_dr, hL_gt, hS_gt, hL_nw, hS_nw, hL_tk, hS_tk, hL_ac, hS_ac, hL_im, hS_im, hL_ak, hS_ak, hRw, hIm⟩ := hF
  refine kq_enterI (cc := cX7_nights) (maxL := 3) (ret := (some .int)) (by decide) rfl (Nat.le_of_ble_eq_true rfl) rfl ?_
  intro p e s m below meth c A ls C hK hw hl
  obtain ⟨hx, hb, hml, hown, hts, hr, hlocks, hnm⟩ := C
  have hown : s.vm.findClass RX7 = some m.cls := hown
  have hl : lv_has ls 3 [(0, .ref x), (1, .int a0)] := hl
  refine lv_aload_n hx hb dX7_nights_0 rfl (lv_at hl 0 rfl) ?_
  refine kq_callI (As := []) (rest := []) (n := 0) (q := (RX7, TX7, 9)) (ci := 7) (mc := 0) (ms := 0) ⟨hx, hb, hml, hown, hts⟩ (c_X7_noGate l E L σ hL_x hS_x hL_gt hS_gt) gX7_nights_X7_noGate rfl (by decide +kernel) ⟨Nat.le_of_ble_eq_true rfl, Nat.le_of_ble_eq_true rfl⟩ hK hw hL_x hS_x rfl rfl hl.1 rfl (Nat.le_of_ble_eq_true rfl) dX7_nights_1 rfl rfl ⟨Nat.le_of_ble_eq_true rfl, Nat.le_of_ble_eq_true rfl⟩ (fun r1 Lv σv H locs hp hw => ?_)
  obtain ⟨er1, rfl, rfl⟩ := hp
  have er1 : r1 = 1 := er1
  subst er1
  refine lv_if_eq (tgt := 10) hx hb dX7_nights_4 (by decide) (fun c2 => ?_) (fun c2 => ?_)
  · skip
    exact absurd c2 (by decide)
  · skip
    refine lv_ldc (v := (-1000002)) hx hb hown (hts (.constant RX7 136 (-1000002)) (by decide +kernel)) dX7_nights_7 ?_
    exact kq_iret hx hb hr hlocks hw (Nat.le_of_ble_eq_true rfl) (Nat.le_of_ble_eq_true rfl) dX7_nights_9 rfl
abbrev rmX7_say : Room := { frames := 1, cells := 0, slots := 0, locals := 21 }
set_option maxHeartbeats 4000000 in
set_option maxRecDepth 100000 in
theorem f_X7_say (l : Launch) (E : kq_T) (L : List Nat) (σ : Nat → va_E) {x : Nat} (hF : fr_X E L σ x) (a0 a1 : Int32) : kq_I l E yX7_say wsX7_say rmX7_say [.ref x, .int a0, .int a1] L σ (fun r _ _ => r = (-1000001)) := by
  obtain ⟨ro, tp, gt, ac, im, gu, ak, bt, dr, d1, d2, d3, d4, g1, g2, g3, nw, tk, n2, n3, n4, ah, bd, fr, fi, hL_x, hS_x, hL_ro, hS_ro, hL_tp, hS_tp, hL_bt, hS_bt, hL_dr, hS_dr, hL_gt, hS_gt, hL_nw, hS_nw, hL_tk, hS_tk, hL_ac, hS_ac, hL_im, hS_im, hL_ak, hS_ak, hRw, hIm⟩ := hF
  refine kq_enterI (cc := cX7_say) (maxL := 5) (ret := (some .int)) (by decide) rfl (Nat.le_of_ble_eq_true rfl) rfl ?_
  intro p e s m below meth c A ls C hK hw hl
  obtain ⟨hx, hb, hml, hown, hts, hr, hlocks, hnm⟩ := C
  have hown : s.vm.findClass RX7 = some m.cls := hown
  have hl : lv_has ls 5 [(0, .ref x), (1, .int a0), (2, .int a1)] := hl
  refine lv_aload_n hx hb dX7_say_0 rfl (lv_at hl 0 rfl) ?_
  refine lv_iload_n hx hb dX7_say_1 rfl (lv_at hl 1 rfl) ?_
  refine kq_callI (As := [.int a0]) (rest := []) (n := 1) (q := (RX7, TX7, 9)) (ci := 7) (mc := 0) (ms := 0) ⟨hx, hb, hml, hown, hts⟩ (c_X7_isWord l E L σ a0 hL_x hS_x hL_gt hS_gt) gX7_say_X7_isWord rfl (by decide +kernel) ⟨Nat.le_of_ble_eq_true rfl, Nat.le_of_ble_eq_true rfl⟩ hK hw hL_x hS_x rfl rfl hl.1 rfl (Nat.le_of_ble_eq_true rfl) dX7_say_2 rfl rfl ⟨Nat.le_of_ble_eq_true rfl, Nat.le_of_ble_eq_true rfl⟩ (fun r1 Lv σv H locs hp hw => ?_)
  obtain ⟨er1, rfl, rfl⟩ := hp
  have er1 : r1 = 0 := er1
  subst er1
  refine lv_if_eq (tgt := 16) hx hb dX7_say_5 (by decide) (fun c2 => ?_) (fun c2 => ?_)
  · skip
    refine lv_ldc (v := (-1000001)) hx hb hown (hts (.constant RX7 59 (-1000001)) (by decide +kernel)) dX7_say_16 ?_
    exact kq_iret hx hb hr hlocks hw (Nat.le_of_ble_eq_true rfl) (Nat.le_of_ble_eq_true rfl) dX7_say_18 rfl
  · skip
    exact absurd (by decide) c2
abbrev rmX7_start : Room := { frames := 1, cells := 0, slots := 0, locals := 20 }
set_option maxHeartbeats 4000000 in
set_option maxRecDepth 100000 in
theorem f_X7_start (l : Launch) (E : kq_T) (L : List Nat) (σ : Nat → va_E) {x : Nat} (hF : fr_X E L σ x) (a0 : Int32) : kq_I l E yX7_start wsX7_start rmX7_start [.ref x, .int a0] L σ (fun r _ _ => r = (-1000002)) := by
  obtain ⟨ro, tp, gt, ac, im, gu, ak, bt, dr, d1, d2, d3, d4, g1, g2, g3, nw, tk, n2, n3, n4, ah, bd, fr, fi, hL_x, hS_x, hL_ro, hS_ro, hL_tp, hS_tp, hL_bt, hS_bt, hL_dr, hS_dr, hL_gt, hS_gt, hL_nw, hS_nw, hL_tk, hS_tk, hL_ac, hS_ac, hL_im, hS_im, hL_ak, hS_ak, hRw, hIm⟩ := hF
  refine kq_enterI (cc := cX7_start) (maxL := 3) (ret := (some .int)) (by decide) rfl (Nat.le_of_ble_eq_true rfl) rfl ?_
  intro p e s m below meth c A ls C hK hw hl
  obtain ⟨hx, hb, hml, hown, hts, hr, hlocks, hnm⟩ := C
  have hown : s.vm.findClass RX7 = some m.cls := hown
  have hl : lv_has ls 3 [(0, .ref x), (1, .int a0)] := hl
  refine lv_aload_n hx hb dX7_start_0 rfl (lv_at hl 0 rfl) ?_
  refine kq_callI (As := []) (rest := []) (n := 0) (q := (RX7, TX7, 9)) (ci := 7) (mc := 0) (ms := 0) ⟨hx, hb, hml, hown, hts⟩ (c_X7_noGate l E L σ hL_x hS_x hL_gt hS_gt) gX7_start_X7_noGate rfl (by decide +kernel) ⟨Nat.le_of_ble_eq_true rfl, Nat.le_of_ble_eq_true rfl⟩ hK hw hL_x hS_x rfl rfl hl.1 rfl (Nat.le_of_ble_eq_true rfl) dX7_start_1 rfl rfl ⟨Nat.le_of_ble_eq_true rfl, Nat.le_of_ble_eq_true rfl⟩ (fun r1 Lv σv H locs hp hw => ?_)
  obtain ⟨er1, rfl, rfl⟩ := hp
  have er1 : r1 = 1 := er1
  subst er1
  refine lv_if_eq (tgt := 10) hx hb dX7_start_4 (by decide) (fun c2 => ?_) (fun c2 => ?_)
  · skip
    exact absurd c2 (by decide)
  · skip
    refine lv_ldc (v := (-1000002)) hx hb hown (hts (.constant RX7 136 (-1000002)) (by decide +kernel)) dX7_start_7 ?_
    exact kq_iret hx hb hr hlocks hw (Nat.le_of_ble_eq_true rfl) (Nat.le_of_ble_eq_true rfl) dX7_start_9 rfl
abbrev rmX7_dismiss : Room := { frames := 1, cells := 0, slots := 0, locals := 21 }
set_option maxHeartbeats 4000000 in
set_option maxRecDepth 100000 in
theorem f_X7_dismiss (l : Launch) (E : kq_T) (L : List Nat) (σ : Nat → va_E) {x : Nat} (hF : fr_X E L σ x) (a0 a1 : Int32) : kq_I l E yX7_dismiss wsX7_dismiss rmX7_dismiss [.ref x, .int a0, .int a1] L σ (fun r _ _ => r = (-1000001)) := by
  obtain ⟨ro, tp, gt, ac, im, gu, ak, bt, dr, d1, d2, d3, d4, g1, g2, g3, nw, tk, n2, n3, n4, ah, bd, fr, fi, hL_x, hS_x, hL_ro, hS_ro, hL_tp, hS_tp, hL_bt, hS_bt, hL_dr, hS_dr, hL_gt, hS_gt, hL_nw, hS_nw, hL_tk, hS_tk, hL_ac, hS_ac, hL_im, hS_im, hL_ak, hS_ak, hRw, hIm⟩ := hF
  refine kq_enterI (cc := cX7_dismiss) (maxL := 3) (ret := (some .int)) (by decide) rfl (Nat.le_of_ble_eq_true rfl) rfl ?_
  intro p e s m below meth c A ls C hK hw hl
  obtain ⟨hx, hb, hml, hown, hts, hr, hlocks, hnm⟩ := C
  have hown : s.vm.findClass RX7 = some m.cls := hown
  have hl : lv_has ls 3 [(0, .ref x), (1, .int a0), (2, .int a1)] := hl
  refine lv_aload_n hx hb dX7_dismiss_0 rfl (lv_at hl 0 rfl) ?_
  refine lv_iload_n hx hb dX7_dismiss_1 rfl (lv_at hl 1 rfl) ?_
  refine kq_callI (As := [.int a0]) (rest := []) (n := 1) (q := (RX7, TX7, 9)) (ci := 7) (mc := 0) (ms := 0) ⟨hx, hb, hml, hown, hts⟩ (c_X7_isGuard l E L σ a0 hL_x hS_x hL_gt hS_gt) gX7_dismiss_X7_isGuard rfl (by decide +kernel) ⟨Nat.le_of_ble_eq_true rfl, Nat.le_of_ble_eq_true rfl⟩ hK hw hL_x hS_x rfl rfl hl.1 rfl (Nat.le_of_ble_eq_true rfl) dX7_dismiss_2 rfl rfl ⟨Nat.le_of_ble_eq_true rfl, Nat.le_of_ble_eq_true rfl⟩ (fun r1 Lv σv H locs hp hw => ?_)
  obtain ⟨er1, rfl, rfl⟩ := hp
  have er1 : r1 = 0 := er1
  subst er1
  refine lv_if_eq (tgt := 17) hx hb dX7_dismiss_5 (by decide) (fun c2 => ?_) (fun c2 => ?_)
  · skip
    refine lv_ldc (v := (-1000001)) hx hb hown (hts (.constant RX7 59 (-1000001)) (by decide +kernel)) dX7_dismiss_17 ?_
    exact kq_iret hx hb hr hlocks hw (Nat.le_of_ble_eq_true rfl) (Nat.le_of_ble_eq_true rfl) dX7_dismiss_19 rfl
  · skip
    exact absurd (by decide) c2
abbrev rmX7_letter : Room := { frames := 1, cells := 0, slots := 0, locals := 21 }
set_option maxHeartbeats 4000000 in
set_option maxRecDepth 100000 in
theorem f_X7_letter (l : Launch) (E : kq_T) (L : List Nat) (σ : Nat → va_E) {x : Nat} (hF : fr_X E L σ x) (a0 a1 : Int32) : kq_I l E yX7_letter wsX7_letter rmX7_letter [.ref x, .int a0, .int a1] L σ (fun r _ _ => r = (-1000001)) := by
  obtain ⟨ro, tp, gt, ac, im, gu, ak, bt, dr, d1, d2, d3, d4, g1, g2, g3, nw, tk, n2, n3, n4, ah, bd, fr, fi, hL_x, hS_x, hL_ro, hS_ro, hL_tp, hS_tp, hL_bt, hS_bt, hL_dr, hS_dr, hL_gt, hS_gt, hL_nw, hS_nw, hL_tk, hS_tk, hL_ac, hS_ac, hL_im, hS_im, hL_ak, hS_ak, hRw, hIm⟩ := hF
  refine kq_enterI (cc := cX7_letter) (maxL := 3) (ret := (some .int)) (by decide) rfl (Nat.le_of_ble_eq_true rfl) rfl ?_
  intro p e s m below meth c A ls C hK hw hl
  obtain ⟨hx, hb, hml, hown, hts, hr, hlocks, hnm⟩ := C
  have hown : s.vm.findClass RX7 = some m.cls := hown
  have hl : lv_has ls 3 [(0, .ref x), (1, .int a0), (2, .int a1)] := hl
  refine lv_aload_n hx hb dX7_letter_0 rfl (lv_at hl 0 rfl) ?_
  refine lv_iload_n hx hb dX7_letter_1 rfl (lv_at hl 1 rfl) ?_
  refine kq_callI (As := [.int a0]) (rest := []) (n := 1) (q := (RX7, TX7, 9)) (ci := 7) (mc := 0) (ms := 0) ⟨hx, hb, hml, hown, hts⟩ (c_X7_isWord l E L σ a0 hL_x hS_x hL_gt hS_gt) gX7_letter_X7_isWord rfl (by decide +kernel) ⟨Nat.le_of_ble_eq_true rfl, Nat.le_of_ble_eq_true rfl⟩ hK hw hL_x hS_x rfl rfl hl.1 rfl (Nat.le_of_ble_eq_true rfl) dX7_letter_2 rfl rfl ⟨Nat.le_of_ble_eq_true rfl, Nat.le_of_ble_eq_true rfl⟩ (fun r1 Lv σv H locs hp hw => ?_)
  obtain ⟨er1, rfl, rfl⟩ := hp
  have er1 : r1 = 0 := er1
  subst er1
  refine lv_if_eq (tgt := 17) hx hb dX7_letter_5 (by decide) (fun c2 => ?_) (fun c2 => ?_)
  · skip
    refine lv_ldc (v := (-1000001)) hx hb hown (hts (.constant RX7 59 (-1000001)) (by decide +kernel)) dX7_letter_17 ?_
    exact kq_iret hx hb hr hlocks hw (Nat.le_of_ble_eq_true rfl) (Nat.le_of_ble_eq_true rfl) dX7_letter_19 rfl
  · skip
    exact absurd (by decide) c2
abbrev rmX7_like : Room := { frames := 1, cells := 0, slots := 0, locals := 21 }
set_option maxHeartbeats 4000000 in
set_option maxRecDepth 100000 in
theorem f_X7_like (l : Launch) (E : kq_T) (L : List Nat) (σ : Nat → va_E) {x : Nat} (hF : fr_X E L σ x) (a0 a1 a2 : Int32) : kq_I l E yX7_like wsX7_like rmX7_like [.ref x, .int a0, .int a1, .int a2] L σ (fun r _ _ => r = (-1000001)) := by
  obtain ⟨ro, tp, gt, ac, im, gu, ak, bt, dr, d1, d2, d3, d4, g1, g2, g3, nw, tk, n2, n3, n4, ah, bd, fr, fi, hL_x, hS_x, hL_ro, hS_ro, hL_tp, hS_tp, hL_bt, hS_bt, hL_dr, hS_dr, hL_gt, hS_gt, hL_nw, hS_nw, hL_tk, hS_tk, hL_ac, hS_ac, hL_im, hS_im, hL_ak, hS_ak, hRw, hIm⟩ := hF
  refine kq_enterI (cc := cX7_like) (maxL := 4) (ret := (some .int)) (by decide) rfl (Nat.le_of_ble_eq_true rfl) rfl ?_
  intro p e s m below meth c A ls C hK hw hl
  obtain ⟨hx, hb, hml, hown, hts, hr, hlocks, hnm⟩ := C
  have hown : s.vm.findClass RX7 = some m.cls := hown
  have hl : lv_has ls 4 [(0, .ref x), (1, .int a0), (2, .int a1), (3, .int a2)] := hl
  refine lv_aload_n hx hb dX7_like_0 rfl (lv_at hl 0 rfl) ?_
  refine lv_iload_n hx hb dX7_like_1 rfl (lv_at hl 1 rfl) ?_
  refine kq_callI (As := [.int a0]) (rest := []) (n := 1) (q := (RX7, TX7, 9)) (ci := 7) (mc := 0) (ms := 0) ⟨hx, hb, hml, hown, hts⟩ (c_X7_isWord l E L σ a0 hL_x hS_x hL_gt hS_gt) gX7_like_X7_isWord rfl (by decide +kernel) ⟨Nat.le_of_ble_eq_true rfl, Nat.le_of_ble_eq_true rfl⟩ hK hw hL_x hS_x rfl rfl hl.1 rfl (Nat.le_of_ble_eq_true rfl) dX7_like_2 rfl rfl ⟨Nat.le_of_ble_eq_true rfl, Nat.le_of_ble_eq_true rfl⟩ (fun r1 Lv σv H locs hp hw => ?_)
  obtain ⟨er1, rfl, rfl⟩ := hp
  have er1 : r1 = 0 := er1
  subst er1
  refine lv_if_eq (tgt := 25) hx hb dX7_like_5 (by decide) (fun c2 => ?_) (fun c2 => ?_)
  · skip
    refine lv_ldc (v := (-1000001)) hx hb hown (hts (.constant RX7 59 (-1000001)) (by decide +kernel)) dX7_like_25 ?_
    exact kq_iret hx hb hr hlocks hw (Nat.le_of_ble_eq_true rfl) (Nat.le_of_ble_eq_true rfl) dX7_like_27 rfl
  · skip
    exact absurd (by decide) c2
abbrev rmX7_guard : Room := { frames := 1, cells := 0, slots := 0, locals := 21 }
set_option maxHeartbeats 4000000 in
set_option maxRecDepth 100000 in
theorem f_X7_guard (l : Launch) (E : kq_T) (L : List Nat) (σ : Nat → va_E) {x : Nat} (hF : fr_X E L σ x) (a0 a1 : Int32) : kq_I l E yX7_guard wsX7_guard rmX7_guard [.ref x, .int a0, .int a1] L σ (fun r _ _ => r = (-1000001)) := by
  obtain ⟨ro, tp, gt, ac, im, gu, ak, bt, dr, d1, d2, d3, d4, g1, g2, g3, nw, tk, n2, n3, n4, ah, bd, fr, fi, hL_x, hS_x, hL_ro, hS_ro, hL_tp, hS_tp, hL_bt, hS_bt, hL_dr, hS_dr, hL_gt, hS_gt, hL_nw, hS_nw, hL_tk, hS_tk, hL_ac, hS_ac, hL_im, hS_im, hL_ak, hS_ak, hRw, hIm⟩ := hF
  refine kq_enterI (cc := cX7_guard) (maxL := 3) (ret := (some .int)) (by decide) rfl (Nat.le_of_ble_eq_true rfl) rfl ?_
  intro p e s m below meth c A ls C hK hw hl
  obtain ⟨hx, hb, hml, hown, hts, hr, hlocks, hnm⟩ := C
  have hown : s.vm.findClass RX7 = some m.cls := hown
  have hl : lv_has ls 3 [(0, .ref x), (1, .int a0), (2, .int a1)] := hl
  refine lv_aload_n hx hb dX7_guard_0 rfl (lv_at hl 0 rfl) ?_
  refine lv_iload_n hx hb dX7_guard_1 rfl (lv_at hl 1 rfl) ?_
  refine kq_callI (As := [.int a0]) (rest := []) (n := 1) (q := (RX7, TX7, 9)) (ci := 7) (mc := 0) (ms := 0) ⟨hx, hb, hml, hown, hts⟩ (c_X7_isGuard l E L σ a0 hL_x hS_x hL_gt hS_gt) gX7_guard_X7_isGuard rfl (by decide +kernel) ⟨Nat.le_of_ble_eq_true rfl, Nat.le_of_ble_eq_true rfl⟩ hK hw hL_x hS_x rfl rfl hl.1 rfl (Nat.le_of_ble_eq_true rfl) dX7_guard_2 rfl rfl ⟨Nat.le_of_ble_eq_true rfl, Nat.le_of_ble_eq_true rfl⟩ (fun r1 Lv σv H locs hp hw => ?_)
  obtain ⟨er1, rfl, rfl⟩ := hp
  have er1 : r1 = 0 := er1
  subst er1
  refine lv_if_ne (tgt := 11) hx hb dX7_guard_5 (by decide) (fun c2 => ?_) (fun c2 => ?_)
  · skip
    exact absurd c2 (by decide)
  · skip
    refine lv_ldc (v := (-1000001)) hx hb hown (hts (.constant RX7 59 (-1000001)) (by decide +kernel)) dX7_guard_8 ?_
    exact kq_iret hx hb hr hlocks hw (Nat.le_of_ble_eq_true rfl) (Nat.le_of_ble_eq_true rfl) dX7_guard_10 rfl
abbrev rmX7_secret : Room := { frames := 1, cells := 0, slots := 0, locals := 20 }
set_option maxHeartbeats 4000000 in
set_option maxRecDepth 100000 in
theorem f_X7_secret (l : Launch) (E : kq_T) (L : List Nat) (σ : Nat → va_E) {x : Nat} (hF : fr_X E L σ x) (a0 : Int32) : kq_I l E yX7_secret wsX7_secret rmX7_secret [.ref x, .int a0] L σ (fun r _ _ => r = (-1000002)) := by
  obtain ⟨ro, tp, gt, ac, im, gu, ak, bt, dr, d1, d2, d3, d4, g1, g2, g3, nw, tk, n2, n3, n4, ah, bd, fr, fi, hL_x, hS_x, hL_ro, hS_ro, hL_tp, hS_tp, hL_bt, hS_bt, hL_dr, hS_dr, hL_gt, hS_gt, hL_nw, hS_nw, hL_tk, hS_tk, hL_ac, hS_ac, hL_im, hS_im, hL_ak, hS_ak, hRw, hIm⟩ := hF
  refine kq_enterI (cc := cX7_secret) (maxL := 2) (ret := (some .int)) (by decide) rfl (Nat.le_of_ble_eq_true rfl) rfl ?_
  intro p e s m below meth c A ls C hK hw hl
  obtain ⟨hx, hb, hml, hown, hts, hr, hlocks, hnm⟩ := C
  have hown : s.vm.findClass RX7 = some m.cls := hown
  have hl : lv_has ls 2 [(0, .ref x), (1, .int a0)] := hl
  refine lv_aload_n hx hb dX7_secret_0 rfl (lv_at hl 0 rfl) ?_
  refine kq_callI (As := []) (rest := []) (n := 0) (q := (RX7, TX7, 9)) (ci := 7) (mc := 0) (ms := 0) ⟨hx, hb, hml, hown, hts⟩ (c_X7_noGate l E L σ hL_x hS_x hL_gt hS_gt) gX7_secret_X7_noGate rfl (by decide +kernel) ⟨Nat.le_of_ble_eq_true rfl, Nat.le_of_ble_eq_true rfl⟩ hK hw hL_x hS_x rfl rfl hl.1 rfl (Nat.le_of_ble_eq_true rfl) dX7_secret_1 rfl rfl ⟨Nat.le_of_ble_eq_true rfl, Nat.le_of_ble_eq_true rfl⟩ (fun r1 Lv σv H locs hp hw => ?_)
  obtain ⟨er1, rfl, rfl⟩ := hp
  have er1 : r1 = 1 := er1
  subst er1
  refine lv_if_eq (tgt := 10) hx hb dX7_secret_4 (by decide) (fun c2 => ?_) (fun c2 => ?_)
  · skip
    exact absurd c2 (by decide)
  · skip
    refine lv_ldc (v := (-1000002)) hx hb hown (hts (.constant RX7 136 (-1000002)) (by decide +kernel)) dX7_secret_7 ?_
    exact kq_iret hx hb hr hlocks hw (Nat.le_of_ble_eq_true rfl) (Nat.le_of_ble_eq_true rfl) dX7_secret_9 rfl
abbrev rmX7_taken : Room := { frames := 1, cells := 0, slots := 0, locals := 21 }
set_option maxHeartbeats 4000000 in
set_option maxRecDepth 100000 in
theorem f_X7_taken (l : Launch) (E : kq_T) (L : List Nat) (σ : Nat → va_E) {x : Nat} (hF : fr_X E L σ x) (a0 a1 a2 : Int32) : kq_I l E yX7_taken wsX7_taken rmX7_taken [.ref x, .int a0, .int a1, .int a2] L σ (fun r _ _ => r = (-1000001)) := by
  obtain ⟨ro, tp, gt, ac, im, gu, ak, bt, dr, d1, d2, d3, d4, g1, g2, g3, nw, tk, n2, n3, n4, ah, bd, fr, fi, hL_x, hS_x, hL_ro, hS_ro, hL_tp, hS_tp, hL_bt, hS_bt, hL_dr, hS_dr, hL_gt, hS_gt, hL_nw, hS_nw, hL_tk, hS_tk, hL_ac, hS_ac, hL_im, hS_im, hL_ak, hS_ak, hRw, hIm⟩ := hF
  refine kq_enterI (cc := cX7_taken) (maxL := 4) (ret := (some .int)) (by decide) rfl (Nat.le_of_ble_eq_true rfl) rfl ?_
  intro p e s m below meth c A ls C hK hw hl
  obtain ⟨hx, hb, hml, hown, hts, hr, hlocks, hnm⟩ := C
  have hown : s.vm.findClass RX7 = some m.cls := hown
  have hl : lv_has ls 4 [(0, .ref x), (1, .int a0), (2, .int a1), (3, .int a2)] := hl
  refine lv_aload_n hx hb dX7_taken_0 rfl (lv_at hl 0 rfl) ?_
  refine lv_iload_n hx hb dX7_taken_1 rfl (lv_at hl 1 rfl) ?_
  refine kq_callI (As := [.int a0]) (rest := []) (n := 1) (q := (RX7, TX7, 9)) (ci := 7) (mc := 0) (ms := 0) ⟨hx, hb, hml, hown, hts⟩ (c_X7_isWord l E L σ a0 hL_x hS_x hL_gt hS_gt) gX7_taken_X7_isWord rfl (by decide +kernel) ⟨Nat.le_of_ble_eq_true rfl, Nat.le_of_ble_eq_true rfl⟩ hK hw hL_x hS_x rfl rfl hl.1 rfl (Nat.le_of_ble_eq_true rfl) dX7_taken_2 rfl rfl ⟨Nat.le_of_ble_eq_true rfl, Nat.le_of_ble_eq_true rfl⟩ (fun r1 Lv σv H locs hp hw => ?_)
  obtain ⟨er1, rfl, rfl⟩ := hp
  have er1 : r1 = 0 := er1
  subst er1
  refine lv_if_eq (tgt := 24) hx hb dX7_taken_5 (by decide) (fun c2 => ?_) (fun c2 => ?_)
  · skip
    refine lv_ldc (v := (-1000001)) hx hb hown (hts (.constant RX7 59 (-1000001)) (by decide +kernel)) dX7_taken_24 ?_
    exact kq_iret hx hb hr hlocks hw (Nat.le_of_ble_eq_true rfl) (Nat.le_of_ble_eq_true rfl) dX7_taken_26 rfl
  · skip
    exact absurd (by decide) c2
abbrev rmX7_safe : Room := { frames := 1, cells := 0, slots := 0, locals := 20 }
set_option maxHeartbeats 4000000 in
set_option maxRecDepth 100000 in
theorem f_X7_safe (l : Launch) (E : kq_T) (L : List Nat) (σ : Nat → va_E) {x : Nat} (hF : fr_X E L σ x) (a0 a1 : Int32) : kq_I l E yX7_safe wsX7_safe rmX7_safe [.ref x, .int a0, .int a1] L σ (fun r _ _ => r = (-1000002)) := by
  obtain ⟨ro, tp, gt, ac, im, gu, ak, bt, dr, d1, d2, d3, d4, g1, g2, g3, nw, tk, n2, n3, n4, ah, bd, fr, fi, hL_x, hS_x, hL_ro, hS_ro, hL_tp, hS_tp, hL_bt, hS_bt, hL_dr, hS_dr, hL_gt, hS_gt, hL_nw, hS_nw, hL_tk, hS_tk, hL_ac, hS_ac, hL_im, hS_im, hL_ak, hS_ak, hRw, hIm⟩ := hF
  refine kq_enterI (cc := cX7_safe) (maxL := 3) (ret := (some .int)) (by decide) rfl (Nat.le_of_ble_eq_true rfl) rfl ?_
  intro p e s m below meth c A ls C hK hw hl
  obtain ⟨hx, hb, hml, hown, hts, hr, hlocks, hnm⟩ := C
  have hown : s.vm.findClass RX7 = some m.cls := hown
  have hl : lv_has ls 3 [(0, .ref x), (1, .int a0), (2, .int a1)] := hl
  refine lv_aload_n hx hb dX7_safe_0 rfl (lv_at hl 0 rfl) ?_
  refine kq_callI (As := []) (rest := []) (n := 0) (q := (RX7, TX7, 9)) (ci := 7) (mc := 0) (ms := 0) ⟨hx, hb, hml, hown, hts⟩ (c_X7_noGate l E L σ hL_x hS_x hL_gt hS_gt) gX7_safe_X7_noGate rfl (by decide +kernel) ⟨Nat.le_of_ble_eq_true rfl, Nat.le_of_ble_eq_true rfl⟩ hK hw hL_x hS_x rfl rfl hl.1 rfl (Nat.le_of_ble_eq_true rfl) dX7_safe_1 rfl rfl ⟨Nat.le_of_ble_eq_true rfl, Nat.le_of_ble_eq_true rfl⟩ (fun r1 Lv σv H locs hp hw => ?_)
  obtain ⟨er1, rfl, rfl⟩ := hp
  have er1 : r1 = 1 := er1
  subst er1
  refine lv_if_eq (tgt := 10) hx hb dX7_safe_4 (by decide) (fun c2 => ?_) (fun c2 => ?_)
  · skip
    exact absurd c2 (by decide)
  · skip
    refine lv_ldc (v := (-1000002)) hx hb hown (hts (.constant RX7 136 (-1000002)) (by decide +kernel)) dX7_safe_7 ?_
    exact kq_iret hx hb hr hlocks hw (Nat.le_of_ble_eq_true rfl) (Nat.le_of_ble_eq_true rfl) dX7_safe_9 rfl
abbrev rmX7_open : Room := { frames := 1, cells := 0, slots := 0, locals := 20 }
set_option maxHeartbeats 4000000 in
set_option maxRecDepth 100000 in
theorem f_X7_open (l : Launch) (E : kq_T) (L : List Nat) (σ : Nat → va_E) {x : Nat} (hF : fr_X E L σ x) (a0 a1 : Int32) : kq_I l E yX7_open wsX7_open rmX7_open [.ref x, .int a0, .int a1] L σ (fun r _ _ => r = (-1000002)) := by
  obtain ⟨ro, tp, gt, ac, im, gu, ak, bt, dr, d1, d2, d3, d4, g1, g2, g3, nw, tk, n2, n3, n4, ah, bd, fr, fi, hL_x, hS_x, hL_ro, hS_ro, hL_tp, hS_tp, hL_bt, hS_bt, hL_dr, hS_dr, hL_gt, hS_gt, hL_nw, hS_nw, hL_tk, hS_tk, hL_ac, hS_ac, hL_im, hS_im, hL_ak, hS_ak, hRw, hIm⟩ := hF
  refine kq_enterI (cc := cX7_open) (maxL := 3) (ret := (some .int)) (by decide) rfl (Nat.le_of_ble_eq_true rfl) rfl ?_
  intro p e s m below meth c A ls C hK hw hl
  obtain ⟨hx, hb, hml, hown, hts, hr, hlocks, hnm⟩ := C
  have hown : s.vm.findClass RX7 = some m.cls := hown
  have hl : lv_has ls 3 [(0, .ref x), (1, .int a0), (2, .int a1)] := hl
  refine lv_aload_n hx hb dX7_open_0 rfl (lv_at hl 0 rfl) ?_
  refine kq_callI (As := []) (rest := []) (n := 0) (q := (RX7, TX7, 9)) (ci := 7) (mc := 0) (ms := 0) ⟨hx, hb, hml, hown, hts⟩ (c_X7_noGate l E L σ hL_x hS_x hL_gt hS_gt) gX7_open_X7_noGate rfl (by decide +kernel) ⟨Nat.le_of_ble_eq_true rfl, Nat.le_of_ble_eq_true rfl⟩ hK hw hL_x hS_x rfl rfl hl.1 rfl (Nat.le_of_ble_eq_true rfl) dX7_open_1 rfl rfl ⟨Nat.le_of_ble_eq_true rfl, Nat.le_of_ble_eq_true rfl⟩ (fun r1 Lv σv H locs hp hw => ?_)
  obtain ⟨er1, rfl, rfl⟩ := hp
  have er1 : r1 = 1 := er1
  subst er1
  refine lv_if_eq (tgt := 10) hx hb dX7_open_4 (by decide) (fun c2 => ?_) (fun c2 => ?_)
  · skip
    exact absurd c2 (by decide)
  · skip
    refine lv_ldc (v := (-1000002)) hx hb hown (hts (.constant RX7 136 (-1000002)) (by decide +kernel)) dX7_open_7 ?_
    exact kq_iret hx hb hr hlocks hw (Nat.le_of_ble_eq_true rfl) (Nat.le_of_ble_eq_true rfl) dX7_open_9 rfl
abbrev rmX7_next : Room := { frames := 1, cells := 0, slots := 0, locals := 21 }
set_option maxHeartbeats 4000000 in
set_option maxRecDepth 100000 in
theorem f_X7_next (l : Launch) (E : kq_T) (L : List Nat) (σ : Nat → va_E) {x : Nat} (hF : fr_X E L σ x) (a0 : Int32) : kq_I l E yX7_next wsX7_next rmX7_next [.ref x, .int a0] L σ (fun r _ _ => r = (-1000001)) := by
  obtain ⟨ro, tp, gt, ac, im, gu, ak, bt, dr, d1, d2, d3, d4, g1, g2, g3, nw, tk, n2, n3, n4, ah, bd, fr, fi, hL_x, hS_x, hL_ro, hS_ro, hL_tp, hS_tp, hL_bt, hS_bt, hL_dr, hS_dr, hL_gt, hS_gt, hL_nw, hS_nw, hL_tk, hS_tk, hL_ac, hS_ac, hL_im, hS_im, hL_ak, hS_ak, hRw, hIm⟩ := hF
  refine kq_enterI (cc := cX7_next) (maxL := 2) (ret := (some .int)) (by decide) rfl (Nat.le_of_ble_eq_true rfl) rfl ?_
  intro p e s m below meth c A ls C hK hw hl
  obtain ⟨hx, hb, hml, hown, hts, hr, hlocks, hnm⟩ := C
  have hown : s.vm.findClass RX7 = some m.cls := hown
  have hl : lv_has ls 2 [(0, .ref x), (1, .int a0)] := hl
  refine lv_aload_n hx hb dX7_next_0 rfl (lv_at hl 0 rfl) ?_
  refine lv_iload_n hx hb dX7_next_1 rfl (lv_at hl 1 rfl) ?_
  refine kq_callI (As := [.int a0]) (rest := []) (n := 1) (q := (RX7, TX7, 9)) (ci := 7) (mc := 0) (ms := 0) ⟨hx, hb, hml, hown, hts⟩ (c_X7_isWord l E L σ a0 hL_x hS_x hL_gt hS_gt) gX7_next_X7_isWord rfl (by decide +kernel) ⟨Nat.le_of_ble_eq_true rfl, Nat.le_of_ble_eq_true rfl⟩ hK hw hL_x hS_x rfl rfl hl.1 rfl (Nat.le_of_ble_eq_true rfl) dX7_next_2 rfl rfl ⟨Nat.le_of_ble_eq_true rfl, Nat.le_of_ble_eq_true rfl⟩ (fun r1 Lv σv H locs hp hw => ?_)
  obtain ⟨er1, rfl, rfl⟩ := hp
  have er1 : r1 = 0 := er1
  subst er1
  refine lv_if_eq (tgt := 19) hx hb dX7_next_5 (by decide) (fun c2 => ?_) (fun c2 => ?_)
  · skip
    refine lv_ldc (v := (-1000001)) hx hb hown (hts (.constant RX7 59 (-1000001)) (by decide +kernel)) dX7_next_19 ?_
    exact kq_iret hx hb hr hlocks hw (Nat.le_of_ble_eq_true rfl) (Nat.le_of_ble_eq_true rfl) dX7_next_21 rfl
  · skip
    exact absurd (by decide) c2
abbrev rmX7_agree : Room := { frames := 1, cells := 0, slots := 0, locals := 20 }
set_option maxHeartbeats 4000000 in
set_option maxRecDepth 100000 in
theorem f_X7_agree (l : Launch) (E : kq_T) (L : List Nat) (σ : Nat → va_E) {x : Nat} (hF : fr_X E L σ x) : kq_I l E yX7_agree wsX7_agree rmX7_agree [.ref x] L σ (fun r _ _ => r = (-1000002)) := by
  obtain ⟨ro, tp, gt, ac, im, gu, ak, bt, dr, d1, d2, d3, d4, g1, g2, g3, nw, tk, n2, n3, n4, ah, bd, fr, fi, hL_x, hS_x, hL_ro, hS_ro, hL_tp, hS_tp, hL_bt, hS_bt, hL_dr, hS_dr, hL_gt, hS_gt, hL_nw, hS_nw, hL_tk, hS_tk, hL_ac, hS_ac, hL_im, hS_im, hL_ak, hS_ak, hRw, hIm⟩ := hF
  refine kq_enterI (cc := cX7_agree) (maxL := 1) (ret := (some .int)) (by decide) rfl (Nat.le_of_ble_eq_true rfl) rfl ?_
  intro p e s m below meth c A ls C hK hw hl
  obtain ⟨hx, hb, hml, hown, hts, hr, hlocks, hnm⟩ := C
  have hown : s.vm.findClass RX7 = some m.cls := hown
  have hl : lv_has ls 1 [(0, .ref x)] := hl
  refine lv_aload_n hx hb dX7_agree_0 rfl (lv_at hl 0 rfl) ?_
  refine kq_callI (As := []) (rest := []) (n := 0) (q := (RX7, TX7, 9)) (ci := 7) (mc := 0) (ms := 0) ⟨hx, hb, hml, hown, hts⟩ (c_X7_noGate l E L σ hL_x hS_x hL_gt hS_gt) gX7_agree_X7_noGate rfl (by decide +kernel) ⟨Nat.le_of_ble_eq_true rfl, Nat.le_of_ble_eq_true rfl⟩ hK hw hL_x hS_x rfl rfl hl.1 rfl (Nat.le_of_ble_eq_true rfl) dX7_agree_1 rfl rfl ⟨Nat.le_of_ble_eq_true rfl, Nat.le_of_ble_eq_true rfl⟩ (fun r1 Lv σv H locs hp hw => ?_)
  obtain ⟨er1, rfl, rfl⟩ := hp
  have er1 : r1 = 1 := er1
  subst er1
  refine lv_if_eq (tgt := 12) hx hb dX7_agree_4 (by decide) (fun c2 => ?_) (fun c2 => ?_)
  · skip
    exact absurd c2 (by decide)
  · skip
    refine lv_ldc (v := (-1000002)) hx hb hown (hts (.constant RX7 136 (-1000002)) (by decide +kernel)) dX7_agree_7 ?_
    refine lv_goto (tgt := 19) hx hb dX7_agree_9 (by decide) ?_
    exact kq_iret hx hb hr hlocks hw (Nat.le_of_ble_eq_true rfl) (Nat.le_of_ble_eq_true rfl) dX7_agree_19 rfl
abbrev rmX7_man : Room := { frames := 1, cells := 0, slots := 0, locals := 20 }
set_option maxHeartbeats 4000000 in
set_option maxRecDepth 100000 in
theorem f_X7_man (l : Launch) (E : kq_T) (L : List Nat) (σ : Nat → va_E) {x : Nat} (hF : fr_X E L σ x) (a0 : Int32) : kq_I l E yX7_man wsX7_man rmX7_man [.ref x, .int a0] L σ (fun r _ _ => r = (-1000002)) := by
  obtain ⟨ro, tp, gt, ac, im, gu, ak, bt, dr, d1, d2, d3, d4, g1, g2, g3, nw, tk, n2, n3, n4, ah, bd, fr, fi, hL_x, hS_x, hL_ro, hS_ro, hL_tp, hS_tp, hL_bt, hS_bt, hL_dr, hS_dr, hL_gt, hS_gt, hL_nw, hS_nw, hL_tk, hS_tk, hL_ac, hS_ac, hL_im, hS_im, hL_ak, hS_ak, hRw, hIm⟩ := hF
  refine kq_enterI (cc := cX7_man) (maxL := 4) (ret := (some .int)) (by decide) rfl (Nat.le_of_ble_eq_true rfl) rfl ?_
  intro p e s m below meth c A ls C hK hw hl
  obtain ⟨hx, hb, hml, hown, hts, hr, hlocks, hnm⟩ := C
  have hown : s.vm.findClass RX7 = some m.cls := hown
  have hl : lv_has ls 4 [(0, .ref x), (1, .int a0)] := hl
  refine lv_aload_n hx hb dX7_man_0 rfl (lv_at hl 0 rfl) ?_
  refine kq_callI (As := []) (rest := []) (n := 0) (q := (RX7, TX7, 9)) (ci := 7) (mc := 0) (ms := 0) ⟨hx, hb, hml, hown, hts⟩ (c_X7_noGate l E L σ hL_x hS_x hL_gt hS_gt) gX7_man_X7_noGate rfl (by decide +kernel) ⟨Nat.le_of_ble_eq_true rfl, Nat.le_of_ble_eq_true rfl⟩ hK hw hL_x hS_x rfl rfl hl.1 rfl (Nat.le_of_ble_eq_true rfl) dX7_man_1 rfl rfl ⟨Nat.le_of_ble_eq_true rfl, Nat.le_of_ble_eq_true rfl⟩ (fun r1 Lv σv H locs hp hw => ?_)
  obtain ⟨er1, rfl, rfl⟩ := hp
  have er1 : r1 = 1 := er1
  subst er1
  refine lv_if_eq (tgt := 10) hx hb dX7_man_4 (by decide) (fun c2 => ?_) (fun c2 => ?_)
  · skip
    exact absurd c2 (by decide)
  · skip
    refine lv_ldc (v := (-1000002)) hx hb hown (hts (.constant RX7 136 (-1000002)) (by decide +kernel)) dX7_man_7 ?_
    exact kq_iret hx hb hr hlocks hw (Nat.le_of_ble_eq_true rfl) (Nat.le_of_ble_eq_true rfl) dX7_man_9 rfl
abbrev rmX7_fewest : Room := { frames := 1, cells := 0, slots := 0, locals := 20 }
set_option maxHeartbeats 4000000 in
set_option maxRecDepth 100000 in
theorem f_X7_fewest (l : Launch) (E : kq_T) (L : List Nat) (σ : Nat → va_E) {x : Nat} (hF : fr_X E L σ x) : kq_I l E yX7_fewest wsX7_fewest rmX7_fewest [.ref x] L σ (fun r _ _ => r = (-1000002)) := by
  obtain ⟨ro, tp, gt, ac, im, gu, ak, bt, dr, d1, d2, d3, d4, g1, g2, g3, nw, tk, n2, n3, n4, ah, bd, fr, fi, hL_x, hS_x, hL_ro, hS_ro, hL_tp, hS_tp, hL_bt, hS_bt, hL_dr, hS_dr, hL_gt, hS_gt, hL_nw, hS_nw, hL_tk, hS_tk, hL_ac, hS_ac, hL_im, hS_im, hL_ak, hS_ak, hRw, hIm⟩ := hF
  refine kq_enterI (cc := cX7_fewest) (maxL := 1) (ret := (some .int)) (by decide) rfl (Nat.le_of_ble_eq_true rfl) rfl ?_
  intro p e s m below meth c A ls C hK hw hl
  obtain ⟨hx, hb, hml, hown, hts, hr, hlocks, hnm⟩ := C
  have hown : s.vm.findClass RX7 = some m.cls := hown
  have hl : lv_has ls 1 [(0, .ref x)] := hl
  refine lv_aload_n hx hb dX7_fewest_0 rfl (lv_at hl 0 rfl) ?_
  refine kq_callI (As := []) (rest := []) (n := 0) (q := (RX7, TX7, 9)) (ci := 7) (mc := 0) (ms := 0) ⟨hx, hb, hml, hown, hts⟩ (c_X7_noGate l E L σ hL_x hS_x hL_gt hS_gt) gX7_fewest_X7_noGate rfl (by decide +kernel) ⟨Nat.le_of_ble_eq_true rfl, Nat.le_of_ble_eq_true rfl⟩ hK hw hL_x hS_x rfl rfl hl.1 rfl (Nat.le_of_ble_eq_true rfl) dX7_fewest_1 rfl rfl ⟨Nat.le_of_ble_eq_true rfl, Nat.le_of_ble_eq_true rfl⟩ (fun r1 Lv σv H locs hp hw => ?_)
  obtain ⟨er1, rfl, rfl⟩ := hp
  have er1 : r1 = 1 := er1
  subst er1
  refine lv_if_eq (tgt := 12) hx hb dX7_fewest_4 (by decide) (fun c2 => ?_) (fun c2 => ?_)
  · skip
    exact absurd c2 (by decide)
  · skip
    refine lv_ldc (v := (-1000002)) hx hb hown (hts (.constant RX7 136 (-1000002)) (by decide +kernel)) dX7_fewest_7 ?_
    refine lv_goto (tgt := 30) hx hb dX7_fewest_9 (by decide) ?_
    exact kq_iret hx hb hr hlocks hw (Nat.le_of_ble_eq_true rfl) (Nat.le_of_ble_eq_true rfl) dX7_fewest_30 rfl
abbrev rmX7_march : Room := { frames := 1, cells := 0, slots := 0, locals := 20 }
set_option maxHeartbeats 4000000 in
set_option maxRecDepth 100000 in
theorem f_X7_march (l : Launch) (E : kq_T) (L : List Nat) (σ : Nat → va_E) {x : Nat} (hF : fr_X E L σ x) (a0 a1 a2 a3 : Int32) : kq_I l E yX7_march wsX7_march rmX7_march [.ref x, .int a0, .int a1, .int a2, .int a3] L σ (fun r _ _ => r = (-1000002)) := by
  obtain ⟨ro, tp, gt, ac, im, gu, ak, bt, dr, d1, d2, d3, d4, g1, g2, g3, nw, tk, n2, n3, n4, ah, bd, fr, fi, hL_x, hS_x, hL_ro, hS_ro, hL_tp, hS_tp, hL_bt, hS_bt, hL_dr, hS_dr, hL_gt, hS_gt, hL_nw, hS_nw, hL_tk, hS_tk, hL_ac, hS_ac, hL_im, hS_im, hL_ak, hS_ak, hRw, hIm⟩ := hF
  refine kq_enterI (cc := cX7_march) (maxL := 6) (ret := (some .int)) (by decide) rfl (Nat.le_of_ble_eq_true rfl) rfl ?_
  intro p e s m below meth c A ls C hK hw hl
  obtain ⟨hx, hb, hml, hown, hts, hr, hlocks, hnm⟩ := C
  have hown : s.vm.findClass RX7 = some m.cls := hown
  have hl : lv_has ls 6 [(0, .ref x), (1, .int a0), (2, .int a1), (3, .int a2), (4, .int a3)] := hl
  refine lv_aload_n hx hb dX7_march_0 rfl (lv_at hl 0 rfl) ?_
  refine kq_callI (As := []) (rest := []) (n := 0) (q := (RX7, TX7, 9)) (ci := 7) (mc := 0) (ms := 0) ⟨hx, hb, hml, hown, hts⟩ (c_X7_noGate l E L σ hL_x hS_x hL_gt hS_gt) gX7_march_X7_noGate rfl (by decide +kernel) ⟨Nat.le_of_ble_eq_true rfl, Nat.le_of_ble_eq_true rfl⟩ hK hw hL_x hS_x rfl rfl hl.1 rfl (Nat.le_of_ble_eq_true rfl) dX7_march_1 rfl rfl ⟨Nat.le_of_ble_eq_true rfl, Nat.le_of_ble_eq_true rfl⟩ (fun r1 Lv σv H locs hp hw => ?_)
  obtain ⟨er1, rfl, rfl⟩ := hp
  have er1 : r1 = 1 := er1
  subst er1
  refine lv_if_eq (tgt := 10) hx hb dX7_march_4 (by decide) (fun c2 => ?_) (fun c2 => ?_)
  · skip
    exact absurd c2 (by decide)
  · skip
    refine lv_ldc (v := (-1000002)) hx hb hown (hts (.constant RX7 136 (-1000002)) (by decide +kernel)) dX7_march_7 ?_
    exact kq_iret hx hb hr hlocks hw (Nat.le_of_ble_eq_true rfl) (Nat.le_of_ble_eq_true rfl) dX7_march_9 rfl
abbrev rmX7_cheap : Room := { frames := 1, cells := 0, slots := 0, locals := 20 }
set_option maxHeartbeats 4000000 in
set_option maxRecDepth 100000 in
theorem f_X7_cheap (l : Launch) (E : kq_T) (L : List Nat) (σ : Nat → va_E) {x : Nat} (hF : fr_X E L σ x) (a0 a1 a2 : Int32) : kq_I l E yX7_cheap wsX7_cheap rmX7_cheap [.ref x, .int a0, .int a1, .int a2] L σ (fun r _ _ => r = (-1000002)) := by
  obtain ⟨ro, tp, gt, ac, im, gu, ak, bt, dr, d1, d2, d3, d4, g1, g2, g3, nw, tk, n2, n3, n4, ah, bd, fr, fi, hL_x, hS_x, hL_ro, hS_ro, hL_tp, hS_tp, hL_bt, hS_bt, hL_dr, hS_dr, hL_gt, hS_gt, hL_nw, hS_nw, hL_tk, hS_tk, hL_ac, hS_ac, hL_im, hS_im, hL_ak, hS_ak, hRw, hIm⟩ := hF
  refine kq_enterI (cc := cX7_cheap) (maxL := 5) (ret := (some .int)) (by decide) rfl (Nat.le_of_ble_eq_true rfl) rfl ?_
  intro p e s m below meth c A ls C hK hw hl
  obtain ⟨hx, hb, hml, hown, hts, hr, hlocks, hnm⟩ := C
  have hown : s.vm.findClass RX7 = some m.cls := hown
  have hl : lv_has ls 5 [(0, .ref x), (1, .int a0), (2, .int a1), (3, .int a2)] := hl
  refine lv_aload_n hx hb dX7_cheap_0 rfl (lv_at hl 0 rfl) ?_
  refine kq_callI (As := []) (rest := []) (n := 0) (q := (RX7, TX7, 9)) (ci := 7) (mc := 0) (ms := 0) ⟨hx, hb, hml, hown, hts⟩ (c_X7_noGate l E L σ hL_x hS_x hL_gt hS_gt) gX7_cheap_X7_noGate rfl (by decide +kernel) ⟨Nat.le_of_ble_eq_true rfl, Nat.le_of_ble_eq_true rfl⟩ hK hw hL_x hS_x rfl rfl hl.1 rfl (Nat.le_of_ble_eq_true rfl) dX7_cheap_1 rfl rfl ⟨Nat.le_of_ble_eq_true rfl, Nat.le_of_ble_eq_true rfl⟩ (fun r1 Lv σv H locs hp hw => ?_)
  obtain ⟨er1, rfl, rfl⟩ := hp
  have er1 : r1 = 1 := er1
  subst er1
  refine lv_if_eq (tgt := 10) hx hb dX7_cheap_4 (by decide) (fun c2 => ?_) (fun c2 => ?_)
  · skip
    exact absurd c2 (by decide)
  · skip
    refine lv_ldc (v := (-1000002)) hx hb hown (hts (.constant RX7 136 (-1000002)) (by decide +kernel)) dX7_cheap_7 ?_
    exact kq_iret hx hb hr hlocks hw (Nat.le_of_ble_eq_true rfl) (Nat.le_of_ble_eq_true rfl) dX7_cheap_9 rfl
abbrev rmX7_near : Room := { frames := 1, cells := 0, slots := 0, locals := 21 }
set_option maxHeartbeats 4000000 in
set_option maxRecDepth 100000 in
theorem f_X7_near (l : Launch) (E : kq_T) (L : List Nat) (σ : Nat → va_E) {x : Nat} (hF : fr_X E L σ x) (a0 a1 : Int32) : kq_I l E yX7_near wsX7_near rmX7_near [.ref x, .int a0, .int a1] L σ (fun r _ _ => r = (-1000001)) := by
  obtain ⟨ro, tp, gt, ac, im, gu, ak, bt, dr, d1, d2, d3, d4, g1, g2, g3, nw, tk, n2, n3, n4, ah, bd, fr, fi, hL_x, hS_x, hL_ro, hS_ro, hL_tp, hS_tp, hL_bt, hS_bt, hL_dr, hS_dr, hL_gt, hS_gt, hL_nw, hS_nw, hL_tk, hS_tk, hL_ac, hS_ac, hL_im, hS_im, hL_ak, hS_ak, hRw, hIm⟩ := hF
  refine kq_enterI (cc := cX7_near) (maxL := 4) (ret := (some .int)) (by decide) rfl (Nat.le_of_ble_eq_true rfl) rfl ?_
  intro p e s m below meth c A ls C hK hw hl
  obtain ⟨hx, hb, hml, hown, hts, hr, hlocks, hnm⟩ := C
  have hown : s.vm.findClass RX7 = some m.cls := hown
  have hl : lv_has ls 4 [(0, .ref x), (1, .int a0), (2, .int a1)] := hl
  refine lv_aload_n hx hb dX7_near_0 rfl (lv_at hl 0 rfl) ?_
  refine lv_iload_n hx hb dX7_near_1 rfl (lv_at hl 1 rfl) ?_
  refine kq_callI (As := [.int a0]) (rest := []) (n := 1) (q := (RX7, TX7, 9)) (ci := 7) (mc := 0) (ms := 0) ⟨hx, hb, hml, hown, hts⟩ (c_X7_isWord l E L σ a0 hL_x hS_x hL_gt hS_gt) gX7_near_X7_isWord rfl (by decide +kernel) ⟨Nat.le_of_ble_eq_true rfl, Nat.le_of_ble_eq_true rfl⟩ hK hw hL_x hS_x rfl rfl hl.1 rfl (Nat.le_of_ble_eq_true rfl) dX7_near_2 rfl rfl ⟨Nat.le_of_ble_eq_true rfl, Nat.le_of_ble_eq_true rfl⟩ (fun r1 Lv σv H locs hp hw => ?_)
  obtain ⟨er1, rfl, rfl⟩ := hp
  have er1 : r1 = 0 := er1
  subst er1
  refine lv_if_eq (tgt := 17) hx hb dX7_near_5 (by decide) (fun c2 => ?_) (fun c2 => ?_)
  · skip
    refine lv_ldc (v := (-1000001)) hx hb hown (hts (.constant RX7 59 (-1000001)) (by decide +kernel)) dX7_near_17 ?_
    exact kq_iret hx hb hr hlocks hw (Nat.le_of_ble_eq_true rfl) (Nat.le_of_ble_eq_true rfl) dX7_near_19 rfl
  · skip
    exact absurd (by decide) c2
abbrev rmX7_rules : Room := { frames := 1, cells := 0, slots := 0, locals := 20 }
set_option maxHeartbeats 4000000 in
set_option maxRecDepth 100000 in
theorem f_X7_rules (l : Launch) (E : kq_T) (L : List Nat) (σ : Nat → va_E) {x : Nat} (hF : fr_X E L σ x) (a0 a1 a2 a3 : Int32) : kq_I l E yX7_rules wsX7_rules rmX7_rules [.ref x, .int a0, .int a1, .int a2, .int a3] L σ (fun r _ _ => r = (-1000002)) := by
  obtain ⟨ro, tp, gt, ac, im, gu, ak, bt, dr, d1, d2, d3, d4, g1, g2, g3, nw, tk, n2, n3, n4, ah, bd, fr, fi, hL_x, hS_x, hL_ro, hS_ro, hL_tp, hS_tp, hL_bt, hS_bt, hL_dr, hS_dr, hL_gt, hS_gt, hL_nw, hS_nw, hL_tk, hS_tk, hL_ac, hS_ac, hL_im, hS_im, hL_ak, hS_ak, hRw, hIm⟩ := hF
  refine kq_enterI (cc := cX7_rules) (maxL := 6) (ret := (some .int)) (by decide) rfl (Nat.le_of_ble_eq_true rfl) rfl ?_
  intro p e s m below meth c A ls C hK hw hl
  obtain ⟨hx, hb, hml, hown, hts, hr, hlocks, hnm⟩ := C
  have hown : s.vm.findClass RX7 = some m.cls := hown
  have hl : lv_has ls 6 [(0, .ref x), (1, .int a0), (2, .int a1), (3, .int a2), (4, .int a3)] := hl
  refine lv_aload_n hx hb dX7_rules_0 rfl (lv_at hl 0 rfl) ?_
  refine kq_callI (As := []) (rest := []) (n := 0) (q := (RX7, TX7, 9)) (ci := 7) (mc := 0) (ms := 0) ⟨hx, hb, hml, hown, hts⟩ (c_X7_noGate l E L σ hL_x hS_x hL_gt hS_gt) gX7_rules_X7_noGate rfl (by decide +kernel) ⟨Nat.le_of_ble_eq_true rfl, Nat.le_of_ble_eq_true rfl⟩ hK hw hL_x hS_x rfl rfl hl.1 rfl (Nat.le_of_ble_eq_true rfl) dX7_rules_1 rfl rfl ⟨Nat.le_of_ble_eq_true rfl, Nat.le_of_ble_eq_true rfl⟩ (fun r1 Lv σv H locs hp hw => ?_)
  obtain ⟨er1, rfl, rfl⟩ := hp
  have er1 : r1 = 1 := er1
  subst er1
  refine lv_if_eq (tgt := 10) hx hb dX7_rules_4 (by decide) (fun c2 => ?_) (fun c2 => ?_)
  · skip
    exact absurd c2 (by decide)
  · skip
    refine lv_ldc (v := (-1000002)) hx hb hown (hts (.constant RX7 136 (-1000002)) (by decide +kernel)) dX7_rules_7 ?_
    exact kq_iret hx hb hr hlocks hw (Nat.le_of_ble_eq_true rfl) (Nat.le_of_ble_eq_true rfl) dX7_rules_9 rfl
abbrev rmX7_fits : Room := { frames := 1, cells := 0, slots := 0, locals := 21 }
set_option maxHeartbeats 4000000 in
set_option maxRecDepth 100000 in
theorem f_X7_fits (l : Launch) (E : kq_T) (L : List Nat) (σ : Nat → va_E) {x : Nat} (hF : fr_X E L σ x) (a0 a1 a2 a3 : Int32) : kq_I l E yX7_fits wsX7_fits rmX7_fits [.ref x, .int a0, .int a1, .int a2, .int a3] L σ (fun r _ _ => r = (-1000001)) := by
  obtain ⟨ro, tp, gt, ac, im, gu, ak, bt, dr, d1, d2, d3, d4, g1, g2, g3, nw, tk, n2, n3, n4, ah, bd, fr, fi, hL_x, hS_x, hL_ro, hS_ro, hL_tp, hS_tp, hL_bt, hS_bt, hL_dr, hS_dr, hL_gt, hS_gt, hL_nw, hS_nw, hL_tk, hS_tk, hL_ac, hS_ac, hL_im, hS_im, hL_ak, hS_ak, hRw, hIm⟩ := hF
  refine kq_enterI (cc := cX7_fits) (maxL := 6) (ret := (some .int)) (by decide) rfl (Nat.le_of_ble_eq_true rfl) rfl ?_
  intro p e s m below meth c A ls C hK hw hl
  obtain ⟨hx, hb, hml, hown, hts, hr, hlocks, hnm⟩ := C
  have hown : s.vm.findClass RX7 = some m.cls := hown
  have hl : lv_has ls 6 [(0, .ref x), (1, .int a0), (2, .int a1), (3, .int a2), (4, .int a3)] := hl
  refine lv_aload_n hx hb dX7_fits_0 rfl (lv_at hl 0 rfl) ?_
  refine lv_iload_n hx hb dX7_fits_1 rfl (lv_at hl 1 rfl) ?_
  refine kq_callI (As := [.int a0]) (rest := []) (n := 1) (q := (RX7, TX7, 9)) (ci := 7) (mc := 0) (ms := 0) ⟨hx, hb, hml, hown, hts⟩ (c_X7_isGuard l E L σ a0 hL_x hS_x hL_gt hS_gt) gX7_fits_X7_isGuard rfl (by decide +kernel) ⟨Nat.le_of_ble_eq_true rfl, Nat.le_of_ble_eq_true rfl⟩ hK hw hL_x hS_x rfl rfl hl.1 rfl (Nat.le_of_ble_eq_true rfl) dX7_fits_2 rfl rfl ⟨Nat.le_of_ble_eq_true rfl, Nat.le_of_ble_eq_true rfl⟩ (fun r1 Lv σv H locs hp hw => ?_)
  obtain ⟨er1, rfl, rfl⟩ := hp
  have er1 : r1 = 0 := er1
  subst er1
  refine lv_if_eq (tgt := 27) hx hb dX7_fits_5 (by decide) (fun c2 => ?_) (fun c2 => ?_)
  · skip
    refine lv_ldc (v := (-1000001)) hx hb hown (hts (.constant RX7 59 (-1000001)) (by decide +kernel)) dX7_fits_27 ?_
    exact kq_iret hx hb hr hlocks hw (Nat.le_of_ble_eq_true rfl) (Nat.le_of_ble_eq_true rfl) dX7_fits_29 rfl
  · skip
    exact absurd (by decide) c2
abbrev rmX7_sure : Room := { frames := 1, cells := 0, slots := 0, locals := 21 }
set_option maxHeartbeats 4000000 in
set_option maxRecDepth 100000 in
theorem f_X7_sure (l : Launch) (E : kq_T) (L : List Nat) (σ : Nat → va_E) {x : Nat} (hF : fr_X E L σ x) (a0 a1 a2 a3 : Int32) : kq_I l E yX7_sure wsX7_sure rmX7_sure [.ref x, .int a0, .int a1, .int a2, .int a3] L σ (fun r _ _ => r = (-1000001)) := by
  obtain ⟨ro, tp, gt, ac, im, gu, ak, bt, dr, d1, d2, d3, d4, g1, g2, g3, nw, tk, n2, n3, n4, ah, bd, fr, fi, hL_x, hS_x, hL_ro, hS_ro, hL_tp, hS_tp, hL_bt, hS_bt, hL_dr, hS_dr, hL_gt, hS_gt, hL_nw, hS_nw, hL_tk, hS_tk, hL_ac, hS_ac, hL_im, hS_im, hL_ak, hS_ak, hRw, hIm⟩ := hF
  refine kq_enterI (cc := cX7_sure) (maxL := 10) (ret := (some .int)) (by decide) rfl (Nat.le_of_ble_eq_true rfl) rfl ?_
  intro p e s m below meth c A ls C hK hw hl
  obtain ⟨hx, hb, hml, hown, hts, hr, hlocks, hnm⟩ := C
  have hown : s.vm.findClass RX7 = some m.cls := hown
  have hl : lv_has ls 10 [(0, .ref x), (1, .int a0), (2, .int a1), (3, .int a2), (4, .int a3)] := hl
  refine lv_aload_n hx hb dX7_sure_0 rfl (lv_at hl 0 rfl) ?_
  refine lv_iload_n hx hb dX7_sure_1 rfl (lv_at hl 1 rfl) ?_
  refine kq_callI (As := [.int a0]) (rest := []) (n := 1) (q := (RX7, TX7, 9)) (ci := 7) (mc := 0) (ms := 0) ⟨hx, hb, hml, hown, hts⟩ (c_X7_isWord l E L σ a0 hL_x hS_x hL_gt hS_gt) gX7_sure_X7_isWord rfl (by decide +kernel) ⟨Nat.le_of_ble_eq_true rfl, Nat.le_of_ble_eq_true rfl⟩ hK hw hL_x hS_x rfl rfl hl.1 rfl (Nat.le_of_ble_eq_true rfl) dX7_sure_2 rfl rfl ⟨Nat.le_of_ble_eq_true rfl, Nat.le_of_ble_eq_true rfl⟩ (fun r1 Lv σv H locs hp hw => ?_)
  obtain ⟨er1, rfl, rfl⟩ := hp
  have er1 : r1 = 0 := er1
  subst er1
  refine lv_if_eq (tgt := 37) hx hb dX7_sure_5 (by decide) (fun c2 => ?_) (fun c2 => ?_)
  · skip
    refine lv_ldc (v := (-1000001)) hx hb hown (hts (.constant RX7 59 (-1000001)) (by decide +kernel)) dX7_sure_37 ?_
    exact kq_iret hx hb hr hlocks hw (Nat.le_of_ble_eq_true rfl) (Nat.le_of_ble_eq_true rfl) dX7_sure_39 rfl
  · skip
    exact absurd (by decide) c2
abbrev rmX7_drawn : Room := { frames := 1, cells := 0, slots := 0, locals := 20 }
set_option maxHeartbeats 4000000 in
set_option maxRecDepth 100000 in
theorem f_X7_drawn (l : Launch) (E : kq_T) (L : List Nat) (σ : Nat → va_E) {x : Nat} (hF : fr_X E L σ x) (a0 a1 a2 : Int32) : kq_I l E yX7_drawn wsX7_drawn rmX7_drawn [.ref x, .int a0, .int a1, .int a2] L σ (fun r _ _ => r = (-1000002)) := by
  obtain ⟨ro, tp, gt, ac, im, gu, ak, bt, dr, d1, d2, d3, d4, g1, g2, g3, nw, tk, n2, n3, n4, ah, bd, fr, fi, hL_x, hS_x, hL_ro, hS_ro, hL_tp, hS_tp, hL_bt, hS_bt, hL_dr, hS_dr, hL_gt, hS_gt, hL_nw, hS_nw, hL_tk, hS_tk, hL_ac, hS_ac, hL_im, hS_im, hL_ak, hS_ak, hRw, hIm⟩ := hF
  refine kq_enterI (cc := cX7_drawn) (maxL := 10) (ret := (some .int)) (by decide) rfl (Nat.le_of_ble_eq_true rfl) rfl ?_
  intro p e s m below meth c A ls C hK hw hl
  obtain ⟨hx, hb, hml, hown, hts, hr, hlocks, hnm⟩ := C
  have hown : s.vm.findClass RX7 = some m.cls := hown
  have hl : lv_has ls 10 [(0, .ref x), (1, .int a0), (2, .int a1), (3, .int a2)] := hl
  refine lv_aload_n hx hb dX7_drawn_0 rfl (lv_at hl 0 rfl) ?_
  refine kq_callI (As := []) (rest := []) (n := 0) (q := (RX7, TX7, 9)) (ci := 7) (mc := 0) (ms := 0) ⟨hx, hb, hml, hown, hts⟩ (c_X7_noGate l E L σ hL_x hS_x hL_gt hS_gt) gX7_drawn_X7_noGate rfl (by decide +kernel) ⟨Nat.le_of_ble_eq_true rfl, Nat.le_of_ble_eq_true rfl⟩ hK hw hL_x hS_x rfl rfl hl.1 rfl (Nat.le_of_ble_eq_true rfl) dX7_drawn_1 rfl rfl ⟨Nat.le_of_ble_eq_true rfl, Nat.le_of_ble_eq_true rfl⟩ (fun r1 Lv σv H locs hp hw => ?_)
  obtain ⟨er1, rfl, rfl⟩ := hp
  have er1 : r1 = 1 := er1
  subst er1
  refine lv_if_eq (tgt := 10) hx hb dX7_drawn_4 (by decide) (fun c2 => ?_) (fun c2 => ?_)
  · skip
    exact absurd c2 (by decide)
  · skip
    refine lv_ldc (v := (-1000002)) hx hb hown (hts (.constant RX7 136 (-1000002)) (by decide +kernel)) dX7_drawn_7 ?_
    exact kq_iret hx hb hr hlocks hw (Nat.le_of_ble_eq_true rfl) (Nat.le_of_ble_eq_true rfl) dX7_drawn_9 rfl
abbrev rmX7_kind : Room := { frames := 1, cells := 0, slots := 0, locals := 21 }
set_option maxHeartbeats 4000000 in
set_option maxRecDepth 100000 in
theorem f_X7_kind (l : Launch) (E : kq_T) (L : List Nat) (σ : Nat → va_E) {x : Nat} (hF : fr_X E L σ x) (a0 : Int32) : kq_I l E yX7_kind wsX7_kind rmX7_kind [.ref x, .int a0] L σ (fun r _ _ => r = (-1000001)) := by
  obtain ⟨ro, tp, gt, ac, im, gu, ak, bt, dr, d1, d2, d3, d4, g1, g2, g3, nw, tk, n2, n3, n4, ah, bd, fr, fi, hL_x, hS_x, hL_ro, hS_ro, hL_tp, hS_tp, hL_bt, hS_bt, hL_dr, hS_dr, hL_gt, hS_gt, hL_nw, hS_nw, hL_tk, hS_tk, hL_ac, hS_ac, hL_im, hS_im, hL_ak, hS_ak, hRw, hIm⟩ := hF
  refine kq_enterI (cc := cX7_kind) (maxL := 2) (ret := (some .int)) (by decide) rfl (Nat.le_of_ble_eq_true rfl) rfl ?_
  intro p e s m below meth c A ls C hK hw hl
  obtain ⟨hx, hb, hml, hown, hts, hr, hlocks, hnm⟩ := C
  have hown : s.vm.findClass RX7 = some m.cls := hown
  have hl : lv_has ls 2 [(0, .ref x), (1, .int a0)] := hl
  refine lv_aload_n hx hb dX7_kind_0 rfl (lv_at hl 0 rfl) ?_
  refine lv_iload_n hx hb dX7_kind_1 rfl (lv_at hl 1 rfl) ?_
  refine kq_callI (As := [.int a0]) (rest := []) (n := 1) (q := (RX7, TX7, 9)) (ci := 7) (mc := 0) (ms := 0) ⟨hx, hb, hml, hown, hts⟩ (c_X7_isGuard l E L σ a0 hL_x hS_x hL_gt hS_gt) gX7_kind_X7_isGuard rfl (by decide +kernel) ⟨Nat.le_of_ble_eq_true rfl, Nat.le_of_ble_eq_true rfl⟩ hK hw hL_x hS_x rfl rfl hl.1 rfl (Nat.le_of_ble_eq_true rfl) dX7_kind_2 rfl rfl ⟨Nat.le_of_ble_eq_true rfl, Nat.le_of_ble_eq_true rfl⟩ (fun r1 Lv σv H locs hp hw => ?_)
  obtain ⟨er1, rfl, rfl⟩ := hp
  have er1 : r1 = 0 := er1
  subst er1
  refine lv_if_eq (tgt := 20) hx hb dX7_kind_5 (by decide) (fun c2 => ?_) (fun c2 => ?_)
  · skip
    refine lv_ldc (v := (-1000001)) hx hb hown (hts (.constant RX7 59 (-1000001)) (by decide +kernel)) dX7_kind_20 ?_
    exact kq_iret hx hb hr hlocks hw (Nat.le_of_ble_eq_true rfl) (Nat.le_of_ble_eq_true rfl) dX7_kind_22 rfl
  · skip
    exact absurd (by decide) c2
abbrev rmX7_as : Room := { frames := 1, cells := 0, slots := 0, locals := 21 }
set_option maxHeartbeats 4000000 in
set_option maxRecDepth 100000 in
theorem f_X7_as (l : Launch) (E : kq_T) (L : List Nat) (σ : Nat → va_E) {x : Nat} (hF : fr_X E L σ x) (a0 a1 : Int32) : kq_I l E yX7_as wsX7_as rmX7_as [.ref x, .int a0, .int a1] L σ (fun r _ _ => r = (-1000001)) := by
  obtain ⟨ro, tp, gt, ac, im, gu, ak, bt, dr, d1, d2, d3, d4, g1, g2, g3, nw, tk, n2, n3, n4, ah, bd, fr, fi, hL_x, hS_x, hL_ro, hS_ro, hL_tp, hS_tp, hL_bt, hS_bt, hL_dr, hS_dr, hL_gt, hS_gt, hL_nw, hS_nw, hL_tk, hS_tk, hL_ac, hS_ac, hL_im, hS_im, hL_ak, hS_ak, hRw, hIm⟩ := hF
  refine kq_enterI (cc := cX7_as) (maxL := 3) (ret := (some .int)) (by decide) rfl (Nat.le_of_ble_eq_true rfl) rfl ?_
  intro p e s m below meth c A ls C hK hw hl
  obtain ⟨hx, hb, hml, hown, hts, hr, hlocks, hnm⟩ := C
  have hown : s.vm.findClass RX7 = some m.cls := hown
  have hl : lv_has ls 3 [(0, .ref x), (1, .int a0), (2, .int a1)] := hl
  refine lv_aload_n hx hb dX7_as_0 rfl (lv_at hl 0 rfl) ?_
  refine lv_iload_n hx hb dX7_as_1 rfl (lv_at hl 1 rfl) ?_
  refine kq_callI (As := [.int a0]) (rest := []) (n := 1) (q := (RX7, TX7, 9)) (ci := 7) (mc := 0) (ms := 0) ⟨hx, hb, hml, hown, hts⟩ (c_X7_isGuard l E L σ a0 hL_x hS_x hL_gt hS_gt) gX7_as_X7_isGuard rfl (by decide +kernel) ⟨Nat.le_of_ble_eq_true rfl, Nat.le_of_ble_eq_true rfl⟩ hK hw hL_x hS_x rfl rfl hl.1 rfl (Nat.le_of_ble_eq_true rfl) dX7_as_2 rfl rfl ⟨Nat.le_of_ble_eq_true rfl, Nat.le_of_ble_eq_true rfl⟩ (fun r1 Lv σv H locs hp hw => ?_)
  obtain ⟨er1, rfl, rfl⟩ := hp
  have er1 : r1 = 0 := er1
  subst er1
  refine lv_if_eq (tgt := 17) hx hb dX7_as_5 (by decide) (fun c2 => ?_) (fun c2 => ?_)
  · skip
    refine lv_ldc (v := (-1000001)) hx hb hown (hts (.constant RX7 59 (-1000001)) (by decide +kernel)) dX7_as_17 ?_
    exact kq_iret hx hb hr hlocks hw (Nat.le_of_ble_eq_true rfl) (Nat.le_of_ble_eq_true rfl) dX7_as_19 rfl
  · skip
    exact absurd (by decide) c2
abbrev rmX7_ask : Room := { frames := 1, cells := 0, slots := 0, locals := 21 }
set_option maxHeartbeats 4000000 in
set_option maxRecDepth 100000 in
theorem f_X7_ask (l : Launch) (E : kq_T) (L : List Nat) (σ : Nat → va_E) {x : Nat} (hF : fr_X E L σ x) (a0 a1 : Int32) : kq_I l E yX7_ask wsX7_ask rmX7_ask [.ref x, .int a0, .int a1] L σ (fun r _ _ => r = (-1000001)) := by
  obtain ⟨ro, tp, gt, ac, im, gu, ak, bt, dr, d1, d2, d3, d4, g1, g2, g3, nw, tk, n2, n3, n4, ah, bd, fr, fi, hL_x, hS_x, hL_ro, hS_ro, hL_tp, hS_tp, hL_bt, hS_bt, hL_dr, hS_dr, hL_gt, hS_gt, hL_nw, hS_nw, hL_tk, hS_tk, hL_ac, hS_ac, hL_im, hS_im, hL_ak, hS_ak, hRw, hIm⟩ := hF
  refine kq_enterI (cc := cX7_ask) (maxL := 3) (ret := (some .int)) (by decide) rfl (Nat.le_of_ble_eq_true rfl) rfl ?_
  intro p e s m below meth c A ls C hK hw hl
  obtain ⟨hx, hb, hml, hown, hts, hr, hlocks, hnm⟩ := C
  have hown : s.vm.findClass RX7 = some m.cls := hown
  have hl : lv_has ls 3 [(0, .ref x), (1, .int a0), (2, .int a1)] := hl
  refine lv_aload_n hx hb dX7_ask_0 rfl (lv_at hl 0 rfl) ?_
  refine lv_iload_n hx hb dX7_ask_1 rfl (lv_at hl 1 rfl) ?_
  refine kq_callI (As := [.int a0]) (rest := []) (n := 1) (q := (RX7, TX7, 9)) (ci := 7) (mc := 0) (ms := 0) ⟨hx, hb, hml, hown, hts⟩ (c_X7_isGuard l E L σ a0 hL_x hS_x hL_gt hS_gt) gX7_ask_X7_isGuard rfl (by decide +kernel) ⟨Nat.le_of_ble_eq_true rfl, Nat.le_of_ble_eq_true rfl⟩ hK hw hL_x hS_x rfl rfl hl.1 rfl (Nat.le_of_ble_eq_true rfl) dX7_ask_2 rfl rfl ⟨Nat.le_of_ble_eq_true rfl, Nat.le_of_ble_eq_true rfl⟩ (fun r1 Lv σv H locs hp hw => ?_)
  obtain ⟨er1, rfl, rfl⟩ := hp
  have er1 : r1 = 0 := er1
  subst er1
  refine lv_if_eq (tgt := 17) hx hb dX7_ask_5 (by decide) (fun c2 => ?_) (fun c2 => ?_)
  · skip
    refine lv_ldc (v := (-1000001)) hx hb hown (hts (.constant RX7 59 (-1000001)) (by decide +kernel)) dX7_ask_17 ?_
    exact kq_iret hx hb hr hlocks hw (Nat.le_of_ble_eq_true rfl) (Nat.le_of_ble_eq_true rfl) dX7_ask_19 rfl
  · skip
    exact absurd (by decide) c2
abbrev rmX7_fault : Room := { frames := 0, cells := 0, slots := 0, locals := 0 }
set_option maxHeartbeats 4000000 in
set_option maxRecDepth 100000 in
theorem f_X7_fault (l : Launch) (E : kq_T) (L : List Nat) (σ : Nat → va_E) {x : Nat} (hF : fr_X E L σ x) : kq_I l E yX7_fault wsX7_fault rmX7_fault [.ref x] L σ (fun r _ _ => r = 0) := by
  obtain ⟨ro, tp, gt, ac, im, gu, ak, bt, dr, d1, d2, d3, d4, g1, g2, g3, nw, tk, n2, n3, n4, ah, bd, fr, fi, hL_x, hS_x, hL_ro, hS_ro, hL_tp, hS_tp, hL_bt, hS_bt, hL_dr, hS_dr, hL_gt, hS_gt, hL_nw, hS_nw, hL_tk, hS_tk, hL_ac, hS_ac, hL_im, hS_im, hL_ak, hS_ak, hRw, hIm⟩ := hF
  refine kq_enterI (cc := cX7_fault) (maxL := 1) (ret := (some .int)) (by decide) rfl (Nat.le_of_ble_eq_true rfl) rfl ?_
  intro p e s m below meth c A ls C hK hw hl
  obtain ⟨hx, hb, hml, hown, hts, hr, hlocks, hnm⟩ := C
  have hown : s.vm.findClass RX7 = some m.cls := hown
  have hl : lv_has ls 1 [(0, .ref x)] := hl
  refine lv_aload_n hx hb dX7_fault_0 rfl (lv_at hl 0 rfl) ?_
  refine kq_get (ci := 7) (v := .int 0) (C := RX7) (T := TX7) (N := 9) hx hb hts (by decide +kernel) hown hK hw hL_x hS_x rfl 7 (by decide) (hts (.fieldLink RX7 113 "WrongWord" "latestFault" "I") (by decide +kernel)) rfl dX7_fault_1 ?_
  exact kq_iret hx hb hr hlocks hw (Nat.le_of_ble_eq_true rfl) (Nat.le_of_ble_eq_true rfl) dX7_fault_4 rfl
abbrev rmX7_status : Room := { frames := 0, cells := 0, slots := 0, locals := 0 }
set_option maxHeartbeats 4000000 in
set_option maxRecDepth 100000 in
theorem f_X7_status (l : Launch) (E : kq_T) (L : List Nat) (σ : Nat → va_E) {x : Nat} (hF : fr_X E L σ x) : kq_I l E yX7_status wsX7_status rmX7_status [.ref x] L σ (fun r _ _ => r = 0) := by
  obtain ⟨ro, tp, gt, ac, im, gu, ak, bt, dr, d1, d2, d3, d4, g1, g2, g3, nw, tk, n2, n3, n4, ah, bd, fr, fi, hL_x, hS_x, hL_ro, hS_ro, hL_tp, hS_tp, hL_bt, hS_bt, hL_dr, hS_dr, hL_gt, hS_gt, hL_nw, hS_nw, hL_tk, hS_tk, hL_ac, hS_ac, hL_im, hS_im, hL_ak, hS_ak, hRw, hIm⟩ := hF
  refine kq_enterI (cc := cX7_status) (maxL := 1) (ret := (some .int)) (by decide) rfl (Nat.le_of_ble_eq_true rfl) rfl ?_
  intro p e s m below meth c A ls C hK hw hl
  obtain ⟨hx, hb, hml, hown, hts, hr, hlocks, hnm⟩ := C
  have hown : s.vm.findClass RX7 = some m.cls := hown
  have hl : lv_has ls 1 [(0, .ref x)] := hl
  refine lv_aload_n hx hb dX7_status_0 rfl (lv_at hl 0 rfl) ?_
  refine kq_get (ci := 7) (v := .int 0) (C := RX7) (T := TX7) (N := 9) hx hb hts (by decide +kernel) hown hK hw hL_x hS_x rfl 8 (by decide) (hts (.fieldLink RX7 333 "WrongWord" "latestFinding" "I") (by decide +kernel)) rfl dX7_status_1 ?_
  exact kq_iret hx hb hr hlocks hw (Nat.le_of_ble_eq_true rfl) (Nat.le_of_ble_eq_true rfl) dX7_status_4 rfl
abbrev rmX7_tried : Room := { frames := 0, cells := 0, slots := 0, locals := 0 }
set_option maxHeartbeats 4000000 in
set_option maxRecDepth 100000 in
theorem f_X7_tried (l : Launch) (E : kq_T) (L : List Nat) (σ : Nat → va_E) {x : Nat} (hF : fr_X E L σ x) (a0 a1 : Int32) : kq_I l E yX7_tried wsX7_tried rmX7_tried [.ref x, .int a0, .int a1] L σ (fun r _ _ => r = (-1000001)) := by
  obtain ⟨ro, tp, gt, ac, im, gu, ak, bt, dr, d1, d2, d3, d4, g1, g2, g3, nw, tk, n2, n3, n4, ah, bd, fr, fi, hL_x, hS_x, hL_ro, hS_ro, hL_tp, hS_tp, hL_bt, hS_bt, hL_dr, hS_dr, hL_gt, hS_gt, hL_nw, hS_nw, hL_tk, hS_tk, hL_ac, hS_ac, hL_im, hS_im, hL_ak, hS_ak, hRw, hIm⟩ := hF
  refine kq_enterI (cc := cX7_tried) (maxL := 3) (ret := (some .int)) (by decide) rfl (Nat.le_of_ble_eq_true rfl) rfl ?_
  intro p e s m below meth c A ls C hK hw hl
  obtain ⟨hx, hb, hml, hown, hts, hr, hlocks, hnm⟩ := C
  have hown : s.vm.findClass RX7 = some m.cls := hown
  have hl : lv_has ls 3 [(0, .ref x), (1, .int a0), (2, .int a1)] := hl
  refine lv_iload_n hx hb dX7_tried_0 rfl (lv_at hl 1 rfl) ?_
  refine lv_if_lt (tgt := 18) hx hb dX7_tried_1 (by decide) (fun c1 => ?_) (fun c1 => ?_)
  · skip
    refine lv_ldc (v := (-1000001)) hx hb hown (hts (.constant RX7 59 (-1000001)) (by decide +kernel)) dX7_tried_18 ?_
    exact kq_iret hx hb hr hlocks hw (Nat.le_of_ble_eq_true rfl) (Nat.le_of_ble_eq_true rfl) dX7_tried_20 rfl
  · skip
    refine lv_iload_n hx hb dX7_tried_4 rfl (lv_at hl 1 rfl) ?_
    refine lv_aload_n hx hb dX7_tried_5 rfl (lv_at hl 0 rfl) ?_
    refine kq_get (ci := 7) (v := .ref gt) (C := RX7) (T := TX7) (N := 9) hx hb hts (by decide +kernel) hown hK hw hL_x hS_x rfl 2 (by decide) (hts (.fieldLink RX7 25 "WrongWord" "gate" "LWrongWord$Gate;") (by decide +kernel)) rfl dX7_tried_6 ?_
    refine kq_get (ci := 2) (v := .ref nw) (C := RX2) (T := TX2) (N := 8) hx hb hts (by decide +kernel) hown hK hw hL_gt hS_gt rfl 3 (by decide) (hts (.fieldLink RX7 137 "WrongWord$Gate" "now" "LWrongWord$Moment;") (by decide +kernel)) rfl dX7_tried_9 ?_
    refine kq_get (ci := 4) (v := .int 0) (C := RX4) (T := TX4) (N := 8) hx hb hts (by decide +kernel) hown hK hw hL_nw hS_nw rfl 7 (by decide) (hts (.fieldLink RX7 162 "WrongWord$Moment" "tries" "I") (by decide +kernel)) rfl dX7_tried_12 ?_
    refine lv_icmp_lt (tgt := 21) hx hb dX7_tried_15 (by decide) (fun c2 => ?_) (fun c2 => ?_)
    · skip
      exact absurd c2 c1
    · skip
      refine lv_ldc (v := (-1000001)) hx hb hown (hts (.constant RX7 59 (-1000001)) (by decide +kernel)) dX7_tried_18 ?_
      exact kq_iret hx hb hr hlocks hw (Nat.le_of_ble_eq_true rfl) (Nat.le_of_ble_eq_true rfl) dX7_tried_20 rfl
abbrev rmX7_trace : Room := { frames := 0, cells := 0, slots := 0, locals := 0 }
set_option maxHeartbeats 4000000 in
set_option maxRecDepth 100000 in
theorem f_X7_trace (l : Launch) (E : kq_T) (L : List Nat) (σ : Nat → va_E) {x : Nat} (hF : fr_X E L σ x) (a0 : Int32) : kq_I l E yX7_trace wsX7_trace rmX7_trace [.ref x, .int a0] L σ (fun r _ _ => r = (-1000000)) := by
  obtain ⟨ro, tp, gt, ac, im, gu, ak, bt, dr, d1, d2, d3, d4, g1, g2, g3, nw, tk, n2, n3, n4, ah, bd, fr, fi, hL_x, hS_x, hL_ro, hS_ro, hL_tp, hS_tp, hL_bt, hS_bt, hL_dr, hS_dr, hL_gt, hS_gt, hL_nw, hS_nw, hL_tk, hS_tk, hL_ac, hS_ac, hL_im, hS_im, hL_ak, hS_ak, hRw, hIm⟩ := hF
  refine kq_enterI (cc := cX7_trace) (maxL := 2) (ret := (some .int)) (by decide) rfl (Nat.le_of_ble_eq_true rfl) rfl ?_
  intro p e s m below meth c A ls C hK hw hl
  obtain ⟨hx, hb, hml, hown, hts, hr, hlocks, hnm⟩ := C
  have hown : s.vm.findClass RX7 = some m.cls := hown
  have hl : lv_has ls 2 [(0, .ref x), (1, .int a0)] := hl
  refine lv_iload_n hx hb dX7_trace_0 rfl (lv_at hl 1 rfl) ?_
  refine lv_if_lt (tgt := 15) hx hb dX7_trace_1 (by decide) (fun c1 => ?_) (fun c1 => ?_)
  · skip
    refine lv_ldc (v := (-1000000)) hx hb hown (hts (.constant RX7 175 (-1000000)) (by decide +kernel)) dX7_trace_15 ?_
    refine lv_goto (tgt := 29) hx hb dX7_trace_17 (by decide) ?_
    exact kq_iret hx hb hr hlocks hw (Nat.le_of_ble_eq_true rfl) (Nat.le_of_ble_eq_true rfl) dX7_trace_29 rfl
  · skip
    refine lv_iload_n hx hb dX7_trace_4 rfl (lv_at hl 1 rfl) ?_
    refine lv_aload_n hx hb dX7_trace_5 rfl (lv_at hl 0 rfl) ?_
    refine kq_get (ci := 7) (v := .ref ak) (C := RX7) (T := TX7) (N := 9) hx hb hts (by decide +kernel) hown hK hw hL_x hS_x rfl 6 (by decide) (hts (.fieldLink RX7 50 "WrongWord" "asks" "LWrongWord$Asks;") (by decide +kernel)) rfl dX7_trace_6 ?_
    refine kq_get (ci := 1) (v := .int 0) (C := RX1) (T := TX1) (N := 6) hx hb hts (by decide +kernel) hown hK hw hL_ak hS_ak rfl 1 (by decide) (hts (.fieldLink RX7 317 "WrongWord$Asks" "begun" "I") (by decide +kernel)) rfl dX7_trace_9 ?_
    refine lv_icmp_lt (tgt := 20) hx hb dX7_trace_12 (by decide) (fun c2 => ?_) (fun c2 => ?_)
    · skip
      exact absurd c2 c1
    · skip
      refine lv_ldc (v := (-1000000)) hx hb hown (hts (.constant RX7 175 (-1000000)) (by decide +kernel)) dX7_trace_15 ?_
      refine lv_goto (tgt := 29) hx hb dX7_trace_17 (by decide) ?_
      exact kq_iret hx hb hr hlocks hw (Nat.le_of_ble_eq_true rfl) (Nat.le_of_ble_eq_true rfl) dX7_trace_29 rfl
abbrev rmX7_image : Room := { frames := 1, cells := 0, slots := 0, locals := 20 }
set_option maxHeartbeats 4000000 in
set_option maxRecDepth 100000 in
theorem f_X7_image (l : Launch) (E : kq_T) (L : List Nat) (σ : Nat → va_E) {x : Nat} (hF : fr_X E L σ x) (a0 : Int32) : kq_I l E yX7_image wsX7_image rmX7_image [.ref x, .int a0] L σ (fun r _ _ => r = sp_im a0) := by
  obtain ⟨ro, tp, gt, ac, im, gu, ak, bt, dr, d1, d2, d3, d4, g1, g2, g3, nw, tk, n2, n3, n4, ah, bd, fr, fi, hL_x, hS_x, hL_ro, hS_ro, hL_tp, hS_tp, hL_bt, hS_bt, hL_dr, hS_dr, hL_gt, hS_gt, hL_nw, hS_nw, hL_tk, hS_tk, hL_ac, hS_ac, hL_im, hS_im, hL_ak, hS_ak, hRw, hIm⟩ := hF
  refine kq_enterI (cc := cX7_image) (maxL := 2) (ret := (some .int)) (by decide) rfl (Nat.le_of_ble_eq_true rfl) rfl ?_
  intro p e s m below meth c A ls C hK hw hl
  obtain ⟨hx, hb, hml, hown, hts, hr, hlocks, hnm⟩ := C
  have hown : s.vm.findClass RX7 = some m.cls := hown
  have hl : lv_has ls 2 [(0, .ref x), (1, .int a0)] := hl
  refine lv_iload_n hx hb dX7_image_0 rfl (lv_at hl 1 rfl) ?_
  refine lv_if_lt (tgt := 9) hx hb dX7_image_1 (by decide) (fun c1 => ?_) (fun c1 => ?_)
  · skip
    refine lv_ldc (v := (-1000001)) hx hb hown (hts (.constant RX7 59 (-1000001)) (by decide +kernel)) dX7_image_9 ?_
    exact kq_iret hx hb hr hlocks hw (Nat.le_of_ble_eq_true rfl) (Nat.le_of_ble_eq_true rfl) dX7_image_11 (by simp [sp_im, c1, kq_nle c1])
  · skip
    refine lv_iload_n hx hb dX7_image_4 rfl (lv_at hl 1 rfl) ?_
    refine lv_iconst (v := 2) hx hb dX7_image_5 (by decide) ?_
    refine lv_icmp_lt (tgt := 12) hx hb dX7_image_6 (by decide) (fun c2 => ?_) (fun c2 => ?_)
    · skip
      refine lv_aload_n hx hb dX7_image_12 rfl (lv_at hl 0 rfl) ?_
      refine kq_callI (As := []) (rest := []) (n := 0) (q := (RX7, TX7, 9)) (ci := 7) (mc := 0) (ms := 0) ⟨hx, hb, hml, hown, hts⟩ (c_X7_noGate l E L σ hL_x hS_x hL_gt hS_gt) gX7_image_X7_noGate rfl (by decide +kernel) ⟨Nat.le_of_ble_eq_true rfl, Nat.le_of_ble_eq_true rfl⟩ hK hw hL_x hS_x rfl rfl hl.1 rfl (Nat.le_of_ble_eq_true rfl) dX7_image_13 rfl rfl ⟨Nat.le_of_ble_eq_true rfl, Nat.le_of_ble_eq_true rfl⟩ (fun r3 Lv σv H locs hp hw => ?_)
      obtain ⟨er3, rfl, rfl⟩ := hp
      have er3 : r3 = 1 := er3
      subst er3
      refine lv_if_eq (tgt := 22) hx hb dX7_image_16 (by decide) (fun c4 => ?_) (fun c4 => ?_)
      · skip
        exact absurd c4 (by decide)
      · skip
        refine lv_ldc (v := (-1000002)) hx hb hown (hts (.constant RX7 136 (-1000002)) (by decide +kernel)) dX7_image_19 ?_
        exact kq_iret hx hb hr hlocks hw (Nat.le_of_ble_eq_true rfl) (Nat.le_of_ble_eq_true rfl) dX7_image_21 (by simp [sp_im, c1, Int32.not_lt.mp c1, c2, kq_nle c2, c4])
    · skip
      refine lv_ldc (v := (-1000001)) hx hb hown (hts (.constant RX7 59 (-1000001)) (by decide +kernel)) dX7_image_9 ?_
      exact kq_iret hx hb hr hlocks hw (Nat.le_of_ble_eq_true rfl) (Nat.le_of_ble_eq_true rfl) dX7_image_11 (by simp [sp_im, c1, Int32.not_lt.mp c1, c2, Int32.not_lt.mp c2])
abbrev rmX7_restore : Room := { frames := 0, cells := 0, slots := 0, locals := 0 }
set_option maxHeartbeats 4000000 in
set_option maxRecDepth 100000 in
theorem f_X7_restore (l : Launch) (E : kq_T) (L : List Nat) (σ : Nat → va_E) {x : Nat} (hF : fr_X E L σ x) (a0 : Int32) : kq_I l E yX7_restore wsX7_restore rmX7_restore [.ref x, .int a0] L σ (fun r _ _ => r = sp_im a0) := by
  obtain ⟨ro, tp, gt, ac, im, gu, ak, bt, dr, d1, d2, d3, d4, g1, g2, g3, nw, tk, n2, n3, n4, ah, bd, fr, fi, hL_x, hS_x, hL_ro, hS_ro, hL_tp, hS_tp, hL_bt, hS_bt, hL_dr, hS_dr, hL_gt, hS_gt, hL_nw, hS_nw, hL_tk, hS_tk, hL_ac, hS_ac, hL_im, hS_im, hL_ak, hS_ak, hRw, hIm⟩ := hF
  refine kq_enterI (cc := cX7_restore) (maxL := 2) (ret := (some .int)) (by decide) rfl (Nat.le_of_ble_eq_true rfl) rfl ?_
  intro p e s m below meth c A ls C hK hw hl
  obtain ⟨hx, hb, hml, hown, hts, hr, hlocks, hnm⟩ := C
  have hown : s.vm.findClass RX7 = some m.cls := hown
  have hl : lv_has ls 2 [(0, .ref x), (1, .int a0)] := hl
  refine lv_iload_n hx hb dX7_restore_0 rfl (lv_at hl 1 rfl) ?_
  refine lv_if_lt (tgt := 9) hx hb dX7_restore_1 (by decide) (fun c1 => ?_) (fun c1 => ?_)
  · skip
    refine lv_ldc (v := (-1000001)) hx hb hown (hts (.constant RX7 59 (-1000001)) (by decide +kernel)) dX7_restore_9 ?_
    exact kq_iret hx hb hr hlocks hw (Nat.le_of_ble_eq_true rfl) (Nat.le_of_ble_eq_true rfl) dX7_restore_11 (by simp [sp_im, c1, kq_nle c1])
  · skip
    refine lv_iload_n hx hb dX7_restore_4 rfl (lv_at hl 1 rfl) ?_
    refine lv_iconst (v := 2) hx hb dX7_restore_5 (by decide) ?_
    refine lv_icmp_lt (tgt := 12) hx hb dX7_restore_6 (by decide) (fun c2 => ?_) (fun c2 => ?_)
    · skip
      refine lv_aload_n hx hb dX7_restore_12 rfl (lv_at hl 0 rfl) ?_
      refine kq_get (ci := 7) (v := .ref im) (C := RX7) (T := TX7) (N := 9) hx hb hts (by decide +kernel) hown hK hw hL_x hS_x rfl 4 (by decide) (hts (.fieldLink RX7 36 "WrongWord" "images" "[LWrongWord$Gate;") (by decide +kernel)) rfl dX7_restore_13 ?_
      refine lv_iload_n hx hb dX7_restore_16 rfl (lv_at hl 1 rfl) ?_
      have hin : vp_in a0 2 := kq_in c1 (n := 2) (by decide) (kq_nle c2)
      have hlt : a0.toNatClampNeg < 2 := Nat.not_le.mp fun h9 => hin (Or.inr h9)
      obtain ⟨ri, a1_, a2_, a3_, a4_, hri, hL_ri, hS_ri⟩ := hIm _ hlt
      refine kq_aldq hx hb hK hw hL_im 2 rfl hS_im hin hri dX7_restore_17 ?_
      refine kq_get (ci := 2) (v := .int 0) (C := RX2) (T := TX2) (N := 8) hx hb hts (by decide +kernel) hown hK hw hL_ri hS_ri rfl 6 (by decide) (hts (.fieldLink RX7 130 "WrongWord$Gate" "words" "I") (by decide +kernel)) rfl dX7_restore_18 ?_
      refine lv_if_ne (tgt := 27) hx hb dX7_restore_21 (by decide) (fun c3 => ?_) (fun c3 => ?_)
      · skip
        exact absurd c3 (by decide)
      · skip
        refine lv_ldc (v := (-1000002)) hx hb hown (hts (.constant RX7 136 (-1000002)) (by decide +kernel)) dX7_restore_24 ?_
        exact kq_iret hx hb hr hlocks hw (Nat.le_of_ble_eq_true rfl) (Nat.le_of_ble_eq_true rfl) dX7_restore_26 (by simp [sp_im, c1, Int32.not_lt.mp c1, c2, kq_nle c2, c3])
    · skip
      refine lv_ldc (v := (-1000001)) hx hb hown (hts (.constant RX7 59 (-1000001)) (by decide +kernel)) dX7_restore_9 ?_
      exact kq_iret hx hb hr hlocks hw (Nat.le_of_ble_eq_true rfl) (Nat.le_of_ble_eq_true rfl) dX7_restore_11 (by simp [sp_im, c1, Int32.not_lt.mp c1, c2, Int32.not_lt.mp c2])
abbrev rmX0_takeBack : Room := { frames := 0, cells := 0, slots := 0, locals := 0 }
set_option maxHeartbeats 4000000 in
set_option maxRecDepth 100000 in
theorem c_X0_takeBack (l : Launch) (E : kq_T) (L : List Nat) (σ : Nat → va_E) {ac ah : Nat} (mo : Nat) {at_ : Int32} (hL_ac : ac ∈ L) (hS_ac : σ ac = .inr (0, [.ref ah, .int at_, .int 0])) : kq_I l E yX0_takeBack wsX0_takeBack rmX0_takeBack [.ref ac, .ref mo] L σ (fun r L1 σ1 => r = 0 ∧ L = L1 ∧ σ = σ1) := by
  refine kq_enterI (cc := cX0_takeBack) (maxL := 2) (ret := (some .boolean)) (by decide) rfl (Nat.le_of_ble_eq_true rfl) rfl ?_
  intro p e s m below meth c A ls C hK hw hl
  obtain ⟨hx, hb, hml, hown, hts, hr, hlocks, hnm⟩ := C
  have hown : s.vm.findClass RX0 = some m.cls := hown
  have hl : lv_has ls 2 [(0, .ref ac), (1, .ref mo)] := hl
  refine lv_aload_n hx hb dX0_takeBack_0 rfl (lv_at hl 0 rfl) ?_
  refine kq_get (ci := 0) (v := .int 0) (C := RX0) (T := TX0) (N := 3) hx hb hts (by decide +kernel) hown hK hw hL_ac hS_ac rfl 2 (by decide) (hts (.fieldLink RX0 18 "WrongWord$Acts" "kept" "I") (by decide +kernel)) rfl dX0_takeBack_1 ?_
  refine lv_if_ne (tgt := 9) hx hb dX0_takeBack_4 (by decide) (fun c1 => ?_) (fun c1 => ?_)
  · skip
    exact absurd c1 (by decide)
  · skip
    refine lv_iconst (v := 0) hx hb dX0_takeBack_7 (by decide) ?_
    exact kq_zret hx hb hr hlocks hw (Nat.le_of_ble_eq_true rfl) (Nat.le_of_ble_eq_true rfl) (Or.inl rfl) dX0_takeBack_8 ⟨rfl, rfl, rfl⟩
abbrev rmX7_undo : Room := { frames := 1, cells := 0, slots := 0, locals := 21 }
set_option maxHeartbeats 4000000 in
set_option maxRecDepth 100000 in
theorem f_X7_undo (l : Launch) (E : kq_T) (L : List Nat) (σ : Nat → va_E) {x : Nat} (hF : fr_X E L σ x) : kq_I l E yX7_undo wsX7_undo rmX7_undo [.ref x] L σ (fun r _ _ => r = (-1000002)) := by
  obtain ⟨ro, tp, gt, ac, im, gu, ak, bt, dr, d1, d2, d3, d4, g1, g2, g3, nw, tk, n2, n3, n4, ah, bd, fr, fi, hL_x, hS_x, hL_ro, hS_ro, hL_tp, hS_tp, hL_bt, hS_bt, hL_dr, hS_dr, hL_gt, hS_gt, hL_nw, hS_nw, hL_tk, hS_tk, hL_ac, hS_ac, hL_im, hS_im, hL_ak, hS_ak, hRw, hIm⟩ := hF
  refine kq_enterI (cc := cX7_undo) (maxL := 1) (ret := (some .int)) (by decide) rfl (Nat.le_of_ble_eq_true rfl) rfl ?_
  intro p e s m below meth c A ls C hK hw hl
  obtain ⟨hx, hb, hml, hown, hts, hr, hlocks, hnm⟩ := C
  have hown : s.vm.findClass RX7 = some m.cls := hown
  have hl : lv_has ls 1 [(0, .ref x)] := hl
  refine lv_aload_n hx hb dX7_undo_0 rfl (lv_at hl 0 rfl) ?_
  refine kq_get (ci := 7) (v := .ref ac) (C := RX7) (T := TX7) (N := 9) hx hb hts (by decide +kernel) hown hK hw hL_x hS_x rfl 3 (by decide) (hts (.fieldLink RX7 32 "WrongWord" "acts" "LWrongWord$Acts;") (by decide +kernel)) rfl dX7_undo_1 ?_
  refine lv_aload_n hx hb dX7_undo_4 rfl (lv_at hl 0 rfl) ?_
  refine kq_get (ci := 7) (v := .ref gt) (C := RX7) (T := TX7) (N := 9) hx hb hts (by decide +kernel) hown hK hw hL_x hS_x rfl 2 (by decide) (hts (.fieldLink RX7 25 "WrongWord" "gate" "LWrongWord$Gate;") (by decide +kernel)) rfl dX7_undo_5 ?_
  refine kq_get (ci := 2) (v := .ref nw) (C := RX2) (T := TX2) (N := 8) hx hb hts (by decide +kernel) hown hK hw hL_gt hS_gt rfl 3 (by decide) (hts (.fieldLink RX7 137 "WrongWord$Gate" "now" "LWrongWord$Moment;") (by decide +kernel)) rfl dX7_undo_8 ?_
  refine kq_callI (As := [.ref nw]) (rest := []) (n := 1) (q := (RX0, TX0, 3)) (ci := 0) (mc := 0) (ms := 0) ⟨hx, hb, hml, hown, hts⟩ (c_X0_takeBack l E L σ nw hL_ac hS_ac) gX7_undo_X0_takeBack rfl (by decide +kernel) ⟨Nat.le_of_ble_eq_true rfl, Nat.le_of_ble_eq_true rfl⟩ hK hw hL_ac hS_ac rfl rfl hl.1 rfl (Nat.le_of_ble_eq_true rfl) dX7_undo_11 rfl rfl ⟨Nat.le_of_ble_eq_true rfl, Nat.le_of_ble_eq_true rfl⟩ (fun r1 Lv σv H locs hp hw => ?_)
  obtain ⟨er1, rfl, rfl⟩ := hp
  have er1 : r1 = 0 := er1
  subst er1
  refine lv_if_eq (tgt := 27) hx hb dX7_undo_14 (by decide) (fun c2 => ?_) (fun c2 => ?_)
  · skip
    refine lv_ldc (v := (-1000002)) hx hb hown (hts (.constant RX7 136 (-1000002)) (by decide +kernel)) dX7_undo_27 ?_
    exact kq_iret hx hb hr hlocks hw (Nat.le_of_ble_eq_true rfl) (Nat.le_of_ble_eq_true rfl) dX7_undo_29 rfl
  · skip
    exact absurd (by decide) c2
abbrev rmX6_here : Room := { frames := 0, cells := 0, slots := 0, locals := 0 }
set_option maxHeartbeats 4000000 in
set_option maxRecDepth 100000 in
theorem c_X6_here (l : Launch) (E : kq_T) (L : List Nat) (σ : Nat → va_E) {tp bt dr : Nat} {fa pl va : Int32} (hL_tp : tp ∈ L) (hS_tp : σ tp = .inr (6, [.ref bt, .ref dr, .int 0, .int fa, .int pl, .int 0, .int va])) : kq_I l E yX6_here wsX6_here rmX6_here [.ref tp] L σ (fun r L1 σ1 => r = (-1) ∧ L = L1 ∧ σ = σ1) := by
  refine kq_enterI (cc := cX6_here) (maxL := 1) (ret := (some .int)) (by decide) rfl (Nat.le_of_ble_eq_true rfl) rfl ?_
  intro p e s m below meth c A ls C hK hw hl
  obtain ⟨hx, hb, hml, hown, hts, hr, hlocks, hnm⟩ := C
  have hown : s.vm.findClass RX6 = some m.cls := hown
  have hl : lv_has ls 1 [(0, .ref tp)] := hl
  refine lv_aload_n hx hb dX6_here_0 rfl (lv_at hl 0 rfl) ?_
  refine kq_get (ci := 6) (v := .int 0) (C := RX6) (T := TX6) (N := 7) hx hb hts (by decide +kernel) hown hK hw hL_tp hS_tp rfl 5 (by decide) (hts (.fieldLink RX6 26 "WrongWord$Tape" "at" "I") (by decide +kernel)) rfl dX6_here_1 ?_
  refine lv_aload_n hx hb dX6_here_4 rfl (lv_at hl 0 rfl) ?_
  refine kq_get (ci := 6) (v := .int 0) (C := RX6) (T := TX6) (N := 7) hx hb hts (by decide +kernel) hown hK hw hL_tp hS_tp rfl 2 (by decide) (hts (.fieldLink RX6 22 "WrongWord$Tape" "length" "I") (by decide +kernel)) rfl dX6_here_5 ?_
  refine lv_icmp_ge (tgt := 23) hx hb dX6_here_8 (by decide) (fun c1 => ?_) (fun c1 => ?_)
  · skip
    refine lv_iconst (v := (-1)) hx hb dX6_here_23 (by decide) ?_
    exact kq_iret hx hb hr hlocks hw (Nat.le_of_ble_eq_true rfl) (Nat.le_of_ble_eq_true rfl) dX6_here_24 ⟨rfl, rfl, rfl⟩
  · skip
    exact absurd (by decide) c1
abbrev rmX6_faulty : Room := { frames := 0, cells := 0, slots := 0, locals := 0 }
set_option maxHeartbeats 4000000 in
set_option maxRecDepth 100000 in
theorem c_X6_faulty (l : Launch) (E : kq_T) (L : List Nat) (σ : Nat → va_E) {tp bt dr : Nat} {fa pl va : Int32} (a : Int32) (hL_tp : tp ∈ L) (hS_tp : σ tp = .inr (6, [.ref bt, .ref dr, .int 0, .int fa, .int pl, .int 0, .int va])) : kq_I l E yX6_faulty wsX6_faulty rmX6_faulty [.ref tp, .int a] L σ (fun r L1 σ1 => r = 0 ∧ L = L1 ∧ (∀ b, b ≠ tp → σ1 b = σ b) ∧ σ1 tp = .inr (6, [.ref bt, .ref dr, .int 0, .int a, .int 0, .int 0, .int va])) := by
  refine kq_enterI (cc := cX6_faulty) (maxL := 2) (ret := (some .boolean)) (by decide) rfl (Nat.le_of_ble_eq_true rfl) rfl ?_
  intro p e s m below meth c A ls C hK hw hl
  obtain ⟨hx, hb, hml, hown, hts, hr, hlocks, hnm⟩ := C
  have hown : s.vm.findClass RX6 = some m.cls := hown
  have hl : lv_has ls 2 [(0, .ref tp), (1, .int a)] := hl
  refine lv_aload_n hx hb dX6_faulty_0 rfl (lv_at hl 0 rfl) ?_
  refine lv_iload_n hx hb dX6_faulty_1 rfl (lv_at hl 1 rfl) ?_
  refine kq_put (ci := 6) (v := .int a) (ty := .int) (C := RX6) (T := TX6) (N := 7) (fs' := [.ref bt, .ref dr, .int 0, .int a, .int pl, .int 0, .int va]) hx hb hts (by decide +kernel) tyX6 tyX6_ok nmX6 hown hK hw hL_tp hS_tp rfl 3 (by decide) (hts (.fieldLink RX6 105 "WrongWord$Tape" "fault" "I") (by decide +kernel)) rfl (by decide +kernel) rfl rfl (Nat.le_of_ble_eq_true rfl) rfl dX6_faulty_2 (fun H locs σ1 eσ1 hw => ?_)
  have nhS_tp : σ1 tp = .inr (6, [.ref bt, .ref dr, .int 0, .int a, .int pl, .int 0, .int va]) := by rw [eσ1]; exact va_up_self _ _ _
  have hS_tp := nhS_tp
  refine lv_aload_n hx hb dX6_faulty_5 rfl (lv_at hl 0 rfl) ?_
  refine lv_aload_n hx hb dX6_faulty_6 rfl (lv_at hl 0 rfl) ?_
  refine kq_get (ci := 6) (v := .int 0) (C := RX6) (T := TX6) (N := 7) hx hb hts (by decide +kernel) hown hK hw hL_tp hS_tp rfl 5 (by decide) (hts (.fieldLink RX6 26 "WrongWord$Tape" "at" "I") (by decide +kernel)) rfl dX6_faulty_7 ?_
  refine kq_put (ci := 6) (v := .int 0) (ty := .int) (C := RX6) (T := TX6) (N := 7) (fs' := [.ref bt, .ref dr, .int 0, .int a, .int 0, .int 0, .int va]) hx hb hts (by decide +kernel) tyX6 tyX6_ok nmX6 hown hK hw hL_tp hS_tp rfl 4 (by decide) (hts (.fieldLink RX6 108 "WrongWord$Tape" "place" "I") (by decide +kernel)) rfl (by decide +kernel) rfl rfl (Nat.le_of_ble_eq_true rfl) rfl dX6_faulty_10 (fun H locs σ2 eσ2 hw => ?_)
  have nhS_tp : σ2 tp = .inr (6, [.ref bt, .ref dr, .int 0, .int a, .int 0, .int 0, .int va]) := by rw [eσ2]; exact va_up_self _ _ _
  have hS_tp := nhS_tp
  refine lv_iconst (v := 0) hx hb dX6_faulty_13 (by decide) ?_
  exact kq_zret hx hb hr hlocks hw (Nat.le_of_ble_eq_true rfl) (Nat.le_of_ble_eq_true rfl) (Or.inl rfl) dX6_faulty_14 ⟨rfl, rfl, (fun b h0_ => by rw [eσ2, eσ1]; simp only [va_up]; simp [h0_]), hS_tp⟩
abbrev rmX6_readSign : Room := { frames := 1, cells := 0, slots := 0, locals := 21 }
set_option maxHeartbeats 4000000 in
set_option maxRecDepth 100000 in
theorem c_X6_readSign (l : Launch) (E : kq_T) (L : List Nat) (σ : Nat → va_E) {tp bt dr : Nat} {fa pl va : Int32} (hL_tp : tp ∈ L) (hS_tp : σ tp = .inr (6, [.ref bt, .ref dr, .int 0, .int fa, .int pl, .int 0, .int va])) : kq_I l E yX6_readSign wsX6_readSign rmX6_readSign [.ref tp, .int 113] L σ (fun r L1 σ1 => r = 0 ∧ L = L1 ∧ (∀ b, b ≠ tp → σ1 b = σ b) ∧ σ1 tp = .inr (6, [.ref bt, .ref dr, .int 0, .int 1, .int 0, .int 0, .int va])) := by
  refine kq_enterI (cc := cX6_readSign) (maxL := 2) (ret := (some .boolean)) (by decide) rfl (Nat.le_of_ble_eq_true rfl) rfl ?_
  intro p e s m below meth c A ls C hK hw hl
  obtain ⟨hx, hb, hml, hown, hts, hr, hlocks, hnm⟩ := C
  have hown : s.vm.findClass RX6 = some m.cls := hown
  have hl : lv_has ls 2 [(0, .ref tp), (1, .int 113)] := hl
  refine lv_aload_n hx hb dX6_readSign_0 rfl (lv_at hl 0 rfl) ?_
  refine kq_callI (As := []) (rest := []) (n := 0) (q := (RX6, TX6, 7)) (ci := 6) (mc := 0) (ms := 0) ⟨hx, hb, hml, hown, hts⟩ (c_X6_here l E L σ hL_tp hS_tp) gX6_readSign_X6_here rfl (by decide +kernel) ⟨Nat.le_of_ble_eq_true rfl, Nat.le_of_ble_eq_true rfl⟩ hK hw hL_tp hS_tp rfl rfl hl.1 rfl (Nat.le_of_ble_eq_true rfl) dX6_readSign_1 rfl rfl ⟨Nat.le_of_ble_eq_true rfl, Nat.le_of_ble_eq_true rfl⟩ (fun r1 Lv σv H locs hp hw => ?_)
  obtain ⟨er1, rfl, rfl⟩ := hp
  have er1 : r1 = (-1) := er1
  subst er1
  refine lv_iload_n hx hb dX6_readSign_4 rfl (lv_at hl 1 rfl) ?_
  refine lv_icmp_eq (tgt := 14) hx hb dX6_readSign_5 (by decide) (fun c2 => ?_) (fun c2 => ?_)
  · skip
    exact absurd c2 (by decide)
  · skip
    refine lv_aload_n hx hb dX6_readSign_8 rfl (lv_at hl 0 rfl) ?_
    refine lv_iconst (v := 1) hx hb dX6_readSign_9 (by decide) ?_
    refine kq_callI (As := [.int 1]) (rest := []) (n := 1) (q := (RX6, TX6, 7)) (ci := 6) (mc := 0) (ms := 0) ⟨hx, hb, hml, hown, hts⟩ (c_X6_faulty l E L σ 1 hL_tp hS_tp) gX6_readSign_X6_faulty rfl (by decide +kernel) ⟨Nat.le_of_ble_eq_true rfl, Nat.le_of_ble_eq_true rfl⟩ hK hw hL_tp hS_tp rfl rfl hl.1 rfl (Nat.le_of_ble_eq_true rfl) dX6_readSign_10 rfl rfl ⟨Nat.le_of_ble_eq_true rfl, Nat.le_of_ble_eq_true rfl⟩ (fun r3 Lv σ4 H locs hp hw => ?_)
    obtain ⟨er3, rfl, hfrσ4, hc0_σ4⟩ := hp
    have nhS_tp : σ4 tp = .inr (6, [.ref bt, .ref dr, .int 0, .int 1, .int 0, .int 0, .int va]) := hc0_σ4
    have hS_tp := nhS_tp
    have er3 : r3 = 0 := er3
    subst er3
    exact kq_zret hx hb hr hlocks hw (Nat.le_of_ble_eq_true rfl) (Nat.le_of_ble_eq_true rfl) (Or.inl rfl) dX6_readSign_13 ⟨rfl, rfl, hfrσ4, hS_tp⟩
abbrev rmX6_readLaw : Room := { frames := 2, cells := 0, slots := 0, locals := 42 }
set_option maxHeartbeats 4000000 in
set_option maxRecDepth 100000 in
theorem c_X6_readLaw (l : Launch) (E : kq_T) (L : List Nat) (σ : Nat → va_E) {tp bt dr : Nat} {fa pl va : Int32} (hL_tp : tp ∈ L) (hS_tp : σ tp = .inr (6, [.ref bt, .ref dr, .int 0, .int fa, .int pl, .int 0, .int va])) : kq_I l E yX6_readLaw wsX6_readLaw rmX6_readLaw [.ref tp] L σ (fun r L1 σ1 => r = 0 ∧ L = L1 ∧ (∀ b, b ≠ tp → σ1 b = σ b) ∧ σ1 tp = .inr (6, [.ref bt, .ref dr, .int 0, .int 1, .int 0, .int 0, .int va])) := by
  refine kq_enterI (cc := cX6_readLaw) (maxL := 1) (ret := (some .boolean)) (by decide) rfl (Nat.le_of_ble_eq_true rfl) rfl ?_
  intro p e s m below meth c A ls C hK hw hl
  obtain ⟨hx, hb, hml, hown, hts, hr, hlocks, hnm⟩ := C
  have hown : s.vm.findClass RX6 = some m.cls := hown
  have hl : lv_has ls 1 [(0, .ref tp)] := hl
  refine lv_aload_n hx hb dX6_readLaw_0 rfl (lv_at hl 0 rfl) ?_
  refine lv_bipush (v := 113) hx hb dX6_readLaw_1 (by decide) ?_
  refine kq_callI (As := [.int 113]) (rest := []) (n := 1) (q := (RX6, TX6, 7)) (ci := 6) (mc := 0) (ms := 0) ⟨hx, hb, hml, hown, hts⟩ (c_X6_readSign l E L σ hL_tp hS_tp) gX6_readLaw_X6_readSign rfl (by decide +kernel) ⟨Nat.le_of_ble_eq_true rfl, Nat.le_of_ble_eq_true rfl⟩ hK hw hL_tp hS_tp rfl rfl hl.1 rfl (Nat.le_of_ble_eq_true rfl) dX6_readLaw_3 rfl rfl ⟨Nat.le_of_ble_eq_true rfl, Nat.le_of_ble_eq_true rfl⟩ (fun r1 Lv σ2 H locs hp hw => ?_)
  obtain ⟨er1, rfl, hfrσ2, hc0_σ2⟩ := hp
  have nhS_tp : σ2 tp = .inr (6, [.ref bt, .ref dr, .int 0, .int 1, .int 0, .int 0, .int va]) := hc0_σ2
  have hS_tp := nhS_tp
  have er1 : r1 = 0 := er1
  subst er1
  refine lv_if_eq (tgt := 18) hx hb dX6_readLaw_6 (by decide) (fun c3 => ?_) (fun c3 => ?_)
  · skip
    refine lv_iconst (v := 0) hx hb dX6_readLaw_18 (by decide) ?_
    exact kq_zret hx hb hr hlocks hw (Nat.le_of_ble_eq_true rfl) (Nat.le_of_ble_eq_true rfl) (Or.inl rfl) dX6_readLaw_19 ⟨rfl, rfl, hfrσ2, hS_tp⟩
  · skip
    exact absurd (by decide) c3
abbrev rmX6_read : Room := { frames := 3, cells := 0, slots := 0, locals := 62 }
set_option maxHeartbeats 4000000 in
set_option maxRecDepth 100000 in
theorem c_X6_read (l : Launch) (E : kq_T) (L : List Nat) (σ : Nat → va_E) {tp bt dr d1 d2 d3 d4 : Nat} {fa pl va at_ dw dg : Int32} (hL_tp : tp ∈ L) (hS_tp : σ tp = .inr (6, [.ref bt, .ref dr, .int 0, .int fa, .int pl, .int at_, .int va])) (hL_dr : dr ∈ L) (hS_dr : σ dr = .inr (2, [.ref d1, .ref d2, .ref d3, .ref d4, .int 0, .int 0, .int dw, .int dg])) : kq_I l E yX6_read wsX6_read rmX6_read [.ref tp] L σ (fun r L1 σ1 => r = 0 ∧ L = L1 ∧ (∀ b, b ≠ tp → b ≠ dr → σ1 b = σ b) ∧ σ1 tp = .inr (6, [.ref bt, .ref dr, .int 0, .int 1, .int 0, .int 0, .int va])) := by
  refine kq_enterI (cc := cX6_read) (maxL := 2) (ret := (some .boolean)) (by decide) rfl (Nat.le_of_ble_eq_true rfl) rfl ?_
  intro p e s m below meth c A ls C hK hw hl
  obtain ⟨hx, hb, hml, hown, hts, hr, hlocks, hnm⟩ := C
  have hown : s.vm.findClass RX6 = some m.cls := hown
  have hl : lv_has ls 2 [(0, .ref tp)] := hl
  refine lv_aload_n hx hb dX6_read_0 rfl (lv_at hl 0 rfl) ?_
  refine lv_iconst (v := 0) hx hb dX6_read_1 (by decide) ?_
  refine kq_put (ci := 6) (v := .int 0) (ty := .int) (C := RX6) (T := TX6) (N := 7) (fs' := [.ref bt, .ref dr, .int 0, .int fa, .int pl, .int 0, .int va]) hx hb hts (by decide +kernel) tyX6 tyX6_ok nmX6 hown hK hw hL_tp hS_tp rfl 5 (by decide) (hts (.fieldLink RX6 26 "WrongWord$Tape" "at" "I") (by decide +kernel)) rfl (by decide +kernel) rfl rfl (Nat.le_of_ble_eq_true rfl) rfl dX6_read_2 (fun H locs σ1 eσ1 hw => ?_)
  have nhS_dr : σ1 dr = .inr (2, [.ref d1, .ref d2, .ref d3, .ref d4, .int 0, .int 0, .int dw, .int dg]) := by rw [eσ1]; exact kq_far (kq_ne hS_dr hS_tp (kq_noo (by decide))) hS_dr
  have nhS_tp : σ1 tp = .inr (6, [.ref bt, .ref dr, .int 0, .int fa, .int pl, .int 0, .int va]) := by rw [eσ1]; exact va_up_self _ _ _
  have hS_dr := nhS_dr
  have hS_tp := nhS_tp
  refine lv_aload_n hx hb dX6_read_5 rfl (lv_at hl 0 rfl) ?_
  refine kq_get (ci := 6) (v := .ref dr) (C := RX6) (T := TX6) (N := 7) hx hb hts (by decide +kernel) hown hK hw hL_tp hS_tp rfl 1 (by decide) (hts (.fieldLink RX6 18 "WrongWord$Tape" "draft" "LWrongWord$Gate;") (by decide +kernel)) rfl dX6_read_6 ?_
  refine lv_iconst (v := 0) hx hb dX6_read_9 (by decide) ?_
  refine kq_put (ci := 2) (v := .int 0) (ty := .int) (C := RX2) (T := TX2) (N := 8) (fs' := [.ref d1, .ref d2, .ref d3, .ref d4, .int 0, .int 0, .int 0, .int dg]) hx hb hts (by decide +kernel) tyX2 tyX2_ok nmX2 hown hK hw hL_dr hS_dr rfl 6 (by decide) (hts (.fieldLink RX6 29 "WrongWord$Gate" "words" "I") (by decide +kernel)) rfl (by decide +kernel) rfl rfl (Nat.le_of_ble_eq_true rfl) rfl dX6_read_10 (fun H locs σ2 eσ2 hw => ?_)
  have nhS_tp : σ2 tp = .inr (6, [.ref bt, .ref dr, .int 0, .int fa, .int pl, .int 0, .int va]) := by rw [eσ2]; exact kq_far (kq_ne hS_tp hS_dr (kq_noo (by decide))) hS_tp
  have nhS_dr : σ2 dr = .inr (2, [.ref d1, .ref d2, .ref d3, .ref d4, .int 0, .int 0, .int 0, .int dg]) := by rw [eσ2]; exact va_up_self _ _ _
  have hS_tp := nhS_tp
  have hS_dr := nhS_dr
  refine lv_aload_n hx hb dX6_read_13 rfl (lv_at hl 0 rfl) ?_
  refine kq_get (ci := 6) (v := .ref dr) (C := RX6) (T := TX6) (N := 7) hx hb hts (by decide +kernel) hown hK hw hL_tp hS_tp rfl 1 (by decide) (hts (.fieldLink RX6 18 "WrongWord$Tape" "draft" "LWrongWord$Gate;") (by decide +kernel)) rfl dX6_read_14 ?_
  refine lv_iconst (v := 0) hx hb dX6_read_17 (by decide) ?_
  refine kq_put (ci := 2) (v := .int 0) (ty := .int) (C := RX2) (T := TX2) (N := 8) (fs' := [.ref d1, .ref d2, .ref d3, .ref d4, .int 0, .int 0, .int 0, .int 0]) hx hb hts (by decide +kernel) tyX2 tyX2_ok nmX2 hown hK hw hL_dr hS_dr rfl 7 (by decide) (hts (.fieldLink RX6 32 "WrongWord$Gate" "guards" "I") (by decide +kernel)) rfl (by decide +kernel) rfl rfl (Nat.le_of_ble_eq_true rfl) rfl dX6_read_18 (fun H locs σ3 eσ3 hw => ?_)
  have nhS_tp : σ3 tp = .inr (6, [.ref bt, .ref dr, .int 0, .int fa, .int pl, .int 0, .int va]) := by rw [eσ3]; exact kq_far (kq_ne hS_tp hS_dr (kq_noo (by decide))) hS_tp
  have nhS_dr : σ3 dr = .inr (2, [.ref d1, .ref d2, .ref d3, .ref d4, .int 0, .int 0, .int 0, .int 0]) := by rw [eσ3]; exact va_up_self _ _ _
  have hS_tp := nhS_tp
  have hS_dr := nhS_dr
  refine lv_aload_n hx hb dX6_read_21 rfl (lv_at hl 0 rfl) ?_
  refine kq_callI (As := []) (rest := []) (n := 0) (q := (RX6, TX6, 7)) (ci := 6) (mc := 0) (ms := 0) ⟨hx, hb, hml, hown, hts⟩ (c_X6_readLaw l E L σ3 hL_tp hS_tp) gX6_read_X6_readLaw rfl (by decide +kernel) ⟨Nat.le_of_ble_eq_true rfl, Nat.le_of_ble_eq_true rfl⟩ hK hw hL_tp hS_tp rfl rfl hl.1 rfl (Nat.le_of_ble_eq_true rfl) dX6_read_22 rfl rfl ⟨Nat.le_of_ble_eq_true rfl, Nat.le_of_ble_eq_true rfl⟩ (fun r4 Lv σ5 H locs hp hw => ?_)
  obtain ⟨er4, rfl, hfrσ5, hc0_σ5⟩ := hp
  have nhS_dr : σ5 dr = .inr (2, [.ref d1, .ref d2, .ref d3, .ref d4, .int 0, .int 0, .int 0, .int 0]) := (hfrσ5 dr (kq_ne hS_dr hS_tp (kq_noo (by decide)))).trans hS_dr
  have nhS_tp : σ5 tp = .inr (6, [.ref bt, .ref dr, .int 0, .int 1, .int 0, .int 0, .int va]) := hc0_σ5
  have hS_dr := nhS_dr
  have hS_tp := nhS_tp
  have er4 : r4 = 0 := er4
  subst er4
  refine lv_if_eq (tgt := 35) hx hb dX6_read_25 (by decide) (fun c6 => ?_) (fun c6 => ?_)
  · skip
    refine lv_iconst (v := 0) hx hb dX6_read_35 (by decide) ?_
    exact kq_zret hx hb hr hlocks hw (Nat.le_of_ble_eq_true rfl) (Nat.le_of_ble_eq_true rfl) (Or.inl rfl) dX6_read_36 ⟨rfl, rfl, (fun b h0_ h1_ => by rw [hfrσ5 b h0_, eσ3, eσ2, eσ1]; simp only [va_up]; simp [h0_, h1_]), hS_tp⟩
  · skip
    exact absurd (by decide) c6
abbrev rmX7_gate : Room := { frames := 4, cells := 0, slots := 0, locals := 83 }
set_option maxHeartbeats 4000000 in
set_option maxRecDepth 100000 in
theorem f_X7_gate (l : Launch) (E : kq_T) (L : List Nat) (σ : Nat → va_E) {x : Nat} (hF : fr_X E L σ x) : kq_I l E yX7_gate wsX7_gate rmX7_gate [.ref x] L σ (fun r _ _ => r = (-1000100)) := by
  obtain ⟨ro, tp, gt, ac, im, gu, ak, bt, dr, d1, d2, d3, d4, g1, g2, g3, nw, tk, n2, n3, n4, ah, bd, fr, fi, hL_x, hS_x, hL_ro, hS_ro, hL_tp, hS_tp, hL_bt, hS_bt, hL_dr, hS_dr, hL_gt, hS_gt, hL_nw, hS_nw, hL_tk, hS_tk, hL_ac, hS_ac, hL_im, hS_im, hL_ak, hS_ak, hRw, hIm⟩ := hF
  refine kq_enterI (cc := cX7_gate) (maxL := 2) (ret := (some .int)) (by decide) rfl (Nat.le_of_ble_eq_true rfl) rfl ?_
  intro p e s m below meth c A ls C hK hw hl
  obtain ⟨hx, hb, hml, hown, hts, hr, hlocks, hnm⟩ := C
  have hown : s.vm.findClass RX7 = some m.cls := hown
  have hl : lv_has ls 2 [(0, .ref x)] := hl
  refine lv_aload_n hx hb dX7_gate_0 rfl (lv_at hl 0 rfl) ?_
  refine kq_get (ci := 7) (v := .ref tp) (C := RX7) (T := TX7) (N := 9) hx hb hts (by decide +kernel) hown hK hw hL_x hS_x rfl 1 (by decide) (hts (.fieldLink RX7 18 "WrongWord" "tape" "LWrongWord$Tape;") (by decide +kernel)) rfl dX7_gate_1 ?_
  refine kq_callI (As := []) (rest := []) (n := 0) (q := (RX6, TX6, 7)) (ci := 6) (mc := 0) (ms := 0) ⟨hx, hb, hml, hown, hts⟩ (c_X6_read l E L σ hL_tp hS_tp hL_dr hS_dr) gX7_gate_X6_read rfl (by decide +kernel) ⟨Nat.le_of_ble_eq_true rfl, Nat.le_of_ble_eq_true rfl⟩ hK hw hL_tp hS_tp rfl rfl hl.1 rfl (Nat.le_of_ble_eq_true rfl) dX7_gate_4 rfl rfl ⟨Nat.le_of_ble_eq_true rfl, Nat.le_of_ble_eq_true rfl⟩ (fun r2 Lv σ1 H locs hp hw => ?_)
  obtain ⟨er2, rfl, hfrσ1, hc_tp⟩ := hp
  have hS_x : σ1 x = .inr (7, [.ref ro, .ref tp, .ref gt, .ref ac, .ref im, .ref gu, .ref ak, .int 0, .int 0]) := (hfrσ1 x (kq_ne hS_x hS_tp (kq_noo (by decide))) (kq_ne hS_x hS_dr (kq_noo (by decide)))).trans hS_x
  have hS_tp := hc_tp
  have er2 : r2 = 0 := er2
  subst er2
  refine lv_istore_n (lv' := [(1, .int 0), (0, .ref x)]) hx hb dX7_gate_7 rfl hl (by decide) rfl (fun ls hl => ?_)
  refine lv_aload_n hx hb dX7_gate_8 rfl (lv_at hl 1 rfl) ?_
  refine kq_get (ci := 7) (v := .ref tp) (C := RX7) (T := TX7) (N := 9) hx hb hts (by decide +kernel) hown hK hw hL_x hS_x rfl 1 (by decide) (hts (.fieldLink RX7 18 "WrongWord" "tape" "LWrongWord$Tape;") (by decide +kernel)) rfl dX7_gate_9 ?_
  refine lv_iconst (v := 0) hx hb dX7_gate_12 (by decide) ?_
  refine kq_put (ci := 6) (v := .int 0) (ty := .int) (C := RX6) (T := TX6) (N := 7) (fs' := [.ref bt, .ref dr, .int 0, .int 1, .int 0, .int 0, .int 0]) hx hb hts (by decide +kernel) tyX6 tyX6_ok nmX6 hown hK hw hL_tp hS_tp rfl 2 (by decide) (hts (.fieldLink RX7 102 "WrongWord$Tape" "length" "I") (by decide +kernel)) rfl (by decide +kernel) rfl rfl (Nat.le_of_ble_eq_true rfl) rfl dX7_gate_13 (fun H locs σ3 eσ3 hw => ?_)
  have nhS_x : σ3 x = .inr (7, [.ref ro, .ref tp, .ref gt, .ref ac, .ref im, .ref gu, .ref ak, .int 0, .int 0]) := by rw [eσ3]; exact kq_far (kq_ne hS_x hS_tp (kq_noo (by decide))) hS_x
  have nhS_tp : σ3 tp = .inr (6, [.ref bt, .ref dr, .int 0, .int 1, .int 0, .int 0, .int 0]) := by rw [eσ3]; exact va_up_self _ _ _
  have hS_x := nhS_x
  have hS_tp := nhS_tp
  refine lv_iload_n hx hb dX7_gate_16 rfl (lv_at hl 0 rfl) ?_
  refine lv_if_ne (tgt := 42) hx hb dX7_gate_17 (by decide) (fun c4 => ?_) (fun c4 => ?_)
  · skip
    exact absurd c4 (by decide)
  · skip
    refine lv_aload_n hx hb dX7_gate_20 rfl (lv_at hl 1 rfl) ?_
    refine lv_aload_n hx hb dX7_gate_21 rfl (lv_at hl 1 rfl) ?_
    refine kq_get (ci := 7) (v := .ref tp) (C := RX7) (T := TX7) (N := 9) hx hb hts (by decide +kernel) hown hK hw hL_x hS_x rfl 1 (by decide) (hts (.fieldLink RX7 18 "WrongWord" "tape" "LWrongWord$Tape;") (by decide +kernel)) rfl dX7_gate_22 ?_
    refine kq_get (ci := 6) (v := .int 1) (C := RX6) (T := TX6) (N := 7) hx hb hts (by decide +kernel) hown hK hw hL_tp hS_tp rfl 3 (by decide) (hts (.fieldLink RX7 110 "WrongWord$Tape" "fault" "I") (by decide +kernel)) rfl dX7_gate_25 ?_
    refine kq_put (ci := 7) (v := .int 1) (ty := .int) (C := RX7) (T := TX7) (N := 9) (fs' := [.ref ro, .ref tp, .ref gt, .ref ac, .ref im, .ref gu, .ref ak, .int 1, .int 0]) hx hb hts (by decide +kernel) tyX7 tyX7_ok nmX7 hown hK hw hL_x hS_x rfl 7 (by decide) (hts (.fieldLink RX7 113 "WrongWord" "latestFault" "I") (by decide +kernel)) rfl (by decide +kernel) rfl rfl (Nat.le_of_ble_eq_true rfl) rfl dX7_gate_28 (fun H locs σ5 eσ5 hw => ?_)
    have nhS_tp : σ5 tp = .inr (6, [.ref bt, .ref dr, .int 0, .int 1, .int 0, .int 0, .int 0]) := by rw [eσ5]; exact kq_far (kq_ne hS_tp hS_x (kq_noo (by decide))) hS_tp
    have nhS_x : σ5 x = .inr (7, [.ref ro, .ref tp, .ref gt, .ref ac, .ref im, .ref gu, .ref ak, .int 1, .int 0]) := by rw [eσ5]; exact va_up_self _ _ _
    have hS_tp := nhS_tp
    have hS_x := nhS_x
    refine lv_ldc (v := (-1000100)) hx hb hown (hts (.constant RX7 116 (-1000100)) (by decide +kernel)) dX7_gate_31 ?_
    refine lv_aload_n hx hb dX7_gate_33 rfl (lv_at hl 1 rfl) ?_
    refine kq_get (ci := 7) (v := .ref tp) (C := RX7) (T := TX7) (N := 9) hx hb hts (by decide +kernel) hown hK hw hL_x hS_x rfl 1 (by decide) (hts (.fieldLink RX7 18 "WrongWord" "tape" "LWrongWord$Tape;") (by decide +kernel)) rfl dX7_gate_34 ?_
    refine kq_get (ci := 6) (v := .int 0) (C := RX6) (T := TX6) (N := 7) hx hb hts (by decide +kernel) hown hK hw hL_tp hS_tp rfl 4 (by decide) (hts (.fieldLink RX7 117 "WrongWord$Tape" "place" "I") (by decide +kernel)) rfl dX7_gate_37 ?_
    refine lv_isub hx hb dX7_gate_40 ?_
    refine lv_topi (fun v6 ev6 => ?_)
    have ev6 : v6 = (-1000100) := by rw [ev6]; decide
    subst ev6
    exact kq_iret hx hb hr hlocks hw (Nat.le_of_ble_eq_true rfl) (Nat.le_of_ble_eq_true rfl) dX7_gate_41 rfl
abbrev rmX6_append : Room := { frames := 0, cells := 0, slots := 0, locals := 0 }
set_option maxHeartbeats 4000000 in
set_option maxRecDepth 100000 in
theorem c_X6_append (l : Launch) (E : kq_T) (L : List Nat) (σ : Nat → va_E) {tp bt dr : Nat} {fa pl va at_ : Int32} {fb : Nat → Int32} (a : Int32) (hL_tp : tp ∈ L) (hS_tp : σ tp = .inr (6, [.ref bt, .ref dr, .int 0, .int fa, .int pl, .int at_, .int va])) (hL_bt : bt ∈ L) (hS_bt : σ bt = .inl (E.2 0, 100, .inl fb)) : kq_I l E yX6_append wsX6_append rmX6_append [.ref tp, .int a] L σ (fun r L1 σ1 => r = 1 ∧ L = L1 ∧ (∀ b, b ≠ tp → b ≠ bt → σ1 b = σ b) ∧ σ1 tp = .inr (6, [.ref bt, .ref dr, .int 1, .int fa, .int pl, .int at_, .int va])) := by
  refine kq_enterI (cc := cX6_append) (maxL := 2) (ret := (some .boolean)) (by decide) rfl (Nat.le_of_ble_eq_true rfl) rfl ?_
  intro p e s m below meth c A ls C hK hw hl
  obtain ⟨hx, hb, hml, hown, hts, hr, hlocks, hnm⟩ := C
  have hown : s.vm.findClass RX6 = some m.cls := hown
  have hl : lv_has ls 2 [(0, .ref tp), (1, .int a)] := hl
  refine lv_aload_n hx hb dX6_append_0 rfl (lv_at hl 0 rfl) ?_
  refine kq_get (ci := 6) (v := .int 0) (C := RX6) (T := TX6) (N := 7) hx hb hts (by decide +kernel) hown hK hw hL_tp hS_tp rfl 2 (by decide) (hts (.fieldLink RX6 22 "WrongWord$Tape" "length" "I") (by decide +kernel)) rfl dX6_append_1 ?_
  refine lv_bipush (v := 100) hx hb dX6_append_4 (by decide) ?_
  refine lv_icmp_lt (tgt := 11) hx hb dX6_append_6 (by decide) (fun c1 => ?_) (fun c1 => ?_)
  · skip
    refine lv_aload_n hx hb dX6_append_11 rfl (lv_at hl 0 rfl) ?_
    refine kq_get (ci := 6) (v := .ref bt) (C := RX6) (T := TX6) (N := 7) hx hb hts (by decide +kernel) hown hK hw hL_tp hS_tp rfl 0 (by decide) (hts (.fieldLink RX6 9 "WrongWord$Tape" "bytes" "[I") (by decide +kernel)) rfl dX6_append_12 ?_
    refine lv_aload_n hx hb dX6_append_15 rfl (lv_at hl 0 rfl) ?_
    refine kq_get (ci := 6) (v := .int 0) (C := RX6) (T := TX6) (N := 7) hx hb hts (by decide +kernel) hown hK hw hL_tp hS_tp rfl 2 (by decide) (hts (.fieldLink RX6 22 "WrongWord$Tape" "length" "I") (by decide +kernel)) rfl dX6_append_16 ?_
    refine lv_iload_n hx hb dX6_append_19 rfl (lv_at hl 1 rfl) ?_
    refine kq_iast hx hb hK hw hL_bt hS_bt (by unfold vp_in; decide) dX6_append_20 (fun H locs σ2 eσ2 hw => ?_)
    have nhS_tp : σ2 tp = .inr (6, [.ref bt, .ref dr, .int 0, .int fa, .int pl, .int at_, .int va]) := by rw [eσ2]; exact kq_far (kq_ne hS_tp hS_bt kq_noa) hS_tp
    have nhS_bt : σ2 bt = .inl (E.2 0, 100, .inl (upd fb (Int32.toNatClampNeg 0) a)) := by rw [eσ2]; exact va_up_self _ _ _
    have hS_tp := nhS_tp
    have hS_bt := nhS_bt
    refine lv_aload_n hx hb dX6_append_21 rfl (lv_at hl 0 rfl) ?_
    refine lv_dup hx hb dX6_append_22 rfl ?_
    refine kq_get (ci := 6) (v := .int 0) (C := RX6) (T := TX6) (N := 7) hx hb hts (by decide +kernel) hown hK hw hL_tp hS_tp rfl 2 (by decide) (hts (.fieldLink RX6 22 "WrongWord$Tape" "length" "I") (by decide +kernel)) rfl dX6_append_23 ?_
    refine lv_iconst (v := 1) hx hb dX6_append_26 (by decide) ?_
    refine lv_iadd hx hb dX6_append_27 ?_
    refine lv_topi (fun v3 ev3 => ?_)
    have ev3 : v3 = 1 := by rw [ev3]; decide
    subst ev3
    refine kq_put (ci := 6) (v := .int 1) (ty := .int) (C := RX6) (T := TX6) (N := 7) (fs' := [.ref bt, .ref dr, .int 1, .int fa, .int pl, .int at_, .int va]) hx hb hts (by decide +kernel) tyX6 tyX6_ok nmX6 hown hK hw hL_tp hS_tp rfl 2 (by decide) (hts (.fieldLink RX6 22 "WrongWord$Tape" "length" "I") (by decide +kernel)) rfl (by decide +kernel) rfl rfl (Nat.le_of_ble_eq_true rfl) rfl dX6_append_28 (fun H locs σ4 eσ4 hw => ?_)
    have nhS_bt : σ4 bt = .inl (E.2 0, 100, .inl (upd fb (Int32.toNatClampNeg 0) a)) := by rw [eσ4]; exact kq_far (kq_ne hS_bt hS_tp kq_nao) hS_bt
    have nhS_tp : σ4 tp = .inr (6, [.ref bt, .ref dr, .int 1, .int fa, .int pl, .int at_, .int va]) := by rw [eσ4]; exact va_up_self _ _ _
    have hS_bt := nhS_bt
    have hS_tp := nhS_tp
    refine lv_iconst (v := 1) hx hb dX6_append_31 (by decide) ?_
    exact kq_zret hx hb hr hlocks hw (Nat.le_of_ble_eq_true rfl) (Nat.le_of_ble_eq_true rfl) (Or.inr rfl) dX6_append_32 ⟨rfl, rfl, (fun b h0_ h1_ => by rw [eσ4, eσ2]; simp only [va_up]; simp [h0_, h1_]), hS_tp⟩
  · skip
    exact absurd (by decide) c1
abbrev rmX7_feed : Room := { frames := 1, cells := 0, slots := 0, locals := 21 }
set_option maxHeartbeats 4000000 in
set_option maxRecDepth 100000 in
theorem f_X7_feed (l : Launch) (E : kq_T) (L : List Nat) (σ : Nat → va_E) {x : Nat} (hF : fr_X E L σ x) (a0 : Int32) : kq_I l E yX7_feed wsX7_feed rmX7_feed [.ref x, .int a0] L σ (fun r _ _ => r = sp_feed a0) := by
  obtain ⟨ro, tp, gt, ac, im, gu, ak, bt, dr, d1, d2, d3, d4, g1, g2, g3, nw, tk, n2, n3, n4, ah, bd, fr, fi, hL_x, hS_x, hL_ro, hS_ro, hL_tp, hS_tp, hL_bt, hS_bt, hL_dr, hS_dr, hL_gt, hS_gt, hL_nw, hS_nw, hL_tk, hS_tk, hL_ac, hS_ac, hL_im, hS_im, hL_ak, hS_ak, hRw, hIm⟩ := hF
  refine kq_enterI (cc := cX7_feed) (maxL := 2) (ret := (some .int)) (by decide) rfl (Nat.le_of_ble_eq_true rfl) rfl ?_
  intro p e s m below meth c A ls C hK hw hl
  obtain ⟨hx, hb, hml, hown, hts, hr, hlocks, hnm⟩ := C
  have hown : s.vm.findClass RX7 = some m.cls := hown
  have hl : lv_has ls 2 [(0, .ref x), (1, .int a0)] := hl
  refine lv_iload_n hx hb dX7_feed_0 rfl (lv_at hl 1 rfl) ?_
  refine lv_if_lt (tgt := 11) hx hb dX7_feed_1 (by decide) (fun c1 => ?_) (fun c1 => ?_)
  · skip
    refine lv_ldc (v := (-1000001)) hx hb hown (hts (.constant RX7 59 (-1000001)) (by decide +kernel)) dX7_feed_11 ?_
    exact kq_iret hx hb hr hlocks hw (Nat.le_of_ble_eq_true rfl) (Nat.le_of_ble_eq_true rfl) dX7_feed_13 (by unfold sp_feed; rw [if_pos (Or.inl c1)])
  · skip
    refine lv_iload_n hx hb dX7_feed_4 rfl (lv_at hl 1 rfl) ?_
    refine lv_sipush (v := 255) hx hb dX7_feed_5 (by decide) ?_
    refine lv_icmp_le (tgt := 14) hx hb dX7_feed_8 (by decide) (fun c2 => ?_) (fun c2 => ?_)
    · skip
      refine lv_aload_n hx hb dX7_feed_14 rfl (lv_at hl 0 rfl) ?_
      refine kq_get (ci := 7) (v := .ref tp) (C := RX7) (T := TX7) (N := 9) hx hb hts (by decide +kernel) hown hK hw hL_x hS_x rfl 1 (by decide) (hts (.fieldLink RX7 18 "WrongWord" "tape" "LWrongWord$Tape;") (by decide +kernel)) rfl dX7_feed_15 ?_
      refine lv_iload_n hx hb dX7_feed_18 rfl (lv_at hl 1 rfl) ?_
      refine kq_callI (As := [.int a0]) (rest := []) (n := 1) (q := (RX6, TX6, 7)) (ci := 6) (mc := 0) (ms := 0) ⟨hx, hb, hml, hown, hts⟩ (c_X6_append l E L σ a0 hL_tp hS_tp hL_bt hS_bt) gX7_feed_X6_append rfl (by decide +kernel) ⟨Nat.le_of_ble_eq_true rfl, Nat.le_of_ble_eq_true rfl⟩ hK hw hL_tp hS_tp rfl rfl hl.1 rfl (Nat.le_of_ble_eq_true rfl) dX7_feed_19 rfl rfl ⟨Nat.le_of_ble_eq_true rfl, Nat.le_of_ble_eq_true rfl⟩ (fun r4 Lv σ3 H locs hp hw => ?_)
      obtain ⟨er4, rfl, hfrσ3, hc_tp⟩ := hp
      have hS_x : σ3 x = .inr (7, [.ref ro, .ref tp, .ref gt, .ref ac, .ref im, .ref gu, .ref ak, .int 0, .int 0]) := (hfrσ3 x (kq_ne hS_x hS_tp (kq_noo (by decide))) (kq_ne hS_x hS_bt kq_noa)).trans hS_x
      have hS_tp := hc_tp
      have er4 : r4 = 1 := er4
      subst er4
      refine lv_if_eq (tgt := 35) hx hb dX7_feed_22 (by decide) (fun c5 => ?_) (fun c5 => ?_)
      · skip
        exact absurd c5 (by decide)
      · skip
        refine lv_aload_n hx hb dX7_feed_25 rfl (lv_at hl 0 rfl) ?_
        refine kq_get (ci := 7) (v := .ref tp) (C := RX7) (T := TX7) (N := 9) hx hb hts (by decide +kernel) hown hK hw hL_x hS_x rfl 1 (by decide) (hts (.fieldLink RX7 18 "WrongWord" "tape" "LWrongWord$Tape;") (by decide +kernel)) rfl dX7_feed_26 ?_
        refine kq_get (ci := 6) (v := .int 1) (C := RX6) (T := TX6) (N := 7) hx hb hts (by decide +kernel) hown hK hw hL_tp hS_tp rfl 2 (by decide) (hts (.fieldLink RX7 102 "WrongWord$Tape" "length" "I") (by decide +kernel)) rfl dX7_feed_29 ?_
        refine lv_goto (tgt := 37) hx hb dX7_feed_32 (by decide) ?_
        exact kq_iret hx hb hr hlocks hw (Nat.le_of_ble_eq_true rfl) (Nat.le_of_ble_eq_true rfl) dX7_feed_37 (by unfold sp_feed; rw [if_neg (not_or.mpr ⟨c1, Int32.not_lt.mpr c2⟩)])
    · skip
      refine lv_ldc (v := (-1000001)) hx hb hown (hts (.constant RX7 59 (-1000001)) (by decide +kernel)) dX7_feed_11 ?_
      exact kq_iret hx hb hr hlocks hw (Nat.le_of_ble_eq_true rfl) (Nat.le_of_ble_eq_true rfl) dX7_feed_13 (by unfold sp_feed; rw [if_pos (Or.inr (Int32.not_le.mp c2))])
abbrev rmX5_reaches : Room := { frames := 0, cells := 0, slots := 0, locals := 0 }
abbrev rmX5_findingOf : Room := { frames := 1, cells := 0, slots := 0, locals := 22 }
set_option maxHeartbeats 4000000 in
set_option maxRecDepth 100000 in
theorem c_X5_findingOf (l : Launch) (E : kq_T) (L : List Nat) (σ : Nat → va_E) {r it : Nat} (a b : Int32) (hL_r : r ∈ L) (hS_r : σ r = .inr (5, [.ref it, .int ((-1)), .int 0])) : kq_I l E yX5_findingOf wsX5_findingOf rmX5_findingOf [.ref r, .int a, .int b] L σ (fun r L1 σ1 => r = 1 ∧ L = L1 ∧ σ = σ1) := by
  refine kq_enterI (cc := cX5_findingOf) (maxL := 3) (ret := (some .int)) (by decide) rfl (Nat.le_of_ble_eq_true rfl) rfl ?_
  intro p e s m below meth c A ls C hK hw hl
  obtain ⟨hx, hb, hml, hown, hts, hr, hlocks, hnm⟩ := C
  have hown : s.vm.findClass RX5 = some m.cls := hown
  have hl : lv_has ls 3 [(0, .ref r), (1, .int a), (2, .int b)] := hl
  refine lv_aload_n hx hb dX5_findingOf_0 rfl (lv_at hl 0 rfl) ?_
  refine kq_get (ci := 5) (v := .int ((-1))) (C := RX5) (T := TX5) (N := 3) hx hb hts (by decide +kernel) hown hK hw hL_r hS_r rfl 1 (by decide) (hts (.fieldLink RX5 15 "WrongWord$Row" "lane" "I") (by decide +kernel)) rfl dX5_findingOf_1 ?_
  refine lv_iconst (v := (-1)) hx hb dX5_findingOf_4 (by decide) ?_
  refine lv_icmp_ne (tgt := 10) hx hb dX5_findingOf_5 (by decide) (fun c1 => ?_) (fun c1 => ?_)
  · skip
    exact absurd c1 (by decide)
  · skip
    refine lv_iconst (v := 1) hx hb dX5_findingOf_8 (by decide) ?_
    exact kq_iret hx hb hr hlocks hw (Nat.le_of_ble_eq_true rfl) (Nat.le_of_ble_eq_true rfl) dX5_findingOf_9 ⟨rfl, rfl, rfl⟩
abbrev rmX7_set : Room := { frames := 2, cells := 0, slots := 0, locals := 44 }
set_option maxHeartbeats 4000000 in
set_option maxRecDepth 100000 in
theorem f_X7_set (l : Launch) (E : kq_T) (L : List Nat) (σ : Nat → va_E) {x : Nat} (hF : fr_X E L σ x) (a0 a1 a2 : Int32) : kq_I l E yX7_set wsX7_set rmX7_set [.ref x, .int a0, .int a1, .int a2] L σ (fun r _ _ => r = sp_r1 a0) := by
  obtain ⟨ro, tp, gt, ac, im, gu, ak, bt, dr, d1, d2, d3, d4, g1, g2, g3, nw, tk, n2, n3, n4, ah, bd, fr, fi, hL_x, hS_x, hL_ro, hS_ro, hL_tp, hS_tp, hL_bt, hS_bt, hL_dr, hS_dr, hL_gt, hS_gt, hL_nw, hS_nw, hL_tk, hS_tk, hL_ac, hS_ac, hL_im, hS_im, hL_ak, hS_ak, hRw, hIm⟩ := hF
  refine kq_enterI (cc := cX7_set) (maxL := 5) (ret := (some .int)) (by decide) rfl (Nat.le_of_ble_eq_true rfl) rfl ?_
  intro p e s m below meth c A ls C hK hw hl
  obtain ⟨hx, hb, hml, hown, hts, hr, hlocks, hnm⟩ := C
  have hown : s.vm.findClass RX7 = some m.cls := hown
  have hl : lv_has ls 5 [(0, .ref x), (1, .int a0), (2, .int a1), (3, .int a2)] := hl
  refine lv_aload_n hx hb dX7_set_0 rfl (lv_at hl 0 rfl) ?_
  refine lv_iload_n hx hb dX7_set_1 rfl (lv_at hl 1 rfl) ?_
  refine kq_callI (As := [.int a0]) (rest := []) (n := 1) (q := (RX7, TX7, 9)) (ci := 7) (mc := 0) (ms := 0) ⟨hx, hb, hml, hown, hts⟩ (c_X7_isRow l E L σ x a0) gX7_set_X7_isRow rfl (by decide +kernel) ⟨Nat.le_of_ble_eq_true rfl, Nat.le_of_ble_eq_true rfl⟩ hK hw hL_x hS_x rfl rfl hl.1 rfl (Nat.le_of_ble_eq_true rfl) dX7_set_2 rfl rfl ⟨Nat.le_of_ble_eq_true rfl, Nat.le_of_ble_eq_true rfl⟩ (fun r1 Lv σv H locs hp hw => ?_)
  obtain ⟨er1, rfl, rfl⟩ := hp
  refine lv_if_ne (tgt := 11) hx hb dX7_set_5 (by decide) (fun c2 => ?_) (fun c2 => ?_)
  · skip
    obtain ⟨hlo_a0, hhi_a0⟩ := sp_isRow_1 (a := a0) (by rw [← er1]; exact c2)
    refine lv_aload_n hx hb dX7_set_11 rfl (lv_at hl 0 rfl) ?_
    refine kq_get (ci := 7) (v := .ref ro) (C := RX7) (T := TX7) (N := 9) hx hb hts (by decide +kernel) hown hK hw hL_x hS_x rfl 0 (by decide) (hts (.fieldLink RX7 11 "WrongWord" "rows" "[LWrongWord$Row;") (by decide +kernel)) rfl dX7_set_12 ?_
    refine lv_iload_n hx hb dX7_set_15 rfl (lv_at hl 1 rfl) ?_
    have hin_a0 : vp_in a0 8 := kq_in hlo_a0 (n := 8) (by decide) hhi_a0
    have hlt_r : a0.toNatClampNeg < 8 := Nat.not_le.mp fun h9 => hin_a0 (Or.inr h9)
    obtain ⟨r, it_r, fz_r, hr_r, hL_r, hS_r, hL_it_r, hS_it_r⟩ := hRw _ hlt_r
    refine kq_aldq hx hb hK hw hL_ro 4 rfl hS_ro hin_a0 hr_r dX7_set_16 ?_
    refine lv_iload_n hx hb dX7_set_17 rfl (lv_at hl 2 rfl) ?_
    refine lv_iconst (v := 1) hx hb dX7_set_18 (by decide) ?_
    refine kq_callI (As := [.int a1, .int 1]) (rest := []) (n := 2) (q := (RX5, TX5, 3)) (ci := 5) (mc := 0) (ms := 0) ⟨hx, hb, hml, hown, hts⟩ (c_X5_findingOf l E L σ a1 1 hL_r hS_r) gX7_set_X5_findingOf rfl (by decide +kernel) ⟨Nat.le_of_ble_eq_true rfl, Nat.le_of_ble_eq_true rfl⟩ hK hw hL_r hS_r rfl rfl hl.1 rfl (Nat.le_of_ble_eq_true rfl) dX7_set_19 rfl rfl ⟨Nat.le_of_ble_eq_true rfl, Nat.le_of_ble_eq_true rfl⟩ (fun r3 Lv σv H locs hp hw => ?_)
    obtain ⟨er3, rfl, rfl⟩ := hp
    have er3 : r3 = 1 := er3
    subst er3
    refine lv_istore (lv' := [(4, .int 1), (0, .ref x), (1, .int a0), (2, .int a1), (3, .int a2)]) hx hb dX7_set_22 hl (by decide) rfl (fun ls hl => ?_)
    refine lv_iload hx hb dX7_set_24 (lv_at hl 0 rfl) ?_
    refine lv_if_eq (tgt := 38) hx hb dX7_set_26 (by decide) (fun c4 => ?_) (fun c4 => ?_)
    · skip
      exact absurd c4 (by decide)
    · skip
      refine lv_aload_n hx hb dX7_set_29 rfl (lv_at hl 1 rfl) ?_
      refine lv_iload hx hb dX7_set_30 (lv_at hl 0 rfl) ?_
      refine kq_callI (As := [.int 1]) (rest := []) (n := 1) (q := (RX7, TX7, 9)) (ci := 7) (mc := 0) (ms := 0) ⟨hx, hb, hml, hown, hts⟩ (c_X7_found l E L σ 1 hL_x hS_x) gX7_set_X7_found rfl (by decide +kernel) ⟨Nat.le_of_ble_eq_true rfl, Nat.le_of_ble_eq_true rfl⟩ hK hw hL_x hS_x rfl rfl hl.1 rfl (Nat.le_of_ble_eq_true rfl) dX7_set_32 rfl rfl ⟨Nat.le_of_ble_eq_true rfl, Nat.le_of_ble_eq_true rfl⟩ (fun r5 Lv σv H locs hp hw => ?_)
      obtain ⟨er5, rfl, er59⟩ := hp
      refine lv_goto (tgt := 53) hx hb dX7_set_35 (by decide) ?_
      exact kq_iret hx hb hr hlocks hw (Nat.le_of_ble_eq_true rfl) (Nat.le_of_ble_eq_true rfl) dX7_set_53 (by rw [er5]; unfold sp_r1; simp [hlo_a0, hhi_a0, c2, c4])
  · skip
    have hz_a0 : a0 < 0 ∨ 8 ≤ a0 := sp_isRow_0 (by rw [← er1]; exact c2)
    refine lv_ldc (v := (-1000001)) hx hb hown (hts (.constant RX7 59 (-1000001)) (by decide +kernel)) dX7_set_8 ?_
    exact kq_iret hx hb hr hlocks hw (Nat.le_of_ble_eq_true rfl) (Nat.le_of_ble_eq_true rfl) dX7_set_10 (by unfold sp_r1; simp [hz_a0, c2])
abbrev rmX7_drop : Room := { frames := 1, cells := 0, slots := 0, locals := 21 }
set_option maxHeartbeats 4000000 in
set_option maxRecDepth 100000 in
theorem f_X7_drop (l : Launch) (E : kq_T) (L : List Nat) (σ : Nat → va_E) {x : Nat} (hF : fr_X E L σ x) (a0 : Int32) : kq_I l E yX7_drop wsX7_drop rmX7_drop [.ref x, .int a0] L σ (fun r _ _ => r = sp_r1 a0) := by
  obtain ⟨ro, tp, gt, ac, im, gu, ak, bt, dr, d1, d2, d3, d4, g1, g2, g3, nw, tk, n2, n3, n4, ah, bd, fr, fi, hL_x, hS_x, hL_ro, hS_ro, hL_tp, hS_tp, hL_bt, hS_bt, hL_dr, hS_dr, hL_gt, hS_gt, hL_nw, hS_nw, hL_tk, hS_tk, hL_ac, hS_ac, hL_im, hS_im, hL_ak, hS_ak, hRw, hIm⟩ := hF
  refine kq_enterI (cc := cX7_drop) (maxL := 2) (ret := (some .int)) (by decide) rfl (Nat.le_of_ble_eq_true rfl) rfl ?_
  intro p e s m below meth c A ls C hK hw hl
  obtain ⟨hx, hb, hml, hown, hts, hr, hlocks, hnm⟩ := C
  have hown : s.vm.findClass RX7 = some m.cls := hown
  have hl : lv_has ls 2 [(0, .ref x), (1, .int a0)] := hl
  refine lv_aload_n hx hb dX7_drop_0 rfl (lv_at hl 0 rfl) ?_
  refine lv_iload_n hx hb dX7_drop_1 rfl (lv_at hl 1 rfl) ?_
  refine kq_callI (As := [.int a0]) (rest := []) (n := 1) (q := (RX7, TX7, 9)) (ci := 7) (mc := 0) (ms := 0) ⟨hx, hb, hml, hown, hts⟩ (c_X7_isRow l E L σ x a0) gX7_drop_X7_isRow rfl (by decide +kernel) ⟨Nat.le_of_ble_eq_true rfl, Nat.le_of_ble_eq_true rfl⟩ hK hw hL_x hS_x rfl rfl hl.1 rfl (Nat.le_of_ble_eq_true rfl) dX7_drop_2 rfl rfl ⟨Nat.le_of_ble_eq_true rfl, Nat.le_of_ble_eq_true rfl⟩ (fun r1 Lv σv H locs hp hw => ?_)
  obtain ⟨er1, rfl, rfl⟩ := hp
  refine lv_if_ne (tgt := 11) hx hb dX7_drop_5 (by decide) (fun c2 => ?_) (fun c2 => ?_)
  · skip
    obtain ⟨hlo_a0, hhi_a0⟩ := sp_isRow_1 (a := a0) (by rw [← er1]; exact c2)
    refine lv_aload_n hx hb dX7_drop_11 rfl (lv_at hl 0 rfl) ?_
    refine kq_get (ci := 7) (v := .ref ro) (C := RX7) (T := TX7) (N := 9) hx hb hts (by decide +kernel) hown hK hw hL_x hS_x rfl 0 (by decide) (hts (.fieldLink RX7 11 "WrongWord" "rows" "[LWrongWord$Row;") (by decide +kernel)) rfl dX7_drop_12 ?_
    refine lv_iload_n hx hb dX7_drop_15 rfl (lv_at hl 1 rfl) ?_
    have hin_a0 : vp_in a0 8 := kq_in hlo_a0 (n := 8) (by decide) hhi_a0
    have hlt_r : a0.toNatClampNeg < 8 := Nat.not_le.mp fun h9 => hin_a0 (Or.inr h9)
    obtain ⟨r, it_r, fz_r, hr_r, hL_r, hS_r, hL_it_r, hS_it_r⟩ := hRw _ hlt_r
    refine kq_aldq hx hb hK hw hL_ro 4 rfl hS_ro hin_a0 hr_r dX7_drop_16 ?_
    refine kq_get (ci := 5) (v := .int ((-1))) (C := RX5) (T := TX5) (N := 3) hx hb hts (by decide +kernel) hown hK hw hL_r hS_r rfl 1 (by decide) (hts (.fieldLink RX7 78 "WrongWord$Row" "lane" "I") (by decide +kernel)) rfl dX7_drop_17 ?_
    refine lv_iconst (v := (-1)) hx hb dX7_drop_20 (by decide) ?_
    refine lv_icmp_ne (tgt := 30) hx hb dX7_drop_21 (by decide) (fun c3 => ?_) (fun c3 => ?_)
    · skip
      exact absurd c3 (by decide)
    · skip
      refine lv_aload_n hx hb dX7_drop_24 rfl (lv_at hl 0 rfl) ?_
      refine lv_iconst (v := 1) hx hb dX7_drop_25 (by decide) ?_
      refine kq_callI (As := [.int 1]) (rest := []) (n := 1) (q := (RX7, TX7, 9)) (ci := 7) (mc := 0) (ms := 0) ⟨hx, hb, hml, hown, hts⟩ (c_X7_found l E L σ 1 hL_x hS_x) gX7_drop_X7_found rfl (by decide +kernel) ⟨Nat.le_of_ble_eq_true rfl, Nat.le_of_ble_eq_true rfl⟩ hK hw hL_x hS_x rfl rfl hl.1 rfl (Nat.le_of_ble_eq_true rfl) dX7_drop_26 rfl rfl ⟨Nat.le_of_ble_eq_true rfl, Nat.le_of_ble_eq_true rfl⟩ (fun r4 Lv σv H locs hp hw => ?_)
      obtain ⟨er4, rfl, er49⟩ := hp
      exact kq_iret hx hb hr hlocks hw (Nat.le_of_ble_eq_true rfl) (Nat.le_of_ble_eq_true rfl) dX7_drop_29 (by rw [er4]; unfold sp_r1; simp [hlo_a0, hhi_a0, c2, c3])
  · skip
    have hz_a0 : a0 < 0 ∨ 8 ≤ a0 := sp_isRow_0 (by rw [← er1]; exact c2)
    refine lv_ldc (v := (-1000001)) hx hb hown (hts (.constant RX7 59 (-1000001)) (by decide +kernel)) dX7_drop_8 ?_
    exact kq_iret hx hb hr hlocks hw (Nat.le_of_ble_eq_true rfl) (Nat.le_of_ble_eq_true rfl) dX7_drop_10 (by unfold sp_r1; simp [hz_a0, c2])
abbrev rmX7_copy : Room := { frames := 1, cells := 0, slots := 0, locals := 21 }
set_option maxHeartbeats 4000000 in
set_option maxRecDepth 100000 in
theorem f_X7_copy (l : Launch) (E : kq_T) (L : List Nat) (σ : Nat → va_E) {x : Nat} (hF : fr_X E L σ x) (a0 a1 a2 a3 a4 : Int32) : kq_I l E yX7_copy wsX7_copy rmX7_copy [.ref x, .int a0, .int a1, .int a2, .int a3, .int a4] L σ (fun r _ _ => r = sp_copy a0 a2) := by
  obtain ⟨ro, tp, gt, ac, im, gu, ak, bt, dr, d1, d2, d3, d4, g1, g2, g3, nw, tk, n2, n3, n4, ah, bd, fr, fi, hL_x, hS_x, hL_ro, hS_ro, hL_tp, hS_tp, hL_bt, hS_bt, hL_dr, hS_dr, hL_gt, hS_gt, hL_nw, hS_nw, hL_tk, hS_tk, hL_ac, hS_ac, hL_im, hS_im, hL_ak, hS_ak, hRw, hIm⟩ := hF
  refine kq_enterI (cc := cX7_copy) (maxL := 8) (ret := (some .int)) (by decide) rfl (Nat.le_of_ble_eq_true rfl) rfl ?_
  intro p e s m below meth c A ls C hK hw hl
  obtain ⟨hx, hb, hml, hown, hts, hr, hlocks, hnm⟩ := C
  have hown : s.vm.findClass RX7 = some m.cls := hown
  have hl : lv_has ls 8 [(0, .ref x), (1, .int a0), (2, .int a1), (3, .int a2), (4, .int a3), (5, .int a4)] := hl
  refine lv_aload_n hx hb dX7_copy_0 rfl (lv_at hl 0 rfl) ?_
  refine lv_iload_n hx hb dX7_copy_1 rfl (lv_at hl 1 rfl) ?_
  refine kq_callI (As := [.int a0]) (rest := []) (n := 1) (q := (RX7, TX7, 9)) (ci := 7) (mc := 0) (ms := 0) ⟨hx, hb, hml, hown, hts⟩ (c_X7_isRow l E L σ x a0) gX7_copy_X7_isRow rfl (by decide +kernel) ⟨Nat.le_of_ble_eq_true rfl, Nat.le_of_ble_eq_true rfl⟩ hK hw hL_x hS_x rfl rfl hl.1 rfl (Nat.le_of_ble_eq_true rfl) dX7_copy_2 rfl rfl ⟨Nat.le_of_ble_eq_true rfl, Nat.le_of_ble_eq_true rfl⟩ (fun r1 Lv σv H locs hp hw => ?_)
  obtain ⟨er1, rfl, rfl⟩ := hp
  refine lv_if_eq (tgt := 16) hx hb dX7_copy_5 (by decide) (fun c2 => ?_) (fun c2 => ?_)
  · skip
    have hz_a0 : a0 < 0 ∨ 8 ≤ a0 := sp_isRow_0 (by rw [← er1]; exact c2)
    refine lv_ldc (v := (-1000001)) hx hb hown (hts (.constant RX7 59 (-1000001)) (by decide +kernel)) dX7_copy_16 ?_
    exact kq_iret hx hb hr hlocks hw (Nat.le_of_ble_eq_true rfl) (Nat.le_of_ble_eq_true rfl) dX7_copy_18 (by unfold sp_copy; simp [hz_a0, c2])
  · skip
    obtain ⟨hlo_a0, hhi_a0⟩ := sp_isRow_1 (a := a0) (by rw [← er1]; exact c2)
    refine lv_aload_n hx hb dX7_copy_8 rfl (lv_at hl 0 rfl) ?_
    refine lv_iload_n hx hb dX7_copy_9 rfl (lv_at hl 3 rfl) ?_
    refine kq_callI (As := [.int a2]) (rest := []) (n := 1) (q := (RX7, TX7, 9)) (ci := 7) (mc := 0) (ms := 0) ⟨hx, hb, hml, hown, hts⟩ (c_X7_isRow l E L σ x a2) gX7_copy_X7_isRow rfl (by decide +kernel) ⟨Nat.le_of_ble_eq_true rfl, Nat.le_of_ble_eq_true rfl⟩ hK hw hL_x hS_x rfl rfl hl.1 rfl (Nat.le_of_ble_eq_true rfl) dX7_copy_10 rfl rfl ⟨Nat.le_of_ble_eq_true rfl, Nat.le_of_ble_eq_true rfl⟩ (fun r3 Lv σv H locs hp hw => ?_)
    obtain ⟨er3, rfl, rfl⟩ := hp
    refine lv_if_ne (tgt := 19) hx hb dX7_copy_13 (by decide) (fun c4 => ?_) (fun c4 => ?_)
    · skip
      obtain ⟨hlo_a2, hhi_a2⟩ := sp_isRow_1 (a := a2) (by rw [← er3]; exact c4)
      refine lv_aload_n hx hb dX7_copy_19 rfl (lv_at hl 0 rfl) ?_
      refine kq_get (ci := 7) (v := .ref ro) (C := RX7) (T := TX7) (N := 9) hx hb hts (by decide +kernel) hown hK hw hL_x hS_x rfl 0 (by decide) (hts (.fieldLink RX7 11 "WrongWord" "rows" "[LWrongWord$Row;") (by decide +kernel)) rfl dX7_copy_20 ?_
      refine lv_iload_n hx hb dX7_copy_23 rfl (lv_at hl 1 rfl) ?_
      have hin_a0 : vp_in a0 8 := kq_in hlo_a0 (n := 8) (by decide) hhi_a0
      have hlt_r : a0.toNatClampNeg < 8 := Nat.not_le.mp fun h9 => hin_a0 (Or.inr h9)
      obtain ⟨r, it_r, fz_r, hr_r, hL_r, hS_r, hL_it_r, hS_it_r⟩ := hRw _ hlt_r
      refine kq_aldq hx hb hK hw hL_ro 4 rfl hS_ro hin_a0 hr_r dX7_copy_24 ?_
      refine lv_astore (lv' := [(6, .ref r), (0, .ref x), (1, .int a0), (2, .int a1), (3, .int a2), (4, .int a3), (5, .int a4)]) hx hb dX7_copy_25 hl (by decide) rfl (fun ls hl => ?_)
      refine lv_aload_n hx hb dX7_copy_27 rfl (lv_at hl 1 rfl) ?_
      refine kq_get (ci := 7) (v := .ref ro) (C := RX7) (T := TX7) (N := 9) hx hb hts (by decide +kernel) hown hK hw hL_x hS_x rfl 0 (by decide) (hts (.fieldLink RX7 11 "WrongWord" "rows" "[LWrongWord$Row;") (by decide +kernel)) rfl dX7_copy_28 ?_
      refine lv_iload_n hx hb dX7_copy_31 rfl (lv_at hl 4 rfl) ?_
      have hin_a2 : vp_in a2 8 := kq_in hlo_a2 (n := 8) (by decide) hhi_a2
      have hlt_r2 : a2.toNatClampNeg < 8 := Nat.not_le.mp fun h9 => hin_a2 (Or.inr h9)
      obtain ⟨r2, it_r2, fz_r2, hr_r2, hL_r2, hS_r2, hL_it_r2, hS_it_r2⟩ := hRw _ hlt_r2
      refine kq_aldq hx hb hK hw hL_ro 4 rfl hS_ro hin_a2 hr_r2 dX7_copy_32 ?_
      refine lv_astore (lv' := [(7, .ref r2), (6, .ref r), (0, .ref x), (1, .int a0), (2, .int a1), (3, .int a2), (4, .int a3), (5, .int a4)]) hx hb dX7_copy_33 hl (by decide) rfl (fun ls hl => ?_)
      refine lv_aload hx hb dX7_copy_35 (lv_at hl 1 rfl) ?_
      refine kq_get (ci := 5) (v := .int ((-1))) (C := RX5) (T := TX5) (N := 3) hx hb hts (by decide +kernel) hown hK hw hL_r hS_r rfl 1 (by decide) (hts (.fieldLink RX7 78 "WrongWord$Row" "lane" "I") (by decide +kernel)) rfl dX7_copy_37 ?_
      refine lv_iconst (v := (-1)) hx hb dX7_copy_40 (by decide) ?_
      refine lv_icmp_eq (tgt := 53) hx hb dX7_copy_41 (by decide) (fun c5 => ?_) (fun c5 => ?_)
      · skip
        refine lv_aload_n hx hb dX7_copy_53 rfl (lv_at hl 2 rfl) ?_
        refine lv_iconst (v := 1) hx hb dX7_copy_54 (by decide) ?_
        refine kq_callI (As := [.int 1]) (rest := []) (n := 1) (q := (RX7, TX7, 9)) (ci := 7) (mc := 0) (ms := 0) ⟨hx, hb, hml, hown, hts⟩ (c_X7_found l E L σ 1 hL_x hS_x) gX7_copy_X7_found rfl (by decide +kernel) ⟨Nat.le_of_ble_eq_true rfl, Nat.le_of_ble_eq_true rfl⟩ hK hw hL_x hS_x rfl rfl hl.1 rfl (Nat.le_of_ble_eq_true rfl) dX7_copy_55 rfl rfl ⟨Nat.le_of_ble_eq_true rfl, Nat.le_of_ble_eq_true rfl⟩ (fun r6 Lv σv H locs hp hw => ?_)
        obtain ⟨er6, rfl, er69⟩ := hp
        exact kq_iret hx hb hr hlocks hw (Nat.le_of_ble_eq_true rfl) (Nat.le_of_ble_eq_true rfl) dX7_copy_58 (by rw [er6]; unfold sp_copy; simp [hlo_a0, hhi_a0, hlo_a2, hhi_a2, c2, c4, c5])
      · skip
        exact absurd (by decide) c5
    · skip
      have hz_a2 : a2 < 0 ∨ 8 ≤ a2 := sp_isRow_0 (by rw [← er3]; exact c4)
      refine lv_ldc (v := (-1000001)) hx hb hown (hts (.constant RX7 59 (-1000001)) (by decide +kernel)) dX7_copy_16 ?_
      exact kq_iret hx hb hr hlocks hw (Nat.le_of_ble_eq_true rfl) (Nat.le_of_ble_eq_true rfl) dX7_copy_18 (by unfold sp_copy; simp [hlo_a0, hhi_a0, hz_a2, c2, c4])
abbrev rmX5_make : Room := { frames := 0, cells := 0, slots := 0, locals := 0 }
set_option maxHeartbeats 4000000 in
set_option maxRecDepth 100000 in
theorem c_X5_make (l : Launch) (E : kq_T) (L : List Nat) (σ : Nat → va_E) {r it : Nat} {la sz : Int32} {fz : Nat → Int32} (a b : Int32) (hL_r : r ∈ L) (hS_r : σ r = .inr (5, [.ref it, .int la, .int sz])) (hL_it : it ∈ L) (hS_it : σ it = .inl (E.2 0, 40, .inl fz)) : kq_V l E yX5_make wsX5_make rmX5_make [.ref r, .int a, .int b] L σ (fun L1 σ1 => L = L1 ∧ ∀ b, b ≠ r → b ≠ it → σ1 b = σ b) := by
  have hne : r ≠ it := kq_ne hS_r hS_it kq_noa
  refine kq_enterV (cc := cX5_make) (maxL := 4) (ret := none) (by decide) rfl (Nat.le_of_ble_eq_true rfl) rfl ?_
  intro p e s m below meth c A ls C hK hw hl
  obtain ⟨hx, hb, hml, hown, hts, hr, hlocks, hnm⟩ := C
  have hown : s.vm.findClass RX5 = some m.cls := hown
  have hl : lv_has ls 4 [(0, .ref r), (1, .int a), (2, .int b)] := hl
  refine lv_aload_n hx hb dX5_make_0 rfl (lv_at hl 0 rfl) ?_
  refine lv_iload_n hx hb dX5_make_1 rfl (lv_at hl 1 rfl) ?_
  refine kq_put (ci := 5) (v := .int a) (ty := .int) (C := RX5) (T := TX5) (N := 3) (fs' := [.ref it, .int a, .int sz]) hx hb hts (by decide +kernel) tyX5 tyX5_ok nmX5 hown hK hw hL_r hS_r rfl 1 (by decide) (hts (.fieldLink RX5 15 "WrongWord$Row" "lane" "I") (by decide +kernel)) rfl (by decide +kernel) rfl rfl (Nat.le_of_ble_eq_true rfl) rfl dX5_make_2 (fun H locs σ1 eσ1 hw => ?_)
  have nhS_it : σ1 it = .inl (E.2 0, 40, .inl fz) := by rw [eσ1]; exact kq_far (kq_ne hS_it hS_r kq_nao) hS_it
  have nhS_r : σ1 r = .inr (5, [.ref it, .int a, .int sz]) := by rw [eσ1]; exact va_up_self _ _ _
  have hS_it := nhS_it
  have hS_r := nhS_r
  refine lv_aload_n hx hb dX5_make_5 rfl (lv_at hl 0 rfl) ?_
  refine lv_iload_n hx hb dX5_make_6 rfl (lv_at hl 2 rfl) ?_
  refine kq_put (ci := 5) (v := .int b) (ty := .int) (C := RX5) (T := TX5) (N := 3) (fs' := [.ref it, .int a, .int b]) hx hb hts (by decide +kernel) tyX5 tyX5_ok nmX5 hown hK hw hL_r hS_r rfl 2 (by decide) (hts (.fieldLink RX5 19 "WrongWord$Row" "size" "I") (by decide +kernel)) rfl (by decide +kernel) rfl rfl (Nat.le_of_ble_eq_true rfl) rfl dX5_make_7 (fun H locs σ2 eσ2 hw => ?_)
  have nhS_it : σ2 it = .inl (E.2 0, 40, .inl fz) := by rw [eσ2]; exact kq_far (kq_ne hS_it hS_r kq_nao) hS_it
  have nhS_r : σ2 r = .inr (5, [.ref it, .int a, .int b]) := by rw [eσ2]; exact va_up_self _ _ _
  have hS_it := nhS_it
  have hS_r := nhS_r
  refine lv_iconst (v := 0) hx hb dX5_make_10 (by decide) ?_
  refine lv_istore_n (lv' := [(3, .int 0), (0, .ref r), (1, .int a), (2, .int b)]) hx hb dX5_make_11 rfl hl (by decide) rfl (fun ls hl => ?_)
  refine kq_for (nL := 4) 40 (fun i Lv σv => L = Lv ∧ (∀ b, b ≠ it → σv b = σ2 b) ∧ ∃ f, σv it = .inl (E.2 0, 40, .inl f)) (fun i => [(3, .int (nI i)), (0, .ref r), (1, .int a), (2, .int b)]) 0 0 ⟨rfl, fun _ _ => rfl, fz, hS_it⟩ hw hl (fun i Lv σv H locs ls hi hI hw hl ih => ?_) (fun Lv σv H locs ls hI hw hl => ?_)
  · skip
    have hl : lv_has ls 4 [(3, .int (nI i)), (0, .ref r), (1, .int a), (2, .int b)] := hl
    obtain ⟨rfl, hfr9, fz9, hS_it9⟩ := hI
    have hS_it : σv it = .inl (E.2 0, 40, .inl fz9) := hS_it9
    have hS_r9 : σv r = .inr (5, [.ref it, .int a, .int b]) := (hfr9 r hne).trans hS_r
    refine lv_iload_n hx hb dX5_make_12 rfl (lv_at hl 0 rfl) ?_
    refine lv_bipush (v := 40) hx hb dX5_make_13 (by decide) ?_
    refine lv_icmp_ge (tgt := 31) hx hb dX5_make_15 (by decide) (fun c3 => ?_) (fun c3 => ?_)
    · exact absurd c3 (nI_ge hi (by decide))
    refine lv_aload_n hx hb dX5_make_18 rfl (lv_at hl 1 rfl) ?_
    refine kq_get (ci := 5) (v := .ref it) (C := RX5) (T := TX5) (N := 3) hx hb hts (by decide +kernel) hown hK hw hL_r hS_r9 rfl 0 (by decide) (hts (.fieldLink RX5 9 "WrongWord$Row" "items" "[I") (by decide +kernel)) rfl dX5_make_19 ?_
    refine lv_iload_n hx hb dX5_make_22 rfl (lv_at hl 0 rfl) ?_
    refine lv_iconst (v := 0) hx hb dX5_make_23 (by decide) ?_
    refine kq_iast hx hb hK hw hL_it hS_it (vp_in_nI hi (by decide)) dX5_make_24 (fun H locs σ4 eσ4 hw => ?_)
    have nhS_r : σ4 r = .inr (5, [.ref it, .int a, .int b]) := by rw [eσ4]; exact kq_far hne hS_r9
    have nhS_it : σ4 it = .inl (E.2 0, 40, .inl (upd fz9 (Int32.toNatClampNeg (nI i)) 0)) := by rw [eσ4]; exact va_up_self _ _ _
    have hS_r := nhS_r
    have hS_it := nhS_it
    refine lv_iinc (v := nI i + 1) (lv' := [(3, .int (nI i + 1)), (0, .ref r), (1, .int a), (2, .int b)]) hx hb dX5_make_25 hl (k := 0) rfl rfl (by decide) rfl (fun ls hl => ?_)
    refine lv_goto (tgt := 12) hx hb dX5_make_28 (by decide) ?_
    have hl : lv_has ls 4 [(3, .int (nI (i + 1))), (0, .ref r), (1, .int a), (2, .int b)] := by rw [nI_succ]; exact lv_sub hl [0, 1, 2, 3] rfl
    exact W.widen (by omega) (by omega) (ih _ _ _ _ _ ⟨rfl, fun b hb9 => by rw [eσ4, va_up_ne _ _ hb9]; exact hfr9 b hb9, _, hS_it⟩ hw hl)
  · skip
    have hl : lv_has ls 4 [(3, .int (nI 40)), (0, .ref r), (1, .int a), (2, .int b)] := hl
    obtain ⟨rfl, hfr9, fz9, hS_it9⟩ := hI
    refine lv_iload_n hx hb dX5_make_12 rfl (lv_at hl 0 rfl) ?_
    refine lv_bipush (v := 40) hx hb dX5_make_13 (by decide) ?_
    refine lv_icmp_ge (tgt := 31) hx hb dX5_make_15 (by decide) (fun c5 => ?_) (fun c5 => ?_)
    rotate_left
    · exact absurd (by decide) c5
    exact kq_vret hx hb hr hlocks hw (Nat.le_of_ble_eq_true rfl) (Nat.le_of_ble_eq_true rfl) dX5_make_31 ⟨rfl, fun b h0_ h1_ => by rw [hfr9 b h1_, eσ2, va_up_ne _ _ h0_, eσ1, va_up_ne _ _ h0_]⟩
abbrev rmX7_row : Room := { frames := 1, cells := 0, slots := 0, locals := 23 }
set_option maxHeartbeats 4000000 in
set_option maxRecDepth 100000 in
theorem f_X7_row (l : Launch) (E : kq_T) (L : List Nat) (σ : Nat → va_E) {x : Nat} (hF : fr_X E L σ x) (a0 a1 a2 : Int32) : kq_I l E yX7_row wsX7_row rmX7_row [.ref x, .int a0, .int a1, .int a2] L σ (fun r _ _ => r = sp_row a0 a1 a2) := by
  obtain ⟨ro, tp, gt, ac, im, gu, ak, bt, dr, d1, d2, d3, d4, g1, g2, g3, nw, tk, n2, n3, n4, ah, bd, fr, fi, hL_x, hS_x, hL_ro, hS_ro, hL_tp, hS_tp, hL_bt, hS_bt, hL_dr, hS_dr, hL_gt, hS_gt, hL_nw, hS_nw, hL_tk, hS_tk, hL_ac, hS_ac, hL_im, hS_im, hL_ak, hS_ak, hRw, hIm⟩ := hF
  refine kq_enterI (cc := cX7_row) (maxL := 4) (ret := (some .int)) (by decide) rfl (Nat.le_of_ble_eq_true rfl) rfl ?_
  intro p e s m below meth c A ls C hK hw hl
  obtain ⟨hx, hb, hml, hown, hts, hr, hlocks, hnm⟩ := C
  have hown : s.vm.findClass RX7 = some m.cls := hown
  have hl : lv_has ls 4 [(0, .ref x), (1, .int a0), (2, .int a1), (3, .int a2)] := hl
  refine lv_aload_n hx hb dX7_row_0 rfl (lv_at hl 0 rfl) ?_
  refine lv_iload_n hx hb dX7_row_1 rfl (lv_at hl 1 rfl) ?_
  refine kq_callI (As := [.int a0]) (rest := []) (n := 1) (q := (RX7, TX7, 9)) (ci := 7) (mc := 0) (ms := 0) ⟨hx, hb, hml, hown, hts⟩ (c_X7_isRow l E L σ x a0) gX7_row_X7_isRow rfl (by decide +kernel) ⟨Nat.le_of_ble_eq_true rfl, Nat.le_of_ble_eq_true rfl⟩ hK hw hL_x hS_x rfl rfl hl.1 rfl (Nat.le_of_ble_eq_true rfl) dX7_row_2 rfl rfl ⟨Nat.le_of_ble_eq_true rfl, Nat.le_of_ble_eq_true rfl⟩ (fun r1 Lv σv H locs hp hw => ?_)
  obtain ⟨er1, rfl, rfl⟩ := hp
  refine lv_if_eq (tgt := 23) hx hb dX7_row_5 (by decide) (fun c2 => ?_) (fun c2 => ?_)
  · skip
    have hz_a0 : a0 < 0 ∨ 8 ≤ a0 := sp_isRow_0 (by rw [← er1]; exact c2)
    refine lv_ldc (v := (-1000001)) hx hb hown (hts (.constant RX7 59 (-1000001)) (by decide +kernel)) dX7_row_23 ?_
    exact kq_iret hx hb hr hlocks hw (Nat.le_of_ble_eq_true rfl) (Nat.le_of_ble_eq_true rfl) dX7_row_25 (by unfold sp_row; simp [hz_a0, c2])
  · skip
    obtain ⟨hlo_a0, hhi_a0⟩ := sp_isRow_1 (a := a0) (by rw [← er1]; exact c2)
    refine lv_iload_n hx hb dX7_row_8 rfl (lv_at hl 2 rfl) ?_
    refine lv_if_lt (tgt := 23) hx hb dX7_row_9 (by decide) (fun c3 => ?_) (fun c3 => ?_)
    · skip
      refine lv_ldc (v := (-1000001)) hx hb hown (hts (.constant RX7 59 (-1000001)) (by decide +kernel)) dX7_row_23 ?_
      exact kq_iret hx hb hr hlocks hw (Nat.le_of_ble_eq_true rfl) (Nat.le_of_ble_eq_true rfl) dX7_row_25 (by unfold sp_row; simp [hlo_a0, hhi_a0, c2, c3, kq_nle c3])
    · skip
      refine lv_iload_n hx hb dX7_row_12 rfl (lv_at hl 2 rfl) ?_
      refine lv_iconst (v := 2) hx hb dX7_row_13 (by decide) ?_
      refine lv_icmp_gt (tgt := 23) hx hb dX7_row_14 (by decide) (fun c4 => ?_) (fun c4 => ?_)
      · skip
        refine lv_ldc (v := (-1000001)) hx hb hown (hts (.constant RX7 59 (-1000001)) (by decide +kernel)) dX7_row_23 ?_
        exact kq_iret hx hb hr hlocks hw (Nat.le_of_ble_eq_true rfl) (Nat.le_of_ble_eq_true rfl) dX7_row_25 (by unfold sp_row; simp [hlo_a0, hhi_a0, c2, c3, Int32.not_lt.mp c3, c4, kq_nle c4])
      · skip
        refine lv_iload_n hx hb dX7_row_17 rfl (lv_at hl 3 rfl) ?_
        refine lv_bipush (v := 40) hx hb dX7_row_18 (by decide) ?_
        refine lv_icmp_le (tgt := 26) hx hb dX7_row_20 (by decide) (fun c5 => ?_) (fun c5 => ?_)
        · skip
          refine lv_iload_n hx hb dX7_row_26 rfl (lv_at hl 3 rfl) ?_
          refine lv_if_ge (tgt := 36) hx hb dX7_row_27 (by decide) (fun c6 => ?_) (fun c6 => ?_)
          · skip
            refine lv_aload_n hx hb dX7_row_36 rfl (lv_at hl 0 rfl) ?_
            refine kq_get (ci := 7) (v := .ref ro) (C := RX7) (T := TX7) (N := 9) hx hb hts (by decide +kernel) hown hK hw hL_x hS_x rfl 0 (by decide) (hts (.fieldLink RX7 11 "WrongWord" "rows" "[LWrongWord$Row;") (by decide +kernel)) rfl dX7_row_37 ?_
            refine lv_iload_n hx hb dX7_row_40 rfl (lv_at hl 1 rfl) ?_
            have hin_a0 : vp_in a0 8 := kq_in hlo_a0 (n := 8) (by decide) hhi_a0
            have hlt_r : a0.toNatClampNeg < 8 := Nat.not_le.mp fun h9 => hin_a0 (Or.inr h9)
            obtain ⟨r, it_r, fz_r, hr_r, hL_r, hS_r, hL_it_r, hS_it_r⟩ := hRw _ hlt_r
            refine kq_aldq hx hb hK hw hL_ro 4 rfl hS_ro hin_a0 hr_r dX7_row_41 ?_
            refine lv_iload_n hx hb dX7_row_42 rfl (lv_at hl 2 rfl) ?_
            refine lv_iload_n hx hb dX7_row_43 rfl (lv_at hl 3 rfl) ?_
            refine kq_callV (As := [.int a1, .int a2]) (rest := []) (n := 2) (q := (RX5, TX5, 3)) (ci := 5) (mc := 0) (ms := 0) ⟨hx, hb, hml, hown, hts⟩ (c_X5_make l E L σ a1 a2 hL_r hS_r hL_it_r hS_it_r) gX7_row_X5_make rfl (by decide +kernel) ⟨Nat.le_of_ble_eq_true rfl, Nat.le_of_ble_eq_true rfl⟩ hK hw hL_r hS_r rfl rfl hl.1 rfl (Nat.le_of_ble_eq_true rfl) dX7_row_44 rfl rfl ⟨Nat.le_of_ble_eq_true rfl, Nat.le_of_ble_eq_true rfl⟩ (fun Lv σ7 H locs hp hw => ?_)
            obtain ⟨rfl, hfrσ7⟩ := hp
            have hS_x : σ7 x = .inr (7, [.ref ro, .ref tp, .ref gt, .ref ac, .ref im, .ref gu, .ref ak, .int 0, .int 0]) := (hfrσ7 x (kq_ne hS_x hS_r (kq_noo (by decide))) (kq_ne hS_x hS_it_r kq_noa)).trans hS_x
            refine lv_aload_n hx hb dX7_row_47 rfl (lv_at hl 0 rfl) ?_
            refine lv_iload_n hx hb dX7_row_48 rfl (lv_at hl 3 rfl) ?_
            refine kq_callI (As := [.int a2]) (rest := []) (n := 1) (q := (RX7, TX7, 9)) (ci := 7) (mc := 0) (ms := 0) ⟨hx, hb, hml, hown, hts⟩ (c_X7_unfound l E L σ7 a2 hL_x hS_x) gX7_row_X7_unfound rfl (by decide +kernel) ⟨Nat.le_of_ble_eq_true rfl, Nat.le_of_ble_eq_true rfl⟩ hK hw hL_x hS_x rfl rfl hl.1 rfl (Nat.le_of_ble_eq_true rfl) dX7_row_49 rfl rfl ⟨Nat.le_of_ble_eq_true rfl, Nat.le_of_ble_eq_true rfl⟩ (fun r8 Lv σv H locs hp hw => ?_)
            obtain ⟨er8, rfl, er89⟩ := hp
            exact kq_iret hx hb hr hlocks hw (Nat.le_of_ble_eq_true rfl) (Nat.le_of_ble_eq_true rfl) dX7_row_52 (by rw [er8]; unfold sp_row; simp [hlo_a0, hhi_a0, c2, c3, Int32.not_lt.mp c3, c4, Int32.not_lt.mp c4, c5, Int32.not_lt.mpr c5, c6, Int32.not_lt.mpr c6])
          · skip
            refine lv_aload_n hx hb dX7_row_30 rfl (lv_at hl 0 rfl) ?_
            refine lv_iconst (v := 4) hx hb dX7_row_31 (by decide) ?_
            refine kq_callI (As := [.int 4]) (rest := []) (n := 1) (q := (RX7, TX7, 9)) (ci := 7) (mc := 0) (ms := 0) ⟨hx, hb, hml, hown, hts⟩ (c_X7_found l E L σ 4 hL_x hS_x) gX7_row_X7_found rfl (by decide +kernel) ⟨Nat.le_of_ble_eq_true rfl, Nat.le_of_ble_eq_true rfl⟩ hK hw hL_x hS_x rfl rfl hl.1 rfl (Nat.le_of_ble_eq_true rfl) dX7_row_32 rfl rfl ⟨Nat.le_of_ble_eq_true rfl, Nat.le_of_ble_eq_true rfl⟩ (fun r9 Lv σv H locs hp hw => ?_)
            obtain ⟨er9, rfl, er99⟩ := hp
            exact kq_iret hx hb hr hlocks hw (Nat.le_of_ble_eq_true rfl) (Nat.le_of_ble_eq_true rfl) dX7_row_35 (by rw [er9]; unfold sp_row; simp [hlo_a0, hhi_a0, c2, c3, Int32.not_lt.mp c3, c4, Int32.not_lt.mp c4, c5, Int32.not_lt.mpr c5, c6, Int32.not_le.mp c6])
        · skip
          refine lv_ldc (v := (-1000001)) hx hb hown (hts (.constant RX7 59 (-1000001)) (by decide +kernel)) dX7_row_23 ?_
          exact kq_iret hx hb hr hlocks hw (Nat.le_of_ble_eq_true rfl) (Nat.le_of_ble_eq_true rfl) dX7_row_25 (by unfold sp_row; simp [hlo_a0, hhi_a0, c2, c3, Int32.not_lt.mp c3, c4, Int32.not_lt.mp c4, c5, Int32.not_le.mp c5])
abbrev rmX7_rowsThere : Room := { frames := 0, cells := 0, slots := 0, locals := 0 }
set_option maxHeartbeats 4000000 in
set_option maxRecDepth 100000 in
theorem c_X7_rowsThere (l : Launch) (E : kq_T) (L : List Nat) (σ : Nat → va_E) {x : Nat} (hF : fr_X E L σ x) : kq_I l E yX7_rowsThere wsX7_rowsThere rmX7_rowsThere [.ref x] L σ (fun r L1 σ1 => r = 0 ∧ L = L1 ∧ σ = σ1) := by
  obtain ⟨ro, tp, gt, ac, im, gu, ak, bt, dr, d1, d2, d3, d4, g1, g2, g3, nw, tk, n2, n3, n4, ah, bd, fr, fi, hL_x, hS_x, hL_ro, hS_ro, hL_tp, hS_tp, hL_bt, hS_bt, hL_dr, hS_dr, hL_gt, hS_gt, hL_nw, hS_nw, hL_tk, hS_tk, hL_ac, hS_ac, hL_im, hS_im, hL_ak, hS_ak, hRw, hIm⟩ := hF
  refine kq_enterI (cc := cX7_rowsThere) (maxL := 3) (ret := (some .int)) (by decide) rfl (Nat.le_of_ble_eq_true rfl) rfl ?_
  intro p e s m below meth c A ls C hK hw hl
  obtain ⟨hx, hb, hml, hown, hts, hr, hlocks, hnm⟩ := C
  have hown : s.vm.findClass RX7 = some m.cls := hown
  have hl : lv_has ls 3 [(0, .ref x)] := hl
  refine lv_iconst (v := 0) hx hb dX7_rowsThere_0 (by decide) ?_
  refine lv_istore_n (lv' := [(1, .int 0), (0, .ref x)]) hx hb dX7_rowsThere_1 rfl hl (by decide) rfl (fun ls hl => ?_)
  refine lv_iconst (v := 0) hx hb dX7_rowsThere_2 (by decide) ?_
  refine lv_istore_n (lv' := [(2, .int 0), (1, .int 0), (0, .ref x)]) hx hb dX7_rowsThere_3 rfl hl (by decide) rfl (fun ls hl => ?_)
  refine kq_for (nL := 3) 8 (fun i Lv σv => L = Lv ∧ σ = σv) (fun i => [(2, .int (nI i)), (1, .int 0), (0, .ref x)]) 0 0 ⟨rfl, rfl⟩ hw hl (fun i Lv σv H locs ls hi hI hw hl ih => ?_) (fun Lv σv H locs ls hI hw hl => ?_)
  · skip
    have hl : lv_has ls 3 [(2, .int (nI i)), (1, .int 0), (0, .ref x)] := hl
    obtain ⟨rfl, rfl⟩ := hI
    refine lv_iload_n hx hb dX7_rowsThere_4 rfl (lv_at hl 0 rfl) ?_
    refine lv_bipush (v := 8) hx hb dX7_rowsThere_5 (by decide) ?_
    refine lv_icmp_ge (tgt := 32) hx hb dX7_rowsThere_7 (by decide) (fun c1 => ?_) (fun c1 => ?_)
    · exact absurd c1 (nI_ge hi (by decide))
    refine lv_aload_n hx hb dX7_rowsThere_10 rfl (lv_at hl 2 rfl) ?_
    refine kq_get (ci := 7) (v := .ref ro) (C := RX7) (T := TX7) (N := 9) hx hb hts (by decide +kernel) hown hK hw hL_x hS_x rfl 0 (by decide) (hts (.fieldLink RX7 11 "WrongWord" "rows" "[LWrongWord$Row;") (by decide +kernel)) rfl dX7_rowsThere_11 ?_
    refine lv_iload_n hx hb dX7_rowsThere_14 rfl (lv_at hl 0 rfl) ?_
    obtain ⟨r, it_r, fz_r, hr_r, hL_r, hS_r, hL_it_r, hS_it_r⟩ := hRw i hi
    refine kq_aldq hx hb hK hw hL_ro 4 rfl hS_ro (vp_in_nI hi (by decide)) (by rw [nI_clamp (by omega)]; exact hr_r) dX7_rowsThere_15 ?_
    refine kq_get (ci := 5) (v := .int ((-1))) (C := RX5) (T := TX5) (N := 3) hx hb hts (by decide +kernel) hown hK hw hL_r hS_r rfl 1 (by decide) (hts (.fieldLink RX7 78 "WrongWord$Row" "lane" "I") (by decide +kernel)) rfl dX7_rowsThere_16 ?_
    refine lv_iconst (v := (-1)) hx hb dX7_rowsThere_19 (by decide) ?_
    refine lv_icmp_eq (tgt := 26) hx hb dX7_rowsThere_20 (by decide) (fun c2 => ?_) (fun c2 => ?_)
    · skip
      refine lv_iinc (v := nI i + 1) (lv' := [(2, .int (nI i + 1)), (1, .int 0), (0, .ref x)]) hx hb dX7_rowsThere_26 hl (k := 0) rfl rfl (by decide) rfl (fun ls hl => ?_)
      refine lv_goto (tgt := 4) hx hb dX7_rowsThere_29 (by decide) ?_
      have hl : lv_has ls 3 [(2, .int (nI (i + 1))), (1, .int 0), (0, .ref x)] := by rw [nI_succ]; exact lv_sub hl [0, 1, 2] rfl
      exact W.widen (by omega) (by omega) (ih _ _ _ _ _ ⟨rfl, rfl⟩ hw hl)
    · skip
      exact absurd (by decide) c2
  · skip
    have hl : lv_has ls 3 [(2, .int (nI 8)), (1, .int 0), (0, .ref x)] := hl
    obtain ⟨rfl, rfl⟩ := hI
    refine lv_iload_n hx hb dX7_rowsThere_4 rfl (lv_at hl 0 rfl) ?_
    refine lv_bipush (v := 8) hx hb dX7_rowsThere_5 (by decide) ?_
    refine lv_icmp_ge (tgt := 32) hx hb dX7_rowsThere_7 (by decide) (fun c3 => ?_) (fun c3 => ?_)
    rotate_left
    · exact absurd (by decide) c3
    refine lv_iload_n hx hb dX7_rowsThere_32 rfl (lv_at hl 1 rfl) ?_
    exact kq_iret hx hb hr hlocks hw (Nat.le_of_ble_eq_true rfl) (Nat.le_of_ble_eq_true rfl) dX7_rowsThere_33 ⟨rfl, rfl, rfl⟩
abbrev rmX4_tookInAll : Room := { frames := 0, cells := 0, slots := 0, locals := 0 }
set_option maxHeartbeats 4000000 in
set_option maxRecDepth 100000 in
theorem c_X4_tookInAll (l : Launch) (E : kq_T) (L : List Nat) (σ : Nat → va_E) {nw tk n2 n3 n4 : Nat} (hL_nw : nw ∈ L) (hS_nw : σ nw = .inr (4, [.ref tk, .ref n2, .ref n3, .ref n4, .int 0, .int 0, .int 0, .int 0])) (hL_tk : tk ∈ L) (hS_tk : σ tk = .inl (E.2 0, 4, .inl (fun _ => 0))) : kq_I l E yX4_tookInAll wsX4_tookInAll rmX4_tookInAll [.ref nw] L σ (fun r L1 σ1 => r = 0 ∧ L = L1 ∧ σ = σ1) := by
  refine kq_enterI (cc := cX4_tookInAll) (maxL := 3) (ret := (some .int)) (by decide) rfl (Nat.le_of_ble_eq_true rfl) rfl ?_
  intro p e s m below meth c A ls C hK hw hl
  obtain ⟨hx, hb, hml, hown, hts, hr, hlocks, hnm⟩ := C
  have hown : s.vm.findClass RX4 = some m.cls := hown
  have hl : lv_has ls 3 [(0, .ref nw)] := hl
  refine lv_iconst (v := 0) hx hb dX4_tookInAll_0 (by decide) ?_
  refine lv_istore_n (lv' := [(1, .int 0), (0, .ref nw)]) hx hb dX4_tookInAll_1 rfl hl (by decide) rfl (fun ls hl => ?_)
  refine lv_iconst (v := 0) hx hb dX4_tookInAll_2 (by decide) ?_
  refine lv_istore_n (lv' := [(2, .int 0), (1, .int 0), (0, .ref nw)]) hx hb dX4_tookInAll_3 rfl hl (by decide) rfl (fun ls hl => ?_)
  refine kq_for (nL := 3) 4 (fun i Lv σv => L = Lv ∧ σ = σv) (fun i => [(2, .int (nI i)), (1, .int 0), (0, .ref nw)]) 0 0 ⟨rfl, rfl⟩ hw hl (fun i Lv σv H locs ls hi hI hw hl ih => ?_) (fun Lv σv H locs ls hI hw hl => ?_)
  · skip
    have hl : lv_has ls 3 [(2, .int (nI i)), (1, .int 0), (0, .ref nw)] := hl
    obtain ⟨rfl, rfl⟩ := hI
    refine lv_iload_n hx hb dX4_tookInAll_4 rfl (lv_at hl 0 rfl) ?_
    refine lv_iconst (v := 4) hx hb dX4_tookInAll_5 (by decide) ?_
    refine lv_icmp_ge (tgt := 24) hx hb dX4_tookInAll_6 (by decide) (fun c1 => ?_) (fun c1 => ?_)
    · exact absurd c1 (nI_ge hi (by decide))
    refine lv_iload_n hx hb dX4_tookInAll_9 rfl (lv_at hl 1 rfl) ?_
    refine lv_aload_n hx hb dX4_tookInAll_10 rfl (lv_at hl 2 rfl) ?_
    refine kq_get (ci := 4) (v := .ref tk) (C := RX4) (T := TX4) (N := 8) hx hb hts (by decide +kernel) hown hK hw hL_nw hS_nw rfl 0 (by decide) (hts (.fieldLink RX4 9 "WrongWord$Moment" "took" "[I") (by decide +kernel)) rfl dX4_tookInAll_11 ?_
    refine lv_iload_n hx hb dX4_tookInAll_14 rfl (lv_at hl 0 rfl) ?_
    refine kq_iald hx hb hK hw hL_tk hS_tk (vp_in_nI hi (by decide)) dX4_tookInAll_15 ?_
    refine lv_topi (fun v2 ev2 => ?_)
    have ev2 : v2 = 0 := ev2
    subst ev2
    refine lv_iadd hx hb dX4_tookInAll_16 ?_
    refine lv_topi (fun v3 ev3 => ?_)
    have ev3 : v3 = 0 := by rw [ev3]; decide
    subst ev3
    refine lv_istore_n (lv' := [(1, .int 0), (2, .int (nI i)), (0, .ref nw)]) hx hb dX4_tookInAll_17 rfl hl (by decide) rfl (fun ls hl => ?_)
    refine lv_iinc (v := nI i + 1) (lv' := [(2, .int (nI i + 1)), (1, .int 0), (0, .ref nw)]) hx hb dX4_tookInAll_18 hl (k := 1) rfl rfl (by decide) rfl (fun ls hl => ?_)
    refine lv_goto (tgt := 4) hx hb dX4_tookInAll_21 (by decide) ?_
    have hl : lv_has ls 3 [(2, .int (nI (i + 1))), (1, .int 0), (0, .ref nw)] := by rw [nI_succ]; exact lv_sub hl [0, 1, 2] rfl
    exact W.widen (by omega) (by omega) (ih _ _ _ _ _ ⟨rfl, rfl⟩ hw hl)
  · skip
    have hl : lv_has ls 3 [(2, .int (nI 4)), (1, .int 0), (0, .ref nw)] := hl
    obtain ⟨rfl, rfl⟩ := hI
    refine lv_iload_n hx hb dX4_tookInAll_4 rfl (lv_at hl 0 rfl) ?_
    refine lv_iconst (v := 4) hx hb dX4_tookInAll_5 (by decide) ?_
    refine lv_icmp_ge (tgt := 24) hx hb dX4_tookInAll_6 (by decide) (fun c4 => ?_) (fun c4 => ?_)
    rotate_left
    · exact absurd (by decide) c4
    refine lv_iload_n hx hb dX4_tookInAll_24 rfl (lv_at hl 1 rfl) ?_
    exact kq_iret hx hb hr hlocks hw (Nat.le_of_ble_eq_true rfl) (Nat.le_of_ble_eq_true rfl) dX4_tookInAll_25 ⟨rfl, rfl, rfl⟩
abbrev rmX7_count : Room := { frames := 1, cells := 0, slots := 0, locals := 22 }
set_option maxHeartbeats 4000000 in
set_option maxRecDepth 100000 in
theorem f_X7_count (l : Launch) (E : kq_T) (L : List Nat) (σ : Nat → va_E) {x : Nat} (hF : fr_X E L σ x) (a0 : Int32) : kq_I l E yX7_count wsX7_count rmX7_count [.ref x, .int a0] L σ (fun r _ _ => r = sp_count a0) := by
  have hF0 := hF
  obtain ⟨ro, tp, gt, ac, im, gu, ak, bt, dr, d1, d2, d3, d4, g1, g2, g3, nw, tk, n2, n3, n4, ah, bd, fr, fi, hL_x, hS_x, hL_ro, hS_ro, hL_tp, hS_tp, hL_bt, hS_bt, hL_dr, hS_dr, hL_gt, hS_gt, hL_nw, hS_nw, hL_tk, hS_tk, hL_ac, hS_ac, hL_im, hS_im, hL_ak, hS_ak, hRw, hIm⟩ := hF
  refine kq_enterI (cc := cX7_count) (maxL := 2) (ret := (some .int)) (by decide) rfl (Nat.le_of_ble_eq_true rfl) rfl ?_
  intro p e s m below meth c A ls C hK hw hl
  obtain ⟨hx, hb, hml, hown, hts, hr, hlocks, hnm⟩ := C
  have hown : s.vm.findClass RX7 = some m.cls := hown
  have hl : lv_has ls 2 [(0, .ref x), (1, .int a0)] := hl
  refine lv_iload_n hx hb dX7_count_0 rfl (lv_at hl 1 rfl) ?_
  by_cases h_out : Int32.toInt a0 < 0 ∨ 9 < Int32.toInt a0
  · skip
    refine lv_tableOut (tgt := 148) hx hb dX7_count_1 h_out (by decide) ?_
    refine lv_ldc (v := (-1000001)) hx hb hown (hts (.constant RX7 59 (-1000001)) (by decide +kernel)) dX7_count_148 ?_
    exact kq_iret hx hb hr hlocks hw (Nat.le_of_ble_eq_true rfl) (Nat.le_of_ble_eq_true rfl) dX7_count_150 (by unfold sp_count; rw [if_pos h_out])
  · skip
    have h_in := not_or.mp h_out
    rcases (show Int32.toInt a0 = 0 ∨ Int32.toInt a0 = 1 ∨ Int32.toInt a0 = 2 ∨ Int32.toInt a0 = 3 ∨ Int32.toInt a0 = 4 ∨ Int32.toInt a0 = 5 ∨ Int32.toInt a0 = 6 ∨ Int32.toInt a0 = 7 ∨ Int32.toInt a0 = 8 ∨ Int32.toInt a0 = 9 by omega) with h_v | h_v | h_v | h_v | h_v | h_v | h_v | h_v | h_v | h_v
    · skip
      refine lv_tableIn (tgt := 56) (off := 55) hx hb dX7_count_1 h_in.1 h_in.2 (by rw [h_v]; rfl) (by decide) ?_
      refine lv_aload_n hx hb dX7_count_56 rfl (lv_at hl 0 rfl) ?_
      refine kq_callI (As := []) (rest := []) (n := 0) (q := (RX7, TX7, 9)) (ci := 7) (mc := 0) (ms := 0) ⟨hx, hb, hml, hown, hts⟩ (c_X7_rowsThere l E L σ hF0) gX7_count_X7_rowsThere rfl (by decide +kernel) ⟨Nat.le_of_ble_eq_true rfl, Nat.le_of_ble_eq_true rfl⟩ hK hw hL_x hS_x rfl rfl hl.1 rfl (Nat.le_of_ble_eq_true rfl) dX7_count_57 rfl rfl ⟨Nat.le_of_ble_eq_true rfl, Nat.le_of_ble_eq_true rfl⟩ (fun r1 Lv σv H locs hp hw => ?_)
      obtain ⟨er1, rfl, rfl⟩ := hp
      have er1 : r1 = 0 := er1
      subst er1
      exact kq_iret hx hb hr hlocks hw (Nat.le_of_ble_eq_true rfl) (Nat.le_of_ble_eq_true rfl) dX7_count_60 (by unfold sp_count; rw [if_neg h_out])
    · skip
      refine lv_tableIn (tgt := 61) (off := 60) hx hb dX7_count_1 h_in.1 h_in.2 (by rw [h_v]; rfl) (by decide) ?_
      refine lv_aload_n hx hb dX7_count_61 rfl (lv_at hl 0 rfl) ?_
      refine kq_get (ci := 7) (v := .ref gt) (C := RX7) (T := TX7) (N := 9) hx hb hts (by decide +kernel) hown hK hw hL_x hS_x rfl 2 (by decide) (hts (.fieldLink RX7 25 "WrongWord" "gate" "LWrongWord$Gate;") (by decide +kernel)) rfl dX7_count_62 ?_
      refine kq_get (ci := 2) (v := .int 0) (C := RX2) (T := TX2) (N := 8) hx hb hts (by decide +kernel) hown hK hw hL_gt hS_gt rfl 6 (by decide) (hts (.fieldLink RX7 130 "WrongWord$Gate" "words" "I") (by decide +kernel)) rfl dX7_count_65 ?_
      exact kq_iret hx hb hr hlocks hw (Nat.le_of_ble_eq_true rfl) (Nat.le_of_ble_eq_true rfl) dX7_count_68 (by unfold sp_count; rw [if_neg h_out])
    · skip
      refine lv_tableIn (tgt := 69) (off := 68) hx hb dX7_count_1 h_in.1 h_in.2 (by rw [h_v]; rfl) (by decide) ?_
      refine lv_aload_n hx hb dX7_count_69 rfl (lv_at hl 0 rfl) ?_
      refine kq_get (ci := 7) (v := .ref gt) (C := RX7) (T := TX7) (N := 9) hx hb hts (by decide +kernel) hown hK hw hL_x hS_x rfl 2 (by decide) (hts (.fieldLink RX7 25 "WrongWord" "gate" "LWrongWord$Gate;") (by decide +kernel)) rfl dX7_count_70 ?_
      refine kq_get (ci := 2) (v := .int 0) (C := RX2) (T := TX2) (N := 8) hx hb hts (by decide +kernel) hown hK hw hL_gt hS_gt rfl 7 (by decide) (hts (.fieldLink RX7 327 "WrongWord$Gate" "guards" "I") (by decide +kernel)) rfl dX7_count_73 ?_
      exact kq_iret hx hb hr hlocks hw (Nat.le_of_ble_eq_true rfl) (Nat.le_of_ble_eq_true rfl) dX7_count_76 (by unfold sp_count; rw [if_neg h_out])
    · skip
      refine lv_tableIn (tgt := 77) (off := 76) hx hb dX7_count_1 h_in.1 h_in.2 (by rw [h_v]; rfl) (by decide) ?_
      refine lv_aload_n hx hb dX7_count_77 rfl (lv_at hl 0 rfl) ?_
      refine kq_get (ci := 7) (v := .ref gt) (C := RX7) (T := TX7) (N := 9) hx hb hts (by decide +kernel) hown hK hw hL_x hS_x rfl 2 (by decide) (hts (.fieldLink RX7 25 "WrongWord" "gate" "LWrongWord$Gate;") (by decide +kernel)) rfl dX7_count_78 ?_
      refine kq_get (ci := 2) (v := .ref nw) (C := RX2) (T := TX2) (N := 8) hx hb hts (by decide +kernel) hown hK hw hL_gt hS_gt rfl 3 (by decide) (hts (.fieldLink RX7 137 "WrongWord$Gate" "now" "LWrongWord$Moment;") (by decide +kernel)) rfl dX7_count_81 ?_
      refine kq_get (ci := 4) (v := .int 0) (C := RX4) (T := TX4) (N := 8) hx hb hts (by decide +kernel) hown hK hw hL_nw hS_nw rfl 4 (by decide) (hts (.fieldLink RX7 141 "WrongWord$Moment" "night" "I") (by decide +kernel)) rfl dX7_count_84 ?_
      exact kq_iret hx hb hr hlocks hw (Nat.le_of_ble_eq_true rfl) (Nat.le_of_ble_eq_true rfl) dX7_count_87 (by unfold sp_count; rw [if_neg h_out])
    · skip
      refine lv_tableIn (tgt := 88) (off := 87) hx hb dX7_count_1 h_in.1 h_in.2 (by rw [h_v]; rfl) (by decide) ?_
      refine lv_aload_n hx hb dX7_count_88 rfl (lv_at hl 0 rfl) ?_
      refine kq_get (ci := 7) (v := .ref gt) (C := RX7) (T := TX7) (N := 9) hx hb hts (by decide +kernel) hown hK hw hL_x hS_x rfl 2 (by decide) (hts (.fieldLink RX7 25 "WrongWord" "gate" "LWrongWord$Gate;") (by decide +kernel)) rfl dX7_count_89 ?_
      refine kq_get (ci := 2) (v := .ref nw) (C := RX2) (T := TX2) (N := 8) hx hb hts (by decide +kernel) hown hK hw hL_gt hS_gt rfl 3 (by decide) (hts (.fieldLink RX7 137 "WrongWord$Gate" "now" "LWrongWord$Moment;") (by decide +kernel)) rfl dX7_count_92 ?_
      refine kq_get (ci := 4) (v := .int 0) (C := RX4) (T := TX4) (N := 8) hx hb hts (by decide +kernel) hown hK hw hL_nw hS_nw rfl 7 (by decide) (hts (.fieldLink RX7 162 "WrongWord$Moment" "tries" "I") (by decide +kernel)) rfl dX7_count_95 ?_
      exact kq_iret hx hb hr hlocks hw (Nat.le_of_ble_eq_true rfl) (Nat.le_of_ble_eq_true rfl) dX7_count_98 (by unfold sp_count; rw [if_neg h_out])
    · skip
      refine lv_tableIn (tgt := 99) (off := 98) hx hb dX7_count_1 h_in.1 h_in.2 (by rw [h_v]; rfl) (by decide) ?_
      refine lv_aload_n hx hb dX7_count_99 rfl (lv_at hl 0 rfl) ?_
      refine kq_get (ci := 7) (v := .ref gt) (C := RX7) (T := TX7) (N := 9) hx hb hts (by decide +kernel) hown hK hw hL_x hS_x rfl 2 (by decide) (hts (.fieldLink RX7 25 "WrongWord" "gate" "LWrongWord$Gate;") (by decide +kernel)) rfl dX7_count_100 ?_
      refine kq_get (ci := 2) (v := .ref nw) (C := RX2) (T := TX2) (N := 8) hx hb hts (by decide +kernel) hown hK hw hL_gt hS_gt rfl 3 (by decide) (hts (.fieldLink RX7 137 "WrongWord$Gate" "now" "LWrongWord$Moment;") (by decide +kernel)) rfl dX7_count_103 ?_
      refine kq_get (ci := 4) (v := .int 0) (C := RX4) (T := TX4) (N := 8) hx hb hts (by decide +kernel) hown hK hw hL_nw hS_nw rfl 6 (by decide) (hts (.fieldLink RX7 190 "WrongWord$Moment" "there" "I") (by decide +kernel)) rfl dX7_count_106 ?_
      exact kq_iret hx hb hr hlocks hw (Nat.le_of_ble_eq_true rfl) (Nat.le_of_ble_eq_true rfl) dX7_count_109 (by unfold sp_count; rw [if_neg h_out])
    · skip
      refine lv_tableIn (tgt := 110) (off := 109) hx hb dX7_count_1 h_in.1 h_in.2 (by rw [h_v]; rfl) (by decide) ?_
      refine lv_aload_n hx hb dX7_count_110 rfl (lv_at hl 0 rfl) ?_
      refine kq_get (ci := 7) (v := .ref ac) (C := RX7) (T := TX7) (N := 9) hx hb hts (by decide +kernel) hown hK hw hL_x hS_x rfl 3 (by decide) (hts (.fieldLink RX7 32 "WrongWord" "acts" "LWrongWord$Acts;") (by decide +kernel)) rfl dX7_count_111 ?_
      refine kq_get (ci := 0) (v := .int 0) (C := RX0) (T := TX0) (N := 3) hx hb hts (by decide +kernel) hown hK hw hL_ac hS_ac rfl 2 (by decide) (hts (.fieldLink RX7 197 "WrongWord$Acts" "kept" "I") (by decide +kernel)) rfl dX7_count_114 ?_
      exact kq_iret hx hb hr hlocks hw (Nat.le_of_ble_eq_true rfl) (Nat.le_of_ble_eq_true rfl) dX7_count_117 (by unfold sp_count; rw [if_neg h_out])
    · skip
      refine lv_tableIn (tgt := 118) (off := 117) hx hb dX7_count_1 h_in.1 h_in.2 (by rw [h_v]; rfl) (by decide) ?_
      refine lv_aload_n hx hb dX7_count_118 rfl (lv_at hl 0 rfl) ?_
      refine kq_get (ci := 7) (v := .ref tp) (C := RX7) (T := TX7) (N := 9) hx hb hts (by decide +kernel) hown hK hw hL_x hS_x rfl 1 (by decide) (hts (.fieldLink RX7 18 "WrongWord" "tape" "LWrongWord$Tape;") (by decide +kernel)) rfl dX7_count_119 ?_
      refine kq_get (ci := 6) (v := .int 0) (C := RX6) (T := TX6) (N := 7) hx hb hts (by decide +kernel) hown hK hw hL_tp hS_tp rfl 2 (by decide) (hts (.fieldLink RX7 102 "WrongWord$Tape" "length" "I") (by decide +kernel)) rfl dX7_count_122 ?_
      exact kq_iret hx hb hr hlocks hw (Nat.le_of_ble_eq_true rfl) (Nat.le_of_ble_eq_true rfl) dX7_count_125 (by unfold sp_count; rw [if_neg h_out])
    · skip
      refine lv_tableIn (tgt := 126) (off := 125) hx hb dX7_count_1 h_in.1 h_in.2 (by rw [h_v]; rfl) (by decide) ?_
      refine lv_aload_n hx hb dX7_count_126 rfl (lv_at hl 0 rfl) ?_
      refine kq_get (ci := 7) (v := .ref gt) (C := RX7) (T := TX7) (N := 9) hx hb hts (by decide +kernel) hown hK hw hL_x hS_x rfl 2 (by decide) (hts (.fieldLink RX7 25 "WrongWord" "gate" "LWrongWord$Gate;") (by decide +kernel)) rfl dX7_count_127 ?_
      refine kq_get (ci := 2) (v := .ref nw) (C := RX2) (T := TX2) (N := 8) hx hb hts (by decide +kernel) hown hK hw hL_gt hS_gt rfl 3 (by decide) (hts (.fieldLink RX7 137 "WrongWord$Gate" "now" "LWrongWord$Moment;") (by decide +kernel)) rfl dX7_count_130 ?_
      refine kq_get (ci := 4) (v := .int 0) (C := RX4) (T := TX4) (N := 8) hx hb hts (by decide +kernel) hown hK hw hL_nw hS_nw rfl 5 (by decide) (hts (.fieldLink RX7 184 "WrongWord$Moment" "start" "I") (by decide +kernel)) rfl dX7_count_133 ?_
      exact kq_iret hx hb hr hlocks hw (Nat.le_of_ble_eq_true rfl) (Nat.le_of_ble_eq_true rfl) dX7_count_136 (by unfold sp_count; rw [if_neg h_out])
    · skip
      refine lv_tableIn (tgt := 137) (off := 136) hx hb dX7_count_1 h_in.1 h_in.2 (by rw [h_v]; rfl) (by decide) ?_
      refine lv_aload_n hx hb dX7_count_137 rfl (lv_at hl 0 rfl) ?_
      refine kq_get (ci := 7) (v := .ref gt) (C := RX7) (T := TX7) (N := 9) hx hb hts (by decide +kernel) hown hK hw hL_x hS_x rfl 2 (by decide) (hts (.fieldLink RX7 25 "WrongWord" "gate" "LWrongWord$Gate;") (by decide +kernel)) rfl dX7_count_138 ?_
      refine kq_get (ci := 2) (v := .ref nw) (C := RX2) (T := TX2) (N := 8) hx hb hts (by decide +kernel) hown hK hw hL_gt hS_gt rfl 3 (by decide) (hts (.fieldLink RX7 137 "WrongWord$Gate" "now" "LWrongWord$Moment;") (by decide +kernel)) rfl dX7_count_141 ?_
      refine kq_callI (As := []) (rest := []) (n := 0) (q := (RX4, TX4, 8)) (ci := 4) (mc := 0) (ms := 0) ⟨hx, hb, hml, hown, hts⟩ (c_X4_tookInAll l E L σ hL_nw hS_nw hL_tk hS_tk) gX7_count_X4_tookInAll rfl (by decide +kernel) ⟨Nat.le_of_ble_eq_true rfl, Nat.le_of_ble_eq_true rfl⟩ hK hw hL_nw hS_nw rfl rfl hl.1 rfl (Nat.le_of_ble_eq_true rfl) dX7_count_144 rfl rfl ⟨Nat.le_of_ble_eq_true rfl, Nat.le_of_ble_eq_true rfl⟩ (fun r2 Lv σv H locs hp hw => ?_)
      obtain ⟨er2, rfl, rfl⟩ := hp
      have er2 : r2 = 0 := er2
      subst er2
      exact kq_iret hx hb hr hlocks hw (Nat.le_of_ble_eq_true rfl) (Nat.le_of_ble_eq_true rfl) dX7_count_147 (by unfold sp_count; rw [if_neg h_out])
